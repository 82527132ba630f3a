abbrev rm_X10_shifts : Room := { frames := 0, cells := 0, slots := 0, locals := 0 }
set_option maxHeartbeats 4000000 in
set_option maxRecDepth 100000 in
theorem c_X10_shifts (l : Launch) (D : va_G) (cI cJ cZ : ClassId) (a : Nat → Nat) (sz : Nat) (mm : MS) : Met l yX10_shifts wsX10_shifts rm_X10_shifts (va_Pc [.ref (a 0)] (PU D (tyL cI cJ cZ) (wM a cI cZ mm) sz)) (va_Qi (fun (rz : Int32) (_ : Unit) => rz = shY (mm.2 32) 10) (fun uz => BU D (wM a cI cZ mm) (va_A (wM a cI cZ mm) sz)) (va_A (wM a cI cZ mm) sz)) 0 0 (va_A (wM a cI cZ mm) sz) := by
  refine en (own := RX10) (Qc := fun A => va_Qi (fun (rz : Int32) (_ : Unit) => rz = shY (mm.2 32) 10) (fun uz => BU D (wM a cI cZ mm) A) A) (by decide) rfl (Nat.le_of_ble_eq_true rfl) rfl ?_
  intro p e s m args below meth c A Q H locs ls hx hb hr hml hown hts hlocks hname hA hN hE hK hQ hP hD hS hl
  have hl : lv_has ls 3 [(0, .ref (a 0))] := hl
  have fl_62 := hts (.fieldLink RX10 62 "DanceStaffsModel" "weights" "[I") (by decide +kernel)
  have hin_10 : ∀ w ∈ u_ws RX10 TX10 37, w ∈ wsX10_shifts := by decide +kernel
  refine lv_iconst (v := 0) hx hb dX10_shifts_0 (by decide) ?_
  refine lv_istore_n (lv' := [(1, .int 0), (0, .ref (a 0))]) hx hb dX10_shifts_1 rfl hl (by decide) rfl (fun ls hl => ?_)
  refine lv_iconst (v := 1) hx hb dX10_shifts_2 (by decide) ?_
  refine lv_istore_n (lv' := [(2, .int 1), (1, .int 0), (0, .ref (a 0))]) hx hb dX10_shifts_3 rfl hl (by decide) rfl (fun ls hl => ?_)
  have LB_4 : ∀ (n : Nat) (j : Nat) (hn_j : 10 < j + n) (hi_j : j ≤ 10) (H : Heap) (locs : List Loc) (_ : va_P D vwCl ([(a 0, .inr (10, [.int (mm.1 0), .ref (a 1), .ref (a 2), .ref (a 3), .ref (a 4), .int (mm.1 5), .int (mm.1 6), .ref (a 7), .int (mm.1 8), .ref (a 9), .ref (a 10), .ref (a 11), .ref (a 12), .int (mm.1 13), .ref (a 14), .int (mm.1 15), .int (mm.1 16), .int (mm.1 17), .int (mm.1 18), .int (mm.1 19), .int (mm.1 20), .ref (a 21), .ref (a 22), .ref (a 23), .ref (a 24), .int (mm.1 25), .int (mm.1 26), .int (mm.1 27), .int (mm.1 28), .ref (a 29), .ref (a 30), .ref (a 31), .ref (a 32), .int (mm.1 33), .ref (a 34), .ref (a 35), .ref (a 36)])), (a 1, .inl (cI, 3, .inl (mm.2 1))), (a 2, .inl (cI, 3, .inl (mm.2 2))), (a 3, .inl (cI, 3, .inl (mm.2 3))), (a 4, .inl (cI, 33, .inl (mm.2 4))), (a 7, .inl (cI, 330, .inl (mm.2 7))), (a 9, .inl (cI, 6, .inl (mm.2 9))), (a 10, .inl (cI, 6, .inl (mm.2 10))), (a 11, .inl (cZ, 2, .inl (mm.2 11))), (a 12, .inl (cI, 66, .inl (mm.2 12))), (a 14, .inl (cI, 100, .inl (mm.2 14))), (a 21, .inl (cI, 3, .inl (mm.2 21))), (a 22, .inl (cI, 3, .inl (mm.2 22))), (a 23, .inl (cI, 3, .inl (mm.2 23))), (a 24, .inl (cI, 33, .inl (mm.2 24))), (a 29, .inl (cI, 11, .inl (mm.2 29))), (a 30, .inl (cI, 11, .inl (mm.2 30))), (a 31, .inl (cI, 11, .inl (mm.2 31))), (a 32, .inl (cI, 11, .inl (mm.2 32))), (a 34, .inl (cI, 11, .inl (mm.2 34))), (a 35, .inl (cI, 11, .inl (mm.2 35))), (a 36, .inl (cI, 1176, .inl (mm.2 36)))]) H) (_ : va_D A ([(a 0, .inr (10, [.int (mm.1 0), .ref (a 1), .ref (a 2), .ref (a 3), .ref (a 4), .int (mm.1 5), .int (mm.1 6), .ref (a 7), .int (mm.1 8), .ref (a 9), .ref (a 10), .ref (a 11), .ref (a 12), .int (mm.1 13), .ref (a 14), .int (mm.1 15), .int (mm.1 16), .int (mm.1 17), .int (mm.1 18), .int (mm.1 19), .int (mm.1 20), .ref (a 21), .ref (a 22), .ref (a 23), .ref (a 24), .int (mm.1 25), .int (mm.1 26), .int (mm.1 27), .int (mm.1 28), .ref (a 29), .ref (a 30), .ref (a 31), .ref (a 32), .int (mm.1 33), .ref (a 34), .ref (a 35), .ref (a 36)])), (a 1, .inl (cI, 3, .inl (mm.2 1))), (a 2, .inl (cI, 3, .inl (mm.2 2))), (a 3, .inl (cI, 3, .inl (mm.2 3))), (a 4, .inl (cI, 33, .inl (mm.2 4))), (a 7, .inl (cI, 330, .inl (mm.2 7))), (a 9, .inl (cI, 6, .inl (mm.2 9))), (a 10, .inl (cI, 6, .inl (mm.2 10))), (a 11, .inl (cZ, 2, .inl (mm.2 11))), (a 12, .inl (cI, 66, .inl (mm.2 12))), (a 14, .inl (cI, 100, .inl (mm.2 14))), (a 21, .inl (cI, 3, .inl (mm.2 21))), (a 22, .inl (cI, 3, .inl (mm.2 22))), (a 23, .inl (cI, 3, .inl (mm.2 23))), (a 24, .inl (cI, 33, .inl (mm.2 24))), (a 29, .inl (cI, 11, .inl (mm.2 29))), (a 30, .inl (cI, 11, .inl (mm.2 30))), (a 31, .inl (cI, 11, .inl (mm.2 31))), (a 32, .inl (cI, 11, .inl (mm.2 32))), (a 34, .inl (cI, 11, .inl (mm.2 34))), (a 35, .inl (cI, 11, .inl (mm.2 35))), (a 36, .inl (cI, 1176, .inl (mm.2 36)))])) (_ : va_S A s.heap H locs) (ls : Array Slot) (_ : lv_has ls 3 [(0, .ref (a 0)), (1, .int (shY (mm.2 32) j)), (2, .int (nI (j + 1)))]), W p l e rm_X10_shifts s m args below meth c H locs 0 0 Q (F0 m 4 ls []) := by
    intro n
    induction n with
    | zero =>
      intro j hn_j hi_j
      exact absurd hn_j (by omega)
    | succ n LB_4 =>
      intro j hn_j hi_j H locs hP hD hS ls hl
      refine lv_iload_n hx hb dX10_shifts_4 rfl (lv_at hl 2 rfl) ?_
      refine lv_bipush (v := 10) hx hb dX10_shifts_5 (by decide) ?_
      refine lv_icmp_gt (tgt := 41) hx hb dX10_shifts_7 (by decide) (fun c_7 => ?_) (fun c_7 => ?_)
      · have i_7 := i_lt c_7
        rw [(by decide : (10 : Int32).toInt = 10)] at i_7
        rw [nIT (by omega)] at i_7
        have e_7 : j = 10 := by omega
        refine lv_iload_n hx hb dX10_shifts_41 rfl (lv_at hl 1 rfl) ?_
        exact lf_i hx hb hr hlocks hQ () hP hD hS dX10_shifts_42 (by rw [e_7])
      · have i_7 := i_nlt c_7
        rw [(by decide : (10 : Int32).toInt = 10)] at i_7
        rw [nIT (by omega)] at i_7
        refine lv_iload_n hx hb dX10_shifts_10 rfl (lv_at hl 1 rfl) ?_
        refine lv_aload_n hx hb dX10_shifts_11 rfl (lv_at hl 0 rfl) ?_
        refine va_get (D := D) (ci := 10) (v := .ref (a 32)) (C := RX10) (T := TX10) (N := 37) hx hb hts hin_10 hown hK hP 0 rfl rfl 32 (by decide) fl_62 (fun _ h9 => h9) rfl dX10_shifts_12 ?_
        refine lv_iload_n hx hb dX10_shifts_15 rfl (lv_at hl 2 rfl) ?_
        refine va_iald (D := D) (f := (mm.2 32)) hx hb hK hP 18 0 rfl rfl (vp_in_nI (by omega) (by decide)) dX10_shifts_16 ?_
        refine lv_aload_n hx hb dX10_shifts_17 rfl (lv_at hl 0 rfl) ?_
        refine va_get (D := D) (ci := 10) (v := .ref (a 32)) (C := RX10) (T := TX10) (N := 37) hx hb hts hin_10 hown hK hP 0 rfl rfl 32 (by decide) fl_62 (fun _ h9 => h9) rfl dX10_shifts_18 ?_
        refine lv_iload_n hx hb dX10_shifts_21 rfl (lv_at hl 2 rfl) ?_
        refine lv_iconst (v := 1) hx hb dX10_shifts_22 (by decide) ?_
        refine lv_isub hx hb dX10_shifts_23 ?_
        refine va_iald (D := D) (f := (mm.2 32)) hx hb hK hP 18 0 rfl rfl (by rw [show nI (j + 1) - 1 = nI j from nI_pred j]; exact vp_in_nI (by omega) (by decide)) dX10_shifts_24 ?_
        refine lv_icmp_eq (tgt := 32) hx hb dX10_shifts_25 (by decide) (fun c_25 => ?_) (fun c_25 => ?_)
        · have i_25 := i_eq c_25
          refine lv_iconst (v := 0) hx hb dX10_shifts_32 (by decide) ?_
          refine lv_iadd hx hb dX10_shifts_33 ?_
          refine lv_istore_n (lv' := [(1, .int ((shY (mm.2 32) j) + 0)), (0, .ref (a 0)), (2, .int (nI (j + 1)))]) hx hb dX10_shifts_34 rfl hl (by decide) rfl (fun ls hl => ?_)
          refine lv_iinc (v := ((nI (j + 1)) + 1)) (lv' := [(2, .int ((nI (j + 1)) + 1)), (1, .int ((shY (mm.2 32) j) + 0)), (0, .ref (a 0))]) hx hb dX10_shifts_35 hl (k := 2) rfl rfl (by decide) rfl (fun ls hl => ?_)
          rw [show nI (j + 1) + 1 = nI ((j + 1) + 1) from nI_1 _] at hl
          have hl : lv_has ls 3 [(2, .int (nI ((j + 1) + 1))), (1, .int ((shY (mm.2 32) j) + 0)), (0, .ref (a 0))] := hl
          have es_1 : ((shY (mm.2 32) j) + 0) = (shY (mm.2 32) (j + 1)) := by simp only [shY, if_pos c_25, ↓reduceIte, reduceCtorEq]
          have hl : lv_has ls 3 [(2, .int (nI ((j + 1) + 1))), (1, .int (shY (mm.2 32) (j + 1))), (0, .ref (a 0))] := by rw [← es_1]; exact hl
          refine lv_goto (tgt := 4) hx hb dX10_shifts_38 (by decide) ?_
          exact LB_4 (j + 1) (by omega) (by omega) H locs hP hD hS ls (lv_sub hl [2, 1, 0] rfl)
        · have i_25 := i_ne c_25
          refine lv_iconst (v := 1) hx hb dX10_shifts_28 (by decide) ?_
          refine lv_goto (tgt := 33) hx hb dX10_shifts_29 (by decide) ?_
          refine lv_iadd hx hb dX10_shifts_33 ?_
          refine lv_istore_n (lv' := [(1, .int ((shY (mm.2 32) j) + 1)), (0, .ref (a 0)), (2, .int (nI (j + 1)))]) hx hb dX10_shifts_34 rfl hl (by decide) rfl (fun ls hl => ?_)
          refine lv_iinc (v := ((nI (j + 1)) + 1)) (lv' := [(2, .int ((nI (j + 1)) + 1)), (1, .int ((shY (mm.2 32) j) + 1)), (0, .ref (a 0))]) hx hb dX10_shifts_35 hl (k := 2) rfl rfl (by decide) rfl (fun ls hl => ?_)
          rw [show nI (j + 1) + 1 = nI ((j + 1) + 1) from nI_1 _] at hl
          have hl : lv_has ls 3 [(2, .int (nI ((j + 1) + 1))), (1, .int ((shY (mm.2 32) j) + 1)), (0, .ref (a 0))] := hl
          have es_1 : ((shY (mm.2 32) j) + 1) = (shY (mm.2 32) (j + 1)) := by simp only [shY, if_neg c_25, ↓reduceIte, reduceCtorEq]
          have hl : lv_has ls 3 [(2, .int (nI ((j + 1) + 1))), (1, .int (shY (mm.2 32) (j + 1))), (0, .ref (a 0))] := by rw [← es_1]; exact hl
          refine lv_goto (tgt := 4) hx hb dX10_shifts_38 (by decide) ?_
          exact LB_4 (j + 1) (by omega) (by omega) H locs hP hD hS ls (lv_sub hl [2, 1, 0] rfl)
  exact LB_4 (10 + 1) 0 (by omega) (by omega) H locs hP hD hS ls (lv_sub hl [2, 1, 0] rfl)
abbrev rm_X10_home : Room := { frames := 1, cells := 0, slots := 0, locals := 23 }
set_option maxHeartbeats 4000000 in
set_option maxRecDepth 100000 in
theorem c_X10_home (l : Launch) (D : va_G) (cI cJ cZ : ClassId) (a : Nat → Nat) (sz : Nat) (mm : MS) : Met l yX10_home wsX10_home rm_X10_home (va_Pc [.ref (a 0)] (PU D (tyL cI cJ cZ) (wM a cI cZ mm) sz)) (va_Qi (fun (rz : Int32) (_ : Unit) => rz = homY (mm.2 29) (mm.2 30)) (fun uz => BU D (wM a cI cZ mm) (va_A (wM a cI cZ mm) sz)) (va_A (wM a cI cZ mm) sz)) 0 0 (va_A (wM a cI cZ mm) sz) := by
  refine en (own := RX10) (Qc := fun A => va_Qi (fun (rz : Int32) (_ : Unit) => rz = homY (mm.2 29) (mm.2 30)) (fun uz => BU D (wM a cI cZ mm) A) A) (by decide) rfl (Nat.le_of_ble_eq_true rfl) rfl ?_
  intro p e s m args below meth c A Q H locs ls hx hb hr hml hown hts hlocks hname hA hN hE hK hQ hP hD hS hl
  have hl : lv_has ls 4 [(0, .ref (a 0))] := hl
  have fl_53 := hts (.fieldLink RX10 53 "DanceStaffsModel" "xs" "[I") (by decide +kernel)
  have hin_10 : ∀ w ∈ u_ws RX10 TX10 37, w ∈ wsX10_home := by decide +kernel
  have fl_56 := hts (.fieldLink RX10 56 "DanceStaffsModel" "ys" "[I") (by decide +kernel)
  refine lv_iconst (v := 0) hx hb dX10_home_0 (by decide) ?_
  refine lv_istore_n (lv' := [(1, .int 0), (0, .ref (a 0))]) hx hb dX10_home_1 rfl hl (by decide) rfl (fun ls hl => ?_)
  refine lv_iconst (v := 1) hx hb dX10_home_2 (by decide) ?_
  refine lv_istore_n (lv' := [(2, .int 1), (1, .int 0), (0, .ref (a 0))]) hx hb dX10_home_3 rfl hl (by decide) rfl (fun ls hl => ?_)
  have LB_4 : ∀ (n : Nat) (j : Nat) (hn_j : 10 < j + n) (hi_j : j ≤ 10) (hG : hoY (mm.2 29) (mm.2 30) (10 - j) j = homY (mm.2 29) (mm.2 30)) (H : Heap) (locs : List Loc) (_ : va_P D vwCl ([(a 0, .inr (10, [.int (mm.1 0), .ref (a 1), .ref (a 2), .ref (a 3), .ref (a 4), .int (mm.1 5), .int (mm.1 6), .ref (a 7), .int (mm.1 8), .ref (a 9), .ref (a 10), .ref (a 11), .ref (a 12), .int (mm.1 13), .ref (a 14), .int (mm.1 15), .int (mm.1 16), .int (mm.1 17), .int (mm.1 18), .int (mm.1 19), .int (mm.1 20), .ref (a 21), .ref (a 22), .ref (a 23), .ref (a 24), .int (mm.1 25), .int (mm.1 26), .int (mm.1 27), .int (mm.1 28), .ref (a 29), .ref (a 30), .ref (a 31), .ref (a 32), .int (mm.1 33), .ref (a 34), .ref (a 35), .ref (a 36)])), (a 1, .inl (cI, 3, .inl (mm.2 1))), (a 2, .inl (cI, 3, .inl (mm.2 2))), (a 3, .inl (cI, 3, .inl (mm.2 3))), (a 4, .inl (cI, 33, .inl (mm.2 4))), (a 7, .inl (cI, 330, .inl (mm.2 7))), (a 9, .inl (cI, 6, .inl (mm.2 9))), (a 10, .inl (cI, 6, .inl (mm.2 10))), (a 11, .inl (cZ, 2, .inl (mm.2 11))), (a 12, .inl (cI, 66, .inl (mm.2 12))), (a 14, .inl (cI, 100, .inl (mm.2 14))), (a 21, .inl (cI, 3, .inl (mm.2 21))), (a 22, .inl (cI, 3, .inl (mm.2 22))), (a 23, .inl (cI, 3, .inl (mm.2 23))), (a 24, .inl (cI, 33, .inl (mm.2 24))), (a 29, .inl (cI, 11, .inl (mm.2 29))), (a 30, .inl (cI, 11, .inl (mm.2 30))), (a 31, .inl (cI, 11, .inl (mm.2 31))), (a 32, .inl (cI, 11, .inl (mm.2 32))), (a 34, .inl (cI, 11, .inl (mm.2 34))), (a 35, .inl (cI, 11, .inl (mm.2 35))), (a 36, .inl (cI, 1176, .inl (mm.2 36)))]) H) (_ : va_D A ([(a 0, .inr (10, [.int (mm.1 0), .ref (a 1), .ref (a 2), .ref (a 3), .ref (a 4), .int (mm.1 5), .int (mm.1 6), .ref (a 7), .int (mm.1 8), .ref (a 9), .ref (a 10), .ref (a 11), .ref (a 12), .int (mm.1 13), .ref (a 14), .int (mm.1 15), .int (mm.1 16), .int (mm.1 17), .int (mm.1 18), .int (mm.1 19), .int (mm.1 20), .ref (a 21), .ref (a 22), .ref (a 23), .ref (a 24), .int (mm.1 25), .int (mm.1 26), .int (mm.1 27), .int (mm.1 28), .ref (a 29), .ref (a 30), .ref (a 31), .ref (a 32), .int (mm.1 33), .ref (a 34), .ref (a 35), .ref (a 36)])), (a 1, .inl (cI, 3, .inl (mm.2 1))), (a 2, .inl (cI, 3, .inl (mm.2 2))), (a 3, .inl (cI, 3, .inl (mm.2 3))), (a 4, .inl (cI, 33, .inl (mm.2 4))), (a 7, .inl (cI, 330, .inl (mm.2 7))), (a 9, .inl (cI, 6, .inl (mm.2 9))), (a 10, .inl (cI, 6, .inl (mm.2 10))), (a 11, .inl (cZ, 2, .inl (mm.2 11))), (a 12, .inl (cI, 66, .inl (mm.2 12))), (a 14, .inl (cI, 100, .inl (mm.2 14))), (a 21, .inl (cI, 3, .inl (mm.2 21))), (a 22, .inl (cI, 3, .inl (mm.2 22))), (a 23, .inl (cI, 3, .inl (mm.2 23))), (a 24, .inl (cI, 33, .inl (mm.2 24))), (a 29, .inl (cI, 11, .inl (mm.2 29))), (a 30, .inl (cI, 11, .inl (mm.2 30))), (a 31, .inl (cI, 11, .inl (mm.2 31))), (a 32, .inl (cI, 11, .inl (mm.2 32))), (a 34, .inl (cI, 11, .inl (mm.2 34))), (a 35, .inl (cI, 11, .inl (mm.2 35))), (a 36, .inl (cI, 1176, .inl (mm.2 36)))])) (_ : va_S A s.heap H locs) (ls : Array Slot) (_ : lv_has ls 4 [(0, .ref (a 0)), (1, .int (awY (mm.2 29) (mm.2 30) j)), (2, .int (nI (j + 1)))]), W p l e rm_X10_home s m args below meth c H locs 0 0 Q (F0 m 4 ls []) := by
    intro n
    induction n with
    | zero =>
      intro j hn_j hi_j hG
      exact absurd hn_j (by omega)
    | succ n LB_4 =>
      intro j hn_j hi_j hG H locs hP hD hS ls hl
      refine lv_iload_n hx hb dX10_home_4 rfl (lv_at hl 2 rfl) ?_
      refine lv_bipush (v := 10) hx hb dX10_home_5 (by decide) ?_
      refine lv_icmp_gt (tgt := 58) hx hb dX10_home_7 (by decide) (fun c_7 => ?_) (fun c_7 => ?_)
      · have i_7 := i_lt c_7
        rw [(by decide : (10 : Int32).toInt = 10)] at i_7
        rw [nIT (by omega)] at i_7
        rw [show 10 - j = 0 by omega, hoY] at hG
        refine lv_bipush (v := (-9)) hx hb dX10_home_58 (by decide) ?_
        exact lf_i hx hb hr hlocks hQ () hP hD hS dX10_home_60 (by exact hG)
      · have i_7 := i_nlt c_7
        rw [(by decide : (10 : Int32).toInt = 10)] at i_7
        rw [nIT (by omega)] at i_7
        rw [show 10 - j = (10 - (j + 1)) + 1 by omega, hoY] at hG
        refine lv_aload_n hx hb dX10_home_10 rfl (lv_at hl 0 rfl) ?_
        refine lv_iload_n hx hb dX10_home_11 rfl (lv_at hl 2 rfl) ?_
        refine lv_aload_n hx hb dX10_home_12 rfl (lv_at hl 0 rfl) ?_
        refine va_get (D := D) (ci := 10) (v := .ref (a 29)) (C := RX10) (T := TX10) (N := 37) hx hb hts hin_10 hown hK hP 0 rfl rfl 29 (by decide) fl_53 (fun _ h9 => h9) rfl dX10_home_13 ?_
        refine lv_iconst (v := 0) hx hb dX10_home_16 (by decide) ?_
        refine va_iald (D := D) (f := (mm.2 29)) hx hb hK hP 15 0 rfl rfl (vi_mk (by decide) (by decide)) dX10_home_17 ?_
        refine lv_aload_n hx hb dX10_home_18 rfl (lv_at hl 0 rfl) ?_
        refine va_get (D := D) (ci := 10) (v := .ref (a 30)) (C := RX10) (T := TX10) (N := 37) hx hb hts hin_10 hown hK hP 0 rfl rfl 30 (by decide) fl_56 (fun _ h9 => h9) rfl dX10_home_19 ?_
        refine lv_iconst (v := 0) hx hb dX10_home_22 (by decide) ?_
        refine va_iald (D := D) (f := (mm.2 30)) hx hb hK hP 16 0 rfl rfl (vi_mk (by decide) (by decide)) dX10_home_23 ?_
        refine sw_i (va_runV (As := [.int (nI (j + 1)), .int ((mm.2 29) (0 : Int32).toNatClampNeg), .int ((mm.2 30) (0 : Int32).toNatClampNeg)]) (rest := []) ⟨hx, hb, hml, hown, hts⟩ (c_X10_isAt l D cI cJ cZ a H.size mm (nI (j + 1)) ((mm.2 29) (0 : Int32).toNatClampNeg) ((mm.2 30) (0 : Int32).toNatClampNeg) (by rw [nIT (by omega)]; omega) (by rw [nIT (by omega)]; omega)) (cwV 3 hts gX10_home_X10_isAt rfl rfl rfl (by decide +kernel) ⟨Nat.le_of_ble_eq_true rfl, Nat.le_of_ble_eq_true rfl⟩) (pr_V hP hD hK hN hE hS hA [0, 1, 2, 3, 4, 5, 6, 7, 8, 9, 10, 11, 12, 13, 14, 15, 16, 17, 18, 19, 20, 21] (by decide) rfl (ci := 10) (q0 := 0) rfl rfl) rfl rfl hl.1 rfl (lv_room (Nat.le_of_ble_eq_true rfl)) dX10_home_24 ⟨Nat.zero_le _, Nat.zero_le _⟩) hD hS hA (fun r_24 u_24 H locs hw_24 hP hD hS => ?_)
        have hr_24 : r_24 = bI (if (mm.2 29) ((nI (j + 1))).toNatClampNeg = ((mm.2 29) (0 : Int32).toNatClampNeg) then (if (mm.2 30) ((nI (j + 1))).toNatClampNeg = ((mm.2 30) (0 : Int32).toNatClampNeg) then true else false) else false) := hw_24
        refine lv_istore_n (lv' := [(3, .int r_24), (0, .ref (a 0)), (1, .int (awY (mm.2 29) (mm.2 30) j)), (2, .int (nI (j + 1)))]) hx hb dX10_home_27 rfl hl (by decide) rfl (fun ls hl => ?_)
        refine lv_iload_n hx hb dX10_home_28 rfl (lv_at hl 0 rfl) ?_
        refine lv_if_eq (tgt := 38) hx hb dX10_home_29 (by decide) (fun c_29 => ?_) (fun c_29 => ?_)
        · have b_29 : (if (mm.2 29) ((nI (j + 1))).toNatClampNeg = ((mm.2 29) (0 : Int32).toNatClampNeg) then (if (mm.2 30) ((nI (j + 1))).toNatClampNeg = ((mm.2 30) (0 : Int32).toNatClampNeg) then true else false) else false) = false := bI_0 (hr_24.symm.trans c_29)
          have b_29 : atY (mm.2 29) (mm.2 30) (nI (j + 1)) ((mm.2 29) (0 : Int32).toNatClampNeg) ((mm.2 30) (0 : Int32).toNatClampNeg) = false := b_29
          rw [if_neg (by rw [b_29]; decide)] at hG
          refine lv_iload_n hx hb dX10_home_38 rfl (lv_at hl 2 rfl) ?_
          refine lv_if_ne (tgt := 46) hx hb dX10_home_39 (by decide) (fun c_39 => ?_) (fun c_39 => ?_)
          · have i_39 := i_ne c_39
            rw [(by decide : (0 : Int32).toInt = 0)] at i_39
            refine lv_iconst (v := 1) hx hb dX10_home_46 (by decide) ?_
            refine lv_goto (tgt := 51) hx hb dX10_home_47 (by decide) ?_
            refine lv_istore_n (lv' := [(1, .int 1), (3, .int r_24), (0, .ref (a 0)), (2, .int (nI (j + 1)))]) hx hb dX10_home_51 rfl hl (by decide) rfl (fun ls hl => ?_)
            refine lv_iinc (v := ((nI (j + 1)) + 1)) (lv' := [(2, .int ((nI (j + 1)) + 1)), (1, .int 1), (3, .int r_24), (0, .ref (a 0))]) hx hb dX10_home_52 hl (k := 3) rfl rfl (by decide) rfl (fun ls hl => ?_)
            rw [show nI (j + 1) + 1 = nI ((j + 1) + 1) from nI_1 _] at hl
            have hl : lv_has ls 4 [(2, .int (nI ((j + 1) + 1))), (1, .int 1), (3, .int r_24), (0, .ref (a 0))] := hl
            have es_1 : 1 = (awY (mm.2 29) (mm.2 30) (j + 1)) := by simp only [awY, b_29, if_neg c_39, ↓reduceIte, reduceCtorEq]
            have hl : lv_has ls 4 [(2, .int (nI ((j + 1) + 1))), (1, .int (awY (mm.2 29) (mm.2 30) (j + 1))), (3, .int r_24), (0, .ref (a 0))] := by rw [← es_1]; exact hl
            refine lv_goto (tgt := 4) hx hb dX10_home_55 (by decide) ?_
            exact LB_4 (j + 1) (by omega) (by omega) (hG) H locs hP hD hS ls (lv_sub hl [3, 1, 0] rfl)
          · have i_39 := i_eq c_39
            rw [(by decide : (0 : Int32).toInt = 0)] at i_39
            refine lv_iload_n hx hb dX10_home_42 rfl (lv_at hl 0 rfl) ?_
            refine lv_if_ne (tgt := 50) hx hb dX10_home_43 (by decide) (fun c_43 => ?_) (fun c_43 => ?_)
            · have b_43 : (if (mm.2 29) ((nI (j + 1))).toNatClampNeg = ((mm.2 29) (0 : Int32).toNatClampNeg) then (if (mm.2 30) ((nI (j + 1))).toNatClampNeg = ((mm.2 30) (0 : Int32).toNatClampNeg) then true else false) else false) = true := bI_1 (fun q => c_43 (hr_24.trans q))
              exact absurd (b_29.symm.trans b_43) (by decide)
            · have b_43 : (if (mm.2 29) ((nI (j + 1))).toNatClampNeg = ((mm.2 29) (0 : Int32).toNatClampNeg) then (if (mm.2 30) ((nI (j + 1))).toNatClampNeg = ((mm.2 30) (0 : Int32).toNatClampNeg) then true else false) else false) = false := bI_0 (hr_24.symm.trans c_43)
              refine lv_iconst (v := 1) hx hb dX10_home_46 (by decide) ?_
              refine lv_goto (tgt := 51) hx hb dX10_home_47 (by decide) ?_
              refine lv_istore_n (lv' := [(1, .int 1), (3, .int r_24), (0, .ref (a 0)), (2, .int (nI (j + 1)))]) hx hb dX10_home_51 rfl hl (by decide) rfl (fun ls hl => ?_)
              refine lv_iinc (v := ((nI (j + 1)) + 1)) (lv' := [(2, .int ((nI (j + 1)) + 1)), (1, .int 1), (3, .int r_24), (0, .ref (a 0))]) hx hb dX10_home_52 hl (k := 3) rfl rfl (by decide) rfl (fun ls hl => ?_)
              rw [show nI (j + 1) + 1 = nI ((j + 1) + 1) from nI_1 _] at hl
              have hl : lv_has ls 4 [(2, .int (nI ((j + 1) + 1))), (1, .int 1), (3, .int r_24), (0, .ref (a 0))] := hl
              have es_1 : 1 = (awY (mm.2 29) (mm.2 30) (j + 1)) := by simp only [awY, b_29, if_pos c_39, b_43, ↓reduceIte, reduceCtorEq]
              have hl : lv_has ls 4 [(2, .int (nI ((j + 1) + 1))), (1, .int (awY (mm.2 29) (mm.2 30) (j + 1))), (3, .int r_24), (0, .ref (a 0))] := by rw [← es_1]; exact hl
              refine lv_goto (tgt := 4) hx hb dX10_home_55 (by decide) ?_
              exact LB_4 (j + 1) (by omega) (by omega) (hG) H locs hP hD hS ls (lv_sub hl [3, 1, 0] rfl)
        · have b_29 : (if (mm.2 29) ((nI (j + 1))).toNatClampNeg = ((mm.2 29) (0 : Int32).toNatClampNeg) then (if (mm.2 30) ((nI (j + 1))).toNatClampNeg = ((mm.2 30) (0 : Int32).toNatClampNeg) then true else false) else false) = true := bI_1 (fun q => c_29 (hr_24.trans q))
          have b_29 : atY (mm.2 29) (mm.2 30) (nI (j + 1)) ((mm.2 29) (0 : Int32).toNatClampNeg) ((mm.2 30) (0 : Int32).toNatClampNeg) = true := b_29
          rw [if_pos b_29] at hG
          refine lv_iload_n hx hb dX10_home_32 rfl (lv_at hl 2 rfl) ?_
          refine lv_if_eq (tgt := 38) hx hb dX10_home_33 (by decide) (fun c_33 => ?_) (fun c_33 => ?_)
          · have i_33 := i_eq c_33
            rw [(by decide : (0 : Int32).toInt = 0)] at i_33
            rw [if_pos c_33] at hG
            refine lv_iload_n hx hb dX10_home_38 rfl (lv_at hl 2 rfl) ?_
            refine lv_if_ne (tgt := 46) hx hb dX10_home_39 (by decide) (fun c_39 => ?_) (fun c_39 => ?_)
            · have i_39 := i_ne c_39
              rw [(by decide : (0 : Int32).toInt = 0)] at i_39
              exact absurd c_33 c_39
            · have i_39 := i_eq c_39
              rw [(by decide : (0 : Int32).toInt = 0)] at i_39
              refine lv_iload_n hx hb dX10_home_42 rfl (lv_at hl 0 rfl) ?_
              refine lv_if_ne (tgt := 50) hx hb dX10_home_43 (by decide) (fun c_43 => ?_) (fun c_43 => ?_)
              · have b_43 : (if (mm.2 29) ((nI (j + 1))).toNatClampNeg = ((mm.2 29) (0 : Int32).toNatClampNeg) then (if (mm.2 30) ((nI (j + 1))).toNatClampNeg = ((mm.2 30) (0 : Int32).toNatClampNeg) then true else false) else false) = true := bI_1 (fun q => c_43 (hr_24.trans q))
                refine lv_iconst (v := 0) hx hb dX10_home_50 (by decide) ?_
                refine lv_istore_n (lv' := [(1, .int 0), (3, .int r_24), (0, .ref (a 0)), (2, .int (nI (j + 1)))]) hx hb dX10_home_51 rfl hl (by decide) rfl (fun ls hl => ?_)
                refine lv_iinc (v := ((nI (j + 1)) + 1)) (lv' := [(2, .int ((nI (j + 1)) + 1)), (1, .int 0), (3, .int r_24), (0, .ref (a 0))]) hx hb dX10_home_52 hl (k := 3) rfl rfl (by decide) rfl (fun ls hl => ?_)
                rw [show nI (j + 1) + 1 = nI ((j + 1) + 1) from nI_1 _] at hl
                have hl : lv_has ls 4 [(2, .int (nI ((j + 1) + 1))), (1, .int 0), (3, .int r_24), (0, .ref (a 0))] := hl
                have es_1 : 0 = (awY (mm.2 29) (mm.2 30) (j + 1)) := by simp only [awY, b_29, if_pos c_33, if_pos c_39, b_43, ↓reduceIte, reduceCtorEq]
                have hl : lv_has ls 4 [(2, .int (nI ((j + 1) + 1))), (1, .int (awY (mm.2 29) (mm.2 30) (j + 1))), (3, .int r_24), (0, .ref (a 0))] := by rw [← es_1]; exact hl
                refine lv_goto (tgt := 4) hx hb dX10_home_55 (by decide) ?_
                exact LB_4 (j + 1) (by omega) (by omega) (hG) H locs hP hD hS ls (lv_sub hl [3, 1, 0] rfl)
              · have b_43 : (if (mm.2 29) ((nI (j + 1))).toNatClampNeg = ((mm.2 29) (0 : Int32).toNatClampNeg) then (if (mm.2 30) ((nI (j + 1))).toNatClampNeg = ((mm.2 30) (0 : Int32).toNatClampNeg) then true else false) else false) = false := bI_0 (hr_24.symm.trans c_43)
                exact absurd (b_29.symm.trans b_43) (by decide)
          · have i_33 := i_ne c_33
            rw [(by decide : (0 : Int32).toInt = 0)] at i_33
            rw [if_neg c_33] at hG
            refine lv_iload_n hx hb dX10_home_36 rfl (lv_at hl 3 rfl) ?_
            exact lf_i hx hb hr hlocks hQ () hP hD hS dX10_home_37 (by exact hG)
  exact LB_4 (10 + 1) 0 (by omega) (by omega) (rfl) H locs hP hD hS ls (lv_sub hl [2, 1, 0] rfl)
abbrev rm_X10_span : Room := { frames := 1, cells := 0, slots := 0, locals := 23 }
set_option maxHeartbeats 4000000 in
set_option maxRecDepth 100000 in
theorem c_X10_span (l : Launch) (D : va_G) (cI cJ cZ : ClassId) (a : Nat → Nat) (sz : Nat) (mm : MS) : Met l yX10_span wsX10_span rm_X10_span (va_Pc [.ref (a 0)] (PU D (tyL cI cJ cZ) (wM a cI cZ mm) sz)) (va_Qi (fun (rz : Int32) (_ : Unit) => rz = spY (mm.2 29) (mm.2 30) 11) (fun uz => BU D (wM a cI cZ mm) (va_A (wM a cI cZ mm) sz)) (va_A (wM a cI cZ mm) sz)) 0 0 (va_A (wM a cI cZ mm) sz) := by
  refine en (own := RX10) (Qc := fun A => va_Qi (fun (rz : Int32) (_ : Unit) => rz = spY (mm.2 29) (mm.2 30) 11) (fun uz => BU D (wM a cI cZ mm) A) A) (by decide) rfl (Nat.le_of_ble_eq_true rfl) rfl ?_
  intro p e s m args below meth c A Q H locs ls hx hb hr hml hown hts hlocks hname hA hN hE hK hQ hP hD hS hl
  have hl : lv_has ls 5 [(0, .ref (a 0))] := hl
  have fl_53 := hts (.fieldLink RX10 53 "DanceStaffsModel" "xs" "[I") (by decide +kernel)
  have hin_10 : ∀ w ∈ u_ws RX10 TX10 37, w ∈ wsX10_span := by decide +kernel
  have fl_56 := hts (.fieldLink RX10 56 "DanceStaffsModel" "ys" "[I") (by decide +kernel)
  refine lv_iconst (v := 0) hx hb dX10_span_0 (by decide) ?_
  refine lv_istore_n (lv' := [(1, .int 0), (0, .ref (a 0))]) hx hb dX10_span_1 rfl hl (by decide) rfl (fun ls hl => ?_)
  refine lv_iconst (v := 0) hx hb dX10_span_2 (by decide) ?_
  refine lv_istore_n (lv' := [(2, .int 0), (1, .int 0), (0, .ref (a 0))]) hx hb dX10_span_3 rfl hl (by decide) rfl (fun ls hl => ?_)
  have LB_4 : ∀ (n : Nat) (i : Nat) (hn_i : 11 < i + n) (hi_i : i ≤ 11) (H : Heap) (locs : List Loc) (_ : va_P D vwCl ([(a 0, .inr (10, [.int (mm.1 0), .ref (a 1), .ref (a 2), .ref (a 3), .ref (a 4), .int (mm.1 5), .int (mm.1 6), .ref (a 7), .int (mm.1 8), .ref (a 9), .ref (a 10), .ref (a 11), .ref (a 12), .int (mm.1 13), .ref (a 14), .int (mm.1 15), .int (mm.1 16), .int (mm.1 17), .int (mm.1 18), .int (mm.1 19), .int (mm.1 20), .ref (a 21), .ref (a 22), .ref (a 23), .ref (a 24), .int (mm.1 25), .int (mm.1 26), .int (mm.1 27), .int (mm.1 28), .ref (a 29), .ref (a 30), .ref (a 31), .ref (a 32), .int (mm.1 33), .ref (a 34), .ref (a 35), .ref (a 36)])), (a 1, .inl (cI, 3, .inl (mm.2 1))), (a 2, .inl (cI, 3, .inl (mm.2 2))), (a 3, .inl (cI, 3, .inl (mm.2 3))), (a 4, .inl (cI, 33, .inl (mm.2 4))), (a 7, .inl (cI, 330, .inl (mm.2 7))), (a 9, .inl (cI, 6, .inl (mm.2 9))), (a 10, .inl (cI, 6, .inl (mm.2 10))), (a 11, .inl (cZ, 2, .inl (mm.2 11))), (a 12, .inl (cI, 66, .inl (mm.2 12))), (a 14, .inl (cI, 100, .inl (mm.2 14))), (a 21, .inl (cI, 3, .inl (mm.2 21))), (a 22, .inl (cI, 3, .inl (mm.2 22))), (a 23, .inl (cI, 3, .inl (mm.2 23))), (a 24, .inl (cI, 33, .inl (mm.2 24))), (a 29, .inl (cI, 11, .inl (mm.2 29))), (a 30, .inl (cI, 11, .inl (mm.2 30))), (a 31, .inl (cI, 11, .inl (mm.2 31))), (a 32, .inl (cI, 11, .inl (mm.2 32))), (a 34, .inl (cI, 11, .inl (mm.2 34))), (a 35, .inl (cI, 11, .inl (mm.2 35))), (a 36, .inl (cI, 1176, .inl (mm.2 36)))]) H) (_ : va_D A ([(a 0, .inr (10, [.int (mm.1 0), .ref (a 1), .ref (a 2), .ref (a 3), .ref (a 4), .int (mm.1 5), .int (mm.1 6), .ref (a 7), .int (mm.1 8), .ref (a 9), .ref (a 10), .ref (a 11), .ref (a 12), .int (mm.1 13), .ref (a 14), .int (mm.1 15), .int (mm.1 16), .int (mm.1 17), .int (mm.1 18), .int (mm.1 19), .int (mm.1 20), .ref (a 21), .ref (a 22), .ref (a 23), .ref (a 24), .int (mm.1 25), .int (mm.1 26), .int (mm.1 27), .int (mm.1 28), .ref (a 29), .ref (a 30), .ref (a 31), .ref (a 32), .int (mm.1 33), .ref (a 34), .ref (a 35), .ref (a 36)])), (a 1, .inl (cI, 3, .inl (mm.2 1))), (a 2, .inl (cI, 3, .inl (mm.2 2))), (a 3, .inl (cI, 3, .inl (mm.2 3))), (a 4, .inl (cI, 33, .inl (mm.2 4))), (a 7, .inl (cI, 330, .inl (mm.2 7))), (a 9, .inl (cI, 6, .inl (mm.2 9))), (a 10, .inl (cI, 6, .inl (mm.2 10))), (a 11, .inl (cZ, 2, .inl (mm.2 11))), (a 12, .inl (cI, 66, .inl (mm.2 12))), (a 14, .inl (cI, 100, .inl (mm.2 14))), (a 21, .inl (cI, 3, .inl (mm.2 21))), (a 22, .inl (cI, 3, .inl (mm.2 22))), (a 23, .inl (cI, 3, .inl (mm.2 23))), (a 24, .inl (cI, 33, .inl (mm.2 24))), (a 29, .inl (cI, 11, .inl (mm.2 29))), (a 30, .inl (cI, 11, .inl (mm.2 30))), (a 31, .inl (cI, 11, .inl (mm.2 31))), (a 32, .inl (cI, 11, .inl (mm.2 32))), (a 34, .inl (cI, 11, .inl (mm.2 34))), (a 35, .inl (cI, 11, .inl (mm.2 35))), (a 36, .inl (cI, 1176, .inl (mm.2 36)))])) (_ : va_S A s.heap H locs) (ls : Array Slot) (_ : lv_has ls 5 [(0, .ref (a 0)), (1, .int (spY (mm.2 29) (mm.2 30) i)), (2, .int (nI i))]), W p l e rm_X10_span s m args below meth c H locs 0 0 Q (F0 m 4 ls []) := by
    intro n
    induction n with
    | zero =>
      intro i hn_i hi_i
      exact absurd hn_i (by omega)
    | succ n LB_4 =>
      intro i hn_i hi_i H locs hP hD hS ls hl
      refine lv_iload_n hx hb dX10_span_4 rfl (lv_at hl 2 rfl) ?_
      refine lv_bipush (v := 10) hx hb dX10_span_5 (by decide) ?_
      refine lv_icmp_gt (tgt := 76) hx hb dX10_span_7 (by decide) (fun c_7 => ?_) (fun c_7 => ?_)
      · have i_7 := i_lt c_7
        rw [(by decide : (10 : Int32).toInt = 10)] at i_7
        rw [nIT (by omega)] at i_7
        have e_7 : i = 11 := by omega
        refine lv_iload_n hx hb dX10_span_76 rfl (lv_at hl 1 rfl) ?_
        exact lf_i hx hb hr hlocks hQ () hP hD hS dX10_span_77 (by rw [e_7])
      · have i_7 := i_nlt c_7
        rw [(by decide : (10 : Int32).toInt = 10)] at i_7
        rw [nIT (by omega)] at i_7
        refine lv_iconst (v := 1) hx hb dX10_span_10 (by decide) ?_
        refine lv_istore_n (lv' := [(3, .int 1), (0, .ref (a 0)), (1, .int (spY (mm.2 29) (mm.2 30) i)), (2, .int (nI i))]) hx hb dX10_span_11 rfl hl (by decide) rfl (fun ls hl => ?_)
        refine lv_iconst (v := 0) hx hb dX10_span_12 (by decide) ?_
        refine lv_istore (lv' := [(4, .int 0), (3, .int 1), (0, .ref (a 0)), (1, .int (spY (mm.2 29) (mm.2 30) i)), (2, .int (nI i))]) hx hb dX10_span_13 hl (by decide) rfl (fun ls hl => ?_)
        have LB_15 : ∀ (n2 : Nat) (k : Nat) (hn_k : i < k + n2) (hi_k : k ≤ i) (H : Heap) (locs : List Loc) (_ : va_P D vwCl ([(a 0, .inr (10, [.int (mm.1 0), .ref (a 1), .ref (a 2), .ref (a 3), .ref (a 4), .int (mm.1 5), .int (mm.1 6), .ref (a 7), .int (mm.1 8), .ref (a 9), .ref (a 10), .ref (a 11), .ref (a 12), .int (mm.1 13), .ref (a 14), .int (mm.1 15), .int (mm.1 16), .int (mm.1 17), .int (mm.1 18), .int (mm.1 19), .int (mm.1 20), .ref (a 21), .ref (a 22), .ref (a 23), .ref (a 24), .int (mm.1 25), .int (mm.1 26), .int (mm.1 27), .int (mm.1 28), .ref (a 29), .ref (a 30), .ref (a 31), .ref (a 32), .int (mm.1 33), .ref (a 34), .ref (a 35), .ref (a 36)])), (a 1, .inl (cI, 3, .inl (mm.2 1))), (a 2, .inl (cI, 3, .inl (mm.2 2))), (a 3, .inl (cI, 3, .inl (mm.2 3))), (a 4, .inl (cI, 33, .inl (mm.2 4))), (a 7, .inl (cI, 330, .inl (mm.2 7))), (a 9, .inl (cI, 6, .inl (mm.2 9))), (a 10, .inl (cI, 6, .inl (mm.2 10))), (a 11, .inl (cZ, 2, .inl (mm.2 11))), (a 12, .inl (cI, 66, .inl (mm.2 12))), (a 14, .inl (cI, 100, .inl (mm.2 14))), (a 21, .inl (cI, 3, .inl (mm.2 21))), (a 22, .inl (cI, 3, .inl (mm.2 22))), (a 23, .inl (cI, 3, .inl (mm.2 23))), (a 24, .inl (cI, 33, .inl (mm.2 24))), (a 29, .inl (cI, 11, .inl (mm.2 29))), (a 30, .inl (cI, 11, .inl (mm.2 30))), (a 31, .inl (cI, 11, .inl (mm.2 31))), (a 32, .inl (cI, 11, .inl (mm.2 32))), (a 34, .inl (cI, 11, .inl (mm.2 34))), (a 35, .inl (cI, 11, .inl (mm.2 35))), (a 36, .inl (cI, 1176, .inl (mm.2 36)))]) H) (_ : va_D A ([(a 0, .inr (10, [.int (mm.1 0), .ref (a 1), .ref (a 2), .ref (a 3), .ref (a 4), .int (mm.1 5), .int (mm.1 6), .ref (a 7), .int (mm.1 8), .ref (a 9), .ref (a 10), .ref (a 11), .ref (a 12), .int (mm.1 13), .ref (a 14), .int (mm.1 15), .int (mm.1 16), .int (mm.1 17), .int (mm.1 18), .int (mm.1 19), .int (mm.1 20), .ref (a 21), .ref (a 22), .ref (a 23), .ref (a 24), .int (mm.1 25), .int (mm.1 26), .int (mm.1 27), .int (mm.1 28), .ref (a 29), .ref (a 30), .ref (a 31), .ref (a 32), .int (mm.1 33), .ref (a 34), .ref (a 35), .ref (a 36)])), (a 1, .inl (cI, 3, .inl (mm.2 1))), (a 2, .inl (cI, 3, .inl (mm.2 2))), (a 3, .inl (cI, 3, .inl (mm.2 3))), (a 4, .inl (cI, 33, .inl (mm.2 4))), (a 7, .inl (cI, 330, .inl (mm.2 7))), (a 9, .inl (cI, 6, .inl (mm.2 9))), (a 10, .inl (cI, 6, .inl (mm.2 10))), (a 11, .inl (cZ, 2, .inl (mm.2 11))), (a 12, .inl (cI, 66, .inl (mm.2 12))), (a 14, .inl (cI, 100, .inl (mm.2 14))), (a 21, .inl (cI, 3, .inl (mm.2 21))), (a 22, .inl (cI, 3, .inl (mm.2 22))), (a 23, .inl (cI, 3, .inl (mm.2 23))), (a 24, .inl (cI, 33, .inl (mm.2 24))), (a 29, .inl (cI, 11, .inl (mm.2 29))), (a 30, .inl (cI, 11, .inl (mm.2 30))), (a 31, .inl (cI, 11, .inl (mm.2 31))), (a 32, .inl (cI, 11, .inl (mm.2 32))), (a 34, .inl (cI, 11, .inl (mm.2 34))), (a 35, .inl (cI, 11, .inl (mm.2 35))), (a 36, .inl (cI, 1176, .inl (mm.2 36)))])) (_ : va_S A s.heap H locs) (ls : Array Slot) (_ : lv_has ls 5 [(0, .ref (a 0)), (1, .int (spY (mm.2 29) (mm.2 30) i)), (2, .int (nI i)), (3, .int (anY (mm.2 29) (mm.2 30) i k)), (4, .int (nI k))]), W p l e rm_X10_span s m args below meth c H locs 0 0 Q (F0 m 15 ls []) := by
          intro n2
          induction n2 with
          | zero =>
            intro k hn_k hi_k
            exact absurd hn_k (by omega)
          | succ n2 LB_15 =>
            intro k hn_k hi_k H locs hP hD hS ls hl
            refine lv_iload hx hb dX10_span_15 (lv_at hl 4 rfl) ?_
            refine lv_iload_n hx hb dX10_span_17 rfl (lv_at hl 2 rfl) ?_
            refine lv_icmp_ge (tgt := 58) hx hb dX10_span_18 (by decide) (fun c_18 => ?_) (fun c_18 => ?_)
            · have i_18 := i_le c_18
              rw [nIT (by omega), nIT (by omega)] at i_18
              have e_18 : k = i := by omega
              rw [e_18] at hl
              refine lv_iload_n hx hb dX10_span_58 rfl (lv_at hl 1 rfl) ?_
              refine lv_iload_n hx hb dX10_span_59 rfl (lv_at hl 3 rfl) ?_
              refine lv_if_eq (tgt := 67) hx hb dX10_span_60 (by decide) (fun c_60 => ?_) (fun c_60 => ?_)
              · have i_60 := i_eq c_60
                rw [(by decide : (0 : Int32).toInt = 0)] at i_60
                refine lv_iconst (v := 0) hx hb dX10_span_67 (by decide) ?_
                refine lv_iadd hx hb dX10_span_68 ?_
                refine lv_istore_n (lv' := [(1, .int ((spY (mm.2 29) (mm.2 30) i) + 0)), (0, .ref (a 0)), (2, .int (nI i)), (3, .int (anY (mm.2 29) (mm.2 30) i i)), (4, .int (nI i))]) hx hb dX10_span_69 rfl hl (by decide) rfl (fun ls hl => ?_)
                refine lv_iinc (v := ((nI i) + 1)) (lv' := [(2, .int ((nI i) + 1)), (1, .int ((spY (mm.2 29) (mm.2 30) i) + 0)), (0, .ref (a 0)), (3, .int (anY (mm.2 29) (mm.2 30) i i)), (4, .int (nI i))]) hx hb dX10_span_70 hl (k := 2) rfl rfl (by decide) rfl (fun ls hl => ?_)
                rw [show nI i + 1 = nI (i + 1) from nI_1 _] at hl
                have hl : lv_has ls 5 [(2, .int (nI (i + 1))), (1, .int ((spY (mm.2 29) (mm.2 30) i) + 0)), (0, .ref (a 0)), (3, .int (anY (mm.2 29) (mm.2 30) i i)), (4, .int (nI i))] := hl
                have es_1 : ((spY (mm.2 29) (mm.2 30) i) + 0) = (spY (mm.2 29) (mm.2 30) (i + 1)) := by simp only [spY, if_pos c_60, ↓reduceIte, reduceCtorEq]
                have hl : lv_has ls 5 [(2, .int (nI (i + 1))), (1, .int (spY (mm.2 29) (mm.2 30) (i + 1))), (0, .ref (a 0)), (3, .int (anY (mm.2 29) (mm.2 30) i i)), (4, .int (nI i))] := by rw [← es_1]; exact hl
                refine lv_goto (tgt := 4) hx hb dX10_span_73 (by decide) ?_
                exact LB_4 (i + 1) (by omega) (by omega) H locs hP hD hS ls (lv_sub hl [2, 1, 0] rfl)
              · have i_60 := i_ne c_60
                rw [(by decide : (0 : Int32).toInt = 0)] at i_60
                refine lv_iconst (v := 1) hx hb dX10_span_63 (by decide) ?_
                refine lv_goto (tgt := 68) hx hb dX10_span_64 (by decide) ?_
                refine lv_iadd hx hb dX10_span_68 ?_
                refine lv_istore_n (lv' := [(1, .int ((spY (mm.2 29) (mm.2 30) i) + 1)), (0, .ref (a 0)), (2, .int (nI i)), (3, .int (anY (mm.2 29) (mm.2 30) i i)), (4, .int (nI i))]) hx hb dX10_span_69 rfl hl (by decide) rfl (fun ls hl => ?_)
                refine lv_iinc (v := ((nI i) + 1)) (lv' := [(2, .int ((nI i) + 1)), (1, .int ((spY (mm.2 29) (mm.2 30) i) + 1)), (0, .ref (a 0)), (3, .int (anY (mm.2 29) (mm.2 30) i i)), (4, .int (nI i))]) hx hb dX10_span_70 hl (k := 2) rfl rfl (by decide) rfl (fun ls hl => ?_)
                rw [show nI i + 1 = nI (i + 1) from nI_1 _] at hl
                have hl : lv_has ls 5 [(2, .int (nI (i + 1))), (1, .int ((spY (mm.2 29) (mm.2 30) i) + 1)), (0, .ref (a 0)), (3, .int (anY (mm.2 29) (mm.2 30) i i)), (4, .int (nI i))] := hl
                have es_1 : ((spY (mm.2 29) (mm.2 30) i) + 1) = (spY (mm.2 29) (mm.2 30) (i + 1)) := by simp only [spY, if_neg c_60, ↓reduceIte, reduceCtorEq]
                have hl : lv_has ls 5 [(2, .int (nI (i + 1))), (1, .int (spY (mm.2 29) (mm.2 30) (i + 1))), (0, .ref (a 0)), (3, .int (anY (mm.2 29) (mm.2 30) i i)), (4, .int (nI i))] := by rw [← es_1]; exact hl
                refine lv_goto (tgt := 4) hx hb dX10_span_73 (by decide) ?_
                exact LB_4 (i + 1) (by omega) (by omega) H locs hP hD hS ls (lv_sub hl [2, 1, 0] rfl)
            · have i_18 := i_nle c_18
              rw [nIT (by omega), nIT (by omega)] at i_18
              refine lv_iload_n hx hb dX10_span_21 rfl (lv_at hl 3 rfl) ?_
              refine lv_if_eq (tgt := 50) hx hb dX10_span_22 (by decide) (fun c_22 => ?_) (fun c_22 => ?_)
              · have i_22 := i_eq c_22
                rw [(by decide : (0 : Int32).toInt = 0)] at i_22
                refine lv_iconst (v := 0) hx hb dX10_span_50 (by decide) ?_
                refine lv_istore_n (lv' := [(3, .int 0), (0, .ref (a 0)), (1, .int (spY (mm.2 29) (mm.2 30) i)), (2, .int (nI i)), (4, .int (nI k))]) hx hb dX10_span_51 rfl hl (by decide) rfl (fun ls hl => ?_)
                refine lv_iinc (v := ((nI k) + 1)) (lv' := [(4, .int ((nI k) + 1)), (3, .int 0), (0, .ref (a 0)), (1, .int (spY (mm.2 29) (mm.2 30) i)), (2, .int (nI i))]) hx hb dX10_span_52 hl (k := 4) rfl rfl (by decide) rfl (fun ls hl => ?_)
                rw [show nI k + 1 = nI (k + 1) from nI_1 _] at hl
                have hl : lv_has ls 5 [(4, .int (nI (k + 1))), (3, .int 0), (0, .ref (a 0)), (1, .int (spY (mm.2 29) (mm.2 30) i)), (2, .int (nI i))] := hl
                have es_3 : 0 = (anY (mm.2 29) (mm.2 30) i (k + 1)) := by simp only [anY, if_pos c_22, ↓reduceIte, reduceCtorEq]
                have hl : lv_has ls 5 [(4, .int (nI (k + 1))), (3, .int (anY (mm.2 29) (mm.2 30) i (k + 1))), (0, .ref (a 0)), (1, .int (spY (mm.2 29) (mm.2 30) i)), (2, .int (nI i))] := by rw [← es_3]; exact hl
                refine lv_goto (tgt := 15) hx hb dX10_span_55 (by decide) ?_
                exact LB_15 (k + 1) (by omega) (by omega) H locs hP hD hS ls (lv_sub hl [2, 3, 4, 1, 0] rfl)
              · have i_22 := i_ne c_22
                rw [(by decide : (0 : Int32).toInt = 0)] at i_22
                refine lv_aload_n hx hb dX10_span_25 rfl (lv_at hl 0 rfl) ?_
                refine lv_iload hx hb dX10_span_26 (lv_at hl 4 rfl) ?_
                refine lv_aload_n hx hb dX10_span_28 rfl (lv_at hl 0 rfl) ?_
                refine va_get (D := D) (ci := 10) (v := .ref (a 29)) (C := RX10) (T := TX10) (N := 37) hx hb hts hin_10 hown hK hP 0 rfl rfl 29 (by decide) fl_53 (fun _ h9 => h9) rfl dX10_span_29 ?_
                refine lv_iload_n hx hb dX10_span_32 rfl (lv_at hl 2 rfl) ?_
                refine va_iald (D := D) (f := (mm.2 29)) hx hb hK hP 15 0 rfl rfl (vp_in_nI (by omega) (by decide)) dX10_span_33 ?_
                refine lv_aload_n hx hb dX10_span_34 rfl (lv_at hl 0 rfl) ?_
                refine va_get (D := D) (ci := 10) (v := .ref (a 30)) (C := RX10) (T := TX10) (N := 37) hx hb hts hin_10 hown hK hP 0 rfl rfl 30 (by decide) fl_56 (fun _ h9 => h9) rfl dX10_span_35 ?_
                refine lv_iload_n hx hb dX10_span_38 rfl (lv_at hl 2 rfl) ?_
                refine va_iald (D := D) (f := (mm.2 30)) hx hb hK hP 16 0 rfl rfl (vp_in_nI (by omega) (by decide)) dX10_span_39 ?_
                refine sw_i (va_runV (As := [.int (nI k), .int ((mm.2 29) (nI i).toNatClampNeg), .int ((mm.2 30) (nI i).toNatClampNeg)]) (rest := []) ⟨hx, hb, hml, hown, hts⟩ (c_X10_isAt l D cI cJ cZ a H.size mm (nI k) ((mm.2 29) (nI i).toNatClampNeg) ((mm.2 30) (nI i).toNatClampNeg) (by rw [nIT (by omega)]; omega) (by rw [nIT (by omega)]; omega)) (cwV 3 hts gX10_span_X10_isAt rfl rfl rfl (by decide +kernel) ⟨Nat.le_of_ble_eq_true rfl, Nat.le_of_ble_eq_true rfl⟩) (pr_V hP hD hK hN hE hS hA [0, 1, 2, 3, 4, 5, 6, 7, 8, 9, 10, 11, 12, 13, 14, 15, 16, 17, 18, 19, 20, 21] (by decide) rfl (ci := 10) (q0 := 0) rfl rfl) rfl rfl hl.1 rfl (lv_room (Nat.le_of_ble_eq_true rfl)) dX10_span_40 ⟨Nat.zero_le _, Nat.zero_le _⟩) hD hS hA (fun r_40 u_40 H locs hw_40 hP hD hS => ?_)
                have hr_40 : r_40 = bI (if (mm.2 29) ((nI k)).toNatClampNeg = ((mm.2 29) (nI i).toNatClampNeg) then (if (mm.2 30) ((nI k)).toNatClampNeg = ((mm.2 30) (nI i).toNatClampNeg) then true else false) else false) := hw_40
                refine lv_if_ne (tgt := 50) hx hb dX10_span_43 (by decide) (fun c_43 => ?_) (fun c_43 => ?_)
                · have b_43 : (if (mm.2 29) ((nI k)).toNatClampNeg = ((mm.2 29) (nI i).toNatClampNeg) then (if (mm.2 30) ((nI k)).toNatClampNeg = ((mm.2 30) (nI i).toNatClampNeg) then true else false) else false) = true := bI_1 (fun q => c_43 (hr_40.trans q))
                  have b_43 : atY (mm.2 29) (mm.2 30) (nI k) ((mm.2 29) (nI i).toNatClampNeg) ((mm.2 30) (nI i).toNatClampNeg) = true := b_43
                  refine lv_iconst (v := 0) hx hb dX10_span_50 (by decide) ?_
                  refine lv_istore_n (lv' := [(3, .int 0), (0, .ref (a 0)), (1, .int (spY (mm.2 29) (mm.2 30) i)), (2, .int (nI i)), (4, .int (nI k))]) hx hb dX10_span_51 rfl hl (by decide) rfl (fun ls hl => ?_)
                  refine lv_iinc (v := ((nI k) + 1)) (lv' := [(4, .int ((nI k) + 1)), (3, .int 0), (0, .ref (a 0)), (1, .int (spY (mm.2 29) (mm.2 30) i)), (2, .int (nI i))]) hx hb dX10_span_52 hl (k := 4) rfl rfl (by decide) rfl (fun ls hl => ?_)
                  rw [show nI k + 1 = nI (k + 1) from nI_1 _] at hl
                  have hl : lv_has ls 5 [(4, .int (nI (k + 1))), (3, .int 0), (0, .ref (a 0)), (1, .int (spY (mm.2 29) (mm.2 30) i)), (2, .int (nI i))] := hl
                  have es_3 : 0 = (anY (mm.2 29) (mm.2 30) i (k + 1)) := by simp only [anY, if_neg c_22, b_43, ↓reduceIte, reduceCtorEq]
                  have hl : lv_has ls 5 [(4, .int (nI (k + 1))), (3, .int (anY (mm.2 29) (mm.2 30) i (k + 1))), (0, .ref (a 0)), (1, .int (spY (mm.2 29) (mm.2 30) i)), (2, .int (nI i))] := by rw [← es_3]; exact hl
                  refine lv_goto (tgt := 15) hx hb dX10_span_55 (by decide) ?_
                  exact LB_15 (k + 1) (by omega) (by omega) H locs hP hD hS ls (lv_sub hl [2, 3, 4, 1, 0] rfl)
                · have b_43 : (if (mm.2 29) ((nI k)).toNatClampNeg = ((mm.2 29) (nI i).toNatClampNeg) then (if (mm.2 30) ((nI k)).toNatClampNeg = ((mm.2 30) (nI i).toNatClampNeg) then true else false) else false) = false := bI_0 (hr_40.symm.trans c_43)
                  have b_43 : atY (mm.2 29) (mm.2 30) (nI k) ((mm.2 29) (nI i).toNatClampNeg) ((mm.2 30) (nI i).toNatClampNeg) = false := b_43
                  refine lv_iconst (v := 1) hx hb dX10_span_46 (by decide) ?_
                  refine lv_goto (tgt := 51) hx hb dX10_span_47 (by decide) ?_
                  refine lv_istore_n (lv' := [(3, .int 1), (0, .ref (a 0)), (1, .int (spY (mm.2 29) (mm.2 30) i)), (2, .int (nI i)), (4, .int (nI k))]) hx hb dX10_span_51 rfl hl (by decide) rfl (fun ls hl => ?_)
                  refine lv_iinc (v := ((nI k) + 1)) (lv' := [(4, .int ((nI k) + 1)), (3, .int 1), (0, .ref (a 0)), (1, .int (spY (mm.2 29) (mm.2 30) i)), (2, .int (nI i))]) hx hb dX10_span_52 hl (k := 4) rfl rfl (by decide) rfl (fun ls hl => ?_)
                  rw [show nI k + 1 = nI (k + 1) from nI_1 _] at hl
                  have hl : lv_has ls 5 [(4, .int (nI (k + 1))), (3, .int 1), (0, .ref (a 0)), (1, .int (spY (mm.2 29) (mm.2 30) i)), (2, .int (nI i))] := hl
                  have es_3 : 1 = (anY (mm.2 29) (mm.2 30) i (k + 1)) := by simp only [anY, if_neg c_22, b_43, ↓reduceIte, reduceCtorEq]
                  have hl : lv_has ls 5 [(4, .int (nI (k + 1))), (3, .int (anY (mm.2 29) (mm.2 30) i (k + 1))), (0, .ref (a 0)), (1, .int (spY (mm.2 29) (mm.2 30) i)), (2, .int (nI i))] := by rw [← es_3]; exact hl
                  refine lv_goto (tgt := 15) hx hb dX10_span_55 (by decide) ?_
                  exact LB_15 (k + 1) (by omega) (by omega) H locs hP hD hS ls (lv_sub hl [2, 3, 4, 1, 0] rfl)
        exact LB_15 (i + 1) 0 (by omega) (by omega) H locs hP hD hS ls (lv_sub hl [2, 3, 4, 1, 0] rfl)
  exact LB_4 (11 + 1) 0 (by omega) (by omega) H locs hP hD hS ls (lv_sub hl [2, 1, 0] rfl)
