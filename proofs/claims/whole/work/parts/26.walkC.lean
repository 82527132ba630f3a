abbrev rm_X5_append : Room := { frames := 3, cells := 0, slots := 0, locals := 65 }
set_option maxHeartbeats 4000000 in
set_option maxRecDepth 100000 in
theorem c_X5_append (l : Launch) (D : va_G) (cI cJ cZ : ClassId) (h0 : Nat) (h1 : Nat) (h2 : Nat) (sz : Nat) (v : Stf) (d : Int32) (k : Int32) (hok : StfOk v) : Met l yX5_append wsX5_append rm_X5_append (va_Pc [.ref h0, .int d, .int k] (PU D (tyL cI cJ cZ) (wStf h0 h1 h2 cI v) sz)) (va_Qv (fun (uz : Stf) => uz = sAdd v d k) (fun uz => BU D (wStf h0 h1 h2 cI uz) (va_A (wStf h0 h1 h2 cI v) sz)) (va_A (wStf h0 h1 h2 cI v) sz)) 0 0 (va_A (wStf h0 h1 h2 cI v) sz) := by
  refine en (own := RX5) (Qc := fun A => va_Qv (fun (uz : Stf) => uz = sAdd v d k) (fun uz => BU D (wStf h0 h1 h2 cI uz) A) A) (by decide) rfl (Nat.le_of_ble_eq_true rfl) rfl ?_
  intro p e s m args below meth c A Q H locs ls hx hb hr hml hown hts hlocks hname hA hN hE hK hQ hP hD hS hl
  have hl : lv_has ls 3 [(0, .ref h0), (1, .int d), (2, .int k)] := hl
  have fl_15 := hts (.fieldLink RX5 15 "DanceStaffs$Staffs" "lengths" "[I") (by decide +kernel)
  have hin_5 : ∀ w ∈ u_ws RX5 TX5 2, w ∈ wsX5_append := by decide +kernel
  refine lv_iload_n hx hb dX5_append_0 rfl (lv_at hl 1 rfl) ?_
  refine st_i (va_runS (As := [.int d]) (rest := []) ⟨hx, hb, hml, hown, hts⟩ (c_X5_isStaff l D cI cJ cZ H.size d) (va_cwS 1 hts gX5_append_X5_isStaff rfl rfl rfl (by decide +kernel) ⟨Nat.le_of_ble_eq_true rfl, Nat.le_of_ble_eq_true rfl⟩) (pr_S hP hD hK hN hE hS hA [] (by decide) rfl) rfl rfl hl.1 rfl (lv_room (Nat.le_of_ble_eq_true rfl)) dX5_append_1 ⟨Nat.zero_le _, Nat.zero_le _⟩) hP hS hA (fun r_1 u_1 H locs hw_1 hP hS => ?_)
  have hr_1 := hw_1
  refine lv_if_eq (tgt := 18) hx hb dX5_append_4 (by decide) (fun c_4 => ?_) (fun c_4 => ?_)
  · have b_4 : (isStf d) = false := bI_0 (hr_1.symm.trans c_4)
    exact lf_v hx hb hr hlocks hQ v hP hD hS dX5_append_18 (by first | with_reducible rfl | (simp only [sAdd, b_4, ← hr_1, ↓reduceIte, bI_t, bI_f, reduceCtorEq]; done) | (subst_vars; simp only [sAdd, b_4, ↓reduceIte, bI_t, bI_f, reduceCtorEq]; done) | (simp [sAdd, b_4, bI_t, bI_f]; done))
  · have b_4 : (isStf d) = true := bI_1 (fun q => c_4 (hr_1.trans q))
    obtain ⟨a1, a2⟩ := isStf_in b_4
    refine lv_aload_n hx hb dX5_append_7 rfl (lv_at hl 0 rfl) ?_
    refine va_get (D := D) (ci := 5) (v := .ref h2) (C := RX5) (T := TX5) (N := 2) hx hb hts hin_5 hown hK hP 0 rfl rfl 1 (by decide) fl_15 (fun _ h9 => h9) rfl dX5_append_8 ?_
    refine lv_iload_n hx hb dX5_append_11 rfl (lv_at hl 1 rfl) ?_
    refine va_iald (D := D) (f := v.2) hx hb hK hP 2 0 rfl rfl (by exact vi_mk (by omega) (by omega)) dX5_append_12 ?_
    refine lv_bipush (v := 10) hx hb dX5_append_13 (by decide) ?_
    refine lv_icmp_lt (tgt := 19) hx hb dX5_append_15 (by decide) (fun c_15 => ?_) (fun c_15 => ?_)
    · have i_15 := i_lt c_15
      rw [(by decide : (10 : Int32).toInt = 10)] at i_15
      refine lv_aload_n hx hb dX5_append_19 rfl (lv_at hl 0 rfl) ?_
      refine va_get (D := D) (ci := 5) (v := .ref h2) (C := RX5) (T := TX5) (N := 2) hx hb hts hin_5 hown hK hP 0 rfl rfl 1 (by decide) fl_15 (fun _ h9 => h9) rfl dX5_append_20 ?_
      refine lv_iload_n hx hb dX5_append_23 rfl (lv_at hl 1 rfl) ?_
      refine lv_dup2_11 hx hb dX5_append_24 rfl rfl ?_
      refine va_iald (D := D) (f := v.2) hx hb hK hP 2 0 rfl rfl (by exact vi_mk (by omega) (by omega)) dX5_append_25 ?_
      refine lv_iconst (v := 1) hx hb dX5_append_26 (by decide) ?_
      refine lv_iadd hx hb dX5_append_27 ?_
      refine va_iast (D := D) (f := v.2) hx hb hK hP hD hS 2 0 rfl rfl (by exact vi_mk (by omega) (by omega)) dX5_append_28 (fun H locs hP hD hS => ?_)
      have hP : va_P D vwCl (wStf h0 h1 h2 cI (v.1, (upd v.2 ((d).toNatClampNeg) ((v.2 (d).toNatClampNeg) + 1)))) H := hP
      have hD : va_D A (wStf h0 h1 h2 cI (v.1, (upd v.2 ((d).toNatClampNeg) ((v.2 (d).toNatClampNeg) + 1)))) := hD
      refine lv_aload_n hx hb dX5_append_29 rfl (lv_at hl 0 rfl) ?_
      refine lv_iload_n hx hb dX5_append_30 rfl (lv_at hl 1 rfl) ?_
      refine lv_aload_n hx hb dX5_append_31 rfl (lv_at hl 0 rfl) ?_
      refine va_get (D := D) (ci := 5) (v := .ref h2) (C := RX5) (T := TX5) (N := 2) hx hb hts hin_5 hown hK hP 0 rfl rfl 1 (by decide) fl_15 (fun _ h9 => h9) rfl dX5_append_32 ?_
      refine lv_iload_n hx hb dX5_append_35 rfl (lv_at hl 1 rfl) ?_
      refine va_iald (D := D) (f := (upd v.2 ((d).toNatClampNeg) ((v.2 (d).toNatClampNeg) + 1))) hx hb hK hP 2 0 rfl rfl (by exact vi_mk (by omega) (by omega)) dX5_append_36 ?_
      refine lv_iconst (v := 1) hx hb dX5_append_37 (by decide) ?_
      refine lv_isub hx hb dX5_append_38 ?_
      refine lv_iload_n hx hb dX5_append_39 rfl (lv_at hl 2 rfl) ?_
      refine jn_v (W2 := fun u_40 => wStf h0 h1 h2 cI u_40) (va_runV (As := [.int d, .int (((upd v.2 ((d).toNatClampNeg) ((v.2 (d).toNatClampNeg) + 1)) (d).toNatClampNeg) - 1), .int k]) (rest := []) ⟨hx, hb, hml, hown, hts⟩ (c_X5_replace l D cI cJ cZ h0 h1 h2 H.size (v.1, (upd v.2 ((d).toNatClampNeg) ((v.2 (d).toNatClampNeg) + 1))) d (((upd v.2 ((d).toNatClampNeg) ((v.2 (d).toNatClampNeg) + 1)) (d).toNatClampNeg) - 1) k (StfOk_inc hok i_15 a1 a2)) (cwV 3 hts gX5_append_X5_replace rfl rfl rfl (by decide +kernel) ⟨Nat.le_of_ble_eq_true rfl, Nat.le_of_ble_eq_true rfl⟩) (pr_V hP hD hK hN hE hS hA [0, 1, 2] (by decide) rfl (ci := 5) (q0 := 0) rfl rfl) rfl rfl hl.1 rfl (lv_room (Nat.le_of_ble_eq_true rfl)) dX5_append_40 ⟨Nat.zero_le _, Nat.zero_le _⟩) hP hD hS hA [0, 1, 2] [] [0, 1, 2] rfl rfl (by decide) (by decide) (by decide) (fun _ => rfl) (fun u_40 H locs hw_40 hP hD hS => ?_)
      have hP : va_P D vwCl (wStf h0 h1 h2 cI u_40) H := hP
      have hD : va_D A (wStf h0 h1 h2 cI u_40) := hD
      have hu_40 := hw_40
      exact lf_v hx hb hr hlocks hQ u_40 hP hD hS dX5_append_43 (by first | with_reducible rfl | (simp only [sAdd, b_4, if_pos c_15, ← hu_40, ← hr_1, ↓reduceIte, bI_t, bI_f, reduceCtorEq]; done) | (subst_vars; simp only [sAdd, b_4, if_pos c_15, ↓reduceIte, bI_t, bI_f, reduceCtorEq]; done) | (simp [sAdd, b_4, c_15, bI_t, bI_f]; done))
    · have i_15 := i_nlt c_15
      rw [(by decide : (10 : Int32).toInt = 10)] at i_15
      exact lf_v hx hb hr hlocks hQ v hP hD hS dX5_append_18 (by first | with_reducible rfl | (simp only [sAdd, b_4, if_neg c_15, ← hr_1, ↓reduceIte, bI_t, bI_f, reduceCtorEq]; done) | (subst_vars; simp only [sAdd, b_4, if_neg c_15, ↓reduceIte, bI_t, bI_f, reduceCtorEq]; done) | (simp [sAdd, b_4, c_15, bI_t, bI_f]; done))
abbrev rm_X5_mirrored : Room := { frames := 1, cells := 0, slots := 0, locals := 20 }
set_option maxHeartbeats 4000000 in
set_option maxRecDepth 100000 in
theorem c_X5_mirrored (l : Launch) (D : va_G) (cI cJ cZ : ClassId) (sz : Nat) (k : Int32) : Met l yX5_mirrored wsX5_mirrored rm_X5_mirrored (va_Pc [.int k] (PU D (tyL cI cJ cZ) (([] : va_W)) sz)) (va_Qi (fun (rz : Int32) (_ : Unit) => rz = mir k) (fun uz => BU D (([] : va_W)) (va_A (([] : va_W)) sz)) (va_A (([] : va_W)) sz)) 0 0 (va_A (([] : va_W)) sz) := by
  refine en (own := RX5) (Qc := fun A => va_Qi (fun (rz : Int32) (_ : Unit) => rz = mir k) (fun uz => BU D (([] : va_W)) A) A) (by decide) rfl (Nat.le_of_ble_eq_true rfl) rfl ?_
  intro p e s m args below meth c A Q H locs ls hx hb hr hml hown hts hlocks hname hA hN hE hK hQ hP hD hS hl
  have hl : lv_has ls 2 [(0, .int k)] := hl
  have ini_9 := hts (.initialized RX9) (by decide +kernel)
  have stt_X9_directionOf := hts (.static yX9_directionOf) (by decide +kernel)
  refine lv_iload_n hx hb dX5_mirrored_0 rfl (lv_at hl 0 rfl) ?_
  refine lv_iconst (v := 2) hx hb dX5_mirrored_1 (by decide) ?_
  refine lv_icmp_ge (tgt := 7) hx hb dX5_mirrored_2 (by decide) (fun c_2 => ?_) (fun c_2 => ?_)
  · have i_2 := i_le c_2
    rw [(by decide : (2 : Int32).toInt = 2)] at i_2
    refine lv_iload_n hx hb dX5_mirrored_7 rfl (lv_at hl 0 rfl) ?_
    refine lv_bipush (v := 26) hx hb dX5_mirrored_8 (by decide) ?_
    refine lv_icmp_lt (tgt := 18) hx hb dX5_mirrored_10 (by decide) (fun c_10 => ?_) (fun c_10 => ?_)
    · have i_10 := i_lt c_10
      rw [(by decide : (26 : Int32).toInt = 26)] at i_10
      refine lv_bipush (v := 8) hx hb dX5_mirrored_18 (by decide) ?_
      refine lv_iload_n hx hb dX5_mirrored_20 rfl (lv_at hl 0 rfl) ?_
      refine st_i (va_runSN (As := [.int k]) (rest := [.int 8]) ⟨hx, hb, hml, hown, hts⟩ (c_X9_directionOf l D cI cJ cZ H.size k) ⟨va_cnB 1 hts gX5_mirrored_X9_directionOf_n50 rfl rfl rfl (nw_m hN 3 rfl) ini_9 (by decide +kernel) ⟨Nat.le_of_ble_eq_true rfl, Nat.le_of_ble_eq_true rfl⟩, stt_X9_directionOf, trivial⟩ (pr_S hP hD hK hN hE hS hA [] (by decide) rfl) rfl rfl hl.1 rfl (lv_room (Nat.le_of_ble_eq_true rfl)) dX5_mirrored_21 ⟨Nat.zero_le _, Nat.zero_le _⟩) hP hS hA (fun r_21 u_21 H locs hw_21 hP hS => ?_)
      have hr_21 := hw_21
      refine lv_isub hx hb dX5_mirrored_24 ?_
      refine lv_bipush (v := 8) hx hb dX5_mirrored_25 (by decide) ?_
      refine lv_irem hx hb dX5_mirrored_27 (by decide) ?_
      refine lv_istore_n (lv' := [(1, .int ((8 - r_21) - (8 - r_21) / 8 * 8)), (0, .int k)]) hx hb dX5_mirrored_28 rfl hl (by decide) rfl (fun ls hl => ?_)
      refine lv_iload_n hx hb dX5_mirrored_29 rfl (lv_at hl 1 rfl) ?_
      refine lv_bipush (v := 10) hx hb dX5_mirrored_30 (by decide) ?_
      refine lv_icmp_ge (tgt := 40) hx hb dX5_mirrored_32 (by decide) (fun c_32 => ?_) (fun c_32 => ?_)
      · have i_32 := i_le c_32
        rw [(by decide : (10 : Int32).toInt = 10)] at i_32
        refine lv_iload_n hx hb dX5_mirrored_40 rfl (lv_at hl 1 rfl) ?_
        refine lv_bipush (v := 18) hx hb dX5_mirrored_41 (by decide) ?_
        refine lv_icmp_ge (tgt := 50) hx hb dX5_mirrored_43 (by decide) (fun c_43 => ?_) (fun c_43 => ?_)
        · have i_43 := i_le c_43
          rw [(by decide : (18 : Int32).toInt = 18)] at i_43
          refine lv_bipush (v := 18) hx hb dX5_mirrored_50 (by decide) ?_
          refine lv_iload_n hx hb dX5_mirrored_52 rfl (lv_at hl 0 rfl) ?_
          refine lv_iadd hx hb dX5_mirrored_53 ?_
          exact lf_i hx hb hr hlocks hQ () hP hD hS dX5_mirrored_54 (by first | with_reducible rfl | (simp only [mir, if_pos c_2, if_pos c_10, if_pos c_32, if_pos c_43, ← hr_21, ↓reduceIte, bI_t, bI_f, reduceCtorEq]; done) | (subst_vars; simp only [mir, if_pos c_2, if_pos c_10, if_pos c_32, if_pos c_43, ↓reduceIte, bI_t, bI_f, reduceCtorEq]; done) | (simp [mir, c_2, c_10, c_32, c_43, bI_t, bI_f]; done))
        · have i_43 := i_nle c_43
          rw [(by decide : (18 : Int32).toInt = 18)] at i_43
          refine lv_iconst (v := 2) hx hb dX5_mirrored_46 (by decide) ?_
          refine lv_goto (tgt := 52) hx hb dX5_mirrored_47 (by decide) ?_
          refine lv_iload_n hx hb dX5_mirrored_52 rfl (lv_at hl 0 rfl) ?_
          refine lv_iadd hx hb dX5_mirrored_53 ?_
          exact lf_i hx hb hr hlocks hQ () hP hD hS dX5_mirrored_54 (by first | with_reducible rfl | (simp only [mir, if_pos c_2, if_pos c_10, if_pos c_32, if_neg c_43, ← hr_21, ↓reduceIte, bI_t, bI_f, reduceCtorEq]; done) | (subst_vars; simp only [mir, if_pos c_2, if_pos c_10, if_pos c_32, if_neg c_43, ↓reduceIte, bI_t, bI_f, reduceCtorEq]; done) | (simp [mir, c_2, c_10, c_32, c_43, bI_t, bI_f]; done))
      · have i_32 := i_nle c_32
        rw [(by decide : (10 : Int32).toInt = 10)] at i_32
        refine lv_bipush (v := 10) hx hb dX5_mirrored_35 (by decide) ?_
        refine lv_iload_n hx hb dX5_mirrored_37 rfl (lv_at hl 0 rfl) ?_
        refine lv_iadd hx hb dX5_mirrored_38 ?_
        exact lf_i hx hb hr hlocks hQ () hP hD hS dX5_mirrored_39 (by first | with_reducible rfl | (simp only [mir, if_pos c_2, if_pos c_10, if_neg c_32, ← hr_21, ↓reduceIte, bI_t, bI_f, reduceCtorEq]; done) | (subst_vars; simp only [mir, if_pos c_2, if_pos c_10, if_neg c_32, ↓reduceIte, bI_t, bI_f, reduceCtorEq]; done) | (simp [mir, c_2, c_10, c_32, bI_t, bI_f]; done))
    · have i_10 := i_nlt c_10
      rw [(by decide : (26 : Int32).toInt = 26)] at i_10
      refine lv_bipush (v := 58) hx hb dX5_mirrored_13 (by decide) ?_
      refine lv_iload_n hx hb dX5_mirrored_15 rfl (lv_at hl 0 rfl) ?_
      refine lv_isub hx hb dX5_mirrored_16 ?_
      exact lf_i hx hb hr hlocks hQ () hP hD hS dX5_mirrored_17 (by first | with_reducible rfl | (simp only [mir, if_pos c_2, if_neg c_10, ↓reduceIte, bI_t, bI_f, reduceCtorEq]; done) | (subst_vars; simp only [mir, if_pos c_2, if_neg c_10, ↓reduceIte, bI_t, bI_f, reduceCtorEq]; done) | (simp [mir, c_2, c_10, bI_t, bI_f]; done))
  · have i_2 := i_nle c_2
    rw [(by decide : (2 : Int32).toInt = 2)] at i_2
    refine lv_iload_n hx hb dX5_mirrored_5 rfl (lv_at hl 0 rfl) ?_
    exact lf_i hx hb hr hlocks hQ () hP hD hS dX5_mirrored_6 (by first | with_reducible rfl | (simp only [mir, if_neg c_2, ↓reduceIte, bI_t, bI_f, reduceCtorEq]; done) | (subst_vars; simp only [mir, if_neg c_2, ↓reduceIte, bI_t, bI_f, reduceCtorEq]; done) | (simp [mir, c_2, bI_t, bI_f]; done))
abbrev rm_X5_mirror : Room := { frames := 3, cells := 0, slots := 0, locals := 65 }
set_option maxHeartbeats 4000000 in
set_option maxRecDepth 100000 in
theorem c_X5_mirror (l : Launch) (D : va_G) (cI cJ cZ : ClassId) (h0 : Nat) (h1 : Nat) (h2 : Nat) (sz : Nat) (v : Stf) (d : Int32) (hok : StfOk v) : Met l yX5_mirror wsX5_mirror rm_X5_mirror (va_Pc [.ref h0, .int d] (PU D (tyL cI cJ cZ) (wStf h0 h1 h2 cI v) sz)) (va_Qv (fun (uz : Stf) => uz = mirL v d (sLen v d).toNatClampNeg) (fun uz => BU D (wStf h0 h1 h2 cI uz) (va_A (wStf h0 h1 h2 cI v) sz)) (va_A (wStf h0 h1 h2 cI v) sz)) 0 0 (va_A (wStf h0 h1 h2 cI v) sz) := by
  refine en (own := RX5) (Qc := fun A => va_Qv (fun (uz : Stf) => uz = mirL v d (sLen v d).toNatClampNeg) (fun uz => BU D (wStf h0 h1 h2 cI uz) A) A) (by decide) rfl (Nat.le_of_ble_eq_true rfl) rfl ?_
  intro p e s m args below meth c A Q H locs ls hx hb hr hml hown hts hlocks hname hA hN hE hK hQ hP hD hS hl
  have hl : lv_has ls 3 [(0, .ref h0), (1, .int d)] := hl
  have hlen := sLen_in hok d
  have hcl := clampT hlen.1
  refine lv_iconst (v := 0) hx hb dX5_mirror_0 (by decide) ?_
  refine lv_istore_n (lv' := [(2, .int 0), (0, .ref h0), (1, .int d)]) hx hb dX5_mirror_1 rfl hl (by decide) rfl (fun ls hl => ?_)
  have LB_2 : ∀ (n : Nat) (i : Nat) (hn_i : (sLen v d).toNatClampNeg < i + n) (hi_i : i ≤ (sLen v d).toNatClampNeg) (H : Heap) (locs : List Loc) (_ : va_P D vwCl (wStf h0 h1 h2 cI (mirL v d i)) H) (_ : va_D A (wStf h0 h1 h2 cI (mirL v d i))) (_ : va_S A s.heap H locs) (ls : Array Slot) (_ : lv_has ls 3 [(0, .ref h0), (1, .int d), (2, .int (nI i))]), W p l e rm_X5_mirror s m args below meth c H locs 0 0 Q (F0 m 2 ls []) := by
    intro n
    induction n with
    | zero =>
      intro i hn_i hi_i
      exact absurd hn_i (by omega)
    | succ n LB_2 =>
      intro i hn_i hi_i H locs hP hD hS ls hl
      refine lv_iload_n hx hb dX5_mirror_2 rfl (lv_at hl 2 rfl) ?_
      refine lv_aload_n hx hb dX5_mirror_3 rfl (lv_at hl 0 rfl) ?_
      refine lv_iload_n hx hb dX5_mirror_4 rfl (lv_at hl 1 rfl) ?_
      refine jn_i (W2 := fun _ => wStf h0 h1 h2 cI (mirL v d i)) (va_runV (As := [.int d]) (rest := [.int (nI i)]) ⟨hx, hb, hml, hown, hts⟩ (c_X5_lengthOf l D cI cJ cZ h0 h1 h2 H.size (mirL v d i) d) (cwV 1 hts gX5_mirror_X5_lengthOf rfl rfl rfl (by decide +kernel) ⟨Nat.le_of_ble_eq_true rfl, Nat.le_of_ble_eq_true rfl⟩) (pr_V hP hD hK hN hE hS hA [0, 1, 2] (by decide) rfl (ci := 5) (q0 := 0) rfl rfl) rfl rfl hl.1 rfl (lv_room (Nat.le_of_ble_eq_true rfl)) dX5_mirror_5 ⟨Nat.zero_le _, Nat.zero_le _⟩) hP hD hS hA [0, 1, 2] [] [0, 1, 2] rfl rfl (by decide) (by decide) (by decide) (fun _ => rfl) (fun r_5 u_5 H locs hw_5 hP hD hS => ?_)
      have hP : va_P D vwCl (wStf h0 h1 h2 cI (mirL v d i)) H := hP
      have hD : va_D A (wStf h0 h1 h2 cI (mirL v d i)) := hD
      have hr_5 := hw_5
      have el_8 : sLen (mirL v d i) d = sLen v d := sLen_2 (mirL_2 v d i) d
      rw [el_8] at hr_5
      have hr5t := i_eq hr_5
      refine lv_icmp_ge (tgt := 32) hx hb dX5_mirror_8 (by decide) (fun c_8 => ?_) (fun c_8 => ?_)
      · have i_8 := i_le c_8
        rw [nIT (by omega)] at i_8
        have e_8 : i = (sLen v d).toNatClampNeg := by omega
        exact lf_v hx hb hr hlocks hQ (mirL v d i) hP hD hS dX5_mirror_32 (by rw [e_8])
      · have i_8 := i_nle c_8
        rw [nIT (by omega)] at i_8
        refine lv_aload_n hx hb dX5_mirror_11 rfl (lv_at hl 0 rfl) ?_
        refine lv_iload_n hx hb dX5_mirror_12 rfl (lv_at hl 1 rfl) ?_
        refine lv_iload_n hx hb dX5_mirror_13 rfl (lv_at hl 2 rfl) ?_
        refine lv_aload_n hx hb dX5_mirror_14 rfl (lv_at hl 0 rfl) ?_
        refine lv_iload_n hx hb dX5_mirror_15 rfl (lv_at hl 1 rfl) ?_
        refine lv_iload_n hx hb dX5_mirror_16 rfl (lv_at hl 2 rfl) ?_
        refine jn_i (W2 := fun _ => wStf h0 h1 h2 cI (mirL v d i)) (va_runV (As := [.int d, .int (nI i)]) (rest := [.int (nI i), .int d, .ref h0]) ⟨hx, hb, hml, hown, hts⟩ (c_X5_signAt l D cI cJ cZ h0 h1 h2 H.size (mirL v d i) d (nI i) (StfOk_2 (mirL_2 v d i) hok)) (cwV 2 hts gX5_mirror_X5_signAt rfl rfl rfl (by decide +kernel) ⟨Nat.le_of_ble_eq_true rfl, Nat.le_of_ble_eq_true rfl⟩) (pr_V hP hD hK hN hE hS hA [0, 1, 2] (by decide) rfl (ci := 5) (q0 := 0) rfl rfl) rfl rfl hl.1 rfl (lv_room (Nat.le_of_ble_eq_true rfl)) dX5_mirror_17 ⟨Nat.zero_le _, Nat.zero_le _⟩) hP hD hS hA [0, 1, 2] [] [0, 1, 2] rfl rfl (by decide) (by decide) (by decide) (fun _ => rfl) (fun r_17 u_17 H locs hw_17 hP hD hS => ?_)
        have hP : va_P D vwCl (wStf h0 h1 h2 cI (mirL v d i)) H := hP
        have hD : va_D A (wStf h0 h1 h2 cI (mirL v d i)) := hD
        have hr_17 := hw_17
        refine st_i (va_runS (As := [.int r_17]) (rest := [.int (nI i), .int d, .ref h0]) ⟨hx, hb, hml, hown, hts⟩ (c_X5_mirrored l D cI cJ cZ H.size r_17) (va_cwS 1 hts gX5_mirror_X5_mirrored rfl rfl rfl (by decide +kernel) ⟨Nat.le_of_ble_eq_true rfl, Nat.le_of_ble_eq_true rfl⟩) (pr_S hP hD hK hN hE hS hA [] (by decide) rfl) rfl rfl hl.1 rfl (lv_room (Nat.le_of_ble_eq_true rfl)) dX5_mirror_20 ⟨Nat.zero_le _, Nat.zero_le _⟩) hP hS hA (fun r_20 u_20 H locs hw_20 hP hS => ?_)
        have hr_20 := hw_20
        refine jn_v (W2 := fun u_23 => wStf h0 h1 h2 cI u_23) (va_runV (As := [.int d, .int (nI i), .int r_20]) (rest := []) ⟨hx, hb, hml, hown, hts⟩ (c_X5_replace l D cI cJ cZ h0 h1 h2 H.size (mirL v d i) d (nI i) r_20 (StfOk_2 (mirL_2 v d i) hok)) (cwV 3 hts gX5_mirror_X5_replace rfl rfl rfl (by decide +kernel) ⟨Nat.le_of_ble_eq_true rfl, Nat.le_of_ble_eq_true rfl⟩) (pr_V hP hD hK hN hE hS hA [0, 1, 2] (by decide) rfl (ci := 5) (q0 := 0) rfl rfl) rfl rfl hl.1 rfl (lv_room (Nat.le_of_ble_eq_true rfl)) dX5_mirror_23 ⟨Nat.zero_le _, Nat.zero_le _⟩) hP hD hS hA [0, 1, 2] [] [0, 1, 2] rfl rfl (by decide) (by decide) (by decide) (fun _ => rfl) (fun u_23 H locs hw_23 hP hD hS => ?_)
        have hP : va_P D vwCl (wStf h0 h1 h2 cI u_23) H := hP
        have hD : va_D A (wStf h0 h1 h2 cI u_23) := hD
        have hu_23 := hw_23
        refine lv_iinc (v := ((nI i) + 1)) (lv' := [(2, .int ((nI i) + 1)), (0, .ref h0), (1, .int d)]) hx hb dX5_mirror_26 hl (k := 2) rfl rfl (by decide) rfl (fun ls hl => ?_)
        rw [show nI i + 1 = nI (i + 1) from nI_1 _] at hl
        have hl : lv_has ls 3 [(2, .int (nI (i + 1))), (0, .ref h0), (1, .int d)] := hl
        have eg_29 : u_23 = (mirL v d (i + 1)) := by rw [hu_23, hr_20, hr_17]; rfl
        rw [eg_29] at hP hD
        have hP : va_P D vwCl (wStf h0 h1 h2 cI (mirL v d (i + 1))) H := hP
        have hD : va_D A (wStf h0 h1 h2 cI (mirL v d (i + 1))) := hD
        refine lv_goto (tgt := 2) hx hb dX5_mirror_29 (by decide) ?_
        exact LB_2 (i + 1) (by omega) (by omega) H locs hP hD hS ls (lv_sub hl [1, 2, 0] rfl)
  exact LB_2 ((sLen v d).toNatClampNeg + 1) 0 (by omega) (by omega) H locs hP hD hS ls (lv_sub hl [1, 2, 0] rfl)
abbrev rm_X5_makeCanon : Room := { frames := 3, cells := 0, slots := 0, locals := 65 }
set_option maxHeartbeats 4000000 in
set_option maxRecDepth 100000 in
theorem c_X5_makeCanon (l : Launch) (D : va_G) (cI cJ cZ : ClassId) (h0 : Nat) (h1 : Nat) (h2 : Nat) (sz : Nat) (v : Stf) (d : Int32) (o : Int32) (r : Int32) (hok : StfOk v) : Met l yX5_makeCanon wsX5_makeCanon rm_X5_makeCanon (va_Pc [.ref h0, .int d, .int o, .int r] (PU D (tyL cI cJ cZ) (wStf h0 h1 h2 cI v) sz)) (va_Qv (fun (uz : Stf) => uz = canon v d o r) (fun uz => BU D (wStf h0 h1 h2 cI uz) (va_A (wStf h0 h1 h2 cI v) sz)) (va_A (wStf h0 h1 h2 cI v) sz)) 0 0 (va_A (wStf h0 h1 h2 cI v) sz) := by
  refine en (own := RX5) (Qc := fun A => va_Qv (fun (uz : Stf) => uz = canon v d o r) (fun uz => BU D (wStf h0 h1 h2 cI uz) A) A) (by decide) rfl (Nat.le_of_ble_eq_true rfl) rfl ?_
  intro p e s m args below meth c A Q H locs ls hx hb hr hml hown hts hlocks hname hA hN hE hK hQ hP hD hS hl
  have hl : lv_has ls 5 [(0, .ref h0), (1, .int d), (2, .int o), (3, .int r)] := hl
  have ml_41 := hts (.methodLink RX5 41 Lib.Math.min.name) (by decide +kernel)
  have ms_min := hts (.static Lib.Math.min.name) (by decide +kernel)
  have mi := hts (.initialized "java/lang/Math") (by decide +kernel)
  have mc_min := hts (.code Lib.Math.min.name Lib.Math.min.code 2 (some .int)) (by decide +kernel)
  have hok0 : StfOk (sSet v d (mn 10 (r + sLen v o))) := sSet_ok hok _ _
  have hlen := sLen_in hok0 d
  have hcl := clampT hlen.1
  refine lv_aload_n hx hb dX5_makeCanon_0 rfl (lv_at hl 0 rfl) ?_
  refine lv_iload_n hx hb dX5_makeCanon_1 rfl (lv_at hl 1 rfl) ?_
  refine lv_bipush (v := 10) hx hb dX5_makeCanon_2 (by decide) ?_
  refine lv_iload_n hx hb dX5_makeCanon_4 rfl (lv_at hl 3 rfl) ?_
  refine lv_aload_n hx hb dX5_makeCanon_5 rfl (lv_at hl 0 rfl) ?_
  refine lv_iload_n hx hb dX5_makeCanon_6 rfl (lv_at hl 2 rfl) ?_
  refine jn_i (W2 := fun _ => wStf h0 h1 h2 cI v) (va_runV (As := [.int o]) (rest := [.int r, .int 10, .int d, .ref h0]) ⟨hx, hb, hml, hown, hts⟩ (c_X5_lengthOf l D cI cJ cZ h0 h1 h2 H.size v o) (cwV 1 hts gX5_makeCanon_X5_lengthOf rfl rfl rfl (by decide +kernel) ⟨Nat.le_of_ble_eq_true rfl, Nat.le_of_ble_eq_true rfl⟩) (pr_V hP hD hK hN hE hS hA [0, 1, 2] (by decide) rfl (ci := 5) (q0 := 0) rfl rfl) rfl rfl hl.1 rfl (lv_room (Nat.le_of_ble_eq_true rfl)) dX5_makeCanon_7 ⟨Nat.zero_le _, Nat.zero_le _⟩) hP hD hS hA [0, 1, 2] [] [0, 1, 2] rfl rfl (by decide) (by decide) (by decide) (fun _ => rfl) (fun r_7 u_7 H locs hw_7 hP hD hS => ?_)
  have hP : va_P D vwCl (wStf h0 h1 h2 cI v) H := hP
  have hD : va_D A (wStf h0 h1 h2 cI v) := hD
  have hr_7 := hw_7
  refine lv_iadd hx hb dX5_makeCanon_10 ?_
  refine va_mmin hx hb (by rw [hml]; exact hl.1.symm) hown ml_41 ms_min mi mc_min (Nat.le_of_ble_eq_true rfl) (Nat.le_of_ble_eq_true rfl) (Nat.zero_le _) (Nat.zero_le _) dX5_makeCanon_11 ?_
  refine jn_v (W2 := fun u_14 => wStf h0 h1 h2 cI u_14) (va_runV (As := [.int d, .int (if (r + r_7) < 10 then (r + r_7) else 10)]) (rest := []) ⟨hx, hb, hml, hown, hts⟩ (c_X5_setLength l D cI cJ cZ h0 h1 h2 H.size v d (if (r + r_7) < 10 then (r + r_7) else 10)) (cwV 2 hts gX5_makeCanon_X5_setLength rfl rfl rfl (by decide +kernel) ⟨Nat.le_of_ble_eq_true rfl, Nat.le_of_ble_eq_true rfl⟩) (pr_V hP hD hK hN hE hS hA [0, 1, 2] (by decide) rfl (ci := 5) (q0 := 0) rfl rfl) rfl rfl hl.1 rfl (lv_room (Nat.le_of_ble_eq_true rfl)) dX5_makeCanon_14 ⟨Nat.zero_le _, Nat.zero_le _⟩) hP hD hS hA [0, 1, 2] [] [0, 1, 2] rfl rfl (by decide) (by decide) (by decide) (fun _ => rfl) (fun u_14 H locs hw_14 hP hD hS => ?_)
  have hP : va_P D vwCl (wStf h0 h1 h2 cI u_14) H := hP
  have hD : va_D A (wStf h0 h1 h2 cI u_14) := hD
  have hu_14 := hw_14
  have eg_17 : u_14 = (sSet v d (mn 10 (r + sLen v o))) := by rw [hu_14, hr_7]; rfl
  rw [eg_17] at hP hD
  have hP : va_P D vwCl (wStf h0 h1 h2 cI (sSet v d (mn 10 (r + sLen v o)))) H := hP
  have hD : va_D A (wStf h0 h1 h2 cI (sSet v d (mn 10 (r + sLen v o)))) := hD
  refine lv_iconst (v := 0) hx hb dX5_makeCanon_17 (by decide) ?_
  refine lv_istore (lv' := [(4, .int 0), (0, .ref h0), (1, .int d), (2, .int o), (3, .int r)]) hx hb dX5_makeCanon_18 hl (by decide) rfl (fun ls hl => ?_)
  have LB_20 : ∀ (n : Nat) (i : Nat) (hn_i : (sLen (sSet v d (mn 10 (r + sLen v o))) d).toNatClampNeg < i + n) (hi_i : i ≤ (sLen (sSet v d (mn 10 (r + sLen v o))) d).toNatClampNeg) (H : Heap) (locs : List Loc) (_ : va_P D vwCl (wStf h0 h1 h2 cI (canL (sSet v d (mn 10 (r + sLen v o))) d o r i)) H) (_ : va_D A (wStf h0 h1 h2 cI (canL (sSet v d (mn 10 (r + sLen v o))) d o r i))) (_ : va_S A s.heap H locs) (ls : Array Slot) (_ : lv_has ls 5 [(0, .ref h0), (1, .int d), (2, .int o), (3, .int r), (4, .int (nI i))]), W p l e rm_X5_makeCanon s m args below meth c H locs 0 0 Q (F0 m 20 ls []) := by
    intro n
    induction n with
    | zero =>
      intro i hn_i hi_i
      exact absurd hn_i (by omega)
    | succ n LB_20 =>
      intro i hn_i hi_i H locs hP hD hS ls hl
      refine lv_iload hx hb dX5_makeCanon_20 (lv_at hl 4 rfl) ?_
      refine lv_aload_n hx hb dX5_makeCanon_22 rfl (lv_at hl 0 rfl) ?_
      refine lv_iload_n hx hb dX5_makeCanon_23 rfl (lv_at hl 1 rfl) ?_
      refine jn_i (W2 := fun _ => wStf h0 h1 h2 cI (canL (sSet v d (mn 10 (r + sLen v o))) d o r i)) (va_runV (As := [.int d]) (rest := [.int (nI i)]) ⟨hx, hb, hml, hown, hts⟩ (c_X5_lengthOf l D cI cJ cZ h0 h1 h2 H.size (canL (sSet v d (mn 10 (r + sLen v o))) d o r i) d) (cwV 1 hts gX5_makeCanon_X5_lengthOf rfl rfl rfl (by decide +kernel) ⟨Nat.le_of_ble_eq_true rfl, Nat.le_of_ble_eq_true rfl⟩) (pr_V hP hD hK hN hE hS hA [0, 1, 2] (by decide) rfl (ci := 5) (q0 := 0) rfl rfl) rfl rfl hl.1 rfl (lv_room (Nat.le_of_ble_eq_true rfl)) dX5_makeCanon_24 ⟨Nat.zero_le _, Nat.zero_le _⟩) hP hD hS hA [0, 1, 2] [] [0, 1, 2] rfl rfl (by decide) (by decide) (by decide) (fun _ => rfl) (fun r_24 u_24 H locs hw_24 hP hD hS => ?_)
      have hP : va_P D vwCl (wStf h0 h1 h2 cI (canL (sSet v d (mn 10 (r + sLen v o))) d o r i)) H := hP
      have hD : va_D A (wStf h0 h1 h2 cI (canL (sSet v d (mn 10 (r + sLen v o))) d o r i)) := hD
      have hr_24 := hw_24
      have el_27 : sLen (canL (sSet v d (mn 10 (r + sLen v o))) d o r i) d = sLen (sSet v d (mn 10 (r + sLen v o))) d := sLen_2 (canL_2 _ _ _ _ _) d
      rw [el_27] at hr_24
      have hr24t := i_eq hr_24
      refine lv_icmp_ge (tgt := 62) hx hb dX5_makeCanon_27 (by decide) (fun c_27 => ?_) (fun c_27 => ?_)
      · have i_27 := i_le c_27
        rw [nIT (by omega)] at i_27
        have e_27 : i = (sLen (sSet v d (mn 10 (r + sLen v o))) d).toNatClampNeg := by omega
        exact lf_v hx hb hr hlocks hQ (canL (sSet v d (mn 10 (r + sLen v o))) d o r i) hP hD hS dX5_makeCanon_62 (by rw [e_27]; rfl)
      · have i_27 := i_nle c_27
        rw [nIT (by omega)] at i_27
        refine lv_aload_n hx hb dX5_makeCanon_30 rfl (lv_at hl 0 rfl) ?_
        refine lv_iload_n hx hb dX5_makeCanon_31 rfl (lv_at hl 1 rfl) ?_
        refine lv_iload hx hb dX5_makeCanon_32 (lv_at hl 4 rfl) ?_
        refine lv_iload hx hb dX5_makeCanon_34 (lv_at hl 4 rfl) ?_
        refine lv_iload_n hx hb dX5_makeCanon_36 rfl (lv_at hl 3 rfl) ?_
        refine lv_icmp_ge (tgt := 44) hx hb dX5_makeCanon_37 (by decide) (fun c_37 => ?_) (fun c_37 => ?_)
        · have i_37 := i_le c_37
          refine lv_aload_n hx hb dX5_makeCanon_44 rfl (lv_at hl 0 rfl) ?_
          refine lv_iload_n hx hb dX5_makeCanon_45 rfl (lv_at hl 2 rfl) ?_
          refine lv_iload hx hb dX5_makeCanon_46 (lv_at hl 4 rfl) ?_
          refine lv_iload_n hx hb dX5_makeCanon_48 rfl (lv_at hl 3 rfl) ?_
          refine lv_isub hx hb dX5_makeCanon_49 ?_
          refine jn_i (W2 := fun _ => wStf h0 h1 h2 cI (canL (sSet v d (mn 10 (r + sLen v o))) d o r i)) (va_runV (As := [.int o, .int ((nI i) - r)]) (rest := [.int (nI i), .int d, .ref h0]) ⟨hx, hb, hml, hown, hts⟩ (c_X5_signAt l D cI cJ cZ h0 h1 h2 H.size (canL (sSet v d (mn 10 (r + sLen v o))) d o r i) o ((nI i) - r) (StfOk_2 (canL_2 _ _ _ _ _) hok0)) (cwV 2 hts gX5_makeCanon_X5_signAt rfl rfl rfl (by decide +kernel) ⟨Nat.le_of_ble_eq_true rfl, Nat.le_of_ble_eq_true rfl⟩) (pr_V hP hD hK hN hE hS hA [0, 1, 2] (by decide) rfl (ci := 5) (q0 := 0) rfl rfl) rfl rfl hl.1 rfl (lv_room (Nat.le_of_ble_eq_true rfl)) dX5_makeCanon_50 ⟨Nat.zero_le _, Nat.zero_le _⟩) hP hD hS hA [0, 1, 2] [] [0, 1, 2] rfl rfl (by decide) (by decide) (by decide) (fun _ => rfl) (fun r_50 u_50 H locs hw_50 hP hD hS => ?_)
          have hP : va_P D vwCl (wStf h0 h1 h2 cI (canL (sSet v d (mn 10 (r + sLen v o))) d o r i)) H := hP
          have hD : va_D A (wStf h0 h1 h2 cI (canL (sSet v d (mn 10 (r + sLen v o))) d o r i)) := hD
          have hr_50 := hw_50
          refine jn_v (W2 := fun u_53 => wStf h0 h1 h2 cI u_53) (va_runV (As := [.int d, .int (nI i), .int r_50]) (rest := []) ⟨hx, hb, hml, hown, hts⟩ (c_X5_replace l D cI cJ cZ h0 h1 h2 H.size (canL (sSet v d (mn 10 (r + sLen v o))) d o r i) d (nI i) r_50 (StfOk_2 (canL_2 _ _ _ _ _) hok0)) (cwV 3 hts gX5_makeCanon_X5_replace rfl rfl rfl (by decide +kernel) ⟨Nat.le_of_ble_eq_true rfl, Nat.le_of_ble_eq_true rfl⟩) (pr_V hP hD hK hN hE hS hA [0, 1, 2] (by decide) rfl (ci := 5) (q0 := 0) rfl rfl) rfl rfl hl.1 rfl (lv_room (Nat.le_of_ble_eq_true rfl)) dX5_makeCanon_53 ⟨Nat.zero_le _, Nat.zero_le _⟩) hP hD hS hA [0, 1, 2] [] [0, 1, 2] rfl rfl (by decide) (by decide) (by decide) (fun _ => rfl) (fun u_53 H locs hw_53 hP hD hS => ?_)
          have hP : va_P D vwCl (wStf h0 h1 h2 cI u_53) H := hP
          have hD : va_D A (wStf h0 h1 h2 cI u_53) := hD
          have hu_53 := hw_53
          refine lv_iinc (v := ((nI i) + 1)) (lv' := [(4, .int ((nI i) + 1)), (0, .ref h0), (1, .int d), (2, .int o), (3, .int r)]) hx hb dX5_makeCanon_56 hl (k := 4) rfl rfl (by decide) rfl (fun ls hl => ?_)
          rw [show nI i + 1 = nI (i + 1) from nI_1 _] at hl
          have hl : lv_has ls 5 [(4, .int (nI (i + 1))), (0, .ref h0), (1, .int d), (2, .int o), (3, .int r)] := hl
          have eg_59 : u_53 = (canL (sSet v d (mn 10 (r + sLen v o))) d o r (i + 1)) := by simp only [canL, if_neg c_27, if_pos c_37, ← hu_53, ← hr_50, ← hr_24, ↓reduceIte]
          rw [eg_59] at hP hD
          have hP : va_P D vwCl (wStf h0 h1 h2 cI (canL (sSet v d (mn 10 (r + sLen v o))) d o r (i + 1))) H := hP
          have hD : va_D A (wStf h0 h1 h2 cI (canL (sSet v d (mn 10 (r + sLen v o))) d o r (i + 1))) := hD
          refine lv_goto (tgt := 20) hx hb dX5_makeCanon_59 (by decide) ?_
          exact LB_20 (i + 1) (by omega) (by omega) H locs hP hD hS ls (lv_sub hl [1, 2, 3, 4, 0] rfl)
        · have i_37 := i_nle c_37
          refine lv_iconst (v := 0) hx hb dX5_makeCanon_40 (by decide) ?_
          refine lv_goto (tgt := 53) hx hb dX5_makeCanon_41 (by decide) ?_
          refine jn_v (W2 := fun u_53 => wStf h0 h1 h2 cI u_53) (va_runV (As := [.int d, .int (nI i), .int 0]) (rest := []) ⟨hx, hb, hml, hown, hts⟩ (c_X5_replace l D cI cJ cZ h0 h1 h2 H.size (canL (sSet v d (mn 10 (r + sLen v o))) d o r i) d (nI i) 0 (StfOk_2 (canL_2 _ _ _ _ _) hok0)) (cwV 3 hts gX5_makeCanon_X5_replace rfl rfl rfl (by decide +kernel) ⟨Nat.le_of_ble_eq_true rfl, Nat.le_of_ble_eq_true rfl⟩) (pr_V hP hD hK hN hE hS hA [0, 1, 2] (by decide) rfl (ci := 5) (q0 := 0) rfl rfl) rfl rfl hl.1 rfl (lv_room (Nat.le_of_ble_eq_true rfl)) dX5_makeCanon_53 ⟨Nat.zero_le _, Nat.zero_le _⟩) hP hD hS hA [0, 1, 2] [] [0, 1, 2] rfl rfl (by decide) (by decide) (by decide) (fun _ => rfl) (fun u_53 H locs hw_53 hP hD hS => ?_)
          have hP : va_P D vwCl (wStf h0 h1 h2 cI u_53) H := hP
          have hD : va_D A (wStf h0 h1 h2 cI u_53) := hD
          have hu_53 := hw_53
          refine lv_iinc (v := ((nI i) + 1)) (lv' := [(4, .int ((nI i) + 1)), (0, .ref h0), (1, .int d), (2, .int o), (3, .int r)]) hx hb dX5_makeCanon_56 hl (k := 4) rfl rfl (by decide) rfl (fun ls hl => ?_)
          rw [show nI i + 1 = nI (i + 1) from nI_1 _] at hl
          have hl : lv_has ls 5 [(4, .int (nI (i + 1))), (0, .ref h0), (1, .int d), (2, .int o), (3, .int r)] := hl
          have eg_59 : u_53 = (canL (sSet v d (mn 10 (r + sLen v o))) d o r (i + 1)) := by simp only [canL, if_neg c_27, if_neg c_37, ← hu_53, ← hr_24, ↓reduceIte]
          rw [eg_59] at hP hD
          have hP : va_P D vwCl (wStf h0 h1 h2 cI (canL (sSet v d (mn 10 (r + sLen v o))) d o r (i + 1))) H := hP
          have hD : va_D A (wStf h0 h1 h2 cI (canL (sSet v d (mn 10 (r + sLen v o))) d o r (i + 1))) := hD
          refine lv_goto (tgt := 20) hx hb dX5_makeCanon_59 (by decide) ?_
          exact LB_20 (i + 1) (by omega) (by omega) H locs hP hD hS ls (lv_sub hl [1, 2, 3, 4, 0] rfl)
  exact LB_20 ((sLen (sSet v d (mn 10 (r + sLen v o))) d).toNatClampNeg + 1) 0 (by omega) (by omega) H locs hP hD hS ls (lv_sub hl [1, 2, 3, 4, 0] rfl)
abbrev rm_X5_copyFrom : Room := { frames := 3, cells := 0, slots := 0, locals := 65 }
set_option maxHeartbeats 4000000 in
set_option maxRecDepth 100000 in
theorem c_X5_copyFrom (l : Launch) (D : va_G) (cI cJ cZ : ClassId) (h0 : Nat) (h1 : Nat) (h2 : Nat) (g0 : Nat) (g1 : Nat) (g2 : Nat) (sz : Nat) (v : Stf) (w : Stf) (hok : StfOk v) (hwk : StfOk w) : Met l yX5_copyFrom wsX5_copyFrom rm_X5_copyFrom (va_Pc [.ref h0, .ref g0] (PU D (tyL cI cJ cZ) (wStf h0 h1 h2 cI v ++ wStf g0 g1 g2 cI w) sz)) (va_Qv (fun (uz : Stf) => uz = cpO v w 3) (fun uz => BU D (wStf h0 h1 h2 cI uz ++ wStf g0 g1 g2 cI w) (va_A (wStf h0 h1 h2 cI v ++ wStf g0 g1 g2 cI w) sz)) (va_A (wStf h0 h1 h2 cI v ++ wStf g0 g1 g2 cI w) sz)) 0 0 (va_A (wStf h0 h1 h2 cI v ++ wStf g0 g1 g2 cI w) sz) := by
  refine en (own := RX5) (Qc := fun A => va_Qv (fun (uz : Stf) => uz = cpO v w 3) (fun uz => BU D (wStf h0 h1 h2 cI uz ++ wStf g0 g1 g2 cI w) A) A) (by decide) rfl (Nat.le_of_ble_eq_true rfl) rfl ?_
  intro p e s m args below meth c A Q H locs ls hx hb hr hml hown hts hlocks hname hA hN hE hK hQ hP hD hS hl
  have hl : lv_has ls 4 [(0, .ref h0), (1, .ref g0)] := hl
  refine lv_iconst (v := 0) hx hb dX5_copyFrom_0 (by decide) ?_
  refine lv_istore_n (lv' := [(2, .int 0), (0, .ref h0), (1, .ref g0)]) hx hb dX5_copyFrom_1 rfl hl (by decide) rfl (fun ls hl => ?_)
  have LB_2 : ∀ (n : Nat) (i : Nat) (hn_i : 3 < i + n) (hi_i : i ≤ 3) (H : Heap) (locs : List Loc) (_ : va_P D vwCl (wStf h0 h1 h2 cI (cpO v w i) ++ wStf g0 g1 g2 cI w) H) (_ : va_D A (wStf h0 h1 h2 cI (cpO v w i) ++ wStf g0 g1 g2 cI w)) (_ : va_S A s.heap H locs) (ls : Array Slot) (_ : lv_has ls 4 [(0, .ref h0), (1, .ref g0), (2, .int (nI i))]), W p l e rm_X5_copyFrom s m args below meth c H locs 0 0 Q (F0 m 2 ls []) := by
    intro n
    induction n with
    | zero =>
      intro i hn_i hi_i
      exact absurd hn_i (by omega)
    | succ n LB_2 =>
      intro i hn_i hi_i H locs hP hD hS ls hl
      refine lv_iload_n hx hb dX5_copyFrom_2 rfl (lv_at hl 2 rfl) ?_
      refine lv_iconst (v := 3) hx hb dX5_copyFrom_3 (by decide) ?_
      refine lv_icmp_ge (tgt := 52) hx hb dX5_copyFrom_4 (by decide) (fun c_4 => ?_) (fun c_4 => ?_)
      · have i_4 := i_le c_4
        rw [(by decide : (3 : Int32).toInt = 3)] at i_4
        rw [nIT (by omega)] at i_4
        have e_4 : i = 3 := by omega
        exact lf_v hx hb hr hlocks hQ (cpO v w i) hP hD hS dX5_copyFrom_52 (by rw [e_4])
      · have i_4 := i_nle c_4
        rw [(by decide : (3 : Int32).toInt = 3)] at i_4
        rw [nIT (by omega)] at i_4
        have hok0 : StfOk (sSet (cpO v w i) (nI i) (sLen w (nI i))) := sSet_ok (cpO_ok hok w i) _ _
        have hlen := sLen_in hok0 (nI i)
        have hcl := clampT hlen.1
        refine lv_aload_n hx hb dX5_copyFrom_7 rfl (lv_at hl 0 rfl) ?_
        refine lv_iload_n hx hb dX5_copyFrom_8 rfl (lv_at hl 2 rfl) ?_
        refine lv_aload_n hx hb dX5_copyFrom_9 rfl (lv_at hl 1 rfl) ?_
        refine lv_iload_n hx hb dX5_copyFrom_10 rfl (lv_at hl 2 rfl) ?_
        refine jn_i (W2 := fun _ => wStf h0 h1 h2 cI (cpO v w i) ++ wStf g0 g1 g2 cI w) (va_runV (As := [.int (nI i)]) (rest := [.int (nI i), .ref h0]) ⟨hx, hb, hml, hown, hts⟩ (c_X5_lengthOf l D cI cJ cZ g0 g1 g2 H.size w (nI i)) (cwV 1 hts gX5_copyFrom_X5_lengthOf rfl rfl rfl (by decide +kernel) ⟨Nat.le_of_ble_eq_true rfl, Nat.le_of_ble_eq_true rfl⟩) (pr_V hP hD hK hN hE hS hA [3, 4, 5] (by decide) rfl (ci := 5) (q0 := 3) rfl rfl) rfl rfl hl.1 rfl (lv_room (Nat.le_of_ble_eq_true rfl)) dX5_copyFrom_11 ⟨Nat.zero_le _, Nat.zero_le _⟩) hP hD hS hA [3, 4, 5] [0, 1, 2] [0, 1, 2, 3, 4, 5] rfl rfl (by decide) (by decide) (by decide) (fun _ => rfl) (fun r_11 u_11 H locs hw_11 hP hD hS => ?_)
        have hP : va_P D vwCl (wStf h0 h1 h2 cI (cpO v w i) ++ wStf g0 g1 g2 cI w) H := hP
        have hD : va_D A (wStf h0 h1 h2 cI (cpO v w i) ++ wStf g0 g1 g2 cI w) := hD
        have hr_11 := hw_11
        refine jn_v (W2 := fun u_14 => wStf h0 h1 h2 cI u_14 ++ wStf g0 g1 g2 cI w) (va_runV (As := [.int (nI i), .int r_11]) (rest := []) ⟨hx, hb, hml, hown, hts⟩ (c_X5_setLength l D cI cJ cZ h0 h1 h2 H.size (cpO v w i) (nI i) r_11) (cwV 2 hts gX5_copyFrom_X5_setLength rfl rfl rfl (by decide +kernel) ⟨Nat.le_of_ble_eq_true rfl, Nat.le_of_ble_eq_true rfl⟩) (pr_V hP hD hK hN hE hS hA [0, 1, 2] (by decide) rfl (ci := 5) (q0 := 0) rfl rfl) rfl rfl hl.1 rfl (lv_room (Nat.le_of_ble_eq_true rfl)) dX5_copyFrom_14 ⟨Nat.zero_le _, Nat.zero_le _⟩) hP hD hS hA [0, 1, 2] [3, 4, 5] [3, 4, 5, 0, 1, 2] rfl rfl (by decide) (by decide) (by decide) (fun _ => rfl) (fun u_14 H locs hw_14 hP hD hS => ?_)
        have hP : va_P D vwCl (wStf h0 h1 h2 cI u_14 ++ wStf g0 g1 g2 cI w) H := hP
        have hD : va_D A (wStf h0 h1 h2 cI u_14 ++ wStf g0 g1 g2 cI w) := hD
        have hu_14 := hw_14
        have eg_17 : u_14 = (sSet (cpO v w i) (nI i) (sLen w (nI i))) := by rw [hu_14, hr_11]
        rw [eg_17] at hP hD
        have hP : va_P D vwCl (wStf h0 h1 h2 cI (sSet (cpO v w i) (nI i) (sLen w (nI i))) ++ wStf g0 g1 g2 cI w) H := hP
        have hD : va_D A (wStf h0 h1 h2 cI (sSet (cpO v w i) (nI i) (sLen w (nI i))) ++ wStf g0 g1 g2 cI w) := hD
        refine lv_iconst (v := 0) hx hb dX5_copyFrom_17 (by decide) ?_
        refine lv_istore_n (lv' := [(3, .int 0), (0, .ref h0), (1, .ref g0), (2, .int (nI i))]) hx hb dX5_copyFrom_18 rfl hl (by decide) rfl (fun ls hl => ?_)
        have LB_19 : ∀ (n2 : Nat) (j : Nat) (hn_j : (sLen (sSet (cpO v w i) (nI i) (sLen w (nI i))) (nI i)).toNatClampNeg < j + n2) (hi_j : j ≤ (sLen (sSet (cpO v w i) (nI i) (sLen w (nI i))) (nI i)).toNatClampNeg) (H : Heap) (locs : List Loc) (_ : va_P D vwCl (wStf h0 h1 h2 cI (cpI (sSet (cpO v w i) (nI i) (sLen w (nI i))) w (nI i) j) ++ wStf g0 g1 g2 cI w) H) (_ : va_D A (wStf h0 h1 h2 cI (cpI (sSet (cpO v w i) (nI i) (sLen w (nI i))) w (nI i) j) ++ wStf g0 g1 g2 cI w)) (_ : va_S A s.heap H locs) (ls : Array Slot) (_ : lv_has ls 4 [(0, .ref h0), (1, .ref g0), (2, .int (nI i)), (3, .int (nI j))]), W p l e rm_X5_copyFrom s m args below meth c H locs 0 0 Q (F0 m 19 ls []) := by
          intro n2
          induction n2 with
          | zero =>
            intro j hn_j hi_j
            exact absurd hn_j (by omega)
          | succ n2 LB_19 =>
            intro j hn_j hi_j H locs hP hD hS ls hl
            refine lv_iload_n hx hb dX5_copyFrom_19 rfl (lv_at hl 3 rfl) ?_
            refine lv_aload_n hx hb dX5_copyFrom_20 rfl (lv_at hl 0 rfl) ?_
            refine lv_iload_n hx hb dX5_copyFrom_21 rfl (lv_at hl 2 rfl) ?_
            refine jn_i (W2 := fun _ => wStf h0 h1 h2 cI (cpI (sSet (cpO v w i) (nI i) (sLen w (nI i))) w (nI i) j) ++ wStf g0 g1 g2 cI w) (va_runV (As := [.int (nI i)]) (rest := [.int (nI j)]) ⟨hx, hb, hml, hown, hts⟩ (c_X5_lengthOf l D cI cJ cZ h0 h1 h2 H.size (cpI (sSet (cpO v w i) (nI i) (sLen w (nI i))) w (nI i) j) (nI i)) (cwV 1 hts gX5_copyFrom_X5_lengthOf rfl rfl rfl (by decide +kernel) ⟨Nat.le_of_ble_eq_true rfl, Nat.le_of_ble_eq_true rfl⟩) (pr_V hP hD hK hN hE hS hA [0, 1, 2] (by decide) rfl (ci := 5) (q0 := 0) rfl rfl) rfl rfl hl.1 rfl (lv_room (Nat.le_of_ble_eq_true rfl)) dX5_copyFrom_22 ⟨Nat.zero_le _, Nat.zero_le _⟩) hP hD hS hA [0, 1, 2] [3, 4, 5] [3, 4, 5, 0, 1, 2] rfl rfl (by decide) (by decide) (by decide) (fun _ => rfl) (fun r_22 u_22 H locs hw_22 hP hD hS => ?_)
            have hP : va_P D vwCl (wStf h0 h1 h2 cI (cpI (sSet (cpO v w i) (nI i) (sLen w (nI i))) w (nI i) j) ++ wStf g0 g1 g2 cI w) H := hP
            have hD : va_D A (wStf h0 h1 h2 cI (cpI (sSet (cpO v w i) (nI i) (sLen w (nI i))) w (nI i) j) ++ wStf g0 g1 g2 cI w) := hD
            have hr_22 := hw_22
            have el_25 : sLen (cpI (sSet (cpO v w i) (nI i) (sLen w (nI i))) w (nI i) j) (nI i) = sLen (sSet (cpO v w i) (nI i) (sLen w (nI i))) (nI i) := sLen_2 (cpI_2 _ _ _ _) _
            rw [el_25] at hr_22
            have hr22t := i_eq hr_22
            refine lv_icmp_ge (tgt := 46) hx hb dX5_copyFrom_25 (by decide) (fun c_25 => ?_) (fun c_25 => ?_)
            · have i_25 := i_le c_25
              rw [nIT (by omega)] at i_25
              have e_25 : j = (sLen (sSet (cpO v w i) (nI i) (sLen w (nI i))) (nI i)).toNatClampNeg := by omega
              have eg_46 : (cpI (sSet (cpO v w i) (nI i) (sLen w (nI i))) w (nI i) j) = (cpO v w (i + 1)) := by rw [e_25]; rfl
              rw [eg_46] at hP hD
              have hP : va_P D vwCl (wStf h0 h1 h2 cI (cpO v w (i + 1)) ++ wStf g0 g1 g2 cI w) H := hP
              have hD : va_D A (wStf h0 h1 h2 cI (cpO v w (i + 1)) ++ wStf g0 g1 g2 cI w) := hD
              refine lv_iinc (v := ((nI i) + 1)) (lv' := [(2, .int ((nI i) + 1)), (0, .ref h0), (1, .ref g0), (3, .int (nI j))]) hx hb dX5_copyFrom_46 hl (k := 2) rfl rfl (by decide) rfl (fun ls hl => ?_)
              rw [show nI i + 1 = nI (i + 1) from nI_1 _] at hl
              have hl : lv_has ls 4 [(2, .int (nI (i + 1))), (0, .ref h0), (1, .ref g0), (3, .int (nI j))] := hl
              refine lv_goto (tgt := 2) hx hb dX5_copyFrom_49 (by decide) ?_
              exact LB_2 (i + 1) (by omega) (by omega) H locs hP hD hS ls (lv_sub hl [1, 2, 0] rfl)
            · have i_25 := i_nle c_25
              rw [nIT (by omega)] at i_25
              refine lv_aload_n hx hb dX5_copyFrom_28 rfl (lv_at hl 0 rfl) ?_
              refine lv_iload_n hx hb dX5_copyFrom_29 rfl (lv_at hl 2 rfl) ?_
              refine lv_iload_n hx hb dX5_copyFrom_30 rfl (lv_at hl 3 rfl) ?_
              refine lv_aload_n hx hb dX5_copyFrom_31 rfl (lv_at hl 1 rfl) ?_
              refine lv_iload_n hx hb dX5_copyFrom_32 rfl (lv_at hl 2 rfl) ?_
              refine lv_iload_n hx hb dX5_copyFrom_33 rfl (lv_at hl 3 rfl) ?_
              refine jn_i (W2 := fun _ => wStf h0 h1 h2 cI (cpI (sSet (cpO v w i) (nI i) (sLen w (nI i))) w (nI i) j) ++ wStf g0 g1 g2 cI w) (va_runV (As := [.int (nI i), .int (nI j)]) (rest := [.int (nI j), .int (nI i), .ref h0]) ⟨hx, hb, hml, hown, hts⟩ (c_X5_signAt l D cI cJ cZ g0 g1 g2 H.size w (nI i) (nI j) (hwk)) (cwV 2 hts gX5_copyFrom_X5_signAt rfl rfl rfl (by decide +kernel) ⟨Nat.le_of_ble_eq_true rfl, Nat.le_of_ble_eq_true rfl⟩) (pr_V hP hD hK hN hE hS hA [3, 4, 5] (by decide) rfl (ci := 5) (q0 := 3) rfl rfl) rfl rfl hl.1 rfl (lv_room (Nat.le_of_ble_eq_true rfl)) dX5_copyFrom_34 ⟨Nat.zero_le _, Nat.zero_le _⟩) hP hD hS hA [3, 4, 5] [0, 1, 2] [0, 1, 2, 3, 4, 5] rfl rfl (by decide) (by decide) (by decide) (fun _ => rfl) (fun r_34 u_34 H locs hw_34 hP hD hS => ?_)
              have hP : va_P D vwCl (wStf h0 h1 h2 cI (cpI (sSet (cpO v w i) (nI i) (sLen w (nI i))) w (nI i) j) ++ wStf g0 g1 g2 cI w) H := hP
              have hD : va_D A (wStf h0 h1 h2 cI (cpI (sSet (cpO v w i) (nI i) (sLen w (nI i))) w (nI i) j) ++ wStf g0 g1 g2 cI w) := hD
              have hr_34 := hw_34
              refine jn_v (W2 := fun u_37 => wStf h0 h1 h2 cI u_37 ++ wStf g0 g1 g2 cI w) (va_runV (As := [.int (nI i), .int (nI j), .int r_34]) (rest := []) ⟨hx, hb, hml, hown, hts⟩ (c_X5_replace l D cI cJ cZ h0 h1 h2 H.size (cpI (sSet (cpO v w i) (nI i) (sLen w (nI i))) w (nI i) j) (nI i) (nI j) r_34 (StfOk_2 (cpI_2 _ _ _ _) hok0)) (cwV 3 hts gX5_copyFrom_X5_replace rfl rfl rfl (by decide +kernel) ⟨Nat.le_of_ble_eq_true rfl, Nat.le_of_ble_eq_true rfl⟩) (pr_V hP hD hK hN hE hS hA [0, 1, 2] (by decide) rfl (ci := 5) (q0 := 0) rfl rfl) rfl rfl hl.1 rfl (lv_room (Nat.le_of_ble_eq_true rfl)) dX5_copyFrom_37 ⟨Nat.zero_le _, Nat.zero_le _⟩) hP hD hS hA [0, 1, 2] [3, 4, 5] [3, 4, 5, 0, 1, 2] rfl rfl (by decide) (by decide) (by decide) (fun _ => rfl) (fun u_37 H locs hw_37 hP hD hS => ?_)
              have hP : va_P D vwCl (wStf h0 h1 h2 cI u_37 ++ wStf g0 g1 g2 cI w) H := hP
              have hD : va_D A (wStf h0 h1 h2 cI u_37 ++ wStf g0 g1 g2 cI w) := hD
              have hu_37 := hw_37
              refine lv_iinc (v := ((nI j) + 1)) (lv' := [(3, .int ((nI j) + 1)), (0, .ref h0), (1, .ref g0), (2, .int (nI i))]) hx hb dX5_copyFrom_40 hl (k := 3) rfl rfl (by decide) rfl (fun ls hl => ?_)
              rw [show nI j + 1 = nI (j + 1) from nI_1 _] at hl
              have hl : lv_has ls 4 [(3, .int (nI (j + 1))), (0, .ref h0), (1, .ref g0), (2, .int (nI i))] := hl
              have eg_43 : u_37 = (cpI (sSet (cpO v w i) (nI i) (sLen w (nI i))) w (nI i) (j + 1)) := by rw [hu_37, hr_34]; rfl
              rw [eg_43] at hP hD
              have hP : va_P D vwCl (wStf h0 h1 h2 cI (cpI (sSet (cpO v w i) (nI i) (sLen w (nI i))) w (nI i) (j + 1)) ++ wStf g0 g1 g2 cI w) H := hP
              have hD : va_D A (wStf h0 h1 h2 cI (cpI (sSet (cpO v w i) (nI i) (sLen w (nI i))) w (nI i) (j + 1)) ++ wStf g0 g1 g2 cI w) := hD
              refine lv_goto (tgt := 19) hx hb dX5_copyFrom_43 (by decide) ?_
              exact LB_19 (j + 1) (by omega) (by omega) H locs hP hD hS ls (lv_sub hl [1, 2, 3, 0] rfl)
        exact LB_19 ((sLen (sSet (cpO v w i) (nI i) (sLen w (nI i))) (nI i)).toNatClampNeg + 1) 0 (by omega) (by omega) H locs hP hD hS ls (lv_sub hl [1, 2, 3, 0] rfl)
  exact LB_2 (3 + 1) 0 (by omega) (by omega) H locs hP hD hS ls (lv_sub hl [1, 2, 0] rfl)
abbrev rm_J9_floorMod_7cf53 : Room := { frames := 0, cells := 0, slots := 0, locals := 0 }
set_option maxHeartbeats 4000000 in
set_option maxRecDepth 100000 in
theorem c_J9_floorMod_7cf53 (l : Launch) (D : va_G) (cI cJ cZ : ClassId) (sz : Nat) (x : Int32) (y : Int32) (hy : ¬ y = 0) : Met l yJ9_floorMod_7cf53 wsJ9_floorMod_7cf53 rm_J9_floorMod_7cf53 (va_Pc [.int x, .int y] (PU D (tyL cI cJ cZ) (([] : va_W)) sz)) (va_Qi (fun (rz : Int32) (_ : Unit) => rz = fmod x y) (fun uz => BU D (([] : va_W)) (va_A (([] : va_W)) sz)) (va_A (([] : va_W)) sz)) 0 0 (va_A (([] : va_W)) sz) := by
  refine enF (own := RJ9) (Qc := fun A => va_Qi (fun (rz : Int32) (_ : Unit) => rz = fmod x y) (fun uz => BU D (([] : va_W)) A) A) (by decide +kernel) rfl (Nat.le_of_ble_eq_true rfl) rfl ?_
  intro p e s m args below meth c A Q H locs ls hx hb hr hml hown hts hlocks hname hA hN hE hK hQ hP hD hS hl
  have hl : lv_has ls 3 [(0, .int x), (1, .int y)] := hl
  refine lv_iload_n hx hb dJ9_floorMod_7cf53_0 rfl (lv_at hl 0 rfl) ?_
  refine lv_iload_n hx hb dJ9_floorMod_7cf53_1 rfl (lv_at hl 1 rfl) ?_
  refine lv_irem hx hb dJ9_floorMod_7cf53_2 (hy) ?_
  refine lv_istore_n (lv' := [(2, .int (x - x / y * y)), (0, .int x), (1, .int y)]) hx hb dJ9_floorMod_7cf53_3 rfl hl (by decide) rfl (fun ls hl => ?_)
  refine lv_iload_n hx hb dJ9_floorMod_7cf53_4 rfl (lv_at hl 1 rfl) ?_
  refine lv_iload_n hx hb dJ9_floorMod_7cf53_5 rfl (lv_at hl 2 rfl) ?_
  refine lv_ixor hx hb dJ9_floorMod_7cf53_6 ?_
  refine lv_if_ge (tgt := 18) hx hb dJ9_floorMod_7cf53_7 (by decide) (fun c_7 => ?_) (fun c_7 => ?_)
  · have i_7 := i_le c_7
    rw [(by decide : (0 : Int32).toInt = 0)] at i_7
    refine lv_iload_n hx hb dJ9_floorMod_7cf53_18 rfl (lv_at hl 0 rfl) ?_
    exact lf_i hx hb hr hlocks hQ () hP hD hS dJ9_floorMod_7cf53_19 (by first | with_reducible rfl | (simp only [fmod, if_pos c_7, ↓reduceIte, bI_t, bI_f, reduceCtorEq]; done) | (subst_vars; simp only [fmod, if_pos c_7, ↓reduceIte, bI_t, bI_f, reduceCtorEq]; done) | (simp [fmod, c_7, bI_t, bI_f]; done))
  · have i_7 := i_nle c_7
    rw [(by decide : (0 : Int32).toInt = 0)] at i_7
    refine lv_iload_n hx hb dJ9_floorMod_7cf53_10 rfl (lv_at hl 0 rfl) ?_
    refine lv_if_eq (tgt := 18) hx hb dJ9_floorMod_7cf53_11 (by decide) (fun c_11 => ?_) (fun c_11 => ?_)
    · have i_11 := i_eq c_11
      rw [(by decide : (0 : Int32).toInt = 0)] at i_11
      refine lv_iload_n hx hb dJ9_floorMod_7cf53_18 rfl (lv_at hl 0 rfl) ?_
      exact lf_i hx hb hr hlocks hQ () hP hD hS dJ9_floorMod_7cf53_19 (by first | with_reducible rfl | (simp only [fmod, if_neg c_7, if_pos c_11, ↓reduceIte, bI_t, bI_f, reduceCtorEq]; done) | (subst_vars; simp only [fmod, if_neg c_7, if_pos c_11, ↓reduceIte, bI_t, bI_f, reduceCtorEq]; done) | (simp [fmod, c_7, c_11, bI_t, bI_f]; done))
    · have i_11 := i_ne c_11
      rw [(by decide : (0 : Int32).toInt = 0)] at i_11
      refine lv_iload_n hx hb dJ9_floorMod_7cf53_14 rfl (lv_at hl 0 rfl) ?_
      refine lv_iload_n hx hb dJ9_floorMod_7cf53_15 rfl (lv_at hl 2 rfl) ?_
      refine lv_iadd hx hb dJ9_floorMod_7cf53_16 ?_
      exact lf_i hx hb hr hlocks hQ () hP hD hS dJ9_floorMod_7cf53_17 (by first | with_reducible rfl | (simp only [fmod, if_neg c_7, if_neg c_11, ↓reduceIte, bI_t, bI_f, reduceCtorEq]; done) | (subst_vars; simp only [fmod, if_neg c_7, if_neg c_11, ↓reduceIte, bI_t, bI_f, reduceCtorEq]; done) | (simp [fmod, c_7, c_11, bI_t, bI_f]; done))
abbrev rm_X1_slotBehind : Room := { frames := 1, cells := 0, slots := 0, locals := 22 }
set_option maxHeartbeats 4000000 in
set_option maxRecDepth 100000 in
theorem c_X1_slotBehind (l : Launch) (D : va_G) (cI cJ cZ : ClassId) (h0 : Nat) (h1 : Nat) (h2 : Nat) (h3 : Nat) (sz : Nat) (v : His) (k : Int32) (h0s : 0 ≤ (v.2.2.2.1 + k).toInt) (h1s : (v.2.2.2.1 + k).toInt ≤ 20) : Met l yX1_slotBehind wsX1_slotBehind rm_X1_slotBehind (va_Pc [.ref h0, .int k] (PU D (tyL cI cJ cZ) (wHis h0 h1 h2 h3 cI v) sz)) (va_Qi (fun (rz : Int32) (_ : Unit) => rz = (v.2.2.2.1 + k - (v.2.2.2.1 + k) / 10 * 10)) (fun uz => BU D (wHis h0 h1 h2 h3 cI v) (va_A (wHis h0 h1 h2 h3 cI v) sz)) (va_A (wHis h0 h1 h2 h3 cI v) sz)) 0 0 (va_A (wHis h0 h1 h2 h3 cI v) sz) := by
  refine en (own := RX1) (Qc := fun A => va_Qi (fun (rz : Int32) (_ : Unit) => rz = (v.2.2.2.1 + k - (v.2.2.2.1 + k) / 10 * 10)) (fun uz => BU D (wHis h0 h1 h2 h3 cI v) A) A) (by decide) rfl (Nat.le_of_ble_eq_true rfl) rfl ?_
  intro p e s m args below meth c A Q H locs ls hx hb hr hml hown hts hlocks hname hA hN hE hK hQ hP hD hS hl
  have hl : lv_has ls 2 [(0, .ref h0), (1, .int k)] := hl
  have fl_21 := hts (.fieldLink RX1 21 "DanceStaffs$History" "oldest" "I") (by decide +kernel)
  have hin_1 : ∀ w ∈ u_ws RX1 TX1 5, w ∈ wsX1_slotBehind := by decide +kernel
  refine lv_aload_n hx hb dX1_slotBehind_0 rfl (lv_at hl 0 rfl) ?_
  refine va_get (D := D) (ci := 1) (v := .int v.2.2.2.1) (C := RX1) (T := TX1) (N := 5) hx hb hts hin_1 hown hK hP 0 rfl rfl 3 (by decide) fl_21 (fun _ h9 => h9) rfl dX1_slotBehind_1 ?_
  refine lv_iload_n hx hb dX1_slotBehind_4 rfl (lv_at hl 1 rfl) ?_
  refine lv_iadd hx hb dX1_slotBehind_5 ?_
  refine lv_bipush (v := 10) hx hb dX1_slotBehind_6 (by decide) ?_
  refine st_i (va_runS (As := [.int (v.2.2.2.1 + k), .int 10]) (rest := []) ⟨hx, hb, hml, hown, hts⟩ (c_J9_floorMod_7cf53 l D cI cJ cZ H.size (v.2.2.2.1 + k) 10 (by decide)) (va_cwS 2 hts gX1_slotBehind_J9_floorMod_7cf53 rfl rfl rfl (by decide +kernel) ⟨Nat.le_of_ble_eq_true rfl, Nat.le_of_ble_eq_true rfl⟩) (pr_S hP hD hK hN hE hS hA [] (by decide) rfl) rfl rfl hl.1 rfl (lv_room (Nat.le_of_ble_eq_true rfl)) dX1_slotBehind_8 ⟨Nat.zero_le _, Nat.zero_le _⟩) hP hS hA (fun r_8 u_8 H locs hw_8 hP hS => ?_)
  have hr_8 := hw_8
  exact lf_i hx hb hr hlocks hQ () hP hD hS dX1_slotBehind_11 (by rw [hr_8, fm_10 h0s h1s])
abbrev rm_X1_remember : Room := { frames := 3, cells := 0, slots := 0, locals := 64 }
set_option maxHeartbeats 4000000 in
set_option maxRecDepth 100000 in
theorem c_X1_remember (l : Launch) (D : va_G) (cI cJ cZ : ClassId) (h0 : Nat) (h1 : Nat) (h2 : Nat) (h3 : Nat) (g0 : Nat) (g1 : Nat) (g2 : Nat) (sz : Nat) (v : His) (w : Stf) (d : Int32) (hh : HisOk v) (hwk : StfOk w) : Met l yX1_remember wsX1_remember rm_X1_remember (va_Pc [.ref h0, .ref g0, .int d] (PU D (tyL cI cJ cZ) (wHis h0 h1 h2 h3 cI v ++ wStf g0 g1 g2 cI w) sz)) (va_Qv (fun (uz : His) => uz = hRem v w d) (fun uz => BU D (wHis h0 h1 h2 h3 cI uz ++ wStf g0 g1 g2 cI w) (va_A (wHis h0 h1 h2 h3 cI v ++ wStf g0 g1 g2 cI w) sz)) (va_A (wHis h0 h1 h2 h3 cI v ++ wStf g0 g1 g2 cI w) sz)) 0 0 (va_A (wHis h0 h1 h2 h3 cI v ++ wStf g0 g1 g2 cI w) sz) := by
  refine en (own := RX1) (Qc := fun A => va_Qv (fun (uz : His) => uz = hRem v w d) (fun uz => BU D (wHis h0 h1 h2 h3 cI uz ++ wStf g0 g1 g2 cI w) A) A) (by decide) rfl (Nat.le_of_ble_eq_true rfl) rfl ?_
  intro p e s m args below meth c A Q H locs ls hx hb hr hml hown hts hlocks hname hA hN hE hK hQ hP hD hS hl
  have hl : lv_has ls 5 [(0, .ref h0), (1, .ref g0), (2, .int d)] := hl
  have fl_25 := hts (.fieldLink RX1 25 "DanceStaffs$History" "size" "I") (by decide +kernel)
  have hin_1 : ∀ w ∈ u_ws RX1 TX1 5, w ∈ wsX1_remember := by decide +kernel
  have fl_21 := hts (.fieldLink RX1 21 "DanceStaffs$History" "oldest" "I") (by decide +kernel)
  have fl_18 := hts (.fieldLink RX1 18 "DanceStaffs$History" "dancers" "[I") (by decide +kernel)
  have fl_15 := hts (.fieldLink RX1 15 "DanceStaffs$History" "lengths" "[I") (by decide +kernel)
  have fl_9 := hts (.fieldLink RX1 9 "DanceStaffs$History" "signs" "[I") (by decide +kernel)
  have hsl := hSlot_in hh
  refine lv_aload_n hx hb dX1_remember_0 rfl (lv_at hl 0 rfl) ?_
  refine lv_aload_n hx hb dX1_remember_1 rfl (lv_at hl 0 rfl) ?_
  refine va_get (D := D) (ci := 1) (v := .int v.2.2.2.2) (C := RX1) (T := TX1) (N := 5) hx hb hts hin_1 hown hK hP 0 rfl rfl 4 (by decide) fl_25 (fun _ h9 => h9) rfl dX1_remember_2 ?_
  refine jn_i (W2 := fun _ => wHis h0 h1 h2 h3 cI v ++ wStf g0 g1 g2 cI w) (va_runV (As := [.int v.2.2.2.2]) (rest := []) ⟨hx, hb, hml, hown, hts⟩ (c_X1_slotBehind l D cI cJ cZ h0 h1 h2 h3 H.size v v.2.2.2.2 ((hs_pre hh).1) ((hs_pre hh).2)) (cwV 1 hts gX1_remember_X1_slotBehind rfl rfl rfl (by decide +kernel) ⟨Nat.le_of_ble_eq_true rfl, Nat.le_of_ble_eq_true rfl⟩) (pr_V hP hD hK hN hE hS hA [0, 1, 2, 3] (by decide) rfl (ci := 1) (q0 := 0) rfl rfl) rfl rfl hl.1 rfl (lv_room (Nat.le_of_ble_eq_true rfl)) dX1_remember_5 ⟨Nat.zero_le _, Nat.zero_le _⟩) hP hD hS hA [0, 1, 2, 3] [4, 5, 6] [3, 4, 5, 6, 0, 1, 2] rfl rfl (by decide) (by decide) (by decide) (fun _ => rfl) (fun r_5 u_5 H locs hw_5 hP hD hS => ?_)
  have hP : va_P D vwCl (wHis h0 h1 h2 h3 cI v ++ wStf g0 g1 g2 cI w) H := hP
  have hD : va_D A (wHis h0 h1 h2 h3 cI v ++ wStf g0 g1 g2 cI w) := hD
  have hr_5 := hw_5
  obtain rfl : r_5 = (hSlot v) := hr_5
  refine lv_istore_n (lv' := [(3, .int (hSlot v)), (0, .ref h0), (1, .ref g0), (2, .int d)]) hx hb dX1_remember_8 rfl hl (by decide) rfl (fun ls hl => ?_)
  refine lv_aload_n hx hb dX1_remember_9 rfl (lv_at hl 1 rfl) ?_
  refine va_get (D := D) (ci := 1) (v := .int v.2.2.2.2) (C := RX1) (T := TX1) (N := 5) hx hb hts hin_1 hown hK hP 0 rfl rfl 4 (by decide) fl_25 (fun _ h9 => h9) rfl dX1_remember_10 ?_
  refine lv_bipush (v := 10) hx hb dX1_remember_13 (by decide) ?_
  refine lv_icmp_ge (tgt := 31) hx hb dX1_remember_15 (by decide) (fun c_15 => ?_) (fun c_15 => ?_)
  · have i_15 := i_le c_15
    rw [(by decide : (10 : Int32).toInt = 10)] at i_15
    refine lv_aload_n hx hb dX1_remember_31 rfl (lv_at hl 1 rfl) ?_
    refine lv_aload_n hx hb dX1_remember_32 rfl (lv_at hl 1 rfl) ?_
    refine lv_iconst (v := 1) hx hb dX1_remember_33 (by decide) ?_
    refine jn_i (W2 := fun _ => wHis h0 h1 h2 h3 cI v ++ wStf g0 g1 g2 cI w) (va_runV (As := [.int 1]) (rest := [.ref h0]) ⟨hx, hb, hml, hown, hts⟩ (c_X1_slotBehind l D cI cJ cZ h0 h1 h2 h3 H.size v 1 ((hs_one hh).1) ((hs_one hh).2)) (cwV 1 hts gX1_remember_X1_slotBehind rfl rfl rfl (by decide +kernel) ⟨Nat.le_of_ble_eq_true rfl, Nat.le_of_ble_eq_true rfl⟩) (pr_V hP hD hK hN hE hS hA [0, 1, 2, 3] (by decide) rfl (ci := 1) (q0 := 0) rfl rfl) rfl rfl hl.1 rfl (lv_room (Nat.le_of_ble_eq_true rfl)) dX1_remember_34 ⟨Nat.zero_le _, Nat.zero_le _⟩) hP hD hS hA [0, 1, 2, 3] [4, 5, 6] [3, 4, 5, 6, 0, 1, 2] rfl rfl (by decide) (by decide) (by decide) (fun _ => rfl) (fun r_34 u_34 H locs hw_34 hP hD hS => ?_)
    have hP : va_P D vwCl (wHis h0 h1 h2 h3 cI v ++ wStf g0 g1 g2 cI w) H := hP
    have hD : va_D A (wHis h0 h1 h2 h3 cI v ++ wStf g0 g1 g2 cI w) := hD
    have hr_34 := hw_34
    obtain rfl : r_34 = (v.2.2.2.1 + 1 - (v.2.2.2.1 + 1) / 10 * 10) := hr_34
    refine va_put (D := D) (ci := 1) (v := .int (v.2.2.2.1 + 1 - (v.2.2.2.1 + 1) / 10 * 10)) (ty := .int) (C := RX1) (T := TX1) (N := 5) hx hb hts hin_1 tyX1 tyX1_ok nmX1 hown hK hP hD hS 0 rfl rfl 3 (by decide) fl_21 (fun _ h9 => h9) rfl (by decide +kernel) rfl rfl (Nat.le_of_ble_eq_true rfl) dX1_remember_37 (fun H locs hP hD hS => ?_)
    have hP : va_P D vwCl (wHis h0 h1 h2 h3 cI (v.1, v.2.1, v.2.2.1, (v.2.2.2.1 + 1 - (v.2.2.2.1 + 1) / 10 * 10), v.2.2.2.2) ++ wStf g0 g1 g2 cI w) H := hP
    have hD : va_D A (wHis h0 h1 h2 h3 cI (v.1, v.2.1, v.2.2.1, (v.2.2.2.1 + 1 - (v.2.2.2.1 + 1) / 10 * 10), v.2.2.2.2) ++ wStf g0 g1 g2 cI w) := hD
    refine lv_aload_n hx hb dX1_remember_40 rfl (lv_at hl 1 rfl) ?_
    refine va_get (D := D) (ci := 1) (v := .ref h3) (C := RX1) (T := TX1) (N := 5) hx hb hts hin_1 hown hK hP 0 rfl rfl 2 (by decide) fl_18 (fun _ h9 => h9) rfl dX1_remember_41 ?_
    refine lv_iload_n hx hb dX1_remember_44 rfl (lv_at hl 0 rfl) ?_
    refine lv_iload_n hx hb dX1_remember_45 rfl (lv_at hl 3 rfl) ?_
    refine va_iast (D := D) (f := v.2.2.1) hx hb hK hP hD hS 3 0 rfl rfl (by exact vi_mk (by omega) (by omega)) dX1_remember_46 (fun H locs hP hD hS => ?_)
    have hP : va_P D vwCl (wHis h0 h1 h2 h3 cI (v.1, v.2.1, (upd v.2.2.1 ((hSlot v).toNatClampNeg) d), (v.2.2.2.1 + 1 - (v.2.2.2.1 + 1) / 10 * 10), v.2.2.2.2) ++ wStf g0 g1 g2 cI w) H := hP
    have hD : va_D A (wHis h0 h1 h2 h3 cI (v.1, v.2.1, (upd v.2.2.1 ((hSlot v).toNatClampNeg) d), (v.2.2.2.1 + 1 - (v.2.2.2.1 + 1) / 10 * 10), v.2.2.2.2) ++ wStf g0 g1 g2 cI w) := hD
    refine lv_aload_n hx hb dX1_remember_47 rfl (lv_at hl 1 rfl) ?_
    refine va_get (D := D) (ci := 1) (v := .ref h2) (C := RX1) (T := TX1) (N := 5) hx hb hts hin_1 hown hK hP 0 rfl rfl 1 (by decide) fl_15 (fun _ h9 => h9) rfl dX1_remember_48 ?_
    refine lv_iload_n hx hb dX1_remember_51 rfl (lv_at hl 0 rfl) ?_
    refine lv_aload_n hx hb dX1_remember_52 rfl (lv_at hl 2 rfl) ?_
    refine lv_iload_n hx hb dX1_remember_53 rfl (lv_at hl 3 rfl) ?_
    refine jn_i (W2 := fun _ => wHis h0 h1 h2 h3 cI (v.1, v.2.1, (upd v.2.2.1 ((hSlot v).toNatClampNeg) d), (v.2.2.2.1 + 1 - (v.2.2.2.1 + 1) / 10 * 10), v.2.2.2.2) ++ wStf g0 g1 g2 cI w) (va_runV (As := [.int d]) (rest := [.int (hSlot v), .ref h2]) ⟨hx, hb, hml, hown, hts⟩ (c_X5_lengthOf l D cI cJ cZ g0 g1 g2 H.size w d) (cwV 1 hts gX1_remember_X5_lengthOf rfl rfl rfl (by decide +kernel) ⟨Nat.le_of_ble_eq_true rfl, Nat.le_of_ble_eq_true rfl⟩) (pr_V hP hD hK hN hE hS hA [4, 5, 6] (by decide) rfl (ci := 5) (q0 := 4) rfl rfl) rfl rfl hl.1 rfl (lv_room (Nat.le_of_ble_eq_true rfl)) dX1_remember_54 ⟨Nat.zero_le _, Nat.zero_le _⟩) hP hD hS hA [4, 5, 6] [0, 1, 2, 3] [0, 1, 2, 3, 4, 5, 6] rfl rfl (by decide) (by decide) (by decide) (fun _ => rfl) (fun r_54 u_54 H locs hw_54 hP hD hS => ?_)
    have hP : va_P D vwCl (wHis h0 h1 h2 h3 cI (v.1, v.2.1, (upd v.2.2.1 ((hSlot v).toNatClampNeg) d), (v.2.2.2.1 + 1 - (v.2.2.2.1 + 1) / 10 * 10), v.2.2.2.2) ++ wStf g0 g1 g2 cI w) H := hP
    have hD : va_D A (wHis h0 h1 h2 h3 cI (v.1, v.2.1, (upd v.2.2.1 ((hSlot v).toNatClampNeg) d), (v.2.2.2.1 + 1 - (v.2.2.2.1 + 1) / 10 * 10), v.2.2.2.2) ++ wStf g0 g1 g2 cI w) := hD
    have hr_54 := hw_54
    refine va_iast (D := D) (f := v.2.1) hx hb hK hP hD hS 2 0 rfl rfl (by exact vi_mk (by omega) (by omega)) dX1_remember_57 (fun H locs hP hD hS => ?_)
    have hP : va_P D vwCl (wHis h0 h1 h2 h3 cI (v.1, (upd v.2.1 ((hSlot v).toNatClampNeg) r_54), (upd v.2.2.1 ((hSlot v).toNatClampNeg) d), (v.2.2.2.1 + 1 - (v.2.2.2.1 + 1) / 10 * 10), v.2.2.2.2) ++ wStf g0 g1 g2 cI w) H := hP
    have hD : va_D A (wHis h0 h1 h2 h3 cI (v.1, (upd v.2.1 ((hSlot v).toNatClampNeg) r_54), (upd v.2.2.1 ((hSlot v).toNatClampNeg) d), (v.2.2.2.1 + 1 - (v.2.2.2.1 + 1) / 10 * 10), v.2.2.2.2) ++ wStf g0 g1 g2 cI w) := hD
    have eg_58 : (v.1, (upd v.2.1 ((hSlot v).toNatClampNeg) r_54), (upd v.2.2.1 ((hSlot v).toNatClampNeg) d), (v.2.2.2.1 + 1 - (v.2.2.2.1 + 1) / 10 * 10), v.2.2.2.2) = (v.1, upd v.2.1 (hSlot v).toNatClampNeg (sLen w d), upd v.2.2.1 (hSlot v).toNatClampNeg d, (v.2.2.2.1 + 1 - (v.2.2.2.1 + 1) / 10 * 10), v.2.2.2.2) := by rw [hr_54]
    rw [eg_58] at hP hD
    have hP : va_P D vwCl (wHis h0 h1 h2 h3 cI (v.1, upd v.2.1 (hSlot v).toNatClampNeg (sLen w d), upd v.2.2.1 (hSlot v).toNatClampNeg d, (v.2.2.2.1 + 1 - (v.2.2.2.1 + 1) / 10 * 10), v.2.2.2.2) ++ wStf g0 g1 g2 cI w) H := hP
    have hD : va_D A (wHis h0 h1 h2 h3 cI (v.1, upd v.2.1 (hSlot v).toNatClampNeg (sLen w d), upd v.2.2.1 (hSlot v).toNatClampNeg d, (v.2.2.2.1 + 1 - (v.2.2.2.1 + 1) / 10 * 10), v.2.2.2.2) ++ wStf g0 g1 g2 cI w) := hD
    refine lv_iconst (v := 0) hx hb dX1_remember_58 (by decide) ?_
    refine lv_istore (lv' := [(4, .int 0), (3, .int (hSlot v)), (0, .ref h0), (1, .ref g0), (2, .int d)]) hx hb dX1_remember_59 hl (by decide) rfl (fun ls hl => ?_)
    have LB_61 : ∀ (n : Nat) (i : Nat) (hn_i : 10 < i + n) (hi_i : i ≤ 10) (H : Heap) (locs : List Loc) (_ : va_P D vwCl (wHis h0 h1 h2 h3 cI (remL v.1 (hSlot v) w d i, upd v.2.1 (hSlot v).toNatClampNeg (sLen w d), upd v.2.2.1 (hSlot v).toNatClampNeg d, (v.2.2.2.1 + 1 - (v.2.2.2.1 + 1) / 10 * 10), v.2.2.2.2) ++ wStf g0 g1 g2 cI w) H) (_ : va_D A (wHis h0 h1 h2 h3 cI (remL v.1 (hSlot v) w d i, upd v.2.1 (hSlot v).toNatClampNeg (sLen w d), upd v.2.2.1 (hSlot v).toNatClampNeg d, (v.2.2.2.1 + 1 - (v.2.2.2.1 + 1) / 10 * 10), v.2.2.2.2) ++ wStf g0 g1 g2 cI w)) (_ : va_S A s.heap H locs) (ls : Array Slot) (_ : lv_has ls 5 [(0, .ref h0), (1, .ref g0), (2, .int d), (3, .int (hSlot v)), (4, .int (nI i))]), W p l e rm_X1_remember s m args below meth c H locs 0 0 Q (F0 m 61 ls []) := by
      intro n
      induction n with
      | zero =>
        intro i hn_i hi_i
        exact absurd hn_i (by omega)
      | succ n LB_61 =>
        intro i hn_i hi_i H locs hP hD hS ls hl
        refine lv_iload hx hb dX1_remember_61 (lv_at hl 4 rfl) ?_
        refine lv_bipush (v := 10) hx hb dX1_remember_63 (by decide) ?_
        refine lv_icmp_ge (tgt := 93) hx hb dX1_remember_65 (by decide) (fun c_65 => ?_) (fun c_65 => ?_)
        · have i_65 := i_le c_65
          rw [(by decide : (10 : Int32).toInt = 10)] at i_65
          rw [nIT (by omega)] at i_65
          have e_65 : i = 10 := by omega
          exact lf_v hx hb hr hlocks hQ (remL v.1 (hSlot v) w d i, upd v.2.1 (hSlot v).toNatClampNeg (sLen w d), upd v.2.2.1 (hSlot v).toNatClampNeg d, (v.2.2.2.1 + 1 - (v.2.2.2.1 + 1) / 10 * 10), v.2.2.2.2) hP hD hS dX1_remember_93 (by simp only [hRem, hOld, hSz, c_15, c_65, e_65, ↓reduceIte])
        · have i_65 := i_nle c_65
          rw [(by decide : (10 : Int32).toInt = 10)] at i_65
          rw [nIT (by omega)] at i_65
          refine lv_aload_n hx hb dX1_remember_68 rfl (lv_at hl 0 rfl) ?_
          refine va_get (D := D) (ci := 1) (v := .ref h1) (C := RX1) (T := TX1) (N := 5) hx hb hts hin_1 hown hK hP 0 rfl rfl 0 (by decide) fl_9 (fun _ h9 => h9) rfl dX1_remember_69 ?_
          refine lv_iload_n hx hb dX1_remember_72 rfl (lv_at hl 3 rfl) ?_
          refine lv_bipush (v := 10) hx hb dX1_remember_73 (by decide) ?_
          refine lv_imul hx hb dX1_remember_75 ?_
          refine lv_iload hx hb dX1_remember_76 (lv_at hl 4 rfl) ?_
          refine lv_iadd hx hb dX1_remember_78 ?_
          refine lv_aload_n hx hb dX1_remember_79 rfl (lv_at hl 1 rfl) ?_
          refine lv_iload_n hx hb dX1_remember_80 rfl (lv_at hl 2 rfl) ?_
          refine lv_iload hx hb dX1_remember_81 (lv_at hl 4 rfl) ?_
          refine jn_i (W2 := fun _ => wHis h0 h1 h2 h3 cI (remL v.1 (hSlot v) w d i, upd v.2.1 (hSlot v).toNatClampNeg (sLen w d), upd v.2.2.1 (hSlot v).toNatClampNeg d, (v.2.2.2.1 + 1 - (v.2.2.2.1 + 1) / 10 * 10), v.2.2.2.2) ++ wStf g0 g1 g2 cI w) (va_runV (As := [.int d, .int (nI i)]) (rest := [.int (((hSlot v) * 10) + (nI i)), .ref h1]) ⟨hx, hb, hml, hown, hts⟩ (c_X5_signAt l D cI cJ cZ g0 g1 g2 H.size w d (nI i) (hwk)) (cwV 2 hts gX1_remember_X5_signAt rfl rfl rfl (by decide +kernel) ⟨Nat.le_of_ble_eq_true rfl, Nat.le_of_ble_eq_true rfl⟩) (pr_V hP hD hK hN hE hS hA [4, 5, 6] (by decide) rfl (ci := 5) (q0 := 4) rfl rfl) rfl rfl hl.1 rfl (lv_room (Nat.le_of_ble_eq_true rfl)) dX1_remember_83 ⟨Nat.zero_le _, Nat.zero_le _⟩) hP hD hS hA [4, 5, 6] [0, 1, 2, 3] [0, 1, 2, 3, 4, 5, 6] rfl rfl (by decide) (by decide) (by decide) (fun _ => rfl) (fun r_83 u_83 H locs hw_83 hP hD hS => ?_)
          have hP : va_P D vwCl (wHis h0 h1 h2 h3 cI (remL v.1 (hSlot v) w d i, upd v.2.1 (hSlot v).toNatClampNeg (sLen w d), upd v.2.2.1 (hSlot v).toNatClampNeg d, (v.2.2.2.1 + 1 - (v.2.2.2.1 + 1) / 10 * 10), v.2.2.2.2) ++ wStf g0 g1 g2 cI w) H := hP
          have hD : va_D A (wHis h0 h1 h2 h3 cI (remL v.1 (hSlot v) w d i, upd v.2.1 (hSlot v).toNatClampNeg (sLen w d), upd v.2.2.1 (hSlot v).toNatClampNeg d, (v.2.2.2.1 + 1 - (v.2.2.2.1 + 1) / 10 * 10), v.2.2.2.2) ++ wStf g0 g1 g2 cI w) := hD
          have hr_83 := hw_83
          refine va_iast (D := D) (f := remL v.1 (hSlot v) w d i) hx hb hK hP hD hS 1 0 rfl rfl (by have q1 : (hSlot v * 10).toInt = (hSlot v).toInt * 10 := (by rw [ti_mul (by rw [li_10]; omega) (by rw [li_10]; omega), li_10]); have q2 : (hSlot v * 10 + nI i).toInt = (hSlot v).toInt * 10 + i := (by rw [ti_add (by rw [q1, nIT (by omega)]; omega) (by rw [q1, nIT (by omega)]; omega), q1, nIT (by omega)]); exact vi_mk (by rw [q2]; omega) (by rw [q2]; omega)) dX1_remember_86 (fun H locs hP hD hS => ?_)
          have hP : va_P D vwCl (wHis h0 h1 h2 h3 cI ((upd (remL v.1 (hSlot v) w d i) ((((hSlot v) * 10) + (nI i)).toNatClampNeg) r_83), upd v.2.1 (hSlot v).toNatClampNeg (sLen w d), upd v.2.2.1 (hSlot v).toNatClampNeg d, (v.2.2.2.1 + 1 - (v.2.2.2.1 + 1) / 10 * 10), v.2.2.2.2) ++ wStf g0 g1 g2 cI w) H := hP
          have hD : va_D A (wHis h0 h1 h2 h3 cI ((upd (remL v.1 (hSlot v) w d i) ((((hSlot v) * 10) + (nI i)).toNatClampNeg) r_83), upd v.2.1 (hSlot v).toNatClampNeg (sLen w d), upd v.2.2.1 (hSlot v).toNatClampNeg d, (v.2.2.2.1 + 1 - (v.2.2.2.1 + 1) / 10 * 10), v.2.2.2.2) ++ wStf g0 g1 g2 cI w) := hD
          refine lv_iinc (v := ((nI i) + 1)) (lv' := [(4, .int ((nI i) + 1)), (0, .ref h0), (1, .ref g0), (2, .int d), (3, .int (hSlot v))]) hx hb dX1_remember_87 hl (k := 4) rfl rfl (by decide) rfl (fun ls hl => ?_)
          rw [show nI i + 1 = nI (i + 1) from nI_1 _] at hl
          have hl : lv_has ls 5 [(4, .int (nI (i + 1))), (0, .ref h0), (1, .ref g0), (2, .int d), (3, .int (hSlot v))] := hl
          have eg_90 : ((upd (remL v.1 (hSlot v) w d i) ((((hSlot v) * 10) + (nI i)).toNatClampNeg) r_83), upd v.2.1 (hSlot v).toNatClampNeg (sLen w d), upd v.2.2.1 (hSlot v).toNatClampNeg d, (v.2.2.2.1 + 1 - (v.2.2.2.1 + 1) / 10 * 10), v.2.2.2.2) = (remL v.1 (hSlot v) w d (i + 1), upd v.2.1 (hSlot v).toNatClampNeg (sLen w d), upd v.2.2.1 (hSlot v).toNatClampNeg d, (v.2.2.2.1 + 1 - (v.2.2.2.1 + 1) / 10 * 10), v.2.2.2.2) := by rw [hr_83]; rfl
          rw [eg_90] at hP hD
          have hP : va_P D vwCl (wHis h0 h1 h2 h3 cI (remL v.1 (hSlot v) w d (i + 1), upd v.2.1 (hSlot v).toNatClampNeg (sLen w d), upd v.2.2.1 (hSlot v).toNatClampNeg d, (v.2.2.2.1 + 1 - (v.2.2.2.1 + 1) / 10 * 10), v.2.2.2.2) ++ wStf g0 g1 g2 cI w) H := hP
          have hD : va_D A (wHis h0 h1 h2 h3 cI (remL v.1 (hSlot v) w d (i + 1), upd v.2.1 (hSlot v).toNatClampNeg (sLen w d), upd v.2.2.1 (hSlot v).toNatClampNeg d, (v.2.2.2.1 + 1 - (v.2.2.2.1 + 1) / 10 * 10), v.2.2.2.2) ++ wStf g0 g1 g2 cI w) := hD
          refine lv_goto (tgt := 61) hx hb dX1_remember_90 (by decide) ?_
          exact LB_61 (i + 1) (by omega) (by omega) H locs hP hD hS ls (lv_sub hl [1, 2, 3, 4, 0] rfl)
    exact LB_61 (10 + 1) 0 (by omega) (by omega) H locs hP hD hS ls (lv_sub hl [2, 3, 4, 1, 0] rfl)
  · have i_15 := i_nle c_15
    rw [(by decide : (10 : Int32).toInt = 10)] at i_15
    refine lv_aload_n hx hb dX1_remember_18 rfl (lv_at hl 1 rfl) ?_
    refine lv_dup hx hb dX1_remember_19 rfl ?_
    refine va_get (D := D) (ci := 1) (v := .int v.2.2.2.2) (C := RX1) (T := TX1) (N := 5) hx hb hts hin_1 hown hK hP 0 rfl rfl 4 (by decide) fl_25 (fun _ h9 => h9) rfl dX1_remember_20 ?_
    refine lv_iconst (v := 1) hx hb dX1_remember_23 (by decide) ?_
    refine lv_iadd hx hb dX1_remember_24 ?_
    refine va_put (D := D) (ci := 1) (v := .int (v.2.2.2.2 + 1)) (ty := .int) (C := RX1) (T := TX1) (N := 5) hx hb hts hin_1 tyX1 tyX1_ok nmX1 hown hK hP hD hS 0 rfl rfl 4 (by decide) fl_25 (fun _ h9 => h9) rfl (by decide +kernel) rfl rfl (Nat.le_of_ble_eq_true rfl) dX1_remember_25 (fun H locs hP hD hS => ?_)
    have hP : va_P D vwCl (wHis h0 h1 h2 h3 cI (v.1, v.2.1, v.2.2.1, v.2.2.2.1, (v.2.2.2.2 + 1)) ++ wStf g0 g1 g2 cI w) H := hP
    have hD : va_D A (wHis h0 h1 h2 h3 cI (v.1, v.2.1, v.2.2.1, v.2.2.2.1, (v.2.2.2.2 + 1)) ++ wStf g0 g1 g2 cI w) := hD
    refine lv_goto (tgt := 40) hx hb dX1_remember_28 (by decide) ?_
    refine lv_aload_n hx hb dX1_remember_40 rfl (lv_at hl 1 rfl) ?_
    refine va_get (D := D) (ci := 1) (v := .ref h3) (C := RX1) (T := TX1) (N := 5) hx hb hts hin_1 hown hK hP 0 rfl rfl 2 (by decide) fl_18 (fun _ h9 => h9) rfl dX1_remember_41 ?_
    refine lv_iload_n hx hb dX1_remember_44 rfl (lv_at hl 0 rfl) ?_
    refine lv_iload_n hx hb dX1_remember_45 rfl (lv_at hl 3 rfl) ?_
    refine va_iast (D := D) (f := v.2.2.1) hx hb hK hP hD hS 3 0 rfl rfl (by exact vi_mk (by omega) (by omega)) dX1_remember_46 (fun H locs hP hD hS => ?_)
    have hP : va_P D vwCl (wHis h0 h1 h2 h3 cI (v.1, v.2.1, (upd v.2.2.1 ((hSlot v).toNatClampNeg) d), v.2.2.2.1, (v.2.2.2.2 + 1)) ++ wStf g0 g1 g2 cI w) H := hP
    have hD : va_D A (wHis h0 h1 h2 h3 cI (v.1, v.2.1, (upd v.2.2.1 ((hSlot v).toNatClampNeg) d), v.2.2.2.1, (v.2.2.2.2 + 1)) ++ wStf g0 g1 g2 cI w) := hD
    refine lv_aload_n hx hb dX1_remember_47 rfl (lv_at hl 1 rfl) ?_
    refine va_get (D := D) (ci := 1) (v := .ref h2) (C := RX1) (T := TX1) (N := 5) hx hb hts hin_1 hown hK hP 0 rfl rfl 1 (by decide) fl_15 (fun _ h9 => h9) rfl dX1_remember_48 ?_
    refine lv_iload_n hx hb dX1_remember_51 rfl (lv_at hl 0 rfl) ?_
    refine lv_aload_n hx hb dX1_remember_52 rfl (lv_at hl 2 rfl) ?_
    refine lv_iload_n hx hb dX1_remember_53 rfl (lv_at hl 3 rfl) ?_
    refine jn_i (W2 := fun _ => wHis h0 h1 h2 h3 cI (v.1, v.2.1, (upd v.2.2.1 ((hSlot v).toNatClampNeg) d), v.2.2.2.1, (v.2.2.2.2 + 1)) ++ wStf g0 g1 g2 cI w) (va_runV (As := [.int d]) (rest := [.int (hSlot v), .ref h2]) ⟨hx, hb, hml, hown, hts⟩ (c_X5_lengthOf l D cI cJ cZ g0 g1 g2 H.size w d) (cwV 1 hts gX1_remember_X5_lengthOf rfl rfl rfl (by decide +kernel) ⟨Nat.le_of_ble_eq_true rfl, Nat.le_of_ble_eq_true rfl⟩) (pr_V hP hD hK hN hE hS hA [4, 5, 6] (by decide) rfl (ci := 5) (q0 := 4) rfl rfl) rfl rfl hl.1 rfl (lv_room (Nat.le_of_ble_eq_true rfl)) dX1_remember_54 ⟨Nat.zero_le _, Nat.zero_le _⟩) hP hD hS hA [4, 5, 6] [0, 1, 2, 3] [0, 1, 2, 3, 4, 5, 6] rfl rfl (by decide) (by decide) (by decide) (fun _ => rfl) (fun r_54 u_54 H locs hw_54 hP hD hS => ?_)
    have hP : va_P D vwCl (wHis h0 h1 h2 h3 cI (v.1, v.2.1, (upd v.2.2.1 ((hSlot v).toNatClampNeg) d), v.2.2.2.1, (v.2.2.2.2 + 1)) ++ wStf g0 g1 g2 cI w) H := hP
    have hD : va_D A (wHis h0 h1 h2 h3 cI (v.1, v.2.1, (upd v.2.2.1 ((hSlot v).toNatClampNeg) d), v.2.2.2.1, (v.2.2.2.2 + 1)) ++ wStf g0 g1 g2 cI w) := hD
    have hr_54 := hw_54
    refine va_iast (D := D) (f := v.2.1) hx hb hK hP hD hS 2 0 rfl rfl (by exact vi_mk (by omega) (by omega)) dX1_remember_57 (fun H locs hP hD hS => ?_)
    have hP : va_P D vwCl (wHis h0 h1 h2 h3 cI (v.1, (upd v.2.1 ((hSlot v).toNatClampNeg) r_54), (upd v.2.2.1 ((hSlot v).toNatClampNeg) d), v.2.2.2.1, (v.2.2.2.2 + 1)) ++ wStf g0 g1 g2 cI w) H := hP
    have hD : va_D A (wHis h0 h1 h2 h3 cI (v.1, (upd v.2.1 ((hSlot v).toNatClampNeg) r_54), (upd v.2.2.1 ((hSlot v).toNatClampNeg) d), v.2.2.2.1, (v.2.2.2.2 + 1)) ++ wStf g0 g1 g2 cI w) := hD
    have eg_58 : (v.1, (upd v.2.1 ((hSlot v).toNatClampNeg) r_54), (upd v.2.2.1 ((hSlot v).toNatClampNeg) d), v.2.2.2.1, (v.2.2.2.2 + 1)) = (v.1, upd v.2.1 (hSlot v).toNatClampNeg (sLen w d), upd v.2.2.1 (hSlot v).toNatClampNeg d, v.2.2.2.1, (v.2.2.2.2 + 1)) := by rw [hr_54]
    rw [eg_58] at hP hD
    have hP : va_P D vwCl (wHis h0 h1 h2 h3 cI (v.1, upd v.2.1 (hSlot v).toNatClampNeg (sLen w d), upd v.2.2.1 (hSlot v).toNatClampNeg d, v.2.2.2.1, (v.2.2.2.2 + 1)) ++ wStf g0 g1 g2 cI w) H := hP
    have hD : va_D A (wHis h0 h1 h2 h3 cI (v.1, upd v.2.1 (hSlot v).toNatClampNeg (sLen w d), upd v.2.2.1 (hSlot v).toNatClampNeg d, v.2.2.2.1, (v.2.2.2.2 + 1)) ++ wStf g0 g1 g2 cI w) := hD
    refine lv_iconst (v := 0) hx hb dX1_remember_58 (by decide) ?_
    refine lv_istore (lv' := [(4, .int 0), (3, .int (hSlot v)), (0, .ref h0), (1, .ref g0), (2, .int d)]) hx hb dX1_remember_59 hl (by decide) rfl (fun ls hl => ?_)
    have LB_61 : ∀ (n : Nat) (i : Nat) (hn_i : 10 < i + n) (hi_i : i ≤ 10) (H : Heap) (locs : List Loc) (_ : va_P D vwCl (wHis h0 h1 h2 h3 cI (remL v.1 (hSlot v) w d i, upd v.2.1 (hSlot v).toNatClampNeg (sLen w d), upd v.2.2.1 (hSlot v).toNatClampNeg d, v.2.2.2.1, (v.2.2.2.2 + 1)) ++ wStf g0 g1 g2 cI w) H) (_ : va_D A (wHis h0 h1 h2 h3 cI (remL v.1 (hSlot v) w d i, upd v.2.1 (hSlot v).toNatClampNeg (sLen w d), upd v.2.2.1 (hSlot v).toNatClampNeg d, v.2.2.2.1, (v.2.2.2.2 + 1)) ++ wStf g0 g1 g2 cI w)) (_ : va_S A s.heap H locs) (ls : Array Slot) (_ : lv_has ls 5 [(0, .ref h0), (1, .ref g0), (2, .int d), (3, .int (hSlot v)), (4, .int (nI i))]), W p l e rm_X1_remember s m args below meth c H locs 0 0 Q (F0 m 61 ls []) := by
      intro n
      induction n with
      | zero =>
        intro i hn_i hi_i
        exact absurd hn_i (by omega)
      | succ n LB_61 =>
        intro i hn_i hi_i H locs hP hD hS ls hl
        refine lv_iload hx hb dX1_remember_61 (lv_at hl 4 rfl) ?_
        refine lv_bipush (v := 10) hx hb dX1_remember_63 (by decide) ?_
        refine lv_icmp_ge (tgt := 93) hx hb dX1_remember_65 (by decide) (fun c_65 => ?_) (fun c_65 => ?_)
        · have i_65 := i_le c_65
          rw [(by decide : (10 : Int32).toInt = 10)] at i_65
          rw [nIT (by omega)] at i_65
          have e_65 : i = 10 := by omega
          exact lf_v hx hb hr hlocks hQ (remL v.1 (hSlot v) w d i, upd v.2.1 (hSlot v).toNatClampNeg (sLen w d), upd v.2.2.1 (hSlot v).toNatClampNeg d, v.2.2.2.1, (v.2.2.2.2 + 1)) hP hD hS dX1_remember_93 (by simp only [hRem, hOld, hSz, c_15, c_65, e_65, ↓reduceIte])
        · have i_65 := i_nle c_65
          rw [(by decide : (10 : Int32).toInt = 10)] at i_65
          rw [nIT (by omega)] at i_65
          refine lv_aload_n hx hb dX1_remember_68 rfl (lv_at hl 0 rfl) ?_
          refine va_get (D := D) (ci := 1) (v := .ref h1) (C := RX1) (T := TX1) (N := 5) hx hb hts hin_1 hown hK hP 0 rfl rfl 0 (by decide) fl_9 (fun _ h9 => h9) rfl dX1_remember_69 ?_
          refine lv_iload_n hx hb dX1_remember_72 rfl (lv_at hl 3 rfl) ?_
          refine lv_bipush (v := 10) hx hb dX1_remember_73 (by decide) ?_
          refine lv_imul hx hb dX1_remember_75 ?_
          refine lv_iload hx hb dX1_remember_76 (lv_at hl 4 rfl) ?_
          refine lv_iadd hx hb dX1_remember_78 ?_
          refine lv_aload_n hx hb dX1_remember_79 rfl (lv_at hl 1 rfl) ?_
          refine lv_iload_n hx hb dX1_remember_80 rfl (lv_at hl 2 rfl) ?_
          refine lv_iload hx hb dX1_remember_81 (lv_at hl 4 rfl) ?_
          refine jn_i (W2 := fun _ => wHis h0 h1 h2 h3 cI (remL v.1 (hSlot v) w d i, upd v.2.1 (hSlot v).toNatClampNeg (sLen w d), upd v.2.2.1 (hSlot v).toNatClampNeg d, v.2.2.2.1, (v.2.2.2.2 + 1)) ++ wStf g0 g1 g2 cI w) (va_runV (As := [.int d, .int (nI i)]) (rest := [.int (((hSlot v) * 10) + (nI i)), .ref h1]) ⟨hx, hb, hml, hown, hts⟩ (c_X5_signAt l D cI cJ cZ g0 g1 g2 H.size w d (nI i) (hwk)) (cwV 2 hts gX1_remember_X5_signAt rfl rfl rfl (by decide +kernel) ⟨Nat.le_of_ble_eq_true rfl, Nat.le_of_ble_eq_true rfl⟩) (pr_V hP hD hK hN hE hS hA [4, 5, 6] (by decide) rfl (ci := 5) (q0 := 4) rfl rfl) rfl rfl hl.1 rfl (lv_room (Nat.le_of_ble_eq_true rfl)) dX1_remember_83 ⟨Nat.zero_le _, Nat.zero_le _⟩) hP hD hS hA [4, 5, 6] [0, 1, 2, 3] [0, 1, 2, 3, 4, 5, 6] rfl rfl (by decide) (by decide) (by decide) (fun _ => rfl) (fun r_83 u_83 H locs hw_83 hP hD hS => ?_)
          have hP : va_P D vwCl (wHis h0 h1 h2 h3 cI (remL v.1 (hSlot v) w d i, upd v.2.1 (hSlot v).toNatClampNeg (sLen w d), upd v.2.2.1 (hSlot v).toNatClampNeg d, v.2.2.2.1, (v.2.2.2.2 + 1)) ++ wStf g0 g1 g2 cI w) H := hP
          have hD : va_D A (wHis h0 h1 h2 h3 cI (remL v.1 (hSlot v) w d i, upd v.2.1 (hSlot v).toNatClampNeg (sLen w d), upd v.2.2.1 (hSlot v).toNatClampNeg d, v.2.2.2.1, (v.2.2.2.2 + 1)) ++ wStf g0 g1 g2 cI w) := hD
          have hr_83 := hw_83
          refine va_iast (D := D) (f := remL v.1 (hSlot v) w d i) hx hb hK hP hD hS 1 0 rfl rfl (by have q1 : (hSlot v * 10).toInt = (hSlot v).toInt * 10 := (by rw [ti_mul (by rw [li_10]; omega) (by rw [li_10]; omega), li_10]); have q2 : (hSlot v * 10 + nI i).toInt = (hSlot v).toInt * 10 + i := (by rw [ti_add (by rw [q1, nIT (by omega)]; omega) (by rw [q1, nIT (by omega)]; omega), q1, nIT (by omega)]); exact vi_mk (by rw [q2]; omega) (by rw [q2]; omega)) dX1_remember_86 (fun H locs hP hD hS => ?_)
          have hP : va_P D vwCl (wHis h0 h1 h2 h3 cI ((upd (remL v.1 (hSlot v) w d i) ((((hSlot v) * 10) + (nI i)).toNatClampNeg) r_83), upd v.2.1 (hSlot v).toNatClampNeg (sLen w d), upd v.2.2.1 (hSlot v).toNatClampNeg d, v.2.2.2.1, (v.2.2.2.2 + 1)) ++ wStf g0 g1 g2 cI w) H := hP
          have hD : va_D A (wHis h0 h1 h2 h3 cI ((upd (remL v.1 (hSlot v) w d i) ((((hSlot v) * 10) + (nI i)).toNatClampNeg) r_83), upd v.2.1 (hSlot v).toNatClampNeg (sLen w d), upd v.2.2.1 (hSlot v).toNatClampNeg d, v.2.2.2.1, (v.2.2.2.2 + 1)) ++ wStf g0 g1 g2 cI w) := hD
          refine lv_iinc (v := ((nI i) + 1)) (lv' := [(4, .int ((nI i) + 1)), (0, .ref h0), (1, .ref g0), (2, .int d), (3, .int (hSlot v))]) hx hb dX1_remember_87 hl (k := 4) rfl rfl (by decide) rfl (fun ls hl => ?_)
          rw [show nI i + 1 = nI (i + 1) from nI_1 _] at hl
          have hl : lv_has ls 5 [(4, .int (nI (i + 1))), (0, .ref h0), (1, .ref g0), (2, .int d), (3, .int (hSlot v))] := hl
          have eg_90 : ((upd (remL v.1 (hSlot v) w d i) ((((hSlot v) * 10) + (nI i)).toNatClampNeg) r_83), upd v.2.1 (hSlot v).toNatClampNeg (sLen w d), upd v.2.2.1 (hSlot v).toNatClampNeg d, v.2.2.2.1, (v.2.2.2.2 + 1)) = (remL v.1 (hSlot v) w d (i + 1), upd v.2.1 (hSlot v).toNatClampNeg (sLen w d), upd v.2.2.1 (hSlot v).toNatClampNeg d, v.2.2.2.1, (v.2.2.2.2 + 1)) := by rw [hr_83]; rfl
          rw [eg_90] at hP hD
          have hP : va_P D vwCl (wHis h0 h1 h2 h3 cI (remL v.1 (hSlot v) w d (i + 1), upd v.2.1 (hSlot v).toNatClampNeg (sLen w d), upd v.2.2.1 (hSlot v).toNatClampNeg d, v.2.2.2.1, (v.2.2.2.2 + 1)) ++ wStf g0 g1 g2 cI w) H := hP
          have hD : va_D A (wHis h0 h1 h2 h3 cI (remL v.1 (hSlot v) w d (i + 1), upd v.2.1 (hSlot v).toNatClampNeg (sLen w d), upd v.2.2.1 (hSlot v).toNatClampNeg d, v.2.2.2.1, (v.2.2.2.2 + 1)) ++ wStf g0 g1 g2 cI w) := hD
          refine lv_goto (tgt := 61) hx hb dX1_remember_90 (by decide) ?_
          exact LB_61 (i + 1) (by omega) (by omega) H locs hP hD hS ls (lv_sub hl [1, 2, 3, 4, 0] rfl)
    exact LB_61 (10 + 1) 0 (by omega) (by omega) H locs hP hD hS ls (lv_sub hl [2, 3, 4, 1, 0] rfl)
abbrev rm_X1_revert : Room := { frames := 3, cells := 0, slots := 0, locals := 65 }
set_option maxHeartbeats 4000000 in
set_option maxRecDepth 100000 in
theorem c_X1_revert (l : Launch) (D : va_G) (cI cJ cZ : ClassId) (h0 : Nat) (h1 : Nat) (h2 : Nat) (h3 : Nat) (g0 : Nat) (g1 : Nat) (g2 : Nat) (sz : Nat) (v : His) (w : Stf) (hh : HisOk v) (hwk : StfOk w) : Met l yX1_revert wsX1_revert rm_X1_revert (va_Pc [.ref h0, .ref g0] (PU D (tyL cI cJ cZ) (wHis h0 h1 h2 h3 cI v ++ wStf g0 g1 g2 cI w) sz)) (va_Qv (fun (uz : His × Stf) => uz.1 = hPopd v ∧ uz.2 = hBack v w) (fun uz => BU D (wHis h0 h1 h2 h3 cI uz.1 ++ wStf g0 g1 g2 cI uz.2) (va_A (wHis h0 h1 h2 h3 cI v ++ wStf g0 g1 g2 cI w) sz)) (va_A (wHis h0 h1 h2 h3 cI v ++ wStf g0 g1 g2 cI w) sz)) 0 0 (va_A (wHis h0 h1 h2 h3 cI v ++ wStf g0 g1 g2 cI w) sz) := by
  refine en (own := RX1) (Qc := fun A => va_Qv (fun (uz : His × Stf) => uz.1 = hPopd v ∧ uz.2 = hBack v w) (fun uz => BU D (wHis h0 h1 h2 h3 cI uz.1 ++ wStf g0 g1 g2 cI uz.2) A) A) (by decide) rfl (Nat.le_of_ble_eq_true rfl) rfl ?_
  intro p e s m args below meth c A Q H locs ls hx hb hr hml hown hts hlocks hname hA hN hE hK hQ hP hD hS hl
  have hl : lv_has ls 5 [(0, .ref h0), (1, .ref g0)] := hl
  have fl_25 := hts (.fieldLink RX1 25 "DanceStaffs$History" "size" "I") (by decide +kernel)
  have hin_1 : ∀ w ∈ u_ws RX1 TX1 5, w ∈ wsX1_revert := by decide +kernel
  have fl_18 := hts (.fieldLink RX1 18 "DanceStaffs$History" "dancers" "[I") (by decide +kernel)
  have fl_15 := hts (.fieldLink RX1 15 "DanceStaffs$History" "lengths" "[I") (by decide +kernel)
  have fl_9 := hts (.fieldLink RX1 9 "DanceStaffs$History" "signs" "[I") (by decide +kernel)
  refine lv_aload_n hx hb dX1_revert_0 rfl (lv_at hl 0 rfl) ?_
  refine va_get (D := D) (ci := 1) (v := .int v.2.2.2.2) (C := RX1) (T := TX1) (N := 5) hx hb hts hin_1 hown hK hP 0 rfl rfl 4 (by decide) fl_25 (fun _ h9 => h9) rfl dX1_revert_1 ?_
  refine lv_if_ne (tgt := 8) hx hb dX1_revert_4 (by decide) (fun c_4 => ?_) (fun c_4 => ?_)
  · have i_4 := i_ne c_4
    rw [(by decide : (0 : Int32).toInt = 0)] at i_4
    obtain ⟨z1, z2, z3, z4⟩ := id hh
    have hp : HisOk (hPop v) := ⟨z1, z2, by show 0 ≤ (v.2.2.2.2 - 1).toInt; rw [ti_sub (by rw [li_1]; omega) (by rw [li_1]; omega), li_1]; omega, by show (v.2.2.2.2 - 1).toInt ≤ 10; rw [ti_sub (by rw [li_1]; omega) (by rw [li_1]; omega), li_1]; omega⟩
    have hsl := hSlot_in hp
    refine lv_aload_n hx hb dX1_revert_8 rfl (lv_at hl 0 rfl) ?_
    refine lv_dup hx hb dX1_revert_9 rfl ?_
    refine va_get (D := D) (ci := 1) (v := .int v.2.2.2.2) (C := RX1) (T := TX1) (N := 5) hx hb hts hin_1 hown hK hP 0 rfl rfl 4 (by decide) fl_25 (fun _ h9 => h9) rfl dX1_revert_10 ?_
    refine lv_iconst (v := 1) hx hb dX1_revert_13 (by decide) ?_
    refine lv_isub hx hb dX1_revert_14 ?_
    refine va_put (D := D) (ci := 1) (v := .int (v.2.2.2.2 - 1)) (ty := .int) (C := RX1) (T := TX1) (N := 5) hx hb hts hin_1 tyX1 tyX1_ok nmX1 hown hK hP hD hS 0 rfl rfl 4 (by decide) fl_25 (fun _ h9 => h9) rfl (by decide +kernel) rfl rfl (Nat.le_of_ble_eq_true rfl) dX1_revert_15 (fun H locs hP hD hS => ?_)
    have hP : va_P D vwCl (wHis h0 h1 h2 h3 cI (v.1, v.2.1, v.2.2.1, v.2.2.2.1, (v.2.2.2.2 - 1)) ++ wStf g0 g1 g2 cI w) H := hP
    have hD : va_D A (wHis h0 h1 h2 h3 cI (v.1, v.2.1, v.2.2.1, v.2.2.2.1, (v.2.2.2.2 - 1)) ++ wStf g0 g1 g2 cI w) := hD
    refine lv_aload_n hx hb dX1_revert_18 rfl (lv_at hl 0 rfl) ?_
    refine lv_aload_n hx hb dX1_revert_19 rfl (lv_at hl 0 rfl) ?_
    refine va_get (D := D) (ci := 1) (v := .int (v.2.2.2.2 - 1)) (C := RX1) (T := TX1) (N := 5) hx hb hts hin_1 hown hK hP 0 rfl rfl 4 (by decide) fl_25 (fun _ h9 => h9) rfl dX1_revert_20 ?_
    refine jn_i (W2 := fun _ => wHis h0 h1 h2 h3 cI (v.1, v.2.1, v.2.2.1, v.2.2.2.1, (v.2.2.2.2 - 1)) ++ wStf g0 g1 g2 cI w) (va_runV (As := [.int (v.2.2.2.2 - 1)]) (rest := []) ⟨hx, hb, hml, hown, hts⟩ (c_X1_slotBehind l D cI cJ cZ h0 h1 h2 h3 H.size (v.1, v.2.1, v.2.2.1, v.2.2.2.1, (v.2.2.2.2 - 1)) (v.2.2.2.2 - 1) ((hs_pre hp).1) ((hs_pre hp).2)) (cwV 1 hts gX1_revert_X1_slotBehind rfl rfl rfl (by decide +kernel) ⟨Nat.le_of_ble_eq_true rfl, Nat.le_of_ble_eq_true rfl⟩) (pr_V hP hD hK hN hE hS hA [0, 1, 2, 3] (by decide) rfl (ci := 1) (q0 := 0) rfl rfl) rfl rfl hl.1 rfl (lv_room (Nat.le_of_ble_eq_true rfl)) dX1_revert_23 ⟨Nat.zero_le _, Nat.zero_le _⟩) hP hD hS hA [0, 1, 2, 3] [4, 5, 6] [3, 4, 5, 6, 0, 1, 2] rfl rfl (by decide) (by decide) (by decide) (fun _ => rfl) (fun r_23 u_23 H locs hw_23 hP hD hS => ?_)
    have hP : va_P D vwCl (wHis h0 h1 h2 h3 cI (v.1, v.2.1, v.2.2.1, v.2.2.2.1, (v.2.2.2.2 - 1)) ++ wStf g0 g1 g2 cI w) H := hP
    have hD : va_D A (wHis h0 h1 h2 h3 cI (v.1, v.2.1, v.2.2.1, v.2.2.2.1, (v.2.2.2.2 - 1)) ++ wStf g0 g1 g2 cI w) := hD
    have hr_23 := hw_23
    obtain rfl : r_23 = (hSlot (hPop v)) := hr_23
    refine lv_istore_n (lv' := [(2, .int (hSlot (hPop v))), (0, .ref h0), (1, .ref g0)]) hx hb dX1_revert_26 rfl hl (by decide) rfl (fun ls hl => ?_)
    refine lv_aload_n hx hb dX1_revert_27 rfl (lv_at hl 1 rfl) ?_
    refine va_get (D := D) (ci := 1) (v := .ref h3) (C := RX1) (T := TX1) (N := 5) hx hb hts hin_1 hown hK hP 0 rfl rfl 2 (by decide) fl_18 (fun _ h9 => h9) rfl dX1_revert_28 ?_
    refine lv_iload_n hx hb dX1_revert_31 rfl (lv_at hl 0 rfl) ?_
    refine va_iald (D := D) (f := v.2.2.1) hx hb hK hP 3 0 rfl rfl (by exact vi_mk (by omega) (by omega)) dX1_revert_32 ?_
    refine lv_istore_n (lv' := [(3, .int (v.2.2.1 (hSlot (hPop v)).toNatClampNeg)), (2, .int (hSlot (hPop v))), (0, .ref h0), (1, .ref g0)]) hx hb dX1_revert_33 rfl hl (by decide) rfl (fun ls hl => ?_)
    have hl : lv_has ls 5 [(3, .int (v.2.2.1 (hSlot (hPop v)).toNatClampNeg)), (2, .int (hSlot (hPop v))), (0, .ref h0), (1, .ref g0)] := hl
    refine lv_aload_n hx hb dX1_revert_34 rfl (lv_at hl 3 rfl) ?_
    refine lv_iload_n hx hb dX1_revert_35 rfl (lv_at hl 0 rfl) ?_
    refine lv_aload_n hx hb dX1_revert_36 rfl (lv_at hl 2 rfl) ?_
    refine va_get (D := D) (ci := 1) (v := .ref h2) (C := RX1) (T := TX1) (N := 5) hx hb hts hin_1 hown hK hP 0 rfl rfl 1 (by decide) fl_15 (fun _ h9 => h9) rfl dX1_revert_37 ?_
    refine lv_iload_n hx hb dX1_revert_40 rfl (lv_at hl 1 rfl) ?_
    refine va_iald (D := D) (f := v.2.1) hx hb hK hP 2 0 rfl rfl (by exact vi_mk (by omega) (by omega)) dX1_revert_41 ?_
    refine jn_v (W2 := fun u_42 => wHis h0 h1 h2 h3 cI (v.1, v.2.1, v.2.2.1, v.2.2.2.1, (v.2.2.2.2 - 1)) ++ wStf g0 g1 g2 cI u_42) (va_runV (As := [.int (v.2.2.1 (hSlot (hPop v)).toNatClampNeg), .int (v.2.1 (hSlot (hPop v)).toNatClampNeg)]) (rest := []) ⟨hx, hb, hml, hown, hts⟩ (c_X5_setLength l D cI cJ cZ g0 g1 g2 H.size w (v.2.2.1 (hSlot (hPop v)).toNatClampNeg) (v.2.1 (hSlot (hPop v)).toNatClampNeg)) (cwV 2 hts gX1_revert_X5_setLength rfl rfl rfl (by decide +kernel) ⟨Nat.le_of_ble_eq_true rfl, Nat.le_of_ble_eq_true rfl⟩) (pr_V hP hD hK hN hE hS hA [4, 5, 6] (by decide) rfl (ci := 5) (q0 := 4) rfl rfl) rfl rfl hl.1 rfl (lv_room (Nat.le_of_ble_eq_true rfl)) dX1_revert_42 ⟨Nat.zero_le _, Nat.zero_le _⟩) hP hD hS hA [4, 5, 6] [0, 1, 2, 3] [0, 1, 2, 3, 4, 5, 6] rfl rfl (by decide) (by decide) (by decide) (fun _ => rfl) (fun u_42 H locs hw_42 hP hD hS => ?_)
    have hP : va_P D vwCl (wHis h0 h1 h2 h3 cI (v.1, v.2.1, v.2.2.1, v.2.2.2.1, (v.2.2.2.2 - 1)) ++ wStf g0 g1 g2 cI u_42) H := hP
    have hD : va_D A (wHis h0 h1 h2 h3 cI (v.1, v.2.1, v.2.2.1, v.2.2.2.1, (v.2.2.2.2 - 1)) ++ wStf g0 g1 g2 cI u_42) := hD
    have hu_42 := hw_42
    have eg_45 : u_42 = (sSet w (v.2.2.1 (hSlot (hPop v)).toNatClampNeg) (v.2.1 (hSlot (hPop v)).toNatClampNeg)) := by rw [hu_42]
    rw [eg_45] at hP hD
    have hP : va_P D vwCl (wHis h0 h1 h2 h3 cI (v.1, v.2.1, v.2.2.1, v.2.2.2.1, (v.2.2.2.2 - 1)) ++ wStf g0 g1 g2 cI (sSet w (v.2.2.1 (hSlot (hPop v)).toNatClampNeg) (v.2.1 (hSlot (hPop v)).toNatClampNeg))) H := hP
    have hD : va_D A (wHis h0 h1 h2 h3 cI (v.1, v.2.1, v.2.2.1, v.2.2.2.1, (v.2.2.2.2 - 1)) ++ wStf g0 g1 g2 cI (sSet w (v.2.2.1 (hSlot (hPop v)).toNatClampNeg) (v.2.1 (hSlot (hPop v)).toNatClampNeg))) := hD
    refine lv_iconst (v := 0) hx hb dX1_revert_45 (by decide) ?_
    refine lv_istore (lv' := [(4, .int 0), (3, .int (v.2.2.1 (hSlot (hPop v)).toNatClampNeg)), (2, .int (hSlot (hPop v))), (0, .ref h0), (1, .ref g0)]) hx hb dX1_revert_46 hl (by decide) rfl (fun ls hl => ?_)
    have LB_48 : ∀ (n : Nat) (i : Nat) (hn_i : 10 < i + n) (hi_i : i ≤ 10) (H : Heap) (locs : List Loc) (_ : va_P D vwCl (wHis h0 h1 h2 h3 cI (v.1, v.2.1, v.2.2.1, v.2.2.2.1, (v.2.2.2.2 - 1)) ++ wStf g0 g1 g2 cI (revL (sSet w (v.2.2.1 (hSlot (hPop v)).toNatClampNeg) (v.2.1 (hSlot (hPop v)).toNatClampNeg)) v.1 (hSlot (hPop v)) (v.2.2.1 (hSlot (hPop v)).toNatClampNeg) i)) H) (_ : va_D A (wHis h0 h1 h2 h3 cI (v.1, v.2.1, v.2.2.1, v.2.2.2.1, (v.2.2.2.2 - 1)) ++ wStf g0 g1 g2 cI (revL (sSet w (v.2.2.1 (hSlot (hPop v)).toNatClampNeg) (v.2.1 (hSlot (hPop v)).toNatClampNeg)) v.1 (hSlot (hPop v)) (v.2.2.1 (hSlot (hPop v)).toNatClampNeg) i))) (_ : va_S A s.heap H locs) (ls : Array Slot) (_ : lv_has ls 5 [(0, .ref h0), (1, .ref g0), (2, .int (hSlot (hPop v))), (3, .int (v.2.2.1 (hSlot (hPop v)).toNatClampNeg)), (4, .int (nI i))]), W p l e rm_X1_revert s m args below meth c H locs 0 0 Q (F0 m 48 ls []) := by
      intro n
      induction n with
      | zero =>
        intro i hn_i hi_i
        exact absurd hn_i (by omega)
      | succ n LB_48 =>
        intro i hn_i hi_i H locs hP hD hS ls hl
        refine lv_iload hx hb dX1_revert_48 (lv_at hl 4 rfl) ?_
        refine lv_bipush (v := 10) hx hb dX1_revert_50 (by decide) ?_
        refine lv_icmp_ge (tgt := 80) hx hb dX1_revert_52 (by decide) (fun c_52 => ?_) (fun c_52 => ?_)
        · have i_52 := i_le c_52
          rw [(by decide : (10 : Int32).toInt = 10)] at i_52
          rw [nIT (by omega)] at i_52
          have e_52 : i = 10 := by omega
          exact lf_v hx hb hr hlocks hQ ((v.1, v.2.1, v.2.2.1, v.2.2.2.1, (v.2.2.2.2 - 1)), (revL (sSet w (v.2.2.1 (hSlot (hPop v)).toNatClampNeg) (v.2.1 (hSlot (hPop v)).toNatClampNeg)) v.1 (hSlot (hPop v)) (v.2.2.1 (hSlot (hPop v)).toNatClampNeg) i)) hP hD hS dX1_revert_80 ⟨(by simp only [hPopd, hBack, hPop, c_4, c_52, e_52, ↓reduceIte]), (by simp only [hPopd, hBack, hPop, c_4, c_52, e_52, ↓reduceIte])⟩
        · have i_52 := i_nle c_52
          rw [(by decide : (10 : Int32).toInt = 10)] at i_52
          rw [nIT (by omega)] at i_52
          refine lv_aload_n hx hb dX1_revert_55 rfl (lv_at hl 1 rfl) ?_
          refine lv_iload_n hx hb dX1_revert_56 rfl (lv_at hl 3 rfl) ?_
          refine lv_iload hx hb dX1_revert_57 (lv_at hl 4 rfl) ?_
          refine lv_aload_n hx hb dX1_revert_59 rfl (lv_at hl 0 rfl) ?_
          refine va_get (D := D) (ci := 1) (v := .ref h1) (C := RX1) (T := TX1) (N := 5) hx hb hts hin_1 hown hK hP 0 rfl rfl 0 (by decide) fl_9 (fun _ h9 => h9) rfl dX1_revert_60 ?_
          refine lv_iload_n hx hb dX1_revert_63 rfl (lv_at hl 2 rfl) ?_
          refine lv_bipush (v := 10) hx hb dX1_revert_64 (by decide) ?_
          refine lv_imul hx hb dX1_revert_66 ?_
          refine lv_iload hx hb dX1_revert_67 (lv_at hl 4 rfl) ?_
          refine lv_iadd hx hb dX1_revert_69 ?_
          refine va_iald (D := D) (f := v.1) hx hb hK hP 1 0 rfl rfl (by have q1 : (hSlot (hPop v) * 10).toInt = (hSlot (hPop v)).toInt * 10 := (by rw [ti_mul (by rw [li_10]; omega) (by rw [li_10]; omega), li_10]); have q2 : (hSlot (hPop v) * 10 + nI i).toInt = (hSlot (hPop v)).toInt * 10 + i := (by rw [ti_add (by rw [q1, nIT (by omega)]; omega) (by rw [q1, nIT (by omega)]; omega), q1, nIT (by omega)]); exact vi_mk (by rw [q2]; omega) (by rw [q2]; omega)) dX1_revert_70 ?_
          refine jn_v (W2 := fun u_71 => wHis h0 h1 h2 h3 cI (v.1, v.2.1, v.2.2.1, v.2.2.2.1, (v.2.2.2.2 - 1)) ++ wStf g0 g1 g2 cI u_71) (va_runV (As := [.int (v.2.2.1 (hSlot (hPop v)).toNatClampNeg), .int (nI i), .int (v.1 (((hSlot (hPop v)) * 10) + (nI i)).toNatClampNeg)]) (rest := []) ⟨hx, hb, hml, hown, hts⟩ (c_X5_replace l D cI cJ cZ g0 g1 g2 H.size (revL (sSet w (v.2.2.1 (hSlot (hPop v)).toNatClampNeg) (v.2.1 (hSlot (hPop v)).toNatClampNeg)) v.1 (hSlot (hPop v)) (v.2.2.1 (hSlot (hPop v)).toNatClampNeg) i) (v.2.2.1 (hSlot (hPop v)).toNatClampNeg) (nI i) (v.1 (((hSlot (hPop v)) * 10) + (nI i)).toNatClampNeg) (StfOk_2 (revL_2 _ _ _ _ _) (sSet_ok hwk _ _))) (cwV 3 hts gX1_revert_X5_replace rfl rfl rfl (by decide +kernel) ⟨Nat.le_of_ble_eq_true rfl, Nat.le_of_ble_eq_true rfl⟩) (pr_V hP hD hK hN hE hS hA [4, 5, 6] (by decide) rfl (ci := 5) (q0 := 4) rfl rfl) rfl rfl hl.1 rfl (lv_room (Nat.le_of_ble_eq_true rfl)) dX1_revert_71 ⟨Nat.zero_le _, Nat.zero_le _⟩) hP hD hS hA [4, 5, 6] [0, 1, 2, 3] [0, 1, 2, 3, 4, 5, 6] rfl rfl (by decide) (by decide) (by decide) (fun _ => rfl) (fun u_71 H locs hw_71 hP hD hS => ?_)
          have hP : va_P D vwCl (wHis h0 h1 h2 h3 cI (v.1, v.2.1, v.2.2.1, v.2.2.2.1, (v.2.2.2.2 - 1)) ++ wStf g0 g1 g2 cI u_71) H := hP
          have hD : va_D A (wHis h0 h1 h2 h3 cI (v.1, v.2.1, v.2.2.1, v.2.2.2.1, (v.2.2.2.2 - 1)) ++ wStf g0 g1 g2 cI u_71) := hD
          have hu_71 := hw_71
          refine lv_iinc (v := ((nI i) + 1)) (lv' := [(4, .int ((nI i) + 1)), (0, .ref h0), (1, .ref g0), (2, .int (hSlot (hPop v))), (3, .int (v.2.2.1 (hSlot (hPop v)).toNatClampNeg))]) hx hb dX1_revert_74 hl (k := 4) rfl rfl (by decide) rfl (fun ls hl => ?_)
          rw [show nI i + 1 = nI (i + 1) from nI_1 _] at hl
          have hl : lv_has ls 5 [(4, .int (nI (i + 1))), (0, .ref h0), (1, .ref g0), (2, .int (hSlot (hPop v))), (3, .int (v.2.2.1 (hSlot (hPop v)).toNatClampNeg))] := hl
          have eg_77 : u_71 = (revL (sSet w (v.2.2.1 (hSlot (hPop v)).toNatClampNeg) (v.2.1 (hSlot (hPop v)).toNatClampNeg)) v.1 (hSlot (hPop v)) (v.2.2.1 (hSlot (hPop v)).toNatClampNeg) (i + 1)) := by rw [hu_71]; rfl
          rw [eg_77] at hP hD
          have hP : va_P D vwCl (wHis h0 h1 h2 h3 cI (v.1, v.2.1, v.2.2.1, v.2.2.2.1, (v.2.2.2.2 - 1)) ++ wStf g0 g1 g2 cI (revL (sSet w (v.2.2.1 (hSlot (hPop v)).toNatClampNeg) (v.2.1 (hSlot (hPop v)).toNatClampNeg)) v.1 (hSlot (hPop v)) (v.2.2.1 (hSlot (hPop v)).toNatClampNeg) (i + 1))) H := hP
          have hD : va_D A (wHis h0 h1 h2 h3 cI (v.1, v.2.1, v.2.2.1, v.2.2.2.1, (v.2.2.2.2 - 1)) ++ wStf g0 g1 g2 cI (revL (sSet w (v.2.2.1 (hSlot (hPop v)).toNatClampNeg) (v.2.1 (hSlot (hPop v)).toNatClampNeg)) v.1 (hSlot (hPop v)) (v.2.2.1 (hSlot (hPop v)).toNatClampNeg) (i + 1))) := hD
          refine lv_goto (tgt := 48) hx hb dX1_revert_77 (by decide) ?_
          exact LB_48 (i + 1) (by omega) (by omega) H locs hP hD hS ls (lv_sub hl [1, 2, 3, 4, 0] rfl)
    exact LB_48 (10 + 1) 0 (by omega) (by omega) H locs hP hD hS ls (lv_sub hl [3, 4, 2, 1, 0] rfl)
  · have i_4 := i_eq c_4
    rw [(by decide : (0 : Int32).toInt = 0)] at i_4
    exact lf_v hx hb hr hlocks hQ (v, w) hP hD hS dX1_revert_7 ⟨(by simp only [hPopd, hBack, c_4, ↓reduceIte]), (by simp only [hPopd, hBack, c_4, ↓reduceIte])⟩
abbrev rm_X2_take : Room := { frames := 4, cells := 0, slots := 0, locals := 88 }
set_option maxHeartbeats 4000000 in
set_option maxRecDepth 100000 in
theorem c_X2_take (l : Launch) (D : va_G) (cI cJ cZ : ClassId) (h0 : Nat) (h1 : Nat) (h2 : Nat) (h3 : Nat) (g0 : Nat) (g1 : Nat) (g2 : Nat) (sz : Nat) (v : Img) (w : Stf) (hok : StfOk v.2) (hwk : StfOk w) : Met l yX2_take wsX2_take rm_X2_take (va_Pc [.ref h0, .ref g0] (PU D (tyL cI cJ cZ) (wImg h0 h1 h2 h3 cI v ++ wStf g0 g1 g2 cI w) sz)) (va_Qv (fun (uz : Img) => uz = (1, cpO v.2 w 3)) (fun uz => BU D (wImg h0 h1 h2 h3 cI uz ++ wStf g0 g1 g2 cI w) (va_A (wImg h0 h1 h2 h3 cI v ++ wStf g0 g1 g2 cI w) sz)) (va_A (wImg h0 h1 h2 h3 cI v ++ wStf g0 g1 g2 cI w) sz)) 0 0 (va_A (wImg h0 h1 h2 h3 cI v ++ wStf g0 g1 g2 cI w) sz) := by
  refine en (own := RX2) (Qc := fun A => va_Qv (fun (uz : Img) => uz = (1, cpO v.2 w 3)) (fun uz => BU D (wImg h0 h1 h2 h3 cI uz ++ wStf g0 g1 g2 cI w) A) A) (by decide) rfl (Nat.le_of_ble_eq_true rfl) rfl ?_
  intro p e s m args below meth c A Q H locs ls hx hb hr hml hown hts hlocks hname hA hN hE hK hQ hP hD hS hl
  have hl : lv_has ls 2 [(0, .ref h0), (1, .ref g0)] := hl
  have fl_10 := hts (.fieldLink RX2 10 "DanceStaffs$Image" "staffs" "LDanceStaffs$Staffs;") (by decide +kernel)
  have hin_2 : ∀ w ∈ u_ws RX2 TX2 2, w ∈ wsX2_take := by decide +kernel
  have fl_16 := hts (.fieldLink RX2 16 "DanceStaffs$Image" "isTaken" "Z") (by decide +kernel)
  refine lv_aload_n hx hb dX2_take_0 rfl (lv_at hl 0 rfl) ?_
  refine va_get (D := D) (ci := 2) (v := .ref h1) (C := RX2) (T := TX2) (N := 2) hx hb hts hin_2 hown hK hP 0 rfl rfl 0 (by decide) fl_10 (fun _ h9 => h9) rfl dX2_take_1 ?_
  refine lv_aload_n hx hb dX2_take_4 rfl (lv_at hl 1 rfl) ?_
  refine jn_v (W2 := fun u_5 => wImg h0 h1 h2 h3 cI (v.1, u_5) ++ wStf g0 g1 g2 cI w) (va_runV (As := [.ref g0]) (rest := []) ⟨hx, hb, hml, hown, hts⟩ (c_X5_copyFrom l D cI cJ cZ h1 h2 h3 g0 g1 g2 H.size v.2 w (hok) (hwk)) (cwV 1 hts gX2_take_X5_copyFrom rfl rfl rfl (by decide +kernel) ⟨Nat.le_of_ble_eq_true rfl, Nat.le_of_ble_eq_true rfl⟩) (pr_V hP hD hK hN hE hS hA [1, 2, 3, 4, 5, 6] (by decide) rfl (ci := 5) (q0 := 1) rfl rfl) rfl rfl hl.1 rfl (lv_room (Nat.le_of_ble_eq_true rfl)) dX2_take_5 ⟨Nat.zero_le _, Nat.zero_le _⟩) hP hD hS hA [1, 2, 3, 4, 5, 6] [0] [0, 1, 2, 3, 4, 5, 6] rfl rfl (by decide) (by decide) (by decide) (fun _ => rfl) (fun u_5 H locs hw_5 hP hD hS => ?_)
  have hP : va_P D vwCl (wImg h0 h1 h2 h3 cI (v.1, u_5) ++ wStf g0 g1 g2 cI w) H := hP
  have hD : va_D A (wImg h0 h1 h2 h3 cI (v.1, u_5) ++ wStf g0 g1 g2 cI w) := hD
  have hu_5 := hw_5
  refine lv_aload_n hx hb dX2_take_8 rfl (lv_at hl 0 rfl) ?_
  refine lv_iconst (v := 1) hx hb dX2_take_9 (by decide) ?_
  refine va_put (D := D) (ci := 2) (v := .int 1) (ty := .boolean) (C := RX2) (T := TX2) (N := 2) hx hb hts hin_2 tyX2 tyX2_ok nmX2 hown hK hP hD hS 0 rfl rfl 1 (by decide) fl_16 (fun _ h9 => h9) rfl (by decide +kernel) rfl rfl (Nat.le_of_ble_eq_true rfl) dX2_take_10 (fun H locs hP hD hS => ?_)
  have hP : va_P D vwCl (wImg h0 h1 h2 h3 cI (1, u_5) ++ wStf g0 g1 g2 cI w) H := hP
  have hD : va_D A (wImg h0 h1 h2 h3 cI (1, u_5) ++ wStf g0 g1 g2 cI w) := hD
  exact lf_v hx hb hr hlocks hQ (1, u_5) hP hD hS dX2_take_13 (by rw [hu_5])
abbrev rm_X4_agreeWith : Room := { frames := 2, cells := 0, slots := 0, locals := 43 }
set_option maxHeartbeats 4000000 in
set_option maxRecDepth 100000 in
theorem c_X4_agreeWith (l : Launch) (D : va_G) (cI cJ cZ : ClassId) (h0 : Nat) (h1 : Nat) (h2 : Nat) (h3 : Nat) (c0 : Nat) (c1 : Nat) (c2 : Nat) (c3 : Nat) (c4 : Nat) (c5 : Nat) (sz : Nat) (v : Sgt) (k : Crs) (h00 : 0 ≤ v.2.2.2.toInt) (h06 : v.2.2.2.toInt ≤ 6) : Met l yX4_agreeWith wsX4_agreeWith rm_X4_agreeWith (va_Pc [.ref h0, .ref c0] (PU D (tyL cI cJ cZ) (wSgt h0 h1 h2 h3 cI v ++ wCrs c0 c1 c2 c3 c4 c5 cI k) sz)) (va_Qi (fun (rz : Int32) (_ : Unit) => rz = bI (agr v k)) (fun uz => BU D (wSgt h0 h1 h2 h3 cI v ++ wCrs c0 c1 c2 c3 c4 c5 cI k) (va_A (wSgt h0 h1 h2 h3 cI v ++ wCrs c0 c1 c2 c3 c4 c5 cI k) sz)) (va_A (wSgt h0 h1 h2 h3 cI v ++ wCrs c0 c1 c2 c3 c4 c5 cI k) sz)) 0 0 (va_A (wSgt h0 h1 h2 h3 cI v ++ wCrs c0 c1 c2 c3 c4 c5 cI k) sz) := by
  refine en (own := RX4) (Qc := fun A => va_Qi (fun (rz : Int32) (_ : Unit) => rz = bI (agr v k)) (fun uz => BU D (wSgt h0 h1 h2 h3 cI v ++ wCrs c0 c1 c2 c3 c4 c5 cI k) A) A) (by decide) rfl (Nat.le_of_ble_eq_true rfl) rfl ?_
  intro p e s m args below meth c A Q H locs ls hx hb hr hml hown hts hlocks hname hA hN hE hK hQ hP hD hS hl
  have hl : lv_has ls 3 [(0, .ref h0), (1, .ref c0)] := hl
  have fl_21 := hts (.fieldLink RX4 21 "DanceStaffs$Sightings" "size" "I") (by decide +kernel)
  have hin_4 : ∀ w ∈ u_ws RX4 TX4 4, w ∈ wsX4_agreeWith := by decide +kernel
  have fl_9 := hts (.fieldLink RX4 9 "DanceStaffs$Sightings" "moments" "[I") (by decide +kernel)
  have fl_15 := hts (.fieldLink RX4 15 "DanceStaffs$Sightings" "xs" "[I") (by decide +kernel)
  have fl_18 := hts (.fieldLink RX4 18 "DanceStaffs$Sightings" "ys" "[I") (by decide +kernel)
  have hcl := clampT h00
  refine lv_iconst (v := 0) hx hb dX4_agreeWith_0 (by decide) ?_
  refine lv_istore_n (lv' := [(2, .int 0), (0, .ref h0), (1, .ref c0)]) hx hb dX4_agreeWith_1 rfl hl (by decide) rfl (fun ls hl => ?_)
  have LB_2 : ∀ (n : Nat) (i : Nat) (hn_i : (v.2.2.2).toNatClampNeg < i + n) (hi_i : i ≤ (v.2.2.2).toNatClampNeg) (hG : agL v k ((v.2.2.2).toNatClampNeg - i) i = agr v k) (H : Heap) (locs : List Loc) (_ : va_P D vwCl (wSgt h0 h1 h2 h3 cI v ++ wCrs c0 c1 c2 c3 c4 c5 cI k) H) (_ : va_D A (wSgt h0 h1 h2 h3 cI v ++ wCrs c0 c1 c2 c3 c4 c5 cI k)) (_ : va_S A s.heap H locs) (ls : Array Slot) (_ : lv_has ls 3 [(0, .ref h0), (1, .ref c0), (2, .int (nI i))]), W p l e rm_X4_agreeWith s m args below meth c H locs 0 0 Q (F0 m 2 ls []) := by
    intro n
    induction n with
    | zero =>
      intro i hn_i hi_i hG
      exact absurd hn_i (by omega)
    | succ n LB_2 =>
      intro i hn_i hi_i hG H locs hP hD hS ls hl
      refine lv_iload_n hx hb dX4_agreeWith_2 rfl (lv_at hl 2 rfl) ?_
      refine lv_aload_n hx hb dX4_agreeWith_3 rfl (lv_at hl 0 rfl) ?_
      refine va_get (D := D) (ci := 4) (v := .int v.2.2.2) (C := RX4) (T := TX4) (N := 4) hx hb hts hin_4 hown hK hP 0 rfl rfl 3 (by decide) fl_21 (fun _ h9 => h9) rfl dX4_agreeWith_4 ?_
      refine lv_icmp_ge (tgt := 49) hx hb dX4_agreeWith_7 (by decide) (fun c_7 => ?_) (fun c_7 => ?_)
      · have i_7 := i_le c_7
        rw [nIT (by omega)] at i_7
        rw [show (v.2.2.2).toNatClampNeg - i = 0 by omega] at hG
        refine lv_iconst (v := 1) hx hb dX4_agreeWith_49 (by decide) ?_
        exact lf_z hx hb hr hlocks hQ () hP hD hS dX4_agreeWith_50 (by first | rfl | (rw [bI_f]; exact bI_n _) | exact bI_n _) (by rw [← hG]; rfl)
      · have i_7 := i_nle c_7
        rw [nIT (by omega)] at i_7
        rw [show (v.2.2.2).toNatClampNeg - i = ((v.2.2.2).toNatClampNeg - (i + 1)) + 1 by omega] at hG
        refine lv_iload_n hx hb dX4_agreeWith_10 rfl (lv_at hl 2 rfl) ?_
        refine lv_bipush (v := 6) hx hb dX4_agreeWith_11 (by decide) ?_
        refine lv_icmp_ge (tgt := 49) hx hb dX4_agreeWith_13 (by decide) (fun c_13 => ?_) (fun c_13 => ?_)
        · have i_13 := i_le c_13
          rw [(by decide : (6 : Int32).toInt = 6)] at i_13
          exact absurd i_13 (by rw [nIT (by omega)]; omega)
        · have i_13 := i_nle c_13
          rw [(by decide : (6 : Int32).toInt = 6)] at i_13
          rw [nIT (by omega)] at i_13
          refine lv_aload_n hx hb dX4_agreeWith_16 rfl (lv_at hl 1 rfl) ?_
          refine lv_aload_n hx hb dX4_agreeWith_17 rfl (lv_at hl 0 rfl) ?_
          refine va_get (D := D) (ci := 4) (v := .ref h1) (C := RX4) (T := TX4) (N := 4) hx hb hts hin_4 hown hK hP 0 rfl rfl 0 (by decide) fl_9 (fun _ h9 => h9) rfl dX4_agreeWith_18 ?_
          refine lv_iload_n hx hb dX4_agreeWith_21 rfl (lv_at hl 2 rfl) ?_
          refine va_iald (D := D) (f := v.1) hx hb hK hP 1 0 rfl rfl (vp_in_nI (by omega) (by decide)) dX4_agreeWith_22 ?_
          refine lv_aload_n hx hb dX4_agreeWith_23 rfl (lv_at hl 0 rfl) ?_
          refine va_get (D := D) (ci := 4) (v := .ref h2) (C := RX4) (T := TX4) (N := 4) hx hb hts hin_4 hown hK hP 0 rfl rfl 1 (by decide) fl_15 (fun _ h9 => h9) rfl dX4_agreeWith_24 ?_
          refine lv_iload_n hx hb dX4_agreeWith_27 rfl (lv_at hl 2 rfl) ?_
          refine va_iald (D := D) (f := v.2.1) hx hb hK hP 2 0 rfl rfl (vp_in_nI (by omega) (by decide)) dX4_agreeWith_28 ?_
          refine lv_aload_n hx hb dX4_agreeWith_29 rfl (lv_at hl 0 rfl) ?_
          refine va_get (D := D) (ci := 4) (v := .ref h3) (C := RX4) (T := TX4) (N := 4) hx hb hts hin_4 hown hK hP 0 rfl rfl 2 (by decide) fl_18 (fun _ h9 => h9) rfl dX4_agreeWith_30 ?_
          refine lv_iload_n hx hb dX4_agreeWith_33 rfl (lv_at hl 2 rfl) ?_
          refine va_iald (D := D) (f := v.2.2.1) hx hb hK hP 3 0 rfl rfl (vp_in_nI (by omega) (by decide)) dX4_agreeWith_34 ?_
          refine jn_i (W2 := fun _ => wSgt h0 h1 h2 h3 cI v ++ wCrs c0 c1 c2 c3 c4 c5 cI k) (va_runV (As := [.int (v.1 (nI i).toNatClampNeg), .int (v.2.1 (nI i).toNatClampNeg), .int (v.2.2.1 (nI i).toNatClampNeg)]) (rest := []) ⟨hx, hb, hml, hown, hts⟩ (c_X0_isAt l D cI cJ cZ c0 c1 c2 c3 c4 c5 H.size k (v.1 (nI i).toNatClampNeg) (v.2.1 (nI i).toNatClampNeg) (v.2.2.1 (nI i).toNatClampNeg)) (cwV 3 hts gX4_agreeWith_X0_isAt rfl rfl rfl (by decide +kernel) ⟨Nat.le_of_ble_eq_true rfl, Nat.le_of_ble_eq_true rfl⟩) (pr_V hP hD hK hN hE hS hA [4, 5, 6, 7, 8, 9] (by decide) rfl (ci := 0) (q0 := 4) rfl rfl) rfl rfl hl.1 rfl (lv_room (Nat.le_of_ble_eq_true rfl)) dX4_agreeWith_35 ⟨Nat.zero_le _, Nat.zero_le _⟩) hP hD hS hA [4, 5, 6, 7, 8, 9] [0, 1, 2, 3] [0, 1, 2, 3, 4, 5, 6, 7, 8, 9] rfl rfl (by decide) (by decide) (by decide) (fun _ => rfl) (fun r_35 u_35 H locs hw_35 hP hD hS => ?_)
          have hP : va_P D vwCl (wSgt h0 h1 h2 h3 cI v ++ wCrs c0 c1 c2 c3 c4 c5 cI k) H := hP
          have hD : va_D A (wSgt h0 h1 h2 h3 cI v ++ wCrs c0 c1 c2 c3 c4 c5 cI k) := hD
          have hr_35 := hw_35
          refine lv_if_ne (tgt := 43) hx hb dX4_agreeWith_38 (by decide) (fun c_38 => ?_) (fun c_38 => ?_)
          · have b_38 : (cAt k (v.1 (nI i).toNatClampNeg) (v.2.1 (nI i).toNatClampNeg) (v.2.2.1 (nI i).toNatClampNeg)) = true := bI_1 (fun q => c_38 (hr_35.trans q))
            simp only [agL, b_38, ↓reduceIte] at hG
            refine lv_iinc (v := ((nI i) + 1)) (lv' := [(2, .int ((nI i) + 1)), (0, .ref h0), (1, .ref c0)]) hx hb dX4_agreeWith_43 hl (k := 2) rfl rfl (by decide) rfl (fun ls hl => ?_)
            rw [show nI i + 1 = nI (i + 1) from nI_1 _] at hl
            have hl : lv_has ls 3 [(2, .int (nI (i + 1))), (0, .ref h0), (1, .ref c0)] := hl
            refine lv_goto (tgt := 2) hx hb dX4_agreeWith_46 (by decide) ?_
            exact LB_2 (i + 1) (by omega) (by omega) (hG) H locs hP hD hS ls (lv_sub hl [1, 2, 0] rfl)
          · have b_38 : (cAt k (v.1 (nI i).toNatClampNeg) (v.2.1 (nI i).toNatClampNeg) (v.2.2.1 (nI i).toNatClampNeg)) = false := bI_0 (hr_35.symm.trans c_38)
            simp only [agL, b_38, ↓reduceIte] at hG
            refine lv_iconst (v := 0) hx hb dX4_agreeWith_41 (by decide) ?_
            exact lf_z hx hb hr hlocks hQ () hP hD hS dX4_agreeWith_42 (by first | rfl | (rw [bI_f]; exact bI_n _) | exact bI_n _) (by rw [← hG]; rfl; done)
  exact LB_2 ((v.2.2.2).toNatClampNeg + 1) 0 (by omega) (by omega) (rfl) H locs hP hD hS ls (lv_sub hl [1, 2, 0] rfl)
abbrev rm_X0_follow : Room := { frames := 3, cells := 0, slots := 0, locals := 71 }
set_option maxHeartbeats 4000000 in
set_option maxRecDepth 100000 in
theorem c_X0_follow (l : Launch) (D : va_G) (cI cJ cZ : ClassId) (h0 : Nat) (h1 : Nat) (h2 : Nat) (h3 : Nat) (h4 : Nat) (h5 : Nat) (t0 : Nat) (t1 : Nat) (t2 : Nat) (t3 : Nat) (t4 : Nat) (t5 : Nat) (t6 : Nat) (sz : Nat) (k : Crs) (t : Trp) (d : Int32) (rb : Int32) (hs : t.2.2.2.1.toInt ≤ 3) (hok : StfOk t.2.2.2.2) : Met l yX0_follow wsX0_follow rm_X0_follow (va_Pc [.ref h0, .ref t0, .int d, .int rb] (PU D (tyL cI cJ cZ) (wCrs h0 h1 h2 h3 h4 h5 cI k ++ wTrp t0 t1 t2 t3 t4 t5 t6 cI t) sz)) (va_Qv (fun (uz : Crs) => uz = fol t d rb k) (fun uz => BU D (wCrs h0 h1 h2 h3 h4 h5 cI uz ++ wTrp t0 t1 t2 t3 t4 t5 t6 cI t) (va_A (wCrs h0 h1 h2 h3 h4 h5 cI k ++ wTrp t0 t1 t2 t3 t4 t5 t6 cI t) sz)) (va_A (wCrs h0 h1 h2 h3 h4 h5 cI k ++ wTrp t0 t1 t2 t3 t4 t5 t6 cI t) sz)) 0 0 (va_A (wCrs h0 h1 h2 h3 h4 h5 cI k ++ wTrp t0 t1 t2 t3 t4 t5 t6 cI t) sz) := by
  refine en (own := RX0) (Qc := fun A => va_Qv (fun (uz : Crs) => uz = fol t d rb k) (fun uz => BU D (wCrs h0 h1 h2 h3 h4 h5 cI uz ++ wTrp t0 t1 t2 t3 t4 t5 t6 cI t) A) A) (by decide) rfl (Nat.le_of_ble_eq_true rfl) rfl ?_
  intro p e s m args below meth c A Q H locs ls hx hb hr hml hown hts hlocks hname hA hN hE hK hQ hP hD hS hl
  have hl : lv_has ls 7 [(0, .ref h0), (1, .ref t0), (2, .int d), (3, .int rb)] := hl
  have fl_31 := hts (.fieldLink RX0 31 "DanceStaffs$Course" "broken" "I") (by decide +kernel)
  have hin_0 : ∀ w ∈ u_ws RX0 TX0 6, w ∈ wsX0_follow := by decide +kernel
  have fl_27 := hts (.fieldLink RX0 27 "DanceStaffs$Course" "standing" "LDanceStaffs$Standing;") (by decide +kernel)
  have hin_8 : ∀ w ∈ u_ws RX8 TX8 5, w ∈ wsX0_follow := by decide +kernel
  refine lv_aload_n hx hb dX0_follow_0 rfl (lv_at hl 0 rfl) ?_
  refine lv_bipush (v := (-9)) hx hb dX0_follow_1 (by decide) ?_
  refine va_put (D := D) (ci := 0) (v := .int (-9)) (ty := .int) (C := RX0) (T := TX0) (N := 6) hx hb hts hin_0 tyX0 tyX0_ok nmX0 hown hK hP hD hS 0 rfl rfl 5 (by decide) fl_31 (fun _ h9 => h9) rfl (by decide +kernel) rfl rfl (Nat.le_of_ble_eq_true rfl) dX0_follow_3 (fun H locs hP hD hS => ?_)
  have hP : va_P D vwCl (wCrs h0 h1 h2 h3 h4 h5 cI (k.1, k.2.1, k.2.2.1, k.2.2.2.1, (-9), k.2.2.2.2.2) ++ wTrp t0 t1 t2 t3 t4 t5 t6 cI t) H := hP
  have hD : va_D A (wCrs h0 h1 h2 h3 h4 h5 cI (k.1, k.2.1, k.2.2.1, k.2.2.2.1, (-9), k.2.2.2.2.2) ++ wTrp t0 t1 t2 t3 t4 t5 t6 cI t) := hD
  refine lv_aload_n hx hb dX0_follow_6 rfl (lv_at hl 1 rfl) ?_
  refine lv_aload_n hx hb dX0_follow_7 rfl (lv_at hl 0 rfl) ?_
  refine va_get (D := D) (ci := 0) (v := .ref h5) (C := RX0) (T := TX0) (N := 6) hx hb hts hin_0 hown hK hP 0 rfl rfl 4 (by decide) fl_27 (fun _ h9 => h9) rfl dX0_follow_8 ?_
  refine lv_iload_n hx hb dX0_follow_11 rfl (lv_at hl 2 rfl) ?_
  refine jn_v (W2 := fun u_12 => wCrs h0 h1 h2 h3 h4 h5 cI (k.1, k.2.1, k.2.2.1, k.2.2.2.1, (-9), u_12) ++ wTrp t0 t1 t2 t3 t4 t5 t6 cI t) (va_runV (As := [.ref h5, .int d]) (rest := []) ⟨hx, hb, hml, hown, hts⟩ (c_X8_bringToBegin l D cI cJ cZ t0 t1 t2 t3 t4 t5 t6 h5 H.size t k.2.2.2.2.2 d (hs)) (cwV 2 hts gX0_follow_X8_bringToBegin rfl rfl rfl (by decide +kernel) ⟨Nat.le_of_ble_eq_true rfl, Nat.le_of_ble_eq_true rfl⟩) (pr_V hP hD hK hN hE hS hA [6, 7, 8, 9, 10, 11, 12, 5] (by decide) rfl (ci := 8) (q0 := 6) rfl rfl) rfl rfl hl.1 rfl (lv_room (Nat.le_of_ble_eq_true rfl)) dX0_follow_12 ⟨Nat.zero_le _, Nat.zero_le _⟩) hP hD hS hA [6, 7, 8, 9, 10, 11, 12, 5] [0, 1, 2, 3, 4] [0, 1, 2, 3, 4, 12, 5, 6, 7, 8, 9, 10, 11] rfl rfl (by decide) (by decide) (by decide) (fun _ => rfl) (fun u_12 H locs hw_12 hP hD hS => ?_)
  have hP : va_P D vwCl (wCrs h0 h1 h2 h3 h4 h5 cI (k.1, k.2.1, k.2.2.1, k.2.2.2.1, (-9), u_12) ++ wTrp t0 t1 t2 t3 t4 t5 t6 cI t) H := hP
  have hD : va_D A (wCrs h0 h1 h2 h3 h4 h5 cI (k.1, k.2.1, k.2.2.1, k.2.2.2.1, (-9), u_12) ++ wTrp t0 t1 t2 t3 t4 t5 t6 cI t) := hD
  have hu_12 := hw_12
  refine lv_aload_n hx hb dX0_follow_15 rfl (lv_at hl 0 rfl) ?_
  refine lv_iconst (v := 0) hx hb dX0_follow_16 (by decide) ?_
  refine jn_v (W2 := fun u_17 => wCrs h0 h1 h2 h3 h4 h5 cI u_17 ++ wTrp t0 t1 t2 t3 t4 t5 t6 cI t) (va_runV (As := [.int 0]) (rest := []) ⟨hx, hb, hml, hown, hts⟩ (c_X0_note l D cI cJ cZ h0 h1 h2 h3 h4 h5 H.size (k.1, k.2.1, k.2.2.1, k.2.2.2.1, (-9), u_12) 0) (cwV 1 hts gX0_follow_X0_note rfl rfl rfl (by decide +kernel) ⟨Nat.le_of_ble_eq_true rfl, Nat.le_of_ble_eq_true rfl⟩) (pr_V hP hD hK hN hE hS hA [0, 1, 2, 3, 4, 5] (by decide) rfl (ci := 0) (q0 := 0) rfl rfl) rfl rfl hl.1 rfl (lv_room (Nat.le_of_ble_eq_true rfl)) dX0_follow_17 ⟨Nat.zero_le _, Nat.zero_le _⟩) hP hD hS hA [0, 1, 2, 3, 4, 5] [6, 7, 8, 9, 10, 11, 12] [7, 8, 9, 10, 11, 12, 0, 1, 2, 3, 4, 5, 6] rfl rfl (by decide) (by decide) (by decide) (fun _ => rfl) (fun u_17 H locs hw_17 hP hD hS => ?_)
  have hP : va_P D vwCl (wCrs h0 h1 h2 h3 h4 h5 cI u_17 ++ wTrp t0 t1 t2 t3 t4 t5 t6 cI t) H := hP
  have hD : va_D A (wCrs h0 h1 h2 h3 h4 h5 cI u_17 ++ wTrp t0 t1 t2 t3 t4 t5 t6 cI t) := hD
  have hu_17 := hw_17
  have eg_20 : u_17 = (cNote (k.1, k.2.1, k.2.2.1, k.2.2.2.1, -9, tpBeg t k.2.2.2.2.2 d) 0) := by rw [hu_17, hu_12]
  rw [eg_20] at hP hD
  have hP : va_P D vwCl (wCrs h0 h1 h2 h3 h4 h5 cI (cNote (k.1, k.2.1, k.2.2.1, k.2.2.2.1, -9, tpBeg t k.2.2.2.2.2 d) 0) ++ wTrp t0 t1 t2 t3 t4 t5 t6 cI t) H := hP
  have hD : va_D A (wCrs h0 h1 h2 h3 h4 h5 cI (cNote (k.1, k.2.1, k.2.2.1, k.2.2.2.1, -9, tpBeg t k.2.2.2.2.2 d) 0) ++ wTrp t0 t1 t2 t3 t4 t5 t6 cI t) := hD
  refine lv_iconst (v := 0) hx hb dX0_follow_20 (by decide) ?_
  refine lv_istore (lv' := [(4, .int 0), (0, .ref h0), (1, .ref t0), (2, .int d), (3, .int rb)]) hx hb dX0_follow_21 hl (by decide) rfl (fun ls hl => ?_)
  have LB_23 : ∀ (n : Nat) (i : Nat) (hn_i : 10 < i + n) (hi_i : i ≤ 10) (H : Heap) (locs : List Loc) (_ : va_P D vwCl (wCrs h0 h1 h2 h3 h4 h5 cI (folL t d rb (cNote (k.1, k.2.1, k.2.2.1, k.2.2.2.1, -9, tpBeg t k.2.2.2.2.2 d) 0) i) ++ wTrp t0 t1 t2 t3 t4 t5 t6 cI t) H) (_ : va_D A (wCrs h0 h1 h2 h3 h4 h5 cI (folL t d rb (cNote (k.1, k.2.1, k.2.2.1, k.2.2.2.1, -9, tpBeg t k.2.2.2.2.2 d) 0) i) ++ wTrp t0 t1 t2 t3 t4 t5 t6 cI t)) (_ : va_S A s.heap H locs) (ls : Array Slot) (_ : lv_has ls 7 [(0, .ref h0), (1, .ref t0), (2, .int d), (3, .int rb), (4, .int (nI i))]), W p l e rm_X0_follow s m args below meth c H locs 0 0 Q (F0 m 23 ls []) := by
    intro n
    induction n with
    | zero =>
      intro i hn_i hi_i
      exact absurd hn_i (by omega)
    | succ n LB_23 =>
      intro i hn_i hi_i H locs hP hD hS ls hl
      refine lv_iload hx hb dX0_follow_23 (lv_at hl 4 rfl) ?_
      refine lv_bipush (v := 10) hx hb dX0_follow_25 (by decide) ?_
      refine lv_icmp_ge (tgt := 108) hx hb dX0_follow_27 (by decide) (fun c_27 => ?_) (fun c_27 => ?_)
      · have i_27 := i_le c_27
        rw [(by decide : (10 : Int32).toInt = 10)] at i_27
        rw [nIT (by omega)] at i_27
        have e_27 : i = 10 := by omega
        exact lf_v hx hb hr hlocks hQ (folL t d rb (cNote (k.1, k.2.1, k.2.2.1, k.2.2.2.1, -9, tpBeg t k.2.2.2.2.2 d) 0) i) hP hD hS dX0_follow_108 (by rw [e_27]; rfl)
      · have i_27 := i_nle c_27
        rw [(by decide : (10 : Int32).toInt = 10)] at i_27
        rw [nIT (by omega)] at i_27
        refine lv_aload_n hx hb dX0_follow_30 rfl (lv_at hl 1 rfl) ?_
        refine va_getN (D := D) (ci := 8) (v := .ref t4) (C := RX8) (T := TX8) (N := 5) hx hb hts hin_8 hown hK hP 6 rfl rfl 3 (by decide) (nw_fuse hN 23 rfl) (fun _ h9 => h9) rfl dX0_follow_31 ?_
        refine lv_iload_n hx hb dX0_follow_34 rfl (lv_at hl 2 rfl) ?_
        refine lv_iload hx hb dX0_follow_35 (lv_at hl 4 rfl) ?_
        refine jn_i (W2 := fun _ => wCrs h0 h1 h2 h3 h4 h5 cI (folL t d rb (cNote (k.1, k.2.1, k.2.2.1, k.2.2.2.1, -9, tpBeg t k.2.2.2.2.2 d) 0) i) ++ wTrp t0 t1 t2 t3 t4 t5 t6 cI t) (va_runV (As := [.int d, .int (nI i)]) (rest := []) ⟨hx, hb, hml, hown, hts⟩ (c_X5_signAt l D cI cJ cZ t4 t5 t6 H.size t.2.2.2.2 d (nI i) (hok)) (cwV 2 hts gX0_follow_X5_signAt rfl rfl rfl (by decide +kernel) ⟨Nat.le_of_ble_eq_true rfl, Nat.le_of_ble_eq_true rfl⟩) (pr_V hP hD hK hN hE hS hA [10, 11, 12] (by decide) rfl (ci := 5) (q0 := 10) rfl rfl) rfl rfl hl.1 rfl (lv_room (Nat.le_of_ble_eq_true rfl)) dX0_follow_37 ⟨Nat.zero_le _, Nat.zero_le _⟩) hP hD hS hA [10, 11, 12] [0, 1, 2, 3, 4, 5, 6, 7, 8, 9] [0, 1, 2, 3, 4, 5, 6, 7, 8, 9, 10, 11, 12] rfl rfl (by decide) (by decide) (by decide) (fun _ => rfl) (fun r_37 u_37 H locs hw_37 hP hD hS => ?_)
        have hP : va_P D vwCl (wCrs h0 h1 h2 h3 h4 h5 cI (folL t d rb (cNote (k.1, k.2.1, k.2.2.1, k.2.2.2.1, -9, tpBeg t k.2.2.2.2.2 d) 0) i) ++ wTrp t0 t1 t2 t3 t4 t5 t6 cI t) H := hP
        have hD : va_D A (wCrs h0 h1 h2 h3 h4 h5 cI (folL t d rb (cNote (k.1, k.2.1, k.2.2.1, k.2.2.2.1, -9, tpBeg t k.2.2.2.2.2 d) 0) i) ++ wTrp t0 t1 t2 t3 t4 t5 t6 cI t) := hD
        have hr_37 := hw_37
        refine lv_istore (lv' := [(5, .int r_37), (0, .ref h0), (1, .ref t0), (2, .int d), (3, .int rb), (4, .int (nI i))]) hx hb dX0_follow_40 hl (by decide) rfl (fun ls hl => ?_)
        refine lv_iload hx hb dX0_follow_42 (lv_at hl 0 rfl) ?_
        refine lv_bipush (v := (-9)) hx hb dX0_follow_44 (by decide) ?_
        refine lv_icmp_eq (tgt := 64) hx hb dX0_follow_46 (by decide) (fun c_46 => ?_) (fun c_46 => ?_)
        · have i_46 := i_eq c_46
          rw [(by decide : (-9 : Int32).toInt = -9)] at i_46
          refine lv_iconst (v := 1) hx hb dX0_follow_64 (by decide) ?_
          refine lv_goto (tgt := 69) hx hb dX0_follow_65 (by decide) ?_
          refine lv_istore (lv' := [(6, .int 1), (5, .int r_37), (0, .ref h0), (1, .ref t0), (2, .int d), (3, .int rb), (4, .int (nI i))]) hx hb dX0_follow_69 hl (by decide) rfl (fun ls hl => ?_)
          refine lv_iload hx hb dX0_follow_71 (lv_at hl 0 rfl) ?_
          refine lv_if_ne (tgt := 94) hx hb dX0_follow_73 (by decide) (fun c_73 => ?_) (fun c_73 => ?_)
          · have i_73 := i_ne c_73
            rw [(by decide : (1 : Int32).toInt = 1)] at i_73
            rw [(by decide : (0 : Int32).toInt = 0)] at i_73
            refine lv_aload_n hx hb dX0_follow_94 rfl (lv_at hl 2 rfl) ?_
            refine lv_iload hx hb dX0_follow_95 (lv_at hl 6 rfl) ?_
            refine lv_iconst (v := 1) hx hb dX0_follow_97 (by decide) ?_
            refine lv_iadd hx hb dX0_follow_98 ?_
            refine jn_v (W2 := fun u_99 => wCrs h0 h1 h2 h3 h4 h5 cI u_99 ++ wTrp t0 t1 t2 t3 t4 t5 t6 cI t) (va_runV (As := [.int ((nI i) + 1)]) (rest := []) ⟨hx, hb, hml, hown, hts⟩ (c_X0_note l D cI cJ cZ h0 h1 h2 h3 h4 h5 H.size (folL t d rb (cNote (k.1, k.2.1, k.2.2.1, k.2.2.2.1, -9, tpBeg t k.2.2.2.2.2 d) 0) i) ((nI i) + 1)) (cwV 1 hts gX0_follow_X0_note rfl rfl rfl (by decide +kernel) ⟨Nat.le_of_ble_eq_true rfl, Nat.le_of_ble_eq_true rfl⟩) (pr_V hP hD hK hN hE hS hA [0, 1, 2, 3, 4, 5] (by decide) rfl (ci := 0) (q0 := 0) rfl rfl) rfl rfl hl.1 rfl (lv_room (Nat.le_of_ble_eq_true rfl)) dX0_follow_99 ⟨Nat.zero_le _, Nat.zero_le _⟩) hP hD hS hA [0, 1, 2, 3, 4, 5] [6, 7, 8, 9, 10, 11, 12] [7, 8, 9, 10, 11, 12, 0, 1, 2, 3, 4, 5, 6] rfl rfl (by decide) (by decide) (by decide) (fun _ => rfl) (fun u_99 H locs hw_99 hP hD hS => ?_)
            have hP : va_P D vwCl (wCrs h0 h1 h2 h3 h4 h5 cI u_99 ++ wTrp t0 t1 t2 t3 t4 t5 t6 cI t) H := hP
            have hD : va_D A (wCrs h0 h1 h2 h3 h4 h5 cI u_99 ++ wTrp t0 t1 t2 t3 t4 t5 t6 cI t) := hD
            have hu_99 := hw_99
            refine lv_iinc (v := ((nI i) + 1)) (lv' := [(4, .int ((nI i) + 1)), (6, .int 1), (5, .int r_37), (0, .ref h0), (1, .ref t0), (2, .int d), (3, .int rb)]) hx hb dX0_follow_102 hl (k := 6) rfl rfl (by decide) rfl (fun ls hl => ?_)
            rw [show nI i + 1 = nI (i + 1) from nI_1 _] at hl
            have hl : lv_has ls 7 [(4, .int (nI (i + 1))), (6, .int 1), (5, .int r_37), (0, .ref h0), (1, .ref t0), (2, .int d), (3, .int rb)] := hl
            have eg_105 : u_99 = (folL t d rb (cNote (k.1, k.2.1, k.2.2.1, k.2.2.2.1, -9, tpBeg t k.2.2.2.2.2 d) 0) (i + 1)) := by simp only [folL, fMid, fTake, ← hu_99, ← hr_37, if_neg c_27, if_pos c_46, if_neg c_73, ↓reduceIte, reduceCtorEq]
            rw [eg_105] at hP hD
            have hP : va_P D vwCl (wCrs h0 h1 h2 h3 h4 h5 cI (folL t d rb (cNote (k.1, k.2.1, k.2.2.1, k.2.2.2.1, -9, tpBeg t k.2.2.2.2.2 d) 0) (i + 1)) ++ wTrp t0 t1 t2 t3 t4 t5 t6 cI t) H := hP
            have hD : va_D A (wCrs h0 h1 h2 h3 h4 h5 cI (folL t d rb (cNote (k.1, k.2.1, k.2.2.1, k.2.2.2.1, -9, tpBeg t k.2.2.2.2.2 d) 0) (i + 1)) ++ wTrp t0 t1 t2 t3 t4 t5 t6 cI t) := hD
            refine lv_goto (tgt := 23) hx hb dX0_follow_105 (by decide) ?_
            exact LB_23 (i + 1) (by omega) (by omega) H locs hP hD hS ls (lv_sub hl [3, 4, 5, 6, 0] rfl)
          · have i_73 := i_eq c_73
            rw [(by decide : (1 : Int32).toInt = 1)] at i_73
            rw [(by decide : (0 : Int32).toInt = 0)] at i_73
            exact absurd c_73 (by decide)
        · have i_46 := i_ne c_46
          rw [(by decide : (-9 : Int32).toInt = -9)] at i_46
          refine lv_iload hx hb dX0_follow_49 (lv_at hl 5 rfl) ?_
          refine lv_iload_n hx hb dX0_follow_51 rfl (lv_at hl 4 rfl) ?_
          refine lv_icmp_eq (tgt := 64) hx hb dX0_follow_52 (by decide) (fun c_52 => ?_) (fun c_52 => ?_)
          · have i_52 := i_eq c_52
            refine lv_iconst (v := 1) hx hb dX0_follow_64 (by decide) ?_
            refine lv_goto (tgt := 69) hx hb dX0_follow_65 (by decide) ?_
            refine lv_istore (lv' := [(6, .int 1), (5, .int r_37), (0, .ref h0), (1, .ref t0), (2, .int d), (3, .int rb), (4, .int (nI i))]) hx hb dX0_follow_69 hl (by decide) rfl (fun ls hl => ?_)
            refine lv_iload hx hb dX0_follow_71 (lv_at hl 0 rfl) ?_
            refine lv_if_ne (tgt := 94) hx hb dX0_follow_73 (by decide) (fun c_73 => ?_) (fun c_73 => ?_)
            · have i_73 := i_ne c_73
              rw [(by decide : (1 : Int32).toInt = 1)] at i_73
              rw [(by decide : (0 : Int32).toInt = 0)] at i_73
              refine lv_aload_n hx hb dX0_follow_94 rfl (lv_at hl 2 rfl) ?_
              refine lv_iload hx hb dX0_follow_95 (lv_at hl 6 rfl) ?_
              refine lv_iconst (v := 1) hx hb dX0_follow_97 (by decide) ?_
              refine lv_iadd hx hb dX0_follow_98 ?_
              refine jn_v (W2 := fun u_99 => wCrs h0 h1 h2 h3 h4 h5 cI u_99 ++ wTrp t0 t1 t2 t3 t4 t5 t6 cI t) (va_runV (As := [.int ((nI i) + 1)]) (rest := []) ⟨hx, hb, hml, hown, hts⟩ (c_X0_note l D cI cJ cZ h0 h1 h2 h3 h4 h5 H.size (folL t d rb (cNote (k.1, k.2.1, k.2.2.1, k.2.2.2.1, -9, tpBeg t k.2.2.2.2.2 d) 0) i) ((nI i) + 1)) (cwV 1 hts gX0_follow_X0_note rfl rfl rfl (by decide +kernel) ⟨Nat.le_of_ble_eq_true rfl, Nat.le_of_ble_eq_true rfl⟩) (pr_V hP hD hK hN hE hS hA [0, 1, 2, 3, 4, 5] (by decide) rfl (ci := 0) (q0 := 0) rfl rfl) rfl rfl hl.1 rfl (lv_room (Nat.le_of_ble_eq_true rfl)) dX0_follow_99 ⟨Nat.zero_le _, Nat.zero_le _⟩) hP hD hS hA [0, 1, 2, 3, 4, 5] [6, 7, 8, 9, 10, 11, 12] [7, 8, 9, 10, 11, 12, 0, 1, 2, 3, 4, 5, 6] rfl rfl (by decide) (by decide) (by decide) (fun _ => rfl) (fun u_99 H locs hw_99 hP hD hS => ?_)
              have hP : va_P D vwCl (wCrs h0 h1 h2 h3 h4 h5 cI u_99 ++ wTrp t0 t1 t2 t3 t4 t5 t6 cI t) H := hP
              have hD : va_D A (wCrs h0 h1 h2 h3 h4 h5 cI u_99 ++ wTrp t0 t1 t2 t3 t4 t5 t6 cI t) := hD
              have hu_99 := hw_99
              refine lv_iinc (v := ((nI i) + 1)) (lv' := [(4, .int ((nI i) + 1)), (6, .int 1), (5, .int r_37), (0, .ref h0), (1, .ref t0), (2, .int d), (3, .int rb)]) hx hb dX0_follow_102 hl (k := 6) rfl rfl (by decide) rfl (fun ls hl => ?_)
              rw [show nI i + 1 = nI (i + 1) from nI_1 _] at hl
              have hl : lv_has ls 7 [(4, .int (nI (i + 1))), (6, .int 1), (5, .int r_37), (0, .ref h0), (1, .ref t0), (2, .int d), (3, .int rb)] := hl
              have eg_105 : u_99 = (folL t d rb (cNote (k.1, k.2.1, k.2.2.1, k.2.2.2.1, -9, tpBeg t k.2.2.2.2.2 d) 0) (i + 1)) := by simp only [folL, fMid, fTake, ← hu_99, ← hr_37, if_neg c_27, if_neg c_46, if_pos c_52, if_neg c_73, ↓reduceIte, reduceCtorEq]
              rw [eg_105] at hP hD
              have hP : va_P D vwCl (wCrs h0 h1 h2 h3 h4 h5 cI (folL t d rb (cNote (k.1, k.2.1, k.2.2.1, k.2.2.2.1, -9, tpBeg t k.2.2.2.2.2 d) 0) (i + 1)) ++ wTrp t0 t1 t2 t3 t4 t5 t6 cI t) H := hP
              have hD : va_D A (wCrs h0 h1 h2 h3 h4 h5 cI (folL t d rb (cNote (k.1, k.2.1, k.2.2.1, k.2.2.2.1, -9, tpBeg t k.2.2.2.2.2 d) 0) (i + 1)) ++ wTrp t0 t1 t2 t3 t4 t5 t6 cI t) := hD
              refine lv_goto (tgt := 23) hx hb dX0_follow_105 (by decide) ?_
              exact LB_23 (i + 1) (by omega) (by omega) H locs hP hD hS ls (lv_sub hl [3, 4, 5, 6, 0] rfl)
            · have i_73 := i_eq c_73
              rw [(by decide : (1 : Int32).toInt = 1)] at i_73
              rw [(by decide : (0 : Int32).toInt = 0)] at i_73
              exact absurd c_73 (by decide)
          · have i_52 := i_ne c_52
            refine lv_aload_n hx hb dX0_follow_55 rfl (lv_at hl 1 rfl) ?_
            refine va_get (D := D) (ci := 0) (v := .int ((folL t d rb (cNote (k.1, k.2.1, k.2.2.1, k.2.2.2.1, -9, tpBeg t k.2.2.2.2.2 d) 0) i).2.2.2.2.1)) (C := RX0) (T := TX0) (N := 6) hx hb hts hin_0 hown hK hP 0 rfl rfl 5 (by decide) fl_31 (fun _ h9 => h9) rfl dX0_follow_56 ?_
            refine lv_bipush (v := (-9)) hx hb dX0_follow_59 (by decide) ?_
            refine lv_icmp_eq (tgt := 68) hx hb dX0_follow_61 (by decide) (fun c_61 => ?_) (fun c_61 => ?_)
            · have i_61 := i_eq c_61
              rw [(by decide : (-9 : Int32).toInt = -9)] at i_61
              refine lv_iconst (v := 0) hx hb dX0_follow_68 (by decide) ?_
              refine lv_istore (lv' := [(6, .int 0), (5, .int r_37), (0, .ref h0), (1, .ref t0), (2, .int d), (3, .int rb), (4, .int (nI i))]) hx hb dX0_follow_69 hl (by decide) rfl (fun ls hl => ?_)
              refine lv_iload hx hb dX0_follow_71 (lv_at hl 0 rfl) ?_
              refine lv_if_ne (tgt := 94) hx hb dX0_follow_73 (by decide) (fun c_73 => ?_) (fun c_73 => ?_)
              · have i_73 := i_ne c_73
                rw [(by decide : (0 : Int32).toInt = 0)] at i_73
                exact absurd c_73 (by decide)
              · have i_73 := i_eq c_73
                rw [(by decide : (0 : Int32).toInt = 0)] at i_73
                refine lv_aload_n hx hb dX0_follow_76 rfl (lv_at hl 2 rfl) ?_
                refine va_get (D := D) (ci := 0) (v := .ref h5) (C := RX0) (T := TX0) (N := 6) hx hb hts hin_0 hown hK hP 0 rfl rfl 4 (by decide) fl_27 (fun _ h9 => h9) rfl dX0_follow_77 ?_
                refine lv_iload hx hb dX0_follow_80 (lv_at hl 1 rfl) ?_
                refine jn_i (W2 := fun u_82 => wCrs h0 h1 h2 h3 h4 h5 cI ((folL t d rb (cNote (k.1, k.2.1, k.2.2.1, k.2.2.2.1, -9, tpBeg t k.2.2.2.2.2 d) 0) i).1, (folL t d rb (cNote (k.1, k.2.1, k.2.2.1, k.2.2.2.1, -9, tpBeg t k.2.2.2.2.2 d) 0) i).2.1, (folL t d rb (cNote (k.1, k.2.1, k.2.2.1, k.2.2.2.1, -9, tpBeg t k.2.2.2.2.2 d) 0) i).2.2.1, (folL t d rb (cNote (k.1, k.2.1, k.2.2.1, k.2.2.2.1, -9, tpBeg t k.2.2.2.2.2 d) 0) i).2.2.2.1, (folL t d rb (cNote (k.1, k.2.1, k.2.2.1, k.2.2.2.1, -9, tpBeg t k.2.2.2.2.2 d) 0) i).2.2.2.2.1, u_82) ++ wTrp t0 t1 t2 t3 t4 t5 t6 cI t) (va_runV (As := [.int r_37]) (rest := []) ⟨hx, hb, hml, hown, hts⟩ (c_X6_take l D cI cJ cZ h5 H.size ((folL t d rb (cNote (k.1, k.2.1, k.2.2.1, k.2.2.2.1, -9, tpBeg t k.2.2.2.2.2 d) 0) i).2.2.2.2.2) r_37) (cwV 1 hts gX0_follow_X6_take rfl rfl rfl (by decide +kernel) ⟨Nat.le_of_ble_eq_true rfl, Nat.le_of_ble_eq_true rfl⟩) (pr_V hP hD hK hN hE hS hA [5] (by decide) rfl (ci := 6) (q0 := 5) rfl rfl) rfl rfl hl.1 rfl (lv_room (Nat.le_of_ble_eq_true rfl)) dX0_follow_82 ⟨Nat.zero_le _, Nat.zero_le _⟩) hP hD hS hA [5] [0, 1, 2, 3, 4, 6, 7, 8, 9, 10, 11, 12] [0, 1, 2, 3, 4, 12, 5, 6, 7, 8, 9, 10, 11] rfl rfl (by decide) (by decide) (by decide) (fun _ => rfl) (fun r_82 u_82 H locs hw_82 hP hD hS => ?_)
                have hP : va_P D vwCl (wCrs h0 h1 h2 h3 h4 h5 cI ((folL t d rb (cNote (k.1, k.2.1, k.2.2.1, k.2.2.2.1, -9, tpBeg t k.2.2.2.2.2 d) 0) i).1, (folL t d rb (cNote (k.1, k.2.1, k.2.2.1, k.2.2.2.1, -9, tpBeg t k.2.2.2.2.2 d) 0) i).2.1, (folL t d rb (cNote (k.1, k.2.1, k.2.2.1, k.2.2.2.1, -9, tpBeg t k.2.2.2.2.2 d) 0) i).2.2.1, (folL t d rb (cNote (k.1, k.2.1, k.2.2.1, k.2.2.2.1, -9, tpBeg t k.2.2.2.2.2 d) 0) i).2.2.2.1, (folL t d rb (cNote (k.1, k.2.1, k.2.2.1, k.2.2.2.1, -9, tpBeg t k.2.2.2.2.2 d) 0) i).2.2.2.2.1, u_82) ++ wTrp t0 t1 t2 t3 t4 t5 t6 cI t) H := hP
                have hD : va_D A (wCrs h0 h1 h2 h3 h4 h5 cI ((folL t d rb (cNote (k.1, k.2.1, k.2.2.1, k.2.2.2.1, -9, tpBeg t k.2.2.2.2.2 d) 0) i).1, (folL t d rb (cNote (k.1, k.2.1, k.2.2.1, k.2.2.2.1, -9, tpBeg t k.2.2.2.2.2 d) 0) i).2.1, (folL t d rb (cNote (k.1, k.2.1, k.2.2.1, k.2.2.2.1, -9, tpBeg t k.2.2.2.2.2 d) 0) i).2.2.1, (folL t d rb (cNote (k.1, k.2.1, k.2.2.1, k.2.2.2.1, -9, tpBeg t k.2.2.2.2.2 d) 0) i).2.2.2.1, (folL t d rb (cNote (k.1, k.2.1, k.2.2.1, k.2.2.2.1, -9, tpBeg t k.2.2.2.2.2 d) 0) i).2.2.2.2.1, u_82) ++ wTrp t0 t1 t2 t3 t4 t5 t6 cI t) := hD
                obtain ⟨hr_82, hu_82⟩ := hw_82
                refine lv_if_ne (tgt := 94) hx hb dX0_follow_85 (by decide) (fun c_85 => ?_) (fun c_85 => ?_)
                · have b_85 : (tkB ((folL t d rb (cNote (k.1, k.2.1, k.2.2.1, k.2.2.2.1, -9, tpBeg t k.2.2.2.2.2 d) 0) i).2.2.2.2.2) r_37) = true := bI_1 (fun q => c_85 (hr_82.trans q))
                  refine lv_aload_n hx hb dX0_follow_94 rfl (lv_at hl 2 rfl) ?_
                  refine lv_iload hx hb dX0_follow_95 (lv_at hl 6 rfl) ?_
                  refine lv_iconst (v := 1) hx hb dX0_follow_97 (by decide) ?_
                  refine lv_iadd hx hb dX0_follow_98 ?_
                  refine jn_v (W2 := fun u_99 => wCrs h0 h1 h2 h3 h4 h5 cI u_99 ++ wTrp t0 t1 t2 t3 t4 t5 t6 cI t) (va_runV (As := [.int ((nI i) + 1)]) (rest := []) ⟨hx, hb, hml, hown, hts⟩ (c_X0_note l D cI cJ cZ h0 h1 h2 h3 h4 h5 H.size ((folL t d rb (cNote (k.1, k.2.1, k.2.2.1, k.2.2.2.1, -9, tpBeg t k.2.2.2.2.2 d) 0) i).1, (folL t d rb (cNote (k.1, k.2.1, k.2.2.1, k.2.2.2.1, -9, tpBeg t k.2.2.2.2.2 d) 0) i).2.1, (folL t d rb (cNote (k.1, k.2.1, k.2.2.1, k.2.2.2.1, -9, tpBeg t k.2.2.2.2.2 d) 0) i).2.2.1, (folL t d rb (cNote (k.1, k.2.1, k.2.2.1, k.2.2.2.1, -9, tpBeg t k.2.2.2.2.2 d) 0) i).2.2.2.1, (folL t d rb (cNote (k.1, k.2.1, k.2.2.1, k.2.2.2.1, -9, tpBeg t k.2.2.2.2.2 d) 0) i).2.2.2.2.1, u_82) ((nI i) + 1)) (cwV 1 hts gX0_follow_X0_note rfl rfl rfl (by decide +kernel) ⟨Nat.le_of_ble_eq_true rfl, Nat.le_of_ble_eq_true rfl⟩) (pr_V hP hD hK hN hE hS hA [0, 1, 2, 3, 4, 5] (by decide) rfl (ci := 0) (q0 := 0) rfl rfl) rfl rfl hl.1 rfl (lv_room (Nat.le_of_ble_eq_true rfl)) dX0_follow_99 ⟨Nat.zero_le _, Nat.zero_le _⟩) hP hD hS hA [0, 1, 2, 3, 4, 5] [6, 7, 8, 9, 10, 11, 12] [7, 8, 9, 10, 11, 12, 0, 1, 2, 3, 4, 5, 6] rfl rfl (by decide) (by decide) (by decide) (fun _ => rfl) (fun u_99 H locs hw_99 hP hD hS => ?_)
                  have hP : va_P D vwCl (wCrs h0 h1 h2 h3 h4 h5 cI u_99 ++ wTrp t0 t1 t2 t3 t4 t5 t6 cI t) H := hP
                  have hD : va_D A (wCrs h0 h1 h2 h3 h4 h5 cI u_99 ++ wTrp t0 t1 t2 t3 t4 t5 t6 cI t) := hD
                  have hu_99 := hw_99
                  refine lv_iinc (v := ((nI i) + 1)) (lv' := [(4, .int ((nI i) + 1)), (6, .int 0), (5, .int r_37), (0, .ref h0), (1, .ref t0), (2, .int d), (3, .int rb)]) hx hb dX0_follow_102 hl (k := 6) rfl rfl (by decide) rfl (fun ls hl => ?_)
                  rw [show nI i + 1 = nI (i + 1) from nI_1 _] at hl
                  have hl : lv_has ls 7 [(4, .int (nI (i + 1))), (6, .int 0), (5, .int r_37), (0, .ref h0), (1, .ref t0), (2, .int d), (3, .int rb)] := hl
                  have eg_105 : u_99 = (folL t d rb (cNote (k.1, k.2.1, k.2.2.1, k.2.2.2.1, -9, tpBeg t k.2.2.2.2.2 d) 0) (i + 1)) := by simp only [folL, fMid, fTake, ← hu_99, ← hr_82, ← hu_82, ← hr_37, if_neg c_27, if_neg c_46, if_neg c_52, if_pos c_61, if_pos c_73, b_85, ↓reduceIte, reduceCtorEq]
                  rw [eg_105] at hP hD
                  have hP : va_P D vwCl (wCrs h0 h1 h2 h3 h4 h5 cI (folL t d rb (cNote (k.1, k.2.1, k.2.2.1, k.2.2.2.1, -9, tpBeg t k.2.2.2.2.2 d) 0) (i + 1)) ++ wTrp t0 t1 t2 t3 t4 t5 t6 cI t) H := hP
                  have hD : va_D A (wCrs h0 h1 h2 h3 h4 h5 cI (folL t d rb (cNote (k.1, k.2.1, k.2.2.1, k.2.2.2.1, -9, tpBeg t k.2.2.2.2.2 d) 0) (i + 1)) ++ wTrp t0 t1 t2 t3 t4 t5 t6 cI t) := hD
                  refine lv_goto (tgt := 23) hx hb dX0_follow_105 (by decide) ?_
                  exact LB_23 (i + 1) (by omega) (by omega) H locs hP hD hS ls (lv_sub hl [3, 4, 5, 6, 0] rfl)
                · have b_85 : (tkB ((folL t d rb (cNote (k.1, k.2.1, k.2.2.1, k.2.2.2.1, -9, tpBeg t k.2.2.2.2.2 d) 0) i).2.2.2.2.2) r_37) = false := bI_0 (hr_82.symm.trans c_85)
                  refine lv_aload_n hx hb dX0_follow_88 rfl (lv_at hl 2 rfl) ?_
                  refine lv_iload hx hb dX0_follow_89 (lv_at hl 6 rfl) ?_
                  refine va_put (D := D) (ci := 0) (v := .int (nI i)) (ty := .int) (C := RX0) (T := TX0) (N := 6) hx hb hts hin_0 tyX0 tyX0_ok nmX0 hown hK hP hD hS 0 rfl rfl 5 (by decide) fl_31 (fun _ h9 => h9) rfl (by decide +kernel) rfl rfl (Nat.le_of_ble_eq_true rfl) dX0_follow_91 (fun H locs hP hD hS => ?_)
                  have hP : va_P D vwCl (wCrs h0 h1 h2 h3 h4 h5 cI ((folL t d rb (cNote (k.1, k.2.1, k.2.2.1, k.2.2.2.1, -9, tpBeg t k.2.2.2.2.2 d) 0) i).1, (folL t d rb (cNote (k.1, k.2.1, k.2.2.1, k.2.2.2.1, -9, tpBeg t k.2.2.2.2.2 d) 0) i).2.1, (folL t d rb (cNote (k.1, k.2.1, k.2.2.1, k.2.2.2.1, -9, tpBeg t k.2.2.2.2.2 d) 0) i).2.2.1, (folL t d rb (cNote (k.1, k.2.1, k.2.2.1, k.2.2.2.1, -9, tpBeg t k.2.2.2.2.2 d) 0) i).2.2.2.1, (nI i), u_82) ++ wTrp t0 t1 t2 t3 t4 t5 t6 cI t) H := hP
                  have hD : va_D A (wCrs h0 h1 h2 h3 h4 h5 cI ((folL t d rb (cNote (k.1, k.2.1, k.2.2.1, k.2.2.2.1, -9, tpBeg t k.2.2.2.2.2 d) 0) i).1, (folL t d rb (cNote (k.1, k.2.1, k.2.2.1, k.2.2.2.1, -9, tpBeg t k.2.2.2.2.2 d) 0) i).2.1, (folL t d rb (cNote (k.1, k.2.1, k.2.2.1, k.2.2.2.1, -9, tpBeg t k.2.2.2.2.2 d) 0) i).2.2.1, (folL t d rb (cNote (k.1, k.2.1, k.2.2.1, k.2.2.2.1, -9, tpBeg t k.2.2.2.2.2 d) 0) i).2.2.2.1, (nI i), u_82) ++ wTrp t0 t1 t2 t3 t4 t5 t6 cI t) := hD
                  refine lv_aload_n hx hb dX0_follow_94 rfl (lv_at hl 2 rfl) ?_
                  refine lv_iload hx hb dX0_follow_95 (lv_at hl 6 rfl) ?_
                  refine lv_iconst (v := 1) hx hb dX0_follow_97 (by decide) ?_
                  refine lv_iadd hx hb dX0_follow_98 ?_
                  refine jn_v (W2 := fun u_99 => wCrs h0 h1 h2 h3 h4 h5 cI u_99 ++ wTrp t0 t1 t2 t3 t4 t5 t6 cI t) (va_runV (As := [.int ((nI i) + 1)]) (rest := []) ⟨hx, hb, hml, hown, hts⟩ (c_X0_note l D cI cJ cZ h0 h1 h2 h3 h4 h5 H.size ((folL t d rb (cNote (k.1, k.2.1, k.2.2.1, k.2.2.2.1, -9, tpBeg t k.2.2.2.2.2 d) 0) i).1, (folL t d rb (cNote (k.1, k.2.1, k.2.2.1, k.2.2.2.1, -9, tpBeg t k.2.2.2.2.2 d) 0) i).2.1, (folL t d rb (cNote (k.1, k.2.1, k.2.2.1, k.2.2.2.1, -9, tpBeg t k.2.2.2.2.2 d) 0) i).2.2.1, (folL t d rb (cNote (k.1, k.2.1, k.2.2.1, k.2.2.2.1, -9, tpBeg t k.2.2.2.2.2 d) 0) i).2.2.2.1, (nI i), u_82) ((nI i) + 1)) (cwV 1 hts gX0_follow_X0_note rfl rfl rfl (by decide +kernel) ⟨Nat.le_of_ble_eq_true rfl, Nat.le_of_ble_eq_true rfl⟩) (pr_V hP hD hK hN hE hS hA [0, 1, 2, 3, 4, 5] (by decide) rfl (ci := 0) (q0 := 0) rfl rfl) rfl rfl hl.1 rfl (lv_room (Nat.le_of_ble_eq_true rfl)) dX0_follow_99 ⟨Nat.zero_le _, Nat.zero_le _⟩) hP hD hS hA [0, 1, 2, 3, 4, 5] [6, 7, 8, 9, 10, 11, 12] [7, 8, 9, 10, 11, 12, 0, 1, 2, 3, 4, 5, 6] rfl rfl (by decide) (by decide) (by decide) (fun _ => rfl) (fun u_99 H locs hw_99 hP hD hS => ?_)
                  have hP : va_P D vwCl (wCrs h0 h1 h2 h3 h4 h5 cI u_99 ++ wTrp t0 t1 t2 t3 t4 t5 t6 cI t) H := hP
                  have hD : va_D A (wCrs h0 h1 h2 h3 h4 h5 cI u_99 ++ wTrp t0 t1 t2 t3 t4 t5 t6 cI t) := hD
                  have hu_99 := hw_99
                  refine lv_iinc (v := ((nI i) + 1)) (lv' := [(4, .int ((nI i) + 1)), (6, .int 0), (5, .int r_37), (0, .ref h0), (1, .ref t0), (2, .int d), (3, .int rb)]) hx hb dX0_follow_102 hl (k := 6) rfl rfl (by decide) rfl (fun ls hl => ?_)
                  rw [show nI i + 1 = nI (i + 1) from nI_1 _] at hl
                  have hl : lv_has ls 7 [(4, .int (nI (i + 1))), (6, .int 0), (5, .int r_37), (0, .ref h0), (1, .ref t0), (2, .int d), (3, .int rb)] := hl
                  have eg_105 : u_99 = (folL t d rb (cNote (k.1, k.2.1, k.2.2.1, k.2.2.2.1, -9, tpBeg t k.2.2.2.2.2 d) 0) (i + 1)) := by simp only [folL, fMid, fTake, ← hu_99, ← hr_82, ← hu_82, ← hr_37, if_neg c_27, if_neg c_46, if_neg c_52, if_pos c_61, if_pos c_73, b_85, ↓reduceIte, reduceCtorEq]
                  rw [eg_105] at hP hD
                  have hP : va_P D vwCl (wCrs h0 h1 h2 h3 h4 h5 cI (folL t d rb (cNote (k.1, k.2.1, k.2.2.1, k.2.2.2.1, -9, tpBeg t k.2.2.2.2.2 d) 0) (i + 1)) ++ wTrp t0 t1 t2 t3 t4 t5 t6 cI t) H := hP
                  have hD : va_D A (wCrs h0 h1 h2 h3 h4 h5 cI (folL t d rb (cNote (k.1, k.2.1, k.2.2.1, k.2.2.2.1, -9, tpBeg t k.2.2.2.2.2 d) 0) (i + 1)) ++ wTrp t0 t1 t2 t3 t4 t5 t6 cI t) := hD
                  refine lv_goto (tgt := 23) hx hb dX0_follow_105 (by decide) ?_
                  exact LB_23 (i + 1) (by omega) (by omega) H locs hP hD hS ls (lv_sub hl [3, 4, 5, 6, 0] rfl)
            · have i_61 := i_ne c_61
              rw [(by decide : (-9 : Int32).toInt = -9)] at i_61
              refine lv_iconst (v := 1) hx hb dX0_follow_64 (by decide) ?_
              refine lv_goto (tgt := 69) hx hb dX0_follow_65 (by decide) ?_
              refine lv_istore (lv' := [(6, .int 1), (5, .int r_37), (0, .ref h0), (1, .ref t0), (2, .int d), (3, .int rb), (4, .int (nI i))]) hx hb dX0_follow_69 hl (by decide) rfl (fun ls hl => ?_)
              refine lv_iload hx hb dX0_follow_71 (lv_at hl 0 rfl) ?_
              refine lv_if_ne (tgt := 94) hx hb dX0_follow_73 (by decide) (fun c_73 => ?_) (fun c_73 => ?_)
              · have i_73 := i_ne c_73
                rw [(by decide : (1 : Int32).toInt = 1)] at i_73
                rw [(by decide : (0 : Int32).toInt = 0)] at i_73
                refine lv_aload_n hx hb dX0_follow_94 rfl (lv_at hl 2 rfl) ?_
                refine lv_iload hx hb dX0_follow_95 (lv_at hl 6 rfl) ?_
                refine lv_iconst (v := 1) hx hb dX0_follow_97 (by decide) ?_
                refine lv_iadd hx hb dX0_follow_98 ?_
                refine jn_v (W2 := fun u_99 => wCrs h0 h1 h2 h3 h4 h5 cI u_99 ++ wTrp t0 t1 t2 t3 t4 t5 t6 cI t) (va_runV (As := [.int ((nI i) + 1)]) (rest := []) ⟨hx, hb, hml, hown, hts⟩ (c_X0_note l D cI cJ cZ h0 h1 h2 h3 h4 h5 H.size (folL t d rb (cNote (k.1, k.2.1, k.2.2.1, k.2.2.2.1, -9, tpBeg t k.2.2.2.2.2 d) 0) i) ((nI i) + 1)) (cwV 1 hts gX0_follow_X0_note rfl rfl rfl (by decide +kernel) ⟨Nat.le_of_ble_eq_true rfl, Nat.le_of_ble_eq_true rfl⟩) (pr_V hP hD hK hN hE hS hA [0, 1, 2, 3, 4, 5] (by decide) rfl (ci := 0) (q0 := 0) rfl rfl) rfl rfl hl.1 rfl (lv_room (Nat.le_of_ble_eq_true rfl)) dX0_follow_99 ⟨Nat.zero_le _, Nat.zero_le _⟩) hP hD hS hA [0, 1, 2, 3, 4, 5] [6, 7, 8, 9, 10, 11, 12] [7, 8, 9, 10, 11, 12, 0, 1, 2, 3, 4, 5, 6] rfl rfl (by decide) (by decide) (by decide) (fun _ => rfl) (fun u_99 H locs hw_99 hP hD hS => ?_)
                have hP : va_P D vwCl (wCrs h0 h1 h2 h3 h4 h5 cI u_99 ++ wTrp t0 t1 t2 t3 t4 t5 t6 cI t) H := hP
                have hD : va_D A (wCrs h0 h1 h2 h3 h4 h5 cI u_99 ++ wTrp t0 t1 t2 t3 t4 t5 t6 cI t) := hD
                have hu_99 := hw_99
                refine lv_iinc (v := ((nI i) + 1)) (lv' := [(4, .int ((nI i) + 1)), (6, .int 1), (5, .int r_37), (0, .ref h0), (1, .ref t0), (2, .int d), (3, .int rb)]) hx hb dX0_follow_102 hl (k := 6) rfl rfl (by decide) rfl (fun ls hl => ?_)
                rw [show nI i + 1 = nI (i + 1) from nI_1 _] at hl
                have hl : lv_has ls 7 [(4, .int (nI (i + 1))), (6, .int 1), (5, .int r_37), (0, .ref h0), (1, .ref t0), (2, .int d), (3, .int rb)] := hl
                have eg_105 : u_99 = (folL t d rb (cNote (k.1, k.2.1, k.2.2.1, k.2.2.2.1, -9, tpBeg t k.2.2.2.2.2 d) 0) (i + 1)) := by simp only [folL, fMid, fTake, ← hu_99, ← hr_37, if_neg c_27, if_neg c_46, if_neg c_52, if_neg c_61, if_neg c_73, ↓reduceIte, reduceCtorEq]
                rw [eg_105] at hP hD
                have hP : va_P D vwCl (wCrs h0 h1 h2 h3 h4 h5 cI (folL t d rb (cNote (k.1, k.2.1, k.2.2.1, k.2.2.2.1, -9, tpBeg t k.2.2.2.2.2 d) 0) (i + 1)) ++ wTrp t0 t1 t2 t3 t4 t5 t6 cI t) H := hP
                have hD : va_D A (wCrs h0 h1 h2 h3 h4 h5 cI (folL t d rb (cNote (k.1, k.2.1, k.2.2.1, k.2.2.2.1, -9, tpBeg t k.2.2.2.2.2 d) 0) (i + 1)) ++ wTrp t0 t1 t2 t3 t4 t5 t6 cI t) := hD
                refine lv_goto (tgt := 23) hx hb dX0_follow_105 (by decide) ?_
                exact LB_23 (i + 1) (by omega) (by omega) H locs hP hD hS ls (lv_sub hl [3, 4, 5, 6, 0] rfl)
              · have i_73 := i_eq c_73
                rw [(by decide : (1 : Int32).toInt = 1)] at i_73
                rw [(by decide : (0 : Int32).toInt = 0)] at i_73
                exact absurd c_73 (by decide)
  exact LB_23 (10 + 1) 0 (by omega) (by omega) H locs hP hD hS ls (lv_sub hl [1, 2, 3, 4, 0] rfl)
abbrev rm_J6_bitCount_0f7a4 : Room := { frames := 0, cells := 0, slots := 0, locals := 0 }
set_option maxHeartbeats 4000000 in
set_option maxRecDepth 100000 in
theorem c_J6_bitCount_0f7a4 (l : Launch) (D : va_G) (cI cJ cZ : ClassId) (sz : Nat) (x : Int32) : Met l yJ6_bitCount_0f7a4 wsJ6_bitCount_0f7a4 rm_J6_bitCount_0f7a4 (va_Pc [.int x] (PU D (tyL cI cJ cZ) (([] : va_W)) sz)) (va_Qi (fun (rz : Int32) (_ : Unit) => rz = bcI x) (fun uz => BU D (([] : va_W)) (va_A (([] : va_W)) sz)) (va_A (([] : va_W)) sz)) 0 0 (va_A (([] : va_W)) sz) := by
  refine en (own := RJ6) (Qc := fun A => va_Qi (fun (rz : Int32) (_ : Unit) => rz = bcI x) (fun uz => BU D (([] : va_W)) A) A) (by decide) rfl (Nat.le_of_ble_eq_true rfl) rfl ?_
  intro p e s m args below meth c A Q H locs ls hx hb hr hml hown hts hlocks hname hA hN hE hK hQ hP hD hS hl
  have hl : lv_has ls 1 [(0, .int x)] := hl
  have kc_265 := hts (.constant RJ6 265 (1431655765)) (by decide +kernel)
  have kc_266 := hts (.constant RJ6 266 (858993459)) (by decide +kernel)
  have kc_267 := hts (.constant RJ6 267 (252645135)) (by decide +kernel)
  refine lv_iload_n hx hb dJ6_bitCount_0f7a4_0 rfl (lv_at hl 0 rfl) ?_
  refine lv_iload_n hx hb dJ6_bitCount_0f7a4_1 rfl (lv_at hl 0 rfl) ?_
  refine lv_iconst (v := 1) hx hb dJ6_bitCount_0f7a4_2 (by decide) ?_
  refine lv_iushr (v := (uS x 1)) hx hb dJ6_bitCount_0f7a4_3 rfl ?_
  refine lv_ldcw (v := 1431655765) hx hb hown kc_265 dJ6_bitCount_0f7a4_4 ?_
  refine lv_iand hx hb dJ6_bitCount_0f7a4_7 ?_
  refine lv_isub hx hb dJ6_bitCount_0f7a4_8 ?_
  refine lv_istore_n (lv' := [(0, .int (x - ((uS x 1) &&& 1431655765)))]) hx hb dJ6_bitCount_0f7a4_9 rfl hl (by decide) rfl (fun ls hl => ?_)
  have hl : lv_has ls 1 [(0, .int (bc1 x))] := hl
  refine lv_iload_n hx hb dJ6_bitCount_0f7a4_10 rfl (lv_at hl 0 rfl) ?_
  refine lv_ldcw (v := 858993459) hx hb hown kc_266 dJ6_bitCount_0f7a4_11 ?_
  refine lv_iand hx hb dJ6_bitCount_0f7a4_14 ?_
  refine lv_iload_n hx hb dJ6_bitCount_0f7a4_15 rfl (lv_at hl 0 rfl) ?_
  refine lv_iconst (v := 2) hx hb dJ6_bitCount_0f7a4_16 (by decide) ?_
  refine lv_iushr (v := (uS (bc1 x) 2)) hx hb dJ6_bitCount_0f7a4_17 rfl ?_
  refine lv_ldcw (v := 858993459) hx hb hown kc_266 dJ6_bitCount_0f7a4_18 ?_
  refine lv_iand hx hb dJ6_bitCount_0f7a4_21 ?_
  refine lv_iadd hx hb dJ6_bitCount_0f7a4_22 ?_
  refine lv_istore_n (lv' := [(0, .int (((bc1 x) &&& 858993459) + ((uS (bc1 x) 2) &&& 858993459)))]) hx hb dJ6_bitCount_0f7a4_23 rfl hl (by decide) rfl (fun ls hl => ?_)
  have hl : lv_has ls 1 [(0, .int (bc2 (bc1 x)))] := hl
  refine lv_iload_n hx hb dJ6_bitCount_0f7a4_24 rfl (lv_at hl 0 rfl) ?_
  refine lv_iload_n hx hb dJ6_bitCount_0f7a4_25 rfl (lv_at hl 0 rfl) ?_
  refine lv_iconst (v := 4) hx hb dJ6_bitCount_0f7a4_26 (by decide) ?_
  refine lv_iushr (v := (uS (bc2 (bc1 x)) 4)) hx hb dJ6_bitCount_0f7a4_27 rfl ?_
  refine lv_iadd hx hb dJ6_bitCount_0f7a4_28 ?_
  refine lv_ldcw (v := 252645135) hx hb hown kc_267 dJ6_bitCount_0f7a4_29 ?_
  refine lv_iand hx hb dJ6_bitCount_0f7a4_32 ?_
  refine lv_istore_n (lv' := [(0, .int (((bc2 (bc1 x)) + (uS (bc2 (bc1 x)) 4)) &&& 252645135))]) hx hb dJ6_bitCount_0f7a4_33 rfl hl (by decide) rfl (fun ls hl => ?_)
  have hl : lv_has ls 1 [(0, .int (bc3 (bc2 (bc1 x))))] := hl
  refine lv_iload_n hx hb dJ6_bitCount_0f7a4_34 rfl (lv_at hl 0 rfl) ?_
  refine lv_iload_n hx hb dJ6_bitCount_0f7a4_35 rfl (lv_at hl 0 rfl) ?_
  refine lv_bipush (v := 8) hx hb dJ6_bitCount_0f7a4_36 (by decide) ?_
  refine lv_iushr (v := (uS (bc3 (bc2 (bc1 x))) 8)) hx hb dJ6_bitCount_0f7a4_38 rfl ?_
  refine lv_iadd hx hb dJ6_bitCount_0f7a4_39 ?_
  refine lv_istore_n (lv' := [(0, .int ((bc3 (bc2 (bc1 x))) + (uS (bc3 (bc2 (bc1 x))) 8)))]) hx hb dJ6_bitCount_0f7a4_40 rfl hl (by decide) rfl (fun ls hl => ?_)
  refine lv_iload_n hx hb dJ6_bitCount_0f7a4_41 rfl (lv_at hl 0 rfl) ?_
  refine lv_iload_n hx hb dJ6_bitCount_0f7a4_42 rfl (lv_at hl 0 rfl) ?_
  refine lv_bipush (v := 16) hx hb dJ6_bitCount_0f7a4_43 (by decide) ?_
  refine lv_iushr (v := (uS ((bc3 (bc2 (bc1 x))) + (uS (bc3 (bc2 (bc1 x))) 8)) 16)) hx hb dJ6_bitCount_0f7a4_45 rfl ?_
  refine lv_iadd hx hb dJ6_bitCount_0f7a4_46 ?_
  refine lv_istore_n (lv' := [(0, .int (((bc3 (bc2 (bc1 x))) + (uS (bc3 (bc2 (bc1 x))) 8)) + (uS ((bc3 (bc2 (bc1 x))) + (uS (bc3 (bc2 (bc1 x))) 8)) 16)))]) hx hb dJ6_bitCount_0f7a4_47 rfl hl (by decide) rfl (fun ls hl => ?_)
  refine lv_iload_n hx hb dJ6_bitCount_0f7a4_48 rfl (lv_at hl 0 rfl) ?_
  refine lv_bipush (v := 63) hx hb dJ6_bitCount_0f7a4_49 (by decide) ?_
  refine lv_iand hx hb dJ6_bitCount_0f7a4_51 ?_
  exact lf_i hx hb hr hlocks hQ () hP hD hS dJ6_bitCount_0f7a4_52 (by rfl)
abbrev rm_J13_bitCount_95d88 : Room := { frames := 0, cells := 0, slots := 0, locals := 0 }
set_option maxHeartbeats 4000000 in
set_option maxRecDepth 100000 in
theorem c_J13_bitCount_95d88 (l : Launch) (D : va_G) (cI cJ cZ : ClassId) (sz : Nat) (x : Int64) : Met l yJ13_bitCount_95d88 wsJ13_bitCount_95d88 rm_J13_bitCount_95d88 (va_Pc [.long x] (PU D (tyL cI cJ cZ) (([] : va_W)) sz)) (va_Qi (fun (rz : Int32) (_ : Unit) => rz = bcL x) (fun uz => BU D (([] : va_W)) (va_A (([] : va_W)) sz)) (va_A (([] : va_W)) sz)) 0 0 (va_A (([] : va_W)) sz) := by
  refine en (own := RJ13) (Qc := fun A => va_Qi (fun (rz : Int32) (_ : Unit) => rz = bcL x) (fun uz => BU D (([] : va_W)) A) A) (by decide) rfl (Nat.le_of_ble_eq_true rfl) rfl ?_
  intro p e s m args below meth c A Q H locs ls hx hb hr hml hown hts hlocks hname hA hN hE hK hQ hP hD hS hl
  have hl : lv_has ls 2 [(0, .long x)] := hl
  have kc_314 := hts (.constantLong RJ13 314 (6148914691236517205)) (by decide +kernel)
  have kc_316 := hts (.constantLong RJ13 316 (3689348814741910323)) (by decide +kernel)
  have kc_318 := hts (.constantLong RJ13 318 (1085102592571150095)) (by decide +kernel)
  refine lv_lload_n hx hb dJ13_bitCount_95d88_0 rfl (lv_at hl 0 rfl) ?_
  refine lv_lload_n hx hb dJ13_bitCount_95d88_1 rfl (lv_at hl 0 rfl) ?_
  refine lv_iconst (v := 1) hx hb dJ13_bitCount_95d88_2 (by decide) ?_
  refine lv_lushr (v := (uL x 1)) hx hb dJ13_bitCount_95d88_3 rfl ?_
  refine lv_ldc2 (v := 6148914691236517205) hx hb hown kc_314 dJ13_bitCount_95d88_4 ?_
  refine lv_land hx hb dJ13_bitCount_95d88_7 ?_
  refine lv_lsub hx hb dJ13_bitCount_95d88_8 ?_
  refine lv_lstore_n (lv' := [(0, .long (x - ((uL x 1) &&& 6148914691236517205)))]) hx hb dJ13_bitCount_95d88_9 rfl hl (by decide) rfl (fun ls hl => ?_)
  have hl : lv_has ls 2 [(0, .long (bl1 x))] := hl
  refine lv_lload_n hx hb dJ13_bitCount_95d88_10 rfl (lv_at hl 0 rfl) ?_
  refine lv_ldc2 (v := 3689348814741910323) hx hb hown kc_316 dJ13_bitCount_95d88_11 ?_
  refine lv_land hx hb dJ13_bitCount_95d88_14 ?_
  refine lv_lload_n hx hb dJ13_bitCount_95d88_15 rfl (lv_at hl 0 rfl) ?_
  refine lv_iconst (v := 2) hx hb dJ13_bitCount_95d88_16 (by decide) ?_
  refine lv_lushr (v := (uL (bl1 x) 2)) hx hb dJ13_bitCount_95d88_17 rfl ?_
  refine lv_ldc2 (v := 3689348814741910323) hx hb hown kc_316 dJ13_bitCount_95d88_18 ?_
  refine lv_land hx hb dJ13_bitCount_95d88_21 ?_
  refine lv_ladd hx hb dJ13_bitCount_95d88_22 ?_
  refine lv_lstore_n (lv' := [(0, .long (((bl1 x) &&& 3689348814741910323) + ((uL (bl1 x) 2) &&& 3689348814741910323)))]) hx hb dJ13_bitCount_95d88_23 rfl hl (by decide) rfl (fun ls hl => ?_)
  have hl : lv_has ls 2 [(0, .long (bl2 (bl1 x)))] := hl
  refine lv_lload_n hx hb dJ13_bitCount_95d88_24 rfl (lv_at hl 0 rfl) ?_
  refine lv_lload_n hx hb dJ13_bitCount_95d88_25 rfl (lv_at hl 0 rfl) ?_
  refine lv_iconst (v := 4) hx hb dJ13_bitCount_95d88_26 (by decide) ?_
  refine lv_lushr (v := (uL (bl2 (bl1 x)) 4)) hx hb dJ13_bitCount_95d88_27 rfl ?_
  refine lv_ladd hx hb dJ13_bitCount_95d88_28 ?_
  refine lv_ldc2 (v := 1085102592571150095) hx hb hown kc_318 dJ13_bitCount_95d88_29 ?_
  refine lv_land hx hb dJ13_bitCount_95d88_32 ?_
  refine lv_lstore_n (lv' := [(0, .long (((bl2 (bl1 x)) + (uL (bl2 (bl1 x)) 4)) &&& 1085102592571150095))]) hx hb dJ13_bitCount_95d88_33 rfl hl (by decide) rfl (fun ls hl => ?_)
  have hl : lv_has ls 2 [(0, .long (bl3 (bl2 (bl1 x))))] := hl
  refine lv_lload_n hx hb dJ13_bitCount_95d88_34 rfl (lv_at hl 0 rfl) ?_
  refine lv_lload_n hx hb dJ13_bitCount_95d88_35 rfl (lv_at hl 0 rfl) ?_
  refine lv_bipush (v := 8) hx hb dJ13_bitCount_95d88_36 (by decide) ?_
  refine lv_lushr (v := (uL (bl3 (bl2 (bl1 x))) 8)) hx hb dJ13_bitCount_95d88_38 rfl ?_
  refine lv_ladd hx hb dJ13_bitCount_95d88_39 ?_
  refine lv_lstore_n (lv' := [(0, .long ((bl3 (bl2 (bl1 x))) + (uL (bl3 (bl2 (bl1 x))) 8)))]) hx hb dJ13_bitCount_95d88_40 rfl hl (by decide) rfl (fun ls hl => ?_)
  have hl : lv_has ls 2 [(0, .long (bl4 x))] := hl
  refine lv_lload_n hx hb dJ13_bitCount_95d88_41 rfl (lv_at hl 0 rfl) ?_
  refine lv_lload_n hx hb dJ13_bitCount_95d88_42 rfl (lv_at hl 0 rfl) ?_
  refine lv_bipush (v := 16) hx hb dJ13_bitCount_95d88_43 (by decide) ?_
  refine lv_lushr (v := (uL (bl4 x) 16)) hx hb dJ13_bitCount_95d88_45 rfl ?_
  refine lv_ladd hx hb dJ13_bitCount_95d88_46 ?_
  refine lv_lstore_n (lv' := [(0, .long ((bl4 x) + (uL (bl4 x) 16)))]) hx hb dJ13_bitCount_95d88_47 rfl hl (by decide) rfl (fun ls hl => ?_)
  have hl : lv_has ls 2 [(0, .long (bl5 x))] := hl
  refine lv_lload_n hx hb dJ13_bitCount_95d88_48 rfl (lv_at hl 0 rfl) ?_
  refine lv_lload_n hx hb dJ13_bitCount_95d88_49 rfl (lv_at hl 0 rfl) ?_
  refine lv_bipush (v := 32) hx hb dJ13_bitCount_95d88_50 (by decide) ?_
  refine lv_lushr (v := (uL (bl5 x) 32)) hx hb dJ13_bitCount_95d88_52 rfl ?_
  refine lv_ladd hx hb dJ13_bitCount_95d88_53 ?_
  refine lv_lstore_n (lv' := [(0, .long ((bl5 x) + (uL (bl5 x) 32)))]) hx hb dJ13_bitCount_95d88_54 rfl hl (by decide) rfl (fun ls hl => ?_)
  have hl : lv_has ls 2 [(0, .long (bl6 x))] := hl
  refine lv_lload_n hx hb dJ13_bitCount_95d88_55 rfl (lv_at hl 0 rfl) ?_
  refine lv_l2i (v := ((bl6 x).toInt32)) hx hb dJ13_bitCount_95d88_56 rfl ?_
  refine lv_bipush (v := 127) hx hb dJ13_bitCount_95d88_57 (by decide) ?_
  refine lv_iand hx hb dJ13_bitCount_95d88_59 ?_
  exact lf_i hx hb hr hlocks hQ () hP hD hS dJ13_bitCount_95d88_60 (by rfl)
abbrev rm_X0_span : Room := { frames := 2, cells := 0, slots := 0, locals := 41 }
set_option maxHeartbeats 4000000 in
set_option maxRecDepth 100000 in
theorem c_X0_span (l : Launch) (D : va_G) (cI cJ cZ : ClassId) (h0 : Nat) (h1 : Nat) (h2 : Nat) (h3 : Nat) (h4 : Nat) (h5 : Nat) (sz : Nat) (k : Crs) : Met l yX0_span wsX0_span rm_X0_span (va_Pc [.ref h0] (PU D (tyL cI cJ cZ) (wCrs h0 h1 h2 h3 h4 h5 cI k) sz)) (va_Qi (fun (rz : Int32) (_ : Unit) => rz = bcL (spL k 11)) (fun uz => BU D (wCrs h0 h1 h2 h3 h4 h5 cI k) (va_A (wCrs h0 h1 h2 h3 h4 h5 cI k) sz)) (va_A (wCrs h0 h1 h2 h3 h4 h5 cI k) sz)) 0 0 (va_A (wCrs h0 h1 h2 h3 h4 h5 cI k) sz) := by
  refine en (own := RX0) (Qc := fun A => va_Qi (fun (rz : Int32) (_ : Unit) => rz = bcL (spL k 11)) (fun uz => BU D (wCrs h0 h1 h2 h3 h4 h5 cI k) A) A) (by decide) rfl (Nat.le_of_ble_eq_true rfl) rfl ?_
  intro p e s m args below meth c A Q H locs ls hx hb hr hml hown hts hlocks hname hA hN hE hK hQ hP hD hS hl
  have hl : lv_has ls 4 [(0, .ref h0)] := hl
  refine lv_lconst (v := 0) hx hb dX0_span_0 (by decide) ?_
  refine lv_lstore_n (lv' := [(1, .long 0), (0, .ref h0)]) hx hb dX0_span_1 rfl hl (by decide) rfl (fun ls hl => ?_)
  refine lv_iconst (v := 0) hx hb dX0_span_2 (by decide) ?_
  refine lv_istore_n (lv' := [(3, .int 0), (1, .long 0), (0, .ref h0)]) hx hb dX0_span_3 rfl hl (by decide) rfl (fun ls hl => ?_)
  have LB_4 : ∀ (n : Nat) (i : Nat) (hn_i : 11 < i + n) (hi_i : i ≤ 11) (H : Heap) (locs : List Loc) (_ : va_P D vwCl (wCrs h0 h1 h2 h3 h4 h5 cI k) H) (_ : va_D A (wCrs h0 h1 h2 h3 h4 h5 cI k)) (_ : va_S A s.heap H locs) (ls : Array Slot) (_ : lv_has ls 4 [(0, .ref h0), (1, .long (spL k i)), (3, .int (nI i))]), W p l e rm_X0_span s m args below meth c H locs 0 0 Q (F0 m 4 ls []) := by
    intro n
    induction n with
    | zero =>
      intro i hn_i hi_i
      exact absurd hn_i (by omega)
    | succ n LB_4 =>
      intro i hn_i hi_i H locs hP hD hS ls hl
      refine lv_iload_n hx hb dX0_span_4 rfl (lv_at hl 2 rfl) ?_
      refine lv_bipush (v := 10) hx hb dX0_span_5 (by decide) ?_
      refine lv_icmp_gt (tgt := 24) hx hb dX0_span_7 (by decide) (fun c_7 => ?_) (fun c_7 => ?_)
      · have i_7 := i_lt c_7
        rw [(by decide : (10 : Int32).toInt = 10)] at i_7
        rw [nIT (by omega)] at i_7
        have e_7 : i = 11 := by omega
        refine lv_lload_n hx hb dX0_span_24 rfl (lv_at hl 1 rfl) ?_
        refine st_i (va_runS (As := [.long (spL k i)]) (rest := []) ⟨hx, hb, hml, hown, hts⟩ (c_J13_bitCount_95d88 l D cI cJ cZ H.size (spL k i)) (va_cwS 1 hts gX0_span_J13_bitCount_95d88 rfl rfl rfl (by decide +kernel) ⟨Nat.le_of_ble_eq_true rfl, Nat.le_of_ble_eq_true rfl⟩) (pr_S hP hD hK hN hE hS hA [] (by decide) rfl) rfl rfl hl.1 rfl (lv_room (Nat.le_of_ble_eq_true rfl)) dX0_span_25 ⟨Nat.zero_le _, Nat.zero_le _⟩) hP hS hA (fun r_25 u_25 H locs hw_25 hP hS => ?_)
        have hr_25 := hw_25
        exact lf_i hx hb hr hlocks hQ () hP hD hS dX0_span_28 (by rw [hr_25, e_7])
      · have i_7 := i_nlt c_7
        rw [(by decide : (10 : Int32).toInt = 10)] at i_7
        rw [nIT (by omega)] at i_7
        refine lv_lload_n hx hb dX0_span_10 rfl (lv_at hl 1 rfl) ?_
        refine lv_aload_n hx hb dX0_span_11 rfl (lv_at hl 0 rfl) ?_
        refine lv_iload_n hx hb dX0_span_12 rfl (lv_at hl 2 rfl) ?_
        refine jn_l (W2 := fun _ => wCrs h0 h1 h2 h3 h4 h5 cI k) (va_runV (As := [.int (nI i)]) (rest := [.long (spL k i)]) ⟨hx, hb, hml, hown, hts⟩ (c_X0_placeBit l D cI cJ cZ h0 h1 h2 h3 h4 h5 H.size k (nI i)) (cwV 1 hts gX0_span_X0_placeBit rfl rfl rfl (by decide +kernel) ⟨Nat.le_of_ble_eq_true rfl, Nat.le_of_ble_eq_true rfl⟩) (pr_V hP hD hK hN hE hS hA [0, 1, 2, 3, 4, 5] (by decide) rfl (ci := 0) (q0 := 0) rfl rfl) rfl rfl hl.1 rfl (lv_room (Nat.le_of_ble_eq_true rfl)) dX0_span_13 ⟨Nat.zero_le _, Nat.zero_le _⟩) hP hD hS hA [0, 1, 2, 3, 4, 5] [] [0, 1, 2, 3, 4, 5] rfl rfl (by decide) (by decide) (by decide) (fun _ => rfl) (fun r_13 u_13 H locs hw_13 hP hD hS => ?_)
        have hP : va_P D vwCl (wCrs h0 h1 h2 h3 h4 h5 cI k) H := hP
        have hD : va_D A (wCrs h0 h1 h2 h3 h4 h5 cI k) := hD
        have hr_13 := hw_13
        refine lv_lor hx hb dX0_span_16 ?_
        refine lv_lstore_n (lv' := [(1, .long ((spL k i) ||| r_13)), (0, .ref h0), (3, .int (nI i))]) hx hb dX0_span_17 rfl hl (by decide) rfl (fun ls hl => ?_)
        refine lv_iinc (v := ((nI i) + 1)) (lv' := [(3, .int ((nI i) + 1)), (1, .long ((spL k i) ||| r_13)), (0, .ref h0)]) hx hb dX0_span_18 hl (k := 2) rfl rfl (by decide) rfl (fun ls hl => ?_)
        rw [show nI i + 1 = nI (i + 1) from nI_1 _] at hl
        have hl : lv_has ls 4 [(3, .int (nI (i + 1))), (1, .long ((spL k i) ||| r_13)), (0, .ref h0)] := hl
        rw [hr_13] at hl
        have hl : lv_has ls 4 [(3, .int (nI (i + 1))), (1, .long (spL k (i + 1))), (0, .ref h0)] := hl
        refine lv_goto (tgt := 4) hx hb dX0_span_21 (by decide) ?_
        exact LB_4 (i + 1) (by omega) (by omega) H locs hP hD hS ls (lv_sub hl [2, 1, 0] rfl)
  exact LB_4 (11 + 1) 0 (by omega) (by omega) H locs hP hD hS ls (lv_sub hl [2, 1, 0] rfl)
abbrev rm_X0_shifts : Room := { frames := 0, cells := 0, slots := 0, locals := 0 }
set_option maxHeartbeats 4000000 in
set_option maxRecDepth 100000 in
theorem c_X0_shifts (l : Launch) (D : va_G) (cI cJ cZ : ClassId) (h0 : Nat) (h1 : Nat) (h2 : Nat) (h3 : Nat) (h4 : Nat) (h5 : Nat) (sz : Nat) (k : Crs) : Met l yX0_shifts wsX0_shifts rm_X0_shifts (va_Pc [.ref h0] (PU D (tyL cI cJ cZ) (wCrs h0 h1 h2 h3 h4 h5 cI k) sz)) (va_Qi (fun (rz : Int32) (_ : Unit) => rz = shL k 10) (fun uz => BU D (wCrs h0 h1 h2 h3 h4 h5 cI k) (va_A (wCrs h0 h1 h2 h3 h4 h5 cI k) sz)) (va_A (wCrs h0 h1 h2 h3 h4 h5 cI k) sz)) 0 0 (va_A (wCrs h0 h1 h2 h3 h4 h5 cI k) sz) := by
  refine en (own := RX0) (Qc := fun A => va_Qi (fun (rz : Int32) (_ : Unit) => rz = shL k 10) (fun uz => BU D (wCrs h0 h1 h2 h3 h4 h5 cI k) A) A) (by decide) rfl (Nat.le_of_ble_eq_true rfl) rfl ?_
  intro p e s m args below meth c A Q H locs ls hx hb hr hml hown hts hlocks hname hA hN hE hK hQ hP hD hS hl
  have hl : lv_has ls 3 [(0, .ref h0)] := hl
  have fl_21 := hts (.fieldLink RX0 21 "DanceStaffs$Course" "weights" "[I") (by decide +kernel)
  have hin_0 : ∀ w ∈ u_ws RX0 TX0 6, w ∈ wsX0_shifts := by decide +kernel
  refine lv_iconst (v := 0) hx hb dX0_shifts_0 (by decide) ?_
  refine lv_istore_n (lv' := [(1, .int 0), (0, .ref h0)]) hx hb dX0_shifts_1 rfl hl (by decide) rfl (fun ls hl => ?_)
  refine lv_iconst (v := 1) hx hb dX0_shifts_2 (by decide) ?_
  refine lv_istore_n (lv' := [(2, .int 1), (1, .int 0), (0, .ref h0)]) hx hb dX0_shifts_3 rfl hl (by decide) rfl (fun ls hl => ?_)
  have LB_4 : ∀ (n : Nat) (j : Nat) (hn_j : 10 < j + n) (hi_j : j ≤ 10) (H : Heap) (locs : List Loc) (_ : va_P D vwCl (wCrs h0 h1 h2 h3 h4 h5 cI k) H) (_ : va_D A (wCrs h0 h1 h2 h3 h4 h5 cI k)) (_ : va_S A s.heap H locs) (ls : Array Slot) (_ : lv_has ls 3 [(0, .ref h0), (1, .int (shL k j)), (2, .int (nI (j + 1)))]), W p l e rm_X0_shifts s m args below meth c H locs 0 0 Q (F0 m 4 ls []) := by
    intro n
    induction n with
    | zero =>
      intro j hn_j hi_j
      exact absurd hn_j (by omega)
    | succ n LB_4 =>
      intro j hn_j hi_j H locs hP hD hS ls hl
      refine lv_iload_n hx hb dX0_shifts_4 rfl (lv_at hl 2 rfl) ?_
      refine lv_bipush (v := 10) hx hb dX0_shifts_5 (by decide) ?_
      refine lv_icmp_gt (tgt := 36) hx hb dX0_shifts_7 (by decide) (fun c_7 => ?_) (fun c_7 => ?_)
      · have i_7 := i_lt c_7
        rw [(by decide : (10 : Int32).toInt = 10)] at i_7
        rw [nIT (by omega)] at i_7
        have e_7 : j = 10 := by omega
        refine lv_iload_n hx hb dX0_shifts_36 rfl (lv_at hl 1 rfl) ?_
        exact lf_i hx hb hr hlocks hQ () hP hD hS dX0_shifts_37 (by rw [e_7])
      · have i_7 := i_nlt c_7
        rw [(by decide : (10 : Int32).toInt = 10)] at i_7
        rw [nIT (by omega)] at i_7
        refine lv_aload_n hx hb dX0_shifts_10 rfl (lv_at hl 0 rfl) ?_
        refine va_get (D := D) (ci := 0) (v := .ref h4) (C := RX0) (T := TX0) (N := 6) hx hb hts hin_0 hown hK hP 0 rfl rfl 3 (by decide) fl_21 (fun _ h9 => h9) rfl dX0_shifts_11 ?_
        refine lv_iload_n hx hb dX0_shifts_14 rfl (lv_at hl 2 rfl) ?_
        refine va_iald (D := D) (f := k.2.2.2.1) hx hb hK hP 4 0 rfl rfl (vp_in_nI (by omega) (by decide)) dX0_shifts_15 ?_
        refine lv_aload_n hx hb dX0_shifts_16 rfl (lv_at hl 0 rfl) ?_
        refine va_get (D := D) (ci := 0) (v := .ref h4) (C := RX0) (T := TX0) (N := 6) hx hb hts hin_0 hown hK hP 0 rfl rfl 3 (by decide) fl_21 (fun _ h9 => h9) rfl dX0_shifts_17 ?_
        refine lv_iload_n hx hb dX0_shifts_20 rfl (lv_at hl 2 rfl) ?_
        refine lv_iconst (v := 1) hx hb dX0_shifts_21 (by decide) ?_
        refine lv_isub hx hb dX0_shifts_22 ?_
        refine va_iald (D := D) (f := k.2.2.2.1) hx hb hK hP 4 0 rfl rfl (by rw [show nI (j + 1) - 1 = nI j from nI_pred j]; exact vp_in_nI (by omega) (by decide)) dX0_shifts_23 ?_
        refine lv_icmp_eq (tgt := 30) hx hb dX0_shifts_24 (by decide) (fun c_24 => ?_) (fun c_24 => ?_)
        · have i_24 := i_eq c_24
          refine lv_iinc (v := ((nI (j + 1)) + 1)) (lv' := [(2, .int ((nI (j + 1)) + 1)), (0, .ref h0), (1, .int (shL k j))]) hx hb dX0_shifts_30 hl (k := 2) rfl rfl (by decide) rfl (fun ls hl => ?_)
          rw [show nI (j + 1) + 1 = nI ((j + 1) + 1) from nI_1 _] at hl
          have hl : lv_has ls 3 [(2, .int (nI ((j + 1) + 1))), (0, .ref h0), (1, .int (shL k j))] := hl
          have es : (shL k j) = shL k (j + 1) := by simp only [shL, c_24, ↓reduceIte]
          rw [es] at hl
          have hl : lv_has ls 3 [(2, .int (nI ((j + 1) + 1))), (0, .ref h0), (1, .int (shL k (j + 1)))] := hl
          refine lv_goto (tgt := 4) hx hb dX0_shifts_33 (by decide) ?_
          exact LB_4 (j + 1) (by omega) (by omega) H locs hP hD hS ls (lv_sub hl [1, 2, 0] rfl)
        · have i_24 := i_ne c_24
          refine lv_iinc (v := ((shL k j) + 1)) (lv' := [(1, .int ((shL k j) + 1)), (0, .ref h0), (2, .int (nI (j + 1)))]) hx hb dX0_shifts_27 hl (k := 1) rfl rfl (by decide) rfl (fun ls hl => ?_)
          refine lv_iinc (v := ((nI (j + 1)) + 1)) (lv' := [(2, .int ((nI (j + 1)) + 1)), (1, .int ((shL k j) + 1)), (0, .ref h0)]) hx hb dX0_shifts_30 hl (k := 2) rfl rfl (by decide) rfl (fun ls hl => ?_)
          rw [show nI (j + 1) + 1 = nI ((j + 1) + 1) from nI_1 _] at hl
          have hl : lv_has ls 3 [(2, .int (nI ((j + 1) + 1))), (1, .int ((shL k j) + 1)), (0, .ref h0)] := hl
          have es : ((shL k j) + 1) = shL k (j + 1) := by simp only [shL, c_24, ↓reduceIte]
          rw [es] at hl
          have hl : lv_has ls 3 [(2, .int (nI ((j + 1) + 1))), (1, .int (shL k (j + 1))), (0, .ref h0)] := hl
          refine lv_goto (tgt := 4) hx hb dX0_shifts_33 (by decide) ?_
          exact LB_4 (j + 1) (by omega) (by omega) H locs hP hD hS ls (lv_sub hl [2, 1, 0] rfl)
  exact LB_4 (10 + 1) 0 (by omega) (by omega) H locs hP hD hS ls (lv_sub hl [2, 1, 0] rfl)
abbrev rm_X0_home : Room := { frames := 2, cells := 0, slots := 0, locals := 43 }
set_option maxHeartbeats 4000000 in
set_option maxRecDepth 100000 in
theorem c_X0_home (l : Launch) (D : va_G) (cI cJ cZ : ClassId) (h0 : Nat) (h1 : Nat) (h2 : Nat) (h3 : Nat) (h4 : Nat) (h5 : Nat) (sz : Nat) (k : Crs) : Met l yX0_home wsX0_home rm_X0_home (va_Pc [.ref h0] (PU D (tyL cI cJ cZ) (wCrs h0 h1 h2 h3 h4 h5 cI k) sz)) (va_Qi (fun (rz : Int32) (_ : Unit) => rz = hom k) (fun uz => BU D (wCrs h0 h1 h2 h3 h4 h5 cI k) (va_A (wCrs h0 h1 h2 h3 h4 h5 cI k) sz)) (va_A (wCrs h0 h1 h2 h3 h4 h5 cI k) sz)) 0 0 (va_A (wCrs h0 h1 h2 h3 h4 h5 cI k) sz) := by
  refine en (own := RX0) (Qc := fun A => va_Qi (fun (rz : Int32) (_ : Unit) => rz = hom k) (fun uz => BU D (wCrs h0 h1 h2 h3 h4 h5 cI k) A) A) (by decide) rfl (Nat.le_of_ble_eq_true rfl) rfl ?_
  intro p e s m args below meth c A Q H locs ls hx hb hr hml hown hts hlocks hname hA hN hE hK hQ hP hD hS hl
  have hl : lv_has ls 4 [(0, .ref h0)] := hl
  have fl_9 := hts (.fieldLink RX0 9 "DanceStaffs$Course" "xs" "[I") (by decide +kernel)
  have hin_0 : ∀ w ∈ u_ws RX0 TX0 6, w ∈ wsX0_home := by decide +kernel
  have fl_15 := hts (.fieldLink RX0 15 "DanceStaffs$Course" "ys" "[I") (by decide +kernel)
  refine lv_iconst (v := 0) hx hb dX0_home_0 (by decide) ?_
  refine lv_istore_n (lv' := [(1, .int 0), (0, .ref h0)]) hx hb dX0_home_1 rfl hl (by decide) rfl (fun ls hl => ?_)
  refine lv_iconst (v := 1) hx hb dX0_home_2 (by decide) ?_
  refine lv_istore_n (lv' := [(2, .int 1), (1, .int 0), (0, .ref h0)]) hx hb dX0_home_3 rfl hl (by decide) rfl (fun ls hl => ?_)
  have LB_4 : ∀ (n : Nat) (j : Nat) (hn_j : 10 < j + n) (hi_j : j ≤ 10) (hG : hoL k (10 - j) j = hom k) (H : Heap) (locs : List Loc) (_ : va_P D vwCl (wCrs h0 h1 h2 h3 h4 h5 cI k) H) (_ : va_D A (wCrs h0 h1 h2 h3 h4 h5 cI k)) (_ : va_S A s.heap H locs) (ls : Array Slot) (_ : lv_has ls 4 [(0, .ref h0), (1, .int (awL k j)), (2, .int (nI (j + 1)))]), W p l e rm_X0_home s m args below meth c H locs 0 0 Q (F0 m 4 ls []) := by
    intro n
    induction n with
    | zero =>
      intro j hn_j hi_j hG
      exact absurd hn_j (by omega)
    | succ n LB_4 =>
      intro j hn_j hi_j hG H locs hP hD hS ls hl
      refine lv_iload_n hx hb dX0_home_4 rfl (lv_at hl 2 rfl) ?_
      refine lv_bipush (v := 10) hx hb dX0_home_5 (by decide) ?_
      refine lv_icmp_gt (tgt := 56) hx hb dX0_home_7 (by decide) (fun c_7 => ?_) (fun c_7 => ?_)
      · have i_7 := i_lt c_7
        rw [(by decide : (10 : Int32).toInt = 10)] at i_7
        rw [nIT (by omega)] at i_7
        rw [show 10 - j = 0 by omega] at hG
        refine lv_bipush (v := (-9)) hx hb dX0_home_56 (by decide) ?_
        exact lf_i hx hb hr hlocks hQ () hP hD hS dX0_home_58 (by rw [← hG]; rfl)
      · have i_7 := i_nlt c_7
        rw [(by decide : (10 : Int32).toInt = 10)] at i_7
        rw [nIT (by omega)] at i_7
        rw [show 10 - j = (10 - (j + 1)) + 1 by omega] at hG
        refine lv_aload_n hx hb dX0_home_10 rfl (lv_at hl 0 rfl) ?_
        refine lv_iload_n hx hb dX0_home_11 rfl (lv_at hl 2 rfl) ?_
        refine lv_aload_n hx hb dX0_home_12 rfl (lv_at hl 0 rfl) ?_
        refine va_get (D := D) (ci := 0) (v := .ref h1) (C := RX0) (T := TX0) (N := 6) hx hb hts hin_0 hown hK hP 0 rfl rfl 0 (by decide) fl_9 (fun _ h9 => h9) rfl dX0_home_13 ?_
        refine lv_iconst (v := 0) hx hb dX0_home_16 (by decide) ?_
        refine va_iald (D := D) (f := k.1) hx hb hK hP 1 0 rfl rfl (by exact vi_mk (by decide) (by decide)) dX0_home_17 ?_
        refine lv_aload_n hx hb dX0_home_18 rfl (lv_at hl 0 rfl) ?_
        refine va_get (D := D) (ci := 0) (v := .ref h2) (C := RX0) (T := TX0) (N := 6) hx hb hts hin_0 hown hK hP 0 rfl rfl 1 (by decide) fl_15 (fun _ h9 => h9) rfl dX0_home_19 ?_
        refine lv_iconst (v := 0) hx hb dX0_home_22 (by decide) ?_
        refine va_iald (D := D) (f := k.2.1) hx hb hK hP 2 0 rfl rfl (by exact vi_mk (by decide) (by decide)) dX0_home_23 ?_
        refine jn_i (W2 := fun _ => wCrs h0 h1 h2 h3 h4 h5 cI k) (va_runV (As := [.int (nI (j + 1)), .int (k.1 (0 : Int32).toNatClampNeg), .int (k.2.1 (0 : Int32).toNatClampNeg)]) (rest := []) ⟨hx, hb, hml, hown, hts⟩ (c_X0_isAt l D cI cJ cZ h0 h1 h2 h3 h4 h5 H.size k (nI (j + 1)) (k.1 (0 : Int32).toNatClampNeg) (k.2.1 (0 : Int32).toNatClampNeg)) (cwV 3 hts gX0_home_X0_isAt rfl rfl rfl (by decide +kernel) ⟨Nat.le_of_ble_eq_true rfl, Nat.le_of_ble_eq_true rfl⟩) (pr_V hP hD hK hN hE hS hA [0, 1, 2, 3, 4, 5] (by decide) rfl (ci := 0) (q0 := 0) rfl rfl) rfl rfl hl.1 rfl (lv_room (Nat.le_of_ble_eq_true rfl)) dX0_home_24 ⟨Nat.zero_le _, Nat.zero_le _⟩) hP hD hS hA [0, 1, 2, 3, 4, 5] [] [0, 1, 2, 3, 4, 5] rfl rfl (by decide) (by decide) (by decide) (fun _ => rfl) (fun r_24 u_24 H locs hw_24 hP hD hS => ?_)
        have hP : va_P D vwCl (wCrs h0 h1 h2 h3 h4 h5 cI k) H := hP
        have hD : va_D A (wCrs h0 h1 h2 h3 h4 h5 cI k) := hD
        have hr_24 := hw_24
        refine lv_istore_n (lv' := [(3, .int r_24), (0, .ref h0), (1, .int (awL k j)), (2, .int (nI (j + 1)))]) hx hb dX0_home_27 rfl hl (by decide) rfl (fun ls hl => ?_)
        refine lv_iload_n hx hb dX0_home_28 rfl (lv_at hl 0 rfl) ?_
        refine lv_if_eq (tgt := 38) hx hb dX0_home_29 (by decide) (fun c_29 => ?_) (fun c_29 => ?_)
        · have b_29 : (cAt k (nI (j + 1)) (k.1 (0 : Int32).toNatClampNeg) (k.2.1 (0 : Int32).toNatClampNeg)) = false := bI_0 (hr_24.symm.trans c_29)
          simp only [hoL, b_29, ↓reduceIte, reduceCtorEq] at hG
          refine lv_iload_n hx hb dX0_home_38 rfl (lv_at hl 2 rfl) ?_
          refine lv_iload_n hx hb dX0_home_39 rfl (lv_at hl 0 rfl) ?_
          refine lv_if_ne (tgt := 47) hx hb dX0_home_40 (by decide) (fun c_40 => ?_) (fun c_40 => ?_)
          · have b_40 : (cAt k (nI (j + 1)) (k.1 (0 : Int32).toNatClampNeg) (k.2.1 (0 : Int32).toNatClampNeg)) = true := bI_1 (fun q => c_40 (hr_24.trans q))
            exact absurd (b_29.symm.trans b_40) (by decide)
          · have b_40 : (cAt k (nI (j + 1)) (k.1 (0 : Int32).toNatClampNeg) (k.2.1 (0 : Int32).toNatClampNeg)) = false := bI_0 (hr_24.symm.trans c_40)
            refine lv_iconst (v := 1) hx hb dX0_home_43 (by decide) ?_
            refine lv_goto (tgt := 48) hx hb dX0_home_44 (by decide) ?_
            refine lv_ior hx hb dX0_home_48 ?_
            refine lv_istore_n (lv' := [(1, .int ((awL k j) ||| 1)), (3, .int r_24), (0, .ref h0), (2, .int (nI (j + 1)))]) hx hb dX0_home_49 rfl hl (by decide) rfl (fun ls hl => ?_)
            refine lv_iinc (v := ((nI (j + 1)) + 1)) (lv' := [(2, .int ((nI (j + 1)) + 1)), (1, .int ((awL k j) ||| 1)), (3, .int r_24), (0, .ref h0)]) hx hb dX0_home_50 hl (k := 3) rfl rfl (by decide) rfl (fun ls hl => ?_)
            rw [show nI (j + 1) + 1 = nI ((j + 1) + 1) from nI_1 _] at hl
            have hl : lv_has ls 4 [(2, .int (nI ((j + 1) + 1))), (1, .int ((awL k j) ||| 1)), (3, .int r_24), (0, .ref h0)] := hl
            have es : ((awL k j) ||| 1) = awL k (j + 1) := by simp only [awL, b_29, b_40, ↓reduceIte, reduceCtorEq]
            rw [es] at hl
            have hl : lv_has ls 4 [(2, .int (nI ((j + 1) + 1))), (1, .int (awL k (j + 1))), (3, .int r_24), (0, .ref h0)] := hl
            refine lv_goto (tgt := 4) hx hb dX0_home_53 (by decide) ?_
            exact LB_4 (j + 1) (by omega) (by omega) (hG) H locs hP hD hS ls (lv_sub hl [3, 1, 0] rfl)
        · have b_29 : (cAt k (nI (j + 1)) (k.1 (0 : Int32).toNatClampNeg) (k.2.1 (0 : Int32).toNatClampNeg)) = true := bI_1 (fun q => c_29 (hr_24.trans q))
          refine lv_iload_n hx hb dX0_home_32 rfl (lv_at hl 2 rfl) ?_
          refine lv_if_eq (tgt := 38) hx hb dX0_home_33 (by decide) (fun c_33 => ?_) (fun c_33 => ?_)
          · have i_33 := i_eq c_33
            rw [(by decide : (0 : Int32).toInt = 0)] at i_33
            simp only [hoL, b_29, c_33, ↓reduceIte] at hG
            refine lv_iload_n hx hb dX0_home_38 rfl (lv_at hl 2 rfl) ?_
            refine lv_iload_n hx hb dX0_home_39 rfl (lv_at hl 0 rfl) ?_
            refine lv_if_ne (tgt := 47) hx hb dX0_home_40 (by decide) (fun c_40 => ?_) (fun c_40 => ?_)
            · have b_40 : (cAt k (nI (j + 1)) (k.1 (0 : Int32).toNatClampNeg) (k.2.1 (0 : Int32).toNatClampNeg)) = true := bI_1 (fun q => c_40 (hr_24.trans q))
              refine lv_iconst (v := 0) hx hb dX0_home_47 (by decide) ?_
              refine lv_ior hx hb dX0_home_48 ?_
              refine lv_istore_n (lv' := [(1, .int ((awL k j) ||| 0)), (3, .int r_24), (0, .ref h0), (2, .int (nI (j + 1)))]) hx hb dX0_home_49 rfl hl (by decide) rfl (fun ls hl => ?_)
              refine lv_iinc (v := ((nI (j + 1)) + 1)) (lv' := [(2, .int ((nI (j + 1)) + 1)), (1, .int ((awL k j) ||| 0)), (3, .int r_24), (0, .ref h0)]) hx hb dX0_home_50 hl (k := 3) rfl rfl (by decide) rfl (fun ls hl => ?_)
              rw [show nI (j + 1) + 1 = nI ((j + 1) + 1) from nI_1 _] at hl
              have hl : lv_has ls 4 [(2, .int (nI ((j + 1) + 1))), (1, .int ((awL k j) ||| 0)), (3, .int r_24), (0, .ref h0)] := hl
              have es : ((awL k j) ||| 0) = awL k (j + 1) := by simp only [awL, b_29, b_40, ↓reduceIte, reduceCtorEq]
              rw [es] at hl
              have hl : lv_has ls 4 [(2, .int (nI ((j + 1) + 1))), (1, .int (awL k (j + 1))), (3, .int r_24), (0, .ref h0)] := hl
              refine lv_goto (tgt := 4) hx hb dX0_home_53 (by decide) ?_
              exact LB_4 (j + 1) (by omega) (by omega) (hG) H locs hP hD hS ls (lv_sub hl [3, 1, 0] rfl)
            · have b_40 : (cAt k (nI (j + 1)) (k.1 (0 : Int32).toNatClampNeg) (k.2.1 (0 : Int32).toNatClampNeg)) = false := bI_0 (hr_24.symm.trans c_40)
              exact absurd (b_29.symm.trans b_40) (by decide)
          · have i_33 := i_ne c_33
            rw [(by decide : (0 : Int32).toInt = 0)] at i_33
            simp only [hoL, b_29, c_33, ↓reduceIte] at hG
            refine lv_iload_n hx hb dX0_home_36 rfl (lv_at hl 3 rfl) ?_
            exact lf_i hx hb hr hlocks hQ () hP hD hS dX0_home_37 (by rw [← hG])
  exact LB_4 (10 + 1) 0 (by omega) (by omega) (rfl) H locs hP hD hS ls (lv_sub hl [2, 1, 0] rfl)
