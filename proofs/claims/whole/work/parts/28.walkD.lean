abbrev rm_X3_isDigit : Room := { frames := 0, cells := 0, slots := 0, locals := 0 }
set_option maxHeartbeats 4000000 in
set_option maxRecDepth 100000 in
theorem c_X3_isDigit (l : Launch) (D : va_G) (cI cJ cZ : ClassId) (sz : Nat) (k : Int32) : Met l yX3_isDigit wsX3_isDigit rm_X3_isDigit (va_Pc [.int k] (PU D (tyL cI cJ cZ) (([] : va_W)) sz)) (va_Qi (fun (rz : Int32) (_ : Unit) => rz = bI (isDg k)) (fun uz => BU D (([] : va_W)) (va_A (([] : va_W)) sz)) (va_A (([] : va_W)) sz)) 0 0 (va_A (([] : va_W)) sz) := by
  refine en (own := RX3) (Qc := fun A => va_Qi (fun (rz : Int32) (_ : Unit) => rz = bI (isDg k)) (fun uz => BU D (([] : va_W)) A) A) (by decide) rfl (Nat.le_of_ble_eq_true rfl) rfl ?_
  intro p e s m args below meth c A Q H locs ls hx hb hr hml hown hts hlocks hname hA hN hE hK hQ hP hD hS hl
  have hl : lv_has ls 1 [(0, .int k)] := hl
  refine lv_iload_n hx hb dX3_isDigit_0 rfl (lv_at hl 0 rfl) ?_
  refine lv_bipush (v := 48) hx hb dX3_isDigit_1 (by decide) ?_
  refine lv_icmp_lt (tgt := 16) hx hb dX3_isDigit_3 (by decide) (fun c_3 => ?_) (fun c_3 => ?_)
  · have i_3 := i_lt c_3
    rw [(by decide : (48 : Int32).toInt = 48)] at i_3
    refine lv_iconst (v := 0) hx hb dX3_isDigit_16 (by decide) ?_
    exact lf_z hx hb hr hlocks hQ () hP hD hS dX3_isDigit_17 (by first | rfl | (rw [bI_f]; exact bI_n _) | exact bI_n _) (by first | with_reducible rfl | (simp only [isDg, if_pos c_3, ↓reduceIte, bI_t, bI_f, reduceCtorEq]; done) | (subst_vars; simp only [isDg, if_pos c_3, ↓reduceIte, bI_t, bI_f, reduceCtorEq]; done) | (simp [isDg, c_3, bI_t, bI_f]; done))
  · have i_3 := i_nlt c_3
    rw [(by decide : (48 : Int32).toInt = 48)] at i_3
    refine lv_iload_n hx hb dX3_isDigit_6 rfl (lv_at hl 0 rfl) ?_
    refine lv_bipush (v := 57) hx hb dX3_isDigit_7 (by decide) ?_
    refine lv_icmp_gt (tgt := 16) hx hb dX3_isDigit_9 (by decide) (fun c_9 => ?_) (fun c_9 => ?_)
    · have i_9 := i_lt c_9
      rw [(by decide : (57 : Int32).toInt = 57)] at i_9
      refine lv_iconst (v := 0) hx hb dX3_isDigit_16 (by decide) ?_
      exact lf_z hx hb hr hlocks hQ () hP hD hS dX3_isDigit_17 (by first | rfl | (rw [bI_f]; exact bI_n _) | exact bI_n _) (by first | with_reducible rfl | (simp only [isDg, if_neg c_3, if_pos c_9, ↓reduceIte, bI_t, bI_f, reduceCtorEq]; done) | (subst_vars; simp only [isDg, if_neg c_3, if_pos c_9, ↓reduceIte, bI_t, bI_f, reduceCtorEq]; done) | (simp [isDg, c_3, c_9, bI_t, bI_f]; done))
    · have i_9 := i_nlt c_9
      rw [(by decide : (57 : Int32).toInt = 57)] at i_9
      refine lv_iconst (v := 1) hx hb dX3_isDigit_12 (by decide) ?_
      refine lv_goto (tgt := 17) hx hb dX3_isDigit_13 (by decide) ?_
      exact lf_z hx hb hr hlocks hQ () hP hD hS dX3_isDigit_17 (by first | rfl | (rw [bI_f]; exact bI_n _) | exact bI_n _) (by first | with_reducible rfl | (simp only [isDg, if_neg c_3, if_neg c_9, ↓reduceIte, bI_t, bI_f, reduceCtorEq]; done) | (subst_vars; simp only [isDg, if_neg c_3, if_neg c_9, ↓reduceIte, bI_t, bI_f, reduceCtorEq]; done) | (simp [isDg, c_3, c_9, bI_t, bI_f]; done))
abbrev rm_X3_firstSignOf : Room := { frames := 0, cells := 0, slots := 0, locals := 0 }
set_option maxHeartbeats 4000000 in
set_option maxRecDepth 100000 in
theorem c_X3_firstSignOf (l : Launch) (D : va_G) (cI cJ cZ : ClassId) (sz : Nat) (k : Int32) : Met l yX3_firstSignOf wsX3_firstSignOf rm_X3_firstSignOf (va_Pc [.int k] (PU D (tyL cI cJ cZ) (([] : va_W)) sz)) (va_Qi (fun (rz : Int32) (_ : Unit) => rz = fsOf k) (fun uz => BU D (([] : va_W)) (va_A (([] : va_W)) sz)) (va_A (([] : va_W)) sz)) 0 0 (va_A (([] : va_W)) sz) := by
  refine en (own := RX3) (Qc := fun A => va_Qi (fun (rz : Int32) (_ : Unit) => rz = fsOf k) (fun uz => BU D (([] : va_W)) A) A) (by decide) rfl (Nat.le_of_ble_eq_true rfl) rfl ?_
  intro p e s m args below meth c A Q H locs ls hx hb hr hml hown hts hlocks hname hA hN hE hK hQ hP hD hS hl
  have hl : lv_has ls 1 [(0, .int k)] := hl
  refine lv_iload_n hx hb dX3_firstSignOf_0 rfl (lv_at hl 0 rfl) ?_
  by_cases w_1_106 : k = 106
  · refine lv_lookup (off := 48) (tgt := 49) hx hb dX3_firstSignOf_1 (by decide) (by rw [w_1_106]; decide) (by decide) ?_
    refine lv_bipush (v := 18) hx hb dX3_firstSignOf_49 (by decide) ?_
    exact lf_i hx hb hr hlocks hQ () hP hD hS dX3_firstSignOf_51 (by simp [fsOf, w_1_106])
  by_cases w_1_108 : k = 108
  · refine lv_lookup (off := 43) (tgt := 44) hx hb dX3_firstSignOf_1 (by decide) (by rw [w_1_108]; decide) (by decide) ?_
    refine lv_iconst (v := 2) hx hb dX3_firstSignOf_44 (by decide) ?_
    exact lf_i hx hb hr hlocks hQ () hP hD hS dX3_firstSignOf_45 (by simp [fsOf, w_1_108, w_1_106])
  by_cases w_1_114 : k = 114
  · refine lv_lookup (off := 45) (tgt := 46) hx hb dX3_firstSignOf_1 (by decide) (by rw [w_1_114]; decide) (by decide) ?_
    refine lv_bipush (v := 10) hx hb dX3_firstSignOf_46 (by decide) ?_
    exact lf_i hx hb hr hlocks hQ () hP hD hS dX3_firstSignOf_48 (by simp [fsOf, w_1_114, w_1_106, w_1_108])
  by_cases w_1_116 : k = 116
  · refine lv_lookup (off := 51) (tgt := 52) hx hb dX3_firstSignOf_1 (by decide) (by rw [w_1_116]; decide) (by decide) ?_
    refine lv_bipush (v := 26) hx hb dX3_firstSignOf_52 (by decide) ?_
    exact lf_i hx hb hr hlocks hQ () hP hD hS dX3_firstSignOf_54 (by simp [fsOf, w_1_116, w_1_106, w_1_108, w_1_114])
  refine lv_lookup (off := 54) (tgt := 55) hx hb dX3_firstSignOf_1 (by decide) ((lv_osw w_1_106 (by decide)).trans ((lv_osw w_1_108 (by decide)).trans ((lv_osw w_1_114 (by decide)).trans ((lv_osw w_1_116 (by decide)).trans (rfl))))) (by decide) ?_
  refine lv_bipush (v := (-9)) hx hb dX3_firstSignOf_55 (by decide) ?_
  exact lf_i hx hb hr hlocks hQ () hP hD hS dX3_firstSignOf_57 (by simp [fsOf, w_1_106, w_1_108, w_1_114, w_1_116])
abbrev rm_X3_advance : Room := { frames := 1, cells := 0, slots := 0, locals := 21 }
set_option maxHeartbeats 4000000 in
set_option maxRecDepth 100000 in
theorem c_X3_advance (l : Launch) (D : va_G) (cI cJ cZ : ClassId) (h0 : Nat) (t0 : Nat) (t1 : Nat) (sz : Nat) (rr : Rdr) (t : Txt) (hn : t.1.toInt ≤ 100) (hB : RB rr 1000000) : Met l yX3_advance wsX3_advance rm_X3_advance (va_Pc [.ref h0, .ref t0] (PU D (tyL cI cJ cZ) (wRdr h0 rr ++ wTxt t0 t1 cI t) sz)) (va_Qv (fun (uz : Rdr) => uz = rAdv t rr) (fun uz => BU D (wRdr h0 uz ++ wTxt t0 t1 cI t) (va_A (wRdr h0 rr ++ wTxt t0 t1 cI t) sz)) (va_A (wRdr h0 rr ++ wTxt t0 t1 cI t) sz)) 0 0 (va_A (wRdr h0 rr ++ wTxt t0 t1 cI t) sz) := by
  refine en (own := RX3) (Qc := fun A => va_Qv (fun (uz : Rdr) => uz = rAdv t rr) (fun uz => BU D (wRdr h0 uz ++ wTxt t0 t1 cI t) A) A) (by decide) rfl (Nat.le_of_ble_eq_true rfl) rfl ?_
  intro p e s m args below meth c A Q H locs ls hx hb hr hml hown hts hlocks hname hA hN hE hK hQ hP hD hS hl
  have hl : lv_has ls 2 [(0, .ref h0), (1, .ref t0)] := hl
  have fl_14 := hts (.fieldLink RX3 14 "DanceStaffs$Reader" "next" "I") (by decide +kernel)
  have hin_3 : ∀ w ∈ u_ws RX3 TX3 3, w ∈ wsX3_advance := by decide +kernel
  have fl_31 := hts (.fieldLink RX3 31 "DanceStaffs$Reader" "begin" "I") (by decide +kernel)
  have fl_24 := hts (.fieldLink RX3 24 "DanceStaffs$Reader" "token" "I") (by decide +kernel)
  obtain ⟨hb0, hb1⟩ := id hB
  have LB_0 : ∀ (n : Nat) (x : Int32) (hm : (t.1.toInt - x.toInt).toNat < n) (hx0 : 0 ≤ x.toInt) (hG : skB t n x = skB t 101 rr.1) (H : Heap) (locs : List Loc) (_ : va_P D vwCl (wRdr h0 (x, rr.2) ++ wTxt t0 t1 cI t) H) (_ : va_D A (wRdr h0 (x, rr.2) ++ wTxt t0 t1 cI t)) (_ : va_S A s.heap H locs) (ls : Array Slot) (_ : lv_has ls 2 [(0, .ref h0), (1, .ref t0)]), W p l e rm_X3_advance s m args below meth c H locs 0 0 Q (F0 m 0 ls []) := by
    intro n
    induction n with
    | zero =>
      intro x hm hx0 hG
      exact absurd hm (by omega)
    | succ n LB_0 =>
      intro x hm hx0 hG H locs hP hD hS ls hl
      refine lv_aload_n hx hb dX3_advance_0 rfl (lv_at hl 0 rfl) ?_
      refine va_get (D := D) (ci := 3) (v := .int x) (C := RX3) (T := TX3) (N := 3) hx hb hts hin_3 hown hK hP 0 rfl rfl 0 (by decide) fl_14 (fun _ h9 => h9) rfl dX3_advance_1 ?_
      refine lv_aload_n hx hb dX3_advance_4 rfl (lv_at hl 1 rfl) ?_
      refine jn_i (W2 := fun _ => wRdr h0 (x, rr.2) ++ wTxt t0 t1 cI t) (va_runV (As := []) (rest := [.int x]) ⟨hx, hb, hml, hown, hts⟩ (c_X7_length l D cI cJ cZ t0 t1 H.size t) (cwV 0 hts gX3_advance_X7_length rfl rfl rfl (by decide +kernel) ⟨Nat.le_of_ble_eq_true rfl, Nat.le_of_ble_eq_true rfl⟩) (pr_V hP hD hK hN hE hS hA [1, 2] (by decide) rfl (ci := 7) (q0 := 1) rfl rfl) rfl rfl hl.1 rfl (lv_room (Nat.le_of_ble_eq_true rfl)) dX3_advance_5 ⟨Nat.zero_le _, Nat.zero_le _⟩) hP hD hS hA [1, 2] [0] [0, 1, 2] rfl rfl (by decide) (by decide) (by decide) (fun _ => rfl) (fun r_5 u_5 H locs hw_5 hP hD hS => ?_)
      have hP : va_P D vwCl (wRdr h0 (x, rr.2) ++ wTxt t0 t1 cI t) H := hP
      have hD : va_D A (wRdr h0 (x, rr.2) ++ wTxt t0 t1 cI t) := hD
      have hr_5 := hw_5
      refine lv_icmp_ge (tgt := 37) hx hb dX3_advance_8 (by decide) (fun c_8 => ?_) (fun c_8 => ?_)
      · have i_8 := i_le c_8
        rw [hr_5] at c_8
        rw [skB, if_pos c_8] at hG
        refine lv_aload_n hx hb dX3_advance_37 rfl (lv_at hl 0 rfl) ?_
        refine lv_aload_n hx hb dX3_advance_38 rfl (lv_at hl 0 rfl) ?_
        refine va_get (D := D) (ci := 3) (v := .int x) (C := RX3) (T := TX3) (N := 3) hx hb hts hin_3 hown hK hP 0 rfl rfl 0 (by decide) fl_14 (fun _ h9 => h9) rfl dX3_advance_39 ?_
        refine va_put (D := D) (ci := 3) (v := .int x) (ty := .int) (C := RX3) (T := TX3) (N := 3) hx hb hts hin_3 tyX3 tyX3_ok nmX3 hown hK hP hD hS 0 rfl rfl 1 (by decide) fl_31 (fun _ h9 => h9) rfl (by decide +kernel) rfl rfl (Nat.le_of_ble_eq_true rfl) dX3_advance_42 (fun H locs hP hD hS => ?_)
        have hP : va_P D vwCl (wRdr h0 (x, x, rr.2.2) ++ wTxt t0 t1 cI t) H := hP
        have hD : va_D A (wRdr h0 (x, x, rr.2.2) ++ wTxt t0 t1 cI t) := hD
        refine lv_aload_n hx hb dX3_advance_45 rfl (lv_at hl 0 rfl) ?_
        refine lv_aload_n hx hb dX3_advance_46 rfl (lv_at hl 1 rfl) ?_
        refine lv_aload_n hx hb dX3_advance_47 rfl (lv_at hl 0 rfl) ?_
        refine va_get (D := D) (ci := 3) (v := .int x) (C := RX3) (T := TX3) (N := 3) hx hb hts hin_3 hown hK hP 0 rfl rfl 1 (by decide) fl_31 (fun _ h9 => h9) rfl dX3_advance_48 ?_
        refine jn_i (W2 := fun _ => wRdr h0 (x, x, rr.2.2) ++ wTxt t0 t1 cI t) (va_runV (As := [.int x]) (rest := [.ref h0]) ⟨hx, hb, hml, hown, hts⟩ (c_X7_letterAt l D cI cJ cZ t0 t1 H.size t x (hn)) (cwV 1 hts gX3_advance_X7_letterAt rfl rfl rfl (by decide +kernel) ⟨Nat.le_of_ble_eq_true rfl, Nat.le_of_ble_eq_true rfl⟩) (pr_V hP hD hK hN hE hS hA [1, 2] (by decide) rfl (ci := 7) (q0 := 1) rfl rfl) rfl rfl hl.1 rfl (lv_room (Nat.le_of_ble_eq_true rfl)) dX3_advance_51 ⟨Nat.zero_le _, Nat.zero_le _⟩) hP hD hS hA [1, 2] [0] [0, 1, 2] rfl rfl (by decide) (by decide) (by decide) (fun _ => rfl) (fun r_51 u_51 H locs hw_51 hP hD hS => ?_)
        have hP : va_P D vwCl (wRdr h0 (x, x, rr.2.2) ++ wTxt t0 t1 cI t) H := hP
        have hD : va_D A (wRdr h0 (x, x, rr.2.2) ++ wTxt t0 t1 cI t) := hD
        have hr_51 := hw_51
        refine va_put (D := D) (ci := 3) (v := .int r_51) (ty := .int) (C := RX3) (T := TX3) (N := 3) hx hb hts hin_3 tyX3 tyX3_ok nmX3 hown hK hP hD hS 0 rfl rfl 2 (by decide) fl_24 (fun _ h9 => h9) rfl (by decide +kernel) rfl rfl (Nat.le_of_ble_eq_true rfl) dX3_advance_54 (fun H locs hP hD hS => ?_)
        have hP : va_P D vwCl (wRdr h0 (x, x, r_51) ++ wTxt t0 t1 cI t) H := hP
        have hD : va_D A (wRdr h0 (x, x, r_51) ++ wTxt t0 t1 cI t) := hD
        refine lv_aload_n hx hb dX3_advance_57 rfl (lv_at hl 0 rfl) ?_
        refine lv_dup hx hb dX3_advance_58 rfl ?_
        refine va_get (D := D) (ci := 3) (v := .int x) (C := RX3) (T := TX3) (N := 3) hx hb hts hin_3 hown hK hP 0 rfl rfl 0 (by decide) fl_14 (fun _ h9 => h9) rfl dX3_advance_59 ?_
        refine lv_iconst (v := 1) hx hb dX3_advance_62 (by decide) ?_
        refine lv_iadd hx hb dX3_advance_63 ?_
        refine va_put (D := D) (ci := 3) (v := .int (x + 1)) (ty := .int) (C := RX3) (T := TX3) (N := 3) hx hb hts hin_3 tyX3 tyX3_ok nmX3 hown hK hP hD hS 0 rfl rfl 0 (by decide) fl_14 (fun _ h9 => h9) rfl (by decide +kernel) rfl rfl (Nat.le_of_ble_eq_true rfl) dX3_advance_64 (fun H locs hP hD hS => ?_)
        have hP : va_P D vwCl (wRdr h0 ((x + 1), x, r_51) ++ wTxt t0 t1 cI t) H := hP
        have hD : va_D A (wRdr h0 ((x + 1), x, r_51) ++ wTxt t0 t1 cI t) := hD
        refine lv_aload_n hx hb dX3_advance_67 rfl (lv_at hl 0 rfl) ?_
        refine va_get (D := D) (ci := 3) (v := .int r_51) (C := RX3) (T := TX3) (N := 3) hx hb hts hin_3 hown hK hP 0 rfl rfl 2 (by decide) fl_24 (fun _ h9 => h9) rfl dX3_advance_68 ?_
        refine st_i (va_runS (As := [.int r_51]) (rest := []) ⟨hx, hb, hml, hown, hts⟩ (c_X3_isDigit l D cI cJ cZ H.size r_51) (va_cwS 1 hts gX3_advance_X3_isDigit rfl rfl rfl (by decide +kernel) ⟨Nat.le_of_ble_eq_true rfl, Nat.le_of_ble_eq_true rfl⟩) (pr_S hP hD hK hN hE hS hA [] (by decide) rfl) rfl rfl hl.1 rfl (lv_room (Nat.le_of_ble_eq_true rfl)) dX3_advance_71 ⟨Nat.zero_le _, Nat.zero_le _⟩) hP hS hA (fun r_71 u_71 H locs hw_71 hP hS => ?_)
        have hr_71 := hw_71
        refine lv_if_eq (tgt := 98) hx hb dX3_advance_74 (by decide) (fun c_74 => ?_) (fun c_74 => ?_)
        · have b_74 : (isDg r_51) = false := bI_0 (hr_71.symm.trans c_74)
          exact lf_v hx hb hr hlocks hQ ((x + 1), x, r_51) hP hD hS dX3_advance_98 (by simp only [rAdv, rTok, ← hG, ← hr_51, ← hr_71, ← hr_51, ← hr_5, if_pos c_8, b_74, ↓reduceIte, reduceCtorEq])
        · have b_74 : (isDg r_51) = true := bI_1 (fun q => c_74 (hr_71.trans q))
          refine lv_aload_n hx hb dX3_advance_77 rfl (lv_at hl 1 rfl) ?_
          refine lv_aload_n hx hb dX3_advance_78 rfl (lv_at hl 0 rfl) ?_
          refine va_get (D := D) (ci := 3) (v := .int (x + 1)) (C := RX3) (T := TX3) (N := 3) hx hb hts hin_3 hown hK hP 0 rfl rfl 0 (by decide) fl_14 (fun _ h9 => h9) rfl dX3_advance_79 ?_
          refine jn_i (W2 := fun _ => wRdr h0 ((x + 1), x, r_51) ++ wTxt t0 t1 cI t) (va_runV (As := [.int (x + 1)]) (rest := []) ⟨hx, hb, hml, hown, hts⟩ (c_X7_letterAt l D cI cJ cZ t0 t1 H.size t (x + 1) (hn)) (cwV 1 hts gX3_advance_X7_letterAt rfl rfl rfl (by decide +kernel) ⟨Nat.le_of_ble_eq_true rfl, Nat.le_of_ble_eq_true rfl⟩) (pr_V hP hD hK hN hE hS hA [1, 2] (by decide) rfl (ci := 7) (q0 := 1) rfl rfl) rfl rfl hl.1 rfl (lv_room (Nat.le_of_ble_eq_true rfl)) dX3_advance_82 ⟨Nat.zero_le _, Nat.zero_le _⟩) hP hD hS hA [1, 2] [0] [0, 1, 2] rfl rfl (by decide) (by decide) (by decide) (fun _ => rfl) (fun r_82 u_82 H locs hw_82 hP hD hS => ?_)
          have hP : va_P D vwCl (wRdr h0 ((x + 1), x, r_51) ++ wTxt t0 t1 cI t) H := hP
          have hD : va_D A (wRdr h0 ((x + 1), x, r_51) ++ wTxt t0 t1 cI t) := hD
          have hr_82 := hw_82
          refine st_i (va_runS (As := [.int r_82]) (rest := []) ⟨hx, hb, hml, hown, hts⟩ (c_X3_isDigit l D cI cJ cZ H.size r_82) (va_cwS 1 hts gX3_advance_X3_isDigit rfl rfl rfl (by decide +kernel) ⟨Nat.le_of_ble_eq_true rfl, Nat.le_of_ble_eq_true rfl⟩) (pr_S hP hD hK hN hE hS hA [] (by decide) rfl) rfl rfl hl.1 rfl (lv_room (Nat.le_of_ble_eq_true rfl)) dX3_advance_85 ⟨Nat.zero_le _, Nat.zero_le _⟩) hP hS hA (fun r_85 u_85 H locs hw_85 hP hS => ?_)
          have hr_85 := hw_85
          refine lv_if_eq (tgt := 98) hx hb dX3_advance_88 (by decide) (fun c_88 => ?_) (fun c_88 => ?_)
          · have b_88 : (isDg r_82) = false := bI_0 (hr_85.symm.trans c_88)
            exact lf_v hx hb hr hlocks hQ ((x + 1), x, r_51) hP hD hS dX3_advance_98 (by simp only [rAdv, rTok, ← hG, ← hr_51, ← hr_85, ← hr_82, ← hr_71, ← hr_51, ← hr_5, if_pos c_8, b_74, b_88, ↓reduceIte, reduceCtorEq])
          · have b_88 : (isDg r_82) = true := bI_1 (fun q => c_88 (hr_85.trans q))
            refine lv_aload_n hx hb dX3_advance_91 rfl (lv_at hl 0 rfl) ?_
            refine lv_sipush (v := 256) hx hb dX3_advance_92 (by decide) ?_
            refine va_put (D := D) (ci := 3) (v := .int 256) (ty := .int) (C := RX3) (T := TX3) (N := 3) hx hb hts hin_3 tyX3 tyX3_ok nmX3 hown hK hP hD hS 0 rfl rfl 2 (by decide) fl_24 (fun _ h9 => h9) rfl (by decide +kernel) rfl rfl (Nat.le_of_ble_eq_true rfl) dX3_advance_95 (fun H locs hP hD hS => ?_)
            have hP : va_P D vwCl (wRdr h0 ((x + 1), x, 256) ++ wTxt t0 t1 cI t) H := hP
            have hD : va_D A (wRdr h0 ((x + 1), x, 256) ++ wTxt t0 t1 cI t) := hD
            exact lf_v hx hb hr hlocks hQ ((x + 1), x, 256) hP hD hS dX3_advance_98 (by simp only [rAdv, rTok, ← hG, ← hr_51, ← hr_85, ← hr_82, ← hr_71, ← hr_51, ← hr_5, if_pos c_8, b_74, b_88, ↓reduceIte, reduceCtorEq])
      · have i_8 := i_nle c_8
        rw [hr_5] at c_8 i_8
        rw [skB, if_neg c_8] at hG
        refine lv_aload_n hx hb dX3_advance_11 rfl (lv_at hl 1 rfl) ?_
        refine lv_aload_n hx hb dX3_advance_12 rfl (lv_at hl 0 rfl) ?_
        refine va_get (D := D) (ci := 3) (v := .int x) (C := RX3) (T := TX3) (N := 3) hx hb hts hin_3 hown hK hP 0 rfl rfl 0 (by decide) fl_14 (fun _ h9 => h9) rfl dX3_advance_13 ?_
        refine jn_i (W2 := fun _ => wRdr h0 (x, rr.2) ++ wTxt t0 t1 cI t) (va_runV (As := [.int x]) (rest := []) ⟨hx, hb, hml, hown, hts⟩ (c_X7_letterAt l D cI cJ cZ t0 t1 H.size t x (hn)) (cwV 1 hts gX3_advance_X7_letterAt rfl rfl rfl (by decide +kernel) ⟨Nat.le_of_ble_eq_true rfl, Nat.le_of_ble_eq_true rfl⟩) (pr_V hP hD hK hN hE hS hA [1, 2] (by decide) rfl (ci := 7) (q0 := 1) rfl rfl) rfl rfl hl.1 rfl (lv_room (Nat.le_of_ble_eq_true rfl)) dX3_advance_16 ⟨Nat.zero_le _, Nat.zero_le _⟩) hP hD hS hA [1, 2] [0] [0, 1, 2] rfl rfl (by decide) (by decide) (by decide) (fun _ => rfl) (fun r_16 u_16 H locs hw_16 hP hD hS => ?_)
        have hP : va_P D vwCl (wRdr h0 (x, rr.2) ++ wTxt t0 t1 cI t) H := hP
        have hD : va_D A (wRdr h0 (x, rr.2) ++ wTxt t0 t1 cI t) := hD
        have hr_16 := hw_16
        refine lv_bipush (v := 32) hx hb dX3_advance_19 (by decide) ?_
        refine lv_icmp_ne (tgt := 37) hx hb dX3_advance_21 (by decide) (fun c_21 => ?_) (fun c_21 => ?_)
        · have i_21 := i_ne c_21
          rw [(by decide : (32 : Int32).toInt = 32)] at i_21
          rw [hr_16] at c_21
          rw [if_neg c_21] at hG
          refine lv_aload_n hx hb dX3_advance_37 rfl (lv_at hl 0 rfl) ?_
          refine lv_aload_n hx hb dX3_advance_38 rfl (lv_at hl 0 rfl) ?_
          refine va_get (D := D) (ci := 3) (v := .int x) (C := RX3) (T := TX3) (N := 3) hx hb hts hin_3 hown hK hP 0 rfl rfl 0 (by decide) fl_14 (fun _ h9 => h9) rfl dX3_advance_39 ?_
          refine va_put (D := D) (ci := 3) (v := .int x) (ty := .int) (C := RX3) (T := TX3) (N := 3) hx hb hts hin_3 tyX3 tyX3_ok nmX3 hown hK hP hD hS 0 rfl rfl 1 (by decide) fl_31 (fun _ h9 => h9) rfl (by decide +kernel) rfl rfl (Nat.le_of_ble_eq_true rfl) dX3_advance_42 (fun H locs hP hD hS => ?_)
          have hP : va_P D vwCl (wRdr h0 (x, x, rr.2.2) ++ wTxt t0 t1 cI t) H := hP
          have hD : va_D A (wRdr h0 (x, x, rr.2.2) ++ wTxt t0 t1 cI t) := hD
          refine lv_aload_n hx hb dX3_advance_45 rfl (lv_at hl 0 rfl) ?_
          refine lv_aload_n hx hb dX3_advance_46 rfl (lv_at hl 1 rfl) ?_
          refine lv_aload_n hx hb dX3_advance_47 rfl (lv_at hl 0 rfl) ?_
          refine va_get (D := D) (ci := 3) (v := .int x) (C := RX3) (T := TX3) (N := 3) hx hb hts hin_3 hown hK hP 0 rfl rfl 1 (by decide) fl_31 (fun _ h9 => h9) rfl dX3_advance_48 ?_
          refine jn_i (W2 := fun _ => wRdr h0 (x, x, rr.2.2) ++ wTxt t0 t1 cI t) (va_runV (As := [.int x]) (rest := [.ref h0]) ⟨hx, hb, hml, hown, hts⟩ (c_X7_letterAt l D cI cJ cZ t0 t1 H.size t x (hn)) (cwV 1 hts gX3_advance_X7_letterAt rfl rfl rfl (by decide +kernel) ⟨Nat.le_of_ble_eq_true rfl, Nat.le_of_ble_eq_true rfl⟩) (pr_V hP hD hK hN hE hS hA [1, 2] (by decide) rfl (ci := 7) (q0 := 1) rfl rfl) rfl rfl hl.1 rfl (lv_room (Nat.le_of_ble_eq_true rfl)) dX3_advance_51 ⟨Nat.zero_le _, Nat.zero_le _⟩) hP hD hS hA [1, 2] [0] [0, 1, 2] rfl rfl (by decide) (by decide) (by decide) (fun _ => rfl) (fun r_51 u_51 H locs hw_51 hP hD hS => ?_)
          have hP : va_P D vwCl (wRdr h0 (x, x, rr.2.2) ++ wTxt t0 t1 cI t) H := hP
          have hD : va_D A (wRdr h0 (x, x, rr.2.2) ++ wTxt t0 t1 cI t) := hD
          have hr_51 := hw_51
          refine va_put (D := D) (ci := 3) (v := .int r_51) (ty := .int) (C := RX3) (T := TX3) (N := 3) hx hb hts hin_3 tyX3 tyX3_ok nmX3 hown hK hP hD hS 0 rfl rfl 2 (by decide) fl_24 (fun _ h9 => h9) rfl (by decide +kernel) rfl rfl (Nat.le_of_ble_eq_true rfl) dX3_advance_54 (fun H locs hP hD hS => ?_)
          have hP : va_P D vwCl (wRdr h0 (x, x, r_51) ++ wTxt t0 t1 cI t) H := hP
          have hD : va_D A (wRdr h0 (x, x, r_51) ++ wTxt t0 t1 cI t) := hD
          refine lv_aload_n hx hb dX3_advance_57 rfl (lv_at hl 0 rfl) ?_
          refine lv_dup hx hb dX3_advance_58 rfl ?_
          refine va_get (D := D) (ci := 3) (v := .int x) (C := RX3) (T := TX3) (N := 3) hx hb hts hin_3 hown hK hP 0 rfl rfl 0 (by decide) fl_14 (fun _ h9 => h9) rfl dX3_advance_59 ?_
          refine lv_iconst (v := 1) hx hb dX3_advance_62 (by decide) ?_
          refine lv_iadd hx hb dX3_advance_63 ?_
          refine va_put (D := D) (ci := 3) (v := .int (x + 1)) (ty := .int) (C := RX3) (T := TX3) (N := 3) hx hb hts hin_3 tyX3 tyX3_ok nmX3 hown hK hP hD hS 0 rfl rfl 0 (by decide) fl_14 (fun _ h9 => h9) rfl (by decide +kernel) rfl rfl (Nat.le_of_ble_eq_true rfl) dX3_advance_64 (fun H locs hP hD hS => ?_)
          have hP : va_P D vwCl (wRdr h0 ((x + 1), x, r_51) ++ wTxt t0 t1 cI t) H := hP
          have hD : va_D A (wRdr h0 ((x + 1), x, r_51) ++ wTxt t0 t1 cI t) := hD
          refine lv_aload_n hx hb dX3_advance_67 rfl (lv_at hl 0 rfl) ?_
          refine va_get (D := D) (ci := 3) (v := .int r_51) (C := RX3) (T := TX3) (N := 3) hx hb hts hin_3 hown hK hP 0 rfl rfl 2 (by decide) fl_24 (fun _ h9 => h9) rfl dX3_advance_68 ?_
          refine st_i (va_runS (As := [.int r_51]) (rest := []) ⟨hx, hb, hml, hown, hts⟩ (c_X3_isDigit l D cI cJ cZ H.size r_51) (va_cwS 1 hts gX3_advance_X3_isDigit rfl rfl rfl (by decide +kernel) ⟨Nat.le_of_ble_eq_true rfl, Nat.le_of_ble_eq_true rfl⟩) (pr_S hP hD hK hN hE hS hA [] (by decide) rfl) rfl rfl hl.1 rfl (lv_room (Nat.le_of_ble_eq_true rfl)) dX3_advance_71 ⟨Nat.zero_le _, Nat.zero_le _⟩) hP hS hA (fun r_71 u_71 H locs hw_71 hP hS => ?_)
          have hr_71 := hw_71
          refine lv_if_eq (tgt := 98) hx hb dX3_advance_74 (by decide) (fun c_74 => ?_) (fun c_74 => ?_)
          · have b_74 : (isDg r_51) = false := bI_0 (hr_71.symm.trans c_74)
            exact lf_v hx hb hr hlocks hQ ((x + 1), x, r_51) hP hD hS dX3_advance_98 (by simp only [rAdv, rTok, ← hG, ← hr_51, ← hr_71, ← hr_51, ← hr_16, ← hr_5, if_neg c_8, if_neg c_21, b_74, ↓reduceIte, reduceCtorEq])
          · have b_74 : (isDg r_51) = true := bI_1 (fun q => c_74 (hr_71.trans q))
            refine lv_aload_n hx hb dX3_advance_77 rfl (lv_at hl 1 rfl) ?_
            refine lv_aload_n hx hb dX3_advance_78 rfl (lv_at hl 0 rfl) ?_
            refine va_get (D := D) (ci := 3) (v := .int (x + 1)) (C := RX3) (T := TX3) (N := 3) hx hb hts hin_3 hown hK hP 0 rfl rfl 0 (by decide) fl_14 (fun _ h9 => h9) rfl dX3_advance_79 ?_
            refine jn_i (W2 := fun _ => wRdr h0 ((x + 1), x, r_51) ++ wTxt t0 t1 cI t) (va_runV (As := [.int (x + 1)]) (rest := []) ⟨hx, hb, hml, hown, hts⟩ (c_X7_letterAt l D cI cJ cZ t0 t1 H.size t (x + 1) (hn)) (cwV 1 hts gX3_advance_X7_letterAt rfl rfl rfl (by decide +kernel) ⟨Nat.le_of_ble_eq_true rfl, Nat.le_of_ble_eq_true rfl⟩) (pr_V hP hD hK hN hE hS hA [1, 2] (by decide) rfl (ci := 7) (q0 := 1) rfl rfl) rfl rfl hl.1 rfl (lv_room (Nat.le_of_ble_eq_true rfl)) dX3_advance_82 ⟨Nat.zero_le _, Nat.zero_le _⟩) hP hD hS hA [1, 2] [0] [0, 1, 2] rfl rfl (by decide) (by decide) (by decide) (fun _ => rfl) (fun r_82 u_82 H locs hw_82 hP hD hS => ?_)
            have hP : va_P D vwCl (wRdr h0 ((x + 1), x, r_51) ++ wTxt t0 t1 cI t) H := hP
            have hD : va_D A (wRdr h0 ((x + 1), x, r_51) ++ wTxt t0 t1 cI t) := hD
            have hr_82 := hw_82
            refine st_i (va_runS (As := [.int r_82]) (rest := []) ⟨hx, hb, hml, hown, hts⟩ (c_X3_isDigit l D cI cJ cZ H.size r_82) (va_cwS 1 hts gX3_advance_X3_isDigit rfl rfl rfl (by decide +kernel) ⟨Nat.le_of_ble_eq_true rfl, Nat.le_of_ble_eq_true rfl⟩) (pr_S hP hD hK hN hE hS hA [] (by decide) rfl) rfl rfl hl.1 rfl (lv_room (Nat.le_of_ble_eq_true rfl)) dX3_advance_85 ⟨Nat.zero_le _, Nat.zero_le _⟩) hP hS hA (fun r_85 u_85 H locs hw_85 hP hS => ?_)
            have hr_85 := hw_85
            refine lv_if_eq (tgt := 98) hx hb dX3_advance_88 (by decide) (fun c_88 => ?_) (fun c_88 => ?_)
            · have b_88 : (isDg r_82) = false := bI_0 (hr_85.symm.trans c_88)
              exact lf_v hx hb hr hlocks hQ ((x + 1), x, r_51) hP hD hS dX3_advance_98 (by simp only [rAdv, rTok, ← hG, ← hr_51, ← hr_85, ← hr_82, ← hr_71, ← hr_51, ← hr_16, ← hr_5, if_neg c_8, if_neg c_21, b_74, b_88, ↓reduceIte, reduceCtorEq])
            · have b_88 : (isDg r_82) = true := bI_1 (fun q => c_88 (hr_85.trans q))
              refine lv_aload_n hx hb dX3_advance_91 rfl (lv_at hl 0 rfl) ?_
              refine lv_sipush (v := 256) hx hb dX3_advance_92 (by decide) ?_
              refine va_put (D := D) (ci := 3) (v := .int 256) (ty := .int) (C := RX3) (T := TX3) (N := 3) hx hb hts hin_3 tyX3 tyX3_ok nmX3 hown hK hP hD hS 0 rfl rfl 2 (by decide) fl_24 (fun _ h9 => h9) rfl (by decide +kernel) rfl rfl (Nat.le_of_ble_eq_true rfl) dX3_advance_95 (fun H locs hP hD hS => ?_)
              have hP : va_P D vwCl (wRdr h0 ((x + 1), x, 256) ++ wTxt t0 t1 cI t) H := hP
              have hD : va_D A (wRdr h0 ((x + 1), x, 256) ++ wTxt t0 t1 cI t) := hD
              exact lf_v hx hb hr hlocks hQ ((x + 1), x, 256) hP hD hS dX3_advance_98 (by simp only [rAdv, rTok, ← hG, ← hr_51, ← hr_85, ← hr_82, ← hr_71, ← hr_51, ← hr_16, ← hr_5, if_neg c_8, if_neg c_21, b_74, b_88, ↓reduceIte, reduceCtorEq])
        · have i_21 := i_eq c_21
          rw [(by decide : (32 : Int32).toInt = 32)] at i_21
          rw [hr_16] at c_21
          rw [if_pos c_21] at hG
          have hx1 : (x + 1).toInt = x.toInt + 1 := by rw [ti_add (by rw [li_1]; omega) (by rw [li_1]; omega), li_1]
          refine lv_aload_n hx hb dX3_advance_24 rfl (lv_at hl 0 rfl) ?_
          refine lv_dup hx hb dX3_advance_25 rfl ?_
          refine va_get (D := D) (ci := 3) (v := .int x) (C := RX3) (T := TX3) (N := 3) hx hb hts hin_3 hown hK hP 0 rfl rfl 0 (by decide) fl_14 (fun _ h9 => h9) rfl dX3_advance_26 ?_
          refine lv_iconst (v := 1) hx hb dX3_advance_29 (by decide) ?_
          refine lv_iadd hx hb dX3_advance_30 ?_
          refine va_put (D := D) (ci := 3) (v := .int (x + 1)) (ty := .int) (C := RX3) (T := TX3) (N := 3) hx hb hts hin_3 tyX3 tyX3_ok nmX3 hown hK hP hD hS 0 rfl rfl 0 (by decide) fl_14 (fun _ h9 => h9) rfl (by decide +kernel) rfl rfl (Nat.le_of_ble_eq_true rfl) dX3_advance_31 (fun H locs hP hD hS => ?_)
          have hP : va_P D vwCl (wRdr h0 ((x + 1), rr.2) ++ wTxt t0 t1 cI t) H := hP
          have hD : va_D A (wRdr h0 ((x + 1), rr.2) ++ wTxt t0 t1 cI t) := hD
          refine lv_goto (tgt := 0) hx hb dX3_advance_34 (by decide) ?_
          exact LB_0 (x + 1) (by omega) (by omega) (hG) H locs hP hD hS ls (lv_sub hl [0, 1] rfl)
  exact LB_0 101 rr.1 (by omega) (by omega) (rfl) H locs hP hD hS ls (lv_sub hl [0, 1] rfl)
abbrev rm_X3_readNumber : Room := { frames := 2, cells := 0, slots := 0, locals := 42 }
set_option maxHeartbeats 4000000 in
set_option maxRecDepth 100000 in
theorem c_X3_readNumber (l : Launch) (D : va_G) (cI cJ cZ : ClassId) (h0 : Nat) (t0 : Nat) (t1 : Nat) (sz : Nat) (rr : Rdr) (t : Txt) (lo : Int32) (hi : Int32) (hn : t.1.toInt ≤ 100) (hB : RB rr 1000000) : Met l yX3_readNumber wsX3_readNumber rm_X3_readNumber (va_Pc [.ref h0, .ref t0, .int lo, .int hi] (PU D (tyL cI cJ cZ) (wRdr h0 rr ++ wTxt t0 t1 cI t) sz)) (va_Qi (fun (rz : Int32) (uz : Rdr) => rz = rNum t rr lo hi ∧ uz = rAdv t rr) (fun uz => BU D (wRdr h0 uz ++ wTxt t0 t1 cI t) (va_A (wRdr h0 rr ++ wTxt t0 t1 cI t) sz)) (va_A (wRdr h0 rr ++ wTxt t0 t1 cI t) sz)) 0 0 (va_A (wRdr h0 rr ++ wTxt t0 t1 cI t) sz) := by
  refine en (own := RX3) (Qc := fun A => va_Qi (fun (rz : Int32) (uz : Rdr) => rz = rNum t rr lo hi ∧ uz = rAdv t rr) (fun uz => BU D (wRdr h0 uz ++ wTxt t0 t1 cI t) A) A) (by decide) rfl (Nat.le_of_ble_eq_true rfl) rfl ?_
  intro p e s m args below meth c A Q H locs ls hx hb hr hml hown hts hlocks hname hA hN hE hK hQ hP hD hS hl
  have hl : lv_has ls 5 [(0, .ref h0), (1, .ref t0), (2, .int lo), (3, .int hi)] := hl
  have fl_24 := hts (.fieldLink RX3 24 "DanceStaffs$Reader" "token" "I") (by decide +kernel)
  have hin_3 : ∀ w ∈ u_ws RX3 TX3 3, w ∈ wsX3_readNumber := by decide +kernel
  refine lv_aload_n hx hb dX3_readNumber_0 rfl (lv_at hl 0 rfl) ?_
  refine lv_aload_n hx hb dX3_readNumber_1 rfl (lv_at hl 1 rfl) ?_
  refine jn_v (W2 := fun u_2 => wRdr h0 u_2 ++ wTxt t0 t1 cI t) (va_runV (As := [.ref t0]) (rest := []) ⟨hx, hb, hml, hown, hts⟩ (c_X3_advance l D cI cJ cZ h0 t0 t1 H.size rr t (hn) (hB)) (cwV 1 hts gX3_readNumber_X3_advance rfl rfl rfl (by decide +kernel) ⟨Nat.le_of_ble_eq_true rfl, Nat.le_of_ble_eq_true rfl⟩) (pr_V hP hD hK hN hE hS hA [0, 1, 2] (by decide) rfl (ci := 3) (q0 := 0) rfl rfl) rfl rfl hl.1 rfl (lv_room (Nat.le_of_ble_eq_true rfl)) dX3_readNumber_2 ⟨Nat.zero_le _, Nat.zero_le _⟩) hP hD hS hA [0, 1, 2] [] [0, 1, 2] rfl rfl (by decide) (by decide) (by decide) (fun _ => rfl) (fun u_2 H locs hw_2 hP hD hS => ?_)
  have hP : va_P D vwCl (wRdr h0 u_2 ++ wTxt t0 t1 cI t) H := hP
  have hD : va_D A (wRdr h0 u_2 ++ wTxt t0 t1 cI t) := hD
  have hu_2 := hw_2
  refine lv_aload_n hx hb dX3_readNumber_5 rfl (lv_at hl 0 rfl) ?_
  refine va_get (D := D) (ci := 3) (v := .int u_2.2.2) (C := RX3) (T := TX3) (N := 3) hx hb hts hin_3 hown hK hP 0 rfl rfl 2 (by decide) fl_24 (fun _ h9 => h9) rfl dX3_readNumber_6 ?_
  refine st_i (va_runS (As := [.int u_2.2.2]) (rest := []) ⟨hx, hb, hml, hown, hts⟩ (c_X3_isDigit l D cI cJ cZ H.size u_2.2.2) (va_cwS 1 hts gX3_readNumber_X3_isDigit rfl rfl rfl (by decide +kernel) ⟨Nat.le_of_ble_eq_true rfl, Nat.le_of_ble_eq_true rfl⟩) (pr_S hP hD hK hN hE hS hA [] (by decide) rfl) rfl rfl hl.1 rfl (lv_room (Nat.le_of_ble_eq_true rfl)) dX3_readNumber_9 ⟨Nat.zero_le _, Nat.zero_le _⟩) hP hS hA (fun r_9 u_9 H locs hw_9 hP hS => ?_)
  have hr_9 := hw_9
  refine lv_if_ne (tgt := 18) hx hb dX3_readNumber_12 (by decide) (fun c_12 => ?_) (fun c_12 => ?_)
  · have b_12 : (isDg u_2.2.2) = true := bI_1 (fun q => c_12 (hr_9.trans q))
    refine lv_aload_n hx hb dX3_readNumber_18 rfl (lv_at hl 0 rfl) ?_
    refine va_get (D := D) (ci := 3) (v := .int u_2.2.2) (C := RX3) (T := TX3) (N := 3) hx hb hts hin_3 hown hK hP 0 rfl rfl 2 (by decide) fl_24 (fun _ h9 => h9) rfl dX3_readNumber_19 ?_
    refine lv_bipush (v := 48) hx hb dX3_readNumber_22 (by decide) ?_
    refine lv_isub hx hb dX3_readNumber_24 ?_
    refine lv_istore (lv' := [(4, .int (u_2.2.2 - 48)), (0, .ref h0), (1, .ref t0), (2, .int lo), (3, .int hi)]) hx hb dX3_readNumber_25 hl (by decide) rfl (fun ls hl => ?_)
    refine lv_iload hx hb dX3_readNumber_27 (lv_at hl 0 rfl) ?_
    refine lv_iload_n hx hb dX3_readNumber_29 rfl (lv_at hl 3 rfl) ?_
    refine lv_icmp_lt (tgt := 44) hx hb dX3_readNumber_30 (by decide) (fun c_30 => ?_) (fun c_30 => ?_)
    · have i_30 := i_lt c_30
      refine lv_bipush (v := (-9)) hx hb dX3_readNumber_44 (by decide) ?_
      exact lf_i hx hb hr hlocks hQ u_2 hP hD hS dX3_readNumber_46 ⟨(by first | with_reducible rfl | (simp only [rNum, b_12, if_pos c_30, ← hr_9, ← hu_2, ↓reduceIte, bI_t, bI_f, reduceCtorEq]; done) | (subst_vars; simp only [rNum, b_12, if_pos c_30, ↓reduceIte, bI_t, bI_f, reduceCtorEq]; done) | (simp [rNum, b_12, c_30, bI_t, bI_f]; done)), (by first | with_reducible rfl | (simp only [rNum, b_12, if_pos c_30, ← hr_9, ← hu_2, ↓reduceIte, bI_t, bI_f, reduceCtorEq]; done) | (subst_vars; simp only [rNum, b_12, if_pos c_30, ↓reduceIte, bI_t, bI_f, reduceCtorEq]; done) | (simp [rNum, b_12, c_30, bI_t, bI_f]; done))⟩
    · have i_30 := i_nlt c_30
      refine lv_iload hx hb dX3_readNumber_33 (lv_at hl 0 rfl) ?_
      refine lv_iload_n hx hb dX3_readNumber_35 rfl (lv_at hl 4 rfl) ?_
      refine lv_icmp_gt (tgt := 44) hx hb dX3_readNumber_36 (by decide) (fun c_36 => ?_) (fun c_36 => ?_)
      · have i_36 := i_lt c_36
        refine lv_bipush (v := (-9)) hx hb dX3_readNumber_44 (by decide) ?_
        exact lf_i hx hb hr hlocks hQ u_2 hP hD hS dX3_readNumber_46 ⟨(by first | with_reducible rfl | (simp only [rNum, b_12, if_neg c_30, if_pos c_36, ← hr_9, ← hu_2, ↓reduceIte, bI_t, bI_f, reduceCtorEq]; done) | (subst_vars; simp only [rNum, b_12, if_neg c_30, if_pos c_36, ↓reduceIte, bI_t, bI_f, reduceCtorEq]; done) | (simp [rNum, b_12, c_30, c_36, bI_t, bI_f]; done)), (by first | with_reducible rfl | (simp only [rNum, b_12, if_neg c_30, if_pos c_36, ← hr_9, ← hu_2, ↓reduceIte, bI_t, bI_f, reduceCtorEq]; done) | (subst_vars; simp only [rNum, b_12, if_neg c_30, if_pos c_36, ↓reduceIte, bI_t, bI_f, reduceCtorEq]; done) | (simp [rNum, b_12, c_30, c_36, bI_t, bI_f]; done))⟩
      · have i_36 := i_nlt c_36
        refine lv_iload hx hb dX3_readNumber_39 (lv_at hl 0 rfl) ?_
        refine lv_goto (tgt := 46) hx hb dX3_readNumber_41 (by decide) ?_
        exact lf_i hx hb hr hlocks hQ u_2 hP hD hS dX3_readNumber_46 ⟨(by first | with_reducible rfl | (simp only [rNum, b_12, if_neg c_30, if_neg c_36, ← hr_9, ← hu_2, ↓reduceIte, bI_t, bI_f, reduceCtorEq]; done) | (subst_vars; simp only [rNum, b_12, if_neg c_30, if_neg c_36, ↓reduceIte, bI_t, bI_f, reduceCtorEq]; done) | (simp [rNum, b_12, c_30, c_36, bI_t, bI_f]; done)), (by first | with_reducible rfl | (simp only [rNum, b_12, if_neg c_30, if_neg c_36, ← hr_9, ← hu_2, ↓reduceIte, bI_t, bI_f, reduceCtorEq]; done) | (subst_vars; simp only [rNum, b_12, if_neg c_30, if_neg c_36, ↓reduceIte, bI_t, bI_f, reduceCtorEq]; done) | (simp [rNum, b_12, c_30, c_36, bI_t, bI_f]; done))⟩
  · have b_12 : (isDg u_2.2.2) = false := bI_0 (hr_9.symm.trans c_12)
    refine lv_bipush (v := (-9)) hx hb dX3_readNumber_15 (by decide) ?_
    exact lf_i hx hb hr hlocks hQ u_2 hP hD hS dX3_readNumber_17 ⟨(by first | with_reducible rfl | (simp only [rNum, b_12, ← hr_9, ← hu_2, ↓reduceIte, bI_t, bI_f, reduceCtorEq]; done) | (subst_vars; simp only [rNum, b_12, ↓reduceIte, bI_t, bI_f, reduceCtorEq]; done) | (simp [rNum, b_12, bI_t, bI_f]; done)), (by first | with_reducible rfl | (simp only [rNum, b_12, ← hr_9, ← hu_2, ↓reduceIte, bI_t, bI_f, reduceCtorEq]; done) | (subst_vars; simp only [rNum, b_12, ↓reduceIte, bI_t, bI_f, reduceCtorEq]; done) | (simp [rNum, b_12, bI_t, bI_f]; done))⟩
abbrev rm_X3_readSign : Room := { frames := 3, cells := 0, slots := 0, locals := 66 }
set_option maxHeartbeats 4000000 in
set_option maxRecDepth 100000 in
theorem c_X3_readSign (l : Launch) (D : va_G) (cI cJ cZ : ClassId) (h0 : Nat) (t0 : Nat) (t1 : Nat) (sz : Nat) (rr : Rdr) (t : Txt) (hn : t.1.toInt ≤ 100) (hB : RB rr 1000000) : Met l yX3_readSign wsX3_readSign rm_X3_readSign (va_Pc [.ref h0, .ref t0] (PU D (tyL cI cJ cZ) (wRdr h0 rr ++ wTxt t0 t1 cI t) sz)) (va_Qi (fun (rz : Int32) (uz : Rdr) => rz = rSgn t rr ∧ uz = rSgS t rr) (fun uz => BU D (wRdr h0 uz ++ wTxt t0 t1 cI t) (va_A (wRdr h0 rr ++ wTxt t0 t1 cI t) sz)) (va_A (wRdr h0 rr ++ wTxt t0 t1 cI t) sz)) 0 0 (va_A (wRdr h0 rr ++ wTxt t0 t1 cI t) sz) := by
  refine en (own := RX3) (Qc := fun A => va_Qi (fun (rz : Int32) (uz : Rdr) => rz = rSgn t rr ∧ uz = rSgS t rr) (fun uz => BU D (wRdr h0 uz ++ wTxt t0 t1 cI t) A) A) (by decide) rfl (Nat.le_of_ble_eq_true rfl) rfl ?_
  intro p e s m args below meth c A Q H locs ls hx hb hr hml hown hts hlocks hname hA hN hE hK hQ hP hD hS hl
  have hl : lv_has ls 5 [(0, .ref h0), (1, .ref t0)] := hl
  have fl_24 := hts (.fieldLink RX3 24 "DanceStaffs$Reader" "token" "I") (by decide +kernel)
  have hin_3 : ∀ w ∈ u_ws RX3 TX3 3, w ∈ wsX3_readSign := by decide +kernel
  refine lv_aload_n hx hb dX3_readSign_0 rfl (lv_at hl 0 rfl) ?_
  refine va_get (D := D) (ci := 3) (v := .int rr.2.2) (C := RX3) (T := TX3) (N := 3) hx hb hts hin_3 hown hK hP 0 rfl rfl 2 (by decide) fl_24 (fun _ h9 => h9) rfl dX3_readSign_1 ?_
  refine lv_bipush (v := 46) hx hb dX3_readSign_4 (by decide) ?_
  refine lv_icmp_ne (tgt := 11) hx hb dX3_readSign_6 (by decide) (fun c_6 => ?_) (fun c_6 => ?_)
  · have i_6 := i_ne c_6
    rw [(by decide : (46 : Int32).toInt = 46)] at i_6
    refine lv_aload_n hx hb dX3_readSign_11 rfl (lv_at hl 0 rfl) ?_
    refine va_get (D := D) (ci := 3) (v := .int rr.2.2) (C := RX3) (T := TX3) (N := 3) hx hb hts hin_3 hown hK hP 0 rfl rfl 2 (by decide) fl_24 (fun _ h9 => h9) rfl dX3_readSign_12 ?_
    refine lv_bipush (v := 99) hx hb dX3_readSign_15 (by decide) ?_
    refine lv_icmp_ne (tgt := 22) hx hb dX3_readSign_17 (by decide) (fun c_17 => ?_) (fun c_17 => ?_)
    · have i_17 := i_ne c_17
      rw [(by decide : (99 : Int32).toInt = 99)] at i_17
      refine lv_aload_n hx hb dX3_readSign_22 rfl (lv_at hl 0 rfl) ?_
      refine va_get (D := D) (ci := 3) (v := .int rr.2.2) (C := RX3) (T := TX3) (N := 3) hx hb hts hin_3 hown hK hP 0 rfl rfl 2 (by decide) fl_24 (fun _ h9 => h9) rfl dX3_readSign_23 ?_
      refine st_i (va_runS (As := [.int rr.2.2]) (rest := []) ⟨hx, hb, hml, hown, hts⟩ (c_X3_firstSignOf l D cI cJ cZ H.size rr.2.2) (va_cwS 1 hts gX3_readSign_X3_firstSignOf rfl rfl rfl (by decide +kernel) ⟨Nat.le_of_ble_eq_true rfl, Nat.le_of_ble_eq_true rfl⟩) (pr_S hP hD hK hN hE hS hA [] (by decide) rfl) rfl rfl hl.1 rfl (lv_room (Nat.le_of_ble_eq_true rfl)) dX3_readSign_26 ⟨Nat.zero_le _, Nat.zero_le _⟩) hP hS hA (fun r_26 u_26 H locs hw_26 hP hS => ?_)
      have hr_26 := hw_26
      refine lv_istore_n (lv' := [(2, .int r_26), (0, .ref h0), (1, .ref t0)]) hx hb dX3_readSign_29 rfl hl (by decide) rfl (fun ls hl => ?_)
      refine lv_iload_n hx hb dX3_readSign_30 rfl (lv_at hl 0 rfl) ?_
      refine lv_bipush (v := (-9)) hx hb dX3_readSign_31 (by decide) ?_
      refine lv_icmp_ne (tgt := 39) hx hb dX3_readSign_33 (by decide) (fun c_33 => ?_) (fun c_33 => ?_)
      · have i_33 := i_ne c_33
        rw [(by decide : (-9 : Int32).toInt = -9)] at i_33
        refine lv_iload_n hx hb dX3_readSign_39 rfl (lv_at hl 0 rfl) ?_
        refine lv_bipush (v := 26) hx hb dX3_readSign_40 (by decide) ?_
        refine lv_icmp_ne (tgt := 49) hx hb dX3_readSign_42 (by decide) (fun c_42 => ?_) (fun c_42 => ?_)
        · have i_42 := i_ne c_42
          rw [(by decide : (26 : Int32).toInt = 26)] at i_42
          refine lv_iconst (v := 0) hx hb dX3_readSign_49 (by decide) ?_
          refine lv_istore_n (lv' := [(3, .int 0), (2, .int r_26), (0, .ref h0), (1, .ref t0)]) hx hb dX3_readSign_50 rfl hl (by decide) rfl (fun ls hl => ?_)
          refine lv_aload_n hx hb dX3_readSign_51 rfl (lv_at hl 2 rfl) ?_
          refine lv_aload_n hx hb dX3_readSign_52 rfl (lv_at hl 3 rfl) ?_
          refine lv_iload_n hx hb dX3_readSign_53 rfl (lv_at hl 0 rfl) ?_
          refine lv_bipush (v := 7) hx hb dX3_readSign_54 (by decide) ?_
          refine jn_i (W2 := fun u_56 => wRdr h0 u_56 ++ wTxt t0 t1 cI t) (va_runV (As := [.ref t0, .int 0, .int 7]) (rest := []) ⟨hx, hb, hml, hown, hts⟩ (c_X3_readNumber l D cI cJ cZ h0 t0 t1 H.size rr t 0 7 (hn) (hB)) (cwV 3 hts gX3_readSign_X3_readNumber rfl rfl rfl (by decide +kernel) ⟨Nat.le_of_ble_eq_true rfl, Nat.le_of_ble_eq_true rfl⟩) (pr_V hP hD hK hN hE hS hA [0, 1, 2] (by decide) rfl (ci := 3) (q0 := 0) rfl rfl) rfl rfl hl.1 rfl (lv_room (Nat.le_of_ble_eq_true rfl)) dX3_readSign_56 ⟨Nat.zero_le _, Nat.zero_le _⟩) hP hD hS hA [0, 1, 2] [] [0, 1, 2] rfl rfl (by decide) (by decide) (by decide) (fun _ => rfl) (fun r_56 u_56 H locs hw_56 hP hD hS => ?_)
          have hP : va_P D vwCl (wRdr h0 u_56 ++ wTxt t0 t1 cI t) H := hP
          have hD : va_D A (wRdr h0 u_56 ++ wTxt t0 t1 cI t) := hD
          obtain ⟨hr_56, hu_56⟩ := hw_56
          refine lv_istore (lv' := [(4, .int r_56), (3, .int 0), (2, .int r_26), (0, .ref h0), (1, .ref t0)]) hx hb dX3_readSign_59 hl (by decide) rfl (fun ls hl => ?_)
          refine lv_iload hx hb dX3_readSign_61 (lv_at hl 0 rfl) ?_
          refine lv_bipush (v := (-9)) hx hb dX3_readSign_63 (by decide) ?_
          refine lv_icmp_ne (tgt := 73) hx hb dX3_readSign_65 (by decide) (fun c_65 => ?_) (fun c_65 => ?_)
          · have i_65 := i_ne c_65
            rw [(by decide : (-9 : Int32).toInt = -9)] at i_65
            refine lv_iload_n hx hb dX3_readSign_73 rfl (lv_at hl 2 rfl) ?_
            refine lv_iload hx hb dX3_readSign_74 (lv_at hl 0 rfl) ?_
            refine lv_iadd hx hb dX3_readSign_76 ?_
            refine lv_iload_n hx hb dX3_readSign_77 rfl (lv_at hl 1 rfl) ?_
            refine lv_isub hx hb dX3_readSign_78 ?_
            exact lf_i hx hb hr hlocks hQ u_56 hP hD hS dX3_readSign_79 ⟨(by first | with_reducible rfl | (simp only [rSgn, rSgS, rLo, if_neg c_6, if_neg c_17, if_neg c_33, if_neg c_42, if_neg c_65, ← hr_56, ← hu_56, ← hr_26, ↓reduceIte, bI_t, bI_f, reduceCtorEq]; done) | (subst_vars; simp only [rSgn, rSgS, rLo, if_neg c_6, if_neg c_17, if_neg c_33, if_neg c_42, if_neg c_65, ↓reduceIte, bI_t, bI_f, reduceCtorEq]; done) | (simp [rSgn, rSgS, rLo, c_6, c_17, c_33, c_42, c_65, bI_t, bI_f]; done)), (by first | with_reducible rfl | (simp only [rSgn, rSgS, rLo, if_neg c_6, if_neg c_17, if_neg c_33, if_neg c_42, if_neg c_65, ← hr_56, ← hu_56, ← hr_26, ↓reduceIte, bI_t, bI_f, reduceCtorEq]; done) | (subst_vars; simp only [rSgn, rSgS, rLo, if_neg c_6, if_neg c_17, if_neg c_33, if_neg c_42, if_neg c_65, ↓reduceIte, bI_t, bI_f, reduceCtorEq]; done) | (simp [rSgn, rSgS, rLo, c_6, c_17, c_33, c_42, c_65, bI_t, bI_f]; done))⟩
          · have i_65 := i_eq c_65
            rw [(by decide : (-9 : Int32).toInt = -9)] at i_65
            refine lv_bipush (v := (-9)) hx hb dX3_readSign_68 (by decide) ?_
            refine lv_goto (tgt := 79) hx hb dX3_readSign_70 (by decide) ?_
            exact lf_i hx hb hr hlocks hQ u_56 hP hD hS dX3_readSign_79 ⟨(by first | with_reducible rfl | (simp only [rSgn, rSgS, rLo, if_neg c_6, if_neg c_17, if_neg c_33, if_neg c_42, if_pos c_65, ← hr_56, ← hu_56, ← hr_26, ↓reduceIte, bI_t, bI_f, reduceCtorEq]; done) | (subst_vars; simp only [rSgn, rSgS, rLo, if_neg c_6, if_neg c_17, if_neg c_33, if_neg c_42, if_pos c_65, ↓reduceIte, bI_t, bI_f, reduceCtorEq]; done) | (simp [rSgn, rSgS, rLo, c_6, c_17, c_33, c_42, c_65, bI_t, bI_f]; done)), (by first | with_reducible rfl | (simp only [rSgn, rSgS, rLo, if_neg c_6, if_neg c_17, if_neg c_33, if_neg c_42, if_pos c_65, ← hr_56, ← hu_56, ← hr_26, ↓reduceIte, bI_t, bI_f, reduceCtorEq]; done) | (subst_vars; simp only [rSgn, rSgS, rLo, if_neg c_6, if_neg c_17, if_neg c_33, if_neg c_42, if_pos c_65, ↓reduceIte, bI_t, bI_f, reduceCtorEq]; done) | (simp [rSgn, rSgS, rLo, c_6, c_17, c_33, c_42, c_65, bI_t, bI_f]; done))⟩
        · have i_42 := i_eq c_42
          rw [(by decide : (26 : Int32).toInt = 26)] at i_42
          refine lv_iconst (v := 1) hx hb dX3_readSign_45 (by decide) ?_
          refine lv_goto (tgt := 50) hx hb dX3_readSign_46 (by decide) ?_
          refine lv_istore_n (lv' := [(3, .int 1), (2, .int r_26), (0, .ref h0), (1, .ref t0)]) hx hb dX3_readSign_50 rfl hl (by decide) rfl (fun ls hl => ?_)
          refine lv_aload_n hx hb dX3_readSign_51 rfl (lv_at hl 2 rfl) ?_
          refine lv_aload_n hx hb dX3_readSign_52 rfl (lv_at hl 3 rfl) ?_
          refine lv_iload_n hx hb dX3_readSign_53 rfl (lv_at hl 0 rfl) ?_
          refine lv_bipush (v := 7) hx hb dX3_readSign_54 (by decide) ?_
          refine jn_i (W2 := fun u_56 => wRdr h0 u_56 ++ wTxt t0 t1 cI t) (va_runV (As := [.ref t0, .int 1, .int 7]) (rest := []) ⟨hx, hb, hml, hown, hts⟩ (c_X3_readNumber l D cI cJ cZ h0 t0 t1 H.size rr t 1 7 (hn) (hB)) (cwV 3 hts gX3_readSign_X3_readNumber rfl rfl rfl (by decide +kernel) ⟨Nat.le_of_ble_eq_true rfl, Nat.le_of_ble_eq_true rfl⟩) (pr_V hP hD hK hN hE hS hA [0, 1, 2] (by decide) rfl (ci := 3) (q0 := 0) rfl rfl) rfl rfl hl.1 rfl (lv_room (Nat.le_of_ble_eq_true rfl)) dX3_readSign_56 ⟨Nat.zero_le _, Nat.zero_le _⟩) hP hD hS hA [0, 1, 2] [] [0, 1, 2] rfl rfl (by decide) (by decide) (by decide) (fun _ => rfl) (fun r_56 u_56 H locs hw_56 hP hD hS => ?_)
          have hP : va_P D vwCl (wRdr h0 u_56 ++ wTxt t0 t1 cI t) H := hP
          have hD : va_D A (wRdr h0 u_56 ++ wTxt t0 t1 cI t) := hD
          obtain ⟨hr_56, hu_56⟩ := hw_56
          refine lv_istore (lv' := [(4, .int r_56), (3, .int 1), (2, .int r_26), (0, .ref h0), (1, .ref t0)]) hx hb dX3_readSign_59 hl (by decide) rfl (fun ls hl => ?_)
          refine lv_iload hx hb dX3_readSign_61 (lv_at hl 0 rfl) ?_
          refine lv_bipush (v := (-9)) hx hb dX3_readSign_63 (by decide) ?_
          refine lv_icmp_ne (tgt := 73) hx hb dX3_readSign_65 (by decide) (fun c_65 => ?_) (fun c_65 => ?_)
          · have i_65 := i_ne c_65
            rw [(by decide : (-9 : Int32).toInt = -9)] at i_65
            refine lv_iload_n hx hb dX3_readSign_73 rfl (lv_at hl 2 rfl) ?_
            refine lv_iload hx hb dX3_readSign_74 (lv_at hl 0 rfl) ?_
            refine lv_iadd hx hb dX3_readSign_76 ?_
            refine lv_iload_n hx hb dX3_readSign_77 rfl (lv_at hl 1 rfl) ?_
            refine lv_isub hx hb dX3_readSign_78 ?_
            exact lf_i hx hb hr hlocks hQ u_56 hP hD hS dX3_readSign_79 ⟨(by first | with_reducible rfl | (simp only [rSgn, rSgS, rLo, if_neg c_6, if_neg c_17, if_neg c_33, if_pos c_42, if_neg c_65, ← hr_56, ← hu_56, ← hr_26, ↓reduceIte, bI_t, bI_f, reduceCtorEq]; done) | (subst_vars; simp only [rSgn, rSgS, rLo, if_neg c_6, if_neg c_17, if_neg c_33, if_pos c_42, if_neg c_65, ↓reduceIte, bI_t, bI_f, reduceCtorEq]; done) | (simp [rSgn, rSgS, rLo, c_6, c_17, c_33, c_42, c_65, bI_t, bI_f]; done)), (by first | with_reducible rfl | (simp only [rSgn, rSgS, rLo, if_neg c_6, if_neg c_17, if_neg c_33, if_pos c_42, if_neg c_65, ← hr_56, ← hu_56, ← hr_26, ↓reduceIte, bI_t, bI_f, reduceCtorEq]; done) | (subst_vars; simp only [rSgn, rSgS, rLo, if_neg c_6, if_neg c_17, if_neg c_33, if_pos c_42, if_neg c_65, ↓reduceIte, bI_t, bI_f, reduceCtorEq]; done) | (simp [rSgn, rSgS, rLo, c_6, c_17, c_33, c_42, c_65, bI_t, bI_f]; done))⟩
          · have i_65 := i_eq c_65
            rw [(by decide : (-9 : Int32).toInt = -9)] at i_65
            refine lv_bipush (v := (-9)) hx hb dX3_readSign_68 (by decide) ?_
            refine lv_goto (tgt := 79) hx hb dX3_readSign_70 (by decide) ?_
            exact lf_i hx hb hr hlocks hQ u_56 hP hD hS dX3_readSign_79 ⟨(by first | with_reducible rfl | (simp only [rSgn, rSgS, rLo, if_neg c_6, if_neg c_17, if_neg c_33, if_pos c_42, if_pos c_65, ← hr_56, ← hu_56, ← hr_26, ↓reduceIte, bI_t, bI_f, reduceCtorEq]; done) | (subst_vars; simp only [rSgn, rSgS, rLo, if_neg c_6, if_neg c_17, if_neg c_33, if_pos c_42, if_pos c_65, ↓reduceIte, bI_t, bI_f, reduceCtorEq]; done) | (simp [rSgn, rSgS, rLo, c_6, c_17, c_33, c_42, c_65, bI_t, bI_f]; done)), (by first | with_reducible rfl | (simp only [rSgn, rSgS, rLo, if_neg c_6, if_neg c_17, if_neg c_33, if_pos c_42, if_pos c_65, ← hr_56, ← hu_56, ← hr_26, ↓reduceIte, bI_t, bI_f, reduceCtorEq]; done) | (subst_vars; simp only [rSgn, rSgS, rLo, if_neg c_6, if_neg c_17, if_neg c_33, if_pos c_42, if_pos c_65, ↓reduceIte, bI_t, bI_f, reduceCtorEq]; done) | (simp [rSgn, rSgS, rLo, c_6, c_17, c_33, c_42, c_65, bI_t, bI_f]; done))⟩
      · have i_33 := i_eq c_33
        rw [(by decide : (-9 : Int32).toInt = -9)] at i_33
        refine lv_bipush (v := (-9)) hx hb dX3_readSign_36 (by decide) ?_
        exact lf_i hx hb hr hlocks hQ rr hP hD hS dX3_readSign_38 ⟨(by first | with_reducible rfl | (simp only [rSgn, rSgS, rLo, if_neg c_6, if_neg c_17, if_pos c_33, ← hr_26, ↓reduceIte, bI_t, bI_f, reduceCtorEq]; done) | (subst_vars; simp only [rSgn, rSgS, rLo, if_neg c_6, if_neg c_17, if_pos c_33, ↓reduceIte, bI_t, bI_f, reduceCtorEq]; done) | (simp [rSgn, rSgS, rLo, c_6, c_17, c_33, bI_t, bI_f]; done)), (by first | with_reducible rfl | (simp only [rSgn, rSgS, rLo, if_neg c_6, if_neg c_17, if_pos c_33, ← hr_26, ↓reduceIte, bI_t, bI_f, reduceCtorEq]; done) | (subst_vars; simp only [rSgn, rSgS, rLo, if_neg c_6, if_neg c_17, if_pos c_33, ↓reduceIte, bI_t, bI_f, reduceCtorEq]; done) | (simp [rSgn, rSgS, rLo, c_6, c_17, c_33, bI_t, bI_f]; done))⟩
    · have i_17 := i_eq c_17
      rw [(by decide : (99 : Int32).toInt = 99)] at i_17
      refine lv_iconst (v := 1) hx hb dX3_readSign_20 (by decide) ?_
      exact lf_i hx hb hr hlocks hQ rr hP hD hS dX3_readSign_21 ⟨(by first | with_reducible rfl | (simp only [rSgn, rSgS, rLo, if_neg c_6, if_pos c_17, ↓reduceIte, bI_t, bI_f, reduceCtorEq]; done) | (subst_vars; simp only [rSgn, rSgS, rLo, if_neg c_6, if_pos c_17, ↓reduceIte, bI_t, bI_f, reduceCtorEq]; done) | (simp [rSgn, rSgS, rLo, c_6, c_17, bI_t, bI_f]; done)), (by first | with_reducible rfl | (simp only [rSgn, rSgS, rLo, if_neg c_6, if_pos c_17, ↓reduceIte, bI_t, bI_f, reduceCtorEq]; done) | (subst_vars; simp only [rSgn, rSgS, rLo, if_neg c_6, if_pos c_17, ↓reduceIte, bI_t, bI_f, reduceCtorEq]; done) | (simp [rSgn, rSgS, rLo, c_6, c_17, bI_t, bI_f]; done))⟩
  · have i_6 := i_eq c_6
    rw [(by decide : (46 : Int32).toInt = 46)] at i_6
    refine lv_iconst (v := 0) hx hb dX3_readSign_9 (by decide) ?_
    exact lf_i hx hb hr hlocks hQ rr hP hD hS dX3_readSign_10 ⟨(by first | with_reducible rfl | (simp only [rSgn, rSgS, rLo, if_pos c_6, ↓reduceIte, bI_t, bI_f, reduceCtorEq]; done) | (subst_vars; simp only [rSgn, rSgS, rLo, if_pos c_6, ↓reduceIte, bI_t, bI_f, reduceCtorEq]; done) | (simp [rSgn, rSgS, rLo, c_6, bI_t, bI_f]; done)), (by first | with_reducible rfl | (simp only [rSgn, rSgS, rLo, if_pos c_6, ↓reduceIte, bI_t, bI_f, reduceCtorEq]; done) | (subst_vars; simp only [rSgn, rSgS, rLo, if_pos c_6, ↓reduceIte, bI_t, bI_f, reduceCtorEq]; done) | (simp [rSgn, rSgS, rLo, c_6, bI_t, bI_f]; done))⟩
abbrev rm_X3_readItem : Room := { frames := 4, cells := 0, slots := 0, locals := 90 }
set_option maxHeartbeats 4000000 in
set_option maxRecDepth 100000 in
theorem c_X3_readItem (l : Launch) (D : va_G) (cI cJ cZ : ClassId) (h0 : Nat) (t0 : Nat) (t1 : Nat) (p0 : Nat) (p1 : Nat) (p2 : Nat) (p3 : Nat) (p4 : Nat) (p5 : Nat) (p6 : Nat) (sz : Nat) (rr : Rdr) (t : Txt) (pp : Trp) (hn : t.1.toInt ≤ 100) (hB : RB rr 100000) (ho : TrpOk pp) : Met l yX3_readItem wsX3_readItem rm_X3_readItem (va_Pc [.ref h0, .ref t0, .ref p0] (PU D (tyL cI cJ cZ) (wRdr h0 rr ++ wTxt t0 t1 cI t ++ wTrp p0 p1 p2 p3 p4 p5 p6 cI pp) sz)) (va_Qi (fun (rz : Int32) (uz : Rdr × Trp) => rz = bI ((itm t rr pp).1) ∧ uz.1 = (itm t rr pp).2.1 ∧ uz.2 = (itm t rr pp).2.2) (fun uz => BU D (wRdr h0 uz.1 ++ wTxt t0 t1 cI t ++ wTrp p0 p1 p2 p3 p4 p5 p6 cI uz.2) (va_A (wRdr h0 rr ++ wTxt t0 t1 cI t ++ wTrp p0 p1 p2 p3 p4 p5 p6 cI pp) sz)) (va_A (wRdr h0 rr ++ wTxt t0 t1 cI t ++ wTrp p0 p1 p2 p3 p4 p5 p6 cI pp) sz)) 0 0 (va_A (wRdr h0 rr ++ wTxt t0 t1 cI t ++ wTrp p0 p1 p2 p3 p4 p5 p6 cI pp) sz) := by
  refine en (own := RX3) (Qc := fun A => va_Qi (fun (rz : Int32) (uz : Rdr × Trp) => rz = bI ((itm t rr pp).1) ∧ uz.1 = (itm t rr pp).2.1 ∧ uz.2 = (itm t rr pp).2.2) (fun uz => BU D (wRdr h0 uz.1 ++ wTxt t0 t1 cI t ++ wTrp p0 p1 p2 p3 p4 p5 p6 cI uz.2) A) A) (by decide) rfl (Nat.le_of_ble_eq_true rfl) rfl ?_
  intro p e s m args below meth c A Q H locs ls hx hb hr hml hown hts hlocks hname hA hN hE hK hQ hP hD hS hl
  have hl : lv_has ls 9 [(0, .ref h0), (1, .ref t0), (2, .ref p0)] := hl
  have fl_24 := hts (.fieldLink RX3 24 "DanceStaffs$Reader" "token" "I") (by decide +kernel)
  have hin_3 : ∀ w ∈ u_ws RX3 TX3 3, w ∈ wsX3_readItem := by decide +kernel
  have hin_8 : ∀ w ∈ u_ws RX8 TX8 5, w ∈ wsX3_readItem := by decide +kernel
  have b1 := hB.adv hn (by omega) (by omega)
  have b2 := b1.adv hn (by omega) (by omega)
  have b3 := b2.adv hn (by omega) (by omega)
  have b4 := b3.adv hn (by omega) (by omega)
  refine lv_aload_n hx hb dX3_readItem_0 rfl (lv_at hl 0 rfl) ?_
  refine va_get (D := D) (ci := 3) (v := .int rr.2.2) (C := RX3) (T := TX3) (N := 3) hx hb hts hin_3 hown hK hP 0 rfl rfl 2 (by decide) fl_24 (fun _ h9 => h9) rfl dX3_readItem_1 ?_
  refine lv_bipush (v := 100) hx hb dX3_readItem_4 (by decide) ?_
  refine lv_icmp_eq (tgt := 11) hx hb dX3_readItem_6 (by decide) (fun c_6 => ?_) (fun c_6 => ?_)
  · have i_6 := i_eq c_6
    rw [(by decide : (100 : Int32).toInt = 100)] at i_6
    refine lv_aload_n hx hb dX3_readItem_11 rfl (lv_at hl 0 rfl) ?_
    refine lv_aload_n hx hb dX3_readItem_12 rfl (lv_at hl 1 rfl) ?_
    refine lv_iconst (v := 0) hx hb dX3_readItem_13 (by decide) ?_
    refine lv_bipush (v := 6) hx hb dX3_readItem_14 (by decide) ?_
    refine jn_i (W2 := fun u_16 => wRdr h0 u_16 ++ wTxt t0 t1 cI t ++ wTrp p0 p1 p2 p3 p4 p5 p6 cI pp) (va_runV (As := [.ref t0, .int 0, .int 6]) (rest := []) ⟨hx, hb, hml, hown, hts⟩ (c_X3_readNumber l D cI cJ cZ h0 t0 t1 H.size rr t 0 6 (hn) (hB.mono (by omega))) (cwV 3 hts gX3_readItem_X3_readNumber rfl rfl rfl (by decide +kernel) ⟨Nat.le_of_ble_eq_true rfl, Nat.le_of_ble_eq_true rfl⟩) (pr_V hP hD hK hN hE hS hA [0, 1, 2] (by decide) rfl (ci := 3) (q0 := 0) rfl rfl) rfl rfl hl.1 rfl (lv_room (Nat.le_of_ble_eq_true rfl)) dX3_readItem_16 ⟨Nat.zero_le _, Nat.zero_le _⟩) hP hD hS hA [0, 1, 2] [3, 4, 5, 6, 7, 8, 9] [7, 8, 9, 0, 1, 2, 3, 4, 5, 6] rfl rfl (by decide) (by decide) (by decide) (fun _ => rfl) (fun r_16 u_16 H locs hw_16 hP hD hS => ?_)
    have hP : va_P D vwCl (wRdr h0 u_16 ++ wTxt t0 t1 cI t ++ wTrp p0 p1 p2 p3 p4 p5 p6 cI pp) H := hP
    have hD : va_D A (wRdr h0 u_16 ++ wTxt t0 t1 cI t ++ wTrp p0 p1 p2 p3 p4 p5 p6 cI pp) := hD
    obtain ⟨hr_16, hu_16⟩ := hw_16
    refine lv_istore_n (lv' := [(3, .int r_16), (0, .ref h0), (1, .ref t0), (2, .ref p0)]) hx hb dX3_readItem_19 rfl hl (by decide) rfl (fun ls hl => ?_)
    refine lv_iload_n hx hb dX3_readItem_20 rfl (lv_at hl 0 rfl) ?_
    refine lv_bipush (v := (-9)) hx hb dX3_readItem_21 (by decide) ?_
    refine lv_icmp_ne (tgt := 31) hx hb dX3_readItem_23 (by decide) (fun c_23 => ?_) (fun c_23 => ?_)
    · have i_23 := i_ne c_23
      rw [(by decide : (-9 : Int32).toInt = -9)] at i_23
      refine lv_aload_n hx hb dX3_readItem_31 rfl (lv_at hl 1 rfl) ?_
      refine lv_aload_n hx hb dX3_readItem_32 rfl (lv_at hl 2 rfl) ?_
      refine lv_iconst (v := 0) hx hb dX3_readItem_33 (by decide) ?_
      refine lv_bipush (v := 6) hx hb dX3_readItem_34 (by decide) ?_
      refine jn_i (W2 := fun u_36 => wRdr h0 u_36 ++ wTxt t0 t1 cI t ++ wTrp p0 p1 p2 p3 p4 p5 p6 cI pp) (va_runV (As := [.ref t0, .int 0, .int 6]) (rest := []) ⟨hx, hb, hml, hown, hts⟩ (c_X3_readNumber l D cI cJ cZ h0 t0 t1 H.size u_16 t 0 6 (hn) (by rw [hu_16]; exact b1.mono (by omega))) (cwV 3 hts gX3_readItem_X3_readNumber rfl rfl rfl (by decide +kernel) ⟨Nat.le_of_ble_eq_true rfl, Nat.le_of_ble_eq_true rfl⟩) (pr_V hP hD hK hN hE hS hA [0, 1, 2] (by decide) rfl (ci := 3) (q0 := 0) rfl rfl) rfl rfl hl.1 rfl (lv_room (Nat.le_of_ble_eq_true rfl)) dX3_readItem_36 ⟨Nat.zero_le _, Nat.zero_le _⟩) hP hD hS hA [0, 1, 2] [3, 4, 5, 6, 7, 8, 9] [7, 8, 9, 0, 1, 2, 3, 4, 5, 6] rfl rfl (by decide) (by decide) (by decide) (fun _ => rfl) (fun r_36 u_36 H locs hw_36 hP hD hS => ?_)
      have hP : va_P D vwCl (wRdr h0 u_36 ++ wTxt t0 t1 cI t ++ wTrp p0 p1 p2 p3 p4 p5 p6 cI pp) H := hP
      have hD : va_D A (wRdr h0 u_36 ++ wTxt t0 t1 cI t ++ wTrp p0 p1 p2 p3 p4 p5 p6 cI pp) := hD
      obtain ⟨hr_36, hu_36⟩ := hw_36
      refine lv_istore (lv' := [(4, .int r_36), (3, .int r_16), (0, .ref h0), (1, .ref t0), (2, .ref p0)]) hx hb dX3_readItem_39 hl (by decide) rfl (fun ls hl => ?_)
      refine lv_iload hx hb dX3_readItem_41 (lv_at hl 0 rfl) ?_
      refine lv_bipush (v := (-9)) hx hb dX3_readItem_43 (by decide) ?_
      refine lv_icmp_ne (tgt := 53) hx hb dX3_readItem_45 (by decide) (fun c_45 => ?_) (fun c_45 => ?_)
      · have i_45 := i_ne c_45
        rw [(by decide : (-9 : Int32).toInt = -9)] at i_45
        refine lv_aload_n hx hb dX3_readItem_53 rfl (lv_at hl 2 rfl) ?_
        refine lv_aload_n hx hb dX3_readItem_54 rfl (lv_at hl 3 rfl) ?_
        refine lv_iconst (v := 0) hx hb dX3_readItem_55 (by decide) ?_
        refine lv_bipush (v := 7) hx hb dX3_readItem_56 (by decide) ?_
        refine jn_i (W2 := fun u_58 => wRdr h0 u_58 ++ wTxt t0 t1 cI t ++ wTrp p0 p1 p2 p3 p4 p5 p6 cI pp) (va_runV (As := [.ref t0, .int 0, .int 7]) (rest := []) ⟨hx, hb, hml, hown, hts⟩ (c_X3_readNumber l D cI cJ cZ h0 t0 t1 H.size u_36 t 0 7 (hn) (by rw [hu_36, hu_16]; exact b2.mono (by omega))) (cwV 3 hts gX3_readItem_X3_readNumber rfl rfl rfl (by decide +kernel) ⟨Nat.le_of_ble_eq_true rfl, Nat.le_of_ble_eq_true rfl⟩) (pr_V hP hD hK hN hE hS hA [0, 1, 2] (by decide) rfl (ci := 3) (q0 := 0) rfl rfl) rfl rfl hl.1 rfl (lv_room (Nat.le_of_ble_eq_true rfl)) dX3_readItem_58 ⟨Nat.zero_le _, Nat.zero_le _⟩) hP hD hS hA [0, 1, 2] [3, 4, 5, 6, 7, 8, 9] [7, 8, 9, 0, 1, 2, 3, 4, 5, 6] rfl rfl (by decide) (by decide) (by decide) (fun _ => rfl) (fun r_58 u_58 H locs hw_58 hP hD hS => ?_)
        have hP : va_P D vwCl (wRdr h0 u_58 ++ wTxt t0 t1 cI t ++ wTrp p0 p1 p2 p3 p4 p5 p6 cI pp) H := hP
        have hD : va_D A (wRdr h0 u_58 ++ wTxt t0 t1 cI t ++ wTrp p0 p1 p2 p3 p4 p5 p6 cI pp) := hD
        obtain ⟨hr_58, hu_58⟩ := hw_58
        refine lv_istore (lv' := [(5, .int r_58), (4, .int r_36), (3, .int r_16), (0, .ref h0), (1, .ref t0), (2, .ref p0)]) hx hb dX3_readItem_61 hl (by decide) rfl (fun ls hl => ?_)
        refine lv_iload hx hb dX3_readItem_63 (lv_at hl 0 rfl) ?_
        refine lv_bipush (v := (-9)) hx hb dX3_readItem_65 (by decide) ?_
        refine lv_icmp_ne (tgt := 72) hx hb dX3_readItem_67 (by decide) (fun c_67 => ?_) (fun c_67 => ?_)
        · have i_67 := i_ne c_67
          rw [(by decide : (-9 : Int32).toInt = -9)] at i_67
          refine lv_aload_n hx hb dX3_readItem_72 rfl (lv_at hl 5 rfl) ?_
          refine va_getN (D := D) (ci := 8) (v := .int pp.2.2.2.1) (C := RX8) (T := TX8) (N := 5) hx hb hts hin_8 hown hK hP 3 rfl rfl 4 (by decide) (nw_fuse hN 18 rfl) (fun _ h9 => h9) rfl dX3_readItem_73 ?_
          refine lv_istore (lv' := [(6, .int pp.2.2.2.1), (5, .int r_58), (4, .int r_36), (3, .int r_16), (0, .ref h0), (1, .ref t0), (2, .ref p0)]) hx hb dX3_readItem_76 hl (by decide) rfl (fun ls hl => ?_)
          refine lv_aload_n hx hb dX3_readItem_78 rfl (lv_at hl 6 rfl) ?_
          refine lv_iload_n hx hb dX3_readItem_79 rfl (lv_at hl 3 rfl) ?_
          refine lv_iload hx hb dX3_readItem_80 (lv_at hl 2 rfl) ?_
          refine lv_iload hx hb dX3_readItem_82 (lv_at hl 1 rfl) ?_
          refine jn_v (W2 := fun u_84 => wRdr h0 u_58 ++ wTxt t0 t1 cI t ++ wTrp p0 p1 p2 p3 p4 p5 p6 cI u_84) (va_runV (As := [.int r_16, .int r_36, .int r_58]) (rest := []) ⟨hx, hb, hml, hown, hts⟩ (c_X8_add l D cI cJ cZ p0 p1 p2 p3 p4 p5 p6 H.size pp r_16 r_36 r_58 (ho.1)) (cwV 3 hts gX3_readItem_X8_add rfl rfl rfl (by decide +kernel) ⟨Nat.le_of_ble_eq_true rfl, Nat.le_of_ble_eq_true rfl⟩) (pr_V hP hD hK hN hE hS hA [3, 4, 5, 6, 7, 8, 9] (by decide) rfl (ci := 8) (q0 := 3) rfl rfl) rfl rfl hl.1 rfl (lv_room (Nat.le_of_ble_eq_true rfl)) dX3_readItem_84 ⟨Nat.zero_le _, Nat.zero_le _⟩) hP hD hS hA [3, 4, 5, 6, 7, 8, 9] [0, 1, 2] [0, 1, 2, 3, 4, 5, 6, 7, 8, 9] rfl rfl (by decide) (by decide) (by decide) (fun _ => rfl) (fun u_84 H locs hw_84 hP hD hS => ?_)
          have hP : va_P D vwCl (wRdr h0 u_58 ++ wTxt t0 t1 cI t ++ wTrp p0 p1 p2 p3 p4 p5 p6 cI u_84) H := hP
          have hD : va_D A (wRdr h0 u_58 ++ wTxt t0 t1 cI t ++ wTrp p0 p1 p2 p3 p4 p5 p6 cI u_84) := hD
          have hu_84 := hw_84
          refine lv_aload_n hx hb dX3_readItem_87 rfl (lv_at hl 4 rfl) ?_
          refine lv_aload_n hx hb dX3_readItem_88 rfl (lv_at hl 5 rfl) ?_
          refine jn_v (W2 := fun u_89 => wRdr h0 u_89 ++ wTxt t0 t1 cI t ++ wTrp p0 p1 p2 p3 p4 p5 p6 cI u_84) (va_runV (As := [.ref t0]) (rest := []) ⟨hx, hb, hml, hown, hts⟩ (c_X3_advance l D cI cJ cZ h0 t0 t1 H.size u_58 t (hn) (by rw [hu_58, hu_36, hu_16]; exact b3.mono (by omega))) (cwV 1 hts gX3_readItem_X3_advance rfl rfl rfl (by decide +kernel) ⟨Nat.le_of_ble_eq_true rfl, Nat.le_of_ble_eq_true rfl⟩) (pr_V hP hD hK hN hE hS hA [0, 1, 2] (by decide) rfl (ci := 3) (q0 := 0) rfl rfl) rfl rfl hl.1 rfl (lv_room (Nat.le_of_ble_eq_true rfl)) dX3_readItem_89 ⟨Nat.zero_le _, Nat.zero_le _⟩) hP hD hS hA [0, 1, 2] [3, 4, 5, 6, 7, 8, 9] [7, 8, 9, 0, 1, 2, 3, 4, 5, 6] rfl rfl (by decide) (by decide) (by decide) (fun _ => rfl) (fun u_89 H locs hw_89 hP hD hS => ?_)
          have hP : va_P D vwCl (wRdr h0 u_89 ++ wTxt t0 t1 cI t ++ wTrp p0 p1 p2 p3 p4 p5 p6 cI u_84) H := hP
          have hD : va_D A (wRdr h0 u_89 ++ wTxt t0 t1 cI t ++ wTrp p0 p1 p2 p3 p4 p5 p6 cI u_84) := hD
          have hu_89 := hw_89
          refine lv_iconst (v := 0) hx hb dX3_readItem_92 (by decide) ?_
          refine lv_istore (lv' := [(7, .int 0), (6, .int pp.2.2.2.1), (5, .int r_58), (4, .int r_36), (3, .int r_16), (0, .ref h0), (1, .ref t0), (2, .ref p0)]) hx hb dX3_readItem_93 hl (by decide) rfl (fun ls hl => ?_)
          have LB_95 : ∀ (n : Nat) (i : Nat) (u : Rdr) (q : Trp) (hn_i : 10 < i + n) (hi_i : i ≤ 10) (hbu : RB u (100004 + 2 * i)) (hqk : TrpOk q) (hG : itL t pp.2.2.2.1 (10 - i) u q = itm t rr pp) (H : Heap) (locs : List Loc) (_ : va_P D vwCl (wRdr h0 u ++ wTxt t0 t1 cI t ++ wTrp p0 p1 p2 p3 p4 p5 p6 cI q) H) (_ : va_D A (wRdr h0 u ++ wTxt t0 t1 cI t ++ wTrp p0 p1 p2 p3 p4 p5 p6 cI q)) (_ : va_S A s.heap H locs) (ls : Array Slot) (_ : lv_has ls 9 [(0, .ref h0), (1, .ref t0), (2, .ref p0), (6, .int pp.2.2.2.1), (7, .int (nI i))]), W p l e rm_X3_readItem s m args below meth c H locs 0 0 Q (F0 m 95 ls []) := by
            intro n
            induction n with
            | zero =>
              intro i u q hn_i hi_i hbu hqk hG
              exact absurd hn_i (by omega)
            | succ n LB_95 =>
              intro i u q hn_i hi_i hbu hqk hG H locs hP hD hS ls hl
              refine lv_iload hx hb dX3_readItem_95 (lv_at hl 4 rfl) ?_
              refine lv_bipush (v := 10) hx hb dX3_readItem_97 (by decide) ?_
              refine lv_icmp_ge (tgt := 149) hx hb dX3_readItem_99 (by decide) (fun c_99 => ?_) (fun c_99 => ?_)
              · have i_99 := i_le c_99
                rw [(by decide : (10 : Int32).toInt = 10)] at i_99
                rw [nIT (by omega)] at i_99
                rw [show 10 - i = 0 by omega, itL] at hG
                refine lv_aload_n hx hb dX3_readItem_149 rfl (lv_at hl 0 rfl) ?_
                refine va_get (D := D) (ci := 3) (v := .int u.2.2) (C := RX3) (T := TX3) (N := 3) hx hb hts hin_3 hown hK hP 0 rfl rfl 2 (by decide) fl_24 (fun _ h9 => h9) rfl dX3_readItem_150 ?_
                refine lv_bipush (v := 59) hx hb dX3_readItem_153 (by decide) ?_
                refine lv_icmp_ne (tgt := 162) hx hb dX3_readItem_155 (by decide) (fun c_155 => ?_) (fun c_155 => ?_)
                · have i_155 := i_ne c_155
                  rw [(by decide : (59 : Int32).toInt = 59)] at i_155
                  refine lv_iconst (v := 0) hx hb dX3_readItem_162 (by decide) ?_
                  exact lf_z hx hb hr hlocks hQ (u, q) hP hD hS dX3_readItem_163 (by first | rfl | (rw [bI_f]; exact bI_n _) | exact bI_n _) ⟨(by first | (rw [← hG]; done) | (rw [← hG]; with_reducible rfl) | (rw [← hG]; simp only []; done) | (rw [← hG]; simp only [if_pos c_6, if_neg c_23, if_neg c_45, if_neg c_67, if_pos c_99, if_neg c_155, ↓reduceIte, bI_t, bI_f]; done) | (rw [← hG]; simp only [rdF, if_pos c_6, if_neg c_23, if_neg c_45, if_neg c_67, if_pos c_99, if_neg c_155, ↓reduceIte]; done) | (rw [← hG]; rfl)), (by first | (rw [← hG]; done) | (rw [← hG]; with_reducible rfl) | (rw [← hG]; simp only []; done) | (rw [← hG]; simp only [if_pos c_6, if_neg c_23, if_neg c_45, if_neg c_67, if_pos c_99, if_neg c_155, ↓reduceIte, bI_t, bI_f]; done) | (rw [← hG]; simp only [rdF, if_pos c_6, if_neg c_23, if_neg c_45, if_neg c_67, if_pos c_99, if_neg c_155, ↓reduceIte]; done) | (rw [← hG]; rfl)), (by first | (rw [← hG]; done) | (rw [← hG]; with_reducible rfl) | (rw [← hG]; simp only []; done) | (rw [← hG]; simp only [if_pos c_6, if_neg c_23, if_neg c_45, if_neg c_67, if_pos c_99, if_neg c_155, ↓reduceIte, bI_t, bI_f]; done) | (rw [← hG]; simp only [rdF, if_pos c_6, if_neg c_23, if_neg c_45, if_neg c_67, if_pos c_99, if_neg c_155, ↓reduceIte]; done) | (rw [← hG]; rfl))⟩
                · have i_155 := i_eq c_155
                  rw [(by decide : (59 : Int32).toInt = 59)] at i_155
                  refine lv_iconst (v := 1) hx hb dX3_readItem_158 (by decide) ?_
                  refine lv_goto (tgt := 163) hx hb dX3_readItem_159 (by decide) ?_
                  exact lf_z hx hb hr hlocks hQ (u, q) hP hD hS dX3_readItem_163 (by first | rfl | (rw [bI_f]; exact bI_n _) | exact bI_n _) ⟨(by first | (rw [← hG]; done) | (rw [← hG]; with_reducible rfl) | (rw [← hG]; simp only []; done) | (rw [← hG]; simp only [if_pos c_6, if_neg c_23, if_neg c_45, if_neg c_67, if_pos c_99, if_pos c_155, ↓reduceIte, bI_t, bI_f]; done) | (rw [← hG]; simp only [rdF, if_pos c_6, if_neg c_23, if_neg c_45, if_neg c_67, if_pos c_99, if_pos c_155, ↓reduceIte]; done) | (rw [← hG]; rfl)), (by first | (rw [← hG]; done) | (rw [← hG]; with_reducible rfl) | (rw [← hG]; simp only []; done) | (rw [← hG]; simp only [if_pos c_6, if_neg c_23, if_neg c_45, if_neg c_67, if_pos c_99, if_pos c_155, ↓reduceIte, bI_t, bI_f]; done) | (rw [← hG]; simp only [rdF, if_pos c_6, if_neg c_23, if_neg c_45, if_neg c_67, if_pos c_99, if_pos c_155, ↓reduceIte]; done) | (rw [← hG]; rfl)), (by first | (rw [← hG]; done) | (rw [← hG]; with_reducible rfl) | (rw [← hG]; simp only []; done) | (rw [← hG]; simp only [if_pos c_6, if_neg c_23, if_neg c_45, if_neg c_67, if_pos c_99, if_pos c_155, ↓reduceIte, bI_t, bI_f]; done) | (rw [← hG]; simp only [rdF, if_pos c_6, if_neg c_23, if_neg c_45, if_neg c_67, if_pos c_99, if_pos c_155, ↓reduceIte]; done) | (rw [← hG]; rfl))⟩
              · have i_99 := i_nle c_99
                rw [(by decide : (10 : Int32).toInt = 10)] at i_99
                rw [nIT (by omega)] at i_99
                rw [show 10 - i = (10 - (i + 1)) + 1 by omega, itL] at hG
                refine lv_aload_n hx hb dX3_readItem_102 rfl (lv_at hl 0 rfl) ?_
                refine va_get (D := D) (ci := 3) (v := .int u.2.2) (C := RX3) (T := TX3) (N := 3) hx hb hts hin_3 hown hK hP 0 rfl rfl 2 (by decide) fl_24 (fun _ h9 => h9) rfl dX3_readItem_103 ?_
                refine lv_bipush (v := 59) hx hb dX3_readItem_106 (by decide) ?_
                refine lv_icmp_eq (tgt := 149) hx hb dX3_readItem_108 (by decide) (fun c_108 => ?_) (fun c_108 => ?_)
                · have i_108 := i_eq c_108
                  rw [(by decide : (59 : Int32).toInt = 59)] at i_108
                  rw [if_pos c_108] at hG
                  refine lv_aload_n hx hb dX3_readItem_149 rfl (lv_at hl 0 rfl) ?_
                  refine va_get (D := D) (ci := 3) (v := .int u.2.2) (C := RX3) (T := TX3) (N := 3) hx hb hts hin_3 hown hK hP 0 rfl rfl 2 (by decide) fl_24 (fun _ h9 => h9) rfl dX3_readItem_150 ?_
                  refine lv_bipush (v := 59) hx hb dX3_readItem_153 (by decide) ?_
                  refine lv_icmp_ne (tgt := 162) hx hb dX3_readItem_155 (by decide) (fun c_155 => ?_) (fun c_155 => ?_)
                  · have i_155 := i_ne c_155
                    rw [(by decide : (59 : Int32).toInt = 59)] at i_155
                    exact absurd c_108 c_155
                  · have i_155 := i_eq c_155
                    rw [(by decide : (59 : Int32).toInt = 59)] at i_155
                    refine lv_iconst (v := 1) hx hb dX3_readItem_158 (by decide) ?_
                    refine lv_goto (tgt := 163) hx hb dX3_readItem_159 (by decide) ?_
                    exact lf_z hx hb hr hlocks hQ (u, q) hP hD hS dX3_readItem_163 (by first | rfl | (rw [bI_f]; exact bI_n _) | exact bI_n _) ⟨(by first | (rw [← hG]; done) | (rw [← hG]; with_reducible rfl) | (rw [← hG]; simp only []; done) | (rw [← hG]; simp only [if_pos c_6, if_neg c_23, if_neg c_45, if_neg c_67, if_neg c_99, if_pos c_108, if_pos c_155, ↓reduceIte, bI_t, bI_f]; done) | (rw [← hG]; simp only [rdF, if_pos c_6, if_neg c_23, if_neg c_45, if_neg c_67, if_neg c_99, if_pos c_108, if_pos c_155, ↓reduceIte]; done) | (rw [← hG]; rfl)), (by first | (rw [← hG]; done) | (rw [← hG]; with_reducible rfl) | (rw [← hG]; simp only []; done) | (rw [← hG]; simp only [if_pos c_6, if_neg c_23, if_neg c_45, if_neg c_67, if_neg c_99, if_pos c_108, if_pos c_155, ↓reduceIte, bI_t, bI_f]; done) | (rw [← hG]; simp only [rdF, if_pos c_6, if_neg c_23, if_neg c_45, if_neg c_67, if_neg c_99, if_pos c_108, if_pos c_155, ↓reduceIte]; done) | (rw [← hG]; rfl)), (by first | (rw [← hG]; done) | (rw [← hG]; with_reducible rfl) | (rw [← hG]; simp only []; done) | (rw [← hG]; simp only [if_pos c_6, if_neg c_23, if_neg c_45, if_neg c_67, if_neg c_99, if_pos c_108, if_pos c_155, ↓reduceIte, bI_t, bI_f]; done) | (rw [← hG]; simp only [rdF, if_pos c_6, if_neg c_23, if_neg c_45, if_neg c_67, if_neg c_99, if_pos c_108, if_pos c_155, ↓reduceIte]; done) | (rw [← hG]; rfl))⟩
                · have i_108 := i_ne c_108
                  rw [(by decide : (59 : Int32).toInt = 59)] at i_108
                  rw [if_neg c_108] at hG
                  refine lv_aload_n hx hb dX3_readItem_111 rfl (lv_at hl 0 rfl) ?_
                  refine lv_aload_n hx hb dX3_readItem_112 rfl (lv_at hl 1 rfl) ?_
                  refine jn_i (W2 := fun u_113 => wRdr h0 u_113 ++ wTxt t0 t1 cI t ++ wTrp p0 p1 p2 p3 p4 p5 p6 cI q) (va_runV (As := [.ref t0]) (rest := []) ⟨hx, hb, hml, hown, hts⟩ (c_X3_readSign l D cI cJ cZ h0 t0 t1 H.size u t (hn) (hbu.mono (by omega))) (cwV 1 hts gX3_readItem_X3_readSign rfl rfl rfl (by decide +kernel) ⟨Nat.le_of_ble_eq_true rfl, Nat.le_of_ble_eq_true rfl⟩) (pr_V hP hD hK hN hE hS hA [0, 1, 2] (by decide) rfl (ci := 3) (q0 := 0) rfl rfl) rfl rfl hl.1 rfl (lv_room (Nat.le_of_ble_eq_true rfl)) dX3_readItem_113 ⟨Nat.zero_le _, Nat.zero_le _⟩) hP hD hS hA [0, 1, 2] [3, 4, 5, 6, 7, 8, 9] [7, 8, 9, 0, 1, 2, 3, 4, 5, 6] rfl rfl (by decide) (by decide) (by decide) (fun _ => rfl) (fun r_113 u_113 H locs hw_113 hP hD hS => ?_)
                  have hP : va_P D vwCl (wRdr h0 u_113 ++ wTxt t0 t1 cI t ++ wTrp p0 p1 p2 p3 p4 p5 p6 cI q) H := hP
                  have hD : va_D A (wRdr h0 u_113 ++ wTxt t0 t1 cI t ++ wTrp p0 p1 p2 p3 p4 p5 p6 cI q) := hD
                  obtain ⟨hr_113, hu_113⟩ := hw_113
                  refine lv_istore (lv' := [(8, .int r_113), (0, .ref h0), (1, .ref t0), (2, .ref p0), (6, .int pp.2.2.2.1), (7, .int (nI i))]) hx hb dX3_readItem_116 hl (by decide) rfl (fun ls hl => ?_)
                  refine lv_iload hx hb dX3_readItem_118 (lv_at hl 0 rfl) ?_
                  refine lv_bipush (v := (-9)) hx hb dX3_readItem_120 (by decide) ?_
                  refine lv_icmp_ne (tgt := 127) hx hb dX3_readItem_122 (by decide) (fun c_122 => ?_) (fun c_122 => ?_)
                  · have i_122 := i_ne c_122
                    rw [(by decide : (-9 : Int32).toInt = -9)] at i_122
                    rw [← hr_113, if_neg c_122] at hG
                    refine lv_aload_n hx hb dX3_readItem_127 rfl (lv_at hl 3 rfl) ?_
                    refine va_getN (D := D) (ci := 8) (v := .ref p4) (C := RX8) (T := TX8) (N := 5) hx hb hts hin_8 hown hK hP 3 rfl rfl 3 (by decide) (nw_fuse hN 17 rfl) (fun _ h9 => h9) rfl dX3_readItem_128 ?_
                    refine lv_iload hx hb dX3_readItem_131 (lv_at hl 4 rfl) ?_
                    refine lv_iload hx hb dX3_readItem_133 (lv_at hl 0 rfl) ?_
                    refine jn_v (W2 := fun u_135 => wRdr h0 u_113 ++ wTxt t0 t1 cI t ++ wTrp p0 p1 p2 p3 p4 p5 p6 cI (q.1, q.2.1, q.2.2.1, q.2.2.2.1, u_135)) (va_runV (As := [.int pp.2.2.2.1, .int r_113]) (rest := []) ⟨hx, hb, hml, hown, hts⟩ (c_X5_append l D cI cJ cZ p4 p5 p6 H.size q.2.2.2.2 pp.2.2.2.1 r_113 (hqk.2.2)) (cwV 2 hts gX3_readItem_X5_append rfl rfl rfl (by decide +kernel) ⟨Nat.le_of_ble_eq_true rfl, Nat.le_of_ble_eq_true rfl⟩) (pr_V hP hD hK hN hE hS hA [7, 8, 9] (by decide) rfl (ci := 5) (q0 := 7) rfl rfl) rfl rfl hl.1 rfl (lv_room (Nat.le_of_ble_eq_true rfl)) dX3_readItem_135 ⟨Nat.zero_le _, Nat.zero_le _⟩) hP hD hS hA [7, 8, 9] [0, 1, 2, 3, 4, 5, 6] [0, 1, 2, 3, 4, 5, 6, 7, 8, 9] rfl rfl (by decide) (by decide) (by decide) (fun _ => rfl) (fun u_135 H locs hw_135 hP hD hS => ?_)
                    have hP : va_P D vwCl (wRdr h0 u_113 ++ wTxt t0 t1 cI t ++ wTrp p0 p1 p2 p3 p4 p5 p6 cI (q.1, q.2.1, q.2.2.1, q.2.2.2.1, u_135)) H := hP
                    have hD : va_D A (wRdr h0 u_113 ++ wTxt t0 t1 cI t ++ wTrp p0 p1 p2 p3 p4 p5 p6 cI (q.1, q.2.1, q.2.2.1, q.2.2.2.1, u_135)) := hD
                    have hu_135 := hw_135
                    refine lv_aload_n hx hb dX3_readItem_138 rfl (lv_at hl 1 rfl) ?_
                    refine lv_aload_n hx hb dX3_readItem_139 rfl (lv_at hl 2 rfl) ?_
                    refine jn_v (W2 := fun u_140 => wRdr h0 u_140 ++ wTxt t0 t1 cI t ++ wTrp p0 p1 p2 p3 p4 p5 p6 cI (q.1, q.2.1, q.2.2.1, q.2.2.2.1, u_135)) (va_runV (As := [.ref t0]) (rest := []) ⟨hx, hb, hml, hown, hts⟩ (c_X3_advance l D cI cJ cZ h0 t0 t1 H.size u_113 t (hn) (by rw [hu_113]; exact (hbu.sgn hn (by omega) (by omega)).mono (by omega))) (cwV 1 hts gX3_readItem_X3_advance rfl rfl rfl (by decide +kernel) ⟨Nat.le_of_ble_eq_true rfl, Nat.le_of_ble_eq_true rfl⟩) (pr_V hP hD hK hN hE hS hA [0, 1, 2] (by decide) rfl (ci := 3) (q0 := 0) rfl rfl) rfl rfl hl.1 rfl (lv_room (Nat.le_of_ble_eq_true rfl)) dX3_readItem_140 ⟨Nat.zero_le _, Nat.zero_le _⟩) hP hD hS hA [0, 1, 2] [3, 4, 5, 6, 7, 8, 9] [7, 8, 9, 0, 1, 2, 3, 4, 5, 6] rfl rfl (by decide) (by decide) (by decide) (fun _ => rfl) (fun u_140 H locs hw_140 hP hD hS => ?_)
                    have hP : va_P D vwCl (wRdr h0 u_140 ++ wTxt t0 t1 cI t ++ wTrp p0 p1 p2 p3 p4 p5 p6 cI (q.1, q.2.1, q.2.2.1, q.2.2.2.1, u_135)) H := hP
                    have hD : va_D A (wRdr h0 u_140 ++ wTxt t0 t1 cI t ++ wTrp p0 p1 p2 p3 p4 p5 p6 cI (q.1, q.2.1, q.2.2.1, q.2.2.2.1, u_135)) := hD
                    have hu_140 := hw_140
                    refine lv_iinc (v := ((nI i) + 1)) (lv' := [(7, .int ((nI i) + 1)), (8, .int r_113), (0, .ref h0), (1, .ref t0), (2, .ref p0), (6, .int pp.2.2.2.1)]) hx hb dX3_readItem_143 hl (k := 5) rfl rfl (by decide) rfl (fun ls hl => ?_)
                    rw [show nI i + 1 = nI (i + 1) from nI_1 _] at hl
                    have hl : lv_has ls 9 [(7, .int (nI (i + 1))), (8, .int r_113), (0, .ref h0), (1, .ref t0), (2, .ref p0), (6, .int pp.2.2.2.1)] := hl
                    refine lv_goto (tgt := 95) hx hb dX3_readItem_146 (by decide) ?_
                    exact LB_95 (i + 1) u_140 (q.1, q.2.1, q.2.2.1, q.2.2.2.1, u_135) (by omega) (by omega) (by rw [hu_140, hu_113]; exact ((hbu.sgn hn (by omega) (by omega)).adv hn (by omega) (by omega)).mono (by omega)) (by rw [hu_135]; exact ⟨hqk.1, hqk.2.1, sAdd_ok hqk.2.2 _ _⟩) (by rw [← hG, hu_140, hu_113, hu_135, hr_113]; rfl) H locs hP hD hS ls (lv_sub hl [2, 3, 4, 5, 0] rfl)
                  · have i_122 := i_eq c_122
                    rw [(by decide : (-9 : Int32).toInt = -9)] at i_122
                    rw [← hr_113, if_pos c_122] at hG
                    refine lv_iconst (v := 0) hx hb dX3_readItem_125 (by decide) ?_
                    exact lf_z hx hb hr hlocks hQ (u_113, q) hP hD hS dX3_readItem_126 (by first | rfl | (rw [bI_f]; exact bI_n _) | exact bI_n _) ⟨(by first | (rw [← hG]; done) | (rw [← hG]; with_reducible rfl) | (rw [← hG]; simp only [← hr_113, ← hu_113]; done) | (rw [← hG]; simp only [← hr_113, ← hu_113, if_pos c_6, if_neg c_23, if_neg c_45, if_neg c_67, if_neg c_99, if_neg c_108, if_pos c_122, ↓reduceIte, bI_t, bI_f]; done) | (rw [← hG]; simp only [rdF, ← hr_113, ← hu_113, if_pos c_6, if_neg c_23, if_neg c_45, if_neg c_67, if_neg c_99, if_neg c_108, if_pos c_122, ↓reduceIte]; done) | (rw [← hG]; rfl)), (by first | (rw [← hG]; done) | (rw [← hG]; with_reducible rfl) | (rw [← hG]; simp only [← hr_113, ← hu_113]; done) | (rw [← hG]; simp only [← hr_113, ← hu_113, if_pos c_6, if_neg c_23, if_neg c_45, if_neg c_67, if_neg c_99, if_neg c_108, if_pos c_122, ↓reduceIte, bI_t, bI_f]; done) | (rw [← hG]; simp only [rdF, ← hr_113, ← hu_113, if_pos c_6, if_neg c_23, if_neg c_45, if_neg c_67, if_neg c_99, if_neg c_108, if_pos c_122, ↓reduceIte]; done) | (rw [← hG]; rfl)), (by first | (rw [← hG]; done) | (rw [← hG]; with_reducible rfl) | (rw [← hG]; simp only [← hr_113, ← hu_113]; done) | (rw [← hG]; simp only [← hr_113, ← hu_113, if_pos c_6, if_neg c_23, if_neg c_45, if_neg c_67, if_neg c_99, if_neg c_108, if_pos c_122, ↓reduceIte, bI_t, bI_f]; done) | (rw [← hG]; simp only [rdF, ← hr_113, ← hu_113, if_pos c_6, if_neg c_23, if_neg c_45, if_neg c_67, if_neg c_99, if_neg c_108, if_pos c_122, ↓reduceIte]; done) | (rw [← hG]; rfl))⟩
          exact LB_95 (10 + 1) 0 u_89 u_84 (by omega) (by omega) (by rw [hu_89, hu_58, hu_36, hu_16]; exact b4) (by rw [hu_84]; exact tpAdd_ok ho _ _ _) (by simp only [itm, ← hu_89, ← hu_84, ← hr_58, ← hu_58, ← hr_36, ← hu_36, ← hr_16, ← hu_16, if_pos c_6, if_neg c_23, if_neg c_45, if_neg c_67, ↓reduceIte]) H locs hP hD hS ls (lv_sub hl [5, 6, 7, 1, 0] rfl)
        · have i_67 := i_eq c_67
          rw [(by decide : (-9 : Int32).toInt = -9)] at i_67
          refine lv_iconst (v := 0) hx hb dX3_readItem_70 (by decide) ?_
          exact lf_z hx hb hr hlocks hQ (u_58, pp) hP hD hS dX3_readItem_71 (by first | rfl | (rw [bI_f]; exact bI_n _) | exact bI_n _) ⟨(by first | with_reducible rfl | (simp only [itm, if_pos c_6, if_neg c_23, if_neg c_45, if_pos c_67, ← hr_58, ← hu_58, ← hr_36, ← hu_36, ← hr_16, ← hu_16, ↓reduceIte, bI_t, bI_f, reduceCtorEq]; done) | (subst_vars; simp only [itm, if_pos c_6, if_neg c_23, if_neg c_45, if_pos c_67, ↓reduceIte, bI_t, bI_f, reduceCtorEq]; done) | (simp [itm, c_6, c_23, c_45, c_67, bI_t, bI_f]; done)), (by first | with_reducible rfl | (simp only [itm, if_pos c_6, if_neg c_23, if_neg c_45, if_pos c_67, ← hr_58, ← hu_58, ← hr_36, ← hu_36, ← hr_16, ← hu_16, ↓reduceIte, bI_t, bI_f, reduceCtorEq]; done) | (subst_vars; simp only [itm, if_pos c_6, if_neg c_23, if_neg c_45, if_pos c_67, ↓reduceIte, bI_t, bI_f, reduceCtorEq]; done) | (simp [itm, c_6, c_23, c_45, c_67, bI_t, bI_f]; done)), (by first | with_reducible rfl | (simp only [itm, if_pos c_6, if_neg c_23, if_neg c_45, if_pos c_67, ← hr_58, ← hu_58, ← hr_36, ← hu_36, ← hr_16, ← hu_16, ↓reduceIte, bI_t, bI_f, reduceCtorEq]; done) | (subst_vars; simp only [itm, if_pos c_6, if_neg c_23, if_neg c_45, if_pos c_67, ↓reduceIte, bI_t, bI_f, reduceCtorEq]; done) | (simp [itm, c_6, c_23, c_45, c_67, bI_t, bI_f]; done))⟩
      · have i_45 := i_eq c_45
        rw [(by decide : (-9 : Int32).toInt = -9)] at i_45
        refine lv_bipush (v := (-9)) hx hb dX3_readItem_48 (by decide) ?_
        refine lv_goto (tgt := 61) hx hb dX3_readItem_50 (by decide) ?_
        refine lv_istore (lv' := [(5, .int (-9)), (4, .int r_36), (3, .int r_16), (0, .ref h0), (1, .ref t0), (2, .ref p0)]) hx hb dX3_readItem_61 hl (by decide) rfl (fun ls hl => ?_)
        refine lv_iload hx hb dX3_readItem_63 (lv_at hl 0 rfl) ?_
        refine lv_bipush (v := (-9)) hx hb dX3_readItem_65 (by decide) ?_
        refine lv_icmp_ne (tgt := 72) hx hb dX3_readItem_67 (by decide) (fun c_67 => ?_) (fun c_67 => ?_)
        · have i_67 := i_ne c_67
          rw [(by decide : (-9 : Int32).toInt = -9)] at i_67
          exact absurd c_67 (by decide)
        · have i_67 := i_eq c_67
          rw [(by decide : (-9 : Int32).toInt = -9)] at i_67
          refine lv_iconst (v := 0) hx hb dX3_readItem_70 (by decide) ?_
          exact lf_z hx hb hr hlocks hQ (u_36, pp) hP hD hS dX3_readItem_71 (by first | rfl | (rw [bI_f]; exact bI_n _) | exact bI_n _) ⟨(by first | with_reducible rfl | (simp only [itm, if_pos c_6, if_neg c_23, if_pos c_45, if_pos c_67, ← hr_36, ← hu_36, ← hr_16, ← hu_16, ↓reduceIte, bI_t, bI_f, reduceCtorEq]; done) | (subst_vars; simp only [itm, if_pos c_6, if_neg c_23, if_pos c_45, if_pos c_67, ↓reduceIte, bI_t, bI_f, reduceCtorEq]; done) | (simp [itm, c_6, c_23, c_45, c_67, bI_t, bI_f]; done)), (by first | with_reducible rfl | (simp only [itm, if_pos c_6, if_neg c_23, if_pos c_45, if_pos c_67, ← hr_36, ← hu_36, ← hr_16, ← hu_16, ↓reduceIte, bI_t, bI_f, reduceCtorEq]; done) | (subst_vars; simp only [itm, if_pos c_6, if_neg c_23, if_pos c_45, if_pos c_67, ↓reduceIte, bI_t, bI_f, reduceCtorEq]; done) | (simp [itm, c_6, c_23, c_45, c_67, bI_t, bI_f]; done)), (by first | with_reducible rfl | (simp only [itm, if_pos c_6, if_neg c_23, if_pos c_45, if_pos c_67, ← hr_36, ← hu_36, ← hr_16, ← hu_16, ↓reduceIte, bI_t, bI_f, reduceCtorEq]; done) | (subst_vars; simp only [itm, if_pos c_6, if_neg c_23, if_pos c_45, if_pos c_67, ↓reduceIte, bI_t, bI_f, reduceCtorEq]; done) | (simp [itm, c_6, c_23, c_45, c_67, bI_t, bI_f]; done))⟩
    · have i_23 := i_eq c_23
      rw [(by decide : (-9 : Int32).toInt = -9)] at i_23
      refine lv_bipush (v := (-9)) hx hb dX3_readItem_26 (by decide) ?_
      refine lv_goto (tgt := 39) hx hb dX3_readItem_28 (by decide) ?_
      refine lv_istore (lv' := [(4, .int (-9)), (3, .int r_16), (0, .ref h0), (1, .ref t0), (2, .ref p0)]) hx hb dX3_readItem_39 hl (by decide) rfl (fun ls hl => ?_)
      refine lv_iload hx hb dX3_readItem_41 (lv_at hl 0 rfl) ?_
      refine lv_bipush (v := (-9)) hx hb dX3_readItem_43 (by decide) ?_
      refine lv_icmp_ne (tgt := 53) hx hb dX3_readItem_45 (by decide) (fun c_45 => ?_) (fun c_45 => ?_)
      · have i_45 := i_ne c_45
        rw [(by decide : (-9 : Int32).toInt = -9)] at i_45
        exact absurd c_45 (by decide)
      · have i_45 := i_eq c_45
        rw [(by decide : (-9 : Int32).toInt = -9)] at i_45
        refine lv_bipush (v := (-9)) hx hb dX3_readItem_48 (by decide) ?_
        refine lv_goto (tgt := 61) hx hb dX3_readItem_50 (by decide) ?_
        refine lv_istore (lv' := [(5, .int (-9)), (4, .int (-9)), (3, .int r_16), (0, .ref h0), (1, .ref t0), (2, .ref p0)]) hx hb dX3_readItem_61 hl (by decide) rfl (fun ls hl => ?_)
        refine lv_iload hx hb dX3_readItem_63 (lv_at hl 0 rfl) ?_
        refine lv_bipush (v := (-9)) hx hb dX3_readItem_65 (by decide) ?_
        refine lv_icmp_ne (tgt := 72) hx hb dX3_readItem_67 (by decide) (fun c_67 => ?_) (fun c_67 => ?_)
        · have i_67 := i_ne c_67
          rw [(by decide : (-9 : Int32).toInt = -9)] at i_67
          exact absurd c_67 (by decide)
        · have i_67 := i_eq c_67
          rw [(by decide : (-9 : Int32).toInt = -9)] at i_67
          refine lv_iconst (v := 0) hx hb dX3_readItem_70 (by decide) ?_
          exact lf_z hx hb hr hlocks hQ (u_16, pp) hP hD hS dX3_readItem_71 (by first | rfl | (rw [bI_f]; exact bI_n _) | exact bI_n _) ⟨(by first | with_reducible rfl | (simp only [itm, if_pos c_6, if_pos c_23, if_pos c_45, if_pos c_67, ← hr_16, ← hu_16, ↓reduceIte, bI_t, bI_f, reduceCtorEq]; done) | (subst_vars; simp only [itm, if_pos c_6, if_pos c_23, if_pos c_45, if_pos c_67, ↓reduceIte, bI_t, bI_f, reduceCtorEq]; done) | (simp [itm, c_6, c_23, c_45, c_67, bI_t, bI_f]; done)), (by first | with_reducible rfl | (simp only [itm, if_pos c_6, if_pos c_23, if_pos c_45, if_pos c_67, ← hr_16, ← hu_16, ↓reduceIte, bI_t, bI_f, reduceCtorEq]; done) | (subst_vars; simp only [itm, if_pos c_6, if_pos c_23, if_pos c_45, if_pos c_67, ↓reduceIte, bI_t, bI_f, reduceCtorEq]; done) | (simp [itm, c_6, c_23, c_45, c_67, bI_t, bI_f]; done)), (by first | with_reducible rfl | (simp only [itm, if_pos c_6, if_pos c_23, if_pos c_45, if_pos c_67, ← hr_16, ← hu_16, ↓reduceIte, bI_t, bI_f, reduceCtorEq]; done) | (subst_vars; simp only [itm, if_pos c_6, if_pos c_23, if_pos c_45, if_pos c_67, ↓reduceIte, bI_t, bI_f, reduceCtorEq]; done) | (simp [itm, c_6, c_23, c_45, c_67, bI_t, bI_f]; done))⟩
  · have i_6 := i_ne c_6
    rw [(by decide : (100 : Int32).toInt = 100)] at i_6
    refine lv_iconst (v := 0) hx hb dX3_readItem_9 (by decide) ?_
    exact lf_z hx hb hr hlocks hQ (rr, pp) hP hD hS dX3_readItem_10 (by first | rfl | (rw [bI_f]; exact bI_n _) | exact bI_n _) ⟨(by first | with_reducible rfl | (simp only [itm, if_neg c_6, ↓reduceIte, bI_t, bI_f, reduceCtorEq]; done) | (subst_vars; simp only [itm, if_neg c_6, ↓reduceIte, bI_t, bI_f, reduceCtorEq]; done) | (simp [itm, c_6, bI_t, bI_f]; done)), (by first | with_reducible rfl | (simp only [itm, if_neg c_6, ↓reduceIte, bI_t, bI_f, reduceCtorEq]; done) | (subst_vars; simp only [itm, if_neg c_6, ↓reduceIte, bI_t, bI_f, reduceCtorEq]; done) | (simp [itm, c_6, bI_t, bI_f]; done)), (by first | with_reducible rfl | (simp only [itm, if_neg c_6, ↓reduceIte, bI_t, bI_f, reduceCtorEq]; done) | (subst_vars; simp only [itm, if_neg c_6, ↓reduceIte, bI_t, bI_f, reduceCtorEq]; done) | (simp [itm, c_6, bI_t, bI_f]; done))⟩
abbrev rm_X3_read : Room := { frames := 5, cells := 0, slots := 0, locals := 118 }
set_option maxHeartbeats 4000000 in
set_option maxRecDepth 100000 in
theorem c_X3_read (l : Launch) (D : va_G) (cI cJ cZ : ClassId) (h0 : Nat) (t0 : Nat) (t1 : Nat) (p0 : Nat) (p1 : Nat) (p2 : Nat) (p3 : Nat) (p4 : Nat) (p5 : Nat) (p6 : Nat) (sz : Nat) (rr : Rdr) (t : Txt) (pp : Trp) (hn : t.1.toInt ≤ 100) : Met l yX3_read wsX3_read rm_X3_read (va_Pc [.ref h0, .ref t0, .ref p0] (PU D (tyL cI cJ cZ) (wRdr h0 rr ++ wTxt t0 t1 cI t ++ wTrp p0 p1 p2 p3 p4 p5 p6 cI pp) sz)) (va_Qi (fun (rz : Int32) (uz : Rdr × Trp) => rz = (rdT t rr pp).1 ∧ uz.1 = (rdT t rr pp).2.1 ∧ uz.2 = (rdT t rr pp).2.2) (fun uz => BU D (wRdr h0 uz.1 ++ wTxt t0 t1 cI t ++ wTrp p0 p1 p2 p3 p4 p5 p6 cI uz.2) (va_A (wRdr h0 rr ++ wTxt t0 t1 cI t ++ wTrp p0 p1 p2 p3 p4 p5 p6 cI pp) sz)) (va_A (wRdr h0 rr ++ wTxt t0 t1 cI t ++ wTrp p0 p1 p2 p3 p4 p5 p6 cI pp) sz)) 0 0 (va_A (wRdr h0 rr ++ wTxt t0 t1 cI t ++ wTrp p0 p1 p2 p3 p4 p5 p6 cI pp) sz) := by
  refine en (own := RX3) (Qc := fun A => va_Qi (fun (rz : Int32) (uz : Rdr × Trp) => rz = (rdT t rr pp).1 ∧ uz.1 = (rdT t rr pp).2.1 ∧ uz.2 = (rdT t rr pp).2.2) (fun uz => BU D (wRdr h0 uz.1 ++ wTxt t0 t1 cI t ++ wTrp p0 p1 p2 p3 p4 p5 p6 cI uz.2) A) A) (by decide) rfl (Nat.le_of_ble_eq_true rfl) rfl ?_
  intro p e s m args below meth c A Q H locs ls hx hb hr hml hown hts hlocks hname hA hN hE hK hQ hP hD hS hl
  have hl : lv_has ls 4 [(0, .ref h0), (1, .ref t0), (2, .ref p0)] := hl
  have fl_14 := hts (.fieldLink RX3 14 "DanceStaffs$Reader" "next" "I") (by decide +kernel)
  have hin_3 : ∀ w ∈ u_ws RX3 TX3 3, w ∈ wsX3_read := by decide +kernel
  have fl_24 := hts (.fieldLink RX3 24 "DanceStaffs$Reader" "token" "I") (by decide +kernel)
  have fl_31 := hts (.fieldLink RX3 31 "DanceStaffs$Reader" "begin" "I") (by decide +kernel)
  have hin_8 : ∀ w ∈ u_ws RX8 TX8 5, w ∈ wsX3_read := by decide +kernel
  have hb0 : RB ((0, rr.2.1, rr.2.2) : Rdr) 100 := ⟨by show 0 ≤ (0 : Int32).toInt; decide, by show (0 : Int32).toInt ≤ 100; decide⟩
  refine lv_aload_n hx hb dX3_read_0 rfl (lv_at hl 2 rfl) ?_
  refine jn_v (W2 := fun u_1 => wRdr h0 rr ++ wTxt t0 t1 cI t ++ wTrp p0 p1 p2 p3 p4 p5 p6 cI u_1) (va_runV (As := []) (rest := []) ⟨hx, hb, hml, hown, hts⟩ (c_X8_empty l D cI cJ cZ p0 p1 p2 p3 p4 p5 p6 H.size pp) (cwV 0 hts gX3_read_X8_empty rfl rfl rfl (by decide +kernel) ⟨Nat.le_of_ble_eq_true rfl, Nat.le_of_ble_eq_true rfl⟩) (pr_V hP hD hK hN hE hS hA [3, 4, 5, 6, 7, 8, 9] (by decide) rfl (ci := 8) (q0 := 3) rfl rfl) rfl rfl hl.1 rfl (lv_room (Nat.le_of_ble_eq_true rfl)) dX3_read_1 ⟨Nat.zero_le _, Nat.zero_le _⟩) hP hD hS hA [3, 4, 5, 6, 7, 8, 9] [0, 1, 2] [0, 1, 2, 3, 4, 5, 6, 7, 8, 9] rfl rfl (by decide) (by decide) (by decide) (fun _ => rfl) (fun u_1 H locs hw_1 hP hD hS => ?_)
  have hP : va_P D vwCl (wRdr h0 rr ++ wTxt t0 t1 cI t ++ wTrp p0 p1 p2 p3 p4 p5 p6 cI u_1) H := hP
  have hD : va_D A (wRdr h0 rr ++ wTxt t0 t1 cI t ++ wTrp p0 p1 p2 p3 p4 p5 p6 cI u_1) := hD
  have hu_1 := hw_1
  refine lv_aload_n hx hb dX3_read_4 rfl (lv_at hl 0 rfl) ?_
  refine lv_iconst (v := 0) hx hb dX3_read_5 (by decide) ?_
  refine va_put (D := D) (ci := 3) (v := .int 0) (ty := .int) (C := RX3) (T := TX3) (N := 3) hx hb hts hin_3 tyX3 tyX3_ok nmX3 hown hK hP hD hS 0 rfl rfl 0 (by decide) fl_14 (fun _ h9 => h9) rfl (by decide +kernel) rfl rfl (Nat.le_of_ble_eq_true rfl) dX3_read_6 (fun H locs hP hD hS => ?_)
  have hP : va_P D vwCl (wRdr h0 (0, rr.2) ++ wTxt t0 t1 cI t ++ wTrp p0 p1 p2 p3 p4 p5 p6 cI u_1) H := hP
  have hD : va_D A (wRdr h0 (0, rr.2) ++ wTxt t0 t1 cI t ++ wTrp p0 p1 p2 p3 p4 p5 p6 cI u_1) := hD
  refine lv_aload_n hx hb dX3_read_9 rfl (lv_at hl 0 rfl) ?_
  refine lv_aload_n hx hb dX3_read_10 rfl (lv_at hl 1 rfl) ?_
  refine jn_v (W2 := fun u_11 => wRdr h0 u_11 ++ wTxt t0 t1 cI t ++ wTrp p0 p1 p2 p3 p4 p5 p6 cI u_1) (va_runV (As := [.ref t0]) (rest := []) ⟨hx, hb, hml, hown, hts⟩ (c_X3_advance l D cI cJ cZ h0 t0 t1 H.size (0, rr.2) t (hn) (hb0.mono (by omega))) (cwV 1 hts gX3_read_X3_advance rfl rfl rfl (by decide +kernel) ⟨Nat.le_of_ble_eq_true rfl, Nat.le_of_ble_eq_true rfl⟩) (pr_V hP hD hK hN hE hS hA [0, 1, 2] (by decide) rfl (ci := 3) (q0 := 0) rfl rfl) rfl rfl hl.1 rfl (lv_room (Nat.le_of_ble_eq_true rfl)) dX3_read_11 ⟨Nat.zero_le _, Nat.zero_le _⟩) hP hD hS hA [0, 1, 2] [3, 4, 5, 6, 7, 8, 9] [7, 8, 9, 0, 1, 2, 3, 4, 5, 6] rfl rfl (by decide) (by decide) (by decide) (fun _ => rfl) (fun u_11 H locs hw_11 hP hD hS => ?_)
  have hP : va_P D vwCl (wRdr h0 u_11 ++ wTxt t0 t1 cI t ++ wTrp p0 p1 p2 p3 p4 p5 p6 cI u_1) H := hP
  have hD : va_D A (wRdr h0 u_11 ++ wTxt t0 t1 cI t ++ wTrp p0 p1 p2 p3 p4 p5 p6 cI u_1) := hD
  have hu_11 := hw_11
  refine lv_iconst (v := 0) hx hb dX3_read_14 (by decide) ?_
  refine lv_istore_n (lv' := [(3, .int 0), (0, .ref h0), (1, .ref t0), (2, .ref p0)]) hx hb dX3_read_15 rfl hl (by decide) rfl (fun ls hl => ?_)
  have LB_16 : ∀ (n : Nat) (i : Nat) (u : Rdr) (q : Trp) (hn_i : 3 < i + n) (hi_i : i ≤ 3) (hbu : RB u (101 + 26 * i)) (hqk : TrpOk q) (hG : rdL t (3 - i) u q = rdT t rr pp) (H : Heap) (locs : List Loc) (_ : va_P D vwCl (wRdr h0 u ++ wTxt t0 t1 cI t ++ wTrp p0 p1 p2 p3 p4 p5 p6 cI q) H) (_ : va_D A (wRdr h0 u ++ wTxt t0 t1 cI t ++ wTrp p0 p1 p2 p3 p4 p5 p6 cI q)) (_ : va_S A s.heap H locs) (ls : Array Slot) (_ : lv_has ls 4 [(0, .ref h0), (1, .ref t0), (2, .ref p0), (3, .int (nI i))]), W p l e rm_X3_read s m args below meth c H locs 0 0 Q (F0 m 16 ls []) := by
    intro n
    induction n with
    | zero =>
      intro i u q hn_i hi_i hbu hqk hG
      exact absurd hn_i (by omega)
    | succ n LB_16 =>
      intro i u q hn_i hi_i hbu hqk hG H locs hP hD hS ls hl
      refine lv_iload_n hx hb dX3_read_16 rfl (lv_at hl 3 rfl) ?_
      refine lv_iconst (v := 3) hx hb dX3_read_17 (by decide) ?_
      refine lv_icmp_ge (tgt := 58) hx hb dX3_read_18 (by decide) (fun c_18 => ?_) (fun c_18 => ?_)
      · have i_18 := i_le c_18
        rw [(by decide : (3 : Int32).toInt = 3)] at i_18
        rw [nIT (by omega)] at i_18
        rw [show 3 - i = 0 by omega, rdL] at hG
        refine lv_aload_n hx hb dX3_read_58 rfl (lv_at hl 0 rfl) ?_
        refine va_get (D := D) (ci := 3) (v := .int u.2.2) (C := RX3) (T := TX3) (N := 3) hx hb hts hin_3 hown hK hP 0 rfl rfl 2 (by decide) fl_24 (fun _ h9 => h9) rfl dX3_read_59 ?_
        refine lv_bipush (v := (-9)) hx hb dX3_read_62 (by decide) ?_
        refine lv_icmp_ne (tgt := 74) hx hb dX3_read_64 (by decide) (fun c_64 => ?_) (fun c_64 => ?_)
        · have i_64 := i_ne c_64
          rw [(by decide : (-9 : Int32).toInt = -9)] at i_64
          refine lv_bipush (v := (-10)) hx hb dX3_read_74 (by decide) ?_
          refine lv_aload_n hx hb dX3_read_76 rfl (lv_at hl 0 rfl) ?_
          refine va_get (D := D) (ci := 3) (v := .int u.2.1) (C := RX3) (T := TX3) (N := 3) hx hb hts hin_3 hown hK hP 0 rfl rfl 1 (by decide) fl_31 (fun _ h9 => h9) rfl dX3_read_77 ?_
          refine lv_isub hx hb dX3_read_80 ?_
          exact lf_i hx hb hr hlocks hQ (u, q) hP hD hS dX3_read_81 ⟨(by first | (rw [← hG]; done) | (rw [← hG]; with_reducible rfl) | (rw [← hG]; simp only []; done) | (rw [← hG]; simp only [if_pos c_18, if_neg c_64, ↓reduceIte, bI_t, bI_f]; done) | (rw [← hG]; simp only [rdF, if_pos c_18, if_neg c_64, ↓reduceIte]; done) | (rw [← hG]; rfl)), (by first | (rw [← hG]; done) | (rw [← hG]; with_reducible rfl) | (rw [← hG]; simp only []; done) | (rw [← hG]; simp only [if_pos c_18, if_neg c_64, ↓reduceIte, bI_t, bI_f]; done) | (rw [← hG]; simp only [rdF, if_pos c_18, if_neg c_64, ↓reduceIte]; done) | (rw [← hG]; rfl)), (by first | (rw [← hG]; done) | (rw [← hG]; with_reducible rfl) | (rw [← hG]; simp only []; done) | (rw [← hG]; simp only [if_pos c_18, if_neg c_64, ↓reduceIte, bI_t, bI_f]; done) | (rw [← hG]; simp only [rdF, if_pos c_18, if_neg c_64, ↓reduceIte]; done) | (rw [← hG]; rfl))⟩
        · have i_64 := i_eq c_64
          rw [(by decide : (-9 : Int32).toInt = -9)] at i_64
          refine lv_aload_n hx hb dX3_read_67 rfl (lv_at hl 2 rfl) ?_
          refine va_getN (D := D) (ci := 8) (v := .int q.2.2.2.1) (C := RX8) (T := TX8) (N := 5) hx hb hts hin_8 hown hK hP 3 rfl rfl 4 (by decide) (nw_fuse hN 18 rfl) (fun _ h9 => h9) rfl dX3_read_68 ?_
          refine lv_goto (tgt := 81) hx hb dX3_read_71 (by decide) ?_
          exact lf_i hx hb hr hlocks hQ (u, q) hP hD hS dX3_read_81 ⟨(by first | (rw [← hG]; done) | (rw [← hG]; with_reducible rfl) | (rw [← hG]; simp only []; done) | (rw [← hG]; simp only [if_pos c_18, if_pos c_64, ↓reduceIte, bI_t, bI_f]; done) | (rw [← hG]; simp only [rdF, if_pos c_18, if_pos c_64, ↓reduceIte]; done) | (rw [← hG]; rfl)), (by first | (rw [← hG]; done) | (rw [← hG]; with_reducible rfl) | (rw [← hG]; simp only []; done) | (rw [← hG]; simp only [if_pos c_18, if_pos c_64, ↓reduceIte, bI_t, bI_f]; done) | (rw [← hG]; simp only [rdF, if_pos c_18, if_pos c_64, ↓reduceIte]; done) | (rw [← hG]; rfl)), (by first | (rw [← hG]; done) | (rw [← hG]; with_reducible rfl) | (rw [← hG]; simp only []; done) | (rw [← hG]; simp only [if_pos c_18, if_pos c_64, ↓reduceIte, bI_t, bI_f]; done) | (rw [← hG]; simp only [rdF, if_pos c_18, if_pos c_64, ↓reduceIte]; done) | (rw [← hG]; rfl))⟩
      · have i_18 := i_nle c_18
        rw [(by decide : (3 : Int32).toInt = 3)] at i_18
        rw [nIT (by omega)] at i_18
        rw [show 3 - i = (3 - (i + 1)) + 1 by omega, rdL] at hG
        refine lv_aload_n hx hb dX3_read_21 rfl (lv_at hl 0 rfl) ?_
        refine va_get (D := D) (ci := 3) (v := .int u.2.2) (C := RX3) (T := TX3) (N := 3) hx hb hts hin_3 hown hK hP 0 rfl rfl 2 (by decide) fl_24 (fun _ h9 => h9) rfl dX3_read_22 ?_
        refine lv_bipush (v := (-9)) hx hb dX3_read_25 (by decide) ?_
        refine lv_icmp_eq (tgt := 58) hx hb dX3_read_27 (by decide) (fun c_27 => ?_) (fun c_27 => ?_)
        · have i_27 := i_eq c_27
          rw [(by decide : (-9 : Int32).toInt = -9)] at i_27
          rw [if_pos c_27] at hG
          refine lv_aload_n hx hb dX3_read_58 rfl (lv_at hl 0 rfl) ?_
          refine va_get (D := D) (ci := 3) (v := .int u.2.2) (C := RX3) (T := TX3) (N := 3) hx hb hts hin_3 hown hK hP 0 rfl rfl 2 (by decide) fl_24 (fun _ h9 => h9) rfl dX3_read_59 ?_
          refine lv_bipush (v := (-9)) hx hb dX3_read_62 (by decide) ?_
          refine lv_icmp_ne (tgt := 74) hx hb dX3_read_64 (by decide) (fun c_64 => ?_) (fun c_64 => ?_)
          · have i_64 := i_ne c_64
            rw [(by decide : (-9 : Int32).toInt = -9)] at i_64
            exact absurd c_27 c_64
          · have i_64 := i_eq c_64
            rw [(by decide : (-9 : Int32).toInt = -9)] at i_64
            refine lv_aload_n hx hb dX3_read_67 rfl (lv_at hl 2 rfl) ?_
            refine va_getN (D := D) (ci := 8) (v := .int q.2.2.2.1) (C := RX8) (T := TX8) (N := 5) hx hb hts hin_8 hown hK hP 3 rfl rfl 4 (by decide) (nw_fuse hN 18 rfl) (fun _ h9 => h9) rfl dX3_read_68 ?_
            refine lv_goto (tgt := 81) hx hb dX3_read_71 (by decide) ?_
            exact lf_i hx hb hr hlocks hQ (u, q) hP hD hS dX3_read_81 ⟨(by first | (rw [← hG]; done) | (rw [← hG]; with_reducible rfl) | (rw [← hG]; simp only []; done) | (rw [← hG]; simp only [if_neg c_18, if_pos c_27, if_pos c_64, ↓reduceIte, bI_t, bI_f]; done) | (rw [← hG]; simp only [rdF, if_neg c_18, if_pos c_27, if_pos c_64, ↓reduceIte]; done) | (rw [← hG]; rfl)), (by first | (rw [← hG]; done) | (rw [← hG]; with_reducible rfl) | (rw [← hG]; simp only []; done) | (rw [← hG]; simp only [if_neg c_18, if_pos c_27, if_pos c_64, ↓reduceIte, bI_t, bI_f]; done) | (rw [← hG]; simp only [rdF, if_neg c_18, if_pos c_27, if_pos c_64, ↓reduceIte]; done) | (rw [← hG]; rfl)), (by first | (rw [← hG]; done) | (rw [← hG]; with_reducible rfl) | (rw [← hG]; simp only []; done) | (rw [← hG]; simp only [if_neg c_18, if_pos c_27, if_pos c_64, ↓reduceIte, bI_t, bI_f]; done) | (rw [← hG]; simp only [rdF, if_neg c_18, if_pos c_27, if_pos c_64, ↓reduceIte]; done) | (rw [← hG]; rfl))⟩
        · have i_27 := i_ne c_27
          rw [(by decide : (-9 : Int32).toInt = -9)] at i_27
          rw [if_neg c_27] at hG
          refine lv_aload_n hx hb dX3_read_30 rfl (lv_at hl 0 rfl) ?_
          refine lv_aload_n hx hb dX3_read_31 rfl (lv_at hl 1 rfl) ?_
          refine lv_aload_n hx hb dX3_read_32 rfl (lv_at hl 2 rfl) ?_
          refine jn_i (W2 := fun u_33 => wRdr h0 u_33.1 ++ wTxt t0 t1 cI t ++ wTrp p0 p1 p2 p3 p4 p5 p6 cI u_33.2) (va_runV (As := [.ref t0, .ref p0]) (rest := []) ⟨hx, hb, hml, hown, hts⟩ (c_X3_readItem l D cI cJ cZ h0 t0 t1 p0 p1 p2 p3 p4 p5 p6 H.size u t q (hn) (hbu.mono (by omega)) (hqk)) (cwV 2 hts gX3_read_X3_readItem rfl rfl rfl (by decide +kernel) ⟨Nat.le_of_ble_eq_true rfl, Nat.le_of_ble_eq_true rfl⟩) (pr_V hP hD hK hN hE hS hA [0, 1, 2, 3, 4, 5, 6, 7, 8, 9] (by decide) rfl (ci := 3) (q0 := 0) rfl rfl) rfl rfl hl.1 rfl (lv_room (Nat.le_of_ble_eq_true rfl)) dX3_read_33 ⟨Nat.zero_le _, Nat.zero_le _⟩) hP hD hS hA [0, 1, 2, 3, 4, 5, 6, 7, 8, 9] [] [0, 1, 2, 3, 4, 5, 6, 7, 8, 9] rfl rfl (by decide) (by decide) (by decide) (fun _ => rfl) (fun r_33 u_33 H locs hw_33 hP hD hS => ?_)
          have hP : va_P D vwCl (wRdr h0 u_33.1 ++ wTxt t0 t1 cI t ++ wTrp p0 p1 p2 p3 p4 p5 p6 cI u_33.2) H := hP
          have hD : va_D A (wRdr h0 u_33.1 ++ wTxt t0 t1 cI t ++ wTrp p0 p1 p2 p3 p4 p5 p6 cI u_33.2) := hD
          obtain ⟨hr_33, hu_33_0, hu_33_1⟩ := hw_33
          refine lv_if_ne (tgt := 47) hx hb dX3_read_36 (by decide) (fun c_36 => ?_) (fun c_36 => ?_)
          · have b_36 : ((itm t u q).1) = true := bI_1 (fun q => c_36 (hr_33.trans q))
            rw [if_pos b_36] at hG
            refine lv_aload_n hx hb dX3_read_47 rfl (lv_at hl 0 rfl) ?_
            refine lv_aload_n hx hb dX3_read_48 rfl (lv_at hl 1 rfl) ?_
            refine jn_v (W2 := fun u_49 => wRdr h0 u_49 ++ wTxt t0 t1 cI t ++ wTrp p0 p1 p2 p3 p4 p5 p6 cI u_33.2) (va_runV (As := [.ref t0]) (rest := []) ⟨hx, hb, hml, hown, hts⟩ (c_X3_advance l D cI cJ cZ h0 t0 t1 H.size u_33.1 t (hn) (by rw [hu_33_0]; exact (itm_ok hn hqk hbu (by omega) (by omega)).2.mono (by omega))) (cwV 1 hts gX3_read_X3_advance rfl rfl rfl (by decide +kernel) ⟨Nat.le_of_ble_eq_true rfl, Nat.le_of_ble_eq_true rfl⟩) (pr_V hP hD hK hN hE hS hA [0, 1, 2] (by decide) rfl (ci := 3) (q0 := 0) rfl rfl) rfl rfl hl.1 rfl (lv_room (Nat.le_of_ble_eq_true rfl)) dX3_read_49 ⟨Nat.zero_le _, Nat.zero_le _⟩) hP hD hS hA [0, 1, 2] [3, 4, 5, 6, 7, 8, 9] [7, 8, 9, 0, 1, 2, 3, 4, 5, 6] rfl rfl (by decide) (by decide) (by decide) (fun _ => rfl) (fun u_49 H locs hw_49 hP hD hS => ?_)
            have hP : va_P D vwCl (wRdr h0 u_49 ++ wTxt t0 t1 cI t ++ wTrp p0 p1 p2 p3 p4 p5 p6 cI u_33.2) H := hP
            have hD : va_D A (wRdr h0 u_49 ++ wTxt t0 t1 cI t ++ wTrp p0 p1 p2 p3 p4 p5 p6 cI u_33.2) := hD
            have hu_49 := hw_49
            refine lv_iinc (v := ((nI i) + 1)) (lv' := [(3, .int ((nI i) + 1)), (0, .ref h0), (1, .ref t0), (2, .ref p0)]) hx hb dX3_read_52 hl (k := 3) rfl rfl (by decide) rfl (fun ls hl => ?_)
            rw [show nI i + 1 = nI (i + 1) from nI_1 _] at hl
            have hl : lv_has ls 4 [(3, .int (nI (i + 1))), (0, .ref h0), (1, .ref t0), (2, .ref p0)] := hl
            refine lv_goto (tgt := 16) hx hb dX3_read_55 (by decide) ?_
            exact LB_16 (i + 1) u_49 u_33.2 (by omega) (by omega) (by rw [hu_49, hu_33_0]; exact ((itm_ok hn hqk hbu (by omega) (by omega)).2.adv hn (by omega) (by omega)).mono (by omega)) (by rw [hu_33_1]; exact (itm_ok hn hqk hbu (by omega) (by omega)).1) (by rw [← hG, hu_49, hu_33_0, hu_33_1]) H locs hP hD hS ls (lv_sub hl [1, 2, 3, 0] rfl)
          · have b_36 : ((itm t u q).1) = false := bI_0 (hr_33.symm.trans c_36)
            rw [if_neg (by rw [b_36]; decide)] at hG
            refine lv_bipush (v := (-10)) hx hb dX3_read_39 (by decide) ?_
            refine lv_aload_n hx hb dX3_read_41 rfl (lv_at hl 0 rfl) ?_
            refine va_get (D := D) (ci := 3) (v := .int u_33.1.2.1) (C := RX3) (T := TX3) (N := 3) hx hb hts hin_3 hown hK hP 0 rfl rfl 1 (by decide) fl_31 (fun _ h9 => h9) rfl dX3_read_42 ?_
            refine lv_isub hx hb dX3_read_45 ?_
            exact lf_i hx hb hr hlocks hQ (u_33.1, u_33.2) hP hD hS dX3_read_46 ⟨(by first | (rw [← hG]; done) | (rw [← hG]; with_reducible rfl) | (rw [← hG]; simp only [← hr_33, ← hu_33_1, ← hu_33_0]; done) | (rw [← hG]; simp only [← hr_33, ← hu_33_1, ← hu_33_0, if_neg c_18, if_neg c_27, b_36, ↓reduceIte, bI_t, bI_f]; done) | (rw [← hG]; simp only [rdF, ← hr_33, ← hu_33_1, ← hu_33_0, if_neg c_18, if_neg c_27, b_36, ↓reduceIte]; done) | (rw [← hG]; rfl)), (by first | (rw [← hG]; done) | (rw [← hG]; with_reducible rfl) | (rw [← hG]; simp only [← hr_33, ← hu_33_1, ← hu_33_0]; done) | (rw [← hG]; simp only [← hr_33, ← hu_33_1, ← hu_33_0, if_neg c_18, if_neg c_27, b_36, ↓reduceIte, bI_t, bI_f]; done) | (rw [← hG]; simp only [rdF, ← hr_33, ← hu_33_1, ← hu_33_0, if_neg c_18, if_neg c_27, b_36, ↓reduceIte]; done) | (rw [← hG]; rfl)), (by first | (rw [← hG]; done) | (rw [← hG]; with_reducible rfl) | (rw [← hG]; simp only [← hr_33, ← hu_33_1, ← hu_33_0]; done) | (rw [← hG]; simp only [← hr_33, ← hu_33_1, ← hu_33_0, if_neg c_18, if_neg c_27, b_36, ↓reduceIte, bI_t, bI_f]; done) | (rw [← hG]; simp only [rdF, ← hr_33, ← hu_33_1, ← hu_33_0, if_neg c_18, if_neg c_27, b_36, ↓reduceIte]; done) | (rw [← hG]; rfl))⟩
  exact LB_16 (3 + 1) 0 u_11 u_1 (by omega) (by omega) (by rw [hu_11]; exact hb0.adv hn (by omega) (by omega)) (by rw [hu_1]; exact tpEmp_ok pp) (by rw [hu_11, hu_1]; rfl) H locs hP hD hS ls (lv_sub hl [1, 2, 3, 0] rfl)
