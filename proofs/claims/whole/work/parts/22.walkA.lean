abbrev rm_X7_length : Room := { frames := 0, cells := 0, slots := 0, locals := 0 }
set_option maxHeartbeats 4000000 in
set_option maxRecDepth 100000 in
theorem c_X7_length (l : Launch) (D : va_G) (cI cJ cZ : ClassId) (h0 : Nat) (h1 : Nat) (sz : Nat) (t : Txt) : Met l yX7_length wsX7_length rm_X7_length (va_Pc [.ref h0] (PU D (tyL cI cJ cZ) (wTxt h0 h1 cI t) sz)) (va_Qi (fun (rz : Int32) (_ : Unit) => rz = t.1) (fun uz => BU D (wTxt h0 h1 cI t) (va_A (wTxt h0 h1 cI t) sz)) (va_A (wTxt h0 h1 cI t) sz)) 0 0 (va_A (wTxt h0 h1 cI t) sz) := by
  refine en (own := RX7) (Qc := fun A => va_Qi (fun (rz : Int32) (_ : Unit) => rz = t.1) (fun uz => BU D (wTxt h0 h1 cI t) A) A) (by decide) rfl (Nat.le_of_ble_eq_true rfl) rfl ?_
  intro p e s m args below meth c A Q H locs ls hx hb hr hml hown hts hlocks hname hA hN hE hK hQ hP hD hS hl
  have hl : lv_has ls 1 [(0, .ref h0)] := hl
  have fl_15 := hts (.fieldLink RX7 15 "DanceStaffs$Text" "length" "I") (by decide +kernel)
  have hin_7 : ∀ w ∈ u_ws RX7 TX7 2, w ∈ wsX7_length := by decide +kernel
  refine lv_aload_n hx hb dX7_length_0 rfl (lv_at hl 0 rfl) ?_
  refine va_get (D := D) (ci := 7) (v := .int t.1) (C := RX7) (T := TX7) (N := 2) hx hb hts hin_7 hown hK hP 0 rfl rfl 1 (by decide) fl_15 (fun _ h9 => h9) rfl dX7_length_1 ?_
  exact lf_i hx hb hr hlocks hQ () hP hD hS dX7_length_4 (by first | with_reducible rfl | (simp only [↓reduceIte, bI_t, bI_f, reduceCtorEq]; done) | (subst_vars; simp only [↓reduceIte, bI_t, bI_f, reduceCtorEq]; done) | (simp [bI_t, bI_f]; done))
abbrev rm_X7_letterAt : Room := { frames := 0, cells := 0, slots := 0, locals := 0 }
set_option maxHeartbeats 4000000 in
set_option maxRecDepth 100000 in
theorem c_X7_letterAt (l : Launch) (D : va_G) (cI cJ cZ : ClassId) (h0 : Nat) (h1 : Nat) (sz : Nat) (t : Txt) (i : Int32) (hn : t.1.toInt ≤ 100) : Met l yX7_letterAt wsX7_letterAt rm_X7_letterAt (va_Pc [.ref h0, .int i] (PU D (tyL cI cJ cZ) (wTxt h0 h1 cI t) sz)) (va_Qi (fun (rz : Int32) (_ : Unit) => rz = tLetter t i) (fun uz => BU D (wTxt h0 h1 cI t) (va_A (wTxt h0 h1 cI t) sz)) (va_A (wTxt h0 h1 cI t) sz)) 0 0 (va_A (wTxt h0 h1 cI t) sz) := by
  refine en (own := RX7) (Qc := fun A => va_Qi (fun (rz : Int32) (_ : Unit) => rz = tLetter t i) (fun uz => BU D (wTxt h0 h1 cI t) A) A) (by decide) rfl (Nat.le_of_ble_eq_true rfl) rfl ?_
  intro p e s m args below meth c A Q H locs ls hx hb hr hml hown hts hlocks hname hA hN hE hK hQ hP hD hS hl
  have hl : lv_has ls 2 [(0, .ref h0), (1, .int i)] := hl
  have fl_15 := hts (.fieldLink RX7 15 "DanceStaffs$Text" "length" "I") (by decide +kernel)
  have hin_7 : ∀ w ∈ u_ws RX7 TX7 2, w ∈ wsX7_letterAt := by decide +kernel
  have fl_9 := hts (.fieldLink RX7 9 "DanceStaffs$Text" "letters" "[I") (by decide +kernel)
  refine lv_iload_n hx hb dX7_letterAt_0 rfl (lv_at hl 1 rfl) ?_
  refine lv_if_lt (tgt := 21) hx hb dX7_letterAt_1 (by decide) (fun c_1 => ?_) (fun c_1 => ?_)
  · have i_1 := i_lt c_1
    rw [(by decide : (0 : Int32).toInt = 0)] at i_1
    refine lv_bipush (v := (-9)) hx hb dX7_letterAt_21 (by decide) ?_
    exact lf_i hx hb hr hlocks hQ () hP hD hS dX7_letterAt_23 (by first | with_reducible rfl | (simp only [tLetter, if_pos c_1, ↓reduceIte, bI_t, bI_f, reduceCtorEq]; done) | (subst_vars; simp only [tLetter, if_pos c_1, ↓reduceIte, bI_t, bI_f, reduceCtorEq]; done) | (simp [tLetter, c_1, bI_t, bI_f]; done))
  · have i_1 := i_nlt c_1
    rw [(by decide : (0 : Int32).toInt = 0)] at i_1
    refine lv_iload_n hx hb dX7_letterAt_4 rfl (lv_at hl 1 rfl) ?_
    refine lv_aload_n hx hb dX7_letterAt_5 rfl (lv_at hl 0 rfl) ?_
    refine va_get (D := D) (ci := 7) (v := .int t.1) (C := RX7) (T := TX7) (N := 2) hx hb hts hin_7 hown hK hP 0 rfl rfl 1 (by decide) fl_15 (fun _ h9 => h9) rfl dX7_letterAt_6 ?_
    refine lv_icmp_ge (tgt := 21) hx hb dX7_letterAt_9 (by decide) (fun c_9 => ?_) (fun c_9 => ?_)
    · have i_9 := i_le c_9
      refine lv_bipush (v := (-9)) hx hb dX7_letterAt_21 (by decide) ?_
      exact lf_i hx hb hr hlocks hQ () hP hD hS dX7_letterAt_23 (by first | with_reducible rfl | (simp only [tLetter, if_neg c_1, if_pos c_9, ↓reduceIte, bI_t, bI_f, reduceCtorEq]; done) | (subst_vars; simp only [tLetter, if_neg c_1, if_pos c_9, ↓reduceIte, bI_t, bI_f, reduceCtorEq]; done) | (simp [tLetter, c_1, c_9, bI_t, bI_f]; done))
    · have i_9 := i_nle c_9
      refine lv_aload_n hx hb dX7_letterAt_12 rfl (lv_at hl 0 rfl) ?_
      refine va_get (D := D) (ci := 7) (v := .ref h1) (C := RX7) (T := TX7) (N := 2) hx hb hts hin_7 hown hK hP 0 rfl rfl 0 (by decide) fl_9 (fun _ h9 => h9) rfl dX7_letterAt_13 ?_
      refine lv_iload_n hx hb dX7_letterAt_16 rfl (lv_at hl 1 rfl) ?_
      refine va_iald (D := D) (f := t.2) hx hb hK hP 1 0 rfl rfl (by exact vi_mk (by omega) (by omega)) dX7_letterAt_17 ?_
      refine lv_goto (tgt := 23) hx hb dX7_letterAt_18 (by decide) ?_
      exact lf_i hx hb hr hlocks hQ () hP hD hS dX7_letterAt_23 (by first | with_reducible rfl | (simp only [tLetter, if_neg c_1, if_neg c_9, ↓reduceIte, bI_t, bI_f, reduceCtorEq]; done) | (subst_vars; simp only [tLetter, if_neg c_1, if_neg c_9, ↓reduceIte, bI_t, bI_f, reduceCtorEq]; done) | (simp [tLetter, c_1, c_9, bI_t, bI_f]; done))
abbrev rm_X7_append : Room := { frames := 0, cells := 0, slots := 0, locals := 0 }
set_option maxHeartbeats 4000000 in
set_option maxRecDepth 100000 in
theorem c_X7_append (l : Launch) (D : va_G) (cI cJ cZ : ClassId) (h0 : Nat) (h1 : Nat) (sz : Nat) (t : Txt) (k : Int32) (hn : 0 ≤ t.1.toInt) : Met l yX7_append wsX7_append rm_X7_append (va_Pc [.ref h0, .int k] (PU D (tyL cI cJ cZ) (wTxt h0 h1 cI t) sz)) (va_Qi (fun (rz : Int32) (uz : Txt) => rz = bI (tAppB t) ∧ uz = tApp t k) (fun uz => BU D (wTxt h0 h1 cI uz) (va_A (wTxt h0 h1 cI t) sz)) (va_A (wTxt h0 h1 cI t) sz)) 0 0 (va_A (wTxt h0 h1 cI t) sz) := by
  refine en (own := RX7) (Qc := fun A => va_Qi (fun (rz : Int32) (uz : Txt) => rz = bI (tAppB t) ∧ uz = tApp t k) (fun uz => BU D (wTxt h0 h1 cI uz) A) A) (by decide) rfl (Nat.le_of_ble_eq_true rfl) rfl ?_
  intro p e s m args below meth c A Q H locs ls hx hb hr hml hown hts hlocks hname hA hN hE hK hQ hP hD hS hl
  have hl : lv_has ls 2 [(0, .ref h0), (1, .int k)] := hl
  have fl_15 := hts (.fieldLink RX7 15 "DanceStaffs$Text" "length" "I") (by decide +kernel)
  have hin_7 : ∀ w ∈ u_ws RX7 TX7 2, w ∈ wsX7_append := by decide +kernel
  have fl_9 := hts (.fieldLink RX7 9 "DanceStaffs$Text" "letters" "[I") (by decide +kernel)
  refine lv_aload_n hx hb dX7_append_0 rfl (lv_at hl 0 rfl) ?_
  refine va_get (D := D) (ci := 7) (v := .int t.1) (C := RX7) (T := TX7) (N := 2) hx hb hts hin_7 hown hK hP 0 rfl rfl 1 (by decide) fl_15 (fun _ h9 => h9) rfl dX7_append_1 ?_
  refine lv_bipush (v := 100) hx hb dX7_append_4 (by decide) ?_
  refine lv_icmp_lt (tgt := 11) hx hb dX7_append_6 (by decide) (fun c_6 => ?_) (fun c_6 => ?_)
  · have i_6 := i_lt c_6
    rw [(by decide : (100 : Int32).toInt = 100)] at i_6
    refine lv_aload_n hx hb dX7_append_11 rfl (lv_at hl 0 rfl) ?_
    refine va_get (D := D) (ci := 7) (v := .ref h1) (C := RX7) (T := TX7) (N := 2) hx hb hts hin_7 hown hK hP 0 rfl rfl 0 (by decide) fl_9 (fun _ h9 => h9) rfl dX7_append_12 ?_
    refine lv_aload_n hx hb dX7_append_15 rfl (lv_at hl 0 rfl) ?_
    refine va_get (D := D) (ci := 7) (v := .int t.1) (C := RX7) (T := TX7) (N := 2) hx hb hts hin_7 hown hK hP 0 rfl rfl 1 (by decide) fl_15 (fun _ h9 => h9) rfl dX7_append_16 ?_
    refine lv_iload_n hx hb dX7_append_19 rfl (lv_at hl 1 rfl) ?_
    refine va_iast (D := D) (f := t.2) hx hb hK hP hD hS 1 0 rfl rfl (by exact vi_mk hn (by omega)) dX7_append_20 (fun H locs hP hD hS => ?_)
    have hP : va_P D vwCl (wTxt h0 h1 cI (t.1, (upd t.2 ((t.1).toNatClampNeg) k))) H := hP
    have hD : va_D A (wTxt h0 h1 cI (t.1, (upd t.2 ((t.1).toNatClampNeg) k))) := hD
    refine lv_aload_n hx hb dX7_append_21 rfl (lv_at hl 0 rfl) ?_
    refine lv_dup hx hb dX7_append_22 rfl ?_
    refine va_get (D := D) (ci := 7) (v := .int t.1) (C := RX7) (T := TX7) (N := 2) hx hb hts hin_7 hown hK hP 0 rfl rfl 1 (by decide) fl_15 (fun _ h9 => h9) rfl dX7_append_23 ?_
    refine lv_iconst (v := 1) hx hb dX7_append_26 (by decide) ?_
    refine lv_iadd hx hb dX7_append_27 ?_
    refine va_put (D := D) (ci := 7) (v := .int (t.1 + 1)) (ty := .int) (C := RX7) (T := TX7) (N := 2) hx hb hts hin_7 tyX7 tyX7_ok nmX7 hown hK hP hD hS 0 rfl rfl 1 (by decide) fl_15 (fun _ h9 => h9) rfl (by decide +kernel) rfl rfl (Nat.le_of_ble_eq_true rfl) dX7_append_28 (fun H locs hP hD hS => ?_)
    have hP : va_P D vwCl (wTxt h0 h1 cI ((t.1 + 1), (upd t.2 ((t.1).toNatClampNeg) k))) H := hP
    have hD : va_D A (wTxt h0 h1 cI ((t.1 + 1), (upd t.2 ((t.1).toNatClampNeg) k))) := hD
    refine lv_iconst (v := 1) hx hb dX7_append_31 (by decide) ?_
    exact lf_z hx hb hr hlocks hQ ((t.1 + 1), (upd t.2 ((t.1).toNatClampNeg) k)) hP hD hS dX7_append_32 (by first | rfl | (rw [bI_f]; exact bI_n _) | exact bI_n _) ⟨(by first | with_reducible rfl | (simp only [tAppB, tApp, if_pos c_6, ↓reduceIte, bI_t, bI_f, reduceCtorEq]; done) | (subst_vars; simp only [tAppB, tApp, if_pos c_6, ↓reduceIte, bI_t, bI_f, reduceCtorEq]; done) | (simp [tAppB, tApp, c_6, bI_t, bI_f]; done)), (by first | with_reducible rfl | (simp only [tAppB, tApp, if_pos c_6, ↓reduceIte, bI_t, bI_f, reduceCtorEq]; done) | (subst_vars; simp only [tAppB, tApp, if_pos c_6, ↓reduceIte, bI_t, bI_f, reduceCtorEq]; done) | (simp [tAppB, tApp, c_6, bI_t, bI_f]; done))⟩
  · have i_6 := i_nlt c_6
    rw [(by decide : (100 : Int32).toInt = 100)] at i_6
    refine lv_iconst (v := 0) hx hb dX7_append_9 (by decide) ?_
    exact lf_z hx hb hr hlocks hQ t hP hD hS dX7_append_10 (by first | rfl | (rw [bI_f]; exact bI_n _) | exact bI_n _) ⟨(by first | with_reducible rfl | (simp only [tAppB, tApp, if_neg c_6, ↓reduceIte, bI_t, bI_f, reduceCtorEq]; done) | (subst_vars; simp only [tAppB, tApp, if_neg c_6, ↓reduceIte, bI_t, bI_f, reduceCtorEq]; done) | (simp [tAppB, tApp, c_6, bI_t, bI_f]; done)), (by first | with_reducible rfl | (simp only [tAppB, tApp, if_neg c_6, ↓reduceIte, bI_t, bI_f, reduceCtorEq]; done) | (subst_vars; simp only [tAppB, tApp, if_neg c_6, ↓reduceIte, bI_t, bI_f, reduceCtorEq]; done) | (simp [tAppB, tApp, c_6, bI_t, bI_f]; done))⟩
abbrev rm_X7_empty : Room := { frames := 0, cells := 0, slots := 0, locals := 0 }
set_option maxHeartbeats 4000000 in
set_option maxRecDepth 100000 in
theorem c_X7_empty (l : Launch) (D : va_G) (cI cJ cZ : ClassId) (h0 : Nat) (h1 : Nat) (sz : Nat) (t : Txt) : Met l yX7_empty wsX7_empty rm_X7_empty (va_Pc [.ref h0] (PU D (tyL cI cJ cZ) (wTxt h0 h1 cI t) sz)) (va_Qv (fun (uz : Txt) => uz = (0, t.2)) (fun uz => BU D (wTxt h0 h1 cI uz) (va_A (wTxt h0 h1 cI t) sz)) (va_A (wTxt h0 h1 cI t) sz)) 0 0 (va_A (wTxt h0 h1 cI t) sz) := by
  refine en (own := RX7) (Qc := fun A => va_Qv (fun (uz : Txt) => uz = (0, t.2)) (fun uz => BU D (wTxt h0 h1 cI uz) A) A) (by decide) rfl (Nat.le_of_ble_eq_true rfl) rfl ?_
  intro p e s m args below meth c A Q H locs ls hx hb hr hml hown hts hlocks hname hA hN hE hK hQ hP hD hS hl
  have hl : lv_has ls 1 [(0, .ref h0)] := hl
  have fl_15 := hts (.fieldLink RX7 15 "DanceStaffs$Text" "length" "I") (by decide +kernel)
  have hin_7 : ∀ w ∈ u_ws RX7 TX7 2, w ∈ wsX7_empty := by decide +kernel
  refine lv_aload_n hx hb dX7_empty_0 rfl (lv_at hl 0 rfl) ?_
  refine lv_iconst (v := 0) hx hb dX7_empty_1 (by decide) ?_
  refine va_put (D := D) (ci := 7) (v := .int 0) (ty := .int) (C := RX7) (T := TX7) (N := 2) hx hb hts hin_7 tyX7 tyX7_ok nmX7 hown hK hP hD hS 0 rfl rfl 1 (by decide) fl_15 (fun _ h9 => h9) rfl (by decide +kernel) rfl rfl (Nat.le_of_ble_eq_true rfl) dX7_empty_2 (fun H locs hP hD hS => ?_)
  have hP : va_P D vwCl (wTxt h0 h1 cI (0, t.2)) H := hP
  have hD : va_D A (wTxt h0 h1 cI (0, t.2)) := hD
  exact lf_v hx hb hr hlocks hQ (0, t.2) hP hD hS dX7_empty_5 (by first | with_reducible rfl | (simp only [↓reduceIte, bI_t, bI_f, reduceCtorEq]; done) | (subst_vars; simp only [↓reduceIte, bI_t, bI_f, reduceCtorEq]; done) | (simp [bI_t, bI_f]; done))
abbrev rm_X5_isStaff : Room := { frames := 0, cells := 0, slots := 0, locals := 0 }
set_option maxHeartbeats 4000000 in
set_option maxRecDepth 100000 in
theorem c_X5_isStaff (l : Launch) (D : va_G) (cI cJ cZ : ClassId) (sz : Nat) (d : Int32) : Met l yX5_isStaff wsX5_isStaff rm_X5_isStaff (va_Pc [.int d] (PU D (tyL cI cJ cZ) (([] : va_W)) sz)) (va_Qi (fun (rz : Int32) (_ : Unit) => rz = bI (isStf d)) (fun uz => BU D (([] : va_W)) (va_A (([] : va_W)) sz)) (va_A (([] : va_W)) sz)) 0 0 (va_A (([] : va_W)) sz) := by
  refine en (own := RX5) (Qc := fun A => va_Qi (fun (rz : Int32) (_ : Unit) => rz = bI (isStf d)) (fun uz => BU D (([] : va_W)) A) A) (by decide) rfl (Nat.le_of_ble_eq_true rfl) rfl ?_
  intro p e s m args below meth c A Q H locs ls hx hb hr hml hown hts hlocks hname hA hN hE hK hQ hP hD hS hl
  have hl : lv_has ls 1 [(0, .int d)] := hl
  refine lv_iload_n hx hb dX5_isStaff_0 rfl (lv_at hl 0 rfl) ?_
  refine lv_if_lt (tgt := 13) hx hb dX5_isStaff_1 (by decide) (fun c_1 => ?_) (fun c_1 => ?_)
  · have i_1 := i_lt c_1
    rw [(by decide : (0 : Int32).toInt = 0)] at i_1
    refine lv_iconst (v := 0) hx hb dX5_isStaff_13 (by decide) ?_
    exact lf_z hx hb hr hlocks hQ () hP hD hS dX5_isStaff_14 (by first | rfl | (rw [bI_f]; exact bI_n _) | exact bI_n _) (by first | with_reducible rfl | (simp only [isStf, if_pos c_1, ↓reduceIte, bI_t, bI_f, reduceCtorEq]; done) | (subst_vars; simp only [isStf, if_pos c_1, ↓reduceIte, bI_t, bI_f, reduceCtorEq]; done) | (simp [isStf, c_1, bI_t, bI_f]; done))
  · have i_1 := i_nlt c_1
    rw [(by decide : (0 : Int32).toInt = 0)] at i_1
    refine lv_iload_n hx hb dX5_isStaff_4 rfl (lv_at hl 0 rfl) ?_
    refine lv_iconst (v := 3) hx hb dX5_isStaff_5 (by decide) ?_
    refine lv_icmp_ge (tgt := 13) hx hb dX5_isStaff_6 (by decide) (fun c_6 => ?_) (fun c_6 => ?_)
    · have i_6 := i_le c_6
      rw [(by decide : (3 : Int32).toInt = 3)] at i_6
      refine lv_iconst (v := 0) hx hb dX5_isStaff_13 (by decide) ?_
      exact lf_z hx hb hr hlocks hQ () hP hD hS dX5_isStaff_14 (by first | rfl | (rw [bI_f]; exact bI_n _) | exact bI_n _) (by first | with_reducible rfl | (simp only [isStf, if_neg c_1, if_pos c_6, ↓reduceIte, bI_t, bI_f, reduceCtorEq]; done) | (subst_vars; simp only [isStf, if_neg c_1, if_pos c_6, ↓reduceIte, bI_t, bI_f, reduceCtorEq]; done) | (simp [isStf, c_1, c_6, bI_t, bI_f]; done))
    · have i_6 := i_nle c_6
      rw [(by decide : (3 : Int32).toInt = 3)] at i_6
      refine lv_iconst (v := 1) hx hb dX5_isStaff_9 (by decide) ?_
      refine lv_goto (tgt := 14) hx hb dX5_isStaff_10 (by decide) ?_
      exact lf_z hx hb hr hlocks hQ () hP hD hS dX5_isStaff_14 (by first | rfl | (rw [bI_f]; exact bI_n _) | exact bI_n _) (by first | with_reducible rfl | (simp only [isStf, if_neg c_1, if_neg c_6, ↓reduceIte, bI_t, bI_f, reduceCtorEq]; done) | (subst_vars; simp only [isStf, if_neg c_1, if_neg c_6, ↓reduceIte, bI_t, bI_f, reduceCtorEq]; done) | (simp [isStf, c_1, c_6, bI_t, bI_f]; done))
abbrev rm_X5_lengthOf : Room := { frames := 1, cells := 0, slots := 0, locals := 20 }
set_option maxHeartbeats 4000000 in
set_option maxRecDepth 100000 in
theorem c_X5_lengthOf (l : Launch) (D : va_G) (cI cJ cZ : ClassId) (h0 : Nat) (h1 : Nat) (h2 : Nat) (sz : Nat) (v : Stf) (d : Int32) : Met l yX5_lengthOf wsX5_lengthOf rm_X5_lengthOf (va_Pc [.ref h0, .int d] (PU D (tyL cI cJ cZ) (wStf h0 h1 h2 cI v) sz)) (va_Qi (fun (rz : Int32) (_ : Unit) => rz = sLen v d) (fun uz => BU D (wStf h0 h1 h2 cI v) (va_A (wStf h0 h1 h2 cI v) sz)) (va_A (wStf h0 h1 h2 cI v) sz)) 0 0 (va_A (wStf h0 h1 h2 cI v) sz) := by
  refine en (own := RX5) (Qc := fun A => va_Qi (fun (rz : Int32) (_ : Unit) => rz = sLen v d) (fun uz => BU D (wStf h0 h1 h2 cI v) A) A) (by decide) rfl (Nat.le_of_ble_eq_true rfl) rfl ?_
  intro p e s m args below meth c A Q H locs ls hx hb hr hml hown hts hlocks hname hA hN hE hK hQ hP hD hS hl
  have hl : lv_has ls 2 [(0, .ref h0), (1, .int d)] := hl
  have fl_15 := hts (.fieldLink RX5 15 "DanceStaffs$Staffs" "lengths" "[I") (by decide +kernel)
  have hin_5 : ∀ w ∈ u_ws RX5 TX5 2, w ∈ wsX5_lengthOf := by decide +kernel
  refine lv_iload_n hx hb dX5_lengthOf_0 rfl (lv_at hl 1 rfl) ?_
  refine st_i (va_runS (As := [.int d]) (rest := []) ⟨hx, hb, hml, hown, hts⟩ (c_X5_isStaff l D cI cJ cZ H.size d) (va_cwS 1 hts gX5_lengthOf_X5_isStaff rfl rfl rfl (by decide +kernel) ⟨Nat.le_of_ble_eq_true rfl, Nat.le_of_ble_eq_true rfl⟩) (pr_S hP hD hK hN hE hS hA [] (by decide) rfl) rfl rfl hl.1 rfl (lv_room (Nat.le_of_ble_eq_true rfl)) dX5_lengthOf_1 ⟨Nat.zero_le _, Nat.zero_le _⟩) hP hS hA (fun r_1 u_1 H locs hw_1 hP hS => ?_)
  have hr_1 := hw_1
  refine lv_if_eq (tgt := 16) hx hb dX5_lengthOf_4 (by decide) (fun c_4 => ?_) (fun c_4 => ?_)
  · have b_4 : (isStf d) = false := bI_0 (hr_1.symm.trans c_4)
    refine lv_iconst (v := 0) hx hb dX5_lengthOf_16 (by decide) ?_
    exact lf_i hx hb hr hlocks hQ () hP hD hS dX5_lengthOf_17 (by first | with_reducible rfl | (simp only [sLen, b_4, ← hr_1, ↓reduceIte, bI_t, bI_f, reduceCtorEq]; done) | (subst_vars; simp only [sLen, b_4, ↓reduceIte, bI_t, bI_f, reduceCtorEq]; done) | (simp [sLen, b_4, bI_t, bI_f]; done))
  · have b_4 : (isStf d) = true := bI_1 (fun q => c_4 (hr_1.trans q))
    refine lv_aload_n hx hb dX5_lengthOf_7 rfl (lv_at hl 0 rfl) ?_
    refine va_get (D := D) (ci := 5) (v := .ref h2) (C := RX5) (T := TX5) (N := 2) hx hb hts hin_5 hown hK hP 0 rfl rfl 1 (by decide) fl_15 (fun _ h9 => h9) rfl dX5_lengthOf_8 ?_
    refine lv_iload_n hx hb dX5_lengthOf_11 rfl (lv_at hl 1 rfl) ?_
    refine va_iald (D := D) (f := v.2) hx hb hK hP 2 0 rfl rfl (by obtain ⟨a1, a2⟩ := isStf_in b_4; exact vi_mk a1 a2) dX5_lengthOf_12 ?_
    refine lv_goto (tgt := 17) hx hb dX5_lengthOf_13 (by decide) ?_
    exact lf_i hx hb hr hlocks hQ () hP hD hS dX5_lengthOf_17 (by first | with_reducible rfl | (simp only [sLen, b_4, ← hr_1, ↓reduceIte, bI_t, bI_f, reduceCtorEq]; done) | (subst_vars; simp only [sLen, b_4, ↓reduceIte, bI_t, bI_f, reduceCtorEq]; done) | (simp [sLen, b_4, bI_t, bI_f]; done))
abbrev rm_X5_hasSign : Room := { frames := 1, cells := 0, slots := 0, locals := 20 }
set_option maxHeartbeats 4000000 in
set_option maxRecDepth 100000 in
theorem c_X5_hasSign (l : Launch) (D : va_G) (cI cJ cZ : ClassId) (h0 : Nat) (h1 : Nat) (h2 : Nat) (sz : Nat) (v : Stf) (d : Int32) (b : Int32) : Met l yX5_hasSign wsX5_hasSign rm_X5_hasSign (va_Pc [.ref h0, .int d, .int b] (PU D (tyL cI cJ cZ) (wStf h0 h1 h2 cI v) sz)) (va_Qi (fun (rz : Int32) (_ : Unit) => rz = bI (sHas v d b)) (fun uz => BU D (wStf h0 h1 h2 cI v) (va_A (wStf h0 h1 h2 cI v) sz)) (va_A (wStf h0 h1 h2 cI v) sz)) 0 0 (va_A (wStf h0 h1 h2 cI v) sz) := by
  refine en (own := RX5) (Qc := fun A => va_Qi (fun (rz : Int32) (_ : Unit) => rz = bI (sHas v d b)) (fun uz => BU D (wStf h0 h1 h2 cI v) A) A) (by decide) rfl (Nat.le_of_ble_eq_true rfl) rfl ?_
  intro p e s m args below meth c A Q H locs ls hx hb hr hml hown hts hlocks hname hA hN hE hK hQ hP hD hS hl
  have hl : lv_has ls 3 [(0, .ref h0), (1, .int d), (2, .int b)] := hl
  have fl_15 := hts (.fieldLink RX5 15 "DanceStaffs$Staffs" "lengths" "[I") (by decide +kernel)
  have hin_5 : ∀ w ∈ u_ws RX5 TX5 2, w ∈ wsX5_hasSign := by decide +kernel
  refine lv_iload_n hx hb dX5_hasSign_0 rfl (lv_at hl 1 rfl) ?_
  refine st_i (va_runS (As := [.int d]) (rest := []) ⟨hx, hb, hml, hown, hts⟩ (c_X5_isStaff l D cI cJ cZ H.size d) (va_cwS 1 hts gX5_hasSign_X5_isStaff rfl rfl rfl (by decide +kernel) ⟨Nat.le_of_ble_eq_true rfl, Nat.le_of_ble_eq_true rfl⟩) (pr_S hP hD hK hN hE hS hA [] (by decide) rfl) rfl rfl hl.1 rfl (lv_room (Nat.le_of_ble_eq_true rfl)) dX5_hasSign_1 ⟨Nat.zero_le _, Nat.zero_le _⟩) hP hS hA (fun r_1 u_1 H locs hw_1 hP hS => ?_)
  have hr_1 := hw_1
  refine lv_if_eq (tgt := 25) hx hb dX5_hasSign_4 (by decide) (fun c_4 => ?_) (fun c_4 => ?_)
  · have b_4 : (isStf d) = false := bI_0 (hr_1.symm.trans c_4)
    refine lv_iconst (v := 0) hx hb dX5_hasSign_25 (by decide) ?_
    exact lf_z hx hb hr hlocks hQ () hP hD hS dX5_hasSign_26 (by first | rfl | (rw [bI_f]; exact bI_n _) | exact bI_n _) (by first | with_reducible rfl | (simp only [sHas, b_4, ← hr_1, ↓reduceIte, bI_t, bI_f, reduceCtorEq]; done) | (subst_vars; simp only [sHas, b_4, ↓reduceIte, bI_t, bI_f, reduceCtorEq]; done) | (simp [sHas, b_4, bI_t, bI_f]; done))
  · have b_4 : (isStf d) = true := bI_1 (fun q => c_4 (hr_1.trans q))
    refine lv_iload_n hx hb dX5_hasSign_7 rfl (lv_at hl 2 rfl) ?_
    refine lv_if_lt (tgt := 25) hx hb dX5_hasSign_8 (by decide) (fun c_8 => ?_) (fun c_8 => ?_)
    · have i_8 := i_lt c_8
      rw [(by decide : (0 : Int32).toInt = 0)] at i_8
      refine lv_iconst (v := 0) hx hb dX5_hasSign_25 (by decide) ?_
      exact lf_z hx hb hr hlocks hQ () hP hD hS dX5_hasSign_26 (by first | rfl | (rw [bI_f]; exact bI_n _) | exact bI_n _) (by first | with_reducible rfl | (simp only [sHas, b_4, if_pos c_8, ← hr_1, ↓reduceIte, bI_t, bI_f, reduceCtorEq]; done) | (subst_vars; simp only [sHas, b_4, if_pos c_8, ↓reduceIte, bI_t, bI_f, reduceCtorEq]; done) | (simp [sHas, b_4, c_8, bI_t, bI_f]; done))
    · have i_8 := i_nlt c_8
      rw [(by decide : (0 : Int32).toInt = 0)] at i_8
      refine lv_iload_n hx hb dX5_hasSign_11 rfl (lv_at hl 2 rfl) ?_
      refine lv_aload_n hx hb dX5_hasSign_12 rfl (lv_at hl 0 rfl) ?_
      refine va_get (D := D) (ci := 5) (v := .ref h2) (C := RX5) (T := TX5) (N := 2) hx hb hts hin_5 hown hK hP 0 rfl rfl 1 (by decide) fl_15 (fun _ h9 => h9) rfl dX5_hasSign_13 ?_
      refine lv_iload_n hx hb dX5_hasSign_16 rfl (lv_at hl 1 rfl) ?_
      refine va_iald (D := D) (f := v.2) hx hb hK hP 2 0 rfl rfl (by obtain ⟨a1, a2⟩ := isStf_in b_4; exact vi_mk a1 a2) dX5_hasSign_17 ?_
      refine lv_icmp_ge (tgt := 25) hx hb dX5_hasSign_18 (by decide) (fun c_18 => ?_) (fun c_18 => ?_)
      · have i_18 := i_le c_18
        refine lv_iconst (v := 0) hx hb dX5_hasSign_25 (by decide) ?_
        exact lf_z hx hb hr hlocks hQ () hP hD hS dX5_hasSign_26 (by first | rfl | (rw [bI_f]; exact bI_n _) | exact bI_n _) (by first | with_reducible rfl | (simp only [sHas, b_4, if_neg c_8, if_pos c_18, ← hr_1, ↓reduceIte, bI_t, bI_f, reduceCtorEq]; done) | (subst_vars; simp only [sHas, b_4, if_neg c_8, if_pos c_18, ↓reduceIte, bI_t, bI_f, reduceCtorEq]; done) | (simp [sHas, b_4, c_8, c_18, bI_t, bI_f]; done))
      · have i_18 := i_nle c_18
        refine lv_iconst (v := 1) hx hb dX5_hasSign_21 (by decide) ?_
        refine lv_goto (tgt := 26) hx hb dX5_hasSign_22 (by decide) ?_
        exact lf_z hx hb hr hlocks hQ () hP hD hS dX5_hasSign_26 (by first | rfl | (rw [bI_f]; exact bI_n _) | exact bI_n _) (by first | with_reducible rfl | (simp only [sHas, b_4, if_neg c_8, if_neg c_18, ← hr_1, ↓reduceIte, bI_t, bI_f, reduceCtorEq]; done) | (subst_vars; simp only [sHas, b_4, if_neg c_8, if_neg c_18, ↓reduceIte, bI_t, bI_f, reduceCtorEq]; done) | (simp [sHas, b_4, c_8, c_18, bI_t, bI_f]; done))
abbrev rm_X5_signAt : Room := { frames := 2, cells := 0, slots := 0, locals := 42 }
set_option maxHeartbeats 4000000 in
set_option maxRecDepth 100000 in
theorem c_X5_signAt (l : Launch) (D : va_G) (cI cJ cZ : ClassId) (h0 : Nat) (h1 : Nat) (h2 : Nat) (sz : Nat) (v : Stf) (d : Int32) (b : Int32) (hok : StfOk v) : Met l yX5_signAt wsX5_signAt rm_X5_signAt (va_Pc [.ref h0, .int d, .int b] (PU D (tyL cI cJ cZ) (wStf h0 h1 h2 cI v) sz)) (va_Qi (fun (rz : Int32) (_ : Unit) => rz = sAt v d b) (fun uz => BU D (wStf h0 h1 h2 cI v) (va_A (wStf h0 h1 h2 cI v) sz)) (va_A (wStf h0 h1 h2 cI v) sz)) 0 0 (va_A (wStf h0 h1 h2 cI v) sz) := by
  refine en (own := RX5) (Qc := fun A => va_Qi (fun (rz : Int32) (_ : Unit) => rz = sAt v d b) (fun uz => BU D (wStf h0 h1 h2 cI v) A) A) (by decide) rfl (Nat.le_of_ble_eq_true rfl) rfl ?_
  intro p e s m args below meth c A Q H locs ls hx hb hr hml hown hts hlocks hname hA hN hE hK hQ hP hD hS hl
  have hl : lv_has ls 3 [(0, .ref h0), (1, .int d), (2, .int b)] := hl
  have fl_9 := hts (.fieldLink RX5 9 "DanceStaffs$Staffs" "signs" "[I") (by decide +kernel)
  have hin_5 : ∀ w ∈ u_ws RX5 TX5 2, w ∈ wsX5_signAt := by decide +kernel
  refine lv_aload_n hx hb dX5_signAt_0 rfl (lv_at hl 0 rfl) ?_
  refine lv_iload_n hx hb dX5_signAt_1 rfl (lv_at hl 1 rfl) ?_
  refine lv_iload_n hx hb dX5_signAt_2 rfl (lv_at hl 2 rfl) ?_
  refine jn_i (W2 := fun _ => wStf h0 h1 h2 cI v) (va_runV (As := [.int d, .int b]) (rest := []) ⟨hx, hb, hml, hown, hts⟩ (c_X5_hasSign l D cI cJ cZ h0 h1 h2 H.size v d b) (cwV 2 hts gX5_signAt_X5_hasSign rfl rfl rfl (by decide +kernel) ⟨Nat.le_of_ble_eq_true rfl, Nat.le_of_ble_eq_true rfl⟩) (pr_V hP hD hK hN hE hS hA [0, 1, 2] (by decide) rfl (ci := 5) (q0 := 0) rfl rfl) rfl rfl hl.1 rfl (lv_room (Nat.le_of_ble_eq_true rfl)) dX5_signAt_3 ⟨Nat.zero_le _, Nat.zero_le _⟩) hP hD hS hA [0, 1, 2] [] [0, 1, 2] rfl rfl (by decide) (by decide) (by decide) (fun _ => rfl) (fun r_3 u_3 H locs hw_3 hP hD hS => ?_)
  have hP : va_P D vwCl (wStf h0 h1 h2 cI v) H := hP
  have hD : va_D A (wStf h0 h1 h2 cI v) := hD
  have hr_3 := hw_3
  refine lv_if_eq (tgt := 23) hx hb dX5_signAt_6 (by decide) (fun c_6 => ?_) (fun c_6 => ?_)
  · have b_6 : (sHas v d b) = false := bI_0 (hr_3.symm.trans c_6)
    refine lv_bipush (v := (-9)) hx hb dX5_signAt_23 (by decide) ?_
    exact lf_i hx hb hr hlocks hQ () hP hD hS dX5_signAt_25 (by first | with_reducible rfl | (simp only [sAt, b_6, ← hr_3, ↓reduceIte, bI_t, bI_f, reduceCtorEq]; done) | (subst_vars; simp only [sAt, b_6, ↓reduceIte, bI_t, bI_f, reduceCtorEq]; done) | (simp [sAt, b_6, bI_t, bI_f]; done))
  · have b_6 : (sHas v d b) = true := bI_1 (fun q => c_6 (hr_3.trans q))
    obtain ⟨a1, a2, a3, a4⟩ := sHas_in hok b_6
    refine lv_aload_n hx hb dX5_signAt_9 rfl (lv_at hl 0 rfl) ?_
    refine va_get (D := D) (ci := 5) (v := .ref h1) (C := RX5) (T := TX5) (N := 2) hx hb hts hin_5 hown hK hP 0 rfl rfl 0 (by decide) fl_9 (fun _ h9 => h9) rfl dX5_signAt_10 ?_
    refine lv_iload_n hx hb dX5_signAt_13 rfl (lv_at hl 1 rfl) ?_
    refine lv_bipush (v := 10) hx hb dX5_signAt_14 (by decide) ?_
    refine lv_imul hx hb dX5_signAt_16 ?_
    refine lv_iload_n hx hb dX5_signAt_17 rfl (lv_at hl 2 rfl) ?_
    refine lv_iadd hx hb dX5_signAt_18 ?_
    refine va_iald (D := D) (f := v.1) hx hb hK hP 1 0 rfl rfl (by have q0 : (10 : Int32).toInt = 10 := (by decide); have q1 : (d * 10).toInt = d.toInt * 10 := (by rw [ti_mul (by rw [q0]; omega) (by rw [q0]; omega), q0]); have q2 : ((d * 10) + b).toInt = (d.toInt * 10) + b.toInt := (by rw [ti_add (by rw [q1]; omega) (by rw [q1]; omega), q1]); exact vi_mk (by rw [q2]; omega) (by rw [q2]; omega)) dX5_signAt_19 ?_
    refine lv_goto (tgt := 25) hx hb dX5_signAt_20 (by decide) ?_
    exact lf_i hx hb hr hlocks hQ () hP hD hS dX5_signAt_25 (by first | with_reducible rfl | (simp only [sAt, b_6, ← hr_3, ↓reduceIte, bI_t, bI_f, reduceCtorEq]; done) | (subst_vars; simp only [sAt, b_6, ↓reduceIte, bI_t, bI_f, reduceCtorEq]; done) | (simp [sAt, b_6, bI_t, bI_f]; done))
abbrev rm_X5_replace : Room := { frames := 2, cells := 0, slots := 0, locals := 42 }
set_option maxHeartbeats 4000000 in
set_option maxRecDepth 100000 in
theorem c_X5_replace (l : Launch) (D : va_G) (cI cJ cZ : ClassId) (h0 : Nat) (h1 : Nat) (h2 : Nat) (sz : Nat) (v : Stf) (d : Int32) (b : Int32) (k : Int32) (hok : StfOk v) : Met l yX5_replace wsX5_replace rm_X5_replace (va_Pc [.ref h0, .int d, .int b, .int k] (PU D (tyL cI cJ cZ) (wStf h0 h1 h2 cI v) sz)) (va_Qv (fun (uz : Stf) => uz = sRep v d b k) (fun uz => BU D (wStf h0 h1 h2 cI uz) (va_A (wStf h0 h1 h2 cI v) sz)) (va_A (wStf h0 h1 h2 cI v) sz)) 0 0 (va_A (wStf h0 h1 h2 cI v) sz) := by
  refine en (own := RX5) (Qc := fun A => va_Qv (fun (uz : Stf) => uz = sRep v d b k) (fun uz => BU D (wStf h0 h1 h2 cI uz) A) A) (by decide) rfl (Nat.le_of_ble_eq_true rfl) rfl ?_
  intro p e s m args below meth c A Q H locs ls hx hb hr hml hown hts hlocks hname hA hN hE hK hQ hP hD hS hl
  have hl : lv_has ls 4 [(0, .ref h0), (1, .int d), (2, .int b), (3, .int k)] := hl
  have fl_9 := hts (.fieldLink RX5 9 "DanceStaffs$Staffs" "signs" "[I") (by decide +kernel)
  have hin_5 : ∀ w ∈ u_ws RX5 TX5 2, w ∈ wsX5_replace := by decide +kernel
  refine lv_aload_n hx hb dX5_replace_0 rfl (lv_at hl 0 rfl) ?_
  refine lv_iload_n hx hb dX5_replace_1 rfl (lv_at hl 1 rfl) ?_
  refine lv_iload_n hx hb dX5_replace_2 rfl (lv_at hl 2 rfl) ?_
  refine jn_i (W2 := fun _ => wStf h0 h1 h2 cI v) (va_runV (As := [.int d, .int b]) (rest := []) ⟨hx, hb, hml, hown, hts⟩ (c_X5_hasSign l D cI cJ cZ h0 h1 h2 H.size v d b) (cwV 2 hts gX5_replace_X5_hasSign rfl rfl rfl (by decide +kernel) ⟨Nat.le_of_ble_eq_true rfl, Nat.le_of_ble_eq_true rfl⟩) (pr_V hP hD hK hN hE hS hA [0, 1, 2] (by decide) rfl (ci := 5) (q0 := 0) rfl rfl) rfl rfl hl.1 rfl (lv_room (Nat.le_of_ble_eq_true rfl)) dX5_replace_3 ⟨Nat.zero_le _, Nat.zero_le _⟩) hP hD hS hA [0, 1, 2] [] [0, 1, 2] rfl rfl (by decide) (by decide) (by decide) (fun _ => rfl) (fun r_3 u_3 H locs hw_3 hP hD hS => ?_)
  have hP : va_P D vwCl (wStf h0 h1 h2 cI v) H := hP
  have hD : va_D A (wStf h0 h1 h2 cI v) := hD
  have hr_3 := hw_3
  refine lv_if_eq (tgt := 21) hx hb dX5_replace_6 (by decide) (fun c_6 => ?_) (fun c_6 => ?_)
  · have b_6 : (sHas v d b) = false := bI_0 (hr_3.symm.trans c_6)
    exact lf_v hx hb hr hlocks hQ v hP hD hS dX5_replace_21 (by first | with_reducible rfl | (simp only [sRep, b_6, ← hr_3, ↓reduceIte, bI_t, bI_f, reduceCtorEq]; done) | (subst_vars; simp only [sRep, b_6, ↓reduceIte, bI_t, bI_f, reduceCtorEq]; done) | (simp [sRep, b_6, bI_t, bI_f]; done))
  · have b_6 : (sHas v d b) = true := bI_1 (fun q => c_6 (hr_3.trans q))
    obtain ⟨a1, a2, a3, a4⟩ := sHas_in hok b_6
    refine lv_aload_n hx hb dX5_replace_9 rfl (lv_at hl 0 rfl) ?_
    refine va_get (D := D) (ci := 5) (v := .ref h1) (C := RX5) (T := TX5) (N := 2) hx hb hts hin_5 hown hK hP 0 rfl rfl 0 (by decide) fl_9 (fun _ h9 => h9) rfl dX5_replace_10 ?_
    refine lv_iload_n hx hb dX5_replace_13 rfl (lv_at hl 1 rfl) ?_
    refine lv_bipush (v := 10) hx hb dX5_replace_14 (by decide) ?_
    refine lv_imul hx hb dX5_replace_16 ?_
    refine lv_iload_n hx hb dX5_replace_17 rfl (lv_at hl 2 rfl) ?_
    refine lv_iadd hx hb dX5_replace_18 ?_
    refine lv_iload_n hx hb dX5_replace_19 rfl (lv_at hl 3 rfl) ?_
    refine va_iast (D := D) (f := v.1) hx hb hK hP hD hS 1 0 rfl rfl (by have q0 : (10 : Int32).toInt = 10 := (by decide); have q1 : (d * 10).toInt = d.toInt * 10 := (by rw [ti_mul (by rw [q0]; omega) (by rw [q0]; omega), q0]); have q2 : ((d * 10) + b).toInt = (d.toInt * 10) + b.toInt := (by rw [ti_add (by rw [q1]; omega) (by rw [q1]; omega), q1]); exact vi_mk (by rw [q2]; omega) (by rw [q2]; omega)) dX5_replace_20 (fun H locs hP hD hS => ?_)
    have hP : va_P D vwCl (wStf h0 h1 h2 cI ((upd v.1 (((d * 10) + b).toNatClampNeg) k), v.2)) H := hP
    have hD : va_D A (wStf h0 h1 h2 cI ((upd v.1 (((d * 10) + b).toNatClampNeg) k), v.2)) := hD
    exact lf_v hx hb hr hlocks hQ ((upd v.1 (((d * 10) + b).toNatClampNeg) k), v.2) hP hD hS dX5_replace_21 (by first | with_reducible rfl | (simp only [sRep, b_6, ← hr_3, ↓reduceIte, bI_t, bI_f, reduceCtorEq]; done) | (subst_vars; simp only [sRep, b_6, ↓reduceIte, bI_t, bI_f, reduceCtorEq]; done) | (simp [sRep, b_6, bI_t, bI_f]; done))
abbrev rm_X5_setLength : Room := { frames := 1, cells := 0, slots := 0, locals := 20 }
set_option maxHeartbeats 4000000 in
set_option maxRecDepth 100000 in
theorem c_X5_setLength (l : Launch) (D : va_G) (cI cJ cZ : ClassId) (h0 : Nat) (h1 : Nat) (h2 : Nat) (sz : Nat) (v : Stf) (d : Int32) (n : Int32) : Met l yX5_setLength wsX5_setLength rm_X5_setLength (va_Pc [.ref h0, .int d, .int n] (PU D (tyL cI cJ cZ) (wStf h0 h1 h2 cI v) sz)) (va_Qv (fun (uz : Stf) => uz = sSet v d n) (fun uz => BU D (wStf h0 h1 h2 cI uz) (va_A (wStf h0 h1 h2 cI v) sz)) (va_A (wStf h0 h1 h2 cI v) sz)) 0 0 (va_A (wStf h0 h1 h2 cI v) sz) := by
  refine en (own := RX5) (Qc := fun A => va_Qv (fun (uz : Stf) => uz = sSet v d n) (fun uz => BU D (wStf h0 h1 h2 cI uz) A) A) (by decide) rfl (Nat.le_of_ble_eq_true rfl) rfl ?_
  intro p e s m args below meth c A Q H locs ls hx hb hr hml hown hts hlocks hname hA hN hE hK hQ hP hD hS hl
  have hl : lv_has ls 3 [(0, .ref h0), (1, .int d), (2, .int n)] := hl
  have fl_15 := hts (.fieldLink RX5 15 "DanceStaffs$Staffs" "lengths" "[I") (by decide +kernel)
  have hin_5 : ∀ w ∈ u_ws RX5 TX5 2, w ∈ wsX5_setLength := by decide +kernel
  refine lv_iload_n hx hb dX5_setLength_0 rfl (lv_at hl 1 rfl) ?_
  refine st_i (va_runS (As := [.int d]) (rest := []) ⟨hx, hb, hml, hown, hts⟩ (c_X5_isStaff l D cI cJ cZ H.size d) (va_cwS 1 hts gX5_setLength_X5_isStaff rfl rfl rfl (by decide +kernel) ⟨Nat.le_of_ble_eq_true rfl, Nat.le_of_ble_eq_true rfl⟩) (pr_S hP hD hK hN hE hS hA [] (by decide) rfl) rfl rfl hl.1 rfl (lv_room (Nat.le_of_ble_eq_true rfl)) dX5_setLength_1 ⟨Nat.zero_le _, Nat.zero_le _⟩) hP hS hA (fun r_1 u_1 H locs hw_1 hP hS => ?_)
  have hr_1 := hw_1
  refine lv_if_eq (tgt := 24) hx hb dX5_setLength_4 (by decide) (fun c_4 => ?_) (fun c_4 => ?_)
  · have b_4 : (isStf d) = false := bI_0 (hr_1.symm.trans c_4)
    exact lf_v hx hb hr hlocks hQ v hP hD hS dX5_setLength_24 (by first | with_reducible rfl | (simp only [sSet, b_4, ← hr_1, ↓reduceIte, bI_t, bI_f, reduceCtorEq]; done) | (subst_vars; simp only [sSet, b_4, ↓reduceIte, bI_t, bI_f, reduceCtorEq]; done) | (simp [sSet, b_4, bI_t, bI_f]; done))
  · have b_4 : (isStf d) = true := bI_1 (fun q => c_4 (hr_1.trans q))
    obtain ⟨a1, a2⟩ := isStf_in b_4
    refine lv_iload_n hx hb dX5_setLength_7 rfl (lv_at hl 2 rfl) ?_
    refine lv_if_lt (tgt := 24) hx hb dX5_setLength_8 (by decide) (fun c_8 => ?_) (fun c_8 => ?_)
    · have i_8 := i_lt c_8
      rw [(by decide : (0 : Int32).toInt = 0)] at i_8
      exact lf_v hx hb hr hlocks hQ v hP hD hS dX5_setLength_24 (by first | with_reducible rfl | (simp only [sSet, b_4, if_pos c_8, ← hr_1, ↓reduceIte, bI_t, bI_f, reduceCtorEq]; done) | (subst_vars; simp only [sSet, b_4, if_pos c_8, ↓reduceIte, bI_t, bI_f, reduceCtorEq]; done) | (simp [sSet, b_4, c_8, bI_t, bI_f]; done))
    · have i_8 := i_nlt c_8
      rw [(by decide : (0 : Int32).toInt = 0)] at i_8
      refine lv_iload_n hx hb dX5_setLength_11 rfl (lv_at hl 2 rfl) ?_
      refine lv_bipush (v := 10) hx hb dX5_setLength_12 (by decide) ?_
      refine lv_icmp_gt (tgt := 24) hx hb dX5_setLength_14 (by decide) (fun c_14 => ?_) (fun c_14 => ?_)
      · have i_14 := i_lt c_14
        rw [(by decide : (10 : Int32).toInt = 10)] at i_14
        exact lf_v hx hb hr hlocks hQ v hP hD hS dX5_setLength_24 (by first | with_reducible rfl | (simp only [sSet, b_4, if_neg c_8, if_pos c_14, ← hr_1, ↓reduceIte, bI_t, bI_f, reduceCtorEq]; done) | (subst_vars; simp only [sSet, b_4, if_neg c_8, if_pos c_14, ↓reduceIte, bI_t, bI_f, reduceCtorEq]; done) | (simp [sSet, b_4, c_8, c_14, bI_t, bI_f]; done))
      · have i_14 := i_nlt c_14
        rw [(by decide : (10 : Int32).toInt = 10)] at i_14
        refine lv_aload_n hx hb dX5_setLength_17 rfl (lv_at hl 0 rfl) ?_
        refine va_get (D := D) (ci := 5) (v := .ref h2) (C := RX5) (T := TX5) (N := 2) hx hb hts hin_5 hown hK hP 0 rfl rfl 1 (by decide) fl_15 (fun _ h9 => h9) rfl dX5_setLength_18 ?_
        refine lv_iload_n hx hb dX5_setLength_21 rfl (lv_at hl 1 rfl) ?_
        refine lv_iload_n hx hb dX5_setLength_22 rfl (lv_at hl 2 rfl) ?_
        refine va_iast (D := D) (f := v.2) hx hb hK hP hD hS 2 0 rfl rfl (by exact vi_mk (by omega) (by omega)) dX5_setLength_23 (fun H locs hP hD hS => ?_)
        have hP : va_P D vwCl (wStf h0 h1 h2 cI (v.1, (upd v.2 ((d).toNatClampNeg) n))) H := hP
        have hD : va_D A (wStf h0 h1 h2 cI (v.1, (upd v.2 ((d).toNatClampNeg) n))) := hD
        exact lf_v hx hb hr hlocks hQ (v.1, (upd v.2 ((d).toNatClampNeg) n)) hP hD hS dX5_setLength_24 (by first | with_reducible rfl | (simp only [sSet, b_4, if_neg c_8, if_neg c_14, ← hr_1, ↓reduceIte, bI_t, bI_f, reduceCtorEq]; done) | (subst_vars; simp only [sSet, b_4, if_neg c_8, if_neg c_14, ↓reduceIte, bI_t, bI_f, reduceCtorEq]; done) | (simp [sSet, b_4, c_8, c_14, bI_t, bI_f]; done))
