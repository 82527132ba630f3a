abbrev rm_X9_directionOf : Room := { frames := 0, cells := 0, slots := 0, locals := 0 }
set_option maxHeartbeats 4000000 in
set_option maxRecDepth 100000 in
theorem c_X9_directionOf (l : Launch) (D : va_G) (cI cJ cZ : ClassId) (sz : Nat) (k : Int32) : Met l yX9_directionOf wsX9_directionOf rm_X9_directionOf (va_Pc [.int k] (PU D (tyL cI cJ cZ) (([] : va_W)) sz)) (va_Qi (fun (rz : Int32) (_ : Unit) => rz = dirOf k) (fun uz => BU D (([] : va_W)) (va_A (([] : va_W)) sz)) (va_A (([] : va_W)) sz)) 0 0 (va_A (([] : va_W)) sz) := by
  refine en (own := RX9) (Qc := fun A => va_Qi (fun (rz : Int32) (_ : Unit) => rz = dirOf k) (fun uz => BU D (([] : va_W)) A) A) (by decide) rfl (Nat.le_of_ble_eq_true rfl) rfl ?_
  intro p e s m args below meth c A Q H locs ls hx hb hr hml hown hts hlocks hname hA hN hE hK hQ hP hD hS hl
  have hl : lv_has ls 1 [(0, .int k)] := hl
  refine lv_iload_n hx hb dX9_directionOf_0 rfl (lv_at hl 0 rfl) ?_
  refine lv_iconst (v := 2) hx hb dX9_directionOf_1 (by decide) ?_
  refine lv_isub hx hb dX9_directionOf_2 ?_
  refine lv_bipush (v := 8) hx hb dX9_directionOf_3 (by decide) ?_
  refine lv_irem hx hb dX9_directionOf_5 (by decide) ?_
  exact lf_i hx hb hr hlocks hQ () hP hD hS dX9_directionOf_6 (by first | with_reducible rfl | (simp only [dirOf, ↓reduceIte, bI_t, bI_f, reduceCtorEq]; done) | (subst_vars; simp only [dirOf, ↓reduceIte, bI_t, bI_f, reduceCtorEq]; done) | (simp [dirOf, bI_t, bI_f]; done))
abbrev rm_X9_isOnFloor : Room := { frames := 0, cells := 0, slots := 0, locals := 0 }
set_option maxHeartbeats 4000000 in
set_option maxRecDepth 100000 in
theorem c_X9_isOnFloor (l : Launch) (D : va_G) (cI cJ cZ : ClassId) (sz : Nat) (x : Int32) (y : Int32) : Met l yX9_isOnFloor wsX9_isOnFloor rm_X9_isOnFloor (va_Pc [.int x, .int y] (PU D (tyL cI cJ cZ) (([] : va_W)) sz)) (va_Qi (fun (rz : Int32) (_ : Unit) => rz = bI (onFl x y)) (fun uz => BU D (([] : va_W)) (va_A (([] : va_W)) sz)) (va_A (([] : va_W)) sz)) 0 0 (va_A (([] : va_W)) sz) := by
  refine en (own := RX9) (Qc := fun A => va_Qi (fun (rz : Int32) (_ : Unit) => rz = bI (onFl x y)) (fun uz => BU D (([] : va_W)) A) A) (by decide) rfl (Nat.le_of_ble_eq_true rfl) rfl ?_
  intro p e s m args below meth c A Q H locs ls hx hb hr hml hown hts hlocks hname hA hN hE hK hQ hP hD hS hl
  have hl : lv_has ls 2 [(0, .int x), (1, .int y)] := hl
  refine lv_iload_n hx hb dX9_isOnFloor_0 rfl (lv_at hl 0 rfl) ?_
  refine lv_if_lt (tgt := 24) hx hb dX9_isOnFloor_1 (by decide) (fun c_1 => ?_) (fun c_1 => ?_)
  · have i_1 := i_lt c_1
    rw [(by decide : (0 : Int32).toInt = 0)] at i_1
    refine lv_iconst (v := 0) hx hb dX9_isOnFloor_24 (by decide) ?_
    exact lf_z hx hb hr hlocks hQ () hP hD hS dX9_isOnFloor_25 (by first | rfl | (rw [bI_f]; exact bI_n _) | exact bI_n _) (by first | with_reducible rfl | (simp only [onFl, if_pos c_1, ↓reduceIte, bI_t, bI_f, reduceCtorEq]; done) | (subst_vars; simp only [onFl, if_pos c_1, ↓reduceIte, bI_t, bI_f, reduceCtorEq]; done) | (simp [onFl, c_1, bI_t, bI_f]; done))
  · have i_1 := i_nlt c_1
    rw [(by decide : (0 : Int32).toInt = 0)] at i_1
    refine lv_iload_n hx hb dX9_isOnFloor_4 rfl (lv_at hl 0 rfl) ?_
    refine lv_bipush (v := 7) hx hb dX9_isOnFloor_5 (by decide) ?_
    refine lv_icmp_ge (tgt := 24) hx hb dX9_isOnFloor_7 (by decide) (fun c_7 => ?_) (fun c_7 => ?_)
    · have i_7 := i_le c_7
      rw [(by decide : (7 : Int32).toInt = 7)] at i_7
      refine lv_iconst (v := 0) hx hb dX9_isOnFloor_24 (by decide) ?_
      exact lf_z hx hb hr hlocks hQ () hP hD hS dX9_isOnFloor_25 (by first | rfl | (rw [bI_f]; exact bI_n _) | exact bI_n _) (by first | with_reducible rfl | (simp only [onFl, if_neg c_1, if_pos c_7, ↓reduceIte, bI_t, bI_f, reduceCtorEq]; done) | (subst_vars; simp only [onFl, if_neg c_1, if_pos c_7, ↓reduceIte, bI_t, bI_f, reduceCtorEq]; done) | (simp [onFl, c_1, c_7, bI_t, bI_f]; done))
    · have i_7 := i_nle c_7
      rw [(by decide : (7 : Int32).toInt = 7)] at i_7
      refine lv_iload_n hx hb dX9_isOnFloor_10 rfl (lv_at hl 1 rfl) ?_
      refine lv_if_lt (tgt := 24) hx hb dX9_isOnFloor_11 (by decide) (fun c_11 => ?_) (fun c_11 => ?_)
      · have i_11 := i_lt c_11
        rw [(by decide : (0 : Int32).toInt = 0)] at i_11
        refine lv_iconst (v := 0) hx hb dX9_isOnFloor_24 (by decide) ?_
        exact lf_z hx hb hr hlocks hQ () hP hD hS dX9_isOnFloor_25 (by first | rfl | (rw [bI_f]; exact bI_n _) | exact bI_n _) (by first | with_reducible rfl | (simp only [onFl, if_neg c_1, if_neg c_7, if_pos c_11, ↓reduceIte, bI_t, bI_f, reduceCtorEq]; done) | (subst_vars; simp only [onFl, if_neg c_1, if_neg c_7, if_pos c_11, ↓reduceIte, bI_t, bI_f, reduceCtorEq]; done) | (simp [onFl, c_1, c_7, c_11, bI_t, bI_f]; done))
      · have i_11 := i_nlt c_11
        rw [(by decide : (0 : Int32).toInt = 0)] at i_11
        refine lv_iload_n hx hb dX9_isOnFloor_14 rfl (lv_at hl 1 rfl) ?_
        refine lv_bipush (v := 7) hx hb dX9_isOnFloor_15 (by decide) ?_
        refine lv_icmp_ge (tgt := 24) hx hb dX9_isOnFloor_17 (by decide) (fun c_17 => ?_) (fun c_17 => ?_)
        · have i_17 := i_le c_17
          rw [(by decide : (7 : Int32).toInt = 7)] at i_17
          refine lv_iconst (v := 0) hx hb dX9_isOnFloor_24 (by decide) ?_
          exact lf_z hx hb hr hlocks hQ () hP hD hS dX9_isOnFloor_25 (by first | rfl | (rw [bI_f]; exact bI_n _) | exact bI_n _) (by first | with_reducible rfl | (simp only [onFl, if_neg c_1, if_neg c_7, if_neg c_11, if_pos c_17, ↓reduceIte, bI_t, bI_f, reduceCtorEq]; done) | (subst_vars; simp only [onFl, if_neg c_1, if_neg c_7, if_neg c_11, if_pos c_17, ↓reduceIte, bI_t, bI_f, reduceCtorEq]; done) | (simp [onFl, c_1, c_7, c_11, c_17, bI_t, bI_f]; done))
        · have i_17 := i_nle c_17
          rw [(by decide : (7 : Int32).toInt = 7)] at i_17
          refine lv_iconst (v := 1) hx hb dX9_isOnFloor_20 (by decide) ?_
          refine lv_goto (tgt := 25) hx hb dX9_isOnFloor_21 (by decide) ?_
          exact lf_z hx hb hr hlocks hQ () hP hD hS dX9_isOnFloor_25 (by first | rfl | (rw [bI_f]; exact bI_n _) | exact bI_n _) (by first | with_reducible rfl | (simp only [onFl, if_neg c_1, if_neg c_7, if_neg c_11, if_neg c_17, ↓reduceIte, bI_t, bI_f, reduceCtorEq]; done) | (subst_vars; simp only [onFl, if_neg c_1, if_neg c_7, if_neg c_11, if_neg c_17, ↓reduceIte, bI_t, bI_f, reduceCtorEq]; done) | (simp [onFl, c_1, c_7, c_11, c_17, bI_t, bI_f]; done))
abbrev rm_X9_isMoment : Room := { frames := 0, cells := 0, slots := 0, locals := 0 }
set_option maxHeartbeats 4000000 in
set_option maxRecDepth 100000 in
theorem c_X9_isMoment (l : Launch) (D : va_G) (cI cJ cZ : ClassId) (sz : Nat) (n : Int32) : Met l yX9_isMoment wsX9_isMoment rm_X9_isMoment (va_Pc [.int n] (PU D (tyL cI cJ cZ) (([] : va_W)) sz)) (va_Qi (fun (rz : Int32) (_ : Unit) => rz = bI (isMom n)) (fun uz => BU D (([] : va_W)) (va_A (([] : va_W)) sz)) (va_A (([] : va_W)) sz)) 0 0 (va_A (([] : va_W)) sz) := by
  refine en (own := RX9) (Qc := fun A => va_Qi (fun (rz : Int32) (_ : Unit) => rz = bI (isMom n)) (fun uz => BU D (([] : va_W)) A) A) (by decide) rfl (Nat.le_of_ble_eq_true rfl) rfl ?_
  intro p e s m args below meth c A Q H locs ls hx hb hr hml hown hts hlocks hname hA hN hE hK hQ hP hD hS hl
  have hl : lv_has ls 1 [(0, .int n)] := hl
  refine lv_iload_n hx hb dX9_isMoment_0 rfl (lv_at hl 0 rfl) ?_
  refine lv_if_lt (tgt := 14) hx hb dX9_isMoment_1 (by decide) (fun c_1 => ?_) (fun c_1 => ?_)
  · have i_1 := i_lt c_1
    rw [(by decide : (0 : Int32).toInt = 0)] at i_1
    refine lv_iconst (v := 0) hx hb dX9_isMoment_14 (by decide) ?_
    exact lf_z hx hb hr hlocks hQ () hP hD hS dX9_isMoment_15 (by first | rfl | (rw [bI_f]; exact bI_n _) | exact bI_n _) (by first | with_reducible rfl | (simp only [isMom, if_pos c_1, ↓reduceIte, bI_t, bI_f, reduceCtorEq]; done) | (subst_vars; simp only [isMom, if_pos c_1, ↓reduceIte, bI_t, bI_f, reduceCtorEq]; done) | (simp [isMom, c_1, bI_t, bI_f]; done))
  · have i_1 := i_nlt c_1
    rw [(by decide : (0 : Int32).toInt = 0)] at i_1
    refine lv_iload_n hx hb dX9_isMoment_4 rfl (lv_at hl 0 rfl) ?_
    refine lv_bipush (v := 10) hx hb dX9_isMoment_5 (by decide) ?_
    refine lv_icmp_gt (tgt := 14) hx hb dX9_isMoment_7 (by decide) (fun c_7 => ?_) (fun c_7 => ?_)
    · have i_7 := i_lt c_7
      rw [(by decide : (10 : Int32).toInt = 10)] at i_7
      refine lv_iconst (v := 0) hx hb dX9_isMoment_14 (by decide) ?_
      exact lf_z hx hb hr hlocks hQ () hP hD hS dX9_isMoment_15 (by first | rfl | (rw [bI_f]; exact bI_n _) | exact bI_n _) (by first | with_reducible rfl | (simp only [isMom, if_neg c_1, if_pos c_7, ↓reduceIte, bI_t, bI_f, reduceCtorEq]; done) | (subst_vars; simp only [isMom, if_neg c_1, if_pos c_7, ↓reduceIte, bI_t, bI_f, reduceCtorEq]; done) | (simp [isMom, c_1, c_7, bI_t, bI_f]; done))
    · have i_7 := i_nlt c_7
      rw [(by decide : (10 : Int32).toInt = 10)] at i_7
      refine lv_iconst (v := 1) hx hb dX9_isMoment_10 (by decide) ?_
      refine lv_goto (tgt := 15) hx hb dX9_isMoment_11 (by decide) ?_
      exact lf_z hx hb hr hlocks hQ () hP hD hS dX9_isMoment_15 (by first | rfl | (rw [bI_f]; exact bI_n _) | exact bI_n _) (by first | with_reducible rfl | (simp only [isMom, if_neg c_1, if_neg c_7, ↓reduceIte, bI_t, bI_f, reduceCtorEq]; done) | (subst_vars; simp only [isMom, if_neg c_1, if_neg c_7, ↓reduceIte, bI_t, bI_f, reduceCtorEq]; done) | (simp [isMom, c_1, c_7, bI_t, bI_f]; done))
abbrev rm_X9_isSign : Room := { frames := 0, cells := 0, slots := 0, locals := 0 }
set_option maxHeartbeats 4000000 in
set_option maxRecDepth 100000 in
theorem c_X9_isSign (l : Launch) (D : va_G) (cI cJ cZ : ClassId) (sz : Nat) (n : Int32) : Met l yX9_isSign wsX9_isSign rm_X9_isSign (va_Pc [.int n] (PU D (tyL cI cJ cZ) (([] : va_W)) sz)) (va_Qi (fun (rz : Int32) (_ : Unit) => rz = bI (isSgn n)) (fun uz => BU D (([] : va_W)) (va_A (([] : va_W)) sz)) (va_A (([] : va_W)) sz)) 0 0 (va_A (([] : va_W)) sz) := by
  refine en (own := RX9) (Qc := fun A => va_Qi (fun (rz : Int32) (_ : Unit) => rz = bI (isSgn n)) (fun uz => BU D (([] : va_W)) A) A) (by decide) rfl (Nat.le_of_ble_eq_true rfl) rfl ?_
  intro p e s m args below meth c A Q H locs ls hx hb hr hml hown hts hlocks hname hA hN hE hK hQ hP hD hS hl
  have hl : lv_has ls 1 [(0, .int n)] := hl
  refine lv_iload_n hx hb dX9_isSign_0 rfl (lv_at hl 0 rfl) ?_
  refine lv_if_lt (tgt := 14) hx hb dX9_isSign_1 (by decide) (fun c_1 => ?_) (fun c_1 => ?_)
  · have i_1 := i_lt c_1
    rw [(by decide : (0 : Int32).toInt = 0)] at i_1
    refine lv_iconst (v := 0) hx hb dX9_isSign_14 (by decide) ?_
    exact lf_z hx hb hr hlocks hQ () hP hD hS dX9_isSign_15 (by first | rfl | (rw [bI_f]; exact bI_n _) | exact bI_n _) (by first | with_reducible rfl | (simp only [isSgn, if_pos c_1, ↓reduceIte, bI_t, bI_f, reduceCtorEq]; done) | (subst_vars; simp only [isSgn, if_pos c_1, ↓reduceIte, bI_t, bI_f, reduceCtorEq]; done) | (simp [isSgn, c_1, bI_t, bI_f]; done))
  · have i_1 := i_nlt c_1
    rw [(by decide : (0 : Int32).toInt = 0)] at i_1
    refine lv_iload_n hx hb dX9_isSign_4 rfl (lv_at hl 0 rfl) ?_
    refine lv_bipush (v := 32) hx hb dX9_isSign_5 (by decide) ?_
    refine lv_icmp_gt (tgt := 14) hx hb dX9_isSign_7 (by decide) (fun c_7 => ?_) (fun c_7 => ?_)
    · have i_7 := i_lt c_7
      rw [(by decide : (32 : Int32).toInt = 32)] at i_7
      refine lv_iconst (v := 0) hx hb dX9_isSign_14 (by decide) ?_
      exact lf_z hx hb hr hlocks hQ () hP hD hS dX9_isSign_15 (by first | rfl | (rw [bI_f]; exact bI_n _) | exact bI_n _) (by first | with_reducible rfl | (simp only [isSgn, if_neg c_1, if_pos c_7, ↓reduceIte, bI_t, bI_f, reduceCtorEq]; done) | (subst_vars; simp only [isSgn, if_neg c_1, if_pos c_7, ↓reduceIte, bI_t, bI_f, reduceCtorEq]; done) | (simp [isSgn, c_1, c_7, bI_t, bI_f]; done))
    · have i_7 := i_nlt c_7
      rw [(by decide : (32 : Int32).toInt = 32)] at i_7
      refine lv_iconst (v := 1) hx hb dX9_isSign_10 (by decide) ?_
      refine lv_goto (tgt := 15) hx hb dX9_isSign_11 (by decide) ?_
      exact lf_z hx hb hr hlocks hQ () hP hD hS dX9_isSign_15 (by first | rfl | (rw [bI_f]; exact bI_n _) | exact bI_n _) (by first | with_reducible rfl | (simp only [isSgn, if_neg c_1, if_neg c_7, ↓reduceIte, bI_t, bI_f, reduceCtorEq]; done) | (subst_vars; simp only [isSgn, if_neg c_1, if_neg c_7, ↓reduceIte, bI_t, bI_f, reduceCtorEq]; done) | (simp [isSgn, c_1, c_7, bI_t, bI_f]; done))
abbrev rm_X6_set : Room := { frames := 0, cells := 0, slots := 0, locals := 0 }
set_option maxHeartbeats 4000000 in
set_option maxRecDepth 100000 in
theorem c_X6_set (l : Launch) (D : va_G) (cI cJ cZ : ClassId) (h0 : Nat) (sz : Nat) (v : Stg) (x : Int32) (y : Int32) (w : Int32) (z : Int32) : Met l yX6_set wsX6_set rm_X6_set (va_Pc [.ref h0, .int x, .int y, .int w, .int z] (PU D (tyL cI cJ cZ) (wStg h0 v) sz)) (va_Qv (fun (uz : Stg) => uz = (x, y, w, z)) (fun uz => BU D (wStg h0 uz) (va_A (wStg h0 v) sz)) (va_A (wStg h0 v) sz)) 0 0 (va_A (wStg h0 v) sz) := by
  refine en (own := RX6) (Qc := fun A => va_Qv (fun (uz : Stg) => uz = (x, y, w, z)) (fun uz => BU D (wStg h0 uz) A) A) (by decide) rfl (Nat.le_of_ble_eq_true rfl) rfl ?_
  intro p e s m args below meth c A Q H locs ls hx hb hr hml hown hts hlocks hname hA hN hE hK hQ hP hD hS hl
  have hl : lv_has ls 5 [(0, .ref h0), (1, .int x), (2, .int y), (3, .int w), (4, .int z)] := hl
  have fl_9 := hts (.fieldLink RX6 9 "DanceStaffs$Standing" "x" "I") (by decide +kernel)
  have hin_6 : ∀ w ∈ u_ws RX6 TX6 4, w ∈ wsX6_set := by decide +kernel
  have fl_15 := hts (.fieldLink RX6 15 "DanceStaffs$Standing" "y" "I") (by decide +kernel)
  have fl_18 := hts (.fieldLink RX6 18 "DanceStaffs$Standing" "looks" "I") (by decide +kernel)
  have fl_21 := hts (.fieldLink RX6 21 "DanceStaffs$Standing" "weight" "I") (by decide +kernel)
  refine lv_aload_n hx hb dX6_set_0 rfl (lv_at hl 0 rfl) ?_
  refine lv_iload_n hx hb dX6_set_1 rfl (lv_at hl 1 rfl) ?_
  refine va_put (D := D) (ci := 6) (v := .int x) (ty := .int) (C := RX6) (T := TX6) (N := 4) hx hb hts hin_6 tyX6 tyX6_ok nmX6 hown hK hP hD hS 0 rfl rfl 0 (by decide) fl_9 (fun _ h9 => h9) rfl (by decide +kernel) rfl rfl (Nat.le_of_ble_eq_true rfl) dX6_set_2 (fun H locs hP hD hS => ?_)
  have hP : va_P D vwCl (wStg h0 (x, v.2)) H := hP
  have hD : va_D A (wStg h0 (x, v.2)) := hD
  refine lv_aload_n hx hb dX6_set_5 rfl (lv_at hl 0 rfl) ?_
  refine lv_iload_n hx hb dX6_set_6 rfl (lv_at hl 2 rfl) ?_
  refine va_put (D := D) (ci := 6) (v := .int y) (ty := .int) (C := RX6) (T := TX6) (N := 4) hx hb hts hin_6 tyX6 tyX6_ok nmX6 hown hK hP hD hS 0 rfl rfl 1 (by decide) fl_15 (fun _ h9 => h9) rfl (by decide +kernel) rfl rfl (Nat.le_of_ble_eq_true rfl) dX6_set_7 (fun H locs hP hD hS => ?_)
  have hP : va_P D vwCl (wStg h0 (x, y, v.2.2)) H := hP
  have hD : va_D A (wStg h0 (x, y, v.2.2)) := hD
  refine lv_aload_n hx hb dX6_set_10 rfl (lv_at hl 0 rfl) ?_
  refine lv_iload_n hx hb dX6_set_11 rfl (lv_at hl 3 rfl) ?_
  refine va_put (D := D) (ci := 6) (v := .int w) (ty := .int) (C := RX6) (T := TX6) (N := 4) hx hb hts hin_6 tyX6 tyX6_ok nmX6 hown hK hP hD hS 0 rfl rfl 2 (by decide) fl_18 (fun _ h9 => h9) rfl (by decide +kernel) rfl rfl (Nat.le_of_ble_eq_true rfl) dX6_set_12 (fun H locs hP hD hS => ?_)
  have hP : va_P D vwCl (wStg h0 (x, y, w, v.2.2.2)) H := hP
  have hD : va_D A (wStg h0 (x, y, w, v.2.2.2)) := hD
  refine lv_aload_n hx hb dX6_set_15 rfl (lv_at hl 0 rfl) ?_
  refine lv_iload hx hb dX6_set_16 (lv_at hl 4 rfl) ?_
  refine va_put (D := D) (ci := 6) (v := .int z) (ty := .int) (C := RX6) (T := TX6) (N := 4) hx hb hts hin_6 tyX6 tyX6_ok nmX6 hown hK hP hD hS 0 rfl rfl 3 (by decide) fl_21 (fun _ h9 => h9) rfl (by decide +kernel) rfl rfl (Nat.le_of_ble_eq_true rfl) dX6_set_18 (fun H locs hP hD hS => ?_)
  have hP : va_P D vwCl (wStg h0 (x, y, w, z)) H := hP
  have hD : va_D A (wStg h0 (x, y, w, z)) := hD
  exact lf_v hx hb hr hlocks hQ (x, y, w, z) hP hD hS dX6_set_21 (by first | with_reducible rfl | (simp only [↓reduceIte, bI_t, bI_f, reduceCtorEq]; done) | (subst_vars; simp only [↓reduceIte, bI_t, bI_f, reduceCtorEq]; done) | (simp [bI_t, bI_f]; done))
abbrev rm_X6_copyFrom : Room := { frames := 1, cells := 0, slots := 0, locals := 24 }
set_option maxHeartbeats 4000000 in
set_option maxRecDepth 100000 in
theorem c_X6_copyFrom (l : Launch) (D : va_G) (cI cJ cZ : ClassId) (h0 : Nat) (g0 : Nat) (sz : Nat) (v : Stg) (g : Stg) : Met l yX6_copyFrom wsX6_copyFrom rm_X6_copyFrom (va_Pc [.ref h0, .ref g0] (PU D (tyL cI cJ cZ) (wStg h0 v ++ wStg g0 g) sz)) (va_Qv (fun (uz : Stg) => uz = g) (fun uz => BU D (wStg h0 uz ++ wStg g0 g) (va_A (wStg h0 v ++ wStg g0 g) sz)) (va_A (wStg h0 v ++ wStg g0 g) sz)) 0 0 (va_A (wStg h0 v ++ wStg g0 g) sz) := by
  refine en (own := RX6) (Qc := fun A => va_Qv (fun (uz : Stg) => uz = g) (fun uz => BU D (wStg h0 uz ++ wStg g0 g) A) A) (by decide) rfl (Nat.le_of_ble_eq_true rfl) rfl ?_
  intro p e s m args below meth c A Q H locs ls hx hb hr hml hown hts hlocks hname hA hN hE hK hQ hP hD hS hl
  have hl : lv_has ls 2 [(0, .ref h0), (1, .ref g0)] := hl
  have fl_9 := hts (.fieldLink RX6 9 "DanceStaffs$Standing" "x" "I") (by decide +kernel)
  have hin_6 : ∀ w ∈ u_ws RX6 TX6 4, w ∈ wsX6_copyFrom := by decide +kernel
  have fl_15 := hts (.fieldLink RX6 15 "DanceStaffs$Standing" "y" "I") (by decide +kernel)
  have fl_18 := hts (.fieldLink RX6 18 "DanceStaffs$Standing" "looks" "I") (by decide +kernel)
  have fl_21 := hts (.fieldLink RX6 21 "DanceStaffs$Standing" "weight" "I") (by decide +kernel)
  refine lv_aload_n hx hb dX6_copyFrom_0 rfl (lv_at hl 0 rfl) ?_
  refine lv_aload_n hx hb dX6_copyFrom_1 rfl (lv_at hl 1 rfl) ?_
  refine va_get (D := D) (ci := 6) (v := .int g.1) (C := RX6) (T := TX6) (N := 4) hx hb hts hin_6 hown hK hP 1 rfl rfl 0 (by decide) fl_9 (fun _ h9 => h9) rfl dX6_copyFrom_2 ?_
  refine lv_aload_n hx hb dX6_copyFrom_5 rfl (lv_at hl 1 rfl) ?_
  refine va_get (D := D) (ci := 6) (v := .int g.2.1) (C := RX6) (T := TX6) (N := 4) hx hb hts hin_6 hown hK hP 1 rfl rfl 1 (by decide) fl_15 (fun _ h9 => h9) rfl dX6_copyFrom_6 ?_
  refine lv_aload_n hx hb dX6_copyFrom_9 rfl (lv_at hl 1 rfl) ?_
  refine va_get (D := D) (ci := 6) (v := .int g.2.2.1) (C := RX6) (T := TX6) (N := 4) hx hb hts hin_6 hown hK hP 1 rfl rfl 2 (by decide) fl_18 (fun _ h9 => h9) rfl dX6_copyFrom_10 ?_
  refine lv_aload_n hx hb dX6_copyFrom_13 rfl (lv_at hl 1 rfl) ?_
  refine va_get (D := D) (ci := 6) (v := .int g.2.2.2) (C := RX6) (T := TX6) (N := 4) hx hb hts hin_6 hown hK hP 1 rfl rfl 3 (by decide) fl_21 (fun _ h9 => h9) rfl dX6_copyFrom_14 ?_
  refine jn_v (W2 := fun u_17 => wStg h0 u_17 ++ wStg g0 g) (va_runV (As := [.int g.1, .int g.2.1, .int g.2.2.1, .int g.2.2.2]) (rest := []) ⟨hx, hb, hml, hown, hts⟩ (c_X6_set l D cI cJ cZ h0 H.size v g.1 g.2.1 g.2.2.1 g.2.2.2) (cwV 4 hts gX6_copyFrom_X6_set rfl rfl rfl (by decide +kernel) ⟨Nat.le_of_ble_eq_true rfl, Nat.le_of_ble_eq_true rfl⟩) (pr_V hP hD hK hN hE hS hA [0] (by decide) rfl (ci := 6) (q0 := 0) rfl rfl) rfl rfl hl.1 rfl (lv_room (Nat.le_of_ble_eq_true rfl)) dX6_copyFrom_17 ⟨Nat.zero_le _, Nat.zero_le _⟩) hP hD hS hA [0] [1] [1, 0] rfl rfl (by decide) (by decide) (by decide) (fun _ => rfl) (fun u_17 H locs hw_17 hP hD hS => ?_)
  have hP : va_P D vwCl (wStg h0 u_17 ++ wStg g0 g) H := hP
  have hD : va_D A (wStg h0 u_17 ++ wStg g0 g) := hD
  have hu_17 := hw_17
  exact lf_v hx hb hr hlocks hQ u_17 hP hD hS dX6_copyFrom_20 (by first | with_reducible rfl | (simp only [← hu_17, ↓reduceIte, bI_t, bI_f, reduceCtorEq]; done) | (subst_vars; simp only [↓reduceIte, bI_t, bI_f, reduceCtorEq]; done) | (simp [bI_t, bI_f]; done))
abbrev rm_X6_goBy : Room := { frames := 1, cells := 0, slots := 0, locals := 24 }
set_option maxHeartbeats 4000000 in
set_option maxRecDepth 100000 in
theorem c_X6_goBy (l : Launch) (D : va_G) (cI cJ cZ : ClassId) (h0 : Nat) (sz : Nat) (v : Stg) (b : Int32) (w : Int32) : Met l yX6_goBy wsX6_goBy rm_X6_goBy (va_Pc [.ref h0, .int b, .int w] (PU D (tyL cI cJ cZ) (wStg h0 v) sz)) (va_Qi (fun (rz : Int32) (uz : Stg) => rz = bI (goB v b) ∧ uz = goS v b w) (fun uz => BU D (wStg h0 uz) (va_A (wStg h0 v) sz)) (va_A (wStg h0 v) sz)) 0 0 (va_A (wStg h0 v) sz) := by
  refine en (own := RX6) (Qc := fun A => va_Qi (fun (rz : Int32) (uz : Stg) => rz = bI (goB v b) ∧ uz = goS v b w) (fun uz => BU D (wStg h0 uz) A) A) (by decide) rfl (Nat.le_of_ble_eq_true rfl) rfl ?_
  intro p e s m args below meth c A Q H locs ls hx hb hr hml hown hts hlocks hname hA hN hE hK hQ hP hD hS hl
  have hl : lv_has ls 6 [(0, .ref h0), (1, .int b), (2, .int w)] := hl
  have fl_18 := hts (.fieldLink RX6 18 "DanceStaffs$Standing" "looks" "I") (by decide +kernel)
  have hin_6 : ∀ w ∈ u_ws RX6 TX6 4, w ∈ wsX6_goBy := by decide +kernel
  have fl_9 := hts (.fieldLink RX6 9 "DanceStaffs$Standing" "x" "I") (by decide +kernel)
  obtain ⟨tX, tY, hZ_tX, hT_tX, hZ_tY, hT_tY⟩ := id hE
  have fl_15 := hts (.fieldLink RX6 15 "DanceStaffs$Standing" "y" "I") (by decide +kernel)
  have ini_9 := hts (.initialized RX9) (by decide +kernel)
  have stt_X9_isOnFloor := hts (.static yX9_isOnFloor) (by decide +kernel)
  refine lv_aload_n hx hb dX6_goBy_0 rfl (lv_at hl 0 rfl) ?_
  refine va_get (D := D) (ci := 6) (v := .int v.2.2.1) (C := RX6) (T := TX6) (N := 4) hx hb hts hin_6 hown hK hP 0 rfl rfl 2 (by decide) fl_18 (fun _ h9 => h9) rfl dX6_goBy_1 ?_
  refine lv_iload_n hx hb dX6_goBy_4 rfl (lv_at hl 1 rfl) ?_
  refine lv_iadd hx hb dX6_goBy_5 ?_
  refine lv_bipush (v := 7) hx hb dX6_goBy_6 (by decide) ?_
  refine lv_iand hx hb dX6_goBy_8 ?_
  refine lv_istore_n (lv' := [(3, .int ((v.2.2.1 + b) &&& 7)), (0, .ref h0), (1, .int b), (2, .int w)]) hx hb dX6_goBy_9 rfl hl (by decide) rfl (fun ls hl => ?_)
  refine lv_aload_n hx hb dX6_goBy_10 rfl (lv_at hl 1 rfl) ?_
  refine va_get (D := D) (ci := 6) (v := .int v.1) (C := RX6) (T := TX6) (N := 4) hx hb hts hin_6 hown hK hP 0 rfl rfl 0 (by decide) fl_9 (fun _ h9 => h9) rfl dX6_goBy_11 ?_
  refine va_getsN hx hb hZ_tX hS hown (nw_fuse hN 16 rfl) (fun _ h9 => h9) dX6_goBy_14 ?_
  refine lv_iload_n hx hb dX6_goBy_17 rfl (lv_at hl 0 rfl) ?_
  refine va_ti (v := .int (xdv (((v.2.2.1 + b) &&& 7)).toNatClampNeg)) hx hb hT_tX hS (and7_in _) rfl dX6_goBy_18 ?_
  refine lv_iadd hx hb dX6_goBy_19 ?_
  refine lv_istore (lv' := [(4, .int (v.1 + (xdv (((v.2.2.1 + b) &&& 7)).toNatClampNeg))), (3, .int ((v.2.2.1 + b) &&& 7)), (0, .ref h0), (1, .int b), (2, .int w)]) hx hb dX6_goBy_20 hl (by decide) rfl (fun ls hl => ?_)
  refine lv_aload_n hx hb dX6_goBy_22 rfl (lv_at hl 2 rfl) ?_
  refine va_get (D := D) (ci := 6) (v := .int v.2.1) (C := RX6) (T := TX6) (N := 4) hx hb hts hin_6 hown hK hP 0 rfl rfl 1 (by decide) fl_15 (fun _ h9 => h9) rfl dX6_goBy_23 ?_
  refine va_getsN hx hb hZ_tY hS hown (nw_fuse hN 15 rfl) (fun _ h9 => h9) dX6_goBy_26 ?_
  refine lv_iload_n hx hb dX6_goBy_29 rfl (lv_at hl 1 rfl) ?_
  refine va_ti (v := .int (ydv (((v.2.2.1 + b) &&& 7)).toNatClampNeg)) hx hb hT_tY hS (and7_in _) rfl dX6_goBy_30 ?_
  refine lv_iadd hx hb dX6_goBy_31 ?_
  refine lv_istore (lv' := [(5, .int (v.2.1 + (ydv (((v.2.2.1 + b) &&& 7)).toNatClampNeg))), (4, .int (v.1 + (xdv (((v.2.2.1 + b) &&& 7)).toNatClampNeg))), (3, .int ((v.2.2.1 + b) &&& 7)), (0, .ref h0), (1, .int b), (2, .int w)]) hx hb dX6_goBy_32 hl (by decide) rfl (fun ls hl => ?_)
  refine lv_iload hx hb dX6_goBy_34 (lv_at hl 1 rfl) ?_
  refine lv_iload hx hb dX6_goBy_36 (lv_at hl 0 rfl) ?_
  refine st_i (va_runSN (As := [.int (v.1 + (xdv (((v.2.2.1 + b) &&& 7)).toNatClampNeg)), .int (v.2.1 + (ydv (((v.2.2.1 + b) &&& 7)).toNatClampNeg))]) (rest := []) ⟨hx, hb, hml, hown, hts⟩ (c_X9_isOnFloor l D cI cJ cZ H.size (v.1 + (xdv (((v.2.2.1 + b) &&& 7)).toNatClampNeg)) (v.2.1 + (ydv (((v.2.2.1 + b) &&& 7)).toNatClampNeg))) ⟨va_cnB 2 hts gX6_goBy_X9_isOnFloor_n43 rfl rfl rfl (nw_m hN 1 rfl) ini_9 (by decide +kernel) ⟨Nat.le_of_ble_eq_true rfl, Nat.le_of_ble_eq_true rfl⟩, stt_X9_isOnFloor, trivial⟩ (pr_S hP hD hK hN hE hS hA [] (by decide) rfl) rfl rfl hl.1 rfl (lv_room (Nat.le_of_ble_eq_true rfl)) dX6_goBy_38 ⟨Nat.zero_le _, Nat.zero_le _⟩) hP hS hA (fun r_38 u_38 H locs hw_38 hP hS => ?_)
  have hr_38 := hw_38
  refine lv_if_ne (tgt := 46) hx hb dX6_goBy_41 (by decide) (fun c_41 => ?_) (fun c_41 => ?_)
  · have b_41 : (onFl (v.1 + (xdv (((v.2.2.1 + b) &&& 7)).toNatClampNeg)) (v.2.1 + (ydv (((v.2.2.1 + b) &&& 7)).toNatClampNeg))) = true := bI_1 (fun q => c_41 (hr_38.trans q))
    refine lv_aload_n hx hb dX6_goBy_46 rfl (lv_at hl 3 rfl) ?_
    refine lv_iload hx hb dX6_goBy_47 (lv_at hl 1 rfl) ?_
    refine lv_iload hx hb dX6_goBy_49 (lv_at hl 0 rfl) ?_
    refine lv_aload_n hx hb dX6_goBy_51 rfl (lv_at hl 3 rfl) ?_
    refine va_get (D := D) (ci := 6) (v := .int v.2.2.1) (C := RX6) (T := TX6) (N := 4) hx hb hts hin_6 hown hK hP 0 rfl rfl 2 (by decide) fl_18 (fun _ h9 => h9) rfl dX6_goBy_52 ?_
    refine lv_iload_n hx hb dX6_goBy_55 rfl (lv_at hl 5 rfl) ?_
    refine jn_v (W2 := fun u_56 => wStg h0 u_56) (va_runV (As := [.int (v.1 + (xdv (((v.2.2.1 + b) &&& 7)).toNatClampNeg)), .int (v.2.1 + (ydv (((v.2.2.1 + b) &&& 7)).toNatClampNeg)), .int v.2.2.1, .int w]) (rest := []) ⟨hx, hb, hml, hown, hts⟩ (c_X6_set l D cI cJ cZ h0 H.size v (v.1 + (xdv (((v.2.2.1 + b) &&& 7)).toNatClampNeg)) (v.2.1 + (ydv (((v.2.2.1 + b) &&& 7)).toNatClampNeg)) v.2.2.1 w) (cwV 4 hts gX6_goBy_X6_set rfl rfl rfl (by decide +kernel) ⟨Nat.le_of_ble_eq_true rfl, Nat.le_of_ble_eq_true rfl⟩) (pr_V hP hD hK hN hE hS hA [0] (by decide) rfl (ci := 6) (q0 := 0) rfl rfl) rfl rfl hl.1 rfl (lv_room (Nat.le_of_ble_eq_true rfl)) dX6_goBy_56 ⟨Nat.zero_le _, Nat.zero_le _⟩) hP hD hS hA [0] [] [0] rfl rfl (by decide) (by decide) (by decide) (fun _ => rfl) (fun u_56 H locs hw_56 hP hD hS => ?_)
    have hP : va_P D vwCl (wStg h0 u_56) H := hP
    have hD : va_D A (wStg h0 u_56) := hD
    have hu_56 := hw_56
    refine lv_iconst (v := 1) hx hb dX6_goBy_59 (by decide) ?_
    exact lf_z hx hb hr hlocks hQ u_56 hP hD hS dX6_goBy_60 (by first | rfl | (rw [bI_f]; exact bI_n _) | exact bI_n _) ⟨(by first | with_reducible rfl | (simp only [goB, goS, gX, gY, b_41, ← hu_56, ← hr_38, ↓reduceIte, bI_t, bI_f, reduceCtorEq]; done) | (subst_vars; simp only [goB, goS, gX, gY, b_41, ↓reduceIte, bI_t, bI_f, reduceCtorEq]; done) | (simp [goB, goS, gX, gY, b_41, bI_t, bI_f]; done)), (by first | with_reducible rfl | (simp only [goB, goS, gX, gY, b_41, ← hu_56, ← hr_38, ↓reduceIte, bI_t, bI_f, reduceCtorEq]; done) | (subst_vars; simp only [goB, goS, gX, gY, b_41, ↓reduceIte, bI_t, bI_f, reduceCtorEq]; done) | (simp [goB, goS, gX, gY, b_41, bI_t, bI_f]; done))⟩
  · have b_41 : (onFl (v.1 + (xdv (((v.2.2.1 + b) &&& 7)).toNatClampNeg)) (v.2.1 + (ydv (((v.2.2.1 + b) &&& 7)).toNatClampNeg))) = false := bI_0 (hr_38.symm.trans c_41)
    refine lv_iconst (v := 0) hx hb dX6_goBy_44 (by decide) ?_
    exact lf_z hx hb hr hlocks hQ v hP hD hS dX6_goBy_45 (by first | rfl | (rw [bI_f]; exact bI_n _) | exact bI_n _) ⟨(by first | with_reducible rfl | (simp only [goB, goS, gX, gY, b_41, ← hr_38, ↓reduceIte, bI_t, bI_f, reduceCtorEq]; done) | (subst_vars; simp only [goB, goS, gX, gY, b_41, ↓reduceIte, bI_t, bI_f, reduceCtorEq]; done) | (simp [goB, goS, gX, gY, b_41, bI_t, bI_f]; done)), (by first | with_reducible rfl | (simp only [goB, goS, gX, gY, b_41, ← hr_38, ↓reduceIte, bI_t, bI_f, reduceCtorEq]; done) | (subst_vars; simp only [goB, goS, gX, gY, b_41, ↓reduceIte, bI_t, bI_f, reduceCtorEq]; done) | (simp [goB, goS, gX, gY, b_41, bI_t, bI_f]; done))⟩
abbrev rm_X6_take : Room := { frames := 2, cells := 0, slots := 0, locals := 49 }
set_option maxHeartbeats 4000000 in
set_option maxRecDepth 100000 in
theorem c_X6_take (l : Launch) (D : va_G) (cI cJ cZ : ClassId) (h0 : Nat) (sz : Nat) (v : Stg) (k : Int32) : Met l yX6_take wsX6_take rm_X6_take (va_Pc [.ref h0, .int k] (PU D (tyL cI cJ cZ) (wStg h0 v) sz)) (va_Qi (fun (rz : Int32) (uz : Stg) => rz = bI (tkB v k) ∧ uz = tkS v k) (fun uz => BU D (wStg h0 uz) (va_A (wStg h0 v) sz)) (va_A (wStg h0 v) sz)) 0 0 (va_A (wStg h0 v) sz) := by
  refine en (own := RX6) (Qc := fun A => va_Qi (fun (rz : Int32) (uz : Stg) => rz = bI (tkB v k) ∧ uz = tkS v k) (fun uz => BU D (wStg h0 uz) A) A) (by decide) rfl (Nat.le_of_ble_eq_true rfl) rfl ?_
  intro p e s m args below meth c A Q H locs ls hx hb hr hml hown hts hlocks hname hA hN hE hK hQ hP hD hS hl
  have hl : lv_has ls 3 [(0, .ref h0), (1, .int k)] := hl
  have fl_21 := hts (.fieldLink RX6 21 "DanceStaffs$Standing" "weight" "I") (by decide +kernel)
  have hin_6 : ∀ w ∈ u_ws RX6 TX6 4, w ∈ wsX6_take := by decide +kernel
  have ini_9 := hts (.initialized RX9) (by decide +kernel)
  have stt_X9_directionOf := hts (.static yX9_directionOf) (by decide +kernel)
  have fl_18 := hts (.fieldLink RX6 18 "DanceStaffs$Standing" "looks" "I") (by decide +kernel)
  refine lv_iload_n hx hb dX6_take_0 rfl (lv_at hl 1 rfl) ?_
  refine lv_if_ne (tgt := 6) hx hb dX6_take_1 (by decide) (fun c_1 => ?_) (fun c_1 => ?_)
  · have i_1 := i_ne c_1
    rw [(by decide : (0 : Int32).toInt = 0)] at i_1
    refine lv_iload_n hx hb dX6_take_6 rfl (lv_at hl 1 rfl) ?_
    refine lv_iconst (v := 1) hx hb dX6_take_7 (by decide) ?_
    refine lv_icmp_ne (tgt := 18) hx hb dX6_take_8 (by decide) (fun c_8 => ?_) (fun c_8 => ?_)
    · have i_8 := i_ne c_8
      rw [(by decide : (1 : Int32).toInt = 1)] at i_8
      refine lv_iload_n hx hb dX6_take_18 rfl (lv_at hl 1 rfl) ?_
      refine lv_bipush (v := 26) hx hb dX6_take_19 (by decide) ?_
      refine lv_icmp_lt (tgt := 44) hx hb dX6_take_21 (by decide) (fun c_21 => ?_) (fun c_21 => ?_)
      · have i_21 := i_lt c_21
        rw [(by decide : (26 : Int32).toInt = 26)] at i_21
        refine lv_iload_n hx hb dX6_take_44 rfl (lv_at hl 1 rfl) ?_
        refine lv_bipush (v := 18) hx hb dX6_take_45 (by decide) ?_
        refine lv_icmp_lt (tgt := 60) hx hb dX6_take_47 (by decide) (fun c_47 => ?_) (fun c_47 => ?_)
        · have i_47 := i_lt c_47
          rw [(by decide : (18 : Int32).toInt = 18)] at i_47
          refine lv_iload_n hx hb dX6_take_60 rfl (lv_at hl 1 rfl) ?_
          refine lv_bipush (v := 10) hx hb dX6_take_61 (by decide) ?_
          refine lv_icmp_ge (tgt := 70) hx hb dX6_take_63 (by decide) (fun c_63 => ?_) (fun c_63 => ?_)
          · have i_63 := i_le c_63
            rw [(by decide : (10 : Int32).toInt = 10)] at i_63
            refine lv_iconst (v := 1) hx hb dX6_take_70 (by decide) ?_
            refine lv_istore_n (lv' := [(2, .int 1), (0, .ref h0), (1, .int k)]) hx hb dX6_take_71 rfl hl (by decide) rfl (fun ls hl => ?_)
            refine lv_aload_n hx hb dX6_take_72 rfl (lv_at hl 1 rfl) ?_
            refine va_get (D := D) (ci := 6) (v := .int v.2.2.2) (C := RX6) (T := TX6) (N := 4) hx hb hts hin_6 hown hK hP 0 rfl rfl 3 (by decide) fl_21 (fun _ h9 => h9) rfl dX6_take_73 ?_
            refine lv_iload_n hx hb dX6_take_76 rfl (lv_at hl 0 rfl) ?_
            refine lv_icmp_eq (tgt := 96) hx hb dX6_take_77 (by decide) (fun c_77 => ?_) (fun c_77 => ?_)
            · have i_77 := i_eq c_77
              rw [(by decide : (1 : Int32).toInt = 1)] at i_77
              refine lv_iconst (v := 0) hx hb dX6_take_96 (by decide) ?_
              exact lf_z hx hb hr hlocks hQ v hP hD hS dX6_take_97 (by first | rfl | (rw [bI_f]; exact bI_n _) | exact bI_n _) ⟨(by first | with_reducible rfl | (simp only [tkB, tkS, legOf, trn, if_neg c_1, if_neg c_8, if_pos c_21, if_pos c_47, if_pos c_63, if_pos c_77, ↓reduceIte, bI_t, bI_f, reduceCtorEq]; done) | (subst_vars; simp only [tkB, tkS, legOf, trn, if_neg c_1, if_neg c_8, if_pos c_21, if_pos c_47, if_pos c_63, if_pos c_77, ↓reduceIte, bI_t, bI_f, reduceCtorEq]; done) | (simp [tkB, tkS, legOf, trn, c_1, c_8, c_21, c_47, c_63, c_77, bI_t, bI_f]; done)), (by first | with_reducible rfl | (simp only [tkB, tkS, legOf, trn, if_neg c_1, if_neg c_8, if_pos c_21, if_pos c_47, if_pos c_63, if_pos c_77, ↓reduceIte, bI_t, bI_f, reduceCtorEq]; done) | (subst_vars; simp only [tkB, tkS, legOf, trn, if_neg c_1, if_neg c_8, if_pos c_21, if_pos c_47, if_pos c_63, if_pos c_77, ↓reduceIte, bI_t, bI_f, reduceCtorEq]; done) | (simp [tkB, tkS, legOf, trn, c_1, c_8, c_21, c_47, c_63, c_77, bI_t, bI_f]; done))⟩
            · have i_77 := i_ne c_77
              rw [(by decide : (1 : Int32).toInt = 1)] at i_77
              refine lv_aload_n hx hb dX6_take_80 rfl (lv_at hl 1 rfl) ?_
              refine lv_iload_n hx hb dX6_take_81 rfl (lv_at hl 2 rfl) ?_
              refine st_i (va_runSN (As := [.int k]) (rest := [.ref h0]) ⟨hx, hb, hml, hown, hts⟩ (c_X9_directionOf l D cI cJ cZ H.size k) ⟨va_cnB 1 hts gX6_take_X9_directionOf_n28 rfl rfl rfl (nw_m hN 2 rfl) ini_9 (by decide +kernel) ⟨Nat.le_of_ble_eq_true rfl, Nat.le_of_ble_eq_true rfl⟩, stt_X9_directionOf, trivial⟩ (pr_S hP hD hK hN hE hS hA [] (by decide) rfl) rfl rfl hl.1 rfl (lv_room (Nat.le_of_ble_eq_true rfl)) dX6_take_82 ⟨Nat.zero_le _, Nat.zero_le _⟩) hP hS hA (fun r_82 u_82 H locs hw_82 hP hS => ?_)
              have hr_82 := hw_82
              refine lv_iload_n hx hb dX6_take_85 rfl (lv_at hl 0 rfl) ?_
              refine jn_i (W2 := fun u_86 => wStg h0 u_86) (va_runV (As := [.int r_82, .int 1]) (rest := []) ⟨hx, hb, hml, hown, hts⟩ (c_X6_goBy l D cI cJ cZ h0 H.size v r_82 1) (cwV 2 hts gX6_take_X6_goBy rfl rfl rfl (by decide +kernel) ⟨Nat.le_of_ble_eq_true rfl, Nat.le_of_ble_eq_true rfl⟩) (pr_V hP hD hK hN hE hS hA [0] (by decide) rfl (ci := 6) (q0 := 0) rfl rfl) rfl rfl hl.1 rfl (lv_room (Nat.le_of_ble_eq_true rfl)) dX6_take_86 ⟨Nat.zero_le _, Nat.zero_le _⟩) hP hD hS hA [0] [] [0] rfl rfl (by decide) (by decide) (by decide) (fun _ => rfl) (fun r_86 u_86 H locs hw_86 hP hD hS => ?_)
              have hP : va_P D vwCl (wStg h0 u_86) H := hP
              have hD : va_D A (wStg h0 u_86) := hD
              obtain ⟨hr_86, hu_86⟩ := hw_86
              refine lv_if_eq (tgt := 96) hx hb dX6_take_89 (by decide) (fun c_89 => ?_) (fun c_89 => ?_)
              · have b_89 : (goB v r_82) = false := bI_0 (hr_86.symm.trans c_89)
                refine lv_iconst (v := 0) hx hb dX6_take_96 (by decide) ?_
                exact lf_z hx hb hr hlocks hQ u_86 hP hD hS dX6_take_97 (by first | rfl | (rw [bI_f]; exact bI_n _) | exact bI_n _) ⟨(by first | with_reducible rfl | (simp only [tkB, tkS, legOf, trn, if_neg c_1, if_neg c_8, if_pos c_21, if_pos c_47, if_pos c_63, if_neg c_77, b_89, ← hr_86, ← hu_86, ← hr_82, ↓reduceIte, bI_t, bI_f, reduceCtorEq]; done) | (subst_vars; simp only [tkB, tkS, legOf, trn, if_neg c_1, if_neg c_8, if_pos c_21, if_pos c_47, if_pos c_63, if_neg c_77, b_89, ↓reduceIte, bI_t, bI_f, reduceCtorEq]; done) | (simp [tkB, tkS, legOf, trn, c_1, c_8, c_21, c_47, c_63, c_77, b_89, bI_t, bI_f]; done)), (by first | with_reducible rfl | (simp only [tkB, tkS, legOf, trn, if_neg c_1, if_neg c_8, if_pos c_21, if_pos c_47, if_pos c_63, if_neg c_77, b_89, ← hr_86, ← hu_86, ← hr_82, ↓reduceIte, bI_t, bI_f, reduceCtorEq]; done) | (subst_vars; simp only [tkB, tkS, legOf, trn, if_neg c_1, if_neg c_8, if_pos c_21, if_pos c_47, if_pos c_63, if_neg c_77, b_89, ↓reduceIte, bI_t, bI_f, reduceCtorEq]; done) | (simp [tkB, tkS, legOf, trn, c_1, c_8, c_21, c_47, c_63, c_77, b_89, bI_t, bI_f]; done))⟩
              · have b_89 : (goB v r_82) = true := bI_1 (fun q => c_89 (hr_86.trans q))
                refine lv_iconst (v := 1) hx hb dX6_take_92 (by decide) ?_
                refine lv_goto (tgt := 97) hx hb dX6_take_93 (by decide) ?_
                exact lf_z hx hb hr hlocks hQ u_86 hP hD hS dX6_take_97 (by first | rfl | (rw [bI_f]; exact bI_n _) | exact bI_n _) ⟨(by first | with_reducible rfl | (simp only [tkB, tkS, legOf, trn, if_neg c_1, if_neg c_8, if_pos c_21, if_pos c_47, if_pos c_63, if_neg c_77, b_89, ← hr_86, ← hu_86, ← hr_82, ↓reduceIte, bI_t, bI_f, reduceCtorEq]; done) | (subst_vars; simp only [tkB, tkS, legOf, trn, if_neg c_1, if_neg c_8, if_pos c_21, if_pos c_47, if_pos c_63, if_neg c_77, b_89, ↓reduceIte, bI_t, bI_f, reduceCtorEq]; done) | (simp [tkB, tkS, legOf, trn, c_1, c_8, c_21, c_47, c_63, c_77, b_89, bI_t, bI_f]; done)), (by first | with_reducible rfl | (simp only [tkB, tkS, legOf, trn, if_neg c_1, if_neg c_8, if_pos c_21, if_pos c_47, if_pos c_63, if_neg c_77, b_89, ← hr_86, ← hu_86, ← hr_82, ↓reduceIte, bI_t, bI_f, reduceCtorEq]; done) | (subst_vars; simp only [tkB, tkS, legOf, trn, if_neg c_1, if_neg c_8, if_pos c_21, if_pos c_47, if_pos c_63, if_neg c_77, b_89, ↓reduceIte, bI_t, bI_f, reduceCtorEq]; done) | (simp [tkB, tkS, legOf, trn, c_1, c_8, c_21, c_47, c_63, c_77, b_89, bI_t, bI_f]; done))⟩
          · have i_63 := i_nle c_63
            rw [(by decide : (10 : Int32).toInt = 10)] at i_63
            refine lv_iconst (v := 0) hx hb dX6_take_66 (by decide) ?_
            refine lv_goto (tgt := 71) hx hb dX6_take_67 (by decide) ?_
            refine lv_istore_n (lv' := [(2, .int 0), (0, .ref h0), (1, .int k)]) hx hb dX6_take_71 rfl hl (by decide) rfl (fun ls hl => ?_)
            refine lv_aload_n hx hb dX6_take_72 rfl (lv_at hl 1 rfl) ?_
            refine va_get (D := D) (ci := 6) (v := .int v.2.2.2) (C := RX6) (T := TX6) (N := 4) hx hb hts hin_6 hown hK hP 0 rfl rfl 3 (by decide) fl_21 (fun _ h9 => h9) rfl dX6_take_73 ?_
            refine lv_iload_n hx hb dX6_take_76 rfl (lv_at hl 0 rfl) ?_
            refine lv_icmp_eq (tgt := 96) hx hb dX6_take_77 (by decide) (fun c_77 => ?_) (fun c_77 => ?_)
            · have i_77 := i_eq c_77
              rw [(by decide : (0 : Int32).toInt = 0)] at i_77
              refine lv_iconst (v := 0) hx hb dX6_take_96 (by decide) ?_
              exact lf_z hx hb hr hlocks hQ v hP hD hS dX6_take_97 (by first | rfl | (rw [bI_f]; exact bI_n _) | exact bI_n _) ⟨(by first | with_reducible rfl | (simp only [tkB, tkS, legOf, trn, if_neg c_1, if_neg c_8, if_pos c_21, if_pos c_47, if_neg c_63, if_pos c_77, ↓reduceIte, bI_t, bI_f, reduceCtorEq]; done) | (subst_vars; simp only [tkB, tkS, legOf, trn, if_neg c_1, if_neg c_8, if_pos c_21, if_pos c_47, if_neg c_63, if_pos c_77, ↓reduceIte, bI_t, bI_f, reduceCtorEq]; done) | (simp [tkB, tkS, legOf, trn, c_1, c_8, c_21, c_47, c_63, c_77, bI_t, bI_f]; done)), (by first | with_reducible rfl | (simp only [tkB, tkS, legOf, trn, if_neg c_1, if_neg c_8, if_pos c_21, if_pos c_47, if_neg c_63, if_pos c_77, ↓reduceIte, bI_t, bI_f, reduceCtorEq]; done) | (subst_vars; simp only [tkB, tkS, legOf, trn, if_neg c_1, if_neg c_8, if_pos c_21, if_pos c_47, if_neg c_63, if_pos c_77, ↓reduceIte, bI_t, bI_f, reduceCtorEq]; done) | (simp [tkB, tkS, legOf, trn, c_1, c_8, c_21, c_47, c_63, c_77, bI_t, bI_f]; done))⟩
            · have i_77 := i_ne c_77
              rw [(by decide : (0 : Int32).toInt = 0)] at i_77
              refine lv_aload_n hx hb dX6_take_80 rfl (lv_at hl 1 rfl) ?_
              refine lv_iload_n hx hb dX6_take_81 rfl (lv_at hl 2 rfl) ?_
              refine st_i (va_runSN (As := [.int k]) (rest := [.ref h0]) ⟨hx, hb, hml, hown, hts⟩ (c_X9_directionOf l D cI cJ cZ H.size k) ⟨va_cnB 1 hts gX6_take_X9_directionOf_n28 rfl rfl rfl (nw_m hN 2 rfl) ini_9 (by decide +kernel) ⟨Nat.le_of_ble_eq_true rfl, Nat.le_of_ble_eq_true rfl⟩, stt_X9_directionOf, trivial⟩ (pr_S hP hD hK hN hE hS hA [] (by decide) rfl) rfl rfl hl.1 rfl (lv_room (Nat.le_of_ble_eq_true rfl)) dX6_take_82 ⟨Nat.zero_le _, Nat.zero_le _⟩) hP hS hA (fun r_82 u_82 H locs hw_82 hP hS => ?_)
              have hr_82 := hw_82
              refine lv_iload_n hx hb dX6_take_85 rfl (lv_at hl 0 rfl) ?_
              refine jn_i (W2 := fun u_86 => wStg h0 u_86) (va_runV (As := [.int r_82, .int 0]) (rest := []) ⟨hx, hb, hml, hown, hts⟩ (c_X6_goBy l D cI cJ cZ h0 H.size v r_82 0) (cwV 2 hts gX6_take_X6_goBy rfl rfl rfl (by decide +kernel) ⟨Nat.le_of_ble_eq_true rfl, Nat.le_of_ble_eq_true rfl⟩) (pr_V hP hD hK hN hE hS hA [0] (by decide) rfl (ci := 6) (q0 := 0) rfl rfl) rfl rfl hl.1 rfl (lv_room (Nat.le_of_ble_eq_true rfl)) dX6_take_86 ⟨Nat.zero_le _, Nat.zero_le _⟩) hP hD hS hA [0] [] [0] rfl rfl (by decide) (by decide) (by decide) (fun _ => rfl) (fun r_86 u_86 H locs hw_86 hP hD hS => ?_)
              have hP : va_P D vwCl (wStg h0 u_86) H := hP
              have hD : va_D A (wStg h0 u_86) := hD
              obtain ⟨hr_86, hu_86⟩ := hw_86
              refine lv_if_eq (tgt := 96) hx hb dX6_take_89 (by decide) (fun c_89 => ?_) (fun c_89 => ?_)
              · have b_89 : (goB v r_82) = false := bI_0 (hr_86.symm.trans c_89)
                refine lv_iconst (v := 0) hx hb dX6_take_96 (by decide) ?_
                exact lf_z hx hb hr hlocks hQ u_86 hP hD hS dX6_take_97 (by first | rfl | (rw [bI_f]; exact bI_n _) | exact bI_n _) ⟨(by first | with_reducible rfl | (simp only [tkB, tkS, legOf, trn, if_neg c_1, if_neg c_8, if_pos c_21, if_pos c_47, if_neg c_63, if_neg c_77, b_89, ← hr_86, ← hu_86, ← hr_82, ↓reduceIte, bI_t, bI_f, reduceCtorEq]; done) | (subst_vars; simp only [tkB, tkS, legOf, trn, if_neg c_1, if_neg c_8, if_pos c_21, if_pos c_47, if_neg c_63, if_neg c_77, b_89, ↓reduceIte, bI_t, bI_f, reduceCtorEq]; done) | (simp [tkB, tkS, legOf, trn, c_1, c_8, c_21, c_47, c_63, c_77, b_89, bI_t, bI_f]; done)), (by first | with_reducible rfl | (simp only [tkB, tkS, legOf, trn, if_neg c_1, if_neg c_8, if_pos c_21, if_pos c_47, if_neg c_63, if_neg c_77, b_89, ← hr_86, ← hu_86, ← hr_82, ↓reduceIte, bI_t, bI_f, reduceCtorEq]; done) | (subst_vars; simp only [tkB, tkS, legOf, trn, if_neg c_1, if_neg c_8, if_pos c_21, if_pos c_47, if_neg c_63, if_neg c_77, b_89, ↓reduceIte, bI_t, bI_f, reduceCtorEq]; done) | (simp [tkB, tkS, legOf, trn, c_1, c_8, c_21, c_47, c_63, c_77, b_89, bI_t, bI_f]; done))⟩
              · have b_89 : (goB v r_82) = true := bI_1 (fun q => c_89 (hr_86.trans q))
                refine lv_iconst (v := 1) hx hb dX6_take_92 (by decide) ?_
                refine lv_goto (tgt := 97) hx hb dX6_take_93 (by decide) ?_
                exact lf_z hx hb hr hlocks hQ u_86 hP hD hS dX6_take_97 (by first | rfl | (rw [bI_f]; exact bI_n _) | exact bI_n _) ⟨(by first | with_reducible rfl | (simp only [tkB, tkS, legOf, trn, if_neg c_1, if_neg c_8, if_pos c_21, if_pos c_47, if_neg c_63, if_neg c_77, b_89, ← hr_86, ← hu_86, ← hr_82, ↓reduceIte, bI_t, bI_f, reduceCtorEq]; done) | (subst_vars; simp only [tkB, tkS, legOf, trn, if_neg c_1, if_neg c_8, if_pos c_21, if_pos c_47, if_neg c_63, if_neg c_77, b_89, ↓reduceIte, bI_t, bI_f, reduceCtorEq]; done) | (simp [tkB, tkS, legOf, trn, c_1, c_8, c_21, c_47, c_63, c_77, b_89, bI_t, bI_f]; done)), (by first | with_reducible rfl | (simp only [tkB, tkS, legOf, trn, if_neg c_1, if_neg c_8, if_pos c_21, if_pos c_47, if_neg c_63, if_neg c_77, b_89, ← hr_86, ← hu_86, ← hr_82, ↓reduceIte, bI_t, bI_f, reduceCtorEq]; done) | (subst_vars; simp only [tkB, tkS, legOf, trn, if_neg c_1, if_neg c_8, if_pos c_21, if_pos c_47, if_neg c_63, if_neg c_77, b_89, ↓reduceIte, bI_t, bI_f, reduceCtorEq]; done) | (simp [tkB, tkS, legOf, trn, c_1, c_8, c_21, c_47, c_63, c_77, b_89, bI_t, bI_f]; done))⟩
        · have i_47 := i_nlt c_47
          rw [(by decide : (18 : Int32).toInt = 18)] at i_47
          refine lv_aload_n hx hb dX6_take_50 rfl (lv_at hl 0 rfl) ?_
          refine lv_iload_n hx hb dX6_take_51 rfl (lv_at hl 1 rfl) ?_
          refine st_i (va_runSN (As := [.int k]) (rest := [.ref h0]) ⟨hx, hb, hml, hown, hts⟩ (c_X9_directionOf l D cI cJ cZ H.size k) ⟨va_cnB 1 hts gX6_take_X9_directionOf_n28 rfl rfl rfl (nw_m hN 2 rfl) ini_9 (by decide +kernel) ⟨Nat.le_of_ble_eq_true rfl, Nat.le_of_ble_eq_true rfl⟩, stt_X9_directionOf, trivial⟩ (pr_S hP hD hK hN hE hS hA [] (by decide) rfl) rfl rfl hl.1 rfl (lv_room (Nat.le_of_ble_eq_true rfl)) dX6_take_52 ⟨Nat.zero_le _, Nat.zero_le _⟩) hP hS hA (fun r_52 u_52 H locs hw_52 hP hS => ?_)
          have hr_52 := hw_52
          refine lv_iconst (v := 2) hx hb dX6_take_55 (by decide) ?_
          refine jn_i (W2 := fun u_56 => wStg h0 u_56) (va_runV (As := [.int r_52, .int 2]) (rest := []) ⟨hx, hb, hml, hown, hts⟩ (c_X6_goBy l D cI cJ cZ h0 H.size v r_52 2) (cwV 2 hts gX6_take_X6_goBy rfl rfl rfl (by decide +kernel) ⟨Nat.le_of_ble_eq_true rfl, Nat.le_of_ble_eq_true rfl⟩) (pr_V hP hD hK hN hE hS hA [0] (by decide) rfl (ci := 6) (q0 := 0) rfl rfl) rfl rfl hl.1 rfl (lv_room (Nat.le_of_ble_eq_true rfl)) dX6_take_56 ⟨Nat.zero_le _, Nat.zero_le _⟩) hP hD hS hA [0] [] [0] rfl rfl (by decide) (by decide) (by decide) (fun _ => rfl) (fun r_56 u_56 H locs hw_56 hP hD hS => ?_)
          have hP : va_P D vwCl (wStg h0 u_56) H := hP
          have hD : va_D A (wStg h0 u_56) := hD
          obtain ⟨hr_56, hu_56⟩ := hw_56
          exact lf_z hx hb hr hlocks hQ u_56 hP hD hS dX6_take_59 (by first | rfl | (rw [hr_56]; exact bI_n _) | exact bI_n _) ⟨(by first | with_reducible rfl | (simp only [tkB, tkS, legOf, trn, if_neg c_1, if_neg c_8, if_pos c_21, if_neg c_47, ← hr_56, ← hu_56, ← hr_52, ↓reduceIte, bI_t, bI_f, reduceCtorEq]; done) | (subst_vars; simp only [tkB, tkS, legOf, trn, if_neg c_1, if_neg c_8, if_pos c_21, if_neg c_47, ↓reduceIte, bI_t, bI_f, reduceCtorEq]; done) | (simp [tkB, tkS, legOf, trn, c_1, c_8, c_21, c_47, bI_t, bI_f]; done)), (by first | with_reducible rfl | (simp only [tkB, tkS, legOf, trn, if_neg c_1, if_neg c_8, if_pos c_21, if_neg c_47, ← hr_56, ← hu_56, ← hr_52, ↓reduceIte, bI_t, bI_f, reduceCtorEq]; done) | (subst_vars; simp only [tkB, tkS, legOf, trn, if_neg c_1, if_neg c_8, if_pos c_21, if_neg c_47, ↓reduceIte, bI_t, bI_f, reduceCtorEq]; done) | (simp [tkB, tkS, legOf, trn, c_1, c_8, c_21, c_47, bI_t, bI_f]; done))⟩
      · have i_21 := i_nlt c_21
        rw [(by decide : (26 : Int32).toInt = 26)] at i_21
        refine lv_aload_n hx hb dX6_take_24 rfl (lv_at hl 0 rfl) ?_
        refine lv_aload_n hx hb dX6_take_25 rfl (lv_at hl 0 rfl) ?_
        refine va_get (D := D) (ci := 6) (v := .int v.2.2.1) (C := RX6) (T := TX6) (N := 4) hx hb hts hin_6 hown hK hP 0 rfl rfl 2 (by decide) fl_18 (fun _ h9 => h9) rfl dX6_take_26 ?_
        refine lv_iload_n hx hb dX6_take_29 rfl (lv_at hl 1 rfl) ?_
        refine lv_iadd hx hb dX6_take_30 ?_
        refine lv_bipush (v := 26) hx hb dX6_take_31 (by decide) ?_
        refine lv_isub hx hb dX6_take_33 ?_
        refine lv_iconst (v := 1) hx hb dX6_take_34 (by decide) ?_
        refine lv_iadd hx hb dX6_take_35 ?_
        refine lv_bipush (v := 8) hx hb dX6_take_36 (by decide) ?_
        refine lv_irem hx hb dX6_take_38 (by decide) ?_
        refine va_put (D := D) (ci := 6) (v := .int ((((v.2.2.1 + k) - 26) + 1) - (((v.2.2.1 + k) - 26) + 1) / 8 * 8)) (ty := .int) (C := RX6) (T := TX6) (N := 4) hx hb hts hin_6 tyX6 tyX6_ok nmX6 hown hK hP hD hS 0 rfl rfl 2 (by decide) fl_18 (fun _ h9 => h9) rfl (by decide +kernel) rfl rfl (Nat.le_of_ble_eq_true rfl) dX6_take_39 (fun H locs hP hD hS => ?_)
        have hP : va_P D vwCl (wStg h0 (v.1, v.2.1, ((((v.2.2.1 + k) - 26) + 1) - (((v.2.2.1 + k) - 26) + 1) / 8 * 8), v.2.2.2)) H := hP
        have hD : va_D A (wStg h0 (v.1, v.2.1, ((((v.2.2.1 + k) - 26) + 1) - (((v.2.2.1 + k) - 26) + 1) / 8 * 8), v.2.2.2)) := hD
        refine lv_iconst (v := 1) hx hb dX6_take_42 (by decide) ?_
        exact lf_z hx hb hr hlocks hQ (v.1, v.2.1, ((((v.2.2.1 + k) - 26) + 1) - (((v.2.2.1 + k) - 26) + 1) / 8 * 8), v.2.2.2) hP hD hS dX6_take_43 (by first | rfl | (rw [bI_f]; exact bI_n _) | exact bI_n _) ⟨(by first | with_reducible rfl | (simp only [tkB, tkS, legOf, trn, if_neg c_1, if_neg c_8, if_neg c_21, ↓reduceIte, bI_t, bI_f, reduceCtorEq]; done) | (subst_vars; simp only [tkB, tkS, legOf, trn, if_neg c_1, if_neg c_8, if_neg c_21, ↓reduceIte, bI_t, bI_f, reduceCtorEq]; done) | (simp [tkB, tkS, legOf, trn, c_1, c_8, c_21, bI_t, bI_f]; done)), (by first | with_reducible rfl | (simp only [tkB, tkS, legOf, trn, if_neg c_1, if_neg c_8, if_neg c_21, ↓reduceIte, bI_t, bI_f, reduceCtorEq]; done) | (subst_vars; simp only [tkB, tkS, legOf, trn, if_neg c_1, if_neg c_8, if_neg c_21, ↓reduceIte, bI_t, bI_f, reduceCtorEq]; done) | (simp [tkB, tkS, legOf, trn, c_1, c_8, c_21, bI_t, bI_f]; done))⟩
    · have i_8 := i_eq c_8
      rw [(by decide : (1 : Int32).toInt = 1)] at i_8
      refine lv_aload_n hx hb dX6_take_11 rfl (lv_at hl 0 rfl) ?_
      refine lv_iconst (v := 2) hx hb dX6_take_12 (by decide) ?_
      refine va_put (D := D) (ci := 6) (v := .int 2) (ty := .int) (C := RX6) (T := TX6) (N := 4) hx hb hts hin_6 tyX6 tyX6_ok nmX6 hown hK hP hD hS 0 rfl rfl 3 (by decide) fl_21 (fun _ h9 => h9) rfl (by decide +kernel) rfl rfl (Nat.le_of_ble_eq_true rfl) dX6_take_13 (fun H locs hP hD hS => ?_)
      have hP : va_P D vwCl (wStg h0 (v.1, v.2.1, v.2.2.1, 2)) H := hP
      have hD : va_D A (wStg h0 (v.1, v.2.1, v.2.2.1, 2)) := hD
      refine lv_iconst (v := 1) hx hb dX6_take_16 (by decide) ?_
      exact lf_z hx hb hr hlocks hQ (v.1, v.2.1, v.2.2.1, 2) hP hD hS dX6_take_17 (by first | rfl | (rw [bI_f]; exact bI_n _) | exact bI_n _) ⟨(by first | with_reducible rfl | (simp only [tkB, tkS, legOf, trn, if_neg c_1, if_pos c_8, ↓reduceIte, bI_t, bI_f, reduceCtorEq]; done) | (subst_vars; simp only [tkB, tkS, legOf, trn, if_neg c_1, if_pos c_8, ↓reduceIte, bI_t, bI_f, reduceCtorEq]; done) | (simp [tkB, tkS, legOf, trn, c_1, c_8, bI_t, bI_f]; done)), (by first | with_reducible rfl | (simp only [tkB, tkS, legOf, trn, if_neg c_1, if_pos c_8, ↓reduceIte, bI_t, bI_f, reduceCtorEq]; done) | (subst_vars; simp only [tkB, tkS, legOf, trn, if_neg c_1, if_pos c_8, ↓reduceIte, bI_t, bI_f, reduceCtorEq]; done) | (simp [tkB, tkS, legOf, trn, c_1, c_8, bI_t, bI_f]; done))⟩
  · have i_1 := i_eq c_1
    rw [(by decide : (0 : Int32).toInt = 0)] at i_1
    refine lv_iconst (v := 1) hx hb dX6_take_4 (by decide) ?_
    exact lf_z hx hb hr hlocks hQ v hP hD hS dX6_take_5 (by first | rfl | (rw [bI_f]; exact bI_n _) | exact bI_n _) ⟨(by first | with_reducible rfl | (simp only [tkB, tkS, legOf, trn, if_pos c_1, ↓reduceIte, bI_t, bI_f, reduceCtorEq]; done) | (subst_vars; simp only [tkB, tkS, legOf, trn, if_pos c_1, ↓reduceIte, bI_t, bI_f, reduceCtorEq]; done) | (simp [tkB, tkS, legOf, trn, c_1, bI_t, bI_f]; done)), (by first | with_reducible rfl | (simp only [tkB, tkS, legOf, trn, if_pos c_1, ↓reduceIte, bI_t, bI_f, reduceCtorEq]; done) | (subst_vars; simp only [tkB, tkS, legOf, trn, if_pos c_1, ↓reduceIte, bI_t, bI_f, reduceCtorEq]; done) | (simp [tkB, tkS, legOf, trn, c_1, bI_t, bI_f]; done))⟩
abbrev rm_X6_signsTo : Room := { frames := 1, cells := 0, slots := 0, locals := 14 }
set_option maxHeartbeats 4000000 in
set_option maxRecDepth 100000 in
theorem c_X6_signsTo (l : Launch) (D : va_G) (cI cJ cZ : ClassId) (h0 : Nat) (sz : Nat) (v : Stg) (x : Int32) (y : Int32) (w : Int32) : Met l yX6_signsTo wsX6_signsTo rm_X6_signsTo (va_Pc [.ref h0, .int x, .int y, .int w] (PU D (tyL cI cJ cZ) (wStg h0 v) sz)) (va_Qi (fun (rz : Int32) (_ : Unit) => rz = sgTo v x y w) (fun uz => BU D (wStg h0 v) (va_A (wStg h0 v) sz)) (va_A (wStg h0 v) sz)) 0 0 (va_A (wStg h0 v) sz) := by
  refine en (own := RX6) (Qc := fun A => va_Qi (fun (rz : Int32) (_ : Unit) => rz = sgTo v x y w) (fun uz => BU D (wStg h0 v) A) A) (by decide) rfl (Nat.le_of_ble_eq_true rfl) rfl ?_
  intro p e s m args below meth c A Q H locs ls hx hb hr hml hown hts hlocks hname hA hN hE hK hQ hP hD hS hl
  have hl : lv_has ls 5 [(0, .ref h0), (1, .int x), (2, .int y), (3, .int w)] := hl
  have fl_9 := hts (.fieldLink RX6 9 "DanceStaffs$Standing" "x" "I") (by decide +kernel)
  have hin_6 : ∀ w ∈ u_ws RX6 TX6 4, w ∈ wsX6_signsTo := by decide +kernel
  have ml_46 := hts (.methodLink RX6 46 Lib.Math.abs.name) (by decide +kernel)
  have ms_abs := hts (.static Lib.Math.abs.name) (by decide +kernel)
  have mi := hts (.initialized "java/lang/Math") (by decide +kernel)
  have mc_abs := hts (.code Lib.Math.abs.name Lib.Math.abs.code 1 (some .int)) (by decide +kernel)
  have fl_15 := hts (.fieldLink RX6 15 "DanceStaffs$Standing" "y" "I") (by decide +kernel)
  have ml_51 := hts (.methodLink RX6 51 Lib.Math.max.name) (by decide +kernel)
  have ms_max := hts (.static Lib.Math.max.name) (by decide +kernel)
  have mc_max := hts (.code Lib.Math.max.name Lib.Math.max.code 2 (some .int)) (by decide +kernel)
  have fl_18 := hts (.fieldLink RX6 18 "DanceStaffs$Standing" "looks" "I") (by decide +kernel)
  refine lv_iload_n hx hb dX6_signsTo_0 rfl (lv_at hl 1 rfl) ?_
  refine lv_aload_n hx hb dX6_signsTo_1 rfl (lv_at hl 0 rfl) ?_
  refine va_get (D := D) (ci := 6) (v := .int v.1) (C := RX6) (T := TX6) (N := 4) hx hb hts hin_6 hown hK hP 0 rfl rfl 0 (by decide) fl_9 (fun _ h9 => h9) rfl dX6_signsTo_2 ?_
  refine lv_isub hx hb dX6_signsTo_5 ?_
  refine va_mabs hx hb (by rw [hml]; exact hl.1.symm) hown ml_46 ms_abs mi mc_abs (Nat.le_of_ble_eq_true rfl) (Nat.le_of_ble_eq_true rfl) (Nat.zero_le _) (Nat.zero_le _) dX6_signsTo_6 ?_
  refine lv_iload_n hx hb dX6_signsTo_9 rfl (lv_at hl 2 rfl) ?_
  refine lv_aload_n hx hb dX6_signsTo_10 rfl (lv_at hl 0 rfl) ?_
  refine va_get (D := D) (ci := 6) (v := .int v.2.1) (C := RX6) (T := TX6) (N := 4) hx hb hts hin_6 hown hK hP 0 rfl rfl 1 (by decide) fl_15 (fun _ h9 => h9) rfl dX6_signsTo_11 ?_
  refine lv_isub hx hb dX6_signsTo_14 ?_
  refine va_mabs hx hb (by rw [hml]; exact hl.1.symm) hown ml_46 ms_abs mi mc_abs (Nat.le_of_ble_eq_true rfl) (Nat.le_of_ble_eq_true rfl) (Nat.zero_le _) (Nat.zero_le _) dX6_signsTo_15 ?_
  refine va_mmax hx hb (by rw [hml]; exact hl.1.symm) hown ml_51 ms_max mi mc_max (Nat.le_of_ble_eq_true rfl) (Nat.le_of_ble_eq_true rfl) (Nat.zero_le _) (Nat.zero_le _) dX6_signsTo_18 ?_
  refine lv_istore (lv' := [(4, .int (if (if 0 ≤ (x - v.1) then (x - v.1) else 0 - (x - v.1)) < (if 0 ≤ (y - v.2.1) then (y - v.2.1) else 0 - (y - v.2.1)) then (if 0 ≤ (y - v.2.1) then (y - v.2.1) else 0 - (y - v.2.1)) else (if 0 ≤ (x - v.1) then (x - v.1) else 0 - (x - v.1)))), (0, .ref h0), (1, .int x), (2, .int y), (3, .int w)]) hx hb dX6_signsTo_21 hl (by decide) rfl (fun ls hl => ?_)
  refine lv_iload_n hx hb dX6_signsTo_23 rfl (lv_at hl 4 rfl) ?_
  refine lv_aload_n hx hb dX6_signsTo_24 rfl (lv_at hl 1 rfl) ?_
  refine va_get (D := D) (ci := 6) (v := .int v.2.2.1) (C := RX6) (T := TX6) (N := 4) hx hb hts hin_6 hown hK hP 0 rfl rfl 2 (by decide) fl_18 (fun _ h9 => h9) rfl dX6_signsTo_25 ?_
  refine lv_icmp_ne (tgt := 36) hx hb dX6_signsTo_28 (by decide) (fun c_28 => ?_) (fun c_28 => ?_)
  · have i_28 := i_ne c_28
    refine lv_iload hx hb dX6_signsTo_36 (lv_at hl 0 rfl) ?_
    refine lv_iconst (v := 1) hx hb dX6_signsTo_38 (by decide) ?_
    refine lv_iadd hx hb dX6_signsTo_39 ?_
    exact lf_i hx hb hr hlocks hQ () hP hD hS dX6_signsTo_40 (by first | with_reducible rfl | (simp only [sgTo, mx, ab, if_neg c_28, ↓reduceIte, bI_t, bI_f, reduceCtorEq]; done) | (subst_vars; simp only [sgTo, mx, ab, if_neg c_28, ↓reduceIte, bI_t, bI_f, reduceCtorEq]; done) | (simp [sgTo, mx, ab, c_28, bI_t, bI_f]; done))
  · have i_28 := i_eq c_28
    refine lv_iload hx hb dX6_signsTo_31 (lv_at hl 0 rfl) ?_
    refine lv_goto (tgt := 40) hx hb dX6_signsTo_33 (by decide) ?_
    exact lf_i hx hb hr hlocks hQ () hP hD hS dX6_signsTo_40 (by first | with_reducible rfl | (simp only [sgTo, mx, ab, if_pos c_28, ↓reduceIte, bI_t, bI_f, reduceCtorEq]; done) | (subst_vars; simp only [sgTo, mx, ab, if_pos c_28, ↓reduceIte, bI_t, bI_f, reduceCtorEq]; done) | (simp [sgTo, mx, ab, c_28, bI_t, bI_f]; done))
abbrev rm_X5_empty : Room := { frames := 0, cells := 0, slots := 0, locals := 0 }
set_option maxHeartbeats 4000000 in
set_option maxRecDepth 100000 in
theorem c_X5_empty (l : Launch) (D : va_G) (cI cJ cZ : ClassId) (h0 : Nat) (h1 : Nat) (h2 : Nat) (sz : Nat) (v : Stf) : Met l yX5_empty wsX5_empty rm_X5_empty (va_Pc [.ref h0] (PU D (tyL cI cJ cZ) (wStf h0 h1 h2 cI v) sz)) (va_Qv (fun (uz : Stf) => uz = (v.1, zeroL v.2 3)) (fun uz => BU D (wStf h0 h1 h2 cI uz) (va_A (wStf h0 h1 h2 cI v) sz)) (va_A (wStf h0 h1 h2 cI v) sz)) 0 0 (va_A (wStf h0 h1 h2 cI v) sz) := by
  refine en (own := RX5) (Qc := fun A => va_Qv (fun (uz : Stf) => uz = (v.1, zeroL v.2 3)) (fun uz => BU D (wStf h0 h1 h2 cI uz) A) A) (by decide) rfl (Nat.le_of_ble_eq_true rfl) rfl ?_
  intro p e s m args below meth c A Q H locs ls hx hb hr hml hown hts hlocks hname hA hN hE hK hQ hP hD hS hl
  have hl : lv_has ls 2 [(0, .ref h0)] := hl
  have fl_15 := hts (.fieldLink RX5 15 "DanceStaffs$Staffs" "lengths" "[I") (by decide +kernel)
  have hin_5 : ∀ w ∈ u_ws RX5 TX5 2, w ∈ wsX5_empty := by decide +kernel
  refine lv_iconst (v := 0) hx hb dX5_empty_0 (by decide) ?_
  refine lv_istore_n (lv' := [(1, .int 0), (0, .ref h0)]) hx hb dX5_empty_1 rfl hl (by decide) rfl (fun ls hl => ?_)
  have LB_2 : ∀ (n : Nat) (i : Nat) (hn : 3 < i + n) (hi : i ≤ 3) (H : Heap) (locs : List Loc) (_ : va_P D vwCl (wStf h0 h1 h2 cI (v.1, zeroL v.2 i)) H) (_ : va_D A (wStf h0 h1 h2 cI (v.1, zeroL v.2 i))) (_ : va_S A s.heap H locs) (ls : Array Slot) (_ : lv_has ls 2 [(0, .ref h0), (1, .int (nI i))]), W p l e rm_X5_empty s m args below meth c H locs 0 0 Q (F0 m 2 ls []) := by
    intro n
    induction n with
    | zero =>
      intro i hn hi
      exact absurd hn (by omega)
    | succ n LB_2 =>
      intro i hn hi H locs hP hD hS ls hl
      refine lv_iload_n hx hb dX5_empty_2 rfl (lv_at hl 1 rfl) ?_
      refine lv_iconst (v := 3) hx hb dX5_empty_3 (by decide) ?_
      refine lv_icmp_ge (tgt := 20) hx hb dX5_empty_4 (by decide) (fun c_4 => ?_) (fun c_4 => ?_)
      · have i_4 := i_le c_4
        rw [(by decide : (3 : Int32).toInt = 3)] at i_4
        have e3 : i = 3 := by rw [nI_toInt (by omega)] at i_4; omega
        exact lf_v hx hb hr hlocks hQ (v.1, zeroL v.2 i) hP hD hS dX5_empty_20 (by rw [e3])
      · have i_4 := i_nle c_4
        rw [(by decide : (3 : Int32).toInt = 3)] at i_4
        have i_4 : i < 3 := by rw [nI_toInt (by omega)] at i_4; omega
        refine lv_aload_n hx hb dX5_empty_7 rfl (lv_at hl 0 rfl) ?_
        refine va_get (D := D) (ci := 5) (v := .ref h2) (C := RX5) (T := TX5) (N := 2) hx hb hts hin_5 hown hK hP 0 rfl rfl 1 (by decide) fl_15 (fun _ h9 => h9) rfl dX5_empty_8 ?_
        refine lv_iload_n hx hb dX5_empty_11 rfl (lv_at hl 1 rfl) ?_
        refine lv_iconst (v := 0) hx hb dX5_empty_12 (by decide) ?_
        refine va_iast (D := D) (f := zeroL v.2 i) hx hb hK hP hD hS 2 0 rfl rfl (vp_in_nI i_4 (by decide)) dX5_empty_13 (fun H locs hP hD hS => ?_)
        have hP : va_P D vwCl (wStf h0 h1 h2 cI (v.1, (upd (zeroL v.2 i) ((nI i).toNatClampNeg) 0))) H := hP
        have hD : va_D A (wStf h0 h1 h2 cI (v.1, (upd (zeroL v.2 i) ((nI i).toNatClampNeg) 0))) := hD
        refine lv_iinc (v := ((nI i) + 1)) (lv' := [(1, .int ((nI i) + 1)), (0, .ref h0)]) hx hb dX5_empty_14 hl (k := 1) rfl rfl (by decide) rfl (fun ls hl => ?_)
        rw [show nI i + 1 = nI (i + 1) from nI_1 i] at hl
        refine lv_goto (tgt := 2) hx hb dX5_empty_17 (by decide) ?_
        exact LB_2 (i + 1) (by omega) (by omega) H locs hP hD hS ls (lv_sub hl [1, 0] rfl)
  exact LB_2 4 0 (by omega) (by omega) H locs hP hD hS ls (lv_sub hl [1, 0] rfl)
abbrev rm_X8_empty : Room := { frames := 1, cells := 0, slots := 0, locals := 21 }
set_option maxHeartbeats 4000000 in
set_option maxRecDepth 100000 in
theorem c_X8_empty (l : Launch) (D : va_G) (cI cJ cZ : ClassId) (h0 : Nat) (h1 : Nat) (h2 : Nat) (h3 : Nat) (h4 : Nat) (h5 : Nat) (h6 : Nat) (sz : Nat) (t : Trp) : Met l yX8_empty wsX8_empty rm_X8_empty (va_Pc [.ref h0] (PU D (tyL cI cJ cZ) (wTrp h0 h1 h2 h3 h4 h5 h6 cI t) sz)) (va_Qv (fun (uz : Trp) => uz = (t.1, t.2.1, t.2.2.1, 0, (t.2.2.2.2.1, zeroL t.2.2.2.2.2 3))) (fun uz => BU D (wTrp h0 h1 h2 h3 h4 h5 h6 cI uz) (va_A (wTrp h0 h1 h2 h3 h4 h5 h6 cI t) sz)) (va_A (wTrp h0 h1 h2 h3 h4 h5 h6 cI t) sz)) 0 0 (va_A (wTrp h0 h1 h2 h3 h4 h5 h6 cI t) sz) := by
  refine en (own := RX8) (Qc := fun A => va_Qv (fun (uz : Trp) => uz = (t.1, t.2.1, t.2.2.1, 0, (t.2.2.2.2.1, zeroL t.2.2.2.2.2 3))) (fun uz => BU D (wTrp h0 h1 h2 h3 h4 h5 h6 cI uz) A) A) (by decide) rfl (Nat.le_of_ble_eq_true rfl) rfl ?_
  intro p e s m args below meth c A Q H locs ls hx hb hr hml hown hts hlocks hname hA hN hE hK hQ hP hD hS hl
  have hl : lv_has ls 1 [(0, .ref h0)] := hl
  have fl_28 := hts (.fieldLink RX8 28 "DanceStaffs$Troupe" "size" "I") (by decide +kernel)
  have hin_8 : ∀ w ∈ u_ws RX8 TX8 5, w ∈ wsX8_empty := by decide +kernel
  have fl_24 := hts (.fieldLink RX8 24 "DanceStaffs$Troupe" "staffs" "LDanceStaffs$Staffs;") (by decide +kernel)
  refine lv_aload_n hx hb dX8_empty_0 rfl (lv_at hl 0 rfl) ?_
  refine lv_iconst (v := 0) hx hb dX8_empty_1 (by decide) ?_
  refine va_put (D := D) (ci := 8) (v := .int 0) (ty := .int) (C := RX8) (T := TX8) (N := 5) hx hb hts hin_8 tyX8 tyX8_ok nmX8 hown hK hP hD hS 0 rfl rfl 4 (by decide) fl_28 (fun _ h9 => h9) rfl (by decide +kernel) rfl rfl (Nat.le_of_ble_eq_true rfl) dX8_empty_2 (fun H locs hP hD hS => ?_)
  have hP : va_P D vwCl (wTrp h0 h1 h2 h3 h4 h5 h6 cI (t.1, t.2.1, t.2.2.1, 0, t.2.2.2.2)) H := hP
  have hD : va_D A (wTrp h0 h1 h2 h3 h4 h5 h6 cI (t.1, t.2.1, t.2.2.1, 0, t.2.2.2.2)) := hD
  refine lv_aload_n hx hb dX8_empty_5 rfl (lv_at hl 0 rfl) ?_
  refine va_get (D := D) (ci := 8) (v := .ref h4) (C := RX8) (T := TX8) (N := 5) hx hb hts hin_8 hown hK hP 0 rfl rfl 3 (by decide) fl_24 (fun _ h9 => h9) rfl dX8_empty_6 ?_
  refine jn_v (W2 := fun u_9 => wTrp h0 h1 h2 h3 h4 h5 h6 cI (t.1, t.2.1, t.2.2.1, 0, u_9)) (va_runV (As := []) (rest := []) ⟨hx, hb, hml, hown, hts⟩ (c_X5_empty l D cI cJ cZ h4 h5 h6 H.size t.2.2.2.2) (cwV 0 hts gX8_empty_X5_empty rfl rfl rfl (by decide +kernel) ⟨Nat.le_of_ble_eq_true rfl, Nat.le_of_ble_eq_true rfl⟩) (pr_V hP hD hK hN hE hS hA [4, 5, 6] (by decide) rfl (ci := 5) (q0 := 4) rfl rfl) rfl rfl hl.1 rfl (lv_room (Nat.le_of_ble_eq_true rfl)) dX8_empty_9 ⟨Nat.zero_le _, Nat.zero_le _⟩) hP hD hS hA [4, 5, 6] [0, 1, 2, 3] [0, 1, 2, 3, 4, 5, 6] rfl rfl (by decide) (by decide) (by decide) (fun _ => rfl) (fun u_9 H locs hw_9 hP hD hS => ?_)
  have hP : va_P D vwCl (wTrp h0 h1 h2 h3 h4 h5 h6 cI (t.1, t.2.1, t.2.2.1, 0, u_9)) H := hP
  have hD : va_D A (wTrp h0 h1 h2 h3 h4 h5 h6 cI (t.1, t.2.1, t.2.2.1, 0, u_9)) := hD
  have hu_9 := hw_9
  exact lf_v hx hb hr hlocks hQ (t.1, t.2.1, t.2.2.1, 0, u_9) hP hD hS dX8_empty_12 (by rw [hu_9])
abbrev rm_X8_add : Room := { frames := 0, cells := 0, slots := 0, locals := 0 }
set_option maxHeartbeats 4000000 in
set_option maxRecDepth 100000 in
theorem c_X8_add (l : Launch) (D : va_G) (cI cJ cZ : ClassId) (h0 : Nat) (h1 : Nat) (h2 : Nat) (h3 : Nat) (h4 : Nat) (h5 : Nat) (h6 : Nat) (sz : Nat) (t : Trp) (x : Int32) (y : Int32) (w : Int32) (h00 : 0 ≤ t.2.2.2.1.toInt) : Met l yX8_add wsX8_add rm_X8_add (va_Pc [.ref h0, .int x, .int y, .int w] (PU D (tyL cI cJ cZ) (wTrp h0 h1 h2 h3 h4 h5 h6 cI t) sz)) (va_Qv (fun (uz : Trp) => uz = tpAdd t x y w) (fun uz => BU D (wTrp h0 h1 h2 h3 h4 h5 h6 cI uz) (va_A (wTrp h0 h1 h2 h3 h4 h5 h6 cI t) sz)) (va_A (wTrp h0 h1 h2 h3 h4 h5 h6 cI t) sz)) 0 0 (va_A (wTrp h0 h1 h2 h3 h4 h5 h6 cI t) sz) := by
  refine en (own := RX8) (Qc := fun A => va_Qv (fun (uz : Trp) => uz = tpAdd t x y w) (fun uz => BU D (wTrp h0 h1 h2 h3 h4 h5 h6 cI uz) A) A) (by decide) rfl (Nat.le_of_ble_eq_true rfl) rfl ?_
  intro p e s m args below meth c A Q H locs ls hx hb hr hml hown hts hlocks hname hA hN hE hK hQ hP hD hS hl
  have hl : lv_has ls 4 [(0, .ref h0), (1, .int x), (2, .int y), (3, .int w)] := hl
  have fl_28 := hts (.fieldLink RX8 28 "DanceStaffs$Troupe" "size" "I") (by decide +kernel)
  have hin_8 : ∀ w ∈ u_ws RX8 TX8 5, w ∈ wsX8_add := by decide +kernel
  have fl_9 := hts (.fieldLink RX8 9 "DanceStaffs$Troupe" "xs" "[I") (by decide +kernel)
  have fl_15 := hts (.fieldLink RX8 15 "DanceStaffs$Troupe" "ys" "[I") (by decide +kernel)
  have fl_18 := hts (.fieldLink RX8 18 "DanceStaffs$Troupe" "looks" "[I") (by decide +kernel)
  refine lv_aload_n hx hb dX8_add_0 rfl (lv_at hl 0 rfl) ?_
  refine va_get (D := D) (ci := 8) (v := .int t.2.2.2.1) (C := RX8) (T := TX8) (N := 5) hx hb hts hin_8 hown hK hP 0 rfl rfl 4 (by decide) fl_28 (fun _ h9 => h9) rfl dX8_add_1 ?_
  refine lv_iconst (v := 3) hx hb dX8_add_4 (by decide) ?_
  refine lv_icmp_lt (tgt := 9) hx hb dX8_add_5 (by decide) (fun c_5 => ?_) (fun c_5 => ?_)
  · have i_5 := i_lt c_5
    rw [(by decide : (3 : Int32).toInt = 3)] at i_5
    refine lv_aload_n hx hb dX8_add_9 rfl (lv_at hl 0 rfl) ?_
    refine va_get (D := D) (ci := 8) (v := .ref h1) (C := RX8) (T := TX8) (N := 5) hx hb hts hin_8 hown hK hP 0 rfl rfl 0 (by decide) fl_9 (fun _ h9 => h9) rfl dX8_add_10 ?_
    refine lv_aload_n hx hb dX8_add_13 rfl (lv_at hl 0 rfl) ?_
    refine va_get (D := D) (ci := 8) (v := .int t.2.2.2.1) (C := RX8) (T := TX8) (N := 5) hx hb hts hin_8 hown hK hP 0 rfl rfl 4 (by decide) fl_28 (fun _ h9 => h9) rfl dX8_add_14 ?_
    refine lv_iload_n hx hb dX8_add_17 rfl (lv_at hl 1 rfl) ?_
    refine va_iast (D := D) (f := t.1) hx hb hK hP hD hS 1 0 rfl rfl (by exact vi_mk (by omega) (by omega)) dX8_add_18 (fun H locs hP hD hS => ?_)
    have hP : va_P D vwCl (wTrp h0 h1 h2 h3 h4 h5 h6 cI ((upd t.1 ((t.2.2.2.1).toNatClampNeg) x), t.2)) H := hP
    have hD : va_D A (wTrp h0 h1 h2 h3 h4 h5 h6 cI ((upd t.1 ((t.2.2.2.1).toNatClampNeg) x), t.2)) := hD
    refine lv_aload_n hx hb dX8_add_19 rfl (lv_at hl 0 rfl) ?_
    refine va_get (D := D) (ci := 8) (v := .ref h2) (C := RX8) (T := TX8) (N := 5) hx hb hts hin_8 hown hK hP 0 rfl rfl 1 (by decide) fl_15 (fun _ h9 => h9) rfl dX8_add_20 ?_
    refine lv_aload_n hx hb dX8_add_23 rfl (lv_at hl 0 rfl) ?_
    refine va_get (D := D) (ci := 8) (v := .int t.2.2.2.1) (C := RX8) (T := TX8) (N := 5) hx hb hts hin_8 hown hK hP 0 rfl rfl 4 (by decide) fl_28 (fun _ h9 => h9) rfl dX8_add_24 ?_
    refine lv_iload_n hx hb dX8_add_27 rfl (lv_at hl 2 rfl) ?_
    refine va_iast (D := D) (f := t.2.1) hx hb hK hP hD hS 2 0 rfl rfl (by exact vi_mk (by omega) (by omega)) dX8_add_28 (fun H locs hP hD hS => ?_)
    have hP : va_P D vwCl (wTrp h0 h1 h2 h3 h4 h5 h6 cI ((upd t.1 ((t.2.2.2.1).toNatClampNeg) x), (upd t.2.1 ((t.2.2.2.1).toNatClampNeg) y), t.2.2)) H := hP
    have hD : va_D A (wTrp h0 h1 h2 h3 h4 h5 h6 cI ((upd t.1 ((t.2.2.2.1).toNatClampNeg) x), (upd t.2.1 ((t.2.2.2.1).toNatClampNeg) y), t.2.2)) := hD
    refine lv_aload_n hx hb dX8_add_29 rfl (lv_at hl 0 rfl) ?_
    refine va_get (D := D) (ci := 8) (v := .ref h3) (C := RX8) (T := TX8) (N := 5) hx hb hts hin_8 hown hK hP 0 rfl rfl 2 (by decide) fl_18 (fun _ h9 => h9) rfl dX8_add_30 ?_
    refine lv_aload_n hx hb dX8_add_33 rfl (lv_at hl 0 rfl) ?_
    refine va_get (D := D) (ci := 8) (v := .int t.2.2.2.1) (C := RX8) (T := TX8) (N := 5) hx hb hts hin_8 hown hK hP 0 rfl rfl 4 (by decide) fl_28 (fun _ h9 => h9) rfl dX8_add_34 ?_
    refine lv_iload_n hx hb dX8_add_37 rfl (lv_at hl 3 rfl) ?_
    refine va_iast (D := D) (f := t.2.2.1) hx hb hK hP hD hS 3 0 rfl rfl (by exact vi_mk (by omega) (by omega)) dX8_add_38 (fun H locs hP hD hS => ?_)
    have hP : va_P D vwCl (wTrp h0 h1 h2 h3 h4 h5 h6 cI ((upd t.1 ((t.2.2.2.1).toNatClampNeg) x), (upd t.2.1 ((t.2.2.2.1).toNatClampNeg) y), (upd t.2.2.1 ((t.2.2.2.1).toNatClampNeg) w), t.2.2.2)) H := hP
    have hD : va_D A (wTrp h0 h1 h2 h3 h4 h5 h6 cI ((upd t.1 ((t.2.2.2.1).toNatClampNeg) x), (upd t.2.1 ((t.2.2.2.1).toNatClampNeg) y), (upd t.2.2.1 ((t.2.2.2.1).toNatClampNeg) w), t.2.2.2)) := hD
    refine lv_aload_n hx hb dX8_add_39 rfl (lv_at hl 0 rfl) ?_
    refine lv_dup hx hb dX8_add_40 rfl ?_
    refine va_get (D := D) (ci := 8) (v := .int t.2.2.2.1) (C := RX8) (T := TX8) (N := 5) hx hb hts hin_8 hown hK hP 0 rfl rfl 4 (by decide) fl_28 (fun _ h9 => h9) rfl dX8_add_41 ?_
    refine lv_iconst (v := 1) hx hb dX8_add_44 (by decide) ?_
    refine lv_iadd hx hb dX8_add_45 ?_
    refine va_put (D := D) (ci := 8) (v := .int (t.2.2.2.1 + 1)) (ty := .int) (C := RX8) (T := TX8) (N := 5) hx hb hts hin_8 tyX8 tyX8_ok nmX8 hown hK hP hD hS 0 rfl rfl 4 (by decide) fl_28 (fun _ h9 => h9) rfl (by decide +kernel) rfl rfl (Nat.le_of_ble_eq_true rfl) dX8_add_46 (fun H locs hP hD hS => ?_)
    have hP : va_P D vwCl (wTrp h0 h1 h2 h3 h4 h5 h6 cI ((upd t.1 ((t.2.2.2.1).toNatClampNeg) x), (upd t.2.1 ((t.2.2.2.1).toNatClampNeg) y), (upd t.2.2.1 ((t.2.2.2.1).toNatClampNeg) w), (t.2.2.2.1 + 1), t.2.2.2.2)) H := hP
    have hD : va_D A (wTrp h0 h1 h2 h3 h4 h5 h6 cI ((upd t.1 ((t.2.2.2.1).toNatClampNeg) x), (upd t.2.1 ((t.2.2.2.1).toNatClampNeg) y), (upd t.2.2.1 ((t.2.2.2.1).toNatClampNeg) w), (t.2.2.2.1 + 1), t.2.2.2.2)) := hD
    exact lf_v hx hb hr hlocks hQ ((upd t.1 ((t.2.2.2.1).toNatClampNeg) x), (upd t.2.1 ((t.2.2.2.1).toNatClampNeg) y), (upd t.2.2.1 ((t.2.2.2.1).toNatClampNeg) w), (t.2.2.2.1 + 1), t.2.2.2.2) hP hD hS dX8_add_49 (by first | with_reducible rfl | (simp only [tpAdd, if_pos c_5, ↓reduceIte, bI_t, bI_f, reduceCtorEq]; done) | (subst_vars; simp only [tpAdd, if_pos c_5, ↓reduceIte, bI_t, bI_f, reduceCtorEq]; done) | (simp [tpAdd, c_5, bI_t, bI_f]; done))
  · have i_5 := i_nlt c_5
    rw [(by decide : (3 : Int32).toInt = 3)] at i_5
    exact lf_v hx hb hr hlocks hQ t hP hD hS dX8_add_8 (by first | with_reducible rfl | (simp only [tpAdd, if_neg c_5, ↓reduceIte, bI_t, bI_f, reduceCtorEq]; done) | (subst_vars; simp only [tpAdd, if_neg c_5, ↓reduceIte, bI_t, bI_f, reduceCtorEq]; done) | (simp [tpAdd, c_5, bI_t, bI_f]; done))
abbrev rm_X8_bringToBegin : Room := { frames := 1, cells := 0, slots := 0, locals := 24 }
set_option maxHeartbeats 4000000 in
set_option maxRecDepth 100000 in
theorem c_X8_bringToBegin (l : Launch) (D : va_G) (cI cJ cZ : ClassId) (h0 : Nat) (h1 : Nat) (h2 : Nat) (h3 : Nat) (h4 : Nat) (h5 : Nat) (h6 : Nat) (g0 : Nat) (sz : Nat) (t : Trp) (g : Stg) (d : Int32) (hs : t.2.2.2.1.toInt ≤ 3) : Met l yX8_bringToBegin wsX8_bringToBegin rm_X8_bringToBegin (va_Pc [.ref h0, .ref g0, .int d] (PU D (tyL cI cJ cZ) (wTrp h0 h1 h2 h3 h4 h5 h6 cI t ++ wStg g0 g) sz)) (va_Qv (fun (uz : Stg) => uz = tpBeg t g d) (fun uz => BU D (wTrp h0 h1 h2 h3 h4 h5 h6 cI t ++ wStg g0 uz) (va_A (wTrp h0 h1 h2 h3 h4 h5 h6 cI t ++ wStg g0 g) sz)) (va_A (wTrp h0 h1 h2 h3 h4 h5 h6 cI t ++ wStg g0 g) sz)) 0 0 (va_A (wTrp h0 h1 h2 h3 h4 h5 h6 cI t ++ wStg g0 g) sz) := by
  refine en (own := RX8) (Qc := fun A => va_Qv (fun (uz : Stg) => uz = tpBeg t g d) (fun uz => BU D (wTrp h0 h1 h2 h3 h4 h5 h6 cI t ++ wStg g0 uz) A) A) (by decide) rfl (Nat.le_of_ble_eq_true rfl) rfl ?_
  intro p e s m args below meth c A Q H locs ls hx hb hr hml hown hts hlocks hname hA hN hE hK hQ hP hD hS hl
  have hl : lv_has ls 3 [(0, .ref h0), (1, .ref g0), (2, .int d)] := hl
  have fl_28 := hts (.fieldLink RX8 28 "DanceStaffs$Troupe" "size" "I") (by decide +kernel)
  have hin_8 : ∀ w ∈ u_ws RX8 TX8 5, w ∈ wsX8_bringToBegin := by decide +kernel
  have fl_9 := hts (.fieldLink RX8 9 "DanceStaffs$Troupe" "xs" "[I") (by decide +kernel)
  have fl_15 := hts (.fieldLink RX8 15 "DanceStaffs$Troupe" "ys" "[I") (by decide +kernel)
  have fl_18 := hts (.fieldLink RX8 18 "DanceStaffs$Troupe" "looks" "[I") (by decide +kernel)
  refine lv_iload_n hx hb dX8_bringToBegin_0 rfl (lv_at hl 2 rfl) ?_
  refine lv_if_lt (tgt := 12) hx hb dX8_bringToBegin_1 (by decide) (fun c_1 => ?_) (fun c_1 => ?_)
  · have i_1 := i_lt c_1
    rw [(by decide : (0 : Int32).toInt = 0)] at i_1
    exact lf_v hx hb hr hlocks hQ g hP hD hS dX8_bringToBegin_12 (by first | with_reducible rfl | (simp only [tpBeg, if_pos c_1, ↓reduceIte, bI_t, bI_f, reduceCtorEq]; done) | (subst_vars; simp only [tpBeg, if_pos c_1, ↓reduceIte, bI_t, bI_f, reduceCtorEq]; done) | (simp [tpBeg, c_1, bI_t, bI_f]; done))
  · have i_1 := i_nlt c_1
    rw [(by decide : (0 : Int32).toInt = 0)] at i_1
    refine lv_iload_n hx hb dX8_bringToBegin_4 rfl (lv_at hl 2 rfl) ?_
    refine lv_aload_n hx hb dX8_bringToBegin_5 rfl (lv_at hl 0 rfl) ?_
    refine va_get (D := D) (ci := 8) (v := .int t.2.2.2.1) (C := RX8) (T := TX8) (N := 5) hx hb hts hin_8 hown hK hP 0 rfl rfl 4 (by decide) fl_28 (fun _ h9 => h9) rfl dX8_bringToBegin_6 ?_
    refine lv_icmp_lt (tgt := 13) hx hb dX8_bringToBegin_9 (by decide) (fun c_9 => ?_) (fun c_9 => ?_)
    · have i_9 := i_lt c_9
      refine lv_aload_n hx hb dX8_bringToBegin_13 rfl (lv_at hl 1 rfl) ?_
      refine lv_aload_n hx hb dX8_bringToBegin_14 rfl (lv_at hl 0 rfl) ?_
      refine va_get (D := D) (ci := 8) (v := .ref h1) (C := RX8) (T := TX8) (N := 5) hx hb hts hin_8 hown hK hP 0 rfl rfl 0 (by decide) fl_9 (fun _ h9 => h9) rfl dX8_bringToBegin_15 ?_
      refine lv_iload_n hx hb dX8_bringToBegin_18 rfl (lv_at hl 2 rfl) ?_
      refine va_iald (D := D) (f := t.1) hx hb hK hP 1 0 rfl rfl (by exact vi_mk (by omega) (by omega)) dX8_bringToBegin_19 ?_
      refine lv_aload_n hx hb dX8_bringToBegin_20 rfl (lv_at hl 0 rfl) ?_
      refine va_get (D := D) (ci := 8) (v := .ref h2) (C := RX8) (T := TX8) (N := 5) hx hb hts hin_8 hown hK hP 0 rfl rfl 1 (by decide) fl_15 (fun _ h9 => h9) rfl dX8_bringToBegin_21 ?_
      refine lv_iload_n hx hb dX8_bringToBegin_24 rfl (lv_at hl 2 rfl) ?_
      refine va_iald (D := D) (f := t.2.1) hx hb hK hP 2 0 rfl rfl (by exact vi_mk (by omega) (by omega)) dX8_bringToBegin_25 ?_
      refine lv_aload_n hx hb dX8_bringToBegin_26 rfl (lv_at hl 0 rfl) ?_
      refine va_get (D := D) (ci := 8) (v := .ref h3) (C := RX8) (T := TX8) (N := 5) hx hb hts hin_8 hown hK hP 0 rfl rfl 2 (by decide) fl_18 (fun _ h9 => h9) rfl dX8_bringToBegin_27 ?_
      refine lv_iload_n hx hb dX8_bringToBegin_30 rfl (lv_at hl 2 rfl) ?_
      refine va_iald (D := D) (f := t.2.2.1) hx hb hK hP 3 0 rfl rfl (by exact vi_mk (by omega) (by omega)) dX8_bringToBegin_31 ?_
      refine lv_iconst (v := 2) hx hb dX8_bringToBegin_32 (by decide) ?_
      refine jn_v (W2 := fun u_33 => wTrp h0 h1 h2 h3 h4 h5 h6 cI t ++ wStg g0 u_33) (va_runV (As := [.int (t.1 (d).toNatClampNeg), .int (t.2.1 (d).toNatClampNeg), .int (t.2.2.1 (d).toNatClampNeg), .int 2]) (rest := []) ⟨hx, hb, hml, hown, hts⟩ (c_X6_set l D cI cJ cZ g0 H.size g (t.1 (d).toNatClampNeg) (t.2.1 (d).toNatClampNeg) (t.2.2.1 (d).toNatClampNeg) 2) (cwV 4 hts gX8_bringToBegin_X6_set rfl rfl rfl (by decide +kernel) ⟨Nat.le_of_ble_eq_true rfl, Nat.le_of_ble_eq_true rfl⟩) (pr_V hP hD hK hN hE hS hA [7] (by decide) rfl (ci := 6) (q0 := 7) rfl rfl) rfl rfl hl.1 rfl (lv_room (Nat.le_of_ble_eq_true rfl)) dX8_bringToBegin_33 ⟨Nat.zero_le _, Nat.zero_le _⟩) hP hD hS hA [7] [0, 1, 2, 3, 4, 5, 6] [0, 1, 2, 3, 4, 5, 6, 7] rfl rfl (by decide) (by decide) (by decide) (fun _ => rfl) (fun u_33 H locs hw_33 hP hD hS => ?_)
      have hP : va_P D vwCl (wTrp h0 h1 h2 h3 h4 h5 h6 cI t ++ wStg g0 u_33) H := hP
      have hD : va_D A (wTrp h0 h1 h2 h3 h4 h5 h6 cI t ++ wStg g0 u_33) := hD
      have hu_33 := hw_33
      exact lf_v hx hb hr hlocks hQ u_33 hP hD hS dX8_bringToBegin_36 (by first | with_reducible rfl | (simp only [tpBeg, if_neg c_1, if_pos c_9, ← hu_33, ↓reduceIte, bI_t, bI_f, reduceCtorEq]; done) | (subst_vars; simp only [tpBeg, if_neg c_1, if_pos c_9, ↓reduceIte, bI_t, bI_f, reduceCtorEq]; done) | (simp [tpBeg, c_1, c_9, bI_t, bI_f]; done))
    · have i_9 := i_nlt c_9
      exact lf_v hx hb hr hlocks hQ g hP hD hS dX8_bringToBegin_12 (by first | with_reducible rfl | (simp only [tpBeg, if_neg c_1, if_neg c_9, ↓reduceIte, bI_t, bI_f, reduceCtorEq]; done) | (subst_vars; simp only [tpBeg, if_neg c_1, if_neg c_9, ↓reduceIte, bI_t, bI_f, reduceCtorEq]; done) | (simp [tpBeg, c_1, c_9, bI_t, bI_f]; done))
abbrev rm_X0_note : Room := { frames := 1, cells := 0, slots := 0, locals := 20 }
set_option maxHeartbeats 4000000 in
set_option maxRecDepth 100000 in
theorem c_X0_note (l : Launch) (D : va_G) (cI cJ cZ : ClassId) (h0 : Nat) (h1 : Nat) (h2 : Nat) (h3 : Nat) (h4 : Nat) (h5 : Nat) (sz : Nat) (k : Crs) (n : Int32) : Met l yX0_note wsX0_note rm_X0_note (va_Pc [.ref h0, .int n] (PU D (tyL cI cJ cZ) (wCrs h0 h1 h2 h3 h4 h5 cI k) sz)) (va_Qv (fun (uz : Crs) => uz = cNote k n) (fun uz => BU D (wCrs h0 h1 h2 h3 h4 h5 cI uz) (va_A (wCrs h0 h1 h2 h3 h4 h5 cI k) sz)) (va_A (wCrs h0 h1 h2 h3 h4 h5 cI k) sz)) 0 0 (va_A (wCrs h0 h1 h2 h3 h4 h5 cI k) sz) := by
  refine en (own := RX0) (Qc := fun A => va_Qv (fun (uz : Crs) => uz = cNote k n) (fun uz => BU D (wCrs h0 h1 h2 h3 h4 h5 cI uz) A) A) (by decide) rfl (Nat.le_of_ble_eq_true rfl) rfl ?_
  intro p e s m args below meth c A Q H locs ls hx hb hr hml hown hts hlocks hname hA hN hE hK hQ hP hD hS hl
  have hl : lv_has ls 2 [(0, .ref h0), (1, .int n)] := hl
  have ini_9 := hts (.initialized RX9) (by decide +kernel)
  have stt_X9_isMoment := hts (.static yX9_isMoment) (by decide +kernel)
  have fl_9 := hts (.fieldLink RX0 9 "DanceStaffs$Course" "xs" "[I") (by decide +kernel)
  have hin_0 : ∀ w ∈ u_ws RX0 TX0 6, w ∈ wsX0_note := by decide +kernel
  have fl_27 := hts (.fieldLink RX0 27 "DanceStaffs$Course" "standing" "LDanceStaffs$Standing;") (by decide +kernel)
  have hin_6 : ∀ w ∈ u_ws RX6 TX6 4, w ∈ wsX0_note := by decide +kernel
  have fl_15 := hts (.fieldLink RX0 15 "DanceStaffs$Course" "ys" "[I") (by decide +kernel)
  have fl_18 := hts (.fieldLink RX0 18 "DanceStaffs$Course" "looks" "[I") (by decide +kernel)
  have fl_21 := hts (.fieldLink RX0 21 "DanceStaffs$Course" "weights" "[I") (by decide +kernel)
  refine lv_iload_n hx hb dX0_note_0 rfl (lv_at hl 1 rfl) ?_
  refine st_i (va_runSN (As := [.int n]) (rest := []) ⟨hx, hb, hml, hown, hts⟩ (c_X9_isMoment l D cI cJ cZ H.size n) ⟨va_cnB 1 hts gX0_note_X9_isMoment_n59 rfl rfl rfl (nw_m hN 5 rfl) ini_9 (by decide +kernel) ⟨Nat.le_of_ble_eq_true rfl, Nat.le_of_ble_eq_true rfl⟩, stt_X9_isMoment, trivial⟩ (pr_S hP hD hK hN hE hS hA [] (by decide) rfl) rfl rfl hl.1 rfl (lv_room (Nat.le_of_ble_eq_true rfl)) dX0_note_1 ⟨Nat.zero_le _, Nat.zero_le _⟩) hP hS hA (fun r_1 u_1 H locs hw_1 hP hS => ?_)
  have hr_1 := hw_1
  refine lv_if_ne (tgt := 8) hx hb dX0_note_4 (by decide) (fun c_4 => ?_) (fun c_4 => ?_)
  · have b_4 : (isMom n) = true := bI_1 (fun q => c_4 (hr_1.trans q))
    obtain ⟨a1, a2⟩ := isMom_in b_4
    refine lv_aload_n hx hb dX0_note_8 rfl (lv_at hl 0 rfl) ?_
    refine va_get (D := D) (ci := 0) (v := .ref h1) (C := RX0) (T := TX0) (N := 6) hx hb hts hin_0 hown hK hP 0 rfl rfl 0 (by decide) fl_9 (fun _ h9 => h9) rfl dX0_note_9 ?_
    refine lv_iload_n hx hb dX0_note_12 rfl (lv_at hl 1 rfl) ?_
    refine lv_aload_n hx hb dX0_note_13 rfl (lv_at hl 0 rfl) ?_
    refine va_get (D := D) (ci := 0) (v := .ref h5) (C := RX0) (T := TX0) (N := 6) hx hb hts hin_0 hown hK hP 0 rfl rfl 4 (by decide) fl_27 (fun _ h9 => h9) rfl dX0_note_14 ?_
    refine va_getN (D := D) (ci := 6) (v := .int k.2.2.2.2.2.1) (C := RX6) (T := TX6) (N := 4) hx hb hts hin_6 hown hK hP 5 rfl rfl 0 (by decide) (nw_fuse hN 22 rfl) (fun _ h9 => h9) rfl dX0_note_17 ?_
    refine va_iast (D := D) (f := k.1) hx hb hK hP hD hS 1 0 rfl rfl (by exact vi_mk (by omega) (by omega)) dX0_note_20 (fun H locs hP hD hS => ?_)
    have hP : va_P D vwCl (wCrs h0 h1 h2 h3 h4 h5 cI ((upd k.1 ((n).toNatClampNeg) k.2.2.2.2.2.1), k.2)) H := hP
    have hD : va_D A (wCrs h0 h1 h2 h3 h4 h5 cI ((upd k.1 ((n).toNatClampNeg) k.2.2.2.2.2.1), k.2)) := hD
    refine lv_aload_n hx hb dX0_note_21 rfl (lv_at hl 0 rfl) ?_
    refine va_get (D := D) (ci := 0) (v := .ref h2) (C := RX0) (T := TX0) (N := 6) hx hb hts hin_0 hown hK hP 0 rfl rfl 1 (by decide) fl_15 (fun _ h9 => h9) rfl dX0_note_22 ?_
    refine lv_iload_n hx hb dX0_note_25 rfl (lv_at hl 1 rfl) ?_
    refine lv_aload_n hx hb dX0_note_26 rfl (lv_at hl 0 rfl) ?_
    refine va_get (D := D) (ci := 0) (v := .ref h5) (C := RX0) (T := TX0) (N := 6) hx hb hts hin_0 hown hK hP 0 rfl rfl 4 (by decide) fl_27 (fun _ h9 => h9) rfl dX0_note_27 ?_
    refine va_getN (D := D) (ci := 6) (v := .int k.2.2.2.2.2.2.1) (C := RX6) (T := TX6) (N := 4) hx hb hts hin_6 hown hK hP 5 rfl rfl 1 (by decide) (nw_fuse hN 21 rfl) (fun _ h9 => h9) rfl dX0_note_30 ?_
    refine va_iast (D := D) (f := k.2.1) hx hb hK hP hD hS 2 0 rfl rfl (by exact vi_mk (by omega) (by omega)) dX0_note_33 (fun H locs hP hD hS => ?_)
    have hP : va_P D vwCl (wCrs h0 h1 h2 h3 h4 h5 cI ((upd k.1 ((n).toNatClampNeg) k.2.2.2.2.2.1), (upd k.2.1 ((n).toNatClampNeg) k.2.2.2.2.2.2.1), k.2.2)) H := hP
    have hD : va_D A (wCrs h0 h1 h2 h3 h4 h5 cI ((upd k.1 ((n).toNatClampNeg) k.2.2.2.2.2.1), (upd k.2.1 ((n).toNatClampNeg) k.2.2.2.2.2.2.1), k.2.2)) := hD
    refine lv_aload_n hx hb dX0_note_34 rfl (lv_at hl 0 rfl) ?_
    refine va_get (D := D) (ci := 0) (v := .ref h3) (C := RX0) (T := TX0) (N := 6) hx hb hts hin_0 hown hK hP 0 rfl rfl 2 (by decide) fl_18 (fun _ h9 => h9) rfl dX0_note_35 ?_
    refine lv_iload_n hx hb dX0_note_38 rfl (lv_at hl 1 rfl) ?_
    refine lv_aload_n hx hb dX0_note_39 rfl (lv_at hl 0 rfl) ?_
    refine va_get (D := D) (ci := 0) (v := .ref h5) (C := RX0) (T := TX0) (N := 6) hx hb hts hin_0 hown hK hP 0 rfl rfl 4 (by decide) fl_27 (fun _ h9 => h9) rfl dX0_note_40 ?_
    refine va_getN (D := D) (ci := 6) (v := .int k.2.2.2.2.2.2.2.1) (C := RX6) (T := TX6) (N := 4) hx hb hts hin_6 hown hK hP 5 rfl rfl 2 (by decide) (nw_fuse hN 20 rfl) (fun _ h9 => h9) rfl dX0_note_43 ?_
    refine va_iast (D := D) (f := k.2.2.1) hx hb hK hP hD hS 3 0 rfl rfl (by exact vi_mk (by omega) (by omega)) dX0_note_46 (fun H locs hP hD hS => ?_)
    have hP : va_P D vwCl (wCrs h0 h1 h2 h3 h4 h5 cI ((upd k.1 ((n).toNatClampNeg) k.2.2.2.2.2.1), (upd k.2.1 ((n).toNatClampNeg) k.2.2.2.2.2.2.1), (upd k.2.2.1 ((n).toNatClampNeg) k.2.2.2.2.2.2.2.1), k.2.2.2)) H := hP
    have hD : va_D A (wCrs h0 h1 h2 h3 h4 h5 cI ((upd k.1 ((n).toNatClampNeg) k.2.2.2.2.2.1), (upd k.2.1 ((n).toNatClampNeg) k.2.2.2.2.2.2.1), (upd k.2.2.1 ((n).toNatClampNeg) k.2.2.2.2.2.2.2.1), k.2.2.2)) := hD
    refine lv_aload_n hx hb dX0_note_47 rfl (lv_at hl 0 rfl) ?_
    refine va_get (D := D) (ci := 0) (v := .ref h4) (C := RX0) (T := TX0) (N := 6) hx hb hts hin_0 hown hK hP 0 rfl rfl 3 (by decide) fl_21 (fun _ h9 => h9) rfl dX0_note_48 ?_
    refine lv_iload_n hx hb dX0_note_51 rfl (lv_at hl 1 rfl) ?_
    refine lv_aload_n hx hb dX0_note_52 rfl (lv_at hl 0 rfl) ?_
    refine va_get (D := D) (ci := 0) (v := .ref h5) (C := RX0) (T := TX0) (N := 6) hx hb hts hin_0 hown hK hP 0 rfl rfl 4 (by decide) fl_27 (fun _ h9 => h9) rfl dX0_note_53 ?_
    refine va_getN (D := D) (ci := 6) (v := .int k.2.2.2.2.2.2.2.2) (C := RX6) (T := TX6) (N := 4) hx hb hts hin_6 hown hK hP 5 rfl rfl 3 (by decide) (nw_fuse hN 19 rfl) (fun _ h9 => h9) rfl dX0_note_56 ?_
    refine va_iast (D := D) (f := k.2.2.2.1) hx hb hK hP hD hS 4 0 rfl rfl (by exact vi_mk (by omega) (by omega)) dX0_note_59 (fun H locs hP hD hS => ?_)
    have hP : va_P D vwCl (wCrs h0 h1 h2 h3 h4 h5 cI ((upd k.1 ((n).toNatClampNeg) k.2.2.2.2.2.1), (upd k.2.1 ((n).toNatClampNeg) k.2.2.2.2.2.2.1), (upd k.2.2.1 ((n).toNatClampNeg) k.2.2.2.2.2.2.2.1), (upd k.2.2.2.1 ((n).toNatClampNeg) k.2.2.2.2.2.2.2.2), k.2.2.2.2)) H := hP
    have hD : va_D A (wCrs h0 h1 h2 h3 h4 h5 cI ((upd k.1 ((n).toNatClampNeg) k.2.2.2.2.2.1), (upd k.2.1 ((n).toNatClampNeg) k.2.2.2.2.2.2.1), (upd k.2.2.1 ((n).toNatClampNeg) k.2.2.2.2.2.2.2.1), (upd k.2.2.2.1 ((n).toNatClampNeg) k.2.2.2.2.2.2.2.2), k.2.2.2.2)) := hD
    exact lf_v hx hb hr hlocks hQ ((upd k.1 ((n).toNatClampNeg) k.2.2.2.2.2.1), (upd k.2.1 ((n).toNatClampNeg) k.2.2.2.2.2.2.1), (upd k.2.2.1 ((n).toNatClampNeg) k.2.2.2.2.2.2.2.1), (upd k.2.2.2.1 ((n).toNatClampNeg) k.2.2.2.2.2.2.2.2), k.2.2.2.2) hP hD hS dX0_note_60 (by first | with_reducible rfl | (simp only [cNote, b_4, ← hr_1, ↓reduceIte, bI_t, bI_f, reduceCtorEq]; done) | (subst_vars; simp only [cNote, b_4, ↓reduceIte, bI_t, bI_f, reduceCtorEq]; done) | (simp [cNote, b_4, bI_t, bI_f]; done))
  · have b_4 : (isMom n) = false := bI_0 (hr_1.symm.trans c_4)
    exact lf_v hx hb hr hlocks hQ k hP hD hS dX0_note_7 (by first | with_reducible rfl | (simp only [cNote, b_4, ← hr_1, ↓reduceIte, bI_t, bI_f, reduceCtorEq]; done) | (subst_vars; simp only [cNote, b_4, ↓reduceIte, bI_t, bI_f, reduceCtorEq]; done) | (simp [cNote, b_4, bI_t, bI_f]; done))
abbrev rm_X0_bring : Room := { frames := 1, cells := 0, slots := 0, locals := 24 }
set_option maxHeartbeats 4000000 in
set_option maxRecDepth 100000 in
theorem c_X0_bring (l : Launch) (D : va_G) (cI cJ cZ : ClassId) (h0 : Nat) (h1 : Nat) (h2 : Nat) (h3 : Nat) (h4 : Nat) (h5 : Nat) (g0 : Nat) (sz : Nat) (k : Crs) (g : Stg) (n : Int32) : Met l yX0_bring wsX0_bring rm_X0_bring (va_Pc [.ref h0, .ref g0, .int n] (PU D (tyL cI cJ cZ) (wCrs h0 h1 h2 h3 h4 h5 cI k ++ wStg g0 g) sz)) (va_Qv (fun (uz : Stg) => uz = cBring k g n) (fun uz => BU D (wCrs h0 h1 h2 h3 h4 h5 cI k ++ wStg g0 uz) (va_A (wCrs h0 h1 h2 h3 h4 h5 cI k ++ wStg g0 g) sz)) (va_A (wCrs h0 h1 h2 h3 h4 h5 cI k ++ wStg g0 g) sz)) 0 0 (va_A (wCrs h0 h1 h2 h3 h4 h5 cI k ++ wStg g0 g) sz) := by
  refine en (own := RX0) (Qc := fun A => va_Qv (fun (uz : Stg) => uz = cBring k g n) (fun uz => BU D (wCrs h0 h1 h2 h3 h4 h5 cI k ++ wStg g0 uz) A) A) (by decide) rfl (Nat.le_of_ble_eq_true rfl) rfl ?_
  intro p e s m args below meth c A Q H locs ls hx hb hr hml hown hts hlocks hname hA hN hE hK hQ hP hD hS hl
  have hl : lv_has ls 3 [(0, .ref h0), (1, .ref g0), (2, .int n)] := hl
  have ini_9 := hts (.initialized RX9) (by decide +kernel)
  have stt_X9_isMoment := hts (.static yX9_isMoment) (by decide +kernel)
  have fl_9 := hts (.fieldLink RX0 9 "DanceStaffs$Course" "xs" "[I") (by decide +kernel)
  have hin_0 : ∀ w ∈ u_ws RX0 TX0 6, w ∈ wsX0_bring := by decide +kernel
  have fl_15 := hts (.fieldLink RX0 15 "DanceStaffs$Course" "ys" "[I") (by decide +kernel)
  have fl_18 := hts (.fieldLink RX0 18 "DanceStaffs$Course" "looks" "[I") (by decide +kernel)
  have fl_21 := hts (.fieldLink RX0 21 "DanceStaffs$Course" "weights" "[I") (by decide +kernel)
  refine lv_iload_n hx hb dX0_bring_0 rfl (lv_at hl 2 rfl) ?_
  refine st_i (va_runSN (As := [.int n]) (rest := []) ⟨hx, hb, hml, hown, hts⟩ (c_X9_isMoment l D cI cJ cZ H.size n) ⟨va_cnB 1 hts gX0_bring_X9_isMoment_n59 rfl rfl rfl (nw_m hN 5 rfl) ini_9 (by decide +kernel) ⟨Nat.le_of_ble_eq_true rfl, Nat.le_of_ble_eq_true rfl⟩, stt_X9_isMoment, trivial⟩ (pr_S hP hD hK hN hE hS hA [] (by decide) rfl) rfl rfl hl.1 rfl (lv_room (Nat.le_of_ble_eq_true rfl)) dX0_bring_1 ⟨Nat.zero_le _, Nat.zero_le _⟩) hP hS hA (fun r_1 u_1 H locs hw_1 hP hS => ?_)
  have hr_1 := hw_1
  refine lv_if_eq (tgt := 35) hx hb dX0_bring_4 (by decide) (fun c_4 => ?_) (fun c_4 => ?_)
  · have b_4 : (isMom n) = false := bI_0 (hr_1.symm.trans c_4)
    exact lf_v hx hb hr hlocks hQ g hP hD hS dX0_bring_35 (by first | with_reducible rfl | (simp only [cBring, b_4, ← hr_1, ↓reduceIte, bI_t, bI_f, reduceCtorEq]; done) | (subst_vars; simp only [cBring, b_4, ↓reduceIte, bI_t, bI_f, reduceCtorEq]; done) | (simp [cBring, b_4, bI_t, bI_f]; done))
  · have b_4 : (isMom n) = true := bI_1 (fun q => c_4 (hr_1.trans q))
    obtain ⟨a1, a2⟩ := isMom_in b_4
    refine lv_aload_n hx hb dX0_bring_7 rfl (lv_at hl 1 rfl) ?_
    refine lv_aload_n hx hb dX0_bring_8 rfl (lv_at hl 0 rfl) ?_
    refine va_get (D := D) (ci := 0) (v := .ref h1) (C := RX0) (T := TX0) (N := 6) hx hb hts hin_0 hown hK hP 0 rfl rfl 0 (by decide) fl_9 (fun _ h9 => h9) rfl dX0_bring_9 ?_
    refine lv_iload_n hx hb dX0_bring_12 rfl (lv_at hl 2 rfl) ?_
    refine va_iald (D := D) (f := k.1) hx hb hK hP 1 0 rfl rfl (by exact vi_mk (by omega) (by omega)) dX0_bring_13 ?_
    refine lv_aload_n hx hb dX0_bring_14 rfl (lv_at hl 0 rfl) ?_
    refine va_get (D := D) (ci := 0) (v := .ref h2) (C := RX0) (T := TX0) (N := 6) hx hb hts hin_0 hown hK hP 0 rfl rfl 1 (by decide) fl_15 (fun _ h9 => h9) rfl dX0_bring_15 ?_
    refine lv_iload_n hx hb dX0_bring_18 rfl (lv_at hl 2 rfl) ?_
    refine va_iald (D := D) (f := k.2.1) hx hb hK hP 2 0 rfl rfl (by exact vi_mk (by omega) (by omega)) dX0_bring_19 ?_
    refine lv_aload_n hx hb dX0_bring_20 rfl (lv_at hl 0 rfl) ?_
    refine va_get (D := D) (ci := 0) (v := .ref h3) (C := RX0) (T := TX0) (N := 6) hx hb hts hin_0 hown hK hP 0 rfl rfl 2 (by decide) fl_18 (fun _ h9 => h9) rfl dX0_bring_21 ?_
    refine lv_iload_n hx hb dX0_bring_24 rfl (lv_at hl 2 rfl) ?_
    refine va_iald (D := D) (f := k.2.2.1) hx hb hK hP 3 0 rfl rfl (by exact vi_mk (by omega) (by omega)) dX0_bring_25 ?_
    refine lv_aload_n hx hb dX0_bring_26 rfl (lv_at hl 0 rfl) ?_
    refine va_get (D := D) (ci := 0) (v := .ref h4) (C := RX0) (T := TX0) (N := 6) hx hb hts hin_0 hown hK hP 0 rfl rfl 3 (by decide) fl_21 (fun _ h9 => h9) rfl dX0_bring_27 ?_
    refine lv_iload_n hx hb dX0_bring_30 rfl (lv_at hl 2 rfl) ?_
    refine va_iald (D := D) (f := k.2.2.2.1) hx hb hK hP 4 0 rfl rfl (by exact vi_mk (by omega) (by omega)) dX0_bring_31 ?_
    refine jn_v (W2 := fun u_32 => wCrs h0 h1 h2 h3 h4 h5 cI k ++ wStg g0 u_32) (va_runV (As := [.int (k.1 (n).toNatClampNeg), .int (k.2.1 (n).toNatClampNeg), .int (k.2.2.1 (n).toNatClampNeg), .int (k.2.2.2.1 (n).toNatClampNeg)]) (rest := []) ⟨hx, hb, hml, hown, hts⟩ (c_X6_set l D cI cJ cZ g0 H.size g (k.1 (n).toNatClampNeg) (k.2.1 (n).toNatClampNeg) (k.2.2.1 (n).toNatClampNeg) (k.2.2.2.1 (n).toNatClampNeg)) (cwV 4 hts gX0_bring_X6_set rfl rfl rfl (by decide +kernel) ⟨Nat.le_of_ble_eq_true rfl, Nat.le_of_ble_eq_true rfl⟩) (pr_V hP hD hK hN hE hS hA [6] (by decide) rfl (ci := 6) (q0 := 6) rfl rfl) rfl rfl hl.1 rfl (lv_room (Nat.le_of_ble_eq_true rfl)) dX0_bring_32 ⟨Nat.zero_le _, Nat.zero_le _⟩) hP hD hS hA [6] [0, 1, 2, 3, 4, 5] [0, 1, 2, 3, 4, 5, 6] rfl rfl (by decide) (by decide) (by decide) (fun _ => rfl) (fun u_32 H locs hw_32 hP hD hS => ?_)
    have hP : va_P D vwCl (wCrs h0 h1 h2 h3 h4 h5 cI k ++ wStg g0 u_32) H := hP
    have hD : va_D A (wCrs h0 h1 h2 h3 h4 h5 cI k ++ wStg g0 u_32) := hD
    have hu_32 := hw_32
    exact lf_v hx hb hr hlocks hQ u_32 hP hD hS dX0_bring_35 (by first | with_reducible rfl | (simp only [cBring, b_4, ← hu_32, ← hr_1, ↓reduceIte, bI_t, bI_f, reduceCtorEq]; done) | (subst_vars; simp only [cBring, b_4, ↓reduceIte, bI_t, bI_f, reduceCtorEq]; done) | (simp [cBring, b_4, bI_t, bI_f]; done))
abbrev rm_X0_isAt : Room := { frames := 1, cells := 0, slots := 0, locals := 20 }
set_option maxHeartbeats 4000000 in
set_option maxRecDepth 100000 in
theorem c_X0_isAt (l : Launch) (D : va_G) (cI cJ cZ : ClassId) (h0 : Nat) (h1 : Nat) (h2 : Nat) (h3 : Nat) (h4 : Nat) (h5 : Nat) (sz : Nat) (k : Crs) (n : Int32) (x : Int32) (y : Int32) : Met l yX0_isAt wsX0_isAt rm_X0_isAt (va_Pc [.ref h0, .int n, .int x, .int y] (PU D (tyL cI cJ cZ) (wCrs h0 h1 h2 h3 h4 h5 cI k) sz)) (va_Qi (fun (rz : Int32) (_ : Unit) => rz = bI (cAt k n x y)) (fun uz => BU D (wCrs h0 h1 h2 h3 h4 h5 cI k) (va_A (wCrs h0 h1 h2 h3 h4 h5 cI k) sz)) (va_A (wCrs h0 h1 h2 h3 h4 h5 cI k) sz)) 0 0 (va_A (wCrs h0 h1 h2 h3 h4 h5 cI k) sz) := by
  refine en (own := RX0) (Qc := fun A => va_Qi (fun (rz : Int32) (_ : Unit) => rz = bI (cAt k n x y)) (fun uz => BU D (wCrs h0 h1 h2 h3 h4 h5 cI k) A) A) (by decide) rfl (Nat.le_of_ble_eq_true rfl) rfl ?_
  intro p e s m args below meth c A Q H locs ls hx hb hr hml hown hts hlocks hname hA hN hE hK hQ hP hD hS hl
  have hl : lv_has ls 4 [(0, .ref h0), (1, .int n), (2, .int x), (3, .int y)] := hl
  have ini_9 := hts (.initialized RX9) (by decide +kernel)
  have stt_X9_isMoment := hts (.static yX9_isMoment) (by decide +kernel)
  have fl_9 := hts (.fieldLink RX0 9 "DanceStaffs$Course" "xs" "[I") (by decide +kernel)
  have hin_0 : ∀ w ∈ u_ws RX0 TX0 6, w ∈ wsX0_isAt := by decide +kernel
  have fl_15 := hts (.fieldLink RX0 15 "DanceStaffs$Course" "ys" "[I") (by decide +kernel)
  refine lv_iload_n hx hb dX0_isAt_0 rfl (lv_at hl 1 rfl) ?_
  refine st_i (va_runSN (As := [.int n]) (rest := []) ⟨hx, hb, hml, hown, hts⟩ (c_X9_isMoment l D cI cJ cZ H.size n) ⟨va_cnB 1 hts gX0_isAt_X9_isMoment_n59 rfl rfl rfl (nw_m hN 5 rfl) ini_9 (by decide +kernel) ⟨Nat.le_of_ble_eq_true rfl, Nat.le_of_ble_eq_true rfl⟩, stt_X9_isMoment, trivial⟩ (pr_S hP hD hK hN hE hS hA [] (by decide) rfl) rfl rfl hl.1 rfl (lv_room (Nat.le_of_ble_eq_true rfl)) dX0_isAt_1 ⟨Nat.zero_le _, Nat.zero_le _⟩) hP hS hA (fun r_1 u_1 H locs hw_1 hP hS => ?_)
  have hr_1 := hw_1
  refine lv_if_eq (tgt := 31) hx hb dX0_isAt_4 (by decide) (fun c_4 => ?_) (fun c_4 => ?_)
  · have b_4 : (isMom n) = false := bI_0 (hr_1.symm.trans c_4)
    refine lv_iconst (v := 0) hx hb dX0_isAt_31 (by decide) ?_
    exact lf_z hx hb hr hlocks hQ () hP hD hS dX0_isAt_32 (by first | rfl | (rw [bI_f]; exact bI_n _) | exact bI_n _) (by first | with_reducible rfl | (simp only [cAt, b_4, ← hr_1, ↓reduceIte, bI_t, bI_f, reduceCtorEq]; done) | (subst_vars; simp only [cAt, b_4, ↓reduceIte, bI_t, bI_f, reduceCtorEq]; done) | (simp [cAt, b_4, bI_t, bI_f]; done))
  · have b_4 : (isMom n) = true := bI_1 (fun q => c_4 (hr_1.trans q))
    obtain ⟨a1, a2⟩ := isMom_in b_4
    refine lv_aload_n hx hb dX0_isAt_7 rfl (lv_at hl 0 rfl) ?_
    refine va_get (D := D) (ci := 0) (v := .ref h1) (C := RX0) (T := TX0) (N := 6) hx hb hts hin_0 hown hK hP 0 rfl rfl 0 (by decide) fl_9 (fun _ h9 => h9) rfl dX0_isAt_8 ?_
    refine lv_iload_n hx hb dX0_isAt_11 rfl (lv_at hl 1 rfl) ?_
    refine va_iald (D := D) (f := k.1) hx hb hK hP 1 0 rfl rfl (by exact vi_mk (by omega) (by omega)) dX0_isAt_12 ?_
    refine lv_iload_n hx hb dX0_isAt_13 rfl (lv_at hl 2 rfl) ?_
    refine lv_icmp_ne (tgt := 31) hx hb dX0_isAt_14 (by decide) (fun c_14 => ?_) (fun c_14 => ?_)
    · have i_14 := i_ne c_14
      refine lv_iconst (v := 0) hx hb dX0_isAt_31 (by decide) ?_
      exact lf_z hx hb hr hlocks hQ () hP hD hS dX0_isAt_32 (by first | rfl | (rw [bI_f]; exact bI_n _) | exact bI_n _) (by first | with_reducible rfl | (simp only [cAt, b_4, if_neg c_14, ← hr_1, ↓reduceIte, bI_t, bI_f, reduceCtorEq]; done) | (subst_vars; simp only [cAt, b_4, if_neg c_14, ↓reduceIte, bI_t, bI_f, reduceCtorEq]; done) | (simp [cAt, b_4, c_14, bI_t, bI_f]; done))
    · have i_14 := i_eq c_14
      refine lv_aload_n hx hb dX0_isAt_17 rfl (lv_at hl 0 rfl) ?_
      refine va_get (D := D) (ci := 0) (v := .ref h2) (C := RX0) (T := TX0) (N := 6) hx hb hts hin_0 hown hK hP 0 rfl rfl 1 (by decide) fl_15 (fun _ h9 => h9) rfl dX0_isAt_18 ?_
      refine lv_iload_n hx hb dX0_isAt_21 rfl (lv_at hl 1 rfl) ?_
      refine va_iald (D := D) (f := k.2.1) hx hb hK hP 2 0 rfl rfl (by exact vi_mk (by omega) (by omega)) dX0_isAt_22 ?_
      refine lv_iload_n hx hb dX0_isAt_23 rfl (lv_at hl 3 rfl) ?_
      refine lv_icmp_ne (tgt := 31) hx hb dX0_isAt_24 (by decide) (fun c_24 => ?_) (fun c_24 => ?_)
      · have i_24 := i_ne c_24
        refine lv_iconst (v := 0) hx hb dX0_isAt_31 (by decide) ?_
        exact lf_z hx hb hr hlocks hQ () hP hD hS dX0_isAt_32 (by first | rfl | (rw [bI_f]; exact bI_n _) | exact bI_n _) (by first | with_reducible rfl | (simp only [cAt, b_4, if_pos c_14, if_neg c_24, ← hr_1, ↓reduceIte, bI_t, bI_f, reduceCtorEq]; done) | (subst_vars; simp only [cAt, b_4, if_pos c_14, if_neg c_24, ↓reduceIte, bI_t, bI_f, reduceCtorEq]; done) | (simp [cAt, b_4, c_14, c_24, bI_t, bI_f]; done))
      · have i_24 := i_eq c_24
        refine lv_iconst (v := 1) hx hb dX0_isAt_27 (by decide) ?_
        refine lv_goto (tgt := 32) hx hb dX0_isAt_28 (by decide) ?_
        exact lf_z hx hb hr hlocks hQ () hP hD hS dX0_isAt_32 (by first | rfl | (rw [bI_f]; exact bI_n _) | exact bI_n _) (by first | with_reducible rfl | (simp only [cAt, b_4, if_pos c_14, if_pos c_24, ← hr_1, ↓reduceIte, bI_t, bI_f, reduceCtorEq]; done) | (subst_vars; simp only [cAt, b_4, if_pos c_14, if_pos c_24, ↓reduceIte, bI_t, bI_f, reduceCtorEq]; done) | (simp [cAt, b_4, c_14, c_24, bI_t, bI_f]; done))
abbrev rm_X0_placeBit : Room := { frames := 1, cells := 0, slots := 0, locals := 20 }
set_option maxHeartbeats 4000000 in
set_option maxRecDepth 100000 in
theorem c_X0_placeBit (l : Launch) (D : va_G) (cI cJ cZ : ClassId) (h0 : Nat) (h1 : Nat) (h2 : Nat) (h3 : Nat) (h4 : Nat) (h5 : Nat) (sz : Nat) (k : Crs) (n : Int32) : Met l yX0_placeBit wsX0_placeBit rm_X0_placeBit (va_Pc [.ref h0, .int n] (PU D (tyL cI cJ cZ) (wCrs h0 h1 h2 h3 h4 h5 cI k) sz)) (va_Ql (fun (rz : Int64) (_ : Unit) => rz = cBit k n) (fun uz => BU D (wCrs h0 h1 h2 h3 h4 h5 cI k) (va_A (wCrs h0 h1 h2 h3 h4 h5 cI k) sz)) (va_A (wCrs h0 h1 h2 h3 h4 h5 cI k) sz)) 0 0 (va_A (wCrs h0 h1 h2 h3 h4 h5 cI k) sz) := by
  refine en (own := RX0) (Qc := fun A => va_Ql (fun (rz : Int64) (_ : Unit) => rz = cBit k n) (fun uz => BU D (wCrs h0 h1 h2 h3 h4 h5 cI k) A) A) (by decide) rfl (Nat.le_of_ble_eq_true rfl) rfl ?_
  intro p e s m args below meth c A Q H locs ls hx hb hr hml hown hts hlocks hname hA hN hE hK hQ hP hD hS hl
  have hl : lv_has ls 2 [(0, .ref h0), (1, .int n)] := hl
  have ini_9 := hts (.initialized RX9) (by decide +kernel)
  have stt_X9_isMoment := hts (.static yX9_isMoment) (by decide +kernel)
  have fl_15 := hts (.fieldLink RX0 15 "DanceStaffs$Course" "ys" "[I") (by decide +kernel)
  have hin_0 : ∀ w ∈ u_ws RX0 TX0 6, w ∈ wsX0_placeBit := by decide +kernel
  have fl_9 := hts (.fieldLink RX0 9 "DanceStaffs$Course" "xs" "[I") (by decide +kernel)
  refine lv_iload_n hx hb dX0_placeBit_0 rfl (lv_at hl 1 rfl) ?_
  refine st_i (va_runSN (As := [.int n]) (rest := []) ⟨hx, hb, hml, hown, hts⟩ (c_X9_isMoment l D cI cJ cZ H.size n) ⟨va_cnB 1 hts gX0_placeBit_X9_isMoment_n59 rfl rfl rfl (nw_m hN 5 rfl) ini_9 (by decide +kernel) ⟨Nat.le_of_ble_eq_true rfl, Nat.le_of_ble_eq_true rfl⟩, stt_X9_isMoment, trivial⟩ (pr_S hP hD hK hN hE hS hA [] (by decide) rfl) rfl rfl hl.1 rfl (lv_room (Nat.le_of_ble_eq_true rfl)) dX0_placeBit_1 ⟨Nat.zero_le _, Nat.zero_le _⟩) hP hS hA (fun r_1 u_1 H locs hw_1 hP hS => ?_)
  have hr_1 := hw_1
  refine lv_if_eq (tgt := 28) hx hb dX0_placeBit_4 (by decide) (fun c_4 => ?_) (fun c_4 => ?_)
  · have b_4 : (isMom n) = false := bI_0 (hr_1.symm.trans c_4)
    refine lv_lconst (v := 0) hx hb dX0_placeBit_28 (by decide) ?_
    exact lf_l hx hb hr hlocks hQ () hP hD hS dX0_placeBit_29 (by first | with_reducible rfl | (simp only [cBit, b_4, ← hr_1, ↓reduceIte, bI_t, bI_f, reduceCtorEq]; done) | (subst_vars; simp only [cBit, b_4, ↓reduceIte, bI_t, bI_f, reduceCtorEq]; done) | (simp [cBit, b_4, bI_t, bI_f]; done))
  · have b_4 : (isMom n) = true := bI_1 (fun q => c_4 (hr_1.trans q))
    obtain ⟨a1, a2⟩ := isMom_in b_4
    refine lv_lconst (v := 1) hx hb dX0_placeBit_7 (by decide) ?_
    refine lv_aload_n hx hb dX0_placeBit_8 rfl (lv_at hl 0 rfl) ?_
    refine va_get (D := D) (ci := 0) (v := .ref h2) (C := RX0) (T := TX0) (N := 6) hx hb hts hin_0 hown hK hP 0 rfl rfl 1 (by decide) fl_15 (fun _ h9 => h9) rfl dX0_placeBit_9 ?_
    refine lv_iload_n hx hb dX0_placeBit_12 rfl (lv_at hl 1 rfl) ?_
    refine va_iald (D := D) (f := k.2.1) hx hb hK hP 2 0 rfl rfl (by exact vi_mk (by omega) (by omega)) dX0_placeBit_13 ?_
    refine lv_bipush (v := 7) hx hb dX0_placeBit_14 (by decide) ?_
    refine lv_imul hx hb dX0_placeBit_16 ?_
    refine lv_aload_n hx hb dX0_placeBit_17 rfl (lv_at hl 0 rfl) ?_
    refine va_get (D := D) (ci := 0) (v := .ref h1) (C := RX0) (T := TX0) (N := 6) hx hb hts hin_0 hown hK hP 0 rfl rfl 0 (by decide) fl_9 (fun _ h9 => h9) rfl dX0_placeBit_18 ?_
    refine lv_iload_n hx hb dX0_placeBit_21 rfl (lv_at hl 1 rfl) ?_
    refine va_iald (D := D) (f := k.1) hx hb hK hP 1 0 rfl rfl (by exact vi_mk (by omega) (by omega)) dX0_placeBit_22 ?_
    refine lv_iadd hx hb dX0_placeBit_23 ?_
    refine lv_lshl (v := (1 <<< ((((k.2.1 (n).toNatClampNeg) * 7) + (k.1 (n).toNatClampNeg)).toInt64 &&& 63))) hx hb dX0_placeBit_24 rfl ?_
    refine lv_goto (tgt := 29) hx hb dX0_placeBit_25 (by decide) ?_
    exact lf_l hx hb hr hlocks hQ () hP hD hS dX0_placeBit_29 (by first | with_reducible rfl | (simp only [cBit, b_4, ← hr_1, ↓reduceIte, bI_t, bI_f, reduceCtorEq]; done) | (subst_vars; simp only [cBit, b_4, ↓reduceIte, bI_t, bI_f, reduceCtorEq]; done) | (simp [cBit, b_4, bI_t, bI_f]; done))
abbrev rm_X0_meets : Room := { frames := 2, cells := 0, slots := 0, locals := 43 }
set_option maxHeartbeats 4000000 in
set_option maxRecDepth 100000 in
theorem c_X0_meets (l : Launch) (D : va_G) (cI cJ cZ : ClassId) (h0 : Nat) (h1 : Nat) (h2 : Nat) (h3 : Nat) (h4 : Nat) (h5 : Nat) (o0 : Nat) (o1 : Nat) (o2 : Nat) (o3 : Nat) (o4 : Nat) (o5 : Nat) (sz : Nat) (k : Crs) (o : Crs) (n : Int32) : Met l yX0_meets wsX0_meets rm_X0_meets (va_Pc [.ref h0, .ref o0, .int n] (PU D (tyL cI cJ cZ) (wCrs h0 h1 h2 h3 h4 h5 cI k ++ wCrs o0 o1 o2 o3 o4 o5 cI o) sz)) (va_Qi (fun (rz : Int32) (_ : Unit) => rz = bI (cMeet k o n)) (fun uz => BU D (wCrs h0 h1 h2 h3 h4 h5 cI k ++ wCrs o0 o1 o2 o3 o4 o5 cI o) (va_A (wCrs h0 h1 h2 h3 h4 h5 cI k ++ wCrs o0 o1 o2 o3 o4 o5 cI o) sz)) (va_A (wCrs h0 h1 h2 h3 h4 h5 cI k ++ wCrs o0 o1 o2 o3 o4 o5 cI o) sz)) 0 0 (va_A (wCrs h0 h1 h2 h3 h4 h5 cI k ++ wCrs o0 o1 o2 o3 o4 o5 cI o) sz) := by
  refine en (own := RX0) (Qc := fun A => va_Qi (fun (rz : Int32) (_ : Unit) => rz = bI (cMeet k o n)) (fun uz => BU D (wCrs h0 h1 h2 h3 h4 h5 cI k ++ wCrs o0 o1 o2 o3 o4 o5 cI o) A) A) (by decide) rfl (Nat.le_of_ble_eq_true rfl) rfl ?_
  intro p e s m args below meth c A Q H locs ls hx hb hr hml hown hts hlocks hname hA hN hE hK hQ hP hD hS hl
  have hl : lv_has ls 3 [(0, .ref h0), (1, .ref o0), (2, .int n)] := hl
  have ini_9 := hts (.initialized RX9) (by decide +kernel)
  have stt_X9_isMoment := hts (.static yX9_isMoment) (by decide +kernel)
  have fl_9 := hts (.fieldLink RX0 9 "DanceStaffs$Course" "xs" "[I") (by decide +kernel)
  have hin_0 : ∀ w ∈ u_ws RX0 TX0 6, w ∈ wsX0_meets := by decide +kernel
  have fl_15 := hts (.fieldLink RX0 15 "DanceStaffs$Course" "ys" "[I") (by decide +kernel)
  refine lv_iload_n hx hb dX0_meets_0 rfl (lv_at hl 2 rfl) ?_
  refine st_i (va_runSN (As := [.int n]) (rest := []) ⟨hx, hb, hml, hown, hts⟩ (c_X9_isMoment l D cI cJ cZ H.size n) ⟨va_cnB 1 hts gX0_meets_X9_isMoment_n59 rfl rfl rfl (nw_m hN 5 rfl) ini_9 (by decide +kernel) ⟨Nat.le_of_ble_eq_true rfl, Nat.le_of_ble_eq_true rfl⟩, stt_X9_isMoment, trivial⟩ (pr_S hP hD hK hN hE hS hA [] (by decide) rfl) rfl rfl hl.1 rfl (lv_room (Nat.le_of_ble_eq_true rfl)) dX0_meets_1 ⟨Nat.zero_le _, Nat.zero_le _⟩) hP hS hA (fun r_1 u_1 H locs hw_1 hP hS => ?_)
  have hr_1 := hw_1
  refine lv_if_eq (tgt := 31) hx hb dX0_meets_4 (by decide) (fun c_4 => ?_) (fun c_4 => ?_)
  · have b_4 : (isMom n) = false := bI_0 (hr_1.symm.trans c_4)
    refine lv_iconst (v := 0) hx hb dX0_meets_31 (by decide) ?_
    exact lf_z hx hb hr hlocks hQ () hP hD hS dX0_meets_32 (by first | rfl | (rw [bI_f]; exact bI_n _) | exact bI_n _) (by first | with_reducible rfl | (simp only [cMeet, b_4, ← hr_1, ↓reduceIte, bI_t, bI_f, reduceCtorEq]; done) | (subst_vars; simp only [cMeet, b_4, ↓reduceIte, bI_t, bI_f, reduceCtorEq]; done) | (simp [cMeet, b_4, bI_t, bI_f]; done))
  · have b_4 : (isMom n) = true := bI_1 (fun q => c_4 (hr_1.trans q))
    obtain ⟨a1, a2⟩ := isMom_in b_4
    refine lv_aload_n hx hb dX0_meets_7 rfl (lv_at hl 1 rfl) ?_
    refine lv_iload_n hx hb dX0_meets_8 rfl (lv_at hl 2 rfl) ?_
    refine lv_aload_n hx hb dX0_meets_9 rfl (lv_at hl 0 rfl) ?_
    refine va_get (D := D) (ci := 0) (v := .ref h1) (C := RX0) (T := TX0) (N := 6) hx hb hts hin_0 hown hK hP 0 rfl rfl 0 (by decide) fl_9 (fun _ h9 => h9) rfl dX0_meets_10 ?_
    refine lv_iload_n hx hb dX0_meets_13 rfl (lv_at hl 2 rfl) ?_
    refine va_iald (D := D) (f := k.1) hx hb hK hP 1 0 rfl rfl (by exact vi_mk (by omega) (by omega)) dX0_meets_14 ?_
    refine lv_aload_n hx hb dX0_meets_15 rfl (lv_at hl 0 rfl) ?_
    refine va_get (D := D) (ci := 0) (v := .ref h2) (C := RX0) (T := TX0) (N := 6) hx hb hts hin_0 hown hK hP 0 rfl rfl 1 (by decide) fl_15 (fun _ h9 => h9) rfl dX0_meets_16 ?_
    refine lv_iload_n hx hb dX0_meets_19 rfl (lv_at hl 2 rfl) ?_
    refine va_iald (D := D) (f := k.2.1) hx hb hK hP 2 0 rfl rfl (by exact vi_mk (by omega) (by omega)) dX0_meets_20 ?_
    refine jn_i (W2 := fun _ => wCrs h0 h1 h2 h3 h4 h5 cI k ++ wCrs o0 o1 o2 o3 o4 o5 cI o) (va_runV (As := [.int n, .int (k.1 (n).toNatClampNeg), .int (k.2.1 (n).toNatClampNeg)]) (rest := []) ⟨hx, hb, hml, hown, hts⟩ (c_X0_isAt l D cI cJ cZ o0 o1 o2 o3 o4 o5 H.size o n (k.1 (n).toNatClampNeg) (k.2.1 (n).toNatClampNeg)) (cwV 3 hts gX0_meets_X0_isAt rfl rfl rfl (by decide +kernel) ⟨Nat.le_of_ble_eq_true rfl, Nat.le_of_ble_eq_true rfl⟩) (pr_V hP hD hK hN hE hS hA [6, 7, 8, 9, 10, 11] (by decide) rfl (ci := 0) (q0 := 6) rfl rfl) rfl rfl hl.1 rfl (lv_room (Nat.le_of_ble_eq_true rfl)) dX0_meets_21 ⟨Nat.zero_le _, Nat.zero_le _⟩) hP hD hS hA [6, 7, 8, 9, 10, 11] [0, 1, 2, 3, 4, 5] [0, 1, 2, 3, 4, 5, 6, 7, 8, 9, 10, 11] rfl rfl (by decide) (by decide) (by decide) (fun _ => rfl) (fun r_21 u_21 H locs hw_21 hP hD hS => ?_)
    have hP : va_P D vwCl (wCrs h0 h1 h2 h3 h4 h5 cI k ++ wCrs o0 o1 o2 o3 o4 o5 cI o) H := hP
    have hD : va_D A (wCrs h0 h1 h2 h3 h4 h5 cI k ++ wCrs o0 o1 o2 o3 o4 o5 cI o) := hD
    have hr_21 := hw_21
    refine lv_if_eq (tgt := 31) hx hb dX0_meets_24 (by decide) (fun c_24 => ?_) (fun c_24 => ?_)
    · have b_24 : (cAt o n (k.1 (n).toNatClampNeg) (k.2.1 (n).toNatClampNeg)) = false := bI_0 (hr_21.symm.trans c_24)
      refine lv_iconst (v := 0) hx hb dX0_meets_31 (by decide) ?_
      exact lf_z hx hb hr hlocks hQ () hP hD hS dX0_meets_32 (by first | rfl | (rw [bI_f]; exact bI_n _) | exact bI_n _) (by first | with_reducible rfl | (simp only [cMeet, b_4, b_24, ← hr_21, ← hr_1, ↓reduceIte, bI_t, bI_f, reduceCtorEq]; done) | (subst_vars; simp only [cMeet, b_4, b_24, ↓reduceIte, bI_t, bI_f, reduceCtorEq]; done) | (simp [cMeet, b_4, b_24, bI_t, bI_f]; done))
    · have b_24 : (cAt o n (k.1 (n).toNatClampNeg) (k.2.1 (n).toNatClampNeg)) = true := bI_1 (fun q => c_24 (hr_21.trans q))
      refine lv_iconst (v := 1) hx hb dX0_meets_27 (by decide) ?_
      refine lv_goto (tgt := 32) hx hb dX0_meets_28 (by decide) ?_
      exact lf_z hx hb hr hlocks hQ () hP hD hS dX0_meets_32 (by first | rfl | (rw [bI_f]; exact bI_n _) | exact bI_n _) (by first | with_reducible rfl | (simp only [cMeet, b_4, b_24, ← hr_21, ← hr_1, ↓reduceIte, bI_t, bI_f, reduceCtorEq]; done) | (subst_vars; simp only [cMeet, b_4, b_24, ↓reduceIte, bI_t, bI_f, reduceCtorEq]; done) | (simp [cMeet, b_4, b_24, bI_t, bI_f]; done))
abbrev rm_X0_crosses : Room := { frames := 3, cells := 0, slots := 0, locals := 65 }
set_option maxHeartbeats 4000000 in
set_option maxRecDepth 100000 in
theorem c_X0_crosses (l : Launch) (D : va_G) (cI cJ cZ : ClassId) (h0 : Nat) (h1 : Nat) (h2 : Nat) (h3 : Nat) (h4 : Nat) (h5 : Nat) (o0 : Nat) (o1 : Nat) (o2 : Nat) (o3 : Nat) (o4 : Nat) (o5 : Nat) (sz : Nat) (k : Crs) (o : Crs) (n : Int32) : Met l yX0_crosses wsX0_crosses rm_X0_crosses (va_Pc [.ref h0, .ref o0, .int n] (PU D (tyL cI cJ cZ) (wCrs h0 h1 h2 h3 h4 h5 cI k ++ wCrs o0 o1 o2 o3 o4 o5 cI o) sz)) (va_Qi (fun (rz : Int32) (_ : Unit) => rz = bI (cCross k o n)) (fun uz => BU D (wCrs h0 h1 h2 h3 h4 h5 cI k ++ wCrs o0 o1 o2 o3 o4 o5 cI o) (va_A (wCrs h0 h1 h2 h3 h4 h5 cI k ++ wCrs o0 o1 o2 o3 o4 o5 cI o) sz)) (va_A (wCrs h0 h1 h2 h3 h4 h5 cI k ++ wCrs o0 o1 o2 o3 o4 o5 cI o) sz)) 0 0 (va_A (wCrs h0 h1 h2 h3 h4 h5 cI k ++ wCrs o0 o1 o2 o3 o4 o5 cI o) sz) := by
  refine en (own := RX0) (Qc := fun A => va_Qi (fun (rz : Int32) (_ : Unit) => rz = bI (cCross k o n)) (fun uz => BU D (wCrs h0 h1 h2 h3 h4 h5 cI k ++ wCrs o0 o1 o2 o3 o4 o5 cI o) A) A) (by decide) rfl (Nat.le_of_ble_eq_true rfl) rfl ?_
  intro p e s m args below meth c A Q H locs ls hx hb hr hml hown hts hlocks hname hA hN hE hK hQ hP hD hS hl
  have hl : lv_has ls 3 [(0, .ref h0), (1, .ref o0), (2, .int n)] := hl
  have fl_9 := hts (.fieldLink RX0 9 "DanceStaffs$Course" "xs" "[I") (by decide +kernel)
  have hin_0 : ∀ w ∈ u_ws RX0 TX0 6, w ∈ wsX0_crosses := by decide +kernel
  have fl_15 := hts (.fieldLink RX0 15 "DanceStaffs$Course" "ys" "[I") (by decide +kernel)
  refine lv_iload_n hx hb dX0_crosses_0 rfl (lv_at hl 2 rfl) ?_
  refine lv_iconst (v := 1) hx hb dX0_crosses_1 (by decide) ?_
  refine lv_icmp_lt (tgt := 22) hx hb dX0_crosses_2 (by decide) (fun c_2 => ?_) (fun c_2 => ?_)
  · have i_2 := i_lt c_2
    rw [(by decide : (1 : Int32).toInt = 1)] at i_2
    refine lv_iconst (v := 0) hx hb dX0_crosses_22 (by decide) ?_
    exact lf_z hx hb hr hlocks hQ () hP hD hS dX0_crosses_23 (by first | rfl | (rw [bI_f]; exact bI_n _) | exact bI_n _) (by first | with_reducible rfl | (simp only [cCross, if_pos c_2, ↓reduceIte, bI_t, bI_f, reduceCtorEq]; done) | (subst_vars; simp only [cCross, if_pos c_2, ↓reduceIte, bI_t, bI_f, reduceCtorEq]; done) | (simp [cCross, c_2, bI_t, bI_f]; done))
  · have i_2 := i_nlt c_2
    rw [(by decide : (1 : Int32).toInt = 1)] at i_2
    refine lv_iload_n hx hb dX0_crosses_5 rfl (lv_at hl 2 rfl) ?_
    refine lv_bipush (v := 10) hx hb dX0_crosses_6 (by decide) ?_
    refine lv_icmp_gt (tgt := 22) hx hb dX0_crosses_8 (by decide) (fun c_8 => ?_) (fun c_8 => ?_)
    · have i_8 := i_lt c_8
      rw [(by decide : (10 : Int32).toInt = 10)] at i_8
      refine lv_iconst (v := 0) hx hb dX0_crosses_22 (by decide) ?_
      exact lf_z hx hb hr hlocks hQ () hP hD hS dX0_crosses_23 (by first | rfl | (rw [bI_f]; exact bI_n _) | exact bI_n _) (by first | with_reducible rfl | (simp only [cCross, if_neg c_2, if_pos c_8, ↓reduceIte, bI_t, bI_f, reduceCtorEq]; done) | (subst_vars; simp only [cCross, if_neg c_2, if_pos c_8, ↓reduceIte, bI_t, bI_f, reduceCtorEq]; done) | (simp [cCross, c_2, c_8, bI_t, bI_f]; done))
    · have i_8 := i_nlt c_8
      rw [(by decide : (10 : Int32).toInt = 10)] at i_8
      refine lv_aload_n hx hb dX0_crosses_11 rfl (lv_at hl 0 rfl) ?_
      refine lv_aload_n hx hb dX0_crosses_12 rfl (lv_at hl 1 rfl) ?_
      refine lv_iload_n hx hb dX0_crosses_13 rfl (lv_at hl 2 rfl) ?_
      refine lv_iconst (v := 1) hx hb dX0_crosses_14 (by decide) ?_
      refine lv_isub hx hb dX0_crosses_15 ?_
      refine jn_i (W2 := fun _ => wCrs h0 h1 h2 h3 h4 h5 cI k ++ wCrs o0 o1 o2 o3 o4 o5 cI o) (va_runV (As := [.ref o0, .int (n - 1)]) (rest := []) ⟨hx, hb, hml, hown, hts⟩ (c_X0_meets l D cI cJ cZ h0 h1 h2 h3 h4 h5 o0 o1 o2 o3 o4 o5 H.size k o (n - 1)) (cwV 2 hts gX0_crosses_X0_meets rfl rfl rfl (by decide +kernel) ⟨Nat.le_of_ble_eq_true rfl, Nat.le_of_ble_eq_true rfl⟩) (pr_V hP hD hK hN hE hS hA [0, 1, 2, 3, 4, 5, 6, 7, 8, 9, 10, 11] (by decide) rfl (ci := 0) (q0 := 0) rfl rfl) rfl rfl hl.1 rfl (lv_room (Nat.le_of_ble_eq_true rfl)) dX0_crosses_16 ⟨Nat.zero_le _, Nat.zero_le _⟩) hP hD hS hA [0, 1, 2, 3, 4, 5, 6, 7, 8, 9, 10, 11] [] [0, 1, 2, 3, 4, 5, 6, 7, 8, 9, 10, 11] rfl rfl (by decide) (by decide) (by decide) (fun _ => rfl) (fun r_16 u_16 H locs hw_16 hP hD hS => ?_)
      have hP : va_P D vwCl (wCrs h0 h1 h2 h3 h4 h5 cI k ++ wCrs o0 o1 o2 o3 o4 o5 cI o) H := hP
      have hD : va_D A (wCrs h0 h1 h2 h3 h4 h5 cI k ++ wCrs o0 o1 o2 o3 o4 o5 cI o) := hD
      have hr_16 := hw_16
      refine lv_if_eq (tgt := 24) hx hb dX0_crosses_19 (by decide) (fun c_19 => ?_) (fun c_19 => ?_)
      · have b_19 : (cMeet k o (n - 1)) = false := bI_0 (hr_16.symm.trans c_19)
        refine lv_aload_n hx hb dX0_crosses_24 rfl (lv_at hl 0 rfl) ?_
        refine va_get (D := D) (ci := 0) (v := .ref h1) (C := RX0) (T := TX0) (N := 6) hx hb hts hin_0 hown hK hP 0 rfl rfl 0 (by decide) fl_9 (fun _ h9 => h9) rfl dX0_crosses_25 ?_
        refine lv_iload_n hx hb dX0_crosses_28 rfl (lv_at hl 2 rfl) ?_
        refine lv_iconst (v := 1) hx hb dX0_crosses_29 (by decide) ?_
        refine lv_isub hx hb dX0_crosses_30 ?_
        refine va_iald (D := D) (f := k.1) hx hb hK hP 1 0 rfl rfl (by have q0 : (1 : Int32).toInt = 1 := (by decide); have q1 : (n - 1).toInt = n.toInt - 1 := (by rw [ti_sub (by rw [q0]; omega) (by rw [q0]; omega), q0]); exact vi_mk (by rw [q1]; omega) (by rw [q1]; omega)) dX0_crosses_31 ?_
        refine lv_aload_n hx hb dX0_crosses_32 rfl (lv_at hl 0 rfl) ?_
        refine va_get (D := D) (ci := 0) (v := .ref h1) (C := RX0) (T := TX0) (N := 6) hx hb hts hin_0 hown hK hP 0 rfl rfl 0 (by decide) fl_9 (fun _ h9 => h9) rfl dX0_crosses_33 ?_
        refine lv_iload_n hx hb dX0_crosses_36 rfl (lv_at hl 2 rfl) ?_
        refine va_iald (D := D) (f := k.1) hx hb hK hP 1 0 rfl rfl (by exact vi_mk (by omega) (by omega)) dX0_crosses_37 ?_
        refine lv_iadd hx hb dX0_crosses_38 ?_
        refine lv_aload_n hx hb dX0_crosses_39 rfl (lv_at hl 1 rfl) ?_
        refine va_get (D := D) (ci := 0) (v := .ref o1) (C := RX0) (T := TX0) (N := 6) hx hb hts hin_0 hown hK hP 6 rfl rfl 0 (by decide) fl_9 (fun _ h9 => h9) rfl dX0_crosses_40 ?_
        refine lv_iload_n hx hb dX0_crosses_43 rfl (lv_at hl 2 rfl) ?_
        refine lv_iconst (v := 1) hx hb dX0_crosses_44 (by decide) ?_
        refine lv_isub hx hb dX0_crosses_45 ?_
        refine va_iald (D := D) (f := o.1) hx hb hK hP 7 0 rfl rfl (by have q0 : (1 : Int32).toInt = 1 := (by decide); have q1 : (n - 1).toInt = n.toInt - 1 := (by rw [ti_sub (by rw [q0]; omega) (by rw [q0]; omega), q0]); exact vi_mk (by rw [q1]; omega) (by rw [q1]; omega)) dX0_crosses_46 ?_
        refine lv_aload_n hx hb dX0_crosses_47 rfl (lv_at hl 1 rfl) ?_
        refine va_get (D := D) (ci := 0) (v := .ref o1) (C := RX0) (T := TX0) (N := 6) hx hb hts hin_0 hown hK hP 6 rfl rfl 0 (by decide) fl_9 (fun _ h9 => h9) rfl dX0_crosses_48 ?_
        refine lv_iload_n hx hb dX0_crosses_51 rfl (lv_at hl 2 rfl) ?_
        refine va_iald (D := D) (f := o.1) hx hb hK hP 7 0 rfl rfl (by exact vi_mk (by omega) (by omega)) dX0_crosses_52 ?_
        refine lv_iadd hx hb dX0_crosses_53 ?_
        refine lv_icmp_ne (tgt := 94) hx hb dX0_crosses_54 (by decide) (fun c_54 => ?_) (fun c_54 => ?_)
        · have i_54 := i_ne c_54
          refine lv_iconst (v := 0) hx hb dX0_crosses_94 (by decide) ?_
          exact lf_z hx hb hr hlocks hQ () hP hD hS dX0_crosses_95 (by first | rfl | (rw [bI_f]; exact bI_n _) | exact bI_n _) (by first | with_reducible rfl | (simp only [cCross, if_neg c_2, if_neg c_8, b_19, if_neg c_54, ← hr_16, ↓reduceIte, bI_t, bI_f, reduceCtorEq]; done) | (subst_vars; simp only [cCross, if_neg c_2, if_neg c_8, b_19, if_neg c_54, ↓reduceIte, bI_t, bI_f, reduceCtorEq]; done) | (simp [cCross, c_2, c_8, b_19, c_54, bI_t, bI_f]; done))
        · have i_54 := i_eq c_54
          refine lv_aload_n hx hb dX0_crosses_57 rfl (lv_at hl 0 rfl) ?_
          refine va_get (D := D) (ci := 0) (v := .ref h2) (C := RX0) (T := TX0) (N := 6) hx hb hts hin_0 hown hK hP 0 rfl rfl 1 (by decide) fl_15 (fun _ h9 => h9) rfl dX0_crosses_58 ?_
          refine lv_iload_n hx hb dX0_crosses_61 rfl (lv_at hl 2 rfl) ?_
          refine lv_iconst (v := 1) hx hb dX0_crosses_62 (by decide) ?_
          refine lv_isub hx hb dX0_crosses_63 ?_
          refine va_iald (D := D) (f := k.2.1) hx hb hK hP 2 0 rfl rfl (by have q0 : (1 : Int32).toInt = 1 := (by decide); have q1 : (n - 1).toInt = n.toInt - 1 := (by rw [ti_sub (by rw [q0]; omega) (by rw [q0]; omega), q0]); exact vi_mk (by rw [q1]; omega) (by rw [q1]; omega)) dX0_crosses_64 ?_
          refine lv_aload_n hx hb dX0_crosses_65 rfl (lv_at hl 0 rfl) ?_
          refine va_get (D := D) (ci := 0) (v := .ref h2) (C := RX0) (T := TX0) (N := 6) hx hb hts hin_0 hown hK hP 0 rfl rfl 1 (by decide) fl_15 (fun _ h9 => h9) rfl dX0_crosses_66 ?_
          refine lv_iload_n hx hb dX0_crosses_69 rfl (lv_at hl 2 rfl) ?_
          refine va_iald (D := D) (f := k.2.1) hx hb hK hP 2 0 rfl rfl (by exact vi_mk (by omega) (by omega)) dX0_crosses_70 ?_
          refine lv_iadd hx hb dX0_crosses_71 ?_
          refine lv_aload_n hx hb dX0_crosses_72 rfl (lv_at hl 1 rfl) ?_
          refine va_get (D := D) (ci := 0) (v := .ref o2) (C := RX0) (T := TX0) (N := 6) hx hb hts hin_0 hown hK hP 6 rfl rfl 1 (by decide) fl_15 (fun _ h9 => h9) rfl dX0_crosses_73 ?_
          refine lv_iload_n hx hb dX0_crosses_76 rfl (lv_at hl 2 rfl) ?_
          refine lv_iconst (v := 1) hx hb dX0_crosses_77 (by decide) ?_
          refine lv_isub hx hb dX0_crosses_78 ?_
          refine va_iald (D := D) (f := o.2.1) hx hb hK hP 8 0 rfl rfl (by have q0 : (1 : Int32).toInt = 1 := (by decide); have q1 : (n - 1).toInt = n.toInt - 1 := (by rw [ti_sub (by rw [q0]; omega) (by rw [q0]; omega), q0]); exact vi_mk (by rw [q1]; omega) (by rw [q1]; omega)) dX0_crosses_79 ?_
          refine lv_aload_n hx hb dX0_crosses_80 rfl (lv_at hl 1 rfl) ?_
          refine va_get (D := D) (ci := 0) (v := .ref o2) (C := RX0) (T := TX0) (N := 6) hx hb hts hin_0 hown hK hP 6 rfl rfl 1 (by decide) fl_15 (fun _ h9 => h9) rfl dX0_crosses_81 ?_
          refine lv_iload_n hx hb dX0_crosses_84 rfl (lv_at hl 2 rfl) ?_
          refine va_iald (D := D) (f := o.2.1) hx hb hK hP 8 0 rfl rfl (by exact vi_mk (by omega) (by omega)) dX0_crosses_85 ?_
          refine lv_iadd hx hb dX0_crosses_86 ?_
          refine lv_icmp_ne (tgt := 94) hx hb dX0_crosses_87 (by decide) (fun c_87 => ?_) (fun c_87 => ?_)
          · have i_87 := i_ne c_87
            refine lv_iconst (v := 0) hx hb dX0_crosses_94 (by decide) ?_
            exact lf_z hx hb hr hlocks hQ () hP hD hS dX0_crosses_95 (by first | rfl | (rw [bI_f]; exact bI_n _) | exact bI_n _) (by first | with_reducible rfl | (simp only [cCross, if_neg c_2, if_neg c_8, b_19, if_pos c_54, if_neg c_87, ← hr_16, ↓reduceIte, bI_t, bI_f, reduceCtorEq]; done) | (subst_vars; simp only [cCross, if_neg c_2, if_neg c_8, b_19, if_pos c_54, if_neg c_87, ↓reduceIte, bI_t, bI_f, reduceCtorEq]; done) | (simp [cCross, c_2, c_8, b_19, c_54, c_87, bI_t, bI_f]; done))
          · have i_87 := i_eq c_87
            refine lv_iconst (v := 1) hx hb dX0_crosses_90 (by decide) ?_
            refine lv_goto (tgt := 95) hx hb dX0_crosses_91 (by decide) ?_
            exact lf_z hx hb hr hlocks hQ () hP hD hS dX0_crosses_95 (by first | rfl | (rw [bI_f]; exact bI_n _) | exact bI_n _) (by first | with_reducible rfl | (simp only [cCross, if_neg c_2, if_neg c_8, b_19, if_pos c_54, if_pos c_87, ← hr_16, ↓reduceIte, bI_t, bI_f, reduceCtorEq]; done) | (subst_vars; simp only [cCross, if_neg c_2, if_neg c_8, b_19, if_pos c_54, if_pos c_87, ↓reduceIte, bI_t, bI_f, reduceCtorEq]; done) | (simp [cCross, c_2, c_8, b_19, c_54, c_87, bI_t, bI_f]; done))
      · have b_19 : (cMeet k o (n - 1)) = true := bI_1 (fun q => c_19 (hr_16.trans q))
        refine lv_iconst (v := 0) hx hb dX0_crosses_22 (by decide) ?_
        exact lf_z hx hb hr hlocks hQ () hP hD hS dX0_crosses_23 (by first | rfl | (rw [bI_f]; exact bI_n _) | exact bI_n _) (by first | with_reducible rfl | (simp only [cCross, if_neg c_2, if_neg c_8, b_19, ← hr_16, ↓reduceIte, bI_t, bI_f, reduceCtorEq]; done) | (subst_vars; simp only [cCross, if_neg c_2, if_neg c_8, b_19, ↓reduceIte, bI_t, bI_f, reduceCtorEq]; done) | (simp [cCross, c_2, c_8, b_19, bI_t, bI_f]; done))
abbrev rm_X1_empty : Room := { frames := 0, cells := 0, slots := 0, locals := 0 }
set_option maxHeartbeats 4000000 in
set_option maxRecDepth 100000 in
theorem c_X1_empty (l : Launch) (D : va_G) (cI cJ cZ : ClassId) (h0 : Nat) (h1 : Nat) (h2 : Nat) (h3 : Nat) (sz : Nat) (v : His) : Met l yX1_empty wsX1_empty rm_X1_empty (va_Pc [.ref h0] (PU D (tyL cI cJ cZ) (wHis h0 h1 h2 h3 cI v) sz)) (va_Qv (fun (uz : His) => uz = (v.1, v.2.1, v.2.2.1, v.2.2.2.1, 0)) (fun uz => BU D (wHis h0 h1 h2 h3 cI uz) (va_A (wHis h0 h1 h2 h3 cI v) sz)) (va_A (wHis h0 h1 h2 h3 cI v) sz)) 0 0 (va_A (wHis h0 h1 h2 h3 cI v) sz) := by
  refine en (own := RX1) (Qc := fun A => va_Qv (fun (uz : His) => uz = (v.1, v.2.1, v.2.2.1, v.2.2.2.1, 0)) (fun uz => BU D (wHis h0 h1 h2 h3 cI uz) A) A) (by decide) rfl (Nat.le_of_ble_eq_true rfl) rfl ?_
  intro p e s m args below meth c A Q H locs ls hx hb hr hml hown hts hlocks hname hA hN hE hK hQ hP hD hS hl
  have hl : lv_has ls 1 [(0, .ref h0)] := hl
  have fl_25 := hts (.fieldLink RX1 25 "DanceStaffs$History" "size" "I") (by decide +kernel)
  have hin_1 : ∀ w ∈ u_ws RX1 TX1 5, w ∈ wsX1_empty := by decide +kernel
  refine lv_aload_n hx hb dX1_empty_0 rfl (lv_at hl 0 rfl) ?_
  refine lv_iconst (v := 0) hx hb dX1_empty_1 (by decide) ?_
  refine va_put (D := D) (ci := 1) (v := .int 0) (ty := .int) (C := RX1) (T := TX1) (N := 5) hx hb hts hin_1 tyX1 tyX1_ok nmX1 hown hK hP hD hS 0 rfl rfl 4 (by decide) fl_25 (fun _ h9 => h9) rfl (by decide +kernel) rfl rfl (Nat.le_of_ble_eq_true rfl) dX1_empty_2 (fun H locs hP hD hS => ?_)
  have hP : va_P D vwCl (wHis h0 h1 h2 h3 cI (v.1, v.2.1, v.2.2.1, v.2.2.2.1, 0)) H := hP
  have hD : va_D A (wHis h0 h1 h2 h3 cI (v.1, v.2.1, v.2.2.1, v.2.2.2.1, 0)) := hD
  exact lf_v hx hb hr hlocks hQ (v.1, v.2.1, v.2.2.1, v.2.2.2.1, 0) hP hD hS dX1_empty_5 (by first | with_reducible rfl | (simp only [↓reduceIte, bI_t, bI_f, reduceCtorEq]; done) | (subst_vars; simp only [↓reduceIte, bI_t, bI_f, reduceCtorEq]; done) | (simp [bI_t, bI_f]; done))
abbrev rm_X2_drop : Room := { frames := 0, cells := 0, slots := 0, locals := 0 }
set_option maxHeartbeats 4000000 in
set_option maxRecDepth 100000 in
theorem c_X2_drop (l : Launch) (D : va_G) (cI cJ cZ : ClassId) (h0 : Nat) (h1 : Nat) (h2 : Nat) (h3 : Nat) (sz : Nat) (v : Img) : Met l yX2_drop wsX2_drop rm_X2_drop (va_Pc [.ref h0] (PU D (tyL cI cJ cZ) (wImg h0 h1 h2 h3 cI v) sz)) (va_Qv (fun (uz : Img) => uz = (0, v.2)) (fun uz => BU D (wImg h0 h1 h2 h3 cI uz) (va_A (wImg h0 h1 h2 h3 cI v) sz)) (va_A (wImg h0 h1 h2 h3 cI v) sz)) 0 0 (va_A (wImg h0 h1 h2 h3 cI v) sz) := by
  refine en (own := RX2) (Qc := fun A => va_Qv (fun (uz : Img) => uz = (0, v.2)) (fun uz => BU D (wImg h0 h1 h2 h3 cI uz) A) A) (by decide) rfl (Nat.le_of_ble_eq_true rfl) rfl ?_
  intro p e s m args below meth c A Q H locs ls hx hb hr hml hown hts hlocks hname hA hN hE hK hQ hP hD hS hl
  have hl : lv_has ls 1 [(0, .ref h0)] := hl
  have fl_16 := hts (.fieldLink RX2 16 "DanceStaffs$Image" "isTaken" "Z") (by decide +kernel)
  have hin_2 : ∀ w ∈ u_ws RX2 TX2 2, w ∈ wsX2_drop := by decide +kernel
  refine lv_aload_n hx hb dX2_drop_0 rfl (lv_at hl 0 rfl) ?_
  refine lv_iconst (v := 0) hx hb dX2_drop_1 (by decide) ?_
  refine va_put (D := D) (ci := 2) (v := .int 0) (ty := .boolean) (C := RX2) (T := TX2) (N := 2) hx hb hts hin_2 tyX2 tyX2_ok nmX2 hown hK hP hD hS 0 rfl rfl 1 (by decide) fl_16 (fun _ h9 => h9) rfl (by decide +kernel) rfl rfl (Nat.le_of_ble_eq_true rfl) dX2_drop_2 (fun H locs hP hD hS => ?_)
  have hP : va_P D vwCl (wImg h0 h1 h2 h3 cI (0, v.2)) H := hP
  have hD : va_D A (wImg h0 h1 h2 h3 cI (0, v.2)) := hD
  exact lf_v hx hb hr hlocks hQ (0, v.2) hP hD hS dX2_drop_5 (by first | with_reducible rfl | (simp only [↓reduceIte, bI_t, bI_f, reduceCtorEq]; done) | (subst_vars; simp only [↓reduceIte, bI_t, bI_f, reduceCtorEq]; done) | (simp [bI_t, bI_f]; done))
abbrev rm_X4_empty : Room := { frames := 0, cells := 0, slots := 0, locals := 0 }
set_option maxHeartbeats 4000000 in
set_option maxRecDepth 100000 in
theorem c_X4_empty (l : Launch) (D : va_G) (cI cJ cZ : ClassId) (h0 : Nat) (h1 : Nat) (h2 : Nat) (h3 : Nat) (sz : Nat) (v : Sgt) : Met l yX4_empty wsX4_empty rm_X4_empty (va_Pc [.ref h0] (PU D (tyL cI cJ cZ) (wSgt h0 h1 h2 h3 cI v) sz)) (va_Qv (fun (uz : Sgt) => uz = (v.1, v.2.1, v.2.2.1, 0)) (fun uz => BU D (wSgt h0 h1 h2 h3 cI uz) (va_A (wSgt h0 h1 h2 h3 cI v) sz)) (va_A (wSgt h0 h1 h2 h3 cI v) sz)) 0 0 (va_A (wSgt h0 h1 h2 h3 cI v) sz) := by
  refine en (own := RX4) (Qc := fun A => va_Qv (fun (uz : Sgt) => uz = (v.1, v.2.1, v.2.2.1, 0)) (fun uz => BU D (wSgt h0 h1 h2 h3 cI uz) A) A) (by decide) rfl (Nat.le_of_ble_eq_true rfl) rfl ?_
  intro p e s m args below meth c A Q H locs ls hx hb hr hml hown hts hlocks hname hA hN hE hK hQ hP hD hS hl
  have hl : lv_has ls 1 [(0, .ref h0)] := hl
  have fl_21 := hts (.fieldLink RX4 21 "DanceStaffs$Sightings" "size" "I") (by decide +kernel)
  have hin_4 : ∀ w ∈ u_ws RX4 TX4 4, w ∈ wsX4_empty := by decide +kernel
  refine lv_aload_n hx hb dX4_empty_0 rfl (lv_at hl 0 rfl) ?_
  refine lv_iconst (v := 0) hx hb dX4_empty_1 (by decide) ?_
  refine va_put (D := D) (ci := 4) (v := .int 0) (ty := .int) (C := RX4) (T := TX4) (N := 4) hx hb hts hin_4 tyX4 tyX4_ok nmX4 hown hK hP hD hS 0 rfl rfl 3 (by decide) fl_21 (fun _ h9 => h9) rfl (by decide +kernel) rfl rfl (Nat.le_of_ble_eq_true rfl) dX4_empty_2 (fun H locs hP hD hS => ?_)
  have hP : va_P D vwCl (wSgt h0 h1 h2 h3 cI (v.1, v.2.1, v.2.2.1, 0)) H := hP
  have hD : va_D A (wSgt h0 h1 h2 h3 cI (v.1, v.2.1, v.2.2.1, 0)) := hD
  exact lf_v hx hb hr hlocks hQ (v.1, v.2.1, v.2.2.1, 0) hP hD hS dX4_empty_5 (by first | with_reducible rfl | (simp only [↓reduceIte, bI_t, bI_f, reduceCtorEq]; done) | (subst_vars; simp only [↓reduceIte, bI_t, bI_f, reduceCtorEq]; done) | (simp [bI_t, bI_f]; done))
abbrev rm_X4_add : Room := { frames := 0, cells := 0, slots := 0, locals := 0 }
set_option maxHeartbeats 4000000 in
set_option maxRecDepth 100000 in
theorem c_X4_add (l : Launch) (D : va_G) (cI cJ cZ : ClassId) (h0 : Nat) (h1 : Nat) (h2 : Nat) (h3 : Nat) (sz : Nat) (v : Sgt) (n : Int32) (x : Int32) (y : Int32) (h00 : 0 ≤ v.2.2.2.toInt) : Met l yX4_add wsX4_add rm_X4_add (va_Pc [.ref h0, .int n, .int x, .int y] (PU D (tyL cI cJ cZ) (wSgt h0 h1 h2 h3 cI v) sz)) (va_Qi (fun (rz : Int32) (uz : Sgt) => rz = bI (gtAddB v) ∧ uz = gtAdd v n x y) (fun uz => BU D (wSgt h0 h1 h2 h3 cI uz) (va_A (wSgt h0 h1 h2 h3 cI v) sz)) (va_A (wSgt h0 h1 h2 h3 cI v) sz)) 0 0 (va_A (wSgt h0 h1 h2 h3 cI v) sz) := by
  refine en (own := RX4) (Qc := fun A => va_Qi (fun (rz : Int32) (uz : Sgt) => rz = bI (gtAddB v) ∧ uz = gtAdd v n x y) (fun uz => BU D (wSgt h0 h1 h2 h3 cI uz) A) A) (by decide) rfl (Nat.le_of_ble_eq_true rfl) rfl ?_
  intro p e s m args below meth c A Q H locs ls hx hb hr hml hown hts hlocks hname hA hN hE hK hQ hP hD hS hl
  have hl : lv_has ls 4 [(0, .ref h0), (1, .int n), (2, .int x), (3, .int y)] := hl
  have fl_21 := hts (.fieldLink RX4 21 "DanceStaffs$Sightings" "size" "I") (by decide +kernel)
  have hin_4 : ∀ w ∈ u_ws RX4 TX4 4, w ∈ wsX4_add := by decide +kernel
  have fl_9 := hts (.fieldLink RX4 9 "DanceStaffs$Sightings" "moments" "[I") (by decide +kernel)
  have fl_15 := hts (.fieldLink RX4 15 "DanceStaffs$Sightings" "xs" "[I") (by decide +kernel)
  have fl_18 := hts (.fieldLink RX4 18 "DanceStaffs$Sightings" "ys" "[I") (by decide +kernel)
  refine lv_aload_n hx hb dX4_add_0 rfl (lv_at hl 0 rfl) ?_
  refine va_get (D := D) (ci := 4) (v := .int v.2.2.2) (C := RX4) (T := TX4) (N := 4) hx hb hts hin_4 hown hK hP 0 rfl rfl 3 (by decide) fl_21 (fun _ h9 => h9) rfl dX4_add_1 ?_
  refine lv_bipush (v := 6) hx hb dX4_add_4 (by decide) ?_
  refine lv_icmp_lt (tgt := 11) hx hb dX4_add_6 (by decide) (fun c_6 => ?_) (fun c_6 => ?_)
  · have i_6 := i_lt c_6
    rw [(by decide : (6 : Int32).toInt = 6)] at i_6
    refine lv_aload_n hx hb dX4_add_11 rfl (lv_at hl 0 rfl) ?_
    refine va_get (D := D) (ci := 4) (v := .ref h1) (C := RX4) (T := TX4) (N := 4) hx hb hts hin_4 hown hK hP 0 rfl rfl 0 (by decide) fl_9 (fun _ h9 => h9) rfl dX4_add_12 ?_
    refine lv_aload_n hx hb dX4_add_15 rfl (lv_at hl 0 rfl) ?_
    refine va_get (D := D) (ci := 4) (v := .int v.2.2.2) (C := RX4) (T := TX4) (N := 4) hx hb hts hin_4 hown hK hP 0 rfl rfl 3 (by decide) fl_21 (fun _ h9 => h9) rfl dX4_add_16 ?_
    refine lv_iload_n hx hb dX4_add_19 rfl (lv_at hl 1 rfl) ?_
    refine va_iast (D := D) (f := v.1) hx hb hK hP hD hS 1 0 rfl rfl (by exact vi_mk (by omega) (by omega)) dX4_add_20 (fun H locs hP hD hS => ?_)
    have hP : va_P D vwCl (wSgt h0 h1 h2 h3 cI ((upd v.1 ((v.2.2.2).toNatClampNeg) n), v.2)) H := hP
    have hD : va_D A (wSgt h0 h1 h2 h3 cI ((upd v.1 ((v.2.2.2).toNatClampNeg) n), v.2)) := hD
    refine lv_aload_n hx hb dX4_add_21 rfl (lv_at hl 0 rfl) ?_
    refine va_get (D := D) (ci := 4) (v := .ref h2) (C := RX4) (T := TX4) (N := 4) hx hb hts hin_4 hown hK hP 0 rfl rfl 1 (by decide) fl_15 (fun _ h9 => h9) rfl dX4_add_22 ?_
    refine lv_aload_n hx hb dX4_add_25 rfl (lv_at hl 0 rfl) ?_
    refine va_get (D := D) (ci := 4) (v := .int v.2.2.2) (C := RX4) (T := TX4) (N := 4) hx hb hts hin_4 hown hK hP 0 rfl rfl 3 (by decide) fl_21 (fun _ h9 => h9) rfl dX4_add_26 ?_
    refine lv_iload_n hx hb dX4_add_29 rfl (lv_at hl 2 rfl) ?_
    refine va_iast (D := D) (f := v.2.1) hx hb hK hP hD hS 2 0 rfl rfl (by exact vi_mk (by omega) (by omega)) dX4_add_30 (fun H locs hP hD hS => ?_)
    have hP : va_P D vwCl (wSgt h0 h1 h2 h3 cI ((upd v.1 ((v.2.2.2).toNatClampNeg) n), (upd v.2.1 ((v.2.2.2).toNatClampNeg) x), v.2.2)) H := hP
    have hD : va_D A (wSgt h0 h1 h2 h3 cI ((upd v.1 ((v.2.2.2).toNatClampNeg) n), (upd v.2.1 ((v.2.2.2).toNatClampNeg) x), v.2.2)) := hD
    refine lv_aload_n hx hb dX4_add_31 rfl (lv_at hl 0 rfl) ?_
    refine va_get (D := D) (ci := 4) (v := .ref h3) (C := RX4) (T := TX4) (N := 4) hx hb hts hin_4 hown hK hP 0 rfl rfl 2 (by decide) fl_18 (fun _ h9 => h9) rfl dX4_add_32 ?_
    refine lv_aload_n hx hb dX4_add_35 rfl (lv_at hl 0 rfl) ?_
    refine va_get (D := D) (ci := 4) (v := .int v.2.2.2) (C := RX4) (T := TX4) (N := 4) hx hb hts hin_4 hown hK hP 0 rfl rfl 3 (by decide) fl_21 (fun _ h9 => h9) rfl dX4_add_36 ?_
    refine lv_iload_n hx hb dX4_add_39 rfl (lv_at hl 3 rfl) ?_
    refine va_iast (D := D) (f := v.2.2.1) hx hb hK hP hD hS 3 0 rfl rfl (by exact vi_mk (by omega) (by omega)) dX4_add_40 (fun H locs hP hD hS => ?_)
    have hP : va_P D vwCl (wSgt h0 h1 h2 h3 cI ((upd v.1 ((v.2.2.2).toNatClampNeg) n), (upd v.2.1 ((v.2.2.2).toNatClampNeg) x), (upd v.2.2.1 ((v.2.2.2).toNatClampNeg) y), v.2.2.2)) H := hP
    have hD : va_D A (wSgt h0 h1 h2 h3 cI ((upd v.1 ((v.2.2.2).toNatClampNeg) n), (upd v.2.1 ((v.2.2.2).toNatClampNeg) x), (upd v.2.2.1 ((v.2.2.2).toNatClampNeg) y), v.2.2.2)) := hD
    refine lv_aload_n hx hb dX4_add_41 rfl (lv_at hl 0 rfl) ?_
    refine lv_dup hx hb dX4_add_42 rfl ?_
    refine va_get (D := D) (ci := 4) (v := .int v.2.2.2) (C := RX4) (T := TX4) (N := 4) hx hb hts hin_4 hown hK hP 0 rfl rfl 3 (by decide) fl_21 (fun _ h9 => h9) rfl dX4_add_43 ?_
    refine lv_iconst (v := 1) hx hb dX4_add_46 (by decide) ?_
    refine lv_iadd hx hb dX4_add_47 ?_
    refine va_put (D := D) (ci := 4) (v := .int (v.2.2.2 + 1)) (ty := .int) (C := RX4) (T := TX4) (N := 4) hx hb hts hin_4 tyX4 tyX4_ok nmX4 hown hK hP hD hS 0 rfl rfl 3 (by decide) fl_21 (fun _ h9 => h9) rfl (by decide +kernel) rfl rfl (Nat.le_of_ble_eq_true rfl) dX4_add_48 (fun H locs hP hD hS => ?_)
    have hP : va_P D vwCl (wSgt h0 h1 h2 h3 cI ((upd v.1 ((v.2.2.2).toNatClampNeg) n), (upd v.2.1 ((v.2.2.2).toNatClampNeg) x), (upd v.2.2.1 ((v.2.2.2).toNatClampNeg) y), (v.2.2.2 + 1))) H := hP
    have hD : va_D A (wSgt h0 h1 h2 h3 cI ((upd v.1 ((v.2.2.2).toNatClampNeg) n), (upd v.2.1 ((v.2.2.2).toNatClampNeg) x), (upd v.2.2.1 ((v.2.2.2).toNatClampNeg) y), (v.2.2.2 + 1))) := hD
    refine lv_iconst (v := 1) hx hb dX4_add_51 (by decide) ?_
    exact lf_z hx hb hr hlocks hQ ((upd v.1 ((v.2.2.2).toNatClampNeg) n), (upd v.2.1 ((v.2.2.2).toNatClampNeg) x), (upd v.2.2.1 ((v.2.2.2).toNatClampNeg) y), (v.2.2.2 + 1)) hP hD hS dX4_add_52 (by first | rfl | (rw [bI_f]; exact bI_n _) | exact bI_n _) ⟨(by first | with_reducible rfl | (simp only [gtAdd, gtAddB, if_pos c_6, ↓reduceIte, bI_t, bI_f, reduceCtorEq]; done) | (subst_vars; simp only [gtAdd, gtAddB, if_pos c_6, ↓reduceIte, bI_t, bI_f, reduceCtorEq]; done) | (simp [gtAdd, gtAddB, c_6, bI_t, bI_f]; done)), (by first | with_reducible rfl | (simp only [gtAdd, gtAddB, if_pos c_6, ↓reduceIte, bI_t, bI_f, reduceCtorEq]; done) | (subst_vars; simp only [gtAdd, gtAddB, if_pos c_6, ↓reduceIte, bI_t, bI_f, reduceCtorEq]; done) | (simp [gtAdd, gtAddB, c_6, bI_t, bI_f]; done))⟩
  · have i_6 := i_nlt c_6
    rw [(by decide : (6 : Int32).toInt = 6)] at i_6
    refine lv_iconst (v := 0) hx hb dX4_add_9 (by decide) ?_
    exact lf_z hx hb hr hlocks hQ v hP hD hS dX4_add_10 (by first | rfl | (rw [bI_f]; exact bI_n _) | exact bI_n _) ⟨(by first | with_reducible rfl | (simp only [gtAdd, gtAddB, if_neg c_6, ↓reduceIte, bI_t, bI_f, reduceCtorEq]; done) | (subst_vars; simp only [gtAdd, gtAddB, if_neg c_6, ↓reduceIte, bI_t, bI_f, reduceCtorEq]; done) | (simp [gtAdd, gtAddB, c_6, bI_t, bI_f]; done)), (by first | with_reducible rfl | (simp only [gtAdd, gtAddB, if_neg c_6, ↓reduceIte, bI_t, bI_f, reduceCtorEq]; done) | (subst_vars; simp only [gtAdd, gtAddB, if_neg c_6, ↓reduceIte, bI_t, bI_f, reduceCtorEq]; done) | (simp [gtAdd, gtAddB, c_6, bI_t, bI_f]; done))⟩
