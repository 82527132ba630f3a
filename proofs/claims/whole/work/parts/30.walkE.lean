abbrev rm_X9_isDancer : Room := { frames := 0, cells := 0, slots := 0, locals := 0 }
set_option maxHeartbeats 4000000 in
set_option maxRecDepth 100000 in
theorem c_X9_isDancer (l : Launch) (D : va_G) (cI cJ cZ : ClassId) (xa : Nat → Nat) (sz : Nat) (tr : Trp) (d : Int32) : Met l yX9_isDancer wsX9_isDancer rm_X9_isDancer (va_Pc [.ref (xa 0), .int d] (PU D (tyL cI cJ cZ) (wXo xa ++ wTrp (xa 4) (xa 5) (xa 6) (xa 7) (xa 8) (xa 9) (xa 10) cI tr) sz)) (va_Qi (fun (rz : Int32) (_ : Unit) => rz = bI (isDn tr d)) (fun uz => BU D (wXo xa ++ wTrp (xa 4) (xa 5) (xa 6) (xa 7) (xa 8) (xa 9) (xa 10) cI tr) (va_A (wXo xa ++ wTrp (xa 4) (xa 5) (xa 6) (xa 7) (xa 8) (xa 9) (xa 10) cI tr) sz)) (va_A (wXo xa ++ wTrp (xa 4) (xa 5) (xa 6) (xa 7) (xa 8) (xa 9) (xa 10) cI tr) sz)) 0 0 (va_A (wXo xa ++ wTrp (xa 4) (xa 5) (xa 6) (xa 7) (xa 8) (xa 9) (xa 10) cI tr) sz) := by
  refine en (own := RX9) (Qc := fun A => va_Qi (fun (rz : Int32) (_ : Unit) => rz = bI (isDn tr d)) (fun uz => BU D (wXo xa ++ wTrp (xa 4) (xa 5) (xa 6) (xa 7) (xa 8) (xa 9) (xa 10) cI tr) A) A) (by decide) rfl (Nat.le_of_ble_eq_true rfl) rfl ?_
  intro p e s m args below meth c A Q H locs ls hx hb hr hml hown hts hlocks hname hA hN hE hK hQ hP hD hS hl
  have hl : lv_has ls 2 [(0, .ref (xa 0)), (1, .int d)] := hl
  have fl_26 := hts (.fieldLink RX9 26 "DanceStaffs" "troupe" "LDanceStaffs$Troupe;") (by decide +kernel)
  have hin_9 : ∀ w ∈ u_ws RX9 TX9 13, w ∈ wsX9_isDancer := by decide +kernel
  have hin_8 : ∀ w ∈ u_ws RX8 TX8 5, w ∈ wsX9_isDancer := by decide +kernel
  refine lv_iload_n hx hb dX9_isDancer_0 rfl (lv_at hl 1 rfl) ?_
  refine lv_if_lt (tgt := 19) hx hb dX9_isDancer_1 (by decide) (fun c_1 => ?_) (fun c_1 => ?_)
  · have i_1 := i_lt c_1
    rw [(by decide : (0 : Int32).toInt = 0)] at i_1
    refine lv_iconst (v := 0) hx hb dX9_isDancer_19 (by decide) ?_
    exact lf_z hx hb hr hlocks hQ () hP hD hS dX9_isDancer_20 (by first | rfl | (rw [bI_f]; exact bI_n _) | exact bI_n _) (by first | with_reducible rfl | (simp only [isDn, if_pos c_1, ↓reduceIte, bI_t, bI_f, reduceCtorEq]; done) | (subst_vars; simp only [isDn, if_pos c_1, ↓reduceIte, bI_t, bI_f, reduceCtorEq]; done) | (simp [isDn, c_1, bI_t, bI_f]; done))
  · have i_1 := i_nlt c_1
    rw [(by decide : (0 : Int32).toInt = 0)] at i_1
    refine lv_iload_n hx hb dX9_isDancer_4 rfl (lv_at hl 1 rfl) ?_
    refine lv_aload_n hx hb dX9_isDancer_5 rfl (lv_at hl 0 rfl) ?_
    refine va_get (D := D) (ci := 9) (v := .ref (xa 4)) (C := RX9) (T := TX9) (N := 13) hx hb hts hin_9 hown hK hP 0 rfl rfl 2 (by decide) fl_26 (fun _ h9 => h9) rfl dX9_isDancer_6 ?_
    refine va_getN (D := D) (ci := 8) (v := .int tr.2.2.2.1) (C := RX8) (T := TX8) (N := 5) hx hb hts hin_8 hown hK hP 1 rfl rfl 4 (by decide) (nw_fuse hN 27 rfl) (fun _ h9 => h9) rfl dX9_isDancer_9 ?_
    refine lv_icmp_ge (tgt := 19) hx hb dX9_isDancer_12 (by decide) (fun c_12 => ?_) (fun c_12 => ?_)
    · have i_12 := i_le c_12
      refine lv_iconst (v := 0) hx hb dX9_isDancer_19 (by decide) ?_
      exact lf_z hx hb hr hlocks hQ () hP hD hS dX9_isDancer_20 (by first | rfl | (rw [bI_f]; exact bI_n _) | exact bI_n _) (by first | with_reducible rfl | (simp only [isDn, if_neg c_1, if_pos c_12, ↓reduceIte, bI_t, bI_f, reduceCtorEq]; done) | (subst_vars; simp only [isDn, if_neg c_1, if_pos c_12, ↓reduceIte, bI_t, bI_f, reduceCtorEq]; done) | (simp [isDn, c_1, c_12, bI_t, bI_f]; done))
    · have i_12 := i_nle c_12
      refine lv_iconst (v := 1) hx hb dX9_isDancer_15 (by decide) ?_
      refine lv_goto (tgt := 20) hx hb dX9_isDancer_16 (by decide) ?_
      exact lf_z hx hb hr hlocks hQ () hP hD hS dX9_isDancer_20 (by first | rfl | (rw [bI_f]; exact bI_n _) | exact bI_n _) (by first | with_reducible rfl | (simp only [isDn, if_neg c_1, if_neg c_12, ↓reduceIte, bI_t, bI_f, reduceCtorEq]; done) | (subst_vars; simp only [isDn, if_neg c_1, if_neg c_12, ↓reduceIte, bI_t, bI_f, reduceCtorEq]; done) | (simp [isDn, c_1, c_12, bI_t, bI_f]; done))
abbrev rm_X9_areTwo : Room := { frames := 1, cells := 0, slots := 0, locals := 21 }
set_option maxHeartbeats 4000000 in
set_option maxRecDepth 100000 in
theorem c_X9_areTwo (l : Launch) (D : va_G) (cI cJ cZ : ClassId) (xa : Nat → Nat) (sz : Nat) (tr : Trp) (d : Int32) (o : Int32) : Met l yX9_areTwo wsX9_areTwo rm_X9_areTwo (va_Pc [.ref (xa 0), .int d, .int o] (PU D (tyL cI cJ cZ) (wXo xa ++ wTrp (xa 4) (xa 5) (xa 6) (xa 7) (xa 8) (xa 9) (xa 10) cI tr) sz)) (va_Qi (fun (rz : Int32) (_ : Unit) => rz = bI (ar2 tr d o)) (fun uz => BU D (wXo xa ++ wTrp (xa 4) (xa 5) (xa 6) (xa 7) (xa 8) (xa 9) (xa 10) cI tr) (va_A (wXo xa ++ wTrp (xa 4) (xa 5) (xa 6) (xa 7) (xa 8) (xa 9) (xa 10) cI tr) sz)) (va_A (wXo xa ++ wTrp (xa 4) (xa 5) (xa 6) (xa 7) (xa 8) (xa 9) (xa 10) cI tr) sz)) 0 0 (va_A (wXo xa ++ wTrp (xa 4) (xa 5) (xa 6) (xa 7) (xa 8) (xa 9) (xa 10) cI tr) sz) := by
  refine en (own := RX9) (Qc := fun A => va_Qi (fun (rz : Int32) (_ : Unit) => rz = bI (ar2 tr d o)) (fun uz => BU D (wXo xa ++ wTrp (xa 4) (xa 5) (xa 6) (xa 7) (xa 8) (xa 9) (xa 10) cI tr) A) A) (by decide) rfl (Nat.le_of_ble_eq_true rfl) rfl ?_
  intro p e s m args below meth c A Q H locs ls hx hb hr hml hown hts hlocks hname hA hN hE hK hQ hP hD hS hl
  have hl : lv_has ls 3 [(0, .ref (xa 0)), (1, .int d), (2, .int o)] := hl
  refine lv_aload_n hx hb dX9_areTwo_0 rfl (lv_at hl 0 rfl) ?_
  refine lv_iload_n hx hb dX9_areTwo_1 rfl (lv_at hl 1 rfl) ?_
  refine jn_i (W2 := fun _ => wXo xa ++ wTrp (xa 4) (xa 5) (xa 6) (xa 7) (xa 8) (xa 9) (xa 10) cI tr) (va_runV (As := [.int d]) (rest := []) ⟨hx, hb, hml, hown, hts⟩ (c_X9_isDancer l D cI cJ cZ xa H.size tr d) (cwV 1 hts gX9_areTwo_X9_isDancer rfl rfl rfl (by decide +kernel) ⟨Nat.le_of_ble_eq_true rfl, Nat.le_of_ble_eq_true rfl⟩) (pr_V hP hD hK hN hE hS hA [0, 1, 2, 3, 4, 5, 6, 7] (by decide) rfl (ci := 9) (q0 := 0) rfl rfl) rfl rfl hl.1 rfl (lv_room (Nat.le_of_ble_eq_true rfl)) dX9_areTwo_2 ⟨Nat.zero_le _, Nat.zero_le _⟩) hP hD hS hA [0, 1, 2, 3, 4, 5, 6, 7] [] [0, 1, 2, 3, 4, 5, 6, 7] rfl rfl (by decide) (by decide) (by decide) (fun _ => rfl) (fun r_2 u_2 H locs hw_2 hP hD hS => ?_)
  have hP : va_P D vwCl (wXo xa ++ wTrp (xa 4) (xa 5) (xa 6) (xa 7) (xa 8) (xa 9) (xa 10) cI tr) H := hP
  have hD : va_D A (wXo xa ++ wTrp (xa 4) (xa 5) (xa 6) (xa 7) (xa 8) (xa 9) (xa 10) cI tr) := hD
  have hr_2 := hw_2
  refine lv_if_eq (tgt := 25) hx hb dX9_areTwo_5 (by decide) (fun c_5 => ?_) (fun c_5 => ?_)
  · have b_5 : (isDn tr d) = false := bI_0 (hr_2.symm.trans c_5)
    refine lv_iconst (v := 0) hx hb dX9_areTwo_25 (by decide) ?_
    exact lf_z hx hb hr hlocks hQ () hP hD hS dX9_areTwo_26 (by first | rfl | (rw [bI_f]; exact bI_n _) | exact bI_n _) (by first | with_reducible rfl | (simp only [ar2, b_5, ← hr_2, ↓reduceIte, bI_t, bI_f, reduceCtorEq]; done) | (subst_vars; simp only [ar2, b_5, ↓reduceIte, bI_t, bI_f, reduceCtorEq]; done) | (simp [ar2, b_5, bI_t, bI_f]; done))
  · have b_5 : (isDn tr d) = true := bI_1 (fun q => c_5 (hr_2.trans q))
    refine lv_aload_n hx hb dX9_areTwo_8 rfl (lv_at hl 0 rfl) ?_
    refine lv_iload_n hx hb dX9_areTwo_9 rfl (lv_at hl 2 rfl) ?_
    refine jn_i (W2 := fun _ => wXo xa ++ wTrp (xa 4) (xa 5) (xa 6) (xa 7) (xa 8) (xa 9) (xa 10) cI tr) (va_runV (As := [.int o]) (rest := []) ⟨hx, hb, hml, hown, hts⟩ (c_X9_isDancer l D cI cJ cZ xa H.size tr o) (cwV 1 hts gX9_areTwo_X9_isDancer rfl rfl rfl (by decide +kernel) ⟨Nat.le_of_ble_eq_true rfl, Nat.le_of_ble_eq_true rfl⟩) (pr_V hP hD hK hN hE hS hA [0, 1, 2, 3, 4, 5, 6, 7] (by decide) rfl (ci := 9) (q0 := 0) rfl rfl) rfl rfl hl.1 rfl (lv_room (Nat.le_of_ble_eq_true rfl)) dX9_areTwo_10 ⟨Nat.zero_le _, Nat.zero_le _⟩) hP hD hS hA [0, 1, 2, 3, 4, 5, 6, 7] [] [0, 1, 2, 3, 4, 5, 6, 7] rfl rfl (by decide) (by decide) (by decide) (fun _ => rfl) (fun r_10 u_10 H locs hw_10 hP hD hS => ?_)
    have hP : va_P D vwCl (wXo xa ++ wTrp (xa 4) (xa 5) (xa 6) (xa 7) (xa 8) (xa 9) (xa 10) cI tr) H := hP
    have hD : va_D A (wXo xa ++ wTrp (xa 4) (xa 5) (xa 6) (xa 7) (xa 8) (xa 9) (xa 10) cI tr) := hD
    have hr_10 := hw_10
    refine lv_if_eq (tgt := 25) hx hb dX9_areTwo_13 (by decide) (fun c_13 => ?_) (fun c_13 => ?_)
    · have b_13 : (isDn tr o) = false := bI_0 (hr_10.symm.trans c_13)
      refine lv_iconst (v := 0) hx hb dX9_areTwo_25 (by decide) ?_
      exact lf_z hx hb hr hlocks hQ () hP hD hS dX9_areTwo_26 (by first | rfl | (rw [bI_f]; exact bI_n _) | exact bI_n _) (by first | with_reducible rfl | (simp only [ar2, b_5, b_13, ← hr_10, ← hr_2, ↓reduceIte, bI_t, bI_f, reduceCtorEq]; done) | (subst_vars; simp only [ar2, b_5, b_13, ↓reduceIte, bI_t, bI_f, reduceCtorEq]; done) | (simp [ar2, b_5, b_13, bI_t, bI_f]; done))
    · have b_13 : (isDn tr o) = true := bI_1 (fun q => c_13 (hr_10.trans q))
      refine lv_iload_n hx hb dX9_areTwo_16 rfl (lv_at hl 1 rfl) ?_
      refine lv_iload_n hx hb dX9_areTwo_17 rfl (lv_at hl 2 rfl) ?_
      refine lv_icmp_eq (tgt := 25) hx hb dX9_areTwo_18 (by decide) (fun c_18 => ?_) (fun c_18 => ?_)
      · have i_18 := i_eq c_18
        refine lv_iconst (v := 0) hx hb dX9_areTwo_25 (by decide) ?_
        exact lf_z hx hb hr hlocks hQ () hP hD hS dX9_areTwo_26 (by first | rfl | (rw [bI_f]; exact bI_n _) | exact bI_n _) (by first | with_reducible rfl | (simp only [ar2, b_5, b_13, if_pos c_18, ← hr_10, ← hr_2, ↓reduceIte, bI_t, bI_f, reduceCtorEq]; done) | (subst_vars; simp only [ar2, b_5, b_13, if_pos c_18, ↓reduceIte, bI_t, bI_f, reduceCtorEq]; done) | (simp [ar2, b_5, b_13, c_18, bI_t, bI_f]; done))
      · have i_18 := i_ne c_18
        refine lv_iconst (v := 1) hx hb dX9_areTwo_21 (by decide) ?_
        refine lv_goto (tgt := 26) hx hb dX9_areTwo_22 (by decide) ?_
        exact lf_z hx hb hr hlocks hQ () hP hD hS dX9_areTwo_26 (by first | rfl | (rw [bI_f]; exact bI_n _) | exact bI_n _) (by first | with_reducible rfl | (simp only [ar2, b_5, b_13, if_neg c_18, ← hr_10, ← hr_2, ↓reduceIte, bI_t, bI_f, reduceCtorEq]; done) | (subst_vars; simp only [ar2, b_5, b_13, if_neg c_18, ↓reduceIte, bI_t, bI_f, reduceCtorEq]; done) | (simp [ar2, b_5, b_13, c_18, bI_t, bI_f]; done))
abbrev rm_X9_imageOf : Room := { frames := 0, cells := 0, slots := 0, locals := 0 }
set_option maxHeartbeats 4000000 in
set_option maxRecDepth 100000 in
theorem c_X9_imageOf (l : Launch) (D : va_G) (cI cJ cZ : ClassId) (xa : Nat → Nat) (sz : Nat) (k : Int32) : Met l yX9_imageOf wsX9_imageOf rm_X9_imageOf (va_Pc [.ref (xa 0), .int k] (PU D (tyL cI cJ cZ) (wXo xa) sz)) (va_Qr (fun (_ : Unit) => True) (fun _ q t => q = imgA xa k ∧ BU D (wXo xa) (va_A (wXo xa) sz) t) (va_A (wXo xa) sz)) 0 0 (va_A (wXo xa) sz) := by
  refine en (own := RX9) (Qc := fun A => va_Qr (fun (_ : Unit) => True) (fun _ q t => q = imgA xa k ∧ BU D (wXo xa) A t) A) (by decide) rfl (Nat.le_of_ble_eq_true rfl) rfl ?_
  intro p e s m args below meth c A Q H locs ls hx hb hr hml hown hts hlocks hname hA hN hE hK hQ hP hD hS hl
  have hl : lv_has ls 2 [(0, .ref (xa 0)), (1, .int k)] := hl
  have fl_54 := hts (.fieldLink RX9 54 "DanceStaffs" "secondImage" "LDanceStaffs$Image;") (by decide +kernel)
  have hin_9 : ∀ w ∈ u_ws RX9 TX9 13, w ∈ wsX9_imageOf := by decide +kernel
  have fl_50 := hts (.fieldLink RX9 50 "DanceStaffs" "firstImage" "LDanceStaffs$Image;") (by decide +kernel)
  refine lv_iload_n hx hb dX9_imageOf_0 rfl (lv_at hl 1 rfl) ?_
  refine lv_if_ne (tgt := 11) hx hb dX9_imageOf_1 (by decide) (fun c_1 => ?_) (fun c_1 => ?_)
  · have i_1 := i_ne c_1
    rw [(by decide : (0 : Int32).toInt = 0)] at i_1
    refine lv_aload_n hx hb dX9_imageOf_11 rfl (lv_at hl 0 rfl) ?_
    refine va_get (D := D) (ci := 9) (v := .ref (xa 30)) (C := RX9) (T := TX9) (N := 13) hx hb hts hin_9 hown hK hP 0 rfl rfl 7 (by decide) fl_54 (fun _ h9 => h9) rfl dX9_imageOf_12 ?_
    exact lf_r hx hb hr hlocks hQ hP hD hS dX9_imageOf_15 (by simp only [imgA, if_neg c_1, ↓reduceIte])
  · have i_1 := i_eq c_1
    rw [(by decide : (0 : Int32).toInt = 0)] at i_1
    refine lv_aload_n hx hb dX9_imageOf_4 rfl (lv_at hl 0 rfl) ?_
    refine va_get (D := D) (ci := 9) (v := .ref (xa 26)) (C := RX9) (T := TX9) (N := 13) hx hb hts hin_9 hown hK hP 0 rfl rfl 6 (by decide) fl_50 (fun _ h9 => h9) rfl dX9_imageOf_5 ?_
    refine lv_goto (tgt := 15) hx hb dX9_imageOf_8 (by decide) ?_
    exact lf_r hx hb hr hlocks hQ hP hD hS dX9_imageOf_15 (by simp only [imgA, if_pos c_1, ↓reduceIte])
abbrev rm_X9_followBoth : Room := { frames := 4, cells := 0, slots := 0, locals := 97 }
set_option maxHeartbeats 4000000 in
set_option maxRecDepth 100000 in
theorem c_X9_followBoth (l : Launch) (D : va_G) (cI cJ cZ : ClassId) (xa : Nat → Nat) (sz : Nat) (tr : Trp) (c1 : Crs) (c2 : Crs) (d : Int32) (o : Int32) (htr : TrpOk tr) : Met l yX9_followBoth wsX9_followBoth rm_X9_followBoth (va_Pc [.ref (xa 0), .int d, .int o] (PU D (tyL cI cJ cZ) (wXo xa ++ wTrp (xa 4) (xa 5) (xa 6) (xa 7) (xa 8) (xa 9) (xa 10) cI tr ++ wCrs (xa 34) (xa 35) (xa 36) (xa 37) (xa 38) (xa 39) cI c1 ++ wCrs (xa 40) (xa 41) (xa 42) (xa 43) (xa 44) (xa 45) cI c2) sz)) (va_Qv (fun (uz : Crs × Crs) => uz.1 = fol tr d (-9) c1 ∧ uz.2 = fol tr o (-9) c2) (fun uz => BU D (wXo xa ++ wTrp (xa 4) (xa 5) (xa 6) (xa 7) (xa 8) (xa 9) (xa 10) cI tr ++ wCrs (xa 34) (xa 35) (xa 36) (xa 37) (xa 38) (xa 39) cI uz.1 ++ wCrs (xa 40) (xa 41) (xa 42) (xa 43) (xa 44) (xa 45) cI uz.2) (va_A (wXo xa ++ wTrp (xa 4) (xa 5) (xa 6) (xa 7) (xa 8) (xa 9) (xa 10) cI tr ++ wCrs (xa 34) (xa 35) (xa 36) (xa 37) (xa 38) (xa 39) cI c1 ++ wCrs (xa 40) (xa 41) (xa 42) (xa 43) (xa 44) (xa 45) cI c2) sz)) (va_A (wXo xa ++ wTrp (xa 4) (xa 5) (xa 6) (xa 7) (xa 8) (xa 9) (xa 10) cI tr ++ wCrs (xa 34) (xa 35) (xa 36) (xa 37) (xa 38) (xa 39) cI c1 ++ wCrs (xa 40) (xa 41) (xa 42) (xa 43) (xa 44) (xa 45) cI c2) sz)) 0 0 (va_A (wXo xa ++ wTrp (xa 4) (xa 5) (xa 6) (xa 7) (xa 8) (xa 9) (xa 10) cI tr ++ wCrs (xa 34) (xa 35) (xa 36) (xa 37) (xa 38) (xa 39) cI c1 ++ wCrs (xa 40) (xa 41) (xa 42) (xa 43) (xa 44) (xa 45) cI c2) sz) := by
  refine en (own := RX9) (Qc := fun A => va_Qv (fun (uz : Crs × Crs) => uz.1 = fol tr d (-9) c1 ∧ uz.2 = fol tr o (-9) c2) (fun uz => BU D (wXo xa ++ wTrp (xa 4) (xa 5) (xa 6) (xa 7) (xa 8) (xa 9) (xa 10) cI tr ++ wCrs (xa 34) (xa 35) (xa 36) (xa 37) (xa 38) (xa 39) cI uz.1 ++ wCrs (xa 40) (xa 41) (xa 42) (xa 43) (xa 44) (xa 45) cI uz.2) A) A) (by decide) rfl (Nat.le_of_ble_eq_true rfl) rfl ?_
  intro p e s m args below meth c A Q H locs ls hx hb hr hml hown hts hlocks hname hA hN hE hK hQ hP hD hS hl
  have hl : lv_has ls 3 [(0, .ref (xa 0)), (1, .int d), (2, .int o)] := hl
  have fl_60 := hts (.fieldLink RX9 60 "DanceStaffs" "course" "LDanceStaffs$Course;") (by decide +kernel)
  have hin_9 : ∀ w ∈ u_ws RX9 TX9 13, w ∈ wsX9_followBoth := by decide +kernel
  have fl_26 := hts (.fieldLink RX9 26 "DanceStaffs" "troupe" "LDanceStaffs$Troupe;") (by decide +kernel)
  have fl_64 := hts (.fieldLink RX9 64 "DanceStaffs" "otherCourse" "LDanceStaffs$Course;") (by decide +kernel)
  refine lv_aload_n hx hb dX9_followBoth_0 rfl (lv_at hl 0 rfl) ?_
  refine va_get (D := D) (ci := 9) (v := .ref (xa 34)) (C := RX9) (T := TX9) (N := 13) hx hb hts hin_9 hown hK hP 0 rfl rfl 8 (by decide) fl_60 (fun _ h9 => h9) rfl dX9_followBoth_1 ?_
  refine lv_aload_n hx hb dX9_followBoth_4 rfl (lv_at hl 0 rfl) ?_
  refine va_get (D := D) (ci := 9) (v := .ref (xa 4)) (C := RX9) (T := TX9) (N := 13) hx hb hts hin_9 hown hK hP 0 rfl rfl 2 (by decide) fl_26 (fun _ h9 => h9) rfl dX9_followBoth_5 ?_
  refine lv_iload_n hx hb dX9_followBoth_8 rfl (lv_at hl 1 rfl) ?_
  refine lv_bipush (v := (-9)) hx hb dX9_followBoth_9 (by decide) ?_
  refine jn_v (W2 := fun u_11 => wXo xa ++ wTrp (xa 4) (xa 5) (xa 6) (xa 7) (xa 8) (xa 9) (xa 10) cI tr ++ wCrs (xa 34) (xa 35) (xa 36) (xa 37) (xa 38) (xa 39) cI u_11 ++ wCrs (xa 40) (xa 41) (xa 42) (xa 43) (xa 44) (xa 45) cI c2) (va_runV (As := [.ref (xa 4), .int d, .int (-9)]) (rest := []) ⟨hx, hb, hml, hown, hts⟩ (c_X0_follow l D cI cJ cZ (xa 34) (xa 35) (xa 36) (xa 37) (xa 38) (xa 39) (xa 4) (xa 5) (xa 6) (xa 7) (xa 8) (xa 9) (xa 10) H.size c1 tr d (-9) (htr.2.1) (htr.2.2)) (cwV 3 hts gX9_followBoth_X0_follow rfl rfl rfl (by decide +kernel) ⟨Nat.le_of_ble_eq_true rfl, Nat.le_of_ble_eq_true rfl⟩) (pr_V hP hD hK hN hE hS hA [8, 9, 10, 11, 12, 13, 1, 2, 3, 4, 5, 6, 7] (by decide) rfl (ci := 0) (q0 := 8) rfl rfl) rfl rfl hl.1 rfl (lv_room (Nat.le_of_ble_eq_true rfl)) dX9_followBoth_11 ⟨Nat.zero_le _, Nat.zero_le _⟩) hP hD hS hA [8, 9, 10, 11, 12, 13, 1, 2, 3, 4, 5, 6, 7] [0, 14, 15, 16, 17, 18, 19] [0, 13, 14, 15, 16, 17, 18, 19, 7, 8, 9, 10, 11, 12, 1, 2, 3, 4, 5, 6] rfl rfl (by decide) (by decide) (by decide) (fun _ => rfl) (fun u_11 H locs hw_11 hP hD hS => ?_)
  have hP : va_P D vwCl (wXo xa ++ wTrp (xa 4) (xa 5) (xa 6) (xa 7) (xa 8) (xa 9) (xa 10) cI tr ++ wCrs (xa 34) (xa 35) (xa 36) (xa 37) (xa 38) (xa 39) cI u_11 ++ wCrs (xa 40) (xa 41) (xa 42) (xa 43) (xa 44) (xa 45) cI c2) H := hP
  have hD : va_D A (wXo xa ++ wTrp (xa 4) (xa 5) (xa 6) (xa 7) (xa 8) (xa 9) (xa 10) cI tr ++ wCrs (xa 34) (xa 35) (xa 36) (xa 37) (xa 38) (xa 39) cI u_11 ++ wCrs (xa 40) (xa 41) (xa 42) (xa 43) (xa 44) (xa 45) cI c2) := hD
  have hu_11 := hw_11
  refine lv_aload_n hx hb dX9_followBoth_14 rfl (lv_at hl 0 rfl) ?_
  refine va_get (D := D) (ci := 9) (v := .ref (xa 40)) (C := RX9) (T := TX9) (N := 13) hx hb hts hin_9 hown hK hP 0 rfl rfl 9 (by decide) fl_64 (fun _ h9 => h9) rfl dX9_followBoth_15 ?_
  refine lv_aload_n hx hb dX9_followBoth_18 rfl (lv_at hl 0 rfl) ?_
  refine va_get (D := D) (ci := 9) (v := .ref (xa 4)) (C := RX9) (T := TX9) (N := 13) hx hb hts hin_9 hown hK hP 0 rfl rfl 2 (by decide) fl_26 (fun _ h9 => h9) rfl dX9_followBoth_19 ?_
  refine lv_iload_n hx hb dX9_followBoth_22 rfl (lv_at hl 2 rfl) ?_
  refine lv_bipush (v := (-9)) hx hb dX9_followBoth_23 (by decide) ?_
  refine jn_v (W2 := fun u_25 => wXo xa ++ wTrp (xa 4) (xa 5) (xa 6) (xa 7) (xa 8) (xa 9) (xa 10) cI tr ++ wCrs (xa 34) (xa 35) (xa 36) (xa 37) (xa 38) (xa 39) cI u_11 ++ wCrs (xa 40) (xa 41) (xa 42) (xa 43) (xa 44) (xa 45) cI u_25) (va_runV (As := [.ref (xa 4), .int o, .int (-9)]) (rest := []) ⟨hx, hb, hml, hown, hts⟩ (c_X0_follow l D cI cJ cZ (xa 40) (xa 41) (xa 42) (xa 43) (xa 44) (xa 45) (xa 4) (xa 5) (xa 6) (xa 7) (xa 8) (xa 9) (xa 10) H.size c2 tr o (-9) (htr.2.1) (htr.2.2)) (cwV 3 hts gX9_followBoth_X0_follow rfl rfl rfl (by decide +kernel) ⟨Nat.le_of_ble_eq_true rfl, Nat.le_of_ble_eq_true rfl⟩) (pr_V hP hD hK hN hE hS hA [14, 15, 16, 17, 18, 19, 1, 2, 3, 4, 5, 6, 7] (by decide) rfl (ci := 0) (q0 := 14) rfl rfl) rfl rfl hl.1 rfl (lv_room (Nat.le_of_ble_eq_true rfl)) dX9_followBoth_25 ⟨Nat.zero_le _, Nat.zero_le _⟩) hP hD hS hA [14, 15, 16, 17, 18, 19, 1, 2, 3, 4, 5, 6, 7] [0, 8, 9, 10, 11, 12, 13] [0, 13, 14, 15, 16, 17, 18, 19, 1, 2, 3, 4, 5, 6, 7, 8, 9, 10, 11, 12] rfl rfl (by decide) (by decide) (by decide) (fun _ => rfl) (fun u_25 H locs hw_25 hP hD hS => ?_)
  have hP : va_P D vwCl (wXo xa ++ wTrp (xa 4) (xa 5) (xa 6) (xa 7) (xa 8) (xa 9) (xa 10) cI tr ++ wCrs (xa 34) (xa 35) (xa 36) (xa 37) (xa 38) (xa 39) cI u_11 ++ wCrs (xa 40) (xa 41) (xa 42) (xa 43) (xa 44) (xa 45) cI u_25) H := hP
  have hD : va_D A (wXo xa ++ wTrp (xa 4) (xa 5) (xa 6) (xa 7) (xa 8) (xa 9) (xa 10) cI tr ++ wCrs (xa 34) (xa 35) (xa 36) (xa 37) (xa 38) (xa 39) cI u_11 ++ wCrs (xa 40) (xa 41) (xa 42) (xa 43) (xa 44) (xa 45) cI u_25) := hD
  have hu_25 := hw_25
  exact lf_v hx hb hr hlocks hQ (u_11, u_25) hP hD hS dX9_followBoth_28 ⟨(by first | exact hu_11 | exact hu_25), (by first | exact hu_11 | exact hu_25)⟩
abbrev rm_X9_firstMeeting : Room := { frames := 3, cells := 0, slots := 0, locals := 65 }
set_option maxHeartbeats 4000000 in
set_option maxRecDepth 100000 in
theorem c_X9_firstMeeting (l : Launch) (D : va_G) (cI cJ cZ : ClassId) (xa : Nat → Nat) (sz : Nat) (c1 : Crs) (c2 : Crs) : Met l yX9_firstMeeting wsX9_firstMeeting rm_X9_firstMeeting (va_Pc [.ref (xa 0)] (PU D (tyL cI cJ cZ) (wXo xa ++ wCrs (xa 34) (xa 35) (xa 36) (xa 37) (xa 38) (xa 39) cI c1 ++ wCrs (xa 40) (xa 41) (xa 42) (xa 43) (xa 44) (xa 45) cI c2) sz)) (va_Qi (fun (rz : Int32) (_ : Unit) => rz = fMeet c1 c2) (fun uz => BU D (wXo xa ++ wCrs (xa 34) (xa 35) (xa 36) (xa 37) (xa 38) (xa 39) cI c1 ++ wCrs (xa 40) (xa 41) (xa 42) (xa 43) (xa 44) (xa 45) cI c2) (va_A (wXo xa ++ wCrs (xa 34) (xa 35) (xa 36) (xa 37) (xa 38) (xa 39) cI c1 ++ wCrs (xa 40) (xa 41) (xa 42) (xa 43) (xa 44) (xa 45) cI c2) sz)) (va_A (wXo xa ++ wCrs (xa 34) (xa 35) (xa 36) (xa 37) (xa 38) (xa 39) cI c1 ++ wCrs (xa 40) (xa 41) (xa 42) (xa 43) (xa 44) (xa 45) cI c2) sz)) 0 0 (va_A (wXo xa ++ wCrs (xa 34) (xa 35) (xa 36) (xa 37) (xa 38) (xa 39) cI c1 ++ wCrs (xa 40) (xa 41) (xa 42) (xa 43) (xa 44) (xa 45) cI c2) sz) := by
  refine en (own := RX9) (Qc := fun A => va_Qi (fun (rz : Int32) (_ : Unit) => rz = fMeet c1 c2) (fun uz => BU D (wXo xa ++ wCrs (xa 34) (xa 35) (xa 36) (xa 37) (xa 38) (xa 39) cI c1 ++ wCrs (xa 40) (xa 41) (xa 42) (xa 43) (xa 44) (xa 45) cI c2) A) A) (by decide) rfl (Nat.le_of_ble_eq_true rfl) rfl ?_
  intro p e s m args below meth c A Q H locs ls hx hb hr hml hown hts hlocks hname hA hN hE hK hQ hP hD hS hl
  have hl : lv_has ls 2 [(0, .ref (xa 0))] := hl
  have fl_60 := hts (.fieldLink RX9 60 "DanceStaffs" "course" "LDanceStaffs$Course;") (by decide +kernel)
  have hin_9 : ∀ w ∈ u_ws RX9 TX9 13, w ∈ wsX9_firstMeeting := by decide +kernel
  have fl_64 := hts (.fieldLink RX9 64 "DanceStaffs" "otherCourse" "LDanceStaffs$Course;") (by decide +kernel)
  refine lv_iconst (v := 0) hx hb dX9_firstMeeting_0 (by decide) ?_
  refine lv_istore_n (lv' := [(1, .int 0), (0, .ref (xa 0))]) hx hb dX9_firstMeeting_1 rfl hl (by decide) rfl (fun ls hl => ?_)
  have LB_2 : ∀ (n : Nat) (j : Nat) (hn_j : 11 < j + n) (hi_j : j ≤ 11) (hG : fmL c1 c2 (11 - j) j = fMeet c1 c2) (H : Heap) (locs : List Loc) (_ : va_P D vwCl (wXo xa ++ wCrs (xa 34) (xa 35) (xa 36) (xa 37) (xa 38) (xa 39) cI c1 ++ wCrs (xa 40) (xa 41) (xa 42) (xa 43) (xa 44) (xa 45) cI c2) H) (_ : va_D A (wXo xa ++ wCrs (xa 34) (xa 35) (xa 36) (xa 37) (xa 38) (xa 39) cI c1 ++ wCrs (xa 40) (xa 41) (xa 42) (xa 43) (xa 44) (xa 45) cI c2)) (_ : va_S A s.heap H locs) (ls : Array Slot) (_ : lv_has ls 2 [(0, .ref (xa 0)), (1, .int (nI j))]), W p l e rm_X9_firstMeeting s m args below meth c H locs 0 0 Q (F0 m 2 ls []) := by
    intro n
    induction n with
    | zero =>
      intro j hn_j hi_j hG
      exact absurd hn_j (by omega)
    | succ n LB_2 =>
      intro j hn_j hi_j hG H locs hP hD hS ls hl
      refine lv_iload_n hx hb dX9_firstMeeting_2 rfl (lv_at hl 1 rfl) ?_
      refine lv_bipush (v := 10) hx hb dX9_firstMeeting_3 (by decide) ?_
      refine lv_icmp_gt (tgt := 31) hx hb dX9_firstMeeting_5 (by decide) (fun c_5 => ?_) (fun c_5 => ?_)
      · have i_5 := i_lt c_5
        rw [(by decide : (10 : Int32).toInt = 10)] at i_5
        rw [nIT (by omega)] at i_5
        rw [show 11 - j = 0 by omega, fmL] at hG
        refine lv_bipush (v := (-9)) hx hb dX9_firstMeeting_31 (by decide) ?_
        exact lf_i hx hb hr hlocks hQ () hP hD hS dX9_firstMeeting_33 (by exact hG)
      · have i_5 := i_nlt c_5
        rw [(by decide : (10 : Int32).toInt = 10)] at i_5
        rw [nIT (by omega)] at i_5
        rw [show 11 - j = (11 - (j + 1)) + 1 by omega, fmL] at hG
        refine lv_aload_n hx hb dX9_firstMeeting_8 rfl (lv_at hl 0 rfl) ?_
        refine va_get (D := D) (ci := 9) (v := .ref (xa 34)) (C := RX9) (T := TX9) (N := 13) hx hb hts hin_9 hown hK hP 0 rfl rfl 8 (by decide) fl_60 (fun _ h9 => h9) rfl dX9_firstMeeting_9 ?_
        refine lv_aload_n hx hb dX9_firstMeeting_12 rfl (lv_at hl 0 rfl) ?_
        refine va_get (D := D) (ci := 9) (v := .ref (xa 40)) (C := RX9) (T := TX9) (N := 13) hx hb hts hin_9 hown hK hP 0 rfl rfl 9 (by decide) fl_64 (fun _ h9 => h9) rfl dX9_firstMeeting_13 ?_
        refine lv_iload_n hx hb dX9_firstMeeting_16 rfl (lv_at hl 1 rfl) ?_
        refine jn_i (W2 := fun _ => wXo xa ++ wCrs (xa 34) (xa 35) (xa 36) (xa 37) (xa 38) (xa 39) cI c1 ++ wCrs (xa 40) (xa 41) (xa 42) (xa 43) (xa 44) (xa 45) cI c2) (va_runV (As := [.ref (xa 40), .int (nI j)]) (rest := []) ⟨hx, hb, hml, hown, hts⟩ (c_X0_meets l D cI cJ cZ (xa 34) (xa 35) (xa 36) (xa 37) (xa 38) (xa 39) (xa 40) (xa 41) (xa 42) (xa 43) (xa 44) (xa 45) H.size c1 c2 (nI j)) (cwV 2 hts gX9_firstMeeting_X0_meets rfl rfl rfl (by decide +kernel) ⟨Nat.le_of_ble_eq_true rfl, Nat.le_of_ble_eq_true rfl⟩) (pr_V hP hD hK hN hE hS hA [1, 2, 3, 4, 5, 6, 7, 8, 9, 10, 11, 12] (by decide) rfl (ci := 0) (q0 := 1) rfl rfl) rfl rfl hl.1 rfl (lv_room (Nat.le_of_ble_eq_true rfl)) dX9_firstMeeting_17 ⟨Nat.zero_le _, Nat.zero_le _⟩) hP hD hS hA [1, 2, 3, 4, 5, 6, 7, 8, 9, 10, 11, 12] [0] [0, 1, 2, 3, 4, 5, 6, 7, 8, 9, 10, 11, 12] rfl rfl (by decide) (by decide) (by decide) (fun _ => rfl) (fun r_17 u_17 H locs hw_17 hP hD hS => ?_)
        have hP : va_P D vwCl (wXo xa ++ wCrs (xa 34) (xa 35) (xa 36) (xa 37) (xa 38) (xa 39) cI c1 ++ wCrs (xa 40) (xa 41) (xa 42) (xa 43) (xa 44) (xa 45) cI c2) H := hP
        have hD : va_D A (wXo xa ++ wCrs (xa 34) (xa 35) (xa 36) (xa 37) (xa 38) (xa 39) cI c1 ++ wCrs (xa 40) (xa 41) (xa 42) (xa 43) (xa 44) (xa 45) cI c2) := hD
        have hr_17 := hw_17
        refine lv_if_eq (tgt := 25) hx hb dX9_firstMeeting_20 (by decide) (fun c_20 => ?_) (fun c_20 => ?_)
        · have b_20 : (cMeet c1 c2 (nI j)) = false := bI_0 (hr_17.symm.trans c_20)
          rw [if_neg (by rw [b_20]; decide)] at hG
          refine lv_iinc (v := ((nI j) + 1)) (lv' := [(1, .int ((nI j) + 1)), (0, .ref (xa 0))]) hx hb dX9_firstMeeting_25 hl (k := 1) rfl rfl (by decide) rfl (fun ls hl => ?_)
          rw [show nI j + 1 = nI (j + 1) from nI_1 _] at hl
          have hl : lv_has ls 2 [(1, .int (nI (j + 1))), (0, .ref (xa 0))] := hl
          refine lv_goto (tgt := 2) hx hb dX9_firstMeeting_28 (by decide) ?_
          exact LB_2 (j + 1) (by omega) (by omega) (hG) H locs hP hD hS ls (lv_sub hl [1, 0] rfl)
        · have b_20 : (cMeet c1 c2 (nI j)) = true := bI_1 (fun q => c_20 (hr_17.trans q))
          rw [if_pos b_20] at hG
          refine lv_iload_n hx hb dX9_firstMeeting_23 rfl (lv_at hl 1 rfl) ?_
          exact lf_i hx hb hr hlocks hQ () hP hD hS dX9_firstMeeting_24 (by exact hG)
  exact LB_2 (11 + 1) 0 (by omega) (by omega) (rfl) H locs hP hD hS ls (lv_sub hl [1, 0] rfl)
abbrev rm_X9_firstCrossing : Room := { frames := 4, cells := 0, slots := 0, locals := 87 }
set_option maxHeartbeats 4000000 in
set_option maxRecDepth 100000 in
theorem c_X9_firstCrossing (l : Launch) (D : va_G) (cI cJ cZ : ClassId) (xa : Nat → Nat) (sz : Nat) (c1 : Crs) (c2 : Crs) : Met l yX9_firstCrossing wsX9_firstCrossing rm_X9_firstCrossing (va_Pc [.ref (xa 0)] (PU D (tyL cI cJ cZ) (wXo xa ++ wCrs (xa 34) (xa 35) (xa 36) (xa 37) (xa 38) (xa 39) cI c1 ++ wCrs (xa 40) (xa 41) (xa 42) (xa 43) (xa 44) (xa 45) cI c2) sz)) (va_Qi (fun (rz : Int32) (_ : Unit) => rz = fCross c1 c2) (fun uz => BU D (wXo xa ++ wCrs (xa 34) (xa 35) (xa 36) (xa 37) (xa 38) (xa 39) cI c1 ++ wCrs (xa 40) (xa 41) (xa 42) (xa 43) (xa 44) (xa 45) cI c2) (va_A (wXo xa ++ wCrs (xa 34) (xa 35) (xa 36) (xa 37) (xa 38) (xa 39) cI c1 ++ wCrs (xa 40) (xa 41) (xa 42) (xa 43) (xa 44) (xa 45) cI c2) sz)) (va_A (wXo xa ++ wCrs (xa 34) (xa 35) (xa 36) (xa 37) (xa 38) (xa 39) cI c1 ++ wCrs (xa 40) (xa 41) (xa 42) (xa 43) (xa 44) (xa 45) cI c2) sz)) 0 0 (va_A (wXo xa ++ wCrs (xa 34) (xa 35) (xa 36) (xa 37) (xa 38) (xa 39) cI c1 ++ wCrs (xa 40) (xa 41) (xa 42) (xa 43) (xa 44) (xa 45) cI c2) sz) := by
  refine en (own := RX9) (Qc := fun A => va_Qi (fun (rz : Int32) (_ : Unit) => rz = fCross c1 c2) (fun uz => BU D (wXo xa ++ wCrs (xa 34) (xa 35) (xa 36) (xa 37) (xa 38) (xa 39) cI c1 ++ wCrs (xa 40) (xa 41) (xa 42) (xa 43) (xa 44) (xa 45) cI c2) A) A) (by decide) rfl (Nat.le_of_ble_eq_true rfl) rfl ?_
  intro p e s m args below meth c A Q H locs ls hx hb hr hml hown hts hlocks hname hA hN hE hK hQ hP hD hS hl
  have hl : lv_has ls 2 [(0, .ref (xa 0))] := hl
  have fl_60 := hts (.fieldLink RX9 60 "DanceStaffs" "course" "LDanceStaffs$Course;") (by decide +kernel)
  have hin_9 : ∀ w ∈ u_ws RX9 TX9 13, w ∈ wsX9_firstCrossing := by decide +kernel
  have fl_64 := hts (.fieldLink RX9 64 "DanceStaffs" "otherCourse" "LDanceStaffs$Course;") (by decide +kernel)
  refine lv_iconst (v := 1) hx hb dX9_firstCrossing_0 (by decide) ?_
  refine lv_istore_n (lv' := [(1, .int 1), (0, .ref (xa 0))]) hx hb dX9_firstCrossing_1 rfl hl (by decide) rfl (fun ls hl => ?_)
  have LB_2 : ∀ (n : Nat) (j : Nat) (hn_j : 10 < j + n) (hi_j : j ≤ 10) (hG : fcL c1 c2 (10 - j) j = fCross c1 c2) (H : Heap) (locs : List Loc) (_ : va_P D vwCl (wXo xa ++ wCrs (xa 34) (xa 35) (xa 36) (xa 37) (xa 38) (xa 39) cI c1 ++ wCrs (xa 40) (xa 41) (xa 42) (xa 43) (xa 44) (xa 45) cI c2) H) (_ : va_D A (wXo xa ++ wCrs (xa 34) (xa 35) (xa 36) (xa 37) (xa 38) (xa 39) cI c1 ++ wCrs (xa 40) (xa 41) (xa 42) (xa 43) (xa 44) (xa 45) cI c2)) (_ : va_S A s.heap H locs) (ls : Array Slot) (_ : lv_has ls 2 [(0, .ref (xa 0)), (1, .int (nI (j + 1)))]), W p l e rm_X9_firstCrossing s m args below meth c H locs 0 0 Q (F0 m 2 ls []) := by
    intro n
    induction n with
    | zero =>
      intro j hn_j hi_j hG
      exact absurd hn_j (by omega)
    | succ n LB_2 =>
      intro j hn_j hi_j hG H locs hP hD hS ls hl
      refine lv_iload_n hx hb dX9_firstCrossing_2 rfl (lv_at hl 1 rfl) ?_
      refine lv_bipush (v := 10) hx hb dX9_firstCrossing_3 (by decide) ?_
      refine lv_icmp_gt (tgt := 31) hx hb dX9_firstCrossing_5 (by decide) (fun c_5 => ?_) (fun c_5 => ?_)
      · have i_5 := i_lt c_5
        rw [(by decide : (10 : Int32).toInt = 10)] at i_5
        rw [nIT (by omega)] at i_5
        rw [show 10 - j = 0 by omega, fcL] at hG
        refine lv_bipush (v := (-9)) hx hb dX9_firstCrossing_31 (by decide) ?_
        exact lf_i hx hb hr hlocks hQ () hP hD hS dX9_firstCrossing_33 (by exact hG)
      · have i_5 := i_nlt c_5
        rw [(by decide : (10 : Int32).toInt = 10)] at i_5
        rw [nIT (by omega)] at i_5
        rw [show 10 - j = (10 - (j + 1)) + 1 by omega, fcL] at hG
        refine lv_aload_n hx hb dX9_firstCrossing_8 rfl (lv_at hl 0 rfl) ?_
        refine va_get (D := D) (ci := 9) (v := .ref (xa 34)) (C := RX9) (T := TX9) (N := 13) hx hb hts hin_9 hown hK hP 0 rfl rfl 8 (by decide) fl_60 (fun _ h9 => h9) rfl dX9_firstCrossing_9 ?_
        refine lv_aload_n hx hb dX9_firstCrossing_12 rfl (lv_at hl 0 rfl) ?_
        refine va_get (D := D) (ci := 9) (v := .ref (xa 40)) (C := RX9) (T := TX9) (N := 13) hx hb hts hin_9 hown hK hP 0 rfl rfl 9 (by decide) fl_64 (fun _ h9 => h9) rfl dX9_firstCrossing_13 ?_
        refine lv_iload_n hx hb dX9_firstCrossing_16 rfl (lv_at hl 1 rfl) ?_
        refine jn_i (W2 := fun _ => wXo xa ++ wCrs (xa 34) (xa 35) (xa 36) (xa 37) (xa 38) (xa 39) cI c1 ++ wCrs (xa 40) (xa 41) (xa 42) (xa 43) (xa 44) (xa 45) cI c2) (va_runV (As := [.ref (xa 40), .int (nI (j + 1))]) (rest := []) ⟨hx, hb, hml, hown, hts⟩ (c_X0_crosses l D cI cJ cZ (xa 34) (xa 35) (xa 36) (xa 37) (xa 38) (xa 39) (xa 40) (xa 41) (xa 42) (xa 43) (xa 44) (xa 45) H.size c1 c2 (nI (j + 1))) (cwV 2 hts gX9_firstCrossing_X0_crosses rfl rfl rfl (by decide +kernel) ⟨Nat.le_of_ble_eq_true rfl, Nat.le_of_ble_eq_true rfl⟩) (pr_V hP hD hK hN hE hS hA [1, 2, 3, 4, 5, 6, 7, 8, 9, 10, 11, 12] (by decide) rfl (ci := 0) (q0 := 1) rfl rfl) rfl rfl hl.1 rfl (lv_room (Nat.le_of_ble_eq_true rfl)) dX9_firstCrossing_17 ⟨Nat.zero_le _, Nat.zero_le _⟩) hP hD hS hA [1, 2, 3, 4, 5, 6, 7, 8, 9, 10, 11, 12] [0] [0, 1, 2, 3, 4, 5, 6, 7, 8, 9, 10, 11, 12] rfl rfl (by decide) (by decide) (by decide) (fun _ => rfl) (fun r_17 u_17 H locs hw_17 hP hD hS => ?_)
        have hP : va_P D vwCl (wXo xa ++ wCrs (xa 34) (xa 35) (xa 36) (xa 37) (xa 38) (xa 39) cI c1 ++ wCrs (xa 40) (xa 41) (xa 42) (xa 43) (xa 44) (xa 45) cI c2) H := hP
        have hD : va_D A (wXo xa ++ wCrs (xa 34) (xa 35) (xa 36) (xa 37) (xa 38) (xa 39) cI c1 ++ wCrs (xa 40) (xa 41) (xa 42) (xa 43) (xa 44) (xa 45) cI c2) := hD
        have hr_17 := hw_17
        refine lv_if_eq (tgt := 25) hx hb dX9_firstCrossing_20 (by decide) (fun c_20 => ?_) (fun c_20 => ?_)
        · have b_20 : (cCross c1 c2 (nI (j + 1))) = false := bI_0 (hr_17.symm.trans c_20)
          rw [if_neg (by rw [b_20]; decide)] at hG
          refine lv_iinc (v := ((nI (j + 1)) + 1)) (lv' := [(1, .int ((nI (j + 1)) + 1)), (0, .ref (xa 0))]) hx hb dX9_firstCrossing_25 hl (k := 1) rfl rfl (by decide) rfl (fun ls hl => ?_)
          rw [show nI (j + 1) + 1 = nI ((j + 1) + 1) from nI_1 _] at hl
          have hl : lv_has ls 2 [(1, .int (nI ((j + 1) + 1))), (0, .ref (xa 0))] := hl
          refine lv_goto (tgt := 2) hx hb dX9_firstCrossing_28 (by decide) ?_
          exact LB_2 (j + 1) (by omega) (by omega) (hG) H locs hP hD hS ls (lv_sub hl [1, 0] rfl)
        · have b_20 : (cCross c1 c2 (nI (j + 1))) = true := bI_1 (fun q => c_20 (hr_17.trans q))
          rw [if_pos b_20] at hG
          refine lv_iload_n hx hb dX9_firstCrossing_23 rfl (lv_at hl 1 rfl) ?_
          exact lf_i hx hb hr hlocks hQ () hP hD hS dX9_firstCrossing_24 (by exact hG)
  exact LB_2 (10 + 1) 0 (by omega) (by omega) (rfl) H locs hP hD hS ls (lv_sub hl [1, 0] rfl)
abbrev rm_X9_signsOfAll : Room := { frames := 2, cells := 0, slots := 0, locals := 41 }
set_option maxHeartbeats 4000000 in
set_option maxRecDepth 100000 in
theorem c_X9_signsOfAll (l : Launch) (D : va_G) (cI cJ cZ : ClassId) (xa : Nat → Nat) (sz : Nat) (tr : Trp) (htr : TrpOk tr) : Met l yX9_signsOfAll wsX9_signsOfAll rm_X9_signsOfAll (va_Pc [.ref (xa 0)] (PU D (tyL cI cJ cZ) (wXo xa ++ wTrp (xa 4) (xa 5) (xa 6) (xa 7) (xa 8) (xa 9) (xa 10) cI tr) sz)) (va_Qi (fun (rz : Int32) (_ : Unit) => rz = soL tr (tr.2.2.2.1).toNatClampNeg) (fun uz => BU D (wXo xa ++ wTrp (xa 4) (xa 5) (xa 6) (xa 7) (xa 8) (xa 9) (xa 10) cI tr) (va_A (wXo xa ++ wTrp (xa 4) (xa 5) (xa 6) (xa 7) (xa 8) (xa 9) (xa 10) cI tr) sz)) (va_A (wXo xa ++ wTrp (xa 4) (xa 5) (xa 6) (xa 7) (xa 8) (xa 9) (xa 10) cI tr) sz)) 0 0 (va_A (wXo xa ++ wTrp (xa 4) (xa 5) (xa 6) (xa 7) (xa 8) (xa 9) (xa 10) cI tr) sz) := by
  refine en (own := RX9) (Qc := fun A => va_Qi (fun (rz : Int32) (_ : Unit) => rz = soL tr (tr.2.2.2.1).toNatClampNeg) (fun uz => BU D (wXo xa ++ wTrp (xa 4) (xa 5) (xa 6) (xa 7) (xa 8) (xa 9) (xa 10) cI tr) A) A) (by decide) rfl (Nat.le_of_ble_eq_true rfl) rfl ?_
  intro p e s m args below meth c A Q H locs ls hx hb hr hml hown hts hlocks hname hA hN hE hK hQ hP hD hS hl
  have hl : lv_has ls 3 [(0, .ref (xa 0))] := hl
  have fl_26 := hts (.fieldLink RX9 26 "DanceStaffs" "troupe" "LDanceStaffs$Troupe;") (by decide +kernel)
  have hin_9 : ∀ w ∈ u_ws RX9 TX9 13, w ∈ wsX9_signsOfAll := by decide +kernel
  have hin_8 : ∀ w ∈ u_ws RX8 TX8 5, w ∈ wsX9_signsOfAll := by decide +kernel
  have hcl := clampT htr.1
  have h3 := htr.2.1
  refine lv_iconst (v := 0) hx hb dX9_signsOfAll_0 (by decide) ?_
  refine lv_istore_n (lv' := [(1, .int 0), (0, .ref (xa 0))]) hx hb dX9_signsOfAll_1 rfl hl (by decide) rfl (fun ls hl => ?_)
  refine lv_iconst (v := 0) hx hb dX9_signsOfAll_2 (by decide) ?_
  refine lv_istore_n (lv' := [(2, .int 0), (1, .int 0), (0, .ref (xa 0))]) hx hb dX9_signsOfAll_3 rfl hl (by decide) rfl (fun ls hl => ?_)
  have LB_4 : ∀ (n : Nat) (i : Nat) (hn_i : (tr.2.2.2.1).toNatClampNeg < i + n) (hi_i : i ≤ (tr.2.2.2.1).toNatClampNeg) (H : Heap) (locs : List Loc) (_ : va_P D vwCl (wXo xa ++ wTrp (xa 4) (xa 5) (xa 6) (xa 7) (xa 8) (xa 9) (xa 10) cI tr) H) (_ : va_D A (wXo xa ++ wTrp (xa 4) (xa 5) (xa 6) (xa 7) (xa 8) (xa 9) (xa 10) cI tr)) (_ : va_S A s.heap H locs) (ls : Array Slot) (_ : lv_has ls 3 [(0, .ref (xa 0)), (1, .int (soL tr i)), (2, .int (nI i))]), W p l e rm_X9_signsOfAll s m args below meth c H locs 0 0 Q (F0 m 4 ls []) := by
    intro n
    induction n with
    | zero =>
      intro i hn_i hi_i
      exact absurd hn_i (by omega)
    | succ n LB_4 =>
      intro i hn_i hi_i H locs hP hD hS ls hl
      refine lv_iload_n hx hb dX9_signsOfAll_4 rfl (lv_at hl 2 rfl) ?_
      refine lv_aload_n hx hb dX9_signsOfAll_5 rfl (lv_at hl 0 rfl) ?_
      refine va_get (D := D) (ci := 9) (v := .ref (xa 4)) (C := RX9) (T := TX9) (N := 13) hx hb hts hin_9 hown hK hP 0 rfl rfl 2 (by decide) fl_26 (fun _ h9 => h9) rfl dX9_signsOfAll_6 ?_
      refine va_getN (D := D) (ci := 8) (v := .int tr.2.2.2.1) (C := RX8) (T := TX8) (N := 5) hx hb hts hin_8 hown hK hP 1 rfl rfl 4 (by decide) (nw_fuse hN 27 rfl) (fun _ h9 => h9) rfl dX9_signsOfAll_9 ?_
      refine lv_icmp_ge (tgt := 35) hx hb dX9_signsOfAll_12 (by decide) (fun c_12 => ?_) (fun c_12 => ?_)
      · have i_12 := i_le c_12
        rw [nIT (by omega)] at i_12
        have e_12 : i = (tr.2.2.2.1).toNatClampNeg := by omega
        refine lv_iload_n hx hb dX9_signsOfAll_35 rfl (lv_at hl 1 rfl) ?_
        exact lf_i hx hb hr hlocks hQ () hP hD hS dX9_signsOfAll_36 (by rw [e_12])
      · have i_12 := i_nle c_12
        rw [nIT (by omega)] at i_12
        refine lv_iload_n hx hb dX9_signsOfAll_15 rfl (lv_at hl 1 rfl) ?_
        refine lv_aload_n hx hb dX9_signsOfAll_16 rfl (lv_at hl 0 rfl) ?_
        refine va_get (D := D) (ci := 9) (v := .ref (xa 4)) (C := RX9) (T := TX9) (N := 13) hx hb hts hin_9 hown hK hP 0 rfl rfl 2 (by decide) fl_26 (fun _ h9 => h9) rfl dX9_signsOfAll_17 ?_
        refine va_getN (D := D) (ci := 8) (v := .ref (xa 8)) (C := RX8) (T := TX8) (N := 5) hx hb hts hin_8 hown hK hP 1 rfl rfl 3 (by decide) (nw_fuse hN 34 rfl) (fun _ h9 => h9) rfl dX9_signsOfAll_20 ?_
        refine lv_iload_n hx hb dX9_signsOfAll_23 rfl (lv_at hl 2 rfl) ?_
        refine jn_i (W2 := fun _ => wXo xa ++ wTrp (xa 4) (xa 5) (xa 6) (xa 7) (xa 8) (xa 9) (xa 10) cI tr) (va_runV (As := [.int (nI i)]) (rest := [.int (soL tr i)]) ⟨hx, hb, hml, hown, hts⟩ (c_X5_lengthOf l D cI cJ cZ (xa 8) (xa 9) (xa 10) H.size tr.2.2.2.2 (nI i)) (cwV 1 hts gX9_signsOfAll_X5_lengthOf rfl rfl rfl (by decide +kernel) ⟨Nat.le_of_ble_eq_true rfl, Nat.le_of_ble_eq_true rfl⟩) (pr_V hP hD hK hN hE hS hA [5, 6, 7] (by decide) rfl (ci := 5) (q0 := 5) rfl rfl) rfl rfl hl.1 rfl (lv_room (Nat.le_of_ble_eq_true rfl)) dX9_signsOfAll_24 ⟨Nat.zero_le _, Nat.zero_le _⟩) hP hD hS hA [5, 6, 7] [0, 1, 2, 3, 4] [0, 1, 2, 3, 4, 5, 6, 7] rfl rfl (by decide) (by decide) (by decide) (fun _ => rfl) (fun r_24 u_24 H locs hw_24 hP hD hS => ?_)
        have hP : va_P D vwCl (wXo xa ++ wTrp (xa 4) (xa 5) (xa 6) (xa 7) (xa 8) (xa 9) (xa 10) cI tr) H := hP
        have hD : va_D A (wXo xa ++ wTrp (xa 4) (xa 5) (xa 6) (xa 7) (xa 8) (xa 9) (xa 10) cI tr) := hD
        have hr_24 := hw_24
        refine lv_iadd hx hb dX9_signsOfAll_27 ?_
        refine lv_istore_n (lv' := [(1, .int ((soL tr i) + r_24)), (0, .ref (xa 0)), (2, .int (nI i))]) hx hb dX9_signsOfAll_28 rfl hl (by decide) rfl (fun ls hl => ?_)
        refine lv_iinc (v := ((nI i) + 1)) (lv' := [(2, .int ((nI i) + 1)), (1, .int ((soL tr i) + r_24)), (0, .ref (xa 0))]) hx hb dX9_signsOfAll_29 hl (k := 2) rfl rfl (by decide) rfl (fun ls hl => ?_)
        rw [show nI i + 1 = nI (i + 1) from nI_1 _] at hl
        have hl : lv_has ls 3 [(2, .int (nI (i + 1))), (1, .int ((soL tr i) + r_24)), (0, .ref (xa 0))] := hl
        rw [hr_24] at hl
        have hl : lv_has ls 3 [(2, .int (nI (i + 1))), (1, .int (soL tr (i + 1))), (0, .ref (xa 0))] := hl
        refine lv_goto (tgt := 4) hx hb dX9_signsOfAll_32 (by decide) ?_
        exact LB_4 (i + 1) (by omega) (by omega) H locs hP hD hS ls (lv_sub hl [2, 1, 0] rfl)
  exact LB_4 ((tr.2.2.2.1).toNatClampNeg + 1) 0 (by omega) (by omega) H locs hP hD hS ls (lv_sub hl [2, 1, 0] rfl)
abbrev rm_X9_brokenStaffs : Room := { frames := 4, cells := 0, slots := 0, locals := 97 }
set_option maxHeartbeats 4000000 in
set_option maxRecDepth 100000 in
theorem c_X9_brokenStaffs (l : Launch) (D : va_G) (cI cJ cZ : ClassId) (xa : Nat → Nat) (sz : Nat) (tr : Trp) (c1 : Crs) (htr : TrpOk tr) : Met l yX9_brokenStaffs wsX9_brokenStaffs rm_X9_brokenStaffs (va_Pc [.ref (xa 0)] (PU D (tyL cI cJ cZ) (wXo xa ++ wTrp (xa 4) (xa 5) (xa 6) (xa 7) (xa 8) (xa 9) (xa 10) cI tr ++ wCrs (xa 34) (xa 35) (xa 36) (xa 37) (xa 38) (xa 39) cI c1) sz)) (va_Qi (fun (rz : Int32) (uz : Crs) => rz = (bkL tr c1 (tr.2.2.2.1).toNatClampNeg).1 ∧ uz = (bkL tr c1 (tr.2.2.2.1).toNatClampNeg).2) (fun uz => BU D (wXo xa ++ wTrp (xa 4) (xa 5) (xa 6) (xa 7) (xa 8) (xa 9) (xa 10) cI tr ++ wCrs (xa 34) (xa 35) (xa 36) (xa 37) (xa 38) (xa 39) cI uz) (va_A (wXo xa ++ wTrp (xa 4) (xa 5) (xa 6) (xa 7) (xa 8) (xa 9) (xa 10) cI tr ++ wCrs (xa 34) (xa 35) (xa 36) (xa 37) (xa 38) (xa 39) cI c1) sz)) (va_A (wXo xa ++ wTrp (xa 4) (xa 5) (xa 6) (xa 7) (xa 8) (xa 9) (xa 10) cI tr ++ wCrs (xa 34) (xa 35) (xa 36) (xa 37) (xa 38) (xa 39) cI c1) sz)) 0 0 (va_A (wXo xa ++ wTrp (xa 4) (xa 5) (xa 6) (xa 7) (xa 8) (xa 9) (xa 10) cI tr ++ wCrs (xa 34) (xa 35) (xa 36) (xa 37) (xa 38) (xa 39) cI c1) sz) := by
  refine en (own := RX9) (Qc := fun A => va_Qi (fun (rz : Int32) (uz : Crs) => rz = (bkL tr c1 (tr.2.2.2.1).toNatClampNeg).1 ∧ uz = (bkL tr c1 (tr.2.2.2.1).toNatClampNeg).2) (fun uz => BU D (wXo xa ++ wTrp (xa 4) (xa 5) (xa 6) (xa 7) (xa 8) (xa 9) (xa 10) cI tr ++ wCrs (xa 34) (xa 35) (xa 36) (xa 37) (xa 38) (xa 39) cI uz) A) A) (by decide) rfl (Nat.le_of_ble_eq_true rfl) rfl ?_
  intro p e s m args below meth c A Q H locs ls hx hb hr hml hown hts hlocks hname hA hN hE hK hQ hP hD hS hl
  have hl : lv_has ls 3 [(0, .ref (xa 0))] := hl
  have fl_26 := hts (.fieldLink RX9 26 "DanceStaffs" "troupe" "LDanceStaffs$Troupe;") (by decide +kernel)
  have hin_9 : ∀ w ∈ u_ws RX9 TX9 13, w ∈ wsX9_brokenStaffs := by decide +kernel
  have hin_8 : ∀ w ∈ u_ws RX8 TX8 5, w ∈ wsX9_brokenStaffs := by decide +kernel
  have fl_60 := hts (.fieldLink RX9 60 "DanceStaffs" "course" "LDanceStaffs$Course;") (by decide +kernel)
  have hin_0 : ∀ w ∈ u_ws RX0 TX0 6, w ∈ wsX9_brokenStaffs := by decide +kernel
  have hcl := clampT htr.1
  have h3 := htr.2.1
  refine lv_iconst (v := 0) hx hb dX9_brokenStaffs_0 (by decide) ?_
  refine lv_istore_n (lv' := [(1, .int 0), (0, .ref (xa 0))]) hx hb dX9_brokenStaffs_1 rfl hl (by decide) rfl (fun ls hl => ?_)
  refine lv_iconst (v := 0) hx hb dX9_brokenStaffs_2 (by decide) ?_
  refine lv_istore_n (lv' := [(2, .int 0), (1, .int 0), (0, .ref (xa 0))]) hx hb dX9_brokenStaffs_3 rfl hl (by decide) rfl (fun ls hl => ?_)
  have LB_4 : ∀ (n : Nat) (i : Nat) (hn_i : (tr.2.2.2.1).toNatClampNeg < i + n) (hi_i : i ≤ (tr.2.2.2.1).toNatClampNeg) (H : Heap) (locs : List Loc) (_ : va_P D vwCl (wXo xa ++ wTrp (xa 4) (xa 5) (xa 6) (xa 7) (xa 8) (xa 9) (xa 10) cI tr ++ wCrs (xa 34) (xa 35) (xa 36) (xa 37) (xa 38) (xa 39) cI ((bkL tr c1 i).2)) H) (_ : va_D A (wXo xa ++ wTrp (xa 4) (xa 5) (xa 6) (xa 7) (xa 8) (xa 9) (xa 10) cI tr ++ wCrs (xa 34) (xa 35) (xa 36) (xa 37) (xa 38) (xa 39) cI ((bkL tr c1 i).2))) (_ : va_S A s.heap H locs) (ls : Array Slot) (_ : lv_has ls 3 [(0, .ref (xa 0)), (1, .int ((bkL tr c1 i).1)), (2, .int (nI i))]), W p l e rm_X9_brokenStaffs s m args below meth c H locs 0 0 Q (F0 m 4 ls []) := by
    intro n
    induction n with
    | zero =>
      intro i hn_i hi_i
      exact absurd hn_i (by omega)
    | succ n LB_4 =>
      intro i hn_i hi_i H locs hP hD hS ls hl
      refine lv_iload_n hx hb dX9_brokenStaffs_4 rfl (lv_at hl 2 rfl) ?_
      refine lv_aload_n hx hb dX9_brokenStaffs_5 rfl (lv_at hl 0 rfl) ?_
      refine va_get (D := D) (ci := 9) (v := .ref (xa 4)) (C := RX9) (T := TX9) (N := 13) hx hb hts hin_9 hown hK hP 0 rfl rfl 2 (by decide) fl_26 (fun _ h9 => h9) rfl dX9_brokenStaffs_6 ?_
      refine va_getN (D := D) (ci := 8) (v := .int tr.2.2.2.1) (C := RX8) (T := TX8) (N := 5) hx hb hts hin_8 hown hK hP 1 rfl rfl 4 (by decide) (nw_fuse hN 27 rfl) (fun _ h9 => h9) rfl dX9_brokenStaffs_9 ?_
      refine lv_icmp_ge (tgt := 50) hx hb dX9_brokenStaffs_12 (by decide) (fun c_12 => ?_) (fun c_12 => ?_)
      · have i_12 := i_le c_12
        rw [nIT (by omega)] at i_12
        have e_12 : i = (tr.2.2.2.1).toNatClampNeg := by omega
        refine lv_iload_n hx hb dX9_brokenStaffs_50 rfl (lv_at hl 1 rfl) ?_
        exact lf_i hx hb hr hlocks hQ ((bkL tr c1 i).2) hP hD hS dX9_brokenStaffs_51 ⟨(by rw [e_12]), (by rw [e_12])⟩
      · have i_12 := i_nle c_12
        rw [nIT (by omega)] at i_12
        refine lv_aload_n hx hb dX9_brokenStaffs_15 rfl (lv_at hl 0 rfl) ?_
        refine va_get (D := D) (ci := 9) (v := .ref (xa 34)) (C := RX9) (T := TX9) (N := 13) hx hb hts hin_9 hown hK hP 0 rfl rfl 8 (by decide) fl_60 (fun _ h9 => h9) rfl dX9_brokenStaffs_16 ?_
        refine lv_aload_n hx hb dX9_brokenStaffs_19 rfl (lv_at hl 0 rfl) ?_
        refine va_get (D := D) (ci := 9) (v := .ref (xa 4)) (C := RX9) (T := TX9) (N := 13) hx hb hts hin_9 hown hK hP 0 rfl rfl 2 (by decide) fl_26 (fun _ h9 => h9) rfl dX9_brokenStaffs_20 ?_
        refine lv_iload_n hx hb dX9_brokenStaffs_23 rfl (lv_at hl 2 rfl) ?_
        refine lv_bipush (v := (-9)) hx hb dX9_brokenStaffs_24 (by decide) ?_
        refine jn_v (W2 := fun u_26 => wXo xa ++ wTrp (xa 4) (xa 5) (xa 6) (xa 7) (xa 8) (xa 9) (xa 10) cI tr ++ wCrs (xa 34) (xa 35) (xa 36) (xa 37) (xa 38) (xa 39) cI u_26) (va_runV (As := [.ref (xa 4), .int (nI i), .int (-9)]) (rest := []) ⟨hx, hb, hml, hown, hts⟩ (c_X0_follow l D cI cJ cZ (xa 34) (xa 35) (xa 36) (xa 37) (xa 38) (xa 39) (xa 4) (xa 5) (xa 6) (xa 7) (xa 8) (xa 9) (xa 10) H.size ((bkL tr c1 i).2) tr (nI i) (-9) (htr.2.1) (htr.2.2)) (cwV 3 hts gX9_brokenStaffs_X0_follow rfl rfl rfl (by decide +kernel) ⟨Nat.le_of_ble_eq_true rfl, Nat.le_of_ble_eq_true rfl⟩) (pr_V hP hD hK hN hE hS hA [8, 9, 10, 11, 12, 13, 1, 2, 3, 4, 5, 6, 7] (by decide) rfl (ci := 0) (q0 := 8) rfl rfl) rfl rfl hl.1 rfl (lv_room (Nat.le_of_ble_eq_true rfl)) dX9_brokenStaffs_26 ⟨Nat.zero_le _, Nat.zero_le _⟩) hP hD hS hA [8, 9, 10, 11, 12, 13, 1, 2, 3, 4, 5, 6, 7] [0] [0, 7, 8, 9, 10, 11, 12, 13, 1, 2, 3, 4, 5, 6] rfl rfl (by decide) (by decide) (by decide) (fun _ => rfl) (fun u_26 H locs hw_26 hP hD hS => ?_)
        have hP : va_P D vwCl (wXo xa ++ wTrp (xa 4) (xa 5) (xa 6) (xa 7) (xa 8) (xa 9) (xa 10) cI tr ++ wCrs (xa 34) (xa 35) (xa 36) (xa 37) (xa 38) (xa 39) cI u_26) H := hP
        have hD : va_D A (wXo xa ++ wTrp (xa 4) (xa 5) (xa 6) (xa 7) (xa 8) (xa 9) (xa 10) cI tr ++ wCrs (xa 34) (xa 35) (xa 36) (xa 37) (xa 38) (xa 39) cI u_26) := hD
        have hu_26 := hw_26
        refine lv_aload_n hx hb dX9_brokenStaffs_29 rfl (lv_at hl 0 rfl) ?_
        refine va_get (D := D) (ci := 9) (v := .ref (xa 34)) (C := RX9) (T := TX9) (N := 13) hx hb hts hin_9 hown hK hP 0 rfl rfl 8 (by decide) fl_60 (fun _ h9 => h9) rfl dX9_brokenStaffs_30 ?_
        refine va_getN (D := D) (ci := 0) (v := .int u_26.2.2.2.2.1) (C := RX0) (T := TX0) (N := 6) hx hb hts hin_0 hown hK hP 8 rfl rfl 5 (by decide) (nw_fuse hN 29 rfl) (fun _ h9 => h9) rfl dX9_brokenStaffs_33 ?_
        refine lv_bipush (v := (-9)) hx hb dX9_brokenStaffs_36 (by decide) ?_
        refine lv_icmp_eq (tgt := 44) hx hb dX9_brokenStaffs_38 (by decide) (fun c_38 => ?_) (fun c_38 => ?_)
        · have i_38 := i_eq c_38
          rw [(by decide : (-9 : Int32).toInt = -9)] at i_38
          refine lv_iinc (v := ((nI i) + 1)) (lv' := [(2, .int ((nI i) + 1)), (0, .ref (xa 0)), (1, .int ((bkL tr c1 i).1))]) hx hb dX9_brokenStaffs_44 hl (k := 2) rfl rfl (by decide) rfl (fun ls hl => ?_)
          rw [show nI i + 1 = nI (i + 1) from nI_1 _] at hl
          have hl : lv_has ls 3 [(2, .int (nI (i + 1))), (0, .ref (xa 0)), (1, .int ((bkL tr c1 i).1))] := hl
          have es : (bkL tr c1 i).1 = (bkL tr c1 (i + 1)).1 := by simp only [bkL, ← hu_26, if_pos c_38, ↓reduceIte]
          rw [es] at hl
          have hl : lv_has ls 3 [(2, .int (nI (i + 1))), (0, .ref (xa 0)), (1, .int ((bkL tr c1 (i + 1)).1))] := hl
          have eg_47 : u_26 = (bkL tr c1 (i + 1)).2 := by rw [hu_26]; rfl
          rw [eg_47] at hP hD
          have hP : va_P D vwCl (wXo xa ++ wTrp (xa 4) (xa 5) (xa 6) (xa 7) (xa 8) (xa 9) (xa 10) cI tr ++ wCrs (xa 34) (xa 35) (xa 36) (xa 37) (xa 38) (xa 39) cI ((bkL tr c1 (i + 1)).2)) H := hP
          have hD : va_D A (wXo xa ++ wTrp (xa 4) (xa 5) (xa 6) (xa 7) (xa 8) (xa 9) (xa 10) cI tr ++ wCrs (xa 34) (xa 35) (xa 36) (xa 37) (xa 38) (xa 39) cI ((bkL tr c1 (i + 1)).2)) := hD
          refine lv_goto (tgt := 4) hx hb dX9_brokenStaffs_47 (by decide) ?_
          exact LB_4 (i + 1) (by omega) (by omega) H locs hP hD hS ls (lv_sub hl [1, 2, 0] rfl)
        · have i_38 := i_ne c_38
          rw [(by decide : (-9 : Int32).toInt = -9)] at i_38
          refine lv_iinc (v := ((bkL tr c1 i).1 + 1)) (lv' := [(1, .int ((bkL tr c1 i).1 + 1)), (0, .ref (xa 0)), (2, .int (nI i))]) hx hb dX9_brokenStaffs_41 hl (k := 1) rfl rfl (by decide) rfl (fun ls hl => ?_)
          refine lv_iinc (v := ((nI i) + 1)) (lv' := [(2, .int ((nI i) + 1)), (1, .int ((bkL tr c1 i).1 + 1)), (0, .ref (xa 0))]) hx hb dX9_brokenStaffs_44 hl (k := 2) rfl rfl (by decide) rfl (fun ls hl => ?_)
          rw [show nI i + 1 = nI (i + 1) from nI_1 _] at hl
          have hl : lv_has ls 3 [(2, .int (nI (i + 1))), (1, .int ((bkL tr c1 i).1 + 1)), (0, .ref (xa 0))] := hl
          have es : ((bkL tr c1 i).1 + 1) = (bkL tr c1 (i + 1)).1 := by simp only [bkL, ← hu_26, if_neg c_38, ↓reduceIte]
          rw [es] at hl
          have hl : lv_has ls 3 [(2, .int (nI (i + 1))), (1, .int ((bkL tr c1 (i + 1)).1)), (0, .ref (xa 0))] := hl
          have eg_47 : u_26 = (bkL tr c1 (i + 1)).2 := by rw [hu_26]; rfl
          rw [eg_47] at hP hD
          have hP : va_P D vwCl (wXo xa ++ wTrp (xa 4) (xa 5) (xa 6) (xa 7) (xa 8) (xa 9) (xa 10) cI tr ++ wCrs (xa 34) (xa 35) (xa 36) (xa 37) (xa 38) (xa 39) cI ((bkL tr c1 (i + 1)).2)) H := hP
          have hD : va_D A (wXo xa ++ wTrp (xa 4) (xa 5) (xa 6) (xa 7) (xa 8) (xa 9) (xa 10) cI tr ++ wCrs (xa 34) (xa 35) (xa 36) (xa 37) (xa 38) (xa 39) cI ((bkL tr c1 (i + 1)).2)) := hD
          refine lv_goto (tgt := 4) hx hb dX9_brokenStaffs_47 (by decide) ?_
          exact LB_4 (i + 1) (by omega) (by omega) H locs hP hD hS ls (lv_sub hl [2, 1, 0] rfl)
  exact LB_4 ((tr.2.2.2.1).toNatClampNeg + 1) 0 (by omega) (by omega) H locs hP hD hS ls (lv_sub hl [2, 1, 0] rfl)
abbrev rm_X9_twosTogether : Room := { frames := 5, cells := 0, slots := 0, locals := 119 }
set_option maxHeartbeats 4000000 in
set_option maxRecDepth 100000 in
theorem c_X9_twosTogether (l : Launch) (D : va_G) (cI cJ cZ : ClassId) (xa : Nat → Nat) (sz : Nat) (tr : Trp) (c1 : Crs) (c2 : Crs) (htr : TrpOk tr) : Met l yX9_twosTogether wsX9_twosTogether rm_X9_twosTogether (va_Pc [.ref (xa 0)] (PU D (tyL cI cJ cZ) (wXo xa ++ wTrp (xa 4) (xa 5) (xa 6) (xa 7) (xa 8) (xa 9) (xa 10) cI tr ++ wCrs (xa 34) (xa 35) (xa 36) (xa 37) (xa 38) (xa 39) cI c1 ++ wCrs (xa 40) (xa 41) (xa 42) (xa 43) (xa 44) (xa 45) cI c2) sz)) (va_Qi (fun (rz : Int32) (uz : Crs × Crs) => rz = (twO tr (0, c1, c2) (tr.2.2.2.1).toNatClampNeg).1 ∧ uz.1 = (twO tr (0, c1, c2) (tr.2.2.2.1).toNatClampNeg).2.1 ∧ uz.2 = (twO tr (0, c1, c2) (tr.2.2.2.1).toNatClampNeg).2.2) (fun uz => BU D (wXo xa ++ wTrp (xa 4) (xa 5) (xa 6) (xa 7) (xa 8) (xa 9) (xa 10) cI tr ++ wCrs (xa 34) (xa 35) (xa 36) (xa 37) (xa 38) (xa 39) cI uz.1 ++ wCrs (xa 40) (xa 41) (xa 42) (xa 43) (xa 44) (xa 45) cI uz.2) (va_A (wXo xa ++ wTrp (xa 4) (xa 5) (xa 6) (xa 7) (xa 8) (xa 9) (xa 10) cI tr ++ wCrs (xa 34) (xa 35) (xa 36) (xa 37) (xa 38) (xa 39) cI c1 ++ wCrs (xa 40) (xa 41) (xa 42) (xa 43) (xa 44) (xa 45) cI c2) sz)) (va_A (wXo xa ++ wTrp (xa 4) (xa 5) (xa 6) (xa 7) (xa 8) (xa 9) (xa 10) cI tr ++ wCrs (xa 34) (xa 35) (xa 36) (xa 37) (xa 38) (xa 39) cI c1 ++ wCrs (xa 40) (xa 41) (xa 42) (xa 43) (xa 44) (xa 45) cI c2) sz)) 0 0 (va_A (wXo xa ++ wTrp (xa 4) (xa 5) (xa 6) (xa 7) (xa 8) (xa 9) (xa 10) cI tr ++ wCrs (xa 34) (xa 35) (xa 36) (xa 37) (xa 38) (xa 39) cI c1 ++ wCrs (xa 40) (xa 41) (xa 42) (xa 43) (xa 44) (xa 45) cI c2) sz) := by
  refine en (own := RX9) (Qc := fun A => va_Qi (fun (rz : Int32) (uz : Crs × Crs) => rz = (twO tr (0, c1, c2) (tr.2.2.2.1).toNatClampNeg).1 ∧ uz.1 = (twO tr (0, c1, c2) (tr.2.2.2.1).toNatClampNeg).2.1 ∧ uz.2 = (twO tr (0, c1, c2) (tr.2.2.2.1).toNatClampNeg).2.2) (fun uz => BU D (wXo xa ++ wTrp (xa 4) (xa 5) (xa 6) (xa 7) (xa 8) (xa 9) (xa 10) cI tr ++ wCrs (xa 34) (xa 35) (xa 36) (xa 37) (xa 38) (xa 39) cI uz.1 ++ wCrs (xa 40) (xa 41) (xa 42) (xa 43) (xa 44) (xa 45) cI uz.2) A) A) (by decide) rfl (Nat.le_of_ble_eq_true rfl) rfl ?_
  intro p e s m args below meth c A Q H locs ls hx hb hr hml hown hts hlocks hname hA hN hE hK hQ hP hD hS hl
  have hl : lv_has ls 4 [(0, .ref (xa 0))] := hl
  have fl_26 := hts (.fieldLink RX9 26 "DanceStaffs" "troupe" "LDanceStaffs$Troupe;") (by decide +kernel)
  have hin_9 : ∀ w ∈ u_ws RX9 TX9 13, w ∈ wsX9_twosTogether := by decide +kernel
  have hin_8 : ∀ w ∈ u_ws RX8 TX8 5, w ∈ wsX9_twosTogether := by decide +kernel
  have hcl := clampT htr.1
  have h3 := htr.2.1
  refine lv_iconst (v := 0) hx hb dX9_twosTogether_0 (by decide) ?_
  refine lv_istore_n (lv' := [(1, .int 0), (0, .ref (xa 0))]) hx hb dX9_twosTogether_1 rfl hl (by decide) rfl (fun ls hl => ?_)
  refine lv_iconst (v := 0) hx hb dX9_twosTogether_2 (by decide) ?_
  refine lv_istore_n (lv' := [(2, .int 0), (1, .int 0), (0, .ref (xa 0))]) hx hb dX9_twosTogether_3 rfl hl (by decide) rfl (fun ls hl => ?_)
  have LB_4 : ∀ (n : Nat) (i : Nat) (hn_i : (tr.2.2.2.1).toNatClampNeg < i + n) (hi_i : i ≤ (tr.2.2.2.1).toNatClampNeg) (H : Heap) (locs : List Loc) (_ : va_P D vwCl (wXo xa ++ wTrp (xa 4) (xa 5) (xa 6) (xa 7) (xa 8) (xa 9) (xa 10) cI tr ++ wCrs (xa 34) (xa 35) (xa 36) (xa 37) (xa 38) (xa 39) cI ((twO tr (0, c1, c2) i).2.1) ++ wCrs (xa 40) (xa 41) (xa 42) (xa 43) (xa 44) (xa 45) cI ((twO tr (0, c1, c2) i).2.2)) H) (_ : va_D A (wXo xa ++ wTrp (xa 4) (xa 5) (xa 6) (xa 7) (xa 8) (xa 9) (xa 10) cI tr ++ wCrs (xa 34) (xa 35) (xa 36) (xa 37) (xa 38) (xa 39) cI ((twO tr (0, c1, c2) i).2.1) ++ wCrs (xa 40) (xa 41) (xa 42) (xa 43) (xa 44) (xa 45) cI ((twO tr (0, c1, c2) i).2.2))) (_ : va_S A s.heap H locs) (ls : Array Slot) (_ : lv_has ls 4 [(0, .ref (xa 0)), (1, .int ((twO tr (0, c1, c2) i).1)), (2, .int (nI i))]), W p l e rm_X9_twosTogether s m args below meth c H locs 0 0 Q (F0 m 4 ls []) := by
    intro n
    induction n with
    | zero =>
      intro i hn_i hi_i
      exact absurd hn_i (by omega)
    | succ n LB_4 =>
      intro i hn_i hi_i H locs hP hD hS ls hl
      refine lv_iload_n hx hb dX9_twosTogether_4 rfl (lv_at hl 2 rfl) ?_
      refine lv_aload_n hx hb dX9_twosTogether_5 rfl (lv_at hl 0 rfl) ?_
      refine va_get (D := D) (ci := 9) (v := .ref (xa 4)) (C := RX9) (T := TX9) (N := 13) hx hb hts hin_9 hown hK hP 0 rfl rfl 2 (by decide) fl_26 (fun _ h9 => h9) rfl dX9_twosTogether_6 ?_
      refine va_getN (D := D) (ci := 8) (v := .int tr.2.2.2.1) (C := RX8) (T := TX8) (N := 5) hx hb hts hin_8 hown hK hP 1 rfl rfl 4 (by decide) (nw_fuse hN 27 rfl) (fun _ h9 => h9) rfl dX9_twosTogether_9 ?_
      refine lv_icmp_ge (tgt := 69) hx hb dX9_twosTogether_12 (by decide) (fun c_12 => ?_) (fun c_12 => ?_)
      · have i_12 := i_le c_12
        rw [nIT (by omega)] at i_12
        have e_12 : i = (tr.2.2.2.1).toNatClampNeg := by omega
        refine lv_iload_n hx hb dX9_twosTogether_69 rfl (lv_at hl 1 rfl) ?_
        exact lf_i hx hb hr hlocks hQ (((twO tr (0, c1, c2) i).2.1), ((twO tr (0, c1, c2) i).2.2)) hP hD hS dX9_twosTogether_70 ⟨(by rw [e_12]), (by rw [e_12]), (by rw [e_12])⟩
      · have i_12 := i_nle c_12
        rw [nIT (by omega)] at i_12
        refine lv_iload_n hx hb dX9_twosTogether_15 rfl (lv_at hl 2 rfl) ?_
        refine lv_iconst (v := 1) hx hb dX9_twosTogether_16 (by decide) ?_
        refine lv_iadd hx hb dX9_twosTogether_17 ?_
        rw [show nI i + 1 = nI (i + 1 + 0) from nI_1 i]
        refine lv_istore_n (lv' := [(3, .int (nI (i + 1 + 0))), (0, .ref (xa 0)), (1, .int ((twO tr (0, c1, c2) i).1)), (2, .int (nI i))]) hx hb dX9_twosTogether_18 rfl hl (by decide) rfl (fun ls hl => ?_)
        have LB_19 : ∀ (n2 : Nat) (j : Nat) (hn_j : ((tr.2.2.2.1).toNatClampNeg - (i + 1)) < j + n2) (hi_j : j ≤ ((tr.2.2.2.1).toNatClampNeg - (i + 1))) (H : Heap) (locs : List Loc) (_ : va_P D vwCl (wXo xa ++ wTrp (xa 4) (xa 5) (xa 6) (xa 7) (xa 8) (xa 9) (xa 10) cI tr ++ wCrs (xa 34) (xa 35) (xa 36) (xa 37) (xa 38) (xa 39) cI ((twI tr i (twO tr (0, c1, c2) i) j).2.1) ++ wCrs (xa 40) (xa 41) (xa 42) (xa 43) (xa 44) (xa 45) cI ((twI tr i (twO tr (0, c1, c2) i) j).2.2)) H) (_ : va_D A (wXo xa ++ wTrp (xa 4) (xa 5) (xa 6) (xa 7) (xa 8) (xa 9) (xa 10) cI tr ++ wCrs (xa 34) (xa 35) (xa 36) (xa 37) (xa 38) (xa 39) cI ((twI tr i (twO tr (0, c1, c2) i) j).2.1) ++ wCrs (xa 40) (xa 41) (xa 42) (xa 43) (xa 44) (xa 45) cI ((twI tr i (twO tr (0, c1, c2) i) j).2.2))) (_ : va_S A s.heap H locs) (ls : Array Slot) (_ : lv_has ls 4 [(0, .ref (xa 0)), (1, .int ((twI tr i (twO tr (0, c1, c2) i) j).1)), (2, .int (nI i)), (3, .int (nI (i + 1 + j)))]), W p l e rm_X9_twosTogether s m args below meth c H locs 0 0 Q (F0 m 19 ls []) := by
          intro n2
          induction n2 with
          | zero =>
            intro j hn_j hi_j
            exact absurd hn_j (by omega)
          | succ n2 LB_19 =>
            intro j hn_j hi_j H locs hP hD hS ls hl
            refine lv_iload_n hx hb dX9_twosTogether_19 rfl (lv_at hl 3 rfl) ?_
            refine lv_aload_n hx hb dX9_twosTogether_20 rfl (lv_at hl 0 rfl) ?_
            refine va_get (D := D) (ci := 9) (v := .ref (xa 4)) (C := RX9) (T := TX9) (N := 13) hx hb hts hin_9 hown hK hP 0 rfl rfl 2 (by decide) fl_26 (fun _ h9 => h9) rfl dX9_twosTogether_21 ?_
            refine va_getN (D := D) (ci := 8) (v := .int tr.2.2.2.1) (C := RX8) (T := TX8) (N := 5) hx hb hts hin_8 hown hK hP 1 rfl rfl 4 (by decide) (nw_fuse hN 27 rfl) (fun _ h9 => h9) rfl dX9_twosTogether_24 ?_
            refine lv_icmp_ge (tgt := 63) hx hb dX9_twosTogether_27 (by decide) (fun c_27 => ?_) (fun c_27 => ?_)
            · have i_27 := i_le c_27
              rw [nIT (by omega)] at i_27
              have e_27 : j = (tr.2.2.2.1).toNatClampNeg - (i + 1) := by omega
              have eo : (twI tr i (twO tr (0, c1, c2) i) j) = twO tr (0, c1, c2) (i + 1) := by rw [e_27]; rfl
              have eg_63 : ((twI tr i (twO tr (0, c1, c2) i) j).2.1) = (twO tr (0, c1, c2) (i + 1)).2.1 := by rw [eo]
              rw [eg_63] at hP hD
              have hP : va_P D vwCl (wXo xa ++ wTrp (xa 4) (xa 5) (xa 6) (xa 7) (xa 8) (xa 9) (xa 10) cI tr ++ wCrs (xa 34) (xa 35) (xa 36) (xa 37) (xa 38) (xa 39) cI ((twO tr (0, c1, c2) (i + 1)).2.1) ++ wCrs (xa 40) (xa 41) (xa 42) (xa 43) (xa 44) (xa 45) cI ((twI tr i (twO tr (0, c1, c2) i) j).2.2)) H := hP
              have hD : va_D A (wXo xa ++ wTrp (xa 4) (xa 5) (xa 6) (xa 7) (xa 8) (xa 9) (xa 10) cI tr ++ wCrs (xa 34) (xa 35) (xa 36) (xa 37) (xa 38) (xa 39) cI ((twO tr (0, c1, c2) (i + 1)).2.1) ++ wCrs (xa 40) (xa 41) (xa 42) (xa 43) (xa 44) (xa 45) cI ((twI tr i (twO tr (0, c1, c2) i) j).2.2)) := hD
              have eg_63 : ((twI tr i (twO tr (0, c1, c2) i) j).2.2) = (twO tr (0, c1, c2) (i + 1)).2.2 := by rw [eo]
              rw [eg_63] at hP hD
              have hP : va_P D vwCl (wXo xa ++ wTrp (xa 4) (xa 5) (xa 6) (xa 7) (xa 8) (xa 9) (xa 10) cI tr ++ wCrs (xa 34) (xa 35) (xa 36) (xa 37) (xa 38) (xa 39) cI ((twO tr (0, c1, c2) (i + 1)).2.1) ++ wCrs (xa 40) (xa 41) (xa 42) (xa 43) (xa 44) (xa 45) cI ((twO tr (0, c1, c2) (i + 1)).2.2)) H := hP
              have hD : va_D A (wXo xa ++ wTrp (xa 4) (xa 5) (xa 6) (xa 7) (xa 8) (xa 9) (xa 10) cI tr ++ wCrs (xa 34) (xa 35) (xa 36) (xa 37) (xa 38) (xa 39) cI ((twO tr (0, c1, c2) (i + 1)).2.1) ++ wCrs (xa 40) (xa 41) (xa 42) (xa 43) (xa 44) (xa 45) cI ((twO tr (0, c1, c2) (i + 1)).2.2)) := hD
              rw [eo] at hl
              have hl : lv_has ls 4 [(0, .ref (xa 0)), (1, .int ((twO tr (0, c1, c2) (i + 1)).1)), (2, .int (nI i)), (3, .int (nI (i + 1 + j)))] := hl
              refine lv_iinc (v := ((nI i) + 1)) (lv' := [(2, .int ((nI i) + 1)), (0, .ref (xa 0)), (1, .int ((twO tr (0, c1, c2) (i + 1)).1)), (3, .int (nI (i + 1 + j)))]) hx hb dX9_twosTogether_63 hl (k := 2) rfl rfl (by decide) rfl (fun ls hl => ?_)
              rw [show nI i + 1 = nI (i + 1) from nI_1 _] at hl
              have hl : lv_has ls 4 [(2, .int (nI (i + 1))), (0, .ref (xa 0)), (1, .int ((twO tr (0, c1, c2) (i + 1)).1)), (3, .int (nI (i + 1 + j)))] := hl
              refine lv_goto (tgt := 4) hx hb dX9_twosTogether_66 (by decide) ?_
              exact LB_4 (i + 1) (by omega) (by omega) H locs hP hD hS ls (lv_sub hl [1, 2, 0] rfl)
            · have i_27 := i_nle c_27
              rw [nIT (by omega)] at i_27
              refine lv_aload_n hx hb dX9_twosTogether_30 rfl (lv_at hl 0 rfl) ?_
              refine lv_iload_n hx hb dX9_twosTogether_31 rfl (lv_at hl 2 rfl) ?_
              refine lv_iload_n hx hb dX9_twosTogether_32 rfl (lv_at hl 3 rfl) ?_
              refine jn_v (W2 := fun u_33 => wXo xa ++ wTrp (xa 4) (xa 5) (xa 6) (xa 7) (xa 8) (xa 9) (xa 10) cI tr ++ wCrs (xa 34) (xa 35) (xa 36) (xa 37) (xa 38) (xa 39) cI u_33.1 ++ wCrs (xa 40) (xa 41) (xa 42) (xa 43) (xa 44) (xa 45) cI u_33.2) (va_runV (As := [.int (nI i), .int (nI (i + 1 + j))]) (rest := []) ⟨hx, hb, hml, hown, hts⟩ (c_X9_followBoth l D cI cJ cZ xa H.size tr ((twI tr i (twO tr (0, c1, c2) i) j).2.1) ((twI tr i (twO tr (0, c1, c2) i) j).2.2) (nI i) (nI (i + 1 + j)) (htr)) (cwV 2 hts gX9_twosTogether_X9_followBoth rfl rfl rfl (by decide +kernel) ⟨Nat.le_of_ble_eq_true rfl, Nat.le_of_ble_eq_true rfl⟩) (pr_V hP hD hK hN hE hS hA [0, 1, 2, 3, 4, 5, 6, 7, 8, 9, 10, 11, 12, 13, 14, 15, 16, 17, 18, 19] (by decide) rfl (ci := 9) (q0 := 0) rfl rfl) rfl rfl hl.1 rfl (lv_room (Nat.le_of_ble_eq_true rfl)) dX9_twosTogether_33 ⟨Nat.zero_le _, Nat.zero_le _⟩) hP hD hS hA [0, 1, 2, 3, 4, 5, 6, 7, 8, 9, 10, 11, 12, 13, 14, 15, 16, 17, 18, 19] [] [0, 1, 2, 3, 4, 5, 6, 7, 8, 9, 10, 11, 12, 13, 14, 15, 16, 17, 18, 19] rfl rfl (by decide) (by decide) (by decide) (fun _ => rfl) (fun u_33 H locs hw_33 hP hD hS => ?_)
              have hP : va_P D vwCl (wXo xa ++ wTrp (xa 4) (xa 5) (xa 6) (xa 7) (xa 8) (xa 9) (xa 10) cI tr ++ wCrs (xa 34) (xa 35) (xa 36) (xa 37) (xa 38) (xa 39) cI u_33.1 ++ wCrs (xa 40) (xa 41) (xa 42) (xa 43) (xa 44) (xa 45) cI u_33.2) H := hP
              have hD : va_D A (wXo xa ++ wTrp (xa 4) (xa 5) (xa 6) (xa 7) (xa 8) (xa 9) (xa 10) cI tr ++ wCrs (xa 34) (xa 35) (xa 36) (xa 37) (xa 38) (xa 39) cI u_33.1 ++ wCrs (xa 40) (xa 41) (xa 42) (xa 43) (xa 44) (xa 45) cI u_33.2) := hD
              obtain ⟨hu_33_0, hu_33_1⟩ := hw_33
              refine lv_aload_n hx hb dX9_twosTogether_36 rfl (lv_at hl 0 rfl) ?_
              refine jn_i (W2 := fun _ => wXo xa ++ wTrp (xa 4) (xa 5) (xa 6) (xa 7) (xa 8) (xa 9) (xa 10) cI tr ++ wCrs (xa 34) (xa 35) (xa 36) (xa 37) (xa 38) (xa 39) cI u_33.1 ++ wCrs (xa 40) (xa 41) (xa 42) (xa 43) (xa 44) (xa 45) cI u_33.2) (va_runV (As := []) (rest := []) ⟨hx, hb, hml, hown, hts⟩ (c_X9_firstMeeting l D cI cJ cZ xa H.size u_33.1 u_33.2) (cwV 0 hts gX9_twosTogether_X9_firstMeeting rfl rfl rfl (by decide +kernel) ⟨Nat.le_of_ble_eq_true rfl, Nat.le_of_ble_eq_true rfl⟩) (pr_V hP hD hK hN hE hS hA [0, 8, 9, 10, 11, 12, 13, 14, 15, 16, 17, 18, 19] (by decide) rfl (ci := 9) (q0 := 0) rfl rfl) rfl rfl hl.1 rfl (lv_room (Nat.le_of_ble_eq_true rfl)) dX9_twosTogether_37 ⟨Nat.zero_le _, Nat.zero_le _⟩) hP hD hS hA [0, 8, 9, 10, 11, 12, 13, 14, 15, 16, 17, 18, 19] [1, 2, 3, 4, 5, 6, 7] [7, 0, 1, 2, 3, 4, 5, 6, 8, 9, 10, 11, 12, 13, 14, 15, 16, 17, 18, 19] rfl rfl (by decide) (by decide) (by decide) (fun _ => rfl) (fun r_37 u_37 H locs hw_37 hP hD hS => ?_)
              have hP : va_P D vwCl (wXo xa ++ wTrp (xa 4) (xa 5) (xa 6) (xa 7) (xa 8) (xa 9) (xa 10) cI tr ++ wCrs (xa 34) (xa 35) (xa 36) (xa 37) (xa 38) (xa 39) cI u_33.1 ++ wCrs (xa 40) (xa 41) (xa 42) (xa 43) (xa 44) (xa 45) cI u_33.2) H := hP
              have hD : va_D A (wXo xa ++ wTrp (xa 4) (xa 5) (xa 6) (xa 7) (xa 8) (xa 9) (xa 10) cI tr ++ wCrs (xa 34) (xa 35) (xa 36) (xa 37) (xa 38) (xa 39) cI u_33.1 ++ wCrs (xa 40) (xa 41) (xa 42) (xa 43) (xa 44) (xa 45) cI u_33.2) := hD
              have hr_37 := hw_37
              refine lv_bipush (v := (-9)) hx hb dX9_twosTogether_40 (by decide) ?_
              refine lv_icmp_ne (tgt := 54) hx hb dX9_twosTogether_42 (by decide) (fun c_42 => ?_) (fun c_42 => ?_)
              · have i_42 := i_ne c_42
                rw [(by decide : (-9 : Int32).toInt = -9)] at i_42
                refine lv_iinc (v := ((twI tr i (twO tr (0, c1, c2) i) j).1 + 1)) (lv' := [(1, .int ((twI tr i (twO tr (0, c1, c2) i) j).1 + 1)), (0, .ref (xa 0)), (2, .int (nI i)), (3, .int (nI (i + 1 + j)))]) hx hb dX9_twosTogether_54 hl (k := 1) rfl rfl (by decide) rfl (fun ls hl => ?_)
                refine lv_iinc (v := ((nI (i + 1 + j)) + 1)) (lv' := [(3, .int ((nI (i + 1 + j)) + 1)), (1, .int ((twI tr i (twO tr (0, c1, c2) i) j).1 + 1)), (0, .ref (xa 0)), (2, .int (nI i))]) hx hb dX9_twosTogether_57 hl (k := 3) rfl rfl (by decide) rfl (fun ls hl => ?_)
                rw [show nI (i + 1 + j) + 1 = nI (i + 1 + (j + 1)) from nI_1 _] at hl
                have hl : lv_has ls 4 [(3, .int (nI (i + 1 + (j + 1)))), (1, .int ((twI tr i (twO tr (0, c1, c2) i) j).1 + 1)), (0, .ref (xa 0)), (2, .int (nI i))] := hl
                have es : ((twI tr i (twO tr (0, c1, c2) i) j).1 + 1) = (twI tr i (twO tr (0, c1, c2) i) (j + 1)).1 := by simp only [twI, twS, twC, ← hu_33_0, ← hu_33_1, ← hr_37, if_neg c_42, ↓reduceIte]
                rw [es] at hl
                have hl : lv_has ls 4 [(3, .int (nI (i + 1 + (j + 1)))), (1, .int ((twI tr i (twO tr (0, c1, c2) i) (j + 1)).1)), (0, .ref (xa 0)), (2, .int (nI i))] := hl
                have eg_60 : u_33.1 = (twI tr i (twO tr (0, c1, c2) i) (j + 1)).2.1 := by rw [hu_33_0]; rfl
                rw [eg_60] at hP hD
                have hP : va_P D vwCl (wXo xa ++ wTrp (xa 4) (xa 5) (xa 6) (xa 7) (xa 8) (xa 9) (xa 10) cI tr ++ wCrs (xa 34) (xa 35) (xa 36) (xa 37) (xa 38) (xa 39) cI ((twI tr i (twO tr (0, c1, c2) i) (j + 1)).2.1) ++ wCrs (xa 40) (xa 41) (xa 42) (xa 43) (xa 44) (xa 45) cI u_33.2) H := hP
                have hD : va_D A (wXo xa ++ wTrp (xa 4) (xa 5) (xa 6) (xa 7) (xa 8) (xa 9) (xa 10) cI tr ++ wCrs (xa 34) (xa 35) (xa 36) (xa 37) (xa 38) (xa 39) cI ((twI tr i (twO tr (0, c1, c2) i) (j + 1)).2.1) ++ wCrs (xa 40) (xa 41) (xa 42) (xa 43) (xa 44) (xa 45) cI u_33.2) := hD
                have eg_60 : u_33.2 = (twI tr i (twO tr (0, c1, c2) i) (j + 1)).2.2 := by rw [hu_33_1]; rfl
                rw [eg_60] at hP hD
                have hP : va_P D vwCl (wXo xa ++ wTrp (xa 4) (xa 5) (xa 6) (xa 7) (xa 8) (xa 9) (xa 10) cI tr ++ wCrs (xa 34) (xa 35) (xa 36) (xa 37) (xa 38) (xa 39) cI ((twI tr i (twO tr (0, c1, c2) i) (j + 1)).2.1) ++ wCrs (xa 40) (xa 41) (xa 42) (xa 43) (xa 44) (xa 45) cI ((twI tr i (twO tr (0, c1, c2) i) (j + 1)).2.2)) H := hP
                have hD : va_D A (wXo xa ++ wTrp (xa 4) (xa 5) (xa 6) (xa 7) (xa 8) (xa 9) (xa 10) cI tr ++ wCrs (xa 34) (xa 35) (xa 36) (xa 37) (xa 38) (xa 39) cI ((twI tr i (twO tr (0, c1, c2) i) (j + 1)).2.1) ++ wCrs (xa 40) (xa 41) (xa 42) (xa 43) (xa 44) (xa 45) cI ((twI tr i (twO tr (0, c1, c2) i) (j + 1)).2.2)) := hD
                refine lv_goto (tgt := 19) hx hb dX9_twosTogether_60 (by decide) ?_
                exact LB_19 (j + 1) (by omega) (by omega) H locs hP hD hS ls (lv_sub hl [2, 1, 3, 0] rfl)
              · have i_42 := i_eq c_42
                rw [(by decide : (-9 : Int32).toInt = -9)] at i_42
                refine lv_aload_n hx hb dX9_twosTogether_45 rfl (lv_at hl 0 rfl) ?_
                refine jn_i (W2 := fun _ => wXo xa ++ wTrp (xa 4) (xa 5) (xa 6) (xa 7) (xa 8) (xa 9) (xa 10) cI tr ++ wCrs (xa 34) (xa 35) (xa 36) (xa 37) (xa 38) (xa 39) cI u_33.1 ++ wCrs (xa 40) (xa 41) (xa 42) (xa 43) (xa 44) (xa 45) cI u_33.2) (va_runV (As := []) (rest := []) ⟨hx, hb, hml, hown, hts⟩ (c_X9_firstCrossing l D cI cJ cZ xa H.size u_33.1 u_33.2) (cwV 0 hts gX9_twosTogether_X9_firstCrossing rfl rfl rfl (by decide +kernel) ⟨Nat.le_of_ble_eq_true rfl, Nat.le_of_ble_eq_true rfl⟩) (pr_V hP hD hK hN hE hS hA [0, 8, 9, 10, 11, 12, 13, 14, 15, 16, 17, 18, 19] (by decide) rfl (ci := 9) (q0 := 0) rfl rfl) rfl rfl hl.1 rfl (lv_room (Nat.le_of_ble_eq_true rfl)) dX9_twosTogether_46 ⟨Nat.zero_le _, Nat.zero_le _⟩) hP hD hS hA [0, 8, 9, 10, 11, 12, 13, 14, 15, 16, 17, 18, 19] [1, 2, 3, 4, 5, 6, 7] [7, 0, 1, 2, 3, 4, 5, 6, 8, 9, 10, 11, 12, 13, 14, 15, 16, 17, 18, 19] rfl rfl (by decide) (by decide) (by decide) (fun _ => rfl) (fun r_46 u_46 H locs hw_46 hP hD hS => ?_)
                have hP : va_P D vwCl (wXo xa ++ wTrp (xa 4) (xa 5) (xa 6) (xa 7) (xa 8) (xa 9) (xa 10) cI tr ++ wCrs (xa 34) (xa 35) (xa 36) (xa 37) (xa 38) (xa 39) cI u_33.1 ++ wCrs (xa 40) (xa 41) (xa 42) (xa 43) (xa 44) (xa 45) cI u_33.2) H := hP
                have hD : va_D A (wXo xa ++ wTrp (xa 4) (xa 5) (xa 6) (xa 7) (xa 8) (xa 9) (xa 10) cI tr ++ wCrs (xa 34) (xa 35) (xa 36) (xa 37) (xa 38) (xa 39) cI u_33.1 ++ wCrs (xa 40) (xa 41) (xa 42) (xa 43) (xa 44) (xa 45) cI u_33.2) := hD
                have hr_46 := hw_46
                refine lv_bipush (v := (-9)) hx hb dX9_twosTogether_49 (by decide) ?_
                refine lv_icmp_eq (tgt := 57) hx hb dX9_twosTogether_51 (by decide) (fun c_51 => ?_) (fun c_51 => ?_)
                · have i_51 := i_eq c_51
                  rw [(by decide : (-9 : Int32).toInt = -9)] at i_51
                  refine lv_iinc (v := ((nI (i + 1 + j)) + 1)) (lv' := [(3, .int ((nI (i + 1 + j)) + 1)), (0, .ref (xa 0)), (1, .int ((twI tr i (twO tr (0, c1, c2) i) j).1)), (2, .int (nI i))]) hx hb dX9_twosTogether_57 hl (k := 3) rfl rfl (by decide) rfl (fun ls hl => ?_)
                  rw [show nI (i + 1 + j) + 1 = nI (i + 1 + (j + 1)) from nI_1 _] at hl
                  have hl : lv_has ls 4 [(3, .int (nI (i + 1 + (j + 1)))), (0, .ref (xa 0)), (1, .int ((twI tr i (twO tr (0, c1, c2) i) j).1)), (2, .int (nI i))] := hl
                  have es : (twI tr i (twO tr (0, c1, c2) i) j).1 = (twI tr i (twO tr (0, c1, c2) i) (j + 1)).1 := by simp only [twI, twS, twC, ← hu_33_0, ← hu_33_1, ← hr_37, ← hr_46, if_pos c_42, if_pos c_51, ↓reduceIte]
                  rw [es] at hl
                  have hl : lv_has ls 4 [(3, .int (nI (i + 1 + (j + 1)))), (0, .ref (xa 0)), (1, .int ((twI tr i (twO tr (0, c1, c2) i) (j + 1)).1)), (2, .int (nI i))] := hl
                  have eg_60 : u_33.1 = (twI tr i (twO tr (0, c1, c2) i) (j + 1)).2.1 := by rw [hu_33_0]; rfl
                  rw [eg_60] at hP hD
                  have hP : va_P D vwCl (wXo xa ++ wTrp (xa 4) (xa 5) (xa 6) (xa 7) (xa 8) (xa 9) (xa 10) cI tr ++ wCrs (xa 34) (xa 35) (xa 36) (xa 37) (xa 38) (xa 39) cI ((twI tr i (twO tr (0, c1, c2) i) (j + 1)).2.1) ++ wCrs (xa 40) (xa 41) (xa 42) (xa 43) (xa 44) (xa 45) cI u_33.2) H := hP
                  have hD : va_D A (wXo xa ++ wTrp (xa 4) (xa 5) (xa 6) (xa 7) (xa 8) (xa 9) (xa 10) cI tr ++ wCrs (xa 34) (xa 35) (xa 36) (xa 37) (xa 38) (xa 39) cI ((twI tr i (twO tr (0, c1, c2) i) (j + 1)).2.1) ++ wCrs (xa 40) (xa 41) (xa 42) (xa 43) (xa 44) (xa 45) cI u_33.2) := hD
                  have eg_60 : u_33.2 = (twI tr i (twO tr (0, c1, c2) i) (j + 1)).2.2 := by rw [hu_33_1]; rfl
                  rw [eg_60] at hP hD
                  have hP : va_P D vwCl (wXo xa ++ wTrp (xa 4) (xa 5) (xa 6) (xa 7) (xa 8) (xa 9) (xa 10) cI tr ++ wCrs (xa 34) (xa 35) (xa 36) (xa 37) (xa 38) (xa 39) cI ((twI tr i (twO tr (0, c1, c2) i) (j + 1)).2.1) ++ wCrs (xa 40) (xa 41) (xa 42) (xa 43) (xa 44) (xa 45) cI ((twI tr i (twO tr (0, c1, c2) i) (j + 1)).2.2)) H := hP
                  have hD : va_D A (wXo xa ++ wTrp (xa 4) (xa 5) (xa 6) (xa 7) (xa 8) (xa 9) (xa 10) cI tr ++ wCrs (xa 34) (xa 35) (xa 36) (xa 37) (xa 38) (xa 39) cI ((twI tr i (twO tr (0, c1, c2) i) (j + 1)).2.1) ++ wCrs (xa 40) (xa 41) (xa 42) (xa 43) (xa 44) (xa 45) cI ((twI tr i (twO tr (0, c1, c2) i) (j + 1)).2.2)) := hD
                  refine lv_goto (tgt := 19) hx hb dX9_twosTogether_60 (by decide) ?_
                  exact LB_19 (j + 1) (by omega) (by omega) H locs hP hD hS ls (lv_sub hl [1, 2, 3, 0] rfl)
                · have i_51 := i_ne c_51
                  rw [(by decide : (-9 : Int32).toInt = -9)] at i_51
                  refine lv_iinc (v := ((twI tr i (twO tr (0, c1, c2) i) j).1 + 1)) (lv' := [(1, .int ((twI tr i (twO tr (0, c1, c2) i) j).1 + 1)), (0, .ref (xa 0)), (2, .int (nI i)), (3, .int (nI (i + 1 + j)))]) hx hb dX9_twosTogether_54 hl (k := 1) rfl rfl (by decide) rfl (fun ls hl => ?_)
                  refine lv_iinc (v := ((nI (i + 1 + j)) + 1)) (lv' := [(3, .int ((nI (i + 1 + j)) + 1)), (1, .int ((twI tr i (twO tr (0, c1, c2) i) j).1 + 1)), (0, .ref (xa 0)), (2, .int (nI i))]) hx hb dX9_twosTogether_57 hl (k := 3) rfl rfl (by decide) rfl (fun ls hl => ?_)
                  rw [show nI (i + 1 + j) + 1 = nI (i + 1 + (j + 1)) from nI_1 _] at hl
                  have hl : lv_has ls 4 [(3, .int (nI (i + 1 + (j + 1)))), (1, .int ((twI tr i (twO tr (0, c1, c2) i) j).1 + 1)), (0, .ref (xa 0)), (2, .int (nI i))] := hl
                  have es : ((twI tr i (twO tr (0, c1, c2) i) j).1 + 1) = (twI tr i (twO tr (0, c1, c2) i) (j + 1)).1 := by simp only [twI, twS, twC, ← hu_33_0, ← hu_33_1, ← hr_37, ← hr_46, if_pos c_42, if_neg c_51, ↓reduceIte]
                  rw [es] at hl
                  have hl : lv_has ls 4 [(3, .int (nI (i + 1 + (j + 1)))), (1, .int ((twI tr i (twO tr (0, c1, c2) i) (j + 1)).1)), (0, .ref (xa 0)), (2, .int (nI i))] := hl
                  have eg_60 : u_33.1 = (twI tr i (twO tr (0, c1, c2) i) (j + 1)).2.1 := by rw [hu_33_0]; rfl
                  rw [eg_60] at hP hD
                  have hP : va_P D vwCl (wXo xa ++ wTrp (xa 4) (xa 5) (xa 6) (xa 7) (xa 8) (xa 9) (xa 10) cI tr ++ wCrs (xa 34) (xa 35) (xa 36) (xa 37) (xa 38) (xa 39) cI ((twI tr i (twO tr (0, c1, c2) i) (j + 1)).2.1) ++ wCrs (xa 40) (xa 41) (xa 42) (xa 43) (xa 44) (xa 45) cI u_33.2) H := hP
                  have hD : va_D A (wXo xa ++ wTrp (xa 4) (xa 5) (xa 6) (xa 7) (xa 8) (xa 9) (xa 10) cI tr ++ wCrs (xa 34) (xa 35) (xa 36) (xa 37) (xa 38) (xa 39) cI ((twI tr i (twO tr (0, c1, c2) i) (j + 1)).2.1) ++ wCrs (xa 40) (xa 41) (xa 42) (xa 43) (xa 44) (xa 45) cI u_33.2) := hD
                  have eg_60 : u_33.2 = (twI tr i (twO tr (0, c1, c2) i) (j + 1)).2.2 := by rw [hu_33_1]; rfl
                  rw [eg_60] at hP hD
                  have hP : va_P D vwCl (wXo xa ++ wTrp (xa 4) (xa 5) (xa 6) (xa 7) (xa 8) (xa 9) (xa 10) cI tr ++ wCrs (xa 34) (xa 35) (xa 36) (xa 37) (xa 38) (xa 39) cI ((twI tr i (twO tr (0, c1, c2) i) (j + 1)).2.1) ++ wCrs (xa 40) (xa 41) (xa 42) (xa 43) (xa 44) (xa 45) cI ((twI tr i (twO tr (0, c1, c2) i) (j + 1)).2.2)) H := hP
                  have hD : va_D A (wXo xa ++ wTrp (xa 4) (xa 5) (xa 6) (xa 7) (xa 8) (xa 9) (xa 10) cI tr ++ wCrs (xa 34) (xa 35) (xa 36) (xa 37) (xa 38) (xa 39) cI ((twI tr i (twO tr (0, c1, c2) i) (j + 1)).2.1) ++ wCrs (xa 40) (xa 41) (xa 42) (xa 43) (xa 44) (xa 45) cI ((twI tr i (twO tr (0, c1, c2) i) (j + 1)).2.2)) := hD
                  refine lv_goto (tgt := 19) hx hb dX9_twosTogether_60 (by decide) ?_
                  exact LB_19 (j + 1) (by omega) (by omega) H locs hP hD hS ls (lv_sub hl [2, 1, 3, 0] rfl)
        exact LB_19 (((tr.2.2.2.1).toNatClampNeg - (i + 1)) + 1) 0 (by omega) (by omega) H locs hP hD hS ls (lv_sub hl [1, 2, 3, 0] rfl)
  exact LB_4 ((tr.2.2.2.1).toNatClampNeg + 1) 0 (by omega) (by omega) H locs hP hD hS ls (lv_sub hl [2, 1, 0] rfl)
abbrev rm_X9_firstSignNearer : Room := { frames := 3, cells := 0, slots := 0, locals := 71 }
set_option maxHeartbeats 4000000 in
set_option maxRecDepth 100000 in
theorem c_X9_firstSignNearer (l : Launch) (D : va_G) (cI cJ cZ : ClassId) (xa : Nat → Nat) (sz : Nat) (wk : Stg) (tl : Stg) (x : Int32) (y : Int32) (w : Int32) : Met l yX9_firstSignNearer wsX9_firstSignNearer rm_X9_firstSignNearer (va_Pc [.ref (xa 0), .int x, .int y, .int w] (PU D (tyL cI cJ cZ) (wXo xa ++ wStg (xa 46) wk ++ wStg (xa 47) tl) sz)) (va_Qi (fun (rz : Int32) (uz : Stg × Stg) => rz = nrR wk x y w ∧ uz.1 = nrS wk x y w) (fun uz => BU D (wXo xa ++ wStg (xa 46) uz.1 ++ wStg (xa 47) uz.2) (va_A (wXo xa ++ wStg (xa 46) wk ++ wStg (xa 47) tl) sz)) (va_A (wXo xa ++ wStg (xa 46) wk ++ wStg (xa 47) tl) sz)) 0 0 (va_A (wXo xa ++ wStg (xa 46) wk ++ wStg (xa 47) tl) sz) := by
  refine en (own := RX9) (Qc := fun A => va_Qi (fun (rz : Int32) (uz : Stg × Stg) => rz = nrR wk x y w ∧ uz.1 = nrS wk x y w) (fun uz => BU D (wXo xa ++ wStg (xa 46) uz.1 ++ wStg (xa 47) uz.2) A) A) (by decide) rfl (Nat.le_of_ble_eq_true rfl) rfl ?_
  intro p e s m args below meth c A Q H locs ls hx hb hr hml hown hts hlocks hname hA hN hE hK hQ hP hD hS hl
  have hl : lv_has ls 6 [(0, .ref (xa 0)), (1, .int x), (2, .int y), (3, .int w)] := hl
  have fl_70 := hts (.fieldLink RX9 70 "DanceStaffs" "walker" "LDanceStaffs$Standing;") (by decide +kernel)
  have hin_9 : ∀ w ∈ u_ws RX9 TX9 13, w ∈ wsX9_firstSignNearer := by decide +kernel
  have fl_74 := hts (.fieldLink RX9 74 "DanceStaffs" "trial" "LDanceStaffs$Standing;") (by decide +kernel)
  refine lv_aload_n hx hb dX9_firstSignNearer_0 rfl (lv_at hl 0 rfl) ?_
  refine va_get (D := D) (ci := 9) (v := .ref (xa 46)) (C := RX9) (T := TX9) (N := 13) hx hb hts hin_9 hown hK hP 0 rfl rfl 10 (by decide) fl_70 (fun _ h9 => h9) rfl dX9_firstSignNearer_1 ?_
  refine lv_iload_n hx hb dX9_firstSignNearer_4 rfl (lv_at hl 1 rfl) ?_
  refine lv_iload_n hx hb dX9_firstSignNearer_5 rfl (lv_at hl 2 rfl) ?_
  refine lv_iload_n hx hb dX9_firstSignNearer_6 rfl (lv_at hl 3 rfl) ?_
  refine jn_i (W2 := fun _ => wXo xa ++ wStg (xa 46) wk ++ wStg (xa 47) tl) (va_runV (As := [.int x, .int y, .int w]) (rest := []) ⟨hx, hb, hml, hown, hts⟩ (c_X6_signsTo l D cI cJ cZ (xa 46) H.size wk x y w) (cwV 3 hts gX9_firstSignNearer_X6_signsTo rfl rfl rfl (by decide +kernel) ⟨Nat.le_of_ble_eq_true rfl, Nat.le_of_ble_eq_true rfl⟩) (pr_V hP hD hK hN hE hS hA [1] (by decide) rfl (ci := 6) (q0 := 1) rfl rfl) rfl rfl hl.1 rfl (lv_room (Nat.le_of_ble_eq_true rfl)) dX9_firstSignNearer_7 ⟨Nat.zero_le _, Nat.zero_le _⟩) hP hD hS hA [1] [0, 2] [0, 2, 1] rfl rfl (by decide) (by decide) (by decide) (fun _ => rfl) (fun r_7 u_7 H locs hw_7 hP hD hS => ?_)
  have hP : va_P D vwCl (wXo xa ++ wStg (xa 46) wk ++ wStg (xa 47) tl) H := hP
  have hD : va_D A (wXo xa ++ wStg (xa 46) wk ++ wStg (xa 47) tl) := hD
  have hr_7 := hw_7
  refine lv_istore (lv' := [(4, .int r_7), (0, .ref (xa 0)), (1, .int x), (2, .int y), (3, .int w)]) hx hb dX9_firstSignNearer_10 hl (by decide) rfl (fun ls hl => ?_)
  rw [hr_7] at hl
  have hl : lv_has ls 6 [(4, .int (sgTo wk x y w)), (0, .ref (xa 0)), (1, .int x), (2, .int y), (3, .int w)] := hl
  refine lv_iconst (v := 1) hx hb dX9_firstSignNearer_12 (by decide) ?_
  refine lv_istore (lv' := [(5, .int 1), (4, .int (sgTo wk x y w)), (0, .ref (xa 0)), (1, .int x), (2, .int y), (3, .int w)]) hx hb dX9_firstSignNearer_13 hl (by decide) rfl (fun ls hl => ?_)
  have LB_15 : ∀ (n : Nat) (j : Nat) (q : Stg) (hn_j : 32 < j + n) (hi_j : j ≤ 32) (hG : nrL wk x y w (sgTo wk x y w) (32 - j) j = nrR wk x y w) (H : Heap) (locs : List Loc) (_ : va_P D vwCl (wXo xa ++ wStg (xa 46) wk ++ wStg (xa 47) q) H) (_ : va_D A (wXo xa ++ wStg (xa 46) wk ++ wStg (xa 47) q)) (_ : va_S A s.heap H locs) (ls : Array Slot) (_ : lv_has ls 6 [(0, .ref (xa 0)), (1, .int x), (2, .int y), (3, .int w), (4, .int (sgTo wk x y w)), (5, .int (nI (j + 1)))]), W p l e rm_X9_firstSignNearer s m args below meth c H locs 0 0 Q (F0 m 15 ls []) := by
    intro n
    induction n with
    | zero =>
      intro j q hn_j hi_j hG
      exact absurd hn_j (by omega)
    | succ n LB_15 =>
      intro j q hn_j hi_j hG H locs hP hD hS ls hl
      refine lv_iload hx hb dX9_firstSignNearer_15 (lv_at hl 5 rfl) ?_
      refine lv_bipush (v := 32) hx hb dX9_firstSignNearer_17 (by decide) ?_
      refine lv_icmp_gt (tgt := 80) hx hb dX9_firstSignNearer_19 (by decide) (fun c_19 => ?_) (fun c_19 => ?_)
      · have i_19 := i_lt c_19
        rw [(by decide : (32 : Int32).toInt = 32)] at i_19
        rw [nIT (by omega)] at i_19
        rw [show 32 - j = 0 by omega, nrL] at hG
        refine lv_bipush (v := (-9)) hx hb dX9_firstSignNearer_80 (by decide) ?_
        exact lf_i hx hb hr hlocks hQ (wk, q) hP hD hS dX9_firstSignNearer_82 ⟨(by exact hG), (by rw [nrS, ← hG]; rfl)⟩
      · have i_19 := i_nlt c_19
        rw [(by decide : (32 : Int32).toInt = 32)] at i_19
        rw [nIT (by omega)] at i_19
        rw [show 32 - j = (32 - (j + 1)) + 1 by omega, nrL, nrB] at hG
        refine lv_aload_n hx hb dX9_firstSignNearer_22 rfl (lv_at hl 0 rfl) ?_
        refine va_get (D := D) (ci := 9) (v := .ref (xa 47)) (C := RX9) (T := TX9) (N := 13) hx hb hts hin_9 hown hK hP 0 rfl rfl 11 (by decide) fl_74 (fun _ h9 => h9) rfl dX9_firstSignNearer_23 ?_
        refine lv_aload_n hx hb dX9_firstSignNearer_26 rfl (lv_at hl 0 rfl) ?_
        refine va_get (D := D) (ci := 9) (v := .ref (xa 46)) (C := RX9) (T := TX9) (N := 13) hx hb hts hin_9 hown hK hP 0 rfl rfl 10 (by decide) fl_70 (fun _ h9 => h9) rfl dX9_firstSignNearer_27 ?_
        refine jn_v (W2 := fun u_30 => wXo xa ++ wStg (xa 46) wk ++ wStg (xa 47) u_30) (va_runV (As := [.ref (xa 46)]) (rest := []) ⟨hx, hb, hml, hown, hts⟩ (c_X6_copyFrom l D cI cJ cZ (xa 47) (xa 46) H.size q wk) (cwV 1 hts gX9_firstSignNearer_X6_copyFrom rfl rfl rfl (by decide +kernel) ⟨Nat.le_of_ble_eq_true rfl, Nat.le_of_ble_eq_true rfl⟩) (pr_V hP hD hK hN hE hS hA [2, 1] (by decide) rfl (ci := 6) (q0 := 2) rfl rfl) rfl rfl hl.1 rfl (lv_room (Nat.le_of_ble_eq_true rfl)) dX9_firstSignNearer_30 ⟨Nat.zero_le _, Nat.zero_le _⟩) hP hD hS hA [2, 1] [0] [0, 2, 1] rfl rfl (by decide) (by decide) (by decide) (fun _ => rfl) (fun u_30 H locs hw_30 hP hD hS => ?_)
        have hP : va_P D vwCl (wXo xa ++ wStg (xa 46) wk ++ wStg (xa 47) u_30) H := hP
        have hD : va_D A (wXo xa ++ wStg (xa 46) wk ++ wStg (xa 47) u_30) := hD
        have hu_30 := hw_30
        refine lv_aload_n hx hb dX9_firstSignNearer_33 rfl (lv_at hl 0 rfl) ?_
        refine va_get (D := D) (ci := 9) (v := .ref (xa 47)) (C := RX9) (T := TX9) (N := 13) hx hb hts hin_9 hown hK hP 0 rfl rfl 11 (by decide) fl_74 (fun _ h9 => h9) rfl dX9_firstSignNearer_34 ?_
        refine lv_iload hx hb dX9_firstSignNearer_37 (lv_at hl 5 rfl) ?_
        refine jn_i (W2 := fun u_39 => wXo xa ++ wStg (xa 46) wk ++ wStg (xa 47) u_39) (va_runV (As := [.int (nI (j + 1))]) (rest := []) ⟨hx, hb, hml, hown, hts⟩ (c_X6_take l D cI cJ cZ (xa 47) H.size u_30 (nI (j + 1))) (cwV 1 hts gX9_firstSignNearer_X6_take rfl rfl rfl (by decide +kernel) ⟨Nat.le_of_ble_eq_true rfl, Nat.le_of_ble_eq_true rfl⟩) (pr_V hP hD hK hN hE hS hA [2] (by decide) rfl (ci := 6) (q0 := 2) rfl rfl) rfl rfl hl.1 rfl (lv_room (Nat.le_of_ble_eq_true rfl)) dX9_firstSignNearer_39 ⟨Nat.zero_le _, Nat.zero_le _⟩) hP hD hS hA [2] [0, 1] [0, 1, 2] rfl rfl (by decide) (by decide) (by decide) (fun _ => rfl) (fun r_39 u_39 H locs hw_39 hP hD hS => ?_)
        have hP : va_P D vwCl (wXo xa ++ wStg (xa 46) wk ++ wStg (xa 47) u_39) H := hP
        have hD : va_D A (wXo xa ++ wStg (xa 46) wk ++ wStg (xa 47) u_39) := hD
        obtain ⟨hr_39, hu_39⟩ := hw_39
        refine lv_if_eq (tgt := 74) hx hb dX9_firstSignNearer_42 (by decide) (fun c_42 => ?_) (fun c_42 => ?_)
        · have b_42 : (tkB u_30 (nI (j + 1))) = false := bI_0 (hr_39.symm.trans c_42)
          rw [hu_30] at b_42
          rw [if_neg (show ¬ tkB wk (nI (j + 1)) = true by rw [b_42]; decide), if_neg (by decide)] at hG
          refine lv_iinc (v := ((nI (j + 1)) + 1)) (lv' := [(5, .int ((nI (j + 1)) + 1)), (0, .ref (xa 0)), (1, .int x), (2, .int y), (3, .int w), (4, .int (sgTo wk x y w))]) hx hb dX9_firstSignNearer_74 hl (k := 5) rfl rfl (by decide) rfl (fun ls hl => ?_)
          rw [show nI (j + 1) + 1 = nI ((j + 1) + 1) from nI_1 _] at hl
          have hl : lv_has ls 6 [(5, .int (nI ((j + 1) + 1))), (0, .ref (xa 0)), (1, .int x), (2, .int y), (3, .int w), (4, .int (sgTo wk x y w))] := hl
          refine lv_goto (tgt := 15) hx hb dX9_firstSignNearer_77 (by decide) ?_
          exact LB_15 (j + 1) u_39 (by omega) (by omega) (hG) H locs hP hD hS ls (lv_sub hl [1, 2, 3, 4, 5, 0] rfl)
        · have b_42 : (tkB u_30 (nI (j + 1))) = true := bI_1 (fun q => c_42 (hr_39.trans q))
          rw [hu_30] at b_42
          rw [if_pos b_42] at hG
          refine lv_aload_n hx hb dX9_firstSignNearer_45 rfl (lv_at hl 0 rfl) ?_
          refine va_get (D := D) (ci := 9) (v := .ref (xa 47)) (C := RX9) (T := TX9) (N := 13) hx hb hts hin_9 hown hK hP 0 rfl rfl 11 (by decide) fl_74 (fun _ h9 => h9) rfl dX9_firstSignNearer_46 ?_
          refine lv_iload_n hx hb dX9_firstSignNearer_49 rfl (lv_at hl 1 rfl) ?_
          refine lv_iload_n hx hb dX9_firstSignNearer_50 rfl (lv_at hl 2 rfl) ?_
          refine lv_iload_n hx hb dX9_firstSignNearer_51 rfl (lv_at hl 3 rfl) ?_
          refine jn_i (W2 := fun _ => wXo xa ++ wStg (xa 46) wk ++ wStg (xa 47) u_39) (va_runV (As := [.int x, .int y, .int w]) (rest := []) ⟨hx, hb, hml, hown, hts⟩ (c_X6_signsTo l D cI cJ cZ (xa 47) H.size u_39 x y w) (cwV 3 hts gX9_firstSignNearer_X6_signsTo rfl rfl rfl (by decide +kernel) ⟨Nat.le_of_ble_eq_true rfl, Nat.le_of_ble_eq_true rfl⟩) (pr_V hP hD hK hN hE hS hA [2] (by decide) rfl (ci := 6) (q0 := 2) rfl rfl) rfl rfl hl.1 rfl (lv_room (Nat.le_of_ble_eq_true rfl)) dX9_firstSignNearer_52 ⟨Nat.zero_le _, Nat.zero_le _⟩) hP hD hS hA [2] [0, 1] [0, 1, 2] rfl rfl (by decide) (by decide) (by decide) (fun _ => rfl) (fun r_52 u_52 H locs hw_52 hP hD hS => ?_)
          have hP : va_P D vwCl (wXo xa ++ wStg (xa 46) wk ++ wStg (xa 47) u_39) H := hP
          have hD : va_D A (wXo xa ++ wStg (xa 46) wk ++ wStg (xa 47) u_39) := hD
          have hr_52 := hw_52
          refine lv_iload hx hb dX9_firstSignNearer_55 (lv_at hl 4 rfl) ?_
          refine lv_icmp_ge (tgt := 74) hx hb dX9_firstSignNearer_57 (by decide) (fun c_57 => ?_) (fun c_57 => ?_)
          · have i_57 := i_le c_57
            rw [hr_52, hu_39, hu_30] at c_57
            rw [if_pos c_57, if_neg (by decide)] at hG
            refine lv_iinc (v := ((nI (j + 1)) + 1)) (lv' := [(5, .int ((nI (j + 1)) + 1)), (0, .ref (xa 0)), (1, .int x), (2, .int y), (3, .int w), (4, .int (sgTo wk x y w))]) hx hb dX9_firstSignNearer_74 hl (k := 5) rfl rfl (by decide) rfl (fun ls hl => ?_)
            rw [show nI (j + 1) + 1 = nI ((j + 1) + 1) from nI_1 _] at hl
            have hl : lv_has ls 6 [(5, .int (nI ((j + 1) + 1))), (0, .ref (xa 0)), (1, .int x), (2, .int y), (3, .int w), (4, .int (sgTo wk x y w))] := hl
            refine lv_goto (tgt := 15) hx hb dX9_firstSignNearer_77 (by decide) ?_
            exact LB_15 (j + 1) u_39 (by omega) (by omega) (hG) H locs hP hD hS ls (lv_sub hl [1, 2, 3, 4, 5, 0] rfl)
          · have i_57 := i_nle c_57
            rw [hr_52, hu_39, hu_30] at c_57
            rw [if_neg c_57, if_pos rfl] at hG
            refine lv_aload_n hx hb dX9_firstSignNearer_60 rfl (lv_at hl 0 rfl) ?_
            refine va_get (D := D) (ci := 9) (v := .ref (xa 46)) (C := RX9) (T := TX9) (N := 13) hx hb hts hin_9 hown hK hP 0 rfl rfl 10 (by decide) fl_70 (fun _ h9 => h9) rfl dX9_firstSignNearer_61 ?_
            refine lv_aload_n hx hb dX9_firstSignNearer_64 rfl (lv_at hl 0 rfl) ?_
            refine va_get (D := D) (ci := 9) (v := .ref (xa 47)) (C := RX9) (T := TX9) (N := 13) hx hb hts hin_9 hown hK hP 0 rfl rfl 11 (by decide) fl_74 (fun _ h9 => h9) rfl dX9_firstSignNearer_65 ?_
            refine jn_v (W2 := fun u_68 => wXo xa ++ wStg (xa 46) u_68 ++ wStg (xa 47) u_39) (va_runV (As := [.ref (xa 47)]) (rest := []) ⟨hx, hb, hml, hown, hts⟩ (c_X6_copyFrom l D cI cJ cZ (xa 46) (xa 47) H.size wk u_39) (cwV 1 hts gX9_firstSignNearer_X6_copyFrom rfl rfl rfl (by decide +kernel) ⟨Nat.le_of_ble_eq_true rfl, Nat.le_of_ble_eq_true rfl⟩) (pr_V hP hD hK hN hE hS hA [1, 2] (by decide) rfl (ci := 6) (q0 := 1) rfl rfl) rfl rfl hl.1 rfl (lv_room (Nat.le_of_ble_eq_true rfl)) dX9_firstSignNearer_68 ⟨Nat.zero_le _, Nat.zero_le _⟩) hP hD hS hA [1, 2] [0] [0, 1, 2] rfl rfl (by decide) (by decide) (by decide) (fun _ => rfl) (fun u_68 H locs hw_68 hP hD hS => ?_)
            have hP : va_P D vwCl (wXo xa ++ wStg (xa 46) u_68 ++ wStg (xa 47) u_39) H := hP
            have hD : va_D A (wXo xa ++ wStg (xa 46) u_68 ++ wStg (xa 47) u_39) := hD
            have hu_68 := hw_68
            refine lv_iload hx hb dX9_firstSignNearer_71 (lv_at hl 5 rfl) ?_
            exact lf_i hx hb hr hlocks hQ (u_68, u_39) hP hD hS dX9_firstSignNearer_73 ⟨(by exact hG), (by rw [hu_68, hu_39, hu_30, nrS, ← hG, if_neg (fun q => by have := i_eq q; rw [nIT (by omega), li_m9] at this; omega)])⟩
  exact LB_15 (32 + 1) 0 tl (by omega) (by omega) (rfl) H locs hP hD hS ls (lv_sub hl [2, 3, 4, 5, 1, 0] rfl)
abbrev rm_X9_signOnWay : Room := { frames := 4, cells := 0, slots := 0, locals := 96 }
set_option maxHeartbeats 4000000 in
set_option maxRecDepth 100000 in
theorem c_X9_signOnWay (l : Launch) (D : va_G) (cI cJ cZ : ClassId) (xa : Nat → Nat) (sz : Nat) (wk : Stg) (tl : Stg) (x : Int32) (y : Int32) (w : Int32) (k : Int32) (h0k : 0 ≤ k.toInt) (hk : k.toInt ≤ 1000) : Met l yX9_signOnWay wsX9_signOnWay rm_X9_signOnWay (va_Pc [.ref (xa 0), .int x, .int y, .int w, .int k] (PU D (tyL cI cJ cZ) (wXo xa ++ wStg (xa 46) wk ++ wStg (xa 47) tl) sz)) (va_Qi (fun (rz : Int32) (uz : Stg × Stg) => rz = (swL wk x y w ((k).toNatClampNeg + 1)).1 ∧ uz.1 = (swL wk x y w ((k).toNatClampNeg + 1)).2) (fun uz => BU D (wXo xa ++ wStg (xa 46) uz.1 ++ wStg (xa 47) uz.2) (va_A (wXo xa ++ wStg (xa 46) wk ++ wStg (xa 47) tl) sz)) (va_A (wXo xa ++ wStg (xa 46) wk ++ wStg (xa 47) tl) sz)) 0 0 (va_A (wXo xa ++ wStg (xa 46) wk ++ wStg (xa 47) tl) sz) := by
  refine en (own := RX9) (Qc := fun A => va_Qi (fun (rz : Int32) (uz : Stg × Stg) => rz = (swL wk x y w ((k).toNatClampNeg + 1)).1 ∧ uz.1 = (swL wk x y w ((k).toNatClampNeg + 1)).2) (fun uz => BU D (wXo xa ++ wStg (xa 46) uz.1 ++ wStg (xa 47) uz.2) A) A) (by decide) rfl (Nat.le_of_ble_eq_true rfl) rfl ?_
  intro p e s m args below meth c A Q H locs ls hx hb hr hml hown hts hlocks hname hA hN hE hK hQ hP hD hS hl
  have hl : lv_has ls 7 [(0, .ref (xa 0)), (1, .int x), (2, .int y), (3, .int w), (4, .int k)] := hl
  have hcl := clampT h0k
  refine lv_bipush (v := (-9)) hx hb dX9_signOnWay_0 (by decide) ?_
  refine lv_istore (lv' := [(5, .int (-9)), (0, .ref (xa 0)), (1, .int x), (2, .int y), (3, .int w), (4, .int k)]) hx hb dX9_signOnWay_2 hl (by decide) rfl (fun ls hl => ?_)
  refine lv_iconst (v := 0) hx hb dX9_signOnWay_4 (by decide) ?_
  refine lv_istore (lv' := [(6, .int 0), (5, .int (-9)), (0, .ref (xa 0)), (1, .int x), (2, .int y), (3, .int w), (4, .int k)]) hx hb dX9_signOnWay_5 hl (by decide) rfl (fun ls hl => ?_)
  have LB_7 : ∀ (n : Nat) (i : Nat) (q : Stg) (hn_i : ((k).toNatClampNeg + 1) < i + n) (hi_i : i ≤ ((k).toNatClampNeg + 1)) (H : Heap) (locs : List Loc) (_ : va_P D vwCl (wXo xa ++ wStg (xa 46) ((swL wk x y w i).2) ++ wStg (xa 47) q) H) (_ : va_D A (wXo xa ++ wStg (xa 46) ((swL wk x y w i).2) ++ wStg (xa 47) q)) (_ : va_S A s.heap H locs) (ls : Array Slot) (_ : lv_has ls 7 [(0, .ref (xa 0)), (1, .int x), (2, .int y), (3, .int w), (4, .int k), (5, .int ((swL wk x y w i).1)), (6, .int (nI i))]), W p l e rm_X9_signOnWay s m args below meth c H locs 0 0 Q (F0 m 7 ls []) := by
    intro n
    induction n with
    | zero =>
      intro i q hn_i hi_i
      exact absurd hn_i (by omega)
    | succ n LB_7 =>
      intro i q hn_i hi_i H locs hP hD hS ls hl
      refine lv_iload hx hb dX9_signOnWay_7 (lv_at hl 6 rfl) ?_
      refine lv_iload hx hb dX9_signOnWay_9 (lv_at hl 4 rfl) ?_
      refine lv_icmp_gt (tgt := 29) hx hb dX9_signOnWay_11 (by decide) (fun c_11 => ?_) (fun c_11 => ?_)
      · have i_11 := i_lt c_11
        rw [nIT (by omega)] at i_11
        have e_11 : i = (k).toNatClampNeg + 1 := by omega
        refine lv_iload hx hb dX9_signOnWay_29 (lv_at hl 5 rfl) ?_
        exact lf_i hx hb hr hlocks hQ (((swL wk x y w i).2), q) hP hD hS dX9_signOnWay_31 ⟨(by rw [e_11]), (by rw [e_11])⟩
      · have i_11 := i_nlt c_11
        rw [nIT (by omega)] at i_11
        refine lv_aload_n hx hb dX9_signOnWay_14 rfl (lv_at hl 0 rfl) ?_
        refine lv_iload_n hx hb dX9_signOnWay_15 rfl (lv_at hl 1 rfl) ?_
        refine lv_iload_n hx hb dX9_signOnWay_16 rfl (lv_at hl 2 rfl) ?_
        refine lv_iload_n hx hb dX9_signOnWay_17 rfl (lv_at hl 3 rfl) ?_
        refine jn_i (W2 := fun u_18 => wXo xa ++ wStg (xa 46) u_18.1 ++ wStg (xa 47) u_18.2) (va_runV (As := [.int x, .int y, .int w]) (rest := []) ⟨hx, hb, hml, hown, hts⟩ (c_X9_firstSignNearer l D cI cJ cZ xa H.size ((swL wk x y w i).2) q x y w) (cwV 3 hts gX9_signOnWay_X9_firstSignNearer rfl rfl rfl (by decide +kernel) ⟨Nat.le_of_ble_eq_true rfl, Nat.le_of_ble_eq_true rfl⟩) (pr_V hP hD hK hN hE hS hA [0, 1, 2] (by decide) rfl (ci := 9) (q0 := 0) rfl rfl) rfl rfl hl.1 rfl (lv_room (Nat.le_of_ble_eq_true rfl)) dX9_signOnWay_18 ⟨Nat.zero_le _, Nat.zero_le _⟩) hP hD hS hA [0, 1, 2] [] [0, 1, 2] rfl rfl (by decide) (by decide) (by decide) (fun _ => rfl) (fun r_18 u_18 H locs hw_18 hP hD hS => ?_)
        have hP : va_P D vwCl (wXo xa ++ wStg (xa 46) u_18.1 ++ wStg (xa 47) u_18.2) H := hP
        have hD : va_D A (wXo xa ++ wStg (xa 46) u_18.1 ++ wStg (xa 47) u_18.2) := hD
        obtain ⟨hr_18, hu_18_0⟩ := hw_18
        refine lv_istore (lv' := [(5, .int r_18), (0, .ref (xa 0)), (1, .int x), (2, .int y), (3, .int w), (4, .int k), (6, .int (nI i))]) hx hb dX9_signOnWay_21 hl (by decide) rfl (fun ls hl => ?_)
        refine lv_iinc (v := ((nI i) + 1)) (lv' := [(6, .int ((nI i) + 1)), (5, .int r_18), (0, .ref (xa 0)), (1, .int x), (2, .int y), (3, .int w), (4, .int k)]) hx hb dX9_signOnWay_23 hl (k := 6) rfl rfl (by decide) rfl (fun ls hl => ?_)
        rw [show nI i + 1 = nI (i + 1) from nI_1 _] at hl
        have hl : lv_has ls 7 [(6, .int (nI (i + 1))), (5, .int r_18), (0, .ref (xa 0)), (1, .int x), (2, .int y), (3, .int w), (4, .int k)] := hl
        rw [hr_18] at hl
        have hl : lv_has ls 7 [(6, .int (nI (i + 1))), (5, .int ((swL wk x y w (i + 1)).1)), (0, .ref (xa 0)), (1, .int x), (2, .int y), (3, .int w), (4, .int k)] := hl
        have eg_26 : u_18.1 = (swL wk x y w (i + 1)).2 := by rw [hu_18_0]; rfl
        rw [eg_26] at hP hD
        have hP : va_P D vwCl (wXo xa ++ wStg (xa 46) ((swL wk x y w (i + 1)).2) ++ wStg (xa 47) u_18.2) H := hP
        have hD : va_D A (wXo xa ++ wStg (xa 46) ((swL wk x y w (i + 1)).2) ++ wStg (xa 47) u_18.2) := hD
        refine lv_goto (tgt := 7) hx hb dX9_signOnWay_26 (by decide) ?_
        exact LB_7 (i + 1) u_18.2 (by omega) (by omega) H locs hP hD hS ls (lv_sub hl [2, 3, 4, 5, 6, 1, 0] rfl)
  exact LB_7 (((k).toNatClampNeg + 1) + 1) 0 tl (by omega) (by omega) H locs hP hD hS ls (lv_sub hl [2, 3, 4, 5, 6, 1, 0] rfl)
abbrev rm_X9_possibleBeats : Room := { frames := 4, cells := 0, slots := 0, locals := 97 }
set_option maxHeartbeats 4000000 in
set_option maxRecDepth 100000 in
theorem c_X9_possibleBeats (l : Launch) (D : va_G) (cI cJ cZ : ClassId) (xa : Nat → Nat) (sz : Nat) (tr : Trp) (si : Sgt) (c1 : Crs) (htr : TrpOk tr) (hs0 : 0 ≤ si.2.2.2.toInt) (hs6 : si.2.2.2.toInt ≤ 6) : Met l yX9_possibleBeats wsX9_possibleBeats rm_X9_possibleBeats (va_Pc [.ref (xa 0)] (PU D (tyL cI cJ cZ) (wXo xa ++ wTrp (xa 4) (xa 5) (xa 6) (xa 7) (xa 8) (xa 9) (xa 10) cI tr ++ wSgt (xa 22) (xa 23) (xa 24) (xa 25) cI si ++ wCrs (xa 34) (xa 35) (xa 36) (xa 37) (xa 38) (xa 39) cI c1) sz)) (va_Qi (fun (rz : Int32) (uz : Crs) => rz = (pbT tr si c1).1 ∧ uz = (pbT tr si c1).2) (fun uz => BU D (wXo xa ++ wTrp (xa 4) (xa 5) (xa 6) (xa 7) (xa 8) (xa 9) (xa 10) cI tr ++ wSgt (xa 22) (xa 23) (xa 24) (xa 25) cI si ++ wCrs (xa 34) (xa 35) (xa 36) (xa 37) (xa 38) (xa 39) cI uz) (va_A (wXo xa ++ wTrp (xa 4) (xa 5) (xa 6) (xa 7) (xa 8) (xa 9) (xa 10) cI tr ++ wSgt (xa 22) (xa 23) (xa 24) (xa 25) cI si ++ wCrs (xa 34) (xa 35) (xa 36) (xa 37) (xa 38) (xa 39) cI c1) sz)) (va_A (wXo xa ++ wTrp (xa 4) (xa 5) (xa 6) (xa 7) (xa 8) (xa 9) (xa 10) cI tr ++ wSgt (xa 22) (xa 23) (xa 24) (xa 25) cI si ++ wCrs (xa 34) (xa 35) (xa 36) (xa 37) (xa 38) (xa 39) cI c1) sz)) 0 0 (va_A (wXo xa ++ wTrp (xa 4) (xa 5) (xa 6) (xa 7) (xa 8) (xa 9) (xa 10) cI tr ++ wSgt (xa 22) (xa 23) (xa 24) (xa 25) cI si ++ wCrs (xa 34) (xa 35) (xa 36) (xa 37) (xa 38) (xa 39) cI c1) sz) := by
  refine en (own := RX9) (Qc := fun A => va_Qi (fun (rz : Int32) (uz : Crs) => rz = (pbT tr si c1).1 ∧ uz = (pbT tr si c1).2) (fun uz => BU D (wXo xa ++ wTrp (xa 4) (xa 5) (xa 6) (xa 7) (xa 8) (xa 9) (xa 10) cI tr ++ wSgt (xa 22) (xa 23) (xa 24) (xa 25) cI si ++ wCrs (xa 34) (xa 35) (xa 36) (xa 37) (xa 38) (xa 39) cI uz) A) A) (by decide) rfl (Nat.le_of_ble_eq_true rfl) rfl ?_
  intro p e s m args below meth c A Q H locs ls hx hb hr hml hown hts hlocks hname hA hN hE hK hQ hP hD hS hl
  have hl : lv_has ls 3 [(0, .ref (xa 0))] := hl
  have fl_26 := hts (.fieldLink RX9 26 "DanceStaffs" "troupe" "LDanceStaffs$Troupe;") (by decide +kernel)
  have hin_9 : ∀ w ∈ u_ws RX9 TX9 13, w ∈ wsX9_possibleBeats := by decide +kernel
  have hin_8 : ∀ w ∈ u_ws RX8 TX8 5, w ∈ wsX9_possibleBeats := by decide +kernel
  have fl_60 := hts (.fieldLink RX9 60 "DanceStaffs" "course" "LDanceStaffs$Course;") (by decide +kernel)
  have fl_43 := hts (.fieldLink RX9 43 "DanceStaffs" "sightings" "LDanceStaffs$Sightings;") (by decide +kernel)
  have hlen := sLen_in htr.2.2 0
  have hcl := clampT hlen.1
  refine lv_iconst (v := 0) hx hb dX9_possibleBeats_0 (by decide) ?_
  refine lv_istore_n (lv' := [(1, .int 0), (0, .ref (xa 0))]) hx hb dX9_possibleBeats_1 rfl hl (by decide) rfl (fun ls hl => ?_)
  refine lv_iconst (v := 0) hx hb dX9_possibleBeats_2 (by decide) ?_
  refine lv_istore_n (lv' := [(2, .int 0), (1, .int 0), (0, .ref (xa 0))]) hx hb dX9_possibleBeats_3 rfl hl (by decide) rfl (fun ls hl => ?_)
  have LB_4 : ∀ (n : Nat) (i : Nat) (hn_i : (sLen tr.2.2.2.2 0).toNatClampNeg < i + n) (hi_i : i ≤ (sLen tr.2.2.2.2 0).toNatClampNeg) (H : Heap) (locs : List Loc) (_ : va_P D vwCl (wXo xa ++ wTrp (xa 4) (xa 5) (xa 6) (xa 7) (xa 8) (xa 9) (xa 10) cI tr ++ wSgt (xa 22) (xa 23) (xa 24) (xa 25) cI si ++ wCrs (xa 34) (xa 35) (xa 36) (xa 37) (xa 38) (xa 39) cI ((pbL tr si c1 i).2)) H) (_ : va_D A (wXo xa ++ wTrp (xa 4) (xa 5) (xa 6) (xa 7) (xa 8) (xa 9) (xa 10) cI tr ++ wSgt (xa 22) (xa 23) (xa 24) (xa 25) cI si ++ wCrs (xa 34) (xa 35) (xa 36) (xa 37) (xa 38) (xa 39) cI ((pbL tr si c1 i).2))) (_ : va_S A s.heap H locs) (ls : Array Slot) (_ : lv_has ls 3 [(0, .ref (xa 0)), (1, .int ((pbL tr si c1 i).1)), (2, .int (nI i))]), W p l e rm_X9_possibleBeats s m args below meth c H locs 0 0 Q (F0 m 4 ls []) := by
    intro n
    induction n with
    | zero =>
      intro i hn_i hi_i
      exact absurd hn_i (by omega)
    | succ n LB_4 =>
      intro i hn_i hi_i H locs hP hD hS ls hl
      refine lv_iload_n hx hb dX9_possibleBeats_4 rfl (lv_at hl 2 rfl) ?_
      refine lv_aload_n hx hb dX9_possibleBeats_5 rfl (lv_at hl 0 rfl) ?_
      refine va_get (D := D) (ci := 9) (v := .ref (xa 4)) (C := RX9) (T := TX9) (N := 13) hx hb hts hin_9 hown hK hP 0 rfl rfl 2 (by decide) fl_26 (fun _ h9 => h9) rfl dX9_possibleBeats_6 ?_
      refine va_getN (D := D) (ci := 8) (v := .ref (xa 8)) (C := RX8) (T := TX8) (N := 5) hx hb hts hin_8 hown hK hP 1 rfl rfl 3 (by decide) (nw_fuse hN 34 rfl) (fun _ h9 => h9) rfl dX9_possibleBeats_9 ?_
      refine lv_iconst (v := 0) hx hb dX9_possibleBeats_12 (by decide) ?_
      refine jn_i (W2 := fun _ => wXo xa ++ wTrp (xa 4) (xa 5) (xa 6) (xa 7) (xa 8) (xa 9) (xa 10) cI tr ++ wSgt (xa 22) (xa 23) (xa 24) (xa 25) cI si ++ wCrs (xa 34) (xa 35) (xa 36) (xa 37) (xa 38) (xa 39) cI ((pbL tr si c1 i).2)) (va_runV (As := [.int 0]) (rest := [.int (nI i)]) ⟨hx, hb, hml, hown, hts⟩ (c_X5_lengthOf l D cI cJ cZ (xa 8) (xa 9) (xa 10) H.size tr.2.2.2.2 0) (cwV 1 hts gX9_possibleBeats_X5_lengthOf rfl rfl rfl (by decide +kernel) ⟨Nat.le_of_ble_eq_true rfl, Nat.le_of_ble_eq_true rfl⟩) (pr_V hP hD hK hN hE hS hA [5, 6, 7] (by decide) rfl (ci := 5) (q0 := 5) rfl rfl) rfl rfl hl.1 rfl (lv_room (Nat.le_of_ble_eq_true rfl)) dX9_possibleBeats_13 ⟨Nat.zero_le _, Nat.zero_le _⟩) hP hD hS hA [5, 6, 7] [0, 1, 2, 3, 4, 8, 9, 10, 11, 12, 13, 14, 15, 16, 17] [0, 1, 2, 3, 4, 15, 16, 17, 5, 6, 7, 8, 9, 10, 11, 12, 13, 14] rfl rfl (by decide) (by decide) (by decide) (fun _ => rfl) (fun r_13 u_13 H locs hw_13 hP hD hS => ?_)
      have hP : va_P D vwCl (wXo xa ++ wTrp (xa 4) (xa 5) (xa 6) (xa 7) (xa 8) (xa 9) (xa 10) cI tr ++ wSgt (xa 22) (xa 23) (xa 24) (xa 25) cI si ++ wCrs (xa 34) (xa 35) (xa 36) (xa 37) (xa 38) (xa 39) cI ((pbL tr si c1 i).2)) H := hP
      have hD : va_D A (wXo xa ++ wTrp (xa 4) (xa 5) (xa 6) (xa 7) (xa 8) (xa 9) (xa 10) cI tr ++ wSgt (xa 22) (xa 23) (xa 24) (xa 25) cI si ++ wCrs (xa 34) (xa 35) (xa 36) (xa 37) (xa 38) (xa 39) cI ((pbL tr si c1 i).2)) := hD
      have hr_13 := hw_13
      refine lv_icmp_ge (tgt := 58) hx hb dX9_possibleBeats_16 (by decide) (fun c_16 => ?_) (fun c_16 => ?_)
      · have i_16 := i_le c_16
        rw [hr_13, nIT (by omega)] at i_16
        have e_16 : i = (sLen tr.2.2.2.2 0).toNatClampNeg := by omega
        refine lv_iload_n hx hb dX9_possibleBeats_58 rfl (lv_at hl 1 rfl) ?_
        exact lf_i hx hb hr hlocks hQ ((pbL tr si c1 i).2) hP hD hS dX9_possibleBeats_59 ⟨(by rw [e_16]; rfl), (by rw [e_16]; rfl)⟩
      · have i_16 := i_nle c_16
        rw [hr_13, nIT (by omega)] at i_16
        refine lv_aload_n hx hb dX9_possibleBeats_19 rfl (lv_at hl 0 rfl) ?_
        refine va_get (D := D) (ci := 9) (v := .ref (xa 34)) (C := RX9) (T := TX9) (N := 13) hx hb hts hin_9 hown hK hP 0 rfl rfl 8 (by decide) fl_60 (fun _ h9 => h9) rfl dX9_possibleBeats_20 ?_
        refine lv_aload_n hx hb dX9_possibleBeats_23 rfl (lv_at hl 0 rfl) ?_
        refine va_get (D := D) (ci := 9) (v := .ref (xa 4)) (C := RX9) (T := TX9) (N := 13) hx hb hts hin_9 hown hK hP 0 rfl rfl 2 (by decide) fl_26 (fun _ h9 => h9) rfl dX9_possibleBeats_24 ?_
        refine lv_iconst (v := 0) hx hb dX9_possibleBeats_27 (by decide) ?_
        refine lv_iload_n hx hb dX9_possibleBeats_28 rfl (lv_at hl 2 rfl) ?_
        refine jn_v (W2 := fun u_29 => wXo xa ++ wTrp (xa 4) (xa 5) (xa 6) (xa 7) (xa 8) (xa 9) (xa 10) cI tr ++ wSgt (xa 22) (xa 23) (xa 24) (xa 25) cI si ++ wCrs (xa 34) (xa 35) (xa 36) (xa 37) (xa 38) (xa 39) cI u_29) (va_runV (As := [.ref (xa 4), .int 0, .int (nI i)]) (rest := []) ⟨hx, hb, hml, hown, hts⟩ (c_X0_follow l D cI cJ cZ (xa 34) (xa 35) (xa 36) (xa 37) (xa 38) (xa 39) (xa 4) (xa 5) (xa 6) (xa 7) (xa 8) (xa 9) (xa 10) H.size ((pbL tr si c1 i).2) tr 0 (nI i) (htr.2.1) (htr.2.2)) (cwV 3 hts gX9_possibleBeats_X0_follow rfl rfl rfl (by decide +kernel) ⟨Nat.le_of_ble_eq_true rfl, Nat.le_of_ble_eq_true rfl⟩) (pr_V hP hD hK hN hE hS hA [12, 13, 14, 15, 16, 17, 1, 2, 3, 4, 5, 6, 7] (by decide) rfl (ci := 0) (q0 := 12) rfl rfl) rfl rfl hl.1 rfl (lv_room (Nat.le_of_ble_eq_true rfl)) dX9_possibleBeats_29 ⟨Nat.zero_le _, Nat.zero_le _⟩) hP hD hS hA [12, 13, 14, 15, 16, 17, 1, 2, 3, 4, 5, 6, 7] [0, 8, 9, 10, 11] [0, 11, 12, 13, 14, 15, 16, 17, 1, 2, 3, 4, 5, 6, 7, 8, 9, 10] rfl rfl (by decide) (by decide) (by decide) (fun _ => rfl) (fun u_29 H locs hw_29 hP hD hS => ?_)
        have hP : va_P D vwCl (wXo xa ++ wTrp (xa 4) (xa 5) (xa 6) (xa 7) (xa 8) (xa 9) (xa 10) cI tr ++ wSgt (xa 22) (xa 23) (xa 24) (xa 25) cI si ++ wCrs (xa 34) (xa 35) (xa 36) (xa 37) (xa 38) (xa 39) cI u_29) H := hP
        have hD : va_D A (wXo xa ++ wTrp (xa 4) (xa 5) (xa 6) (xa 7) (xa 8) (xa 9) (xa 10) cI tr ++ wSgt (xa 22) (xa 23) (xa 24) (xa 25) cI si ++ wCrs (xa 34) (xa 35) (xa 36) (xa 37) (xa 38) (xa 39) cI u_29) := hD
        have hu_29 := hw_29
        refine lv_aload_n hx hb dX9_possibleBeats_32 rfl (lv_at hl 0 rfl) ?_
        refine va_get (D := D) (ci := 9) (v := .ref (xa 22)) (C := RX9) (T := TX9) (N := 13) hx hb hts hin_9 hown hK hP 0 rfl rfl 5 (by decide) fl_43 (fun _ h9 => h9) rfl dX9_possibleBeats_33 ?_
        refine lv_aload_n hx hb dX9_possibleBeats_36 rfl (lv_at hl 0 rfl) ?_
        refine va_get (D := D) (ci := 9) (v := .ref (xa 34)) (C := RX9) (T := TX9) (N := 13) hx hb hts hin_9 hown hK hP 0 rfl rfl 8 (by decide) fl_60 (fun _ h9 => h9) rfl dX9_possibleBeats_37 ?_
        refine jn_i (W2 := fun _ => wXo xa ++ wTrp (xa 4) (xa 5) (xa 6) (xa 7) (xa 8) (xa 9) (xa 10) cI tr ++ wSgt (xa 22) (xa 23) (xa 24) (xa 25) cI si ++ wCrs (xa 34) (xa 35) (xa 36) (xa 37) (xa 38) (xa 39) cI u_29) (va_runV (As := [.ref (xa 34)]) (rest := []) ⟨hx, hb, hml, hown, hts⟩ (c_X4_agreeWith l D cI cJ cZ (xa 22) (xa 23) (xa 24) (xa 25) (xa 34) (xa 35) (xa 36) (xa 37) (xa 38) (xa 39) H.size si u_29 (hs0) (hs6)) (cwV 1 hts gX9_possibleBeats_X4_agreeWith rfl rfl rfl (by decide +kernel) ⟨Nat.le_of_ble_eq_true rfl, Nat.le_of_ble_eq_true rfl⟩) (pr_V hP hD hK hN hE hS hA [8, 9, 10, 11, 12, 13, 14, 15, 16, 17] (by decide) rfl (ci := 4) (q0 := 8) rfl rfl) rfl rfl hl.1 rfl (lv_room (Nat.le_of_ble_eq_true rfl)) dX9_possibleBeats_40 ⟨Nat.zero_le _, Nat.zero_le _⟩) hP hD hS hA [8, 9, 10, 11, 12, 13, 14, 15, 16, 17] [0, 1, 2, 3, 4, 5, 6, 7] [0, 1, 2, 3, 4, 5, 6, 7, 8, 9, 10, 11, 12, 13, 14, 15, 16, 17] rfl rfl (by decide) (by decide) (by decide) (fun _ => rfl) (fun r_40 u_40 H locs hw_40 hP hD hS => ?_)
        have hP : va_P D vwCl (wXo xa ++ wTrp (xa 4) (xa 5) (xa 6) (xa 7) (xa 8) (xa 9) (xa 10) cI tr ++ wSgt (xa 22) (xa 23) (xa 24) (xa 25) cI si ++ wCrs (xa 34) (xa 35) (xa 36) (xa 37) (xa 38) (xa 39) cI u_29) H := hP
        have hD : va_D A (wXo xa ++ wTrp (xa 4) (xa 5) (xa 6) (xa 7) (xa 8) (xa 9) (xa 10) cI tr ++ wSgt (xa 22) (xa 23) (xa 24) (xa 25) cI si ++ wCrs (xa 34) (xa 35) (xa 36) (xa 37) (xa 38) (xa 39) cI u_29) := hD
        have hr_40 := hw_40
        refine lv_if_eq (tgt := 52) hx hb dX9_possibleBeats_43 (by decide) (fun c_43 => ?_) (fun c_43 => ?_)
        · have b_43 : (agr si u_29) = false := bI_0 (hr_40.symm.trans c_43)
          refine lv_iinc (v := ((nI i) + 1)) (lv' := [(2, .int ((nI i) + 1)), (0, .ref (xa 0)), (1, .int ((pbL tr si c1 i).1))]) hx hb dX9_possibleBeats_52 hl (k := 2) rfl rfl (by decide) rfl (fun ls hl => ?_)
          rw [show nI i + 1 = nI (i + 1) from nI_1 _] at hl
          have hl : lv_has ls 3 [(2, .int (nI (i + 1))), (0, .ref (xa 0)), (1, .int ((pbL tr si c1 i).1))] := hl
          have es : (pbL tr si c1 i).1 = (pbL tr si c1 (i + 1)).1 := by simp only [pbL, ← hu_29, b_43, ↓reduceIte, reduceCtorEq]
          rw [es] at hl
          have hl : lv_has ls 3 [(2, .int (nI (i + 1))), (0, .ref (xa 0)), (1, .int ((pbL tr si c1 (i + 1)).1))] := hl
          have eg_55 : u_29 = (pbL tr si c1 (i + 1)).2 := by rw [hu_29]; rfl
          rw [eg_55] at hP hD
          have hP : va_P D vwCl (wXo xa ++ wTrp (xa 4) (xa 5) (xa 6) (xa 7) (xa 8) (xa 9) (xa 10) cI tr ++ wSgt (xa 22) (xa 23) (xa 24) (xa 25) cI si ++ wCrs (xa 34) (xa 35) (xa 36) (xa 37) (xa 38) (xa 39) cI ((pbL tr si c1 (i + 1)).2)) H := hP
          have hD : va_D A (wXo xa ++ wTrp (xa 4) (xa 5) (xa 6) (xa 7) (xa 8) (xa 9) (xa 10) cI tr ++ wSgt (xa 22) (xa 23) (xa 24) (xa 25) cI si ++ wCrs (xa 34) (xa 35) (xa 36) (xa 37) (xa 38) (xa 39) cI ((pbL tr si c1 (i + 1)).2)) := hD
          refine lv_goto (tgt := 4) hx hb dX9_possibleBeats_55 (by decide) ?_
          exact LB_4 (i + 1) (by omega) (by omega) H locs hP hD hS ls (lv_sub hl [1, 2, 0] rfl)
        · have b_43 : (agr si u_29) = true := bI_1 (fun q => c_43 (hr_40.trans q))
          refine lv_iload_n hx hb dX9_possibleBeats_46 rfl (lv_at hl 1 rfl) ?_
          refine lv_iconst (v := 1) hx hb dX9_possibleBeats_47 (by decide) ?_
          refine lv_iload_n hx hb dX9_possibleBeats_48 rfl (lv_at hl 2 rfl) ?_
          refine lv_ishl hx hb dX9_possibleBeats_49 ?_
          refine lv_ior hx hb dX9_possibleBeats_50 ?_
          refine lv_istore_n (lv' := [(1, .int ((pbL tr si c1 i).1 ||| (1 <<< ((nI i) &&& 31)))), (0, .ref (xa 0)), (2, .int (nI i))]) hx hb dX9_possibleBeats_51 rfl hl (by decide) rfl (fun ls hl => ?_)
          refine lv_iinc (v := ((nI i) + 1)) (lv' := [(2, .int ((nI i) + 1)), (1, .int ((pbL tr si c1 i).1 ||| (1 <<< ((nI i) &&& 31)))), (0, .ref (xa 0))]) hx hb dX9_possibleBeats_52 hl (k := 2) rfl rfl (by decide) rfl (fun ls hl => ?_)
          rw [show nI i + 1 = nI (i + 1) from nI_1 _] at hl
          have hl : lv_has ls 3 [(2, .int (nI (i + 1))), (1, .int ((pbL tr si c1 i).1 ||| (1 <<< ((nI i) &&& 31)))), (0, .ref (xa 0))] := hl
          have es : ((pbL tr si c1 i).1 ||| (1 <<< ((nI i) &&& 31))) = (pbL tr si c1 (i + 1)).1 := by simp only [pbL, ← hu_29, b_43, ↓reduceIte, reduceCtorEq]
          rw [es] at hl
          have hl : lv_has ls 3 [(2, .int (nI (i + 1))), (1, .int ((pbL tr si c1 (i + 1)).1)), (0, .ref (xa 0))] := hl
          have eg_55 : u_29 = (pbL tr si c1 (i + 1)).2 := by rw [hu_29]; rfl
          rw [eg_55] at hP hD
          have hP : va_P D vwCl (wXo xa ++ wTrp (xa 4) (xa 5) (xa 6) (xa 7) (xa 8) (xa 9) (xa 10) cI tr ++ wSgt (xa 22) (xa 23) (xa 24) (xa 25) cI si ++ wCrs (xa 34) (xa 35) (xa 36) (xa 37) (xa 38) (xa 39) cI ((pbL tr si c1 (i + 1)).2)) H := hP
          have hD : va_D A (wXo xa ++ wTrp (xa 4) (xa 5) (xa 6) (xa 7) (xa 8) (xa 9) (xa 10) cI tr ++ wSgt (xa 22) (xa 23) (xa 24) (xa 25) cI si ++ wCrs (xa 34) (xa 35) (xa 36) (xa 37) (xa 38) (xa 39) cI ((pbL tr si c1 (i + 1)).2)) := hD
          refine lv_goto (tgt := 4) hx hb dX9_possibleBeats_55 (by decide) ?_
          exact LB_4 (i + 1) (by omega) (by omega) H locs hP hD hS ls (lv_sub hl [2, 1, 0] rfl)
  exact LB_4 ((sLen tr.2.2.2.2 0).toNatClampNeg + 1) 0 (by omega) (by omega) H locs hP hD hS ls (lv_sub hl [2, 1, 0] rfl)
abbrev rm_X9_gatherPlaces : Room := { frames := 4, cells := 0, slots := 0, locals := 97 }
set_option maxHeartbeats 4000000 in
set_option maxRecDepth 100000 in
theorem c_X9_gatherPlaces (l : Launch) (D : va_G) (cI cJ cZ : ClassId) (xa : Nat → Nat) (sz : Nat) (tr : Trp) (c1 : Crs) (pb : Lfn) (bs : Int32) (htr : TrpOk tr) : Met l yX9_gatherPlaces wsX9_gatherPlaces rm_X9_gatherPlaces (va_Pc [.ref (xa 0), .int bs] (PU D (tyL cI cJ cZ) (wXo xa ++ wTrp (xa 4) (xa 5) (xa 6) (xa 7) (xa 8) (xa 9) (xa 10) cI tr ++ wCrs (xa 34) (xa 35) (xa 36) (xa 37) (xa 38) (xa 39) cI c1 ++ wLon (xa 48) cJ pb) sz)) (va_Qv (fun (uz : Crs × Lfn) => uz.1 = (gpL tr bs c1 pb 10).1 ∧ uz.2 = (gpL tr bs c1 pb 10).2) (fun uz => BU D (wXo xa ++ wTrp (xa 4) (xa 5) (xa 6) (xa 7) (xa 8) (xa 9) (xa 10) cI tr ++ wCrs (xa 34) (xa 35) (xa 36) (xa 37) (xa 38) (xa 39) cI uz.1 ++ wLon (xa 48) cJ uz.2) (va_A (wXo xa ++ wTrp (xa 4) (xa 5) (xa 6) (xa 7) (xa 8) (xa 9) (xa 10) cI tr ++ wCrs (xa 34) (xa 35) (xa 36) (xa 37) (xa 38) (xa 39) cI c1 ++ wLon (xa 48) cJ pb) sz)) (va_A (wXo xa ++ wTrp (xa 4) (xa 5) (xa 6) (xa 7) (xa 8) (xa 9) (xa 10) cI tr ++ wCrs (xa 34) (xa 35) (xa 36) (xa 37) (xa 38) (xa 39) cI c1 ++ wLon (xa 48) cJ pb) sz)) 0 0 (va_A (wXo xa ++ wTrp (xa 4) (xa 5) (xa 6) (xa 7) (xa 8) (xa 9) (xa 10) cI tr ++ wCrs (xa 34) (xa 35) (xa 36) (xa 37) (xa 38) (xa 39) cI c1 ++ wLon (xa 48) cJ pb) sz) := by
  refine en (own := RX9) (Qc := fun A => va_Qv (fun (uz : Crs × Lfn) => uz.1 = (gpL tr bs c1 pb 10).1 ∧ uz.2 = (gpL tr bs c1 pb 10).2) (fun uz => BU D (wXo xa ++ wTrp (xa 4) (xa 5) (xa 6) (xa 7) (xa 8) (xa 9) (xa 10) cI tr ++ wCrs (xa 34) (xa 35) (xa 36) (xa 37) (xa 38) (xa 39) cI uz.1 ++ wLon (xa 48) cJ uz.2) A) A) (by decide) rfl (Nat.le_of_ble_eq_true rfl) rfl ?_
  intro p e s m args below meth c A Q H locs ls hx hb hr hml hown hts hlocks hname hA hN hE hK hQ hP hD hS hl
  have hl : lv_has ls 4 [(0, .ref (xa 0)), (1, .int bs)] := hl
  have fl_60 := hts (.fieldLink RX9 60 "DanceStaffs" "course" "LDanceStaffs$Course;") (by decide +kernel)
  have hin_9 : ∀ w ∈ u_ws RX9 TX9 13, w ∈ wsX9_gatherPlaces := by decide +kernel
  have fl_26 := hts (.fieldLink RX9 26 "DanceStaffs" "troupe" "LDanceStaffs$Troupe;") (by decide +kernel)
  have fl_77 := hts (.fieldLink RX9 77 "DanceStaffs" "placesBehind" "[J") (by decide +kernel)
  refine lv_iconst (v := 0) hx hb dX9_gatherPlaces_0 (by decide) ?_
  refine lv_istore_n (lv' := [(2, .int 0), (0, .ref (xa 0)), (1, .int bs)]) hx hb dX9_gatherPlaces_1 rfl hl (by decide) rfl (fun ls hl => ?_)
  have LB_2 : ∀ (n0 : Nat) (z : Nat) (hn_z : 11 < z + n0) (hi_z : z ≤ 11) (H : Heap) (locs : List Loc) (_ : va_P D vwCl (wXo xa ++ wTrp (xa 4) (xa 5) (xa 6) (xa 7) (xa 8) (xa 9) (xa 10) cI tr ++ wCrs (xa 34) (xa 35) (xa 36) (xa 37) (xa 38) (xa 39) cI c1 ++ wLon (xa 48) cJ (zLL pb z)) H) (_ : va_D A (wXo xa ++ wTrp (xa 4) (xa 5) (xa 6) (xa 7) (xa 8) (xa 9) (xa 10) cI tr ++ wCrs (xa 34) (xa 35) (xa 36) (xa 37) (xa 38) (xa 39) cI c1 ++ wLon (xa 48) cJ (zLL pb z))) (_ : va_S A s.heap H locs) (ls : Array Slot) (_ : lv_has ls 4 [(0, .ref (xa 0)), (1, .int bs), (2, .int (nI z))]), W p l e rm_X9_gatherPlaces s m args below meth c H locs 0 0 Q (F0 m 2 ls []) := by
    intro n0
    induction n0 with
    | zero =>
      intro z hn_z hi_z
      exact absurd hn_z (by omega)
    | succ n0 LB_2 =>
      intro z hn_z hi_z H locs hP hD hS ls hl
      refine lv_iload_n hx hb dX9_gatherPlaces_2 rfl (lv_at hl 2 rfl) ?_
      refine lv_bipush (v := 10) hx hb dX9_gatherPlaces_3 (by decide) ?_
      refine lv_icmp_gt (tgt := 21) hx hb dX9_gatherPlaces_5 (by decide) (fun c_5 => ?_) (fun c_5 => ?_)
      · have i_5 := i_lt c_5
        rw [(by decide : (10 : Int32).toInt = 10)] at i_5
        rw [nIT (by omega)] at i_5
        have e_5 : z = 11 := by omega
        have eg_21 : (zLL pb z) = (zLL pb 11) := by rw [e_5]
        rw [eg_21] at hP hD
        have hP : va_P D vwCl (wXo xa ++ wTrp (xa 4) (xa 5) (xa 6) (xa 7) (xa 8) (xa 9) (xa 10) cI tr ++ wCrs (xa 34) (xa 35) (xa 36) (xa 37) (xa 38) (xa 39) cI c1 ++ wLon (xa 48) cJ (zLL pb 11)) H := hP
        have hD : va_D A (wXo xa ++ wTrp (xa 4) (xa 5) (xa 6) (xa 7) (xa 8) (xa 9) (xa 10) cI tr ++ wCrs (xa 34) (xa 35) (xa 36) (xa 37) (xa 38) (xa 39) cI c1 ++ wLon (xa 48) cJ (zLL pb 11)) := hD
        refine lv_iconst (v := 0) hx hb dX9_gatherPlaces_21 (by decide) ?_
        refine lv_istore_n (lv' := [(2, .int 0), (0, .ref (xa 0)), (1, .int bs)]) hx hb dX9_gatherPlaces_22 rfl hl (by decide) rfl (fun ls hl => ?_)
        have LB_23 : ∀ (n : Nat) (i : Nat) (hn_i : 10 < i + n) (hi_i : i ≤ 10) (H : Heap) (locs : List Loc) (_ : va_P D vwCl (wXo xa ++ wTrp (xa 4) (xa 5) (xa 6) (xa 7) (xa 8) (xa 9) (xa 10) cI tr ++ wCrs (xa 34) (xa 35) (xa 36) (xa 37) (xa 38) (xa 39) cI ((gpL tr bs c1 pb i).1) ++ wLon (xa 48) cJ ((gpL tr bs c1 pb i).2)) H) (_ : va_D A (wXo xa ++ wTrp (xa 4) (xa 5) (xa 6) (xa 7) (xa 8) (xa 9) (xa 10) cI tr ++ wCrs (xa 34) (xa 35) (xa 36) (xa 37) (xa 38) (xa 39) cI ((gpL tr bs c1 pb i).1) ++ wLon (xa 48) cJ ((gpL tr bs c1 pb i).2))) (_ : va_S A s.heap H locs) (ls : Array Slot) (_ : lv_has ls 4 [(0, .ref (xa 0)), (1, .int bs), (2, .int (nI i))]), W p l e rm_X9_gatherPlaces s m args below meth c H locs 0 0 Q (F0 m 23 ls []) := by
          intro n
          induction n with
          | zero =>
            intro i hn_i hi_i
            exact absurd hn_i (by omega)
          | succ n LB_23 =>
            intro i hn_i hi_i H locs hP hD hS ls hl
            refine lv_iload_n hx hb dX9_gatherPlaces_23 rfl (lv_at hl 2 rfl) ?_
            refine lv_bipush (v := 10) hx hb dX9_gatherPlaces_24 (by decide) ?_
            refine lv_icmp_ge (tgt := 87) hx hb dX9_gatherPlaces_26 (by decide) (fun c_26 => ?_) (fun c_26 => ?_)
            · have i_26 := i_le c_26
              rw [(by decide : (10 : Int32).toInt = 10)] at i_26
              rw [nIT (by omega)] at i_26
              have e_26 : i = 10 := by omega
              exact lf_v hx hb hr hlocks hQ (((gpL tr bs c1 pb i).1), (gpL tr bs c1 pb i).2) hP hD hS dX9_gatherPlaces_87 ⟨(by rw [e_26]), (by rw [e_26])⟩
            · have i_26 := i_nle c_26
              rw [(by decide : (10 : Int32).toInt = 10)] at i_26
              rw [nIT (by omega)] at i_26
              refine lv_iload_n hx hb dX9_gatherPlaces_29 rfl (lv_at hl 1 rfl) ?_
              refine lv_iconst (v := 1) hx hb dX9_gatherPlaces_30 (by decide) ?_
              refine lv_iload_n hx hb dX9_gatherPlaces_31 rfl (lv_at hl 2 rfl) ?_
              refine lv_ishl hx hb dX9_gatherPlaces_32 ?_
              refine lv_iand hx hb dX9_gatherPlaces_33 ?_
              refine lv_if_eq (tgt := 81) hx hb dX9_gatherPlaces_34 (by decide) (fun c_34 => ?_) (fun c_34 => ?_)
              · have i_34 := i_eq c_34
                rw [(by decide : (0 : Int32).toInt = 0)] at i_34
                have eo : gpL tr bs c1 pb (i + 1) = (((gpL tr bs c1 pb i).1), (gpL tr bs c1 pb i).2) := by simp only [gpL, if_pos c_34, ↓reduceIte]
                have eg_81 : (gpL tr bs c1 pb i).2 = (gpL tr bs c1 pb (i + 1)).2 := by rw [eo]
                rw [eg_81] at hP hD
                have hP : va_P D vwCl (wXo xa ++ wTrp (xa 4) (xa 5) (xa 6) (xa 7) (xa 8) (xa 9) (xa 10) cI tr ++ wCrs (xa 34) (xa 35) (xa 36) (xa 37) (xa 38) (xa 39) cI ((gpL tr bs c1 pb i).1) ++ wLon (xa 48) cJ ((gpL tr bs c1 pb (i + 1)).2)) H := hP
                have hD : va_D A (wXo xa ++ wTrp (xa 4) (xa 5) (xa 6) (xa 7) (xa 8) (xa 9) (xa 10) cI tr ++ wCrs (xa 34) (xa 35) (xa 36) (xa 37) (xa 38) (xa 39) cI ((gpL tr bs c1 pb i).1) ++ wLon (xa 48) cJ ((gpL tr bs c1 pb (i + 1)).2)) := hD
                have eg_81 : ((gpL tr bs c1 pb i).1) = (gpL tr bs c1 pb (i + 1)).1 := by rw [eo]
                rw [eg_81] at hP hD
                have hP : va_P D vwCl (wXo xa ++ wTrp (xa 4) (xa 5) (xa 6) (xa 7) (xa 8) (xa 9) (xa 10) cI tr ++ wCrs (xa 34) (xa 35) (xa 36) (xa 37) (xa 38) (xa 39) cI ((gpL tr bs c1 pb (i + 1)).1) ++ wLon (xa 48) cJ ((gpL tr bs c1 pb (i + 1)).2)) H := hP
                have hD : va_D A (wXo xa ++ wTrp (xa 4) (xa 5) (xa 6) (xa 7) (xa 8) (xa 9) (xa 10) cI tr ++ wCrs (xa 34) (xa 35) (xa 36) (xa 37) (xa 38) (xa 39) cI ((gpL tr bs c1 pb (i + 1)).1) ++ wLon (xa 48) cJ ((gpL tr bs c1 pb (i + 1)).2)) := hD
                refine lv_iinc (v := ((nI i) + 1)) (lv' := [(2, .int ((nI i) + 1)), (0, .ref (xa 0)), (1, .int bs)]) hx hb dX9_gatherPlaces_81 hl (k := 2) rfl rfl (by decide) rfl (fun ls hl => ?_)
                rw [show nI i + 1 = nI (i + 1) from nI_1 _] at hl
                have hl : lv_has ls 4 [(2, .int (nI (i + 1))), (0, .ref (xa 0)), (1, .int bs)] := hl
                refine lv_goto (tgt := 23) hx hb dX9_gatherPlaces_84 (by decide) ?_
                exact LB_23 (i + 1) (by omega) (by omega) H locs hP hD hS ls (lv_sub hl [1, 2, 0] rfl)
              · have i_34 := i_ne c_34
                rw [(by decide : (0 : Int32).toInt = 0)] at i_34
                refine lv_aload_n hx hb dX9_gatherPlaces_37 rfl (lv_at hl 0 rfl) ?_
                refine va_get (D := D) (ci := 9) (v := .ref (xa 34)) (C := RX9) (T := TX9) (N := 13) hx hb hts hin_9 hown hK hP 0 rfl rfl 8 (by decide) fl_60 (fun _ h9 => h9) rfl dX9_gatherPlaces_38 ?_
                refine lv_aload_n hx hb dX9_gatherPlaces_41 rfl (lv_at hl 0 rfl) ?_
                refine va_get (D := D) (ci := 9) (v := .ref (xa 4)) (C := RX9) (T := TX9) (N := 13) hx hb hts hin_9 hown hK hP 0 rfl rfl 2 (by decide) fl_26 (fun _ h9 => h9) rfl dX9_gatherPlaces_42 ?_
                refine lv_iconst (v := 0) hx hb dX9_gatherPlaces_45 (by decide) ?_
                refine lv_iload_n hx hb dX9_gatherPlaces_46 rfl (lv_at hl 2 rfl) ?_
                refine jn_v (W2 := fun u_47 => wXo xa ++ wTrp (xa 4) (xa 5) (xa 6) (xa 7) (xa 8) (xa 9) (xa 10) cI tr ++ wCrs (xa 34) (xa 35) (xa 36) (xa 37) (xa 38) (xa 39) cI u_47 ++ wLon (xa 48) cJ ((gpL tr bs c1 pb i).2)) (va_runV (As := [.ref (xa 4), .int 0, .int (nI i)]) (rest := []) ⟨hx, hb, hml, hown, hts⟩ (c_X0_follow l D cI cJ cZ (xa 34) (xa 35) (xa 36) (xa 37) (xa 38) (xa 39) (xa 4) (xa 5) (xa 6) (xa 7) (xa 8) (xa 9) (xa 10) H.size ((gpL tr bs c1 pb i).1) tr 0 (nI i) (htr.2.1) (htr.2.2)) (cwV 3 hts gX9_gatherPlaces_X0_follow rfl rfl rfl (by decide +kernel) ⟨Nat.le_of_ble_eq_true rfl, Nat.le_of_ble_eq_true rfl⟩) (pr_V hP hD hK hN hE hS hA [8, 9, 10, 11, 12, 13, 1, 2, 3, 4, 5, 6, 7] (by decide) rfl (ci := 0) (q0 := 8) rfl rfl) rfl rfl hl.1 rfl (lv_room (Nat.le_of_ble_eq_true rfl)) dX9_gatherPlaces_47 ⟨Nat.zero_le _, Nat.zero_le _⟩) hP hD hS hA [8, 9, 10, 11, 12, 13, 1, 2, 3, 4, 5, 6, 7] [0, 14] [0, 8, 9, 10, 11, 12, 13, 14, 2, 3, 4, 5, 6, 7, 1] rfl rfl (by decide) (by decide) (by decide) (fun _ => rfl) (fun u_47 H locs hw_47 hP hD hS => ?_)
                have hP : va_P D vwCl (wXo xa ++ wTrp (xa 4) (xa 5) (xa 6) (xa 7) (xa 8) (xa 9) (xa 10) cI tr ++ wCrs (xa 34) (xa 35) (xa 36) (xa 37) (xa 38) (xa 39) cI u_47 ++ wLon (xa 48) cJ ((gpL tr bs c1 pb i).2)) H := hP
                have hD : va_D A (wXo xa ++ wTrp (xa 4) (xa 5) (xa 6) (xa 7) (xa 8) (xa 9) (xa 10) cI tr ++ wCrs (xa 34) (xa 35) (xa 36) (xa 37) (xa 38) (xa 39) cI u_47 ++ wLon (xa 48) cJ ((gpL tr bs c1 pb i).2)) := hD
                have hu_47 := hw_47
                have eg_50 : u_47 = (fol tr 0 (nI i) (gpL tr bs c1 pb i).1) := by rw [hu_47]
                rw [eg_50] at hP hD
                have hP : va_P D vwCl (wXo xa ++ wTrp (xa 4) (xa 5) (xa 6) (xa 7) (xa 8) (xa 9) (xa 10) cI tr ++ wCrs (xa 34) (xa 35) (xa 36) (xa 37) (xa 38) (xa 39) cI (fol tr 0 (nI i) (gpL tr bs c1 pb i).1) ++ wLon (xa 48) cJ ((gpL tr bs c1 pb i).2)) H := hP
                have hD : va_D A (wXo xa ++ wTrp (xa 4) (xa 5) (xa 6) (xa 7) (xa 8) (xa 9) (xa 10) cI tr ++ wCrs (xa 34) (xa 35) (xa 36) (xa 37) (xa 38) (xa 39) cI (fol tr 0 (nI i) (gpL tr bs c1 pb i).1) ++ wLon (xa 48) cJ ((gpL tr bs c1 pb i).2)) := hD
                refine lv_iconst (v := 0) hx hb dX9_gatherPlaces_50 (by decide) ?_
                refine lv_istore_n (lv' := [(3, .int 0), (0, .ref (xa 0)), (1, .int bs), (2, .int (nI i))]) hx hb dX9_gatherPlaces_51 rfl hl (by decide) rfl (fun ls hl => ?_)
                have LB_52 : ∀ (n2 : Nat) (j : Nat) (hn_j : 11 < j + n2) (hi_j : j ≤ 11) (H : Heap) (locs : List Loc) (_ : va_P D vwCl (wXo xa ++ wTrp (xa 4) (xa 5) (xa 6) (xa 7) (xa 8) (xa 9) (xa 10) cI tr ++ wCrs (xa 34) (xa 35) (xa 36) (xa 37) (xa 38) (xa 39) cI (fol tr 0 (nI i) (gpL tr bs c1 pb i).1) ++ wLon (xa 48) cJ (gpI (fol tr 0 (nI i) (gpL tr bs c1 pb i).1) (gpL tr bs c1 pb i).2 j)) H) (_ : va_D A (wXo xa ++ wTrp (xa 4) (xa 5) (xa 6) (xa 7) (xa 8) (xa 9) (xa 10) cI tr ++ wCrs (xa 34) (xa 35) (xa 36) (xa 37) (xa 38) (xa 39) cI (fol tr 0 (nI i) (gpL tr bs c1 pb i).1) ++ wLon (xa 48) cJ (gpI (fol tr 0 (nI i) (gpL tr bs c1 pb i).1) (gpL tr bs c1 pb i).2 j))) (_ : va_S A s.heap H locs) (ls : Array Slot) (_ : lv_has ls 4 [(0, .ref (xa 0)), (1, .int bs), (2, .int (nI i)), (3, .int (nI j))]), W p l e rm_X9_gatherPlaces s m args below meth c H locs 0 0 Q (F0 m 52 ls []) := by
                  intro n2
                  induction n2 with
                  | zero =>
                    intro j hn_j hi_j
                    exact absurd hn_j (by omega)
                  | succ n2 LB_52 =>
                    intro j hn_j hi_j H locs hP hD hS ls hl
                    refine lv_iload_n hx hb dX9_gatherPlaces_52 rfl (lv_at hl 3 rfl) ?_
                    refine lv_bipush (v := 10) hx hb dX9_gatherPlaces_53 (by decide) ?_
                    refine lv_icmp_gt (tgt := 81) hx hb dX9_gatherPlaces_55 (by decide) (fun c_55 => ?_) (fun c_55 => ?_)
                    · have i_55 := i_lt c_55
                      rw [(by decide : (10 : Int32).toInt = 10)] at i_55
                      rw [nIT (by omega)] at i_55
                      have e_55 : j = 11 := by omega
                      have eo : gpL tr bs c1 pb (i + 1) = ((fol tr 0 (nI i) (gpL tr bs c1 pb i).1), (gpI (fol tr 0 (nI i) (gpL tr bs c1 pb i).1) (gpL tr bs c1 pb i).2 j)) := by simp only [gpL, if_neg c_34, ↓reduceIte]; rw [e_55]
                      have eg_81 : (gpI (fol tr 0 (nI i) (gpL tr bs c1 pb i).1) (gpL tr bs c1 pb i).2 j) = (gpL tr bs c1 pb (i + 1)).2 := by rw [eo]
                      rw [eg_81] at hP hD
                      have hP : va_P D vwCl (wXo xa ++ wTrp (xa 4) (xa 5) (xa 6) (xa 7) (xa 8) (xa 9) (xa 10) cI tr ++ wCrs (xa 34) (xa 35) (xa 36) (xa 37) (xa 38) (xa 39) cI (fol tr 0 (nI i) (gpL tr bs c1 pb i).1) ++ wLon (xa 48) cJ ((gpL tr bs c1 pb (i + 1)).2)) H := hP
                      have hD : va_D A (wXo xa ++ wTrp (xa 4) (xa 5) (xa 6) (xa 7) (xa 8) (xa 9) (xa 10) cI tr ++ wCrs (xa 34) (xa 35) (xa 36) (xa 37) (xa 38) (xa 39) cI (fol tr 0 (nI i) (gpL tr bs c1 pb i).1) ++ wLon (xa 48) cJ ((gpL tr bs c1 pb (i + 1)).2)) := hD
                      have eg_81 : (fol tr 0 (nI i) (gpL tr bs c1 pb i).1) = (gpL tr bs c1 pb (i + 1)).1 := by rw [eo]
                      rw [eg_81] at hP hD
                      have hP : va_P D vwCl (wXo xa ++ wTrp (xa 4) (xa 5) (xa 6) (xa 7) (xa 8) (xa 9) (xa 10) cI tr ++ wCrs (xa 34) (xa 35) (xa 36) (xa 37) (xa 38) (xa 39) cI ((gpL tr bs c1 pb (i + 1)).1) ++ wLon (xa 48) cJ ((gpL tr bs c1 pb (i + 1)).2)) H := hP
                      have hD : va_D A (wXo xa ++ wTrp (xa 4) (xa 5) (xa 6) (xa 7) (xa 8) (xa 9) (xa 10) cI tr ++ wCrs (xa 34) (xa 35) (xa 36) (xa 37) (xa 38) (xa 39) cI ((gpL tr bs c1 pb (i + 1)).1) ++ wLon (xa 48) cJ ((gpL tr bs c1 pb (i + 1)).2)) := hD
                      refine lv_iinc (v := ((nI i) + 1)) (lv' := [(2, .int ((nI i) + 1)), (0, .ref (xa 0)), (1, .int bs), (3, .int (nI j))]) hx hb dX9_gatherPlaces_81 hl (k := 2) rfl rfl (by decide) rfl (fun ls hl => ?_)
                      rw [show nI i + 1 = nI (i + 1) from nI_1 _] at hl
                      have hl : lv_has ls 4 [(2, .int (nI (i + 1))), (0, .ref (xa 0)), (1, .int bs), (3, .int (nI j))] := hl
                      refine lv_goto (tgt := 23) hx hb dX9_gatherPlaces_84 (by decide) ?_
                      exact LB_23 (i + 1) (by omega) (by omega) H locs hP hD hS ls (lv_sub hl [1, 2, 0] rfl)
                    · have i_55 := i_nlt c_55
                      rw [(by decide : (10 : Int32).toInt = 10)] at i_55
                      rw [nIT (by omega)] at i_55
                      refine lv_aload_n hx hb dX9_gatherPlaces_58 rfl (lv_at hl 0 rfl) ?_
                      refine va_get (D := D) (ci := 9) (v := .ref (xa 48)) (C := RX9) (T := TX9) (N := 13) hx hb hts hin_9 hown hK hP 0 rfl rfl 12 (by decide) fl_77 (fun _ h9 => h9) rfl dX9_gatherPlaces_59 ?_
                      refine lv_iload_n hx hb dX9_gatherPlaces_62 rfl (lv_at hl 3 rfl) ?_
                      refine lv_dup2_11 hx hb dX9_gatherPlaces_63 rfl rfl ?_
                      refine va_lald (D := D) (f := (gpI (fol tr 0 (nI i) (gpL tr bs c1 pb i).1) (gpL tr bs c1 pb i).2 j)) hx hb hK hP 14 1 rfl rfl (vp_in_nI (by omega) (by decide)) dX9_gatherPlaces_64 ?_
                      refine lv_aload_n hx hb dX9_gatherPlaces_65 rfl (lv_at hl 0 rfl) ?_
                      refine va_get (D := D) (ci := 9) (v := .ref (xa 34)) (C := RX9) (T := TX9) (N := 13) hx hb hts hin_9 hown hK hP 0 rfl rfl 8 (by decide) fl_60 (fun _ h9 => h9) rfl dX9_gatherPlaces_66 ?_
                      refine lv_iload_n hx hb dX9_gatherPlaces_69 rfl (lv_at hl 3 rfl) ?_
                      refine jn_l (W2 := fun _ => wXo xa ++ wTrp (xa 4) (xa 5) (xa 6) (xa 7) (xa 8) (xa 9) (xa 10) cI tr ++ wCrs (xa 34) (xa 35) (xa 36) (xa 37) (xa 38) (xa 39) cI (fol tr 0 (nI i) (gpL tr bs c1 pb i).1) ++ wLon (xa 48) cJ (gpI (fol tr 0 (nI i) (gpL tr bs c1 pb i).1) (gpL tr bs c1 pb i).2 j)) (va_runV (As := [.int (nI j)]) (rest := [.long ((gpI (fol tr 0 (nI i) (gpL tr bs c1 pb i).1) (gpL tr bs c1 pb i).2 j) (nI j).toNatClampNeg), .int (nI j), .ref (xa 48)]) ⟨hx, hb, hml, hown, hts⟩ (c_X0_placeBit l D cI cJ cZ (xa 34) (xa 35) (xa 36) (xa 37) (xa 38) (xa 39) H.size (fol tr 0 (nI i) (gpL tr bs c1 pb i).1) (nI j)) (cwV 1 hts gX9_gatherPlaces_X0_placeBit rfl rfl rfl (by decide +kernel) ⟨Nat.le_of_ble_eq_true rfl, Nat.le_of_ble_eq_true rfl⟩) (pr_V hP hD hK hN hE hS hA [8, 9, 10, 11, 12, 13] (by decide) rfl (ci := 0) (q0 := 8) rfl rfl) rfl rfl hl.1 rfl (lv_room (Nat.le_of_ble_eq_true rfl)) dX9_gatherPlaces_70 ⟨Nat.zero_le _, Nat.zero_le _⟩) hP hD hS hA [8, 9, 10, 11, 12, 13] [0, 1, 2, 3, 4, 5, 6, 7, 14] [0, 1, 2, 3, 4, 5, 6, 7, 9, 10, 11, 12, 13, 14, 8] rfl rfl (by decide) (by decide) (by decide) (fun _ => rfl) (fun r_70 u_70 H locs hw_70 hP hD hS => ?_)
                      have hP : va_P D vwCl (wXo xa ++ wTrp (xa 4) (xa 5) (xa 6) (xa 7) (xa 8) (xa 9) (xa 10) cI tr ++ wCrs (xa 34) (xa 35) (xa 36) (xa 37) (xa 38) (xa 39) cI (fol tr 0 (nI i) (gpL tr bs c1 pb i).1) ++ wLon (xa 48) cJ (gpI (fol tr 0 (nI i) (gpL tr bs c1 pb i).1) (gpL tr bs c1 pb i).2 j)) H := hP
                      have hD : va_D A (wXo xa ++ wTrp (xa 4) (xa 5) (xa 6) (xa 7) (xa 8) (xa 9) (xa 10) cI tr ++ wCrs (xa 34) (xa 35) (xa 36) (xa 37) (xa 38) (xa 39) cI (fol tr 0 (nI i) (gpL tr bs c1 pb i).1) ++ wLon (xa 48) cJ (gpI (fol tr 0 (nI i) (gpL tr bs c1 pb i).1) (gpL tr bs c1 pb i).2 j)) := hD
                      have hr_70 := hw_70
                      refine lv_lor hx hb dX9_gatherPlaces_73 ?_
                      refine va_last (D := D) (f := (gpI (fol tr 0 (nI i) (gpL tr bs c1 pb i).1) (gpL tr bs c1 pb i).2 j)) hx hb hK hP hD hS 14 1 rfl rfl (vp_in_nI (by omega) (by decide)) dX9_gatherPlaces_74 (fun H locs hP hD hS => ?_)
                      have hP : va_P D vwCl (wXo xa ++ wTrp (xa 4) (xa 5) (xa 6) (xa 7) (xa 8) (xa 9) (xa 10) cI tr ++ wCrs (xa 34) (xa 35) (xa 36) (xa 37) (xa 38) (xa 39) cI (fol tr 0 (nI i) (gpL tr bs c1 pb i).1) ++ wLon (xa 48) cJ (vp_updL (gpI (fol tr 0 (nI i) (gpL tr bs c1 pb i).1) (gpL tr bs c1 pb i).2 j) ((nI j).toNatClampNeg) (((gpI (fol tr 0 (nI i) (gpL tr bs c1 pb i).1) (gpL tr bs c1 pb i).2 j) (nI j).toNatClampNeg) ||| r_70))) H := hP
                      have hD : va_D A (wXo xa ++ wTrp (xa 4) (xa 5) (xa 6) (xa 7) (xa 8) (xa 9) (xa 10) cI tr ++ wCrs (xa 34) (xa 35) (xa 36) (xa 37) (xa 38) (xa 39) cI (fol tr 0 (nI i) (gpL tr bs c1 pb i).1) ++ wLon (xa 48) cJ (vp_updL (gpI (fol tr 0 (nI i) (gpL tr bs c1 pb i).1) (gpL tr bs c1 pb i).2 j) ((nI j).toNatClampNeg) (((gpI (fol tr 0 (nI i) (gpL tr bs c1 pb i).1) (gpL tr bs c1 pb i).2 j) (nI j).toNatClampNeg) ||| r_70))) := hD
                      refine lv_iinc (v := ((nI j) + 1)) (lv' := [(3, .int ((nI j) + 1)), (0, .ref (xa 0)), (1, .int bs), (2, .int (nI i))]) hx hb dX9_gatherPlaces_75 hl (k := 3) rfl rfl (by decide) rfl (fun ls hl => ?_)
                      rw [show nI j + 1 = nI (j + 1) from nI_1 _] at hl
                      have hl : lv_has ls 4 [(3, .int (nI (j + 1))), (0, .ref (xa 0)), (1, .int bs), (2, .int (nI i))] := hl
                      have eg_78 : (vp_updL (gpI (fol tr 0 (nI i) (gpL tr bs c1 pb i).1) (gpL tr bs c1 pb i).2 j) ((nI j).toNatClampNeg) (((gpI (fol tr 0 (nI i) (gpL tr bs c1 pb i).1) (gpL tr bs c1 pb i).2 j) (nI j).toNatClampNeg) ||| r_70)) = (gpI (fol tr 0 (nI i) (gpL tr bs c1 pb i).1) (gpL tr bs c1 pb i).2 (j + 1)) := by rw [hr_70]; rfl
                      rw [eg_78] at hP hD
                      have hP : va_P D vwCl (wXo xa ++ wTrp (xa 4) (xa 5) (xa 6) (xa 7) (xa 8) (xa 9) (xa 10) cI tr ++ wCrs (xa 34) (xa 35) (xa 36) (xa 37) (xa 38) (xa 39) cI (fol tr 0 (nI i) (gpL tr bs c1 pb i).1) ++ wLon (xa 48) cJ (gpI (fol tr 0 (nI i) (gpL tr bs c1 pb i).1) (gpL tr bs c1 pb i).2 (j + 1))) H := hP
                      have hD : va_D A (wXo xa ++ wTrp (xa 4) (xa 5) (xa 6) (xa 7) (xa 8) (xa 9) (xa 10) cI tr ++ wCrs (xa 34) (xa 35) (xa 36) (xa 37) (xa 38) (xa 39) cI (fol tr 0 (nI i) (gpL tr bs c1 pb i).1) ++ wLon (xa 48) cJ (gpI (fol tr 0 (nI i) (gpL tr bs c1 pb i).1) (gpL tr bs c1 pb i).2 (j + 1))) := hD
                      refine lv_goto (tgt := 52) hx hb dX9_gatherPlaces_78 (by decide) ?_
                      exact LB_52 (j + 1) (by omega) (by omega) H locs hP hD hS ls (lv_sub hl [1, 2, 3, 0] rfl)
                exact LB_52 (11 + 1) 0 (by omega) (by omega) H locs hP hD hS ls (lv_sub hl [1, 2, 3, 0] rfl)
        exact LB_23 (10 + 1) 0 (by omega) (by omega) H locs hP hD hS ls (lv_sub hl [1, 2, 0] rfl)
      · have i_5 := i_nlt c_5
        rw [(by decide : (10 : Int32).toInt = 10)] at i_5
        rw [nIT (by omega)] at i_5
        refine lv_aload_n hx hb dX9_gatherPlaces_8 rfl (lv_at hl 0 rfl) ?_
        refine va_get (D := D) (ci := 9) (v := .ref (xa 48)) (C := RX9) (T := TX9) (N := 13) hx hb hts hin_9 hown hK hP 0 rfl rfl 12 (by decide) fl_77 (fun _ h9 => h9) rfl dX9_gatherPlaces_9 ?_
        refine lv_iload_n hx hb dX9_gatherPlaces_12 rfl (lv_at hl 2 rfl) ?_
        refine lv_lconst (v := 0) hx hb dX9_gatherPlaces_13 (by decide) ?_
        refine va_last (D := D) (f := (zLL pb z)) hx hb hK hP hD hS 14 1 rfl rfl (vp_in_nI (by omega) (by decide)) dX9_gatherPlaces_14 (fun H locs hP hD hS => ?_)
        have hP : va_P D vwCl (wXo xa ++ wTrp (xa 4) (xa 5) (xa 6) (xa 7) (xa 8) (xa 9) (xa 10) cI tr ++ wCrs (xa 34) (xa 35) (xa 36) (xa 37) (xa 38) (xa 39) cI c1 ++ wLon (xa 48) cJ (vp_updL (zLL pb z) ((nI z).toNatClampNeg) 0)) H := hP
        have hD : va_D A (wXo xa ++ wTrp (xa 4) (xa 5) (xa 6) (xa 7) (xa 8) (xa 9) (xa 10) cI tr ++ wCrs (xa 34) (xa 35) (xa 36) (xa 37) (xa 38) (xa 39) cI c1 ++ wLon (xa 48) cJ (vp_updL (zLL pb z) ((nI z).toNatClampNeg) 0)) := hD
        refine lv_iinc (v := ((nI z) + 1)) (lv' := [(2, .int ((nI z) + 1)), (0, .ref (xa 0)), (1, .int bs)]) hx hb dX9_gatherPlaces_15 hl (k := 2) rfl rfl (by decide) rfl (fun ls hl => ?_)
        rw [show nI z + 1 = nI (z + 1) from nI_1 _] at hl
        have hl : lv_has ls 4 [(2, .int (nI (z + 1))), (0, .ref (xa 0)), (1, .int bs)] := hl
        have eg_18 : (vp_updL (zLL pb z) ((nI z).toNatClampNeg) 0) = (zLL pb (z + 1)) := by rfl
        rw [eg_18] at hP hD
        have hP : va_P D vwCl (wXo xa ++ wTrp (xa 4) (xa 5) (xa 6) (xa 7) (xa 8) (xa 9) (xa 10) cI tr ++ wCrs (xa 34) (xa 35) (xa 36) (xa 37) (xa 38) (xa 39) cI c1 ++ wLon (xa 48) cJ (zLL pb (z + 1))) H := hP
        have hD : va_D A (wXo xa ++ wTrp (xa 4) (xa 5) (xa 6) (xa 7) (xa 8) (xa 9) (xa 10) cI tr ++ wCrs (xa 34) (xa 35) (xa 36) (xa 37) (xa 38) (xa 39) cI c1 ++ wLon (xa 48) cJ (zLL pb (z + 1))) := hD
        refine lv_goto (tgt := 2) hx hb dX9_gatherPlaces_18 (by decide) ?_
        exact LB_2 (z + 1) (by omega) (by omega) H locs hP hD hS ls (lv_sub hl [1, 2, 0] rfl)
  exact LB_2 (11 + 1) 0 (by omega) (by omega) H locs hP hD hS ls (lv_sub hl [1, 2, 0] rfl)
