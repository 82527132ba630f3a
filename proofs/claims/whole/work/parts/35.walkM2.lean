abbrev rm_X10_mirrored : Room := { frames := 0, cells := 0, slots := 0, locals := 0 }
set_option maxHeartbeats 4000000 in
set_option maxRecDepth 100000 in
theorem c_X10_mirrored (l : Launch) (D : va_G) (cI cJ cZ : ClassId) (sz : Nat) (k : Int32) : Met l yX10_mirrored wsX10_mirrored rm_X10_mirrored (va_Pc [.int k] (PU D (tyL cI cJ cZ) (([] : va_W)) sz)) (va_Qi (fun (rz : Int32) (_ : Unit) => rz = mirY k) (fun uz => BU D (([] : va_W)) (va_A (([] : va_W)) sz)) (va_A (([] : va_W)) sz)) 0 0 (va_A (([] : va_W)) sz) := by
  refine en (own := RX10) (Qc := fun A => va_Qi (fun (rz : Int32) (_ : Unit) => rz = mirY k) (fun uz => BU D (([] : va_W)) A) A) (by decide) rfl (Nat.le_of_ble_eq_true rfl) rfl ?_
  intro p e s m args below meth c A Q H locs ls hx hb hr hml hown hts hlocks hname hA hN hE hK hQ hP hD hS hl
  have hl : lv_has ls 3 [(0, .int k)] := hl
  refine lv_iload_n hx hb dX10_mirrored_0 rfl (lv_at hl 0 rfl) ?_
  refine lv_bipush (v := 26) hx hb dX10_mirrored_1 (by decide) ?_
  refine lv_icmp_lt (tgt := 16) hx hb dX10_mirrored_3 (by decide) (fun c_3 => ?_) (fun c_3 => ?_)
  · have i_3 := i_lt c_3
    rw [(by decide : (26 : Int32).toInt = 26)] at i_3
    refine lv_iload_n hx hb dX10_mirrored_16 rfl (lv_at hl 0 rfl) ?_
    refine lv_iconst (v := 2) hx hb dX10_mirrored_17 (by decide) ?_
    refine lv_icmp_ge (tgt := 23) hx hb dX10_mirrored_18 (by decide) (fun c_18 => ?_) (fun c_18 => ?_)
    · have i_18 := i_le c_18
      rw [(by decide : (2 : Int32).toInt = 2)] at i_18
      refine lv_iload_n hx hb dX10_mirrored_23 rfl (lv_at hl 0 rfl) ?_
      refine lv_iconst (v := 2) hx hb dX10_mirrored_24 (by decide) ?_
      refine lv_isub hx hb dX10_mirrored_25 ?_
      refine lv_bipush (v := 8) hx hb dX10_mirrored_26 (by decide) ?_
      refine lv_idiv hx hb dX10_mirrored_28 (by decide) ?_
      refine lv_istore_n (lv' := [(1, .int ((k - 2) / 8)), (0, .int k)]) hx hb dX10_mirrored_29 rfl hl (by decide) rfl (fun ls hl => ?_)
      refine lv_bipush (v := 8) hx hb dX10_mirrored_30 (by decide) ?_
      refine lv_iload_n hx hb dX10_mirrored_32 rfl (lv_at hl 1 rfl) ?_
      refine lv_iconst (v := 2) hx hb dX10_mirrored_33 (by decide) ?_
      refine lv_isub hx hb dX10_mirrored_34 ?_
      refine lv_bipush (v := 8) hx hb dX10_mirrored_35 (by decide) ?_
      refine lv_irem hx hb dX10_mirrored_37 (by decide) ?_
      refine lv_isub hx hb dX10_mirrored_38 ?_
      refine lv_bipush (v := 8) hx hb dX10_mirrored_39 (by decide) ?_
      refine lv_irem hx hb dX10_mirrored_41 (by decide) ?_
      refine lv_istore_n (lv' := [(2, .int ((8 - ((k - 2) - (k - 2) / 8 * 8)) - (8 - ((k - 2) - (k - 2) / 8 * 8)) / 8 * 8)), (1, .int ((k - 2) / 8)), (0, .int k)]) hx hb dX10_mirrored_42 rfl hl (by decide) rfl (fun ls hl => ?_)
      refine lv_iload_n hx hb dX10_mirrored_43 rfl (lv_at hl 1 rfl) ?_
      refine lv_if_ne (tgt := 52) hx hb dX10_mirrored_44 (by decide) (fun c_44 => ?_) (fun c_44 => ?_)
      · have i_44 := i_ne c_44
        rw [(by decide : (0 : Int32).toInt = 0)] at i_44
        refine lv_iload_n hx hb dX10_mirrored_52 rfl (lv_at hl 1 rfl) ?_
        refine lv_iconst (v := 1) hx hb dX10_mirrored_53 (by decide) ?_
        refine lv_icmp_ne (tgt := 61) hx hb dX10_mirrored_54 (by decide) (fun c_54 => ?_) (fun c_54 => ?_)
        · have i_54 := i_ne c_54
          rw [(by decide : (1 : Int32).toInt = 1)] at i_54
          refine lv_bipush (v := 18) hx hb dX10_mirrored_61 (by decide) ?_
          refine lv_iload_n hx hb dX10_mirrored_63 rfl (lv_at hl 0 rfl) ?_
          refine lv_iadd hx hb dX10_mirrored_64 ?_
          exact lf_i hx hb hr hlocks hQ () hP hD hS dX10_mirrored_65 (by first | with_reducible rfl | (simp only [mirY, if_pos c_3, if_pos c_18, if_neg c_44, if_neg c_54, ↓reduceIte, bI_t, bI_f, reduceCtorEq]; done) | (subst_vars; simp only [mirY, if_pos c_3, if_pos c_18, if_neg c_44, if_neg c_54, ↓reduceIte, bI_t, bI_f, reduceCtorEq]; done) | (simp [mirY, c_3, c_18, c_44, c_54, bI_t, bI_f]; done))
        · have i_54 := i_eq c_54
          rw [(by decide : (1 : Int32).toInt = 1)] at i_54
          refine lv_iconst (v := 2) hx hb dX10_mirrored_57 (by decide) ?_
          refine lv_goto (tgt := 63) hx hb dX10_mirrored_58 (by decide) ?_
          refine lv_iload_n hx hb dX10_mirrored_63 rfl (lv_at hl 0 rfl) ?_
          refine lv_iadd hx hb dX10_mirrored_64 ?_
          exact lf_i hx hb hr hlocks hQ () hP hD hS dX10_mirrored_65 (by first | with_reducible rfl | (simp only [mirY, if_pos c_3, if_pos c_18, if_neg c_44, if_pos c_54, ↓reduceIte, bI_t, bI_f, reduceCtorEq]; done) | (subst_vars; simp only [mirY, if_pos c_3, if_pos c_18, if_neg c_44, if_pos c_54, ↓reduceIte, bI_t, bI_f, reduceCtorEq]; done) | (simp [mirY, c_3, c_18, c_44, c_54, bI_t, bI_f]; done))
      · have i_44 := i_eq c_44
        rw [(by decide : (0 : Int32).toInt = 0)] at i_44
        refine lv_bipush (v := 10) hx hb dX10_mirrored_47 (by decide) ?_
        refine lv_goto (tgt := 63) hx hb dX10_mirrored_49 (by decide) ?_
        refine lv_iload_n hx hb dX10_mirrored_63 rfl (lv_at hl 0 rfl) ?_
        refine lv_iadd hx hb dX10_mirrored_64 ?_
        exact lf_i hx hb hr hlocks hQ () hP hD hS dX10_mirrored_65 (by first | with_reducible rfl | (simp only [mirY, if_pos c_3, if_pos c_18, if_pos c_44, ↓reduceIte, bI_t, bI_f, reduceCtorEq]; done) | (subst_vars; simp only [mirY, if_pos c_3, if_pos c_18, if_pos c_44, ↓reduceIte, bI_t, bI_f, reduceCtorEq]; done) | (simp [mirY, c_3, c_18, c_44, bI_t, bI_f]; done))
    · have i_18 := i_nle c_18
      rw [(by decide : (2 : Int32).toInt = 2)] at i_18
      refine lv_iload_n hx hb dX10_mirrored_21 rfl (lv_at hl 0 rfl) ?_
      exact lf_i hx hb hr hlocks hQ () hP hD hS dX10_mirrored_22 (by first | with_reducible rfl | (simp only [mirY, if_pos c_3, if_neg c_18, ↓reduceIte, bI_t, bI_f, reduceCtorEq]; done) | (subst_vars; simp only [mirY, if_pos c_3, if_neg c_18, ↓reduceIte, bI_t, bI_f, reduceCtorEq]; done) | (simp [mirY, c_3, c_18, bI_t, bI_f]; done))
  · have i_3 := i_nlt c_3
    rw [(by decide : (26 : Int32).toInt = 26)] at i_3
    refine lv_bipush (v := 33) hx hb dX10_mirrored_6 (by decide) ?_
    refine lv_iload_n hx hb dX10_mirrored_8 rfl (lv_at hl 0 rfl) ?_
    refine lv_bipush (v := 26) hx hb dX10_mirrored_9 (by decide) ?_
    refine lv_isub hx hb dX10_mirrored_11 ?_
    refine lv_iconst (v := 1) hx hb dX10_mirrored_12 (by decide) ?_
    refine lv_iadd hx hb dX10_mirrored_13 ?_
    refine lv_isub hx hb dX10_mirrored_14 ?_
    exact lf_i hx hb hr hlocks hQ () hP hD hS dX10_mirrored_15 (by first | with_reducible rfl | (simp only [mirY, if_neg c_3, ↓reduceIte, bI_t, bI_f, reduceCtorEq]; done) | (subst_vars; simp only [mirY, if_neg c_3, ↓reduceIte, bI_t, bI_f, reduceCtorEq]; done) | (simp [mirY, c_3, bI_t, bI_f]; done))
abbrev rm_X10_standing : Room := { frames := 0, cells := 0, slots := 0, locals := 0 }
set_option maxHeartbeats 4000000 in
set_option maxRecDepth 100000 in
theorem c_X10_standing (l : Launch) (D : va_G) (cI cJ cZ : ClassId) (sz : Nat) (x : Int32) (y : Int32) (w : Int32) (z : Int32) : Met l yX10_standing wsX10_standing rm_X10_standing (va_Pc [.int x, .int y, .int w, .int z] (PU D (tyL cI cJ cZ) (([] : va_W)) sz)) (va_Qi (fun (rz : Int32) (_ : Unit) => rz = ((((x * 7) + y) * 8 + w) * 3 + z)) (fun uz => BU D (([] : va_W)) (va_A (([] : va_W)) sz)) (va_A (([] : va_W)) sz)) 0 0 (va_A (([] : va_W)) sz) := by
  refine en (own := RX10) (Qc := fun A => va_Qi (fun (rz : Int32) (_ : Unit) => rz = ((((x * 7) + y) * 8 + w) * 3 + z)) (fun uz => BU D (([] : va_W)) A) A) (by decide) rfl (Nat.le_of_ble_eq_true rfl) rfl ?_
  intro p e s m args below meth c A Q H locs ls hx hb hr hml hown hts hlocks hname hA hN hE hK hQ hP hD hS hl
  have hl : lv_has ls 4 [(0, .int x), (1, .int y), (2, .int w), (3, .int z)] := hl
  refine lv_iload_n hx hb dX10_standing_0 rfl (lv_at hl 0 rfl) ?_
  refine lv_bipush (v := 7) hx hb dX10_standing_1 (by decide) ?_
  refine lv_imul hx hb dX10_standing_3 ?_
  refine lv_iload_n hx hb dX10_standing_4 rfl (lv_at hl 1 rfl) ?_
  refine lv_iadd hx hb dX10_standing_5 ?_
  refine lv_bipush (v := 8) hx hb dX10_standing_6 (by decide) ?_
  refine lv_imul hx hb dX10_standing_8 ?_
  refine lv_iload_n hx hb dX10_standing_9 rfl (lv_at hl 2 rfl) ?_
  refine lv_iadd hx hb dX10_standing_10 ?_
  refine lv_iconst (v := 3) hx hb dX10_standing_11 (by decide) ?_
  refine lv_imul hx hb dX10_standing_12 ?_
  refine lv_iload_n hx hb dX10_standing_13 rfl (lv_at hl 3 rfl) ?_
  refine lv_iadd hx hb dX10_standing_14 ?_
  exact lf_i hx hb hr hlocks hQ () hP hD hS dX10_standing_15 (by first | with_reducible rfl | (simp only [↓reduceIte, bI_t, bI_f, reduceCtorEq]; done) | (subst_vars; simp only [↓reduceIte, bI_t, bI_f, reduceCtorEq]; done) | (simp [bI_t, bI_f]; done))
abbrev rm_X10_xOf : Room := { frames := 0, cells := 0, slots := 0, locals := 0 }
set_option maxHeartbeats 4000000 in
set_option maxRecDepth 100000 in
theorem c_X10_xOf (l : Launch) (D : va_G) (cI cJ cZ : ClassId) (sz : Nat) (k : Int32) : Met l yX10_xOf wsX10_xOf rm_X10_xOf (va_Pc [.int k] (PU D (tyL cI cJ cZ) (([] : va_W)) sz)) (va_Qi (fun (rz : Int32) (_ : Unit) => rz = (k / 24 / 7)) (fun uz => BU D (([] : va_W)) (va_A (([] : va_W)) sz)) (va_A (([] : va_W)) sz)) 0 0 (va_A (([] : va_W)) sz) := by
  refine en (own := RX10) (Qc := fun A => va_Qi (fun (rz : Int32) (_ : Unit) => rz = (k / 24 / 7)) (fun uz => BU D (([] : va_W)) A) A) (by decide) rfl (Nat.le_of_ble_eq_true rfl) rfl ?_
  intro p e s m args below meth c A Q H locs ls hx hb hr hml hown hts hlocks hname hA hN hE hK hQ hP hD hS hl
  have hl : lv_has ls 1 [(0, .int k)] := hl
  refine lv_iload_n hx hb dX10_xOf_0 rfl (lv_at hl 0 rfl) ?_
  refine lv_bipush (v := 24) hx hb dX10_xOf_1 (by decide) ?_
  refine lv_idiv hx hb dX10_xOf_3 (by decide) ?_
  refine lv_bipush (v := 7) hx hb dX10_xOf_4 (by decide) ?_
  refine lv_idiv hx hb dX10_xOf_6 (by decide) ?_
  exact lf_i hx hb hr hlocks hQ () hP hD hS dX10_xOf_7 (by first | with_reducible rfl | (simp only [↓reduceIte, bI_t, bI_f, reduceCtorEq]; done) | (subst_vars; simp only [↓reduceIte, bI_t, bI_f, reduceCtorEq]; done) | (simp [bI_t, bI_f]; done))
abbrev rm_X10_yOf : Room := { frames := 0, cells := 0, slots := 0, locals := 0 }
set_option maxHeartbeats 4000000 in
set_option maxRecDepth 100000 in
theorem c_X10_yOf (l : Launch) (D : va_G) (cI cJ cZ : ClassId) (sz : Nat) (k : Int32) : Met l yX10_yOf wsX10_yOf rm_X10_yOf (va_Pc [.int k] (PU D (tyL cI cJ cZ) (([] : va_W)) sz)) (va_Qi (fun (rz : Int32) (_ : Unit) => rz = (k / 24 - k / 24 / 7 * 7)) (fun uz => BU D (([] : va_W)) (va_A (([] : va_W)) sz)) (va_A (([] : va_W)) sz)) 0 0 (va_A (([] : va_W)) sz) := by
  refine en (own := RX10) (Qc := fun A => va_Qi (fun (rz : Int32) (_ : Unit) => rz = (k / 24 - k / 24 / 7 * 7)) (fun uz => BU D (([] : va_W)) A) A) (by decide) rfl (Nat.le_of_ble_eq_true rfl) rfl ?_
  intro p e s m args below meth c A Q H locs ls hx hb hr hml hown hts hlocks hname hA hN hE hK hQ hP hD hS hl
  have hl : lv_has ls 1 [(0, .int k)] := hl
  refine lv_iload_n hx hb dX10_yOf_0 rfl (lv_at hl 0 rfl) ?_
  refine lv_bipush (v := 24) hx hb dX10_yOf_1 (by decide) ?_
  refine lv_idiv hx hb dX10_yOf_3 (by decide) ?_
  refine lv_bipush (v := 7) hx hb dX10_yOf_4 (by decide) ?_
  refine lv_irem hx hb dX10_yOf_6 (by decide) ?_
  exact lf_i hx hb hr hlocks hQ () hP hD hS dX10_yOf_7 (by first | with_reducible rfl | (simp only [↓reduceIte, bI_t, bI_f, reduceCtorEq]; done) | (subst_vars; simp only [↓reduceIte, bI_t, bI_f, reduceCtorEq]; done) | (simp [bI_t, bI_f]; done))
abbrev rm_X10_sign : Room := { frames := 2, cells := 0, slots := 0, locals := 43 }
set_option maxHeartbeats 4000000 in
set_option maxRecDepth 100000 in
theorem c_X10_sign (l : Launch) (D : va_G) (cI cJ cZ : ClassId) (a : Nat → Nat) (sz : Nat) (mm : MS) (d : Int32) (b : Int32) (h0m : 0 ≤ (mm.1 0).toInt) (h3m : (mm.1 0).toInt ≤ 3) : Met l yX10_sign wsX10_sign rm_X10_sign (va_Pc [.ref (a 0), .int d, .int b] (PU D (tyL cI cJ cZ) (wM a cI cZ mm) sz)) (va_Qi (fun (rz : Int32) (_ : Unit) => rz = ySg (mm.1 0) (mm.2 4) d b) (fun uz => BU D (wM a cI cZ mm) (va_A (wM a cI cZ mm) sz)) (va_A (wM a cI cZ mm) sz)) 0 0 (va_A (wM a cI cZ mm) sz) := by
  refine en (own := RX10) (Qc := fun A => va_Qi (fun (rz : Int32) (_ : Unit) => rz = ySg (mm.1 0) (mm.2 4) d b) (fun uz => BU D (wM a cI cZ mm) A) A) (by decide) rfl (Nat.le_of_ble_eq_true rfl) rfl ?_
  intro p e s m args below meth c A Q H locs ls hx hb hr hml hown hts hlocks hname hA hN hE hK hQ hP hD hS hl
  have hl : lv_has ls 3 [(0, .ref (a 0)), (1, .int d), (2, .int b)] := hl
  refine lv_aload_n hx hb dX10_sign_0 rfl (lv_at hl 0 rfl) ?_
  refine lv_iload_n hx hb dX10_sign_1 rfl (lv_at hl 1 rfl) ?_
  refine sw_i (va_runV (As := [.int d]) (rest := []) ⟨hx, hb, hml, hown, hts⟩ (c_X10_isDancer l D cI cJ cZ a H.size mm d) (cwV 1 hts gX10_sign_X10_isDancer rfl rfl rfl (by decide +kernel) ⟨Nat.le_of_ble_eq_true rfl, Nat.le_of_ble_eq_true rfl⟩) (pr_V hP hD hK hN hE hS hA [0, 1, 2, 3, 4, 5, 6, 7, 8, 9, 10, 11, 12, 13, 14, 15, 16, 17, 18, 19, 20, 21] (by decide) rfl (ci := 10) (q0 := 0) rfl rfl) rfl rfl hl.1 rfl (lv_room (Nat.le_of_ble_eq_true rfl)) dX10_sign_2 ⟨Nat.zero_le _, Nat.zero_le _⟩) hD hS hA (fun r_2 u_2 H locs hw_2 hP hD hS => ?_)
  have hr_2 : r_2 = bI (inR d 0 ((mm.1 0) - 1)) := hw_2
  refine lv_if_eq (tgt := 18) hx hb dX10_sign_5 (by decide) (fun c_5 => ?_) (fun c_5 => ?_)
  · have b_5 : (inR d 0 ((mm.1 0) - 1)) = false := bI_0 (hr_2.symm.trans c_5)
    refine lv_iconst (v := (-1)) hx hb dX10_sign_18 (by decide) ?_
    exact lf_i hx hb hr hlocks hQ () hP hD hS dX10_sign_19 (by first | with_reducible rfl | (simp only [ySg, b_5, ← hr_2, ↓reduceIte, bI_t, bI_f, reduceCtorEq]; done) | (subst_vars; simp only [ySg, b_5, ↓reduceIte, bI_t, bI_f, reduceCtorEq]; done) | (simp [ySg, b_5, bI_t, bI_f]; done))
  · have b_5 : (inR d 0 ((mm.1 0) - 1)) = true := bI_1 (fun q => c_5 (hr_2.trans q))
    refine lv_iload_n hx hb dX10_sign_8 rfl (lv_at hl 2 rfl) ?_
    refine lv_iconst (v := 0) hx hb dX10_sign_9 (by decide) ?_
    refine lv_bipush (v := 9) hx hb dX10_sign_10 (by decide) ?_
    refine st_i (va_runS (As := [.int b, .int 0, .int 9]) (rest := []) ⟨hx, hb, hml, hown, hts⟩ (c_X10_in l D cI cJ cZ H.size b 0 9) (va_cwS 3 hts gX10_sign_X10_in rfl rfl rfl (by decide +kernel) ⟨Nat.le_of_ble_eq_true rfl, Nat.le_of_ble_eq_true rfl⟩) (pr_S hP hD hK hN hE hS hA [] (by decide) rfl) rfl rfl hl.1 rfl (lv_room (Nat.le_of_ble_eq_true rfl)) dX10_sign_12 ⟨Nat.zero_le _, Nat.zero_le _⟩) hP hS hA (fun r_12 u_12 H locs hw_12 hP hS => ?_)
    have hr_12 := hw_12
    refine lv_if_ne (tgt := 20) hx hb dX10_sign_15 (by decide) (fun c_15 => ?_) (fun c_15 => ?_)
    · have b_15 : (inR b 0 9) = true := bI_1 (fun q => c_15 (hr_12.trans q))
      obtain ⟨a1, a2⟩ := dn_in b_5 h0m h3m
      obtain ⟨z1, z2⟩ := inR_in b_15
      rw [li_0] at z1
      rw [(by decide : (9 : Int32).toInt = 9)] at z2
      refine lv_iload_n hx hb dX10_sign_20 rfl (lv_at hl 2 rfl) ?_
      refine lv_aload_n hx hb dX10_sign_21 rfl (lv_at hl 0 rfl) ?_
      refine lv_iload_n hx hb dX10_sign_22 rfl (lv_at hl 1 rfl) ?_
      refine sw_i (va_runV (As := [.int d]) (rest := [.int b]) ⟨hx, hb, hml, hown, hts⟩ (c_X10_sizeOf l D cI cJ cZ a H.size mm d (a1) (a2)) (cwV 1 hts gX10_sign_X10_sizeOf rfl rfl rfl (by decide +kernel) ⟨Nat.le_of_ble_eq_true rfl, Nat.le_of_ble_eq_true rfl⟩) (pr_V hP hD hK hN hE hS hA [0, 1, 2, 3, 4, 5, 6, 7, 8, 9, 10, 11, 12, 13, 14, 15, 16, 17, 18, 19, 20, 21] (by decide) rfl (ci := 10) (q0 := 0) rfl rfl) rfl rfl hl.1 rfl (lv_room (Nat.le_of_ble_eq_true rfl)) dX10_sign_23 ⟨Nat.zero_le _, Nat.zero_le _⟩) hD hS hA (fun r_23 u_23 H locs hw_23 hP hD hS => ?_)
      have hr_23 : r_23 = ((mm.2 4) (11 * d).toNatClampNeg) := hw_23
      refine lv_icmp_ge (tgt := 38) hx hb dX10_sign_26 (by decide) (fun c_26 => ?_) (fun c_26 => ?_)
      · have i_26 := i_le c_26
        refine lv_bipush (v := (-9)) hx hb dX10_sign_38 (by decide) ?_
        exact lf_i hx hb hr hlocks hQ () hP hD hS dX10_sign_40 (by first | with_reducible rfl | (simp only [ySg, b_5, b_15, if_pos c_26, ← hr_23, ← hr_12, ← hr_2, ↓reduceIte, bI_t, bI_f, reduceCtorEq]; done) | (subst_vars; simp only [ySg, b_5, b_15, if_pos c_26, ↓reduceIte, bI_t, bI_f, reduceCtorEq]; done) | (simp [ySg, b_5, b_15, c_26, bI_t, bI_f]; done))
      · have i_26 := i_nle c_26
        refine lv_aload_n hx hb dX10_sign_29 rfl (lv_at hl 0 rfl) ?_
        refine lv_iload_n hx hb dX10_sign_30 rfl (lv_at hl 1 rfl) ?_
        refine lv_iload_n hx hb dX10_sign_31 rfl (lv_at hl 2 rfl) ?_
        refine sw_i (va_runV (As := [.int d, .int b]) (rest := []) ⟨hx, hb, hml, hown, hts⟩ (c_X10_signOf l D cI cJ cZ a H.size mm d b (a1) (a2) (z1) (by omega)) (cwV 2 hts gX10_sign_X10_signOf rfl rfl rfl (by decide +kernel) ⟨Nat.le_of_ble_eq_true rfl, Nat.le_of_ble_eq_true rfl⟩) (pr_V hP hD hK hN hE hS hA [0, 1, 2, 3, 4, 5, 6, 7, 8, 9, 10, 11, 12, 13, 14, 15, 16, 17, 18, 19, 20, 21] (by decide) rfl (ci := 10) (q0 := 0) rfl rfl) rfl rfl hl.1 rfl (lv_room (Nat.le_of_ble_eq_true rfl)) dX10_sign_32 ⟨Nat.zero_le _, Nat.zero_le _⟩) hD hS hA (fun r_32 u_32 H locs hw_32 hP hD hS => ?_)
        have hr_32 : r_32 = ((mm.2 4) (11 * d + 1 + b).toNatClampNeg) := hw_32
        refine lv_goto (tgt := 40) hx hb dX10_sign_35 (by decide) ?_
        exact lf_i hx hb hr hlocks hQ () hP hD hS dX10_sign_40 (by first | with_reducible rfl | (simp only [ySg, b_5, b_15, if_neg c_26, ← hr_32, ← hr_23, ← hr_12, ← hr_2, ↓reduceIte, bI_t, bI_f, reduceCtorEq]; done) | (subst_vars; simp only [ySg, b_5, b_15, if_neg c_26, ↓reduceIte, bI_t, bI_f, reduceCtorEq]; done) | (simp [ySg, b_5, b_15, c_26, bI_t, bI_f]; done))
    · have b_15 : (inR b 0 9) = false := bI_0 (hr_12.symm.trans c_15)
      refine lv_iconst (v := (-1)) hx hb dX10_sign_18 (by decide) ?_
      exact lf_i hx hb hr hlocks hQ () hP hD hS dX10_sign_19 (by first | with_reducible rfl | (simp only [ySg, b_5, b_15, ← hr_12, ← hr_2, ↓reduceIte, bI_t, bI_f, reduceCtorEq]; done) | (subst_vars; simp only [ySg, b_5, b_15, ↓reduceIte, bI_t, bI_f, reduceCtorEq]; done) | (simp [ySg, b_5, b_15, bI_t, bI_f]; done))
abbrev rm_X10_remember : Room := { frames := 0, cells := 0, slots := 0, locals := 0 }
set_option maxHeartbeats 4000000 in
set_option maxRecDepth 100000 in
theorem c_X10_remember (l : Launch) (D : va_G) (cI cJ cZ : ClassId) (a : Nat → Nat) (sz : Nat) (mm : MS) (h0u : 0 ≤ (mm.1 6).toInt) (h9u : (mm.1 6).toInt < 10) : Met l yX10_remember wsX10_remember rm_X10_remember (va_Pc [.ref (a 0)] (PU D (tyL cI cJ cZ) (wM a cI cZ mm) sz)) (va_Qv (fun (uz : MS) => uz = (mS (mS (mF mm 7 (rmL (mm.2 7) (mm.2 4) (mm.1 6) 33)) 6 (yUa (mm.1 6))) 5 (yUm (mm.1 5)))) (fun uz => BU D (wM a cI cZ uz) (va_A (wM a cI cZ mm) sz)) (va_A (wM a cI cZ mm) sz)) 0 0 (va_A (wM a cI cZ mm) sz) := by
  refine en (own := RX10) (Qc := fun A => va_Qv (fun (uz : MS) => uz = (mS (mS (mF mm 7 (rmL (mm.2 7) (mm.2 4) (mm.1 6) 33)) 6 (yUa (mm.1 6))) 5 (yUm (mm.1 5)))) (fun uz => BU D (wM a cI cZ uz) A) A) (by decide) rfl (Nat.le_of_ble_eq_true rfl) rfl ?_
  intro p e s m args below meth c A Q H locs ls hx hb hr hml hown hts hlocks hname hA hN hE hK hQ hP hD hS hl
  have hl : lv_has ls 2 [(0, .ref (a 0))] := hl
  have fl_189 := hts (.fieldLink RX10 189 "DanceStaffsModel" "undoAt" "I") (by decide +kernel)
  have hin_10 : ∀ w ∈ u_ws RX10 TX10 37, w ∈ wsX10_remember := by decide +kernel
  have fl_130 := hts (.fieldLink RX10 130 "DanceStaffsModel" "undoMany" "I") (by decide +kernel)
  have fl_22 := hts (.fieldLink RX10 22 "DanceStaffsModel" "undos" "[I") (by decide +kernel)
  have fl_19 := hts (.fieldLink RX10 19 "DanceStaffsModel" "now" "[I") (by decide +kernel)
  refine lv_iconst (v := 0) hx hb dX10_remember_0 (by decide) ?_
  refine lv_istore_n (lv' := [(1, .int 0), (0, .ref (a 0))]) hx hb dX10_remember_1 rfl hl (by decide) rfl (fun ls hl => ?_)
  have LB_2 : ∀ (n : Nat) (i : Nat) (hn_i : 33 < i + n) (hi_i : i ≤ 33) (H : Heap) (locs : List Loc) (_ : va_P D vwCl (wM a cI cZ (mF mm 7 (rmL (mm.2 7) (mm.2 4) (mm.1 6) i))) H) (_ : va_D A (wM a cI cZ (mF mm 7 (rmL (mm.2 7) (mm.2 4) (mm.1 6) i)))) (_ : va_S A s.heap H locs) (ls : Array Slot) (_ : lv_has ls 2 [(0, .ref (a 0)), (1, .int (nI i))]), W p l e rm_X10_remember s m args below meth c H locs 0 0 Q (F0 m 2 ls []) := by
    intro n
    induction n with
    | zero =>
      intro i hn_i hi_i
      exact absurd hn_i (by omega)
    | succ n LB_2 =>
      intro i hn_i hi_i H locs hP hD hS ls hl
      have hP : va_P D vwCl ([(a 0, .inr (10, [.int (mm.1 0), .ref (a 1), .ref (a 2), .ref (a 3), .ref (a 4), .int (mm.1 5), .int (mm.1 6), .ref (a 7), .int (mm.1 8), .ref (a 9), .ref (a 10), .ref (a 11), .ref (a 12), .int (mm.1 13), .ref (a 14), .int (mm.1 15), .int (mm.1 16), .int (mm.1 17), .int (mm.1 18), .int (mm.1 19), .int (mm.1 20), .ref (a 21), .ref (a 22), .ref (a 23), .ref (a 24), .int (mm.1 25), .int (mm.1 26), .int (mm.1 27), .int (mm.1 28), .ref (a 29), .ref (a 30), .ref (a 31), .ref (a 32), .int (mm.1 33), .ref (a 34), .ref (a 35), .ref (a 36)])), (a 1, .inl (cI, 3, .inl (mm.2 1))), (a 2, .inl (cI, 3, .inl (mm.2 2))), (a 3, .inl (cI, 3, .inl (mm.2 3))), (a 4, .inl (cI, 33, .inl (mm.2 4))), (a 7, .inl (cI, 330, .inl (rmL (mm.2 7) (mm.2 4) (mm.1 6) i))), (a 9, .inl (cI, 6, .inl (mm.2 9))), (a 10, .inl (cI, 6, .inl (mm.2 10))), (a 11, .inl (cZ, 2, .inl (mm.2 11))), (a 12, .inl (cI, 66, .inl (mm.2 12))), (a 14, .inl (cI, 100, .inl (mm.2 14))), (a 21, .inl (cI, 3, .inl (mm.2 21))), (a 22, .inl (cI, 3, .inl (mm.2 22))), (a 23, .inl (cI, 3, .inl (mm.2 23))), (a 24, .inl (cI, 33, .inl (mm.2 24))), (a 29, .inl (cI, 11, .inl (mm.2 29))), (a 30, .inl (cI, 11, .inl (mm.2 30))), (a 31, .inl (cI, 11, .inl (mm.2 31))), (a 32, .inl (cI, 11, .inl (mm.2 32))), (a 34, .inl (cI, 11, .inl (mm.2 34))), (a 35, .inl (cI, 11, .inl (mm.2 35))), (a 36, .inl (cI, 1176, .inl (mm.2 36)))]) H := hP
      have hD : va_D A ([(a 0, .inr (10, [.int (mm.1 0), .ref (a 1), .ref (a 2), .ref (a 3), .ref (a 4), .int (mm.1 5), .int (mm.1 6), .ref (a 7), .int (mm.1 8), .ref (a 9), .ref (a 10), .ref (a 11), .ref (a 12), .int (mm.1 13), .ref (a 14), .int (mm.1 15), .int (mm.1 16), .int (mm.1 17), .int (mm.1 18), .int (mm.1 19), .int (mm.1 20), .ref (a 21), .ref (a 22), .ref (a 23), .ref (a 24), .int (mm.1 25), .int (mm.1 26), .int (mm.1 27), .int (mm.1 28), .ref (a 29), .ref (a 30), .ref (a 31), .ref (a 32), .int (mm.1 33), .ref (a 34), .ref (a 35), .ref (a 36)])), (a 1, .inl (cI, 3, .inl (mm.2 1))), (a 2, .inl (cI, 3, .inl (mm.2 2))), (a 3, .inl (cI, 3, .inl (mm.2 3))), (a 4, .inl (cI, 33, .inl (mm.2 4))), (a 7, .inl (cI, 330, .inl (rmL (mm.2 7) (mm.2 4) (mm.1 6) i))), (a 9, .inl (cI, 6, .inl (mm.2 9))), (a 10, .inl (cI, 6, .inl (mm.2 10))), (a 11, .inl (cZ, 2, .inl (mm.2 11))), (a 12, .inl (cI, 66, .inl (mm.2 12))), (a 14, .inl (cI, 100, .inl (mm.2 14))), (a 21, .inl (cI, 3, .inl (mm.2 21))), (a 22, .inl (cI, 3, .inl (mm.2 22))), (a 23, .inl (cI, 3, .inl (mm.2 23))), (a 24, .inl (cI, 33, .inl (mm.2 24))), (a 29, .inl (cI, 11, .inl (mm.2 29))), (a 30, .inl (cI, 11, .inl (mm.2 30))), (a 31, .inl (cI, 11, .inl (mm.2 31))), (a 32, .inl (cI, 11, .inl (mm.2 32))), (a 34, .inl (cI, 11, .inl (mm.2 34))), (a 35, .inl (cI, 11, .inl (mm.2 35))), (a 36, .inl (cI, 1176, .inl (mm.2 36)))]) := hD
      refine lv_iload_n hx hb dX10_remember_2 rfl (lv_at hl 1 rfl) ?_
      refine lv_bipush (v := 33) hx hb dX10_remember_3 (by decide) ?_
      refine lv_icmp_ge (tgt := 34) hx hb dX10_remember_5 (by decide) (fun c_5 => ?_) (fun c_5 => ?_)
      · have i_5 := i_le c_5
        rw [(by decide : (33 : Int32).toInt = 33)] at i_5
        rw [nIT (by omega)] at i_5
        have e_5 : i = 33 := by omega
        refine lv_aload_n hx hb dX10_remember_34 rfl (lv_at hl 0 rfl) ?_
        refine lv_aload_n hx hb dX10_remember_35 rfl (lv_at hl 0 rfl) ?_
        refine va_get (D := D) (ci := 10) (v := .int (mm.1 6)) (C := RX10) (T := TX10) (N := 37) hx hb hts hin_10 hown hK hP 0 rfl rfl 6 (by decide) fl_189 (fun _ h9 => h9) rfl dX10_remember_36 ?_
        refine lv_iconst (v := 1) hx hb dX10_remember_39 (by decide) ?_
        refine lv_iadd hx hb dX10_remember_40 ?_
        refine lv_bipush (v := 10) hx hb dX10_remember_41 (by decide) ?_
        refine lv_irem hx hb dX10_remember_43 (by decide) ?_
        refine va_put (D := D) (ci := 10) (v := .int (((mm.1 6) + 1) - ((mm.1 6) + 1) / 10 * 10)) (ty := .int) (C := RX10) (T := TX10) (N := 37) hx hb hts hin_10 tyX10 tyX10_ok nmX10 hown hK hP hD hS 0 rfl rfl 6 (by decide) fl_189 (fun _ h9 => h9) rfl (by decide +kernel) rfl rfl (Nat.le_of_ble_eq_true rfl) dX10_remember_44 (fun H locs hP hD hS => ?_)
        have hP : va_P D vwCl ([(a 0, .inr (10, [.int (mm.1 0), .ref (a 1), .ref (a 2), .ref (a 3), .ref (a 4), .int (mm.1 5), .int (((mm.1 6) + 1) - ((mm.1 6) + 1) / 10 * 10), .ref (a 7), .int (mm.1 8), .ref (a 9), .ref (a 10), .ref (a 11), .ref (a 12), .int (mm.1 13), .ref (a 14), .int (mm.1 15), .int (mm.1 16), .int (mm.1 17), .int (mm.1 18), .int (mm.1 19), .int (mm.1 20), .ref (a 21), .ref (a 22), .ref (a 23), .ref (a 24), .int (mm.1 25), .int (mm.1 26), .int (mm.1 27), .int (mm.1 28), .ref (a 29), .ref (a 30), .ref (a 31), .ref (a 32), .int (mm.1 33), .ref (a 34), .ref (a 35), .ref (a 36)])), (a 1, .inl (cI, 3, .inl (mm.2 1))), (a 2, .inl (cI, 3, .inl (mm.2 2))), (a 3, .inl (cI, 3, .inl (mm.2 3))), (a 4, .inl (cI, 33, .inl (mm.2 4))), (a 7, .inl (cI, 330, .inl (rmL (mm.2 7) (mm.2 4) (mm.1 6) i))), (a 9, .inl (cI, 6, .inl (mm.2 9))), (a 10, .inl (cI, 6, .inl (mm.2 10))), (a 11, .inl (cZ, 2, .inl (mm.2 11))), (a 12, .inl (cI, 66, .inl (mm.2 12))), (a 14, .inl (cI, 100, .inl (mm.2 14))), (a 21, .inl (cI, 3, .inl (mm.2 21))), (a 22, .inl (cI, 3, .inl (mm.2 22))), (a 23, .inl (cI, 3, .inl (mm.2 23))), (a 24, .inl (cI, 33, .inl (mm.2 24))), (a 29, .inl (cI, 11, .inl (mm.2 29))), (a 30, .inl (cI, 11, .inl (mm.2 30))), (a 31, .inl (cI, 11, .inl (mm.2 31))), (a 32, .inl (cI, 11, .inl (mm.2 32))), (a 34, .inl (cI, 11, .inl (mm.2 34))), (a 35, .inl (cI, 11, .inl (mm.2 35))), (a 36, .inl (cI, 1176, .inl (mm.2 36)))]) H := hP
        have hD : va_D A ([(a 0, .inr (10, [.int (mm.1 0), .ref (a 1), .ref (a 2), .ref (a 3), .ref (a 4), .int (mm.1 5), .int (((mm.1 6) + 1) - ((mm.1 6) + 1) / 10 * 10), .ref (a 7), .int (mm.1 8), .ref (a 9), .ref (a 10), .ref (a 11), .ref (a 12), .int (mm.1 13), .ref (a 14), .int (mm.1 15), .int (mm.1 16), .int (mm.1 17), .int (mm.1 18), .int (mm.1 19), .int (mm.1 20), .ref (a 21), .ref (a 22), .ref (a 23), .ref (a 24), .int (mm.1 25), .int (mm.1 26), .int (mm.1 27), .int (mm.1 28), .ref (a 29), .ref (a 30), .ref (a 31), .ref (a 32), .int (mm.1 33), .ref (a 34), .ref (a 35), .ref (a 36)])), (a 1, .inl (cI, 3, .inl (mm.2 1))), (a 2, .inl (cI, 3, .inl (mm.2 2))), (a 3, .inl (cI, 3, .inl (mm.2 3))), (a 4, .inl (cI, 33, .inl (mm.2 4))), (a 7, .inl (cI, 330, .inl (rmL (mm.2 7) (mm.2 4) (mm.1 6) i))), (a 9, .inl (cI, 6, .inl (mm.2 9))), (a 10, .inl (cI, 6, .inl (mm.2 10))), (a 11, .inl (cZ, 2, .inl (mm.2 11))), (a 12, .inl (cI, 66, .inl (mm.2 12))), (a 14, .inl (cI, 100, .inl (mm.2 14))), (a 21, .inl (cI, 3, .inl (mm.2 21))), (a 22, .inl (cI, 3, .inl (mm.2 22))), (a 23, .inl (cI, 3, .inl (mm.2 23))), (a 24, .inl (cI, 33, .inl (mm.2 24))), (a 29, .inl (cI, 11, .inl (mm.2 29))), (a 30, .inl (cI, 11, .inl (mm.2 30))), (a 31, .inl (cI, 11, .inl (mm.2 31))), (a 32, .inl (cI, 11, .inl (mm.2 32))), (a 34, .inl (cI, 11, .inl (mm.2 34))), (a 35, .inl (cI, 11, .inl (mm.2 35))), (a 36, .inl (cI, 1176, .inl (mm.2 36)))]) := hD
        refine lv_aload_n hx hb dX10_remember_47 rfl (lv_at hl 0 rfl) ?_
        refine lv_dup hx hb dX10_remember_48 rfl ?_
        refine va_get (D := D) (ci := 10) (v := .int (mm.1 5)) (C := RX10) (T := TX10) (N := 37) hx hb hts hin_10 hown hK hP 0 rfl rfl 5 (by decide) fl_130 (fun _ h9 => h9) rfl dX10_remember_49 ?_
        refine lv_aload_n hx hb dX10_remember_52 rfl (lv_at hl 0 rfl) ?_
        refine va_get (D := D) (ci := 10) (v := .int (mm.1 5)) (C := RX10) (T := TX10) (N := 37) hx hb hts hin_10 hown hK hP 0 rfl rfl 5 (by decide) fl_130 (fun _ h9 => h9) rfl dX10_remember_53 ?_
        refine lv_bipush (v := 10) hx hb dX10_remember_56 (by decide) ?_
        refine lv_icmp_ge (tgt := 65) hx hb dX10_remember_58 (by decide) (fun c_58 => ?_) (fun c_58 => ?_)
        · have i_58 := i_le c_58
          rw [(by decide : (10 : Int32).toInt = 10)] at i_58
          refine lv_iconst (v := 0) hx hb dX10_remember_65 (by decide) ?_
          refine lv_iadd hx hb dX10_remember_66 ?_
          refine va_put (D := D) (ci := 10) (v := .int ((mm.1 5) + 0)) (ty := .int) (C := RX10) (T := TX10) (N := 37) hx hb hts hin_10 tyX10 tyX10_ok nmX10 hown hK hP hD hS 0 rfl rfl 5 (by decide) fl_130 (fun _ h9 => h9) rfl (by decide +kernel) rfl rfl (Nat.le_of_ble_eq_true rfl) dX10_remember_67 (fun H locs hP hD hS => ?_)
          have hP : va_P D vwCl ([(a 0, .inr (10, [.int (mm.1 0), .ref (a 1), .ref (a 2), .ref (a 3), .ref (a 4), .int ((mm.1 5) + 0), .int (((mm.1 6) + 1) - ((mm.1 6) + 1) / 10 * 10), .ref (a 7), .int (mm.1 8), .ref (a 9), .ref (a 10), .ref (a 11), .ref (a 12), .int (mm.1 13), .ref (a 14), .int (mm.1 15), .int (mm.1 16), .int (mm.1 17), .int (mm.1 18), .int (mm.1 19), .int (mm.1 20), .ref (a 21), .ref (a 22), .ref (a 23), .ref (a 24), .int (mm.1 25), .int (mm.1 26), .int (mm.1 27), .int (mm.1 28), .ref (a 29), .ref (a 30), .ref (a 31), .ref (a 32), .int (mm.1 33), .ref (a 34), .ref (a 35), .ref (a 36)])), (a 1, .inl (cI, 3, .inl (mm.2 1))), (a 2, .inl (cI, 3, .inl (mm.2 2))), (a 3, .inl (cI, 3, .inl (mm.2 3))), (a 4, .inl (cI, 33, .inl (mm.2 4))), (a 7, .inl (cI, 330, .inl (rmL (mm.2 7) (mm.2 4) (mm.1 6) i))), (a 9, .inl (cI, 6, .inl (mm.2 9))), (a 10, .inl (cI, 6, .inl (mm.2 10))), (a 11, .inl (cZ, 2, .inl (mm.2 11))), (a 12, .inl (cI, 66, .inl (mm.2 12))), (a 14, .inl (cI, 100, .inl (mm.2 14))), (a 21, .inl (cI, 3, .inl (mm.2 21))), (a 22, .inl (cI, 3, .inl (mm.2 22))), (a 23, .inl (cI, 3, .inl (mm.2 23))), (a 24, .inl (cI, 33, .inl (mm.2 24))), (a 29, .inl (cI, 11, .inl (mm.2 29))), (a 30, .inl (cI, 11, .inl (mm.2 30))), (a 31, .inl (cI, 11, .inl (mm.2 31))), (a 32, .inl (cI, 11, .inl (mm.2 32))), (a 34, .inl (cI, 11, .inl (mm.2 34))), (a 35, .inl (cI, 11, .inl (mm.2 35))), (a 36, .inl (cI, 1176, .inl (mm.2 36)))]) H := hP
          have hD : va_D A ([(a 0, .inr (10, [.int (mm.1 0), .ref (a 1), .ref (a 2), .ref (a 3), .ref (a 4), .int ((mm.1 5) + 0), .int (((mm.1 6) + 1) - ((mm.1 6) + 1) / 10 * 10), .ref (a 7), .int (mm.1 8), .ref (a 9), .ref (a 10), .ref (a 11), .ref (a 12), .int (mm.1 13), .ref (a 14), .int (mm.1 15), .int (mm.1 16), .int (mm.1 17), .int (mm.1 18), .int (mm.1 19), .int (mm.1 20), .ref (a 21), .ref (a 22), .ref (a 23), .ref (a 24), .int (mm.1 25), .int (mm.1 26), .int (mm.1 27), .int (mm.1 28), .ref (a 29), .ref (a 30), .ref (a 31), .ref (a 32), .int (mm.1 33), .ref (a 34), .ref (a 35), .ref (a 36)])), (a 1, .inl (cI, 3, .inl (mm.2 1))), (a 2, .inl (cI, 3, .inl (mm.2 2))), (a 3, .inl (cI, 3, .inl (mm.2 3))), (a 4, .inl (cI, 33, .inl (mm.2 4))), (a 7, .inl (cI, 330, .inl (rmL (mm.2 7) (mm.2 4) (mm.1 6) i))), (a 9, .inl (cI, 6, .inl (mm.2 9))), (a 10, .inl (cI, 6, .inl (mm.2 10))), (a 11, .inl (cZ, 2, .inl (mm.2 11))), (a 12, .inl (cI, 66, .inl (mm.2 12))), (a 14, .inl (cI, 100, .inl (mm.2 14))), (a 21, .inl (cI, 3, .inl (mm.2 21))), (a 22, .inl (cI, 3, .inl (mm.2 22))), (a 23, .inl (cI, 3, .inl (mm.2 23))), (a 24, .inl (cI, 33, .inl (mm.2 24))), (a 29, .inl (cI, 11, .inl (mm.2 29))), (a 30, .inl (cI, 11, .inl (mm.2 30))), (a 31, .inl (cI, 11, .inl (mm.2 31))), (a 32, .inl (cI, 11, .inl (mm.2 32))), (a 34, .inl (cI, 11, .inl (mm.2 34))), (a 35, .inl (cI, 11, .inl (mm.2 35))), (a 36, .inl (cI, 1176, .inl (mm.2 36)))]) := hD
          have em_70_7 : (rmL (mm.2 7) (mm.2 4) (mm.1 6) 33) = (rmL (mm.2 7) (mm.2 4) (mm.1 6) i) := by rw [e_5]
          have em_70_6 : (yUa (mm.1 6)) = (((mm.1 6) + 1) - ((mm.1 6) + 1) / 10 * 10) := by rfl
          have em_70_5 : (yUm (mm.1 5)) = ((mm.1 5) + 0) := by simp only [yUm, if_pos c_5, if_pos c_58, ↓reduceIte]
          have hP : va_P D vwCl (wM a cI cZ (mS (mS (mF mm 7 (rmL (mm.2 7) (mm.2 4) (mm.1 6) i)) 6 (((mm.1 6) + 1) - ((mm.1 6) + 1) / 10 * 10)) 5 ((mm.1 5) + 0))) H := hP
          have hD : va_D A (wM a cI cZ (mS (mS (mF mm 7 (rmL (mm.2 7) (mm.2 4) (mm.1 6) i)) 6 (((mm.1 6) + 1) - ((mm.1 6) + 1) / 10 * 10)) 5 ((mm.1 5) + 0))) := hD
          have eM_70 : (mS (mS (mF mm 7 (rmL (mm.2 7) (mm.2 4) (mm.1 6) 33)) 6 (yUa (mm.1 6))) 5 (yUm (mm.1 5))) = (mS (mS (mF mm 7 (rmL (mm.2 7) (mm.2 4) (mm.1 6) i)) 6 (((mm.1 6) + 1) - ((mm.1 6) + 1) / 10 * 10)) 5 ((mm.1 5) + 0)) := (mS_c (mS_c (mF_c rfl em_70_7) em_70_6) em_70_5)
          rw [← eM_70] at hP hD
          exact lf_v hx hb hr hlocks hQ (mS (mS (mF mm 7 (rmL (mm.2 7) (mm.2 4) (mm.1 6) 33)) 6 (yUa (mm.1 6))) 5 (yUm (mm.1 5))) hP hD hS dX10_remember_70 rfl
        · have i_58 := i_nle c_58
          rw [(by decide : (10 : Int32).toInt = 10)] at i_58
          refine lv_iconst (v := 1) hx hb dX10_remember_61 (by decide) ?_
          refine lv_goto (tgt := 66) hx hb dX10_remember_62 (by decide) ?_
          refine lv_iadd hx hb dX10_remember_66 ?_
          refine va_put (D := D) (ci := 10) (v := .int ((mm.1 5) + 1)) (ty := .int) (C := RX10) (T := TX10) (N := 37) hx hb hts hin_10 tyX10 tyX10_ok nmX10 hown hK hP hD hS 0 rfl rfl 5 (by decide) fl_130 (fun _ h9 => h9) rfl (by decide +kernel) rfl rfl (Nat.le_of_ble_eq_true rfl) dX10_remember_67 (fun H locs hP hD hS => ?_)
          have hP : va_P D vwCl ([(a 0, .inr (10, [.int (mm.1 0), .ref (a 1), .ref (a 2), .ref (a 3), .ref (a 4), .int ((mm.1 5) + 1), .int (((mm.1 6) + 1) - ((mm.1 6) + 1) / 10 * 10), .ref (a 7), .int (mm.1 8), .ref (a 9), .ref (a 10), .ref (a 11), .ref (a 12), .int (mm.1 13), .ref (a 14), .int (mm.1 15), .int (mm.1 16), .int (mm.1 17), .int (mm.1 18), .int (mm.1 19), .int (mm.1 20), .ref (a 21), .ref (a 22), .ref (a 23), .ref (a 24), .int (mm.1 25), .int (mm.1 26), .int (mm.1 27), .int (mm.1 28), .ref (a 29), .ref (a 30), .ref (a 31), .ref (a 32), .int (mm.1 33), .ref (a 34), .ref (a 35), .ref (a 36)])), (a 1, .inl (cI, 3, .inl (mm.2 1))), (a 2, .inl (cI, 3, .inl (mm.2 2))), (a 3, .inl (cI, 3, .inl (mm.2 3))), (a 4, .inl (cI, 33, .inl (mm.2 4))), (a 7, .inl (cI, 330, .inl (rmL (mm.2 7) (mm.2 4) (mm.1 6) i))), (a 9, .inl (cI, 6, .inl (mm.2 9))), (a 10, .inl (cI, 6, .inl (mm.2 10))), (a 11, .inl (cZ, 2, .inl (mm.2 11))), (a 12, .inl (cI, 66, .inl (mm.2 12))), (a 14, .inl (cI, 100, .inl (mm.2 14))), (a 21, .inl (cI, 3, .inl (mm.2 21))), (a 22, .inl (cI, 3, .inl (mm.2 22))), (a 23, .inl (cI, 3, .inl (mm.2 23))), (a 24, .inl (cI, 33, .inl (mm.2 24))), (a 29, .inl (cI, 11, .inl (mm.2 29))), (a 30, .inl (cI, 11, .inl (mm.2 30))), (a 31, .inl (cI, 11, .inl (mm.2 31))), (a 32, .inl (cI, 11, .inl (mm.2 32))), (a 34, .inl (cI, 11, .inl (mm.2 34))), (a 35, .inl (cI, 11, .inl (mm.2 35))), (a 36, .inl (cI, 1176, .inl (mm.2 36)))]) H := hP
          have hD : va_D A ([(a 0, .inr (10, [.int (mm.1 0), .ref (a 1), .ref (a 2), .ref (a 3), .ref (a 4), .int ((mm.1 5) + 1), .int (((mm.1 6) + 1) - ((mm.1 6) + 1) / 10 * 10), .ref (a 7), .int (mm.1 8), .ref (a 9), .ref (a 10), .ref (a 11), .ref (a 12), .int (mm.1 13), .ref (a 14), .int (mm.1 15), .int (mm.1 16), .int (mm.1 17), .int (mm.1 18), .int (mm.1 19), .int (mm.1 20), .ref (a 21), .ref (a 22), .ref (a 23), .ref (a 24), .int (mm.1 25), .int (mm.1 26), .int (mm.1 27), .int (mm.1 28), .ref (a 29), .ref (a 30), .ref (a 31), .ref (a 32), .int (mm.1 33), .ref (a 34), .ref (a 35), .ref (a 36)])), (a 1, .inl (cI, 3, .inl (mm.2 1))), (a 2, .inl (cI, 3, .inl (mm.2 2))), (a 3, .inl (cI, 3, .inl (mm.2 3))), (a 4, .inl (cI, 33, .inl (mm.2 4))), (a 7, .inl (cI, 330, .inl (rmL (mm.2 7) (mm.2 4) (mm.1 6) i))), (a 9, .inl (cI, 6, .inl (mm.2 9))), (a 10, .inl (cI, 6, .inl (mm.2 10))), (a 11, .inl (cZ, 2, .inl (mm.2 11))), (a 12, .inl (cI, 66, .inl (mm.2 12))), (a 14, .inl (cI, 100, .inl (mm.2 14))), (a 21, .inl (cI, 3, .inl (mm.2 21))), (a 22, .inl (cI, 3, .inl (mm.2 22))), (a 23, .inl (cI, 3, .inl (mm.2 23))), (a 24, .inl (cI, 33, .inl (mm.2 24))), (a 29, .inl (cI, 11, .inl (mm.2 29))), (a 30, .inl (cI, 11, .inl (mm.2 30))), (a 31, .inl (cI, 11, .inl (mm.2 31))), (a 32, .inl (cI, 11, .inl (mm.2 32))), (a 34, .inl (cI, 11, .inl (mm.2 34))), (a 35, .inl (cI, 11, .inl (mm.2 35))), (a 36, .inl (cI, 1176, .inl (mm.2 36)))]) := hD
          have em_70_7 : (rmL (mm.2 7) (mm.2 4) (mm.1 6) 33) = (rmL (mm.2 7) (mm.2 4) (mm.1 6) i) := by rw [e_5]
          have em_70_6 : (yUa (mm.1 6)) = (((mm.1 6) + 1) - ((mm.1 6) + 1) / 10 * 10) := by rfl
          have em_70_5 : (yUm (mm.1 5)) = ((mm.1 5) + 1) := by simp only [yUm, if_pos c_5, if_neg c_58, ↓reduceIte]
          have hP : va_P D vwCl (wM a cI cZ (mS (mS (mF mm 7 (rmL (mm.2 7) (mm.2 4) (mm.1 6) i)) 6 (((mm.1 6) + 1) - ((mm.1 6) + 1) / 10 * 10)) 5 ((mm.1 5) + 1))) H := hP
          have hD : va_D A (wM a cI cZ (mS (mS (mF mm 7 (rmL (mm.2 7) (mm.2 4) (mm.1 6) i)) 6 (((mm.1 6) + 1) - ((mm.1 6) + 1) / 10 * 10)) 5 ((mm.1 5) + 1))) := hD
          have eM_70 : (mS (mS (mF mm 7 (rmL (mm.2 7) (mm.2 4) (mm.1 6) 33)) 6 (yUa (mm.1 6))) 5 (yUm (mm.1 5))) = (mS (mS (mF mm 7 (rmL (mm.2 7) (mm.2 4) (mm.1 6) i)) 6 (((mm.1 6) + 1) - ((mm.1 6) + 1) / 10 * 10)) 5 ((mm.1 5) + 1)) := (mS_c (mS_c (mF_c rfl em_70_7) em_70_6) em_70_5)
          rw [← eM_70] at hP hD
          exact lf_v hx hb hr hlocks hQ (mS (mS (mF mm 7 (rmL (mm.2 7) (mm.2 4) (mm.1 6) 33)) 6 (yUa (mm.1 6))) 5 (yUm (mm.1 5))) hP hD hS dX10_remember_70 rfl
      · have i_5 := i_nle c_5
        rw [(by decide : (33 : Int32).toInt = 33)] at i_5
        rw [nIT (by omega)] at i_5
        refine lv_aload_n hx hb dX10_remember_8 rfl (lv_at hl 0 rfl) ?_
        refine va_get (D := D) (ci := 10) (v := .ref (a 7)) (C := RX10) (T := TX10) (N := 37) hx hb hts hin_10 hown hK hP 0 rfl rfl 7 (by decide) fl_22 (fun _ h9 => h9) rfl dX10_remember_9 ?_
        refine lv_bipush (v := 33) hx hb dX10_remember_12 (by decide) ?_
        refine lv_aload_n hx hb dX10_remember_14 rfl (lv_at hl 0 rfl) ?_
        refine va_get (D := D) (ci := 10) (v := .int (mm.1 6)) (C := RX10) (T := TX10) (N := 37) hx hb hts hin_10 hown hK hP 0 rfl rfl 6 (by decide) fl_189 (fun _ h9 => h9) rfl dX10_remember_15 ?_
        refine lv_imul hx hb dX10_remember_18 ?_
        refine lv_iload_n hx hb dX10_remember_19 rfl (lv_at hl 1 rfl) ?_
        refine lv_iadd hx hb dX10_remember_20 ?_
        refine lv_aload_n hx hb dX10_remember_21 rfl (lv_at hl 0 rfl) ?_
        refine va_get (D := D) (ci := 10) (v := .ref (a 4)) (C := RX10) (T := TX10) (N := 37) hx hb hts hin_10 hown hK hP 0 rfl rfl 4 (by decide) fl_19 (fun _ h9 => h9) rfl dX10_remember_22 ?_
        refine lv_iload_n hx hb dX10_remember_25 rfl (lv_at hl 1 rfl) ?_
        refine va_iald (D := D) (f := (mm.2 4)) hx hb hK hP 4 0 rfl rfl (vp_in_nI (by omega) (by decide)) dX10_remember_26 ?_
        refine va_iast (D := D) (f := (rmL (mm.2 7) (mm.2 4) (mm.1 6) i)) hx hb hK hP hD hS 5 0 rfl rfl (in33 h0u (by decide) h9u i (by omega) (by decide)) dX10_remember_27 (fun H locs hP hD hS => ?_)
        have hP : va_P D vwCl ([(a 0, .inr (10, [.int (mm.1 0), .ref (a 1), .ref (a 2), .ref (a 3), .ref (a 4), .int (mm.1 5), .int (mm.1 6), .ref (a 7), .int (mm.1 8), .ref (a 9), .ref (a 10), .ref (a 11), .ref (a 12), .int (mm.1 13), .ref (a 14), .int (mm.1 15), .int (mm.1 16), .int (mm.1 17), .int (mm.1 18), .int (mm.1 19), .int (mm.1 20), .ref (a 21), .ref (a 22), .ref (a 23), .ref (a 24), .int (mm.1 25), .int (mm.1 26), .int (mm.1 27), .int (mm.1 28), .ref (a 29), .ref (a 30), .ref (a 31), .ref (a 32), .int (mm.1 33), .ref (a 34), .ref (a 35), .ref (a 36)])), (a 1, .inl (cI, 3, .inl (mm.2 1))), (a 2, .inl (cI, 3, .inl (mm.2 2))), (a 3, .inl (cI, 3, .inl (mm.2 3))), (a 4, .inl (cI, 33, .inl (mm.2 4))), (a 7, .inl (cI, 330, .inl (upd (rmL (mm.2 7) (mm.2 4) (mm.1 6) i) (((33 * (mm.1 6)) + (nI i)).toNatClampNeg) ((mm.2 4) (nI i).toNatClampNeg)))), (a 9, .inl (cI, 6, .inl (mm.2 9))), (a 10, .inl (cI, 6, .inl (mm.2 10))), (a 11, .inl (cZ, 2, .inl (mm.2 11))), (a 12, .inl (cI, 66, .inl (mm.2 12))), (a 14, .inl (cI, 100, .inl (mm.2 14))), (a 21, .inl (cI, 3, .inl (mm.2 21))), (a 22, .inl (cI, 3, .inl (mm.2 22))), (a 23, .inl (cI, 3, .inl (mm.2 23))), (a 24, .inl (cI, 33, .inl (mm.2 24))), (a 29, .inl (cI, 11, .inl (mm.2 29))), (a 30, .inl (cI, 11, .inl (mm.2 30))), (a 31, .inl (cI, 11, .inl (mm.2 31))), (a 32, .inl (cI, 11, .inl (mm.2 32))), (a 34, .inl (cI, 11, .inl (mm.2 34))), (a 35, .inl (cI, 11, .inl (mm.2 35))), (a 36, .inl (cI, 1176, .inl (mm.2 36)))]) H := hP
        have hD : va_D A ([(a 0, .inr (10, [.int (mm.1 0), .ref (a 1), .ref (a 2), .ref (a 3), .ref (a 4), .int (mm.1 5), .int (mm.1 6), .ref (a 7), .int (mm.1 8), .ref (a 9), .ref (a 10), .ref (a 11), .ref (a 12), .int (mm.1 13), .ref (a 14), .int (mm.1 15), .int (mm.1 16), .int (mm.1 17), .int (mm.1 18), .int (mm.1 19), .int (mm.1 20), .ref (a 21), .ref (a 22), .ref (a 23), .ref (a 24), .int (mm.1 25), .int (mm.1 26), .int (mm.1 27), .int (mm.1 28), .ref (a 29), .ref (a 30), .ref (a 31), .ref (a 32), .int (mm.1 33), .ref (a 34), .ref (a 35), .ref (a 36)])), (a 1, .inl (cI, 3, .inl (mm.2 1))), (a 2, .inl (cI, 3, .inl (mm.2 2))), (a 3, .inl (cI, 3, .inl (mm.2 3))), (a 4, .inl (cI, 33, .inl (mm.2 4))), (a 7, .inl (cI, 330, .inl (upd (rmL (mm.2 7) (mm.2 4) (mm.1 6) i) (((33 * (mm.1 6)) + (nI i)).toNatClampNeg) ((mm.2 4) (nI i).toNatClampNeg)))), (a 9, .inl (cI, 6, .inl (mm.2 9))), (a 10, .inl (cI, 6, .inl (mm.2 10))), (a 11, .inl (cZ, 2, .inl (mm.2 11))), (a 12, .inl (cI, 66, .inl (mm.2 12))), (a 14, .inl (cI, 100, .inl (mm.2 14))), (a 21, .inl (cI, 3, .inl (mm.2 21))), (a 22, .inl (cI, 3, .inl (mm.2 22))), (a 23, .inl (cI, 3, .inl (mm.2 23))), (a 24, .inl (cI, 33, .inl (mm.2 24))), (a 29, .inl (cI, 11, .inl (mm.2 29))), (a 30, .inl (cI, 11, .inl (mm.2 30))), (a 31, .inl (cI, 11, .inl (mm.2 31))), (a 32, .inl (cI, 11, .inl (mm.2 32))), (a 34, .inl (cI, 11, .inl (mm.2 34))), (a 35, .inl (cI, 11, .inl (mm.2 35))), (a 36, .inl (cI, 1176, .inl (mm.2 36)))]) := hD
        refine lv_iinc (v := ((nI i) + 1)) (lv' := [(1, .int ((nI i) + 1)), (0, .ref (a 0))]) hx hb dX10_remember_28 hl (k := 1) rfl rfl (by decide) rfl (fun ls hl => ?_)
        rw [show nI i + 1 = nI (i + 1) from nI_1 _] at hl
        have hl : lv_has ls 2 [(1, .int (nI (i + 1))), (0, .ref (a 0))] := hl
        refine lv_goto (tgt := 2) hx hb dX10_remember_31 (by decide) ?_
        have em_2_7 : (rmL (mm.2 7) (mm.2 4) (mm.1 6) (i + 1)) = (upd (rmL (mm.2 7) (mm.2 4) (mm.1 6) i) (((33 * (mm.1 6)) + (nI i)).toNatClampNeg) ((mm.2 4) (nI i).toNatClampNeg)) := by rfl
        have hP : va_P D vwCl (wM a cI cZ (mF mm 7 (upd (rmL (mm.2 7) (mm.2 4) (mm.1 6) i) (((33 * (mm.1 6)) + (nI i)).toNatClampNeg) ((mm.2 4) (nI i).toNatClampNeg)))) H := hP
        have hD : va_D A (wM a cI cZ (mF mm 7 (upd (rmL (mm.2 7) (mm.2 4) (mm.1 6) i) (((33 * (mm.1 6)) + (nI i)).toNatClampNeg) ((mm.2 4) (nI i).toNatClampNeg)))) := hD
        have eM_2 : (mF mm 7 (rmL (mm.2 7) (mm.2 4) (mm.1 6) (i + 1))) = (mF mm 7 (upd (rmL (mm.2 7) (mm.2 4) (mm.1 6) i) (((33 * (mm.1 6)) + (nI i)).toNatClampNeg) ((mm.2 4) (nI i).toNatClampNeg))) := (mF_c rfl em_2_7)
        rw [← eM_2] at hP hD
        exact LB_2 (i + 1) (by omega) (by omega) H locs hP hD hS ls (lv_sub hl [1, 0] rfl)
  have em_2_7 : (rmL (mm.2 7) (mm.2 4) (mm.1 6) 0) = (mm.2 7) := by rfl
  have hP : va_P D vwCl (wM a cI cZ (mF mm 7 (mm.2 7))) H := hP
  have hD : va_D A (wM a cI cZ (mF mm 7 (mm.2 7))) := hD
  have eM_2 : (mF mm 7 (rmL (mm.2 7) (mm.2 4) (mm.1 6) 0)) = (mF mm 7 (mm.2 7)) := (mF_c rfl em_2_7)
  rw [← eM_2] at hP hD
  exact LB_2 (33 + 1) 0 (by omega) (by omega) H locs hP hD hS ls (lv_sub hl [1, 0] rfl)
abbrev rm_X10_mirrors : Room := { frames := 2, cells := 0, slots := 0, locals := 43 }
set_option maxHeartbeats 4000000 in
set_option maxRecDepth 100000 in
theorem c_X10_mirrors (l : Launch) (D : va_G) (cI cJ cZ : ClassId) (a : Nat → Nat) (sz : Nat) (mm : MS) (d : Int32) (h0m : 0 ≤ (mm.1 0).toInt) (h3m : (mm.1 0).toInt ≤ 3) (h0u : 0 ≤ (mm.1 6).toInt) (h9u : (mm.1 6).toInt < 10) (hnw : NwOk (mm.2 4)) : Met l yX10_mirrors wsX10_mirrors rm_X10_mirrors (va_Pc [.ref (a 0), .int d] (PU D (tyL cI cJ cZ) (wM a cI cZ mm) sz)) (va_Qi (fun (rz : Int32) (uz : MS) => rz = (if inR d 0 ((mm.1 0) - 1) = true then ((mm.2 4) (11 * d).toNatClampNeg) else -1) ∧ uz = (mF (mS (mS (mF mm 7 (if inR d 0 ((mm.1 0) - 1) = true then (rmL (mm.2 7) (mm.2 4) (mm.1 6) 33) else (mm.2 7))) 6 (if inR d 0 ((mm.1 0) - 1) = true then (yUa (mm.1 6)) else (mm.1 6))) 5 (if inR d 0 ((mm.1 0) - 1) = true then (yUm (mm.1 5)) else (mm.1 5))) 4 (if inR d 0 ((mm.1 0) - 1) = true then (miL (mm.2 4) d ((mm.2 4) (11 * d).toNatClampNeg).toNatClampNeg) else (mm.2 4)))) (fun uz => BU D (wM a cI cZ uz) (va_A (wM a cI cZ mm) sz)) (va_A (wM a cI cZ mm) sz)) 0 0 (va_A (wM a cI cZ mm) sz) := by
  refine en (own := RX10) (Qc := fun A => va_Qi (fun (rz : Int32) (uz : MS) => rz = (if inR d 0 ((mm.1 0) - 1) = true then ((mm.2 4) (11 * d).toNatClampNeg) else -1) ∧ uz = (mF (mS (mS (mF mm 7 (if inR d 0 ((mm.1 0) - 1) = true then (rmL (mm.2 7) (mm.2 4) (mm.1 6) 33) else (mm.2 7))) 6 (if inR d 0 ((mm.1 0) - 1) = true then (yUa (mm.1 6)) else (mm.1 6))) 5 (if inR d 0 ((mm.1 0) - 1) = true then (yUm (mm.1 5)) else (mm.1 5))) 4 (if inR d 0 ((mm.1 0) - 1) = true then (miL (mm.2 4) d ((mm.2 4) (11 * d).toNatClampNeg).toNatClampNeg) else (mm.2 4)))) (fun uz => BU D (wM a cI cZ uz) A) A) (by decide) rfl (Nat.le_of_ble_eq_true rfl) rfl ?_
  intro p e s m args below meth c A Q H locs ls hx hb hr hml hown hts hlocks hname hA hN hE hK hQ hP hD hS hl
  have hl : lv_has ls 3 [(0, .ref (a 0)), (1, .int d)] := hl
  have fl_19 := hts (.fieldLink RX10 19 "DanceStaffsModel" "now" "[I") (by decide +kernel)
  have hin_10 : ∀ w ∈ u_ws RX10 TX10 37, w ∈ wsX10_mirrors := by decide +kernel
  refine lv_aload_n hx hb dX10_mirrors_0 rfl (lv_at hl 0 rfl) ?_
  refine lv_iload_n hx hb dX10_mirrors_1 rfl (lv_at hl 1 rfl) ?_
  refine sw_i (va_runV (As := [.int d]) (rest := []) ⟨hx, hb, hml, hown, hts⟩ (c_X10_isDancer l D cI cJ cZ a H.size mm d) (cwV 1 hts gX10_mirrors_X10_isDancer rfl rfl rfl (by decide +kernel) ⟨Nat.le_of_ble_eq_true rfl, Nat.le_of_ble_eq_true rfl⟩) (pr_V hP hD hK hN hE hS hA [0, 1, 2, 3, 4, 5, 6, 7, 8, 9, 10, 11, 12, 13, 14, 15, 16, 17, 18, 19, 20, 21] (by decide) rfl (ci := 10) (q0 := 0) rfl rfl) rfl rfl hl.1 rfl (lv_room (Nat.le_of_ble_eq_true rfl)) dX10_mirrors_2 ⟨Nat.zero_le _, Nat.zero_le _⟩) hD hS hA (fun r_2 u_2 H locs hw_2 hP hD hS => ?_)
  have hr_2 : r_2 = bI (inR d 0 ((mm.1 0) - 1)) := hw_2
  refine lv_if_ne (tgt := 10) hx hb dX10_mirrors_5 (by decide) (fun c_5 => ?_) (fun c_5 => ?_)
  · have b_5 : (inR d 0 ((mm.1 0) - 1)) = true := bI_1 (fun q => c_5 (hr_2.trans q))
    obtain ⟨a1, a2⟩ := dn_in b_5 h0m h3m
    have hl1 := hnw.at a1 a2
    have hcl := clampT hl1.1
    refine lv_aload_n hx hb dX10_mirrors_10 rfl (lv_at hl 0 rfl) ?_
    refine sw_v (va_runV (As := []) (rest := []) ⟨hx, hb, hml, hown, hts⟩ (c_X10_remember l D cI cJ cZ a H.size mm (h0u) (h9u)) (cwV 0 hts gX10_mirrors_X10_remember rfl rfl rfl (by decide +kernel) ⟨Nat.le_of_ble_eq_true rfl, Nat.le_of_ble_eq_true rfl⟩) (pr_V hP hD hK hN hE hS hA [0, 1, 2, 3, 4, 5, 6, 7, 8, 9, 10, 11, 12, 13, 14, 15, 16, 17, 18, 19, 20, 21] (by decide) rfl (ci := 10) (q0 := 0) rfl rfl) rfl rfl hl.1 rfl (lv_room (Nat.le_of_ble_eq_true rfl)) dX10_mirrors_11 ⟨Nat.zero_le _, Nat.zero_le _⟩) hD hS hA (fun u_11 H locs hw_11 hP hD hS => ?_)
    obtain rfl := hw_11
    have hP : va_P D vwCl ([(a 0, .inr (10, [.int (mm.1 0), .ref (a 1), .ref (a 2), .ref (a 3), .ref (a 4), .int (yUm (mm.1 5)), .int (yUa (mm.1 6)), .ref (a 7), .int (mm.1 8), .ref (a 9), .ref (a 10), .ref (a 11), .ref (a 12), .int (mm.1 13), .ref (a 14), .int (mm.1 15), .int (mm.1 16), .int (mm.1 17), .int (mm.1 18), .int (mm.1 19), .int (mm.1 20), .ref (a 21), .ref (a 22), .ref (a 23), .ref (a 24), .int (mm.1 25), .int (mm.1 26), .int (mm.1 27), .int (mm.1 28), .ref (a 29), .ref (a 30), .ref (a 31), .ref (a 32), .int (mm.1 33), .ref (a 34), .ref (a 35), .ref (a 36)])), (a 1, .inl (cI, 3, .inl (mm.2 1))), (a 2, .inl (cI, 3, .inl (mm.2 2))), (a 3, .inl (cI, 3, .inl (mm.2 3))), (a 4, .inl (cI, 33, .inl (mm.2 4))), (a 7, .inl (cI, 330, .inl (rmL (mm.2 7) (mm.2 4) (mm.1 6) 33))), (a 9, .inl (cI, 6, .inl (mm.2 9))), (a 10, .inl (cI, 6, .inl (mm.2 10))), (a 11, .inl (cZ, 2, .inl (mm.2 11))), (a 12, .inl (cI, 66, .inl (mm.2 12))), (a 14, .inl (cI, 100, .inl (mm.2 14))), (a 21, .inl (cI, 3, .inl (mm.2 21))), (a 22, .inl (cI, 3, .inl (mm.2 22))), (a 23, .inl (cI, 3, .inl (mm.2 23))), (a 24, .inl (cI, 33, .inl (mm.2 24))), (a 29, .inl (cI, 11, .inl (mm.2 29))), (a 30, .inl (cI, 11, .inl (mm.2 30))), (a 31, .inl (cI, 11, .inl (mm.2 31))), (a 32, .inl (cI, 11, .inl (mm.2 32))), (a 34, .inl (cI, 11, .inl (mm.2 34))), (a 35, .inl (cI, 11, .inl (mm.2 35))), (a 36, .inl (cI, 1176, .inl (mm.2 36)))]) H := hP
    have hD : va_D A ([(a 0, .inr (10, [.int (mm.1 0), .ref (a 1), .ref (a 2), .ref (a 3), .ref (a 4), .int (yUm (mm.1 5)), .int (yUa (mm.1 6)), .ref (a 7), .int (mm.1 8), .ref (a 9), .ref (a 10), .ref (a 11), .ref (a 12), .int (mm.1 13), .ref (a 14), .int (mm.1 15), .int (mm.1 16), .int (mm.1 17), .int (mm.1 18), .int (mm.1 19), .int (mm.1 20), .ref (a 21), .ref (a 22), .ref (a 23), .ref (a 24), .int (mm.1 25), .int (mm.1 26), .int (mm.1 27), .int (mm.1 28), .ref (a 29), .ref (a 30), .ref (a 31), .ref (a 32), .int (mm.1 33), .ref (a 34), .ref (a 35), .ref (a 36)])), (a 1, .inl (cI, 3, .inl (mm.2 1))), (a 2, .inl (cI, 3, .inl (mm.2 2))), (a 3, .inl (cI, 3, .inl (mm.2 3))), (a 4, .inl (cI, 33, .inl (mm.2 4))), (a 7, .inl (cI, 330, .inl (rmL (mm.2 7) (mm.2 4) (mm.1 6) 33))), (a 9, .inl (cI, 6, .inl (mm.2 9))), (a 10, .inl (cI, 6, .inl (mm.2 10))), (a 11, .inl (cZ, 2, .inl (mm.2 11))), (a 12, .inl (cI, 66, .inl (mm.2 12))), (a 14, .inl (cI, 100, .inl (mm.2 14))), (a 21, .inl (cI, 3, .inl (mm.2 21))), (a 22, .inl (cI, 3, .inl (mm.2 22))), (a 23, .inl (cI, 3, .inl (mm.2 23))), (a 24, .inl (cI, 33, .inl (mm.2 24))), (a 29, .inl (cI, 11, .inl (mm.2 29))), (a 30, .inl (cI, 11, .inl (mm.2 30))), (a 31, .inl (cI, 11, .inl (mm.2 31))), (a 32, .inl (cI, 11, .inl (mm.2 32))), (a 34, .inl (cI, 11, .inl (mm.2 34))), (a 35, .inl (cI, 11, .inl (mm.2 35))), (a 36, .inl (cI, 1176, .inl (mm.2 36)))]) := hD
    refine lv_iconst (v := 0) hx hb dX10_mirrors_14 (by decide) ?_
    refine lv_istore_n (lv' := [(2, .int 0), (0, .ref (a 0)), (1, .int d)]) hx hb dX10_mirrors_15 rfl hl (by decide) rfl (fun ls hl => ?_)
    have LB_16 : ∀ (n : Nat) (i : Nat) (hn_i : ((mm.2 4) (11 * d).toNatClampNeg).toNatClampNeg < i + n) (hi_i : i ≤ ((mm.2 4) (11 * d).toNatClampNeg).toNatClampNeg) (H : Heap) (locs : List Loc) (_ : va_P D vwCl (wM a cI cZ (mF (mS (mS (mF mm 7 (rmL (mm.2 7) (mm.2 4) (mm.1 6) 33)) 6 (yUa (mm.1 6))) 5 (yUm (mm.1 5))) 4 (miL (mm.2 4) d i))) H) (_ : va_D A (wM a cI cZ (mF (mS (mS (mF mm 7 (rmL (mm.2 7) (mm.2 4) (mm.1 6) 33)) 6 (yUa (mm.1 6))) 5 (yUm (mm.1 5))) 4 (miL (mm.2 4) d i)))) (_ : va_S A s.heap H locs) (ls : Array Slot) (_ : lv_has ls 3 [(0, .ref (a 0)), (1, .int d), (2, .int (nI i))]), W p l e rm_X10_mirrors s m args below meth c H locs 0 0 Q (F0 m 16 ls []) := by
      intro n
      induction n with
      | zero =>
        intro i hn_i hi_i
        exact absurd hn_i (by omega)
      | succ n LB_16 =>
        intro i hn_i hi_i H locs hP hD hS ls hl
        have hP : va_P D vwCl ([(a 0, .inr (10, [.int (mm.1 0), .ref (a 1), .ref (a 2), .ref (a 3), .ref (a 4), .int (yUm (mm.1 5)), .int (yUa (mm.1 6)), .ref (a 7), .int (mm.1 8), .ref (a 9), .ref (a 10), .ref (a 11), .ref (a 12), .int (mm.1 13), .ref (a 14), .int (mm.1 15), .int (mm.1 16), .int (mm.1 17), .int (mm.1 18), .int (mm.1 19), .int (mm.1 20), .ref (a 21), .ref (a 22), .ref (a 23), .ref (a 24), .int (mm.1 25), .int (mm.1 26), .int (mm.1 27), .int (mm.1 28), .ref (a 29), .ref (a 30), .ref (a 31), .ref (a 32), .int (mm.1 33), .ref (a 34), .ref (a 35), .ref (a 36)])), (a 1, .inl (cI, 3, .inl (mm.2 1))), (a 2, .inl (cI, 3, .inl (mm.2 2))), (a 3, .inl (cI, 3, .inl (mm.2 3))), (a 4, .inl (cI, 33, .inl (miL (mm.2 4) d i))), (a 7, .inl (cI, 330, .inl (rmL (mm.2 7) (mm.2 4) (mm.1 6) 33))), (a 9, .inl (cI, 6, .inl (mm.2 9))), (a 10, .inl (cI, 6, .inl (mm.2 10))), (a 11, .inl (cZ, 2, .inl (mm.2 11))), (a 12, .inl (cI, 66, .inl (mm.2 12))), (a 14, .inl (cI, 100, .inl (mm.2 14))), (a 21, .inl (cI, 3, .inl (mm.2 21))), (a 22, .inl (cI, 3, .inl (mm.2 22))), (a 23, .inl (cI, 3, .inl (mm.2 23))), (a 24, .inl (cI, 33, .inl (mm.2 24))), (a 29, .inl (cI, 11, .inl (mm.2 29))), (a 30, .inl (cI, 11, .inl (mm.2 30))), (a 31, .inl (cI, 11, .inl (mm.2 31))), (a 32, .inl (cI, 11, .inl (mm.2 32))), (a 34, .inl (cI, 11, .inl (mm.2 34))), (a 35, .inl (cI, 11, .inl (mm.2 35))), (a 36, .inl (cI, 1176, .inl (mm.2 36)))]) H := hP
        have hD : va_D A ([(a 0, .inr (10, [.int (mm.1 0), .ref (a 1), .ref (a 2), .ref (a 3), .ref (a 4), .int (yUm (mm.1 5)), .int (yUa (mm.1 6)), .ref (a 7), .int (mm.1 8), .ref (a 9), .ref (a 10), .ref (a 11), .ref (a 12), .int (mm.1 13), .ref (a 14), .int (mm.1 15), .int (mm.1 16), .int (mm.1 17), .int (mm.1 18), .int (mm.1 19), .int (mm.1 20), .ref (a 21), .ref (a 22), .ref (a 23), .ref (a 24), .int (mm.1 25), .int (mm.1 26), .int (mm.1 27), .int (mm.1 28), .ref (a 29), .ref (a 30), .ref (a 31), .ref (a 32), .int (mm.1 33), .ref (a 34), .ref (a 35), .ref (a 36)])), (a 1, .inl (cI, 3, .inl (mm.2 1))), (a 2, .inl (cI, 3, .inl (mm.2 2))), (a 3, .inl (cI, 3, .inl (mm.2 3))), (a 4, .inl (cI, 33, .inl (miL (mm.2 4) d i))), (a 7, .inl (cI, 330, .inl (rmL (mm.2 7) (mm.2 4) (mm.1 6) 33))), (a 9, .inl (cI, 6, .inl (mm.2 9))), (a 10, .inl (cI, 6, .inl (mm.2 10))), (a 11, .inl (cZ, 2, .inl (mm.2 11))), (a 12, .inl (cI, 66, .inl (mm.2 12))), (a 14, .inl (cI, 100, .inl (mm.2 14))), (a 21, .inl (cI, 3, .inl (mm.2 21))), (a 22, .inl (cI, 3, .inl (mm.2 22))), (a 23, .inl (cI, 3, .inl (mm.2 23))), (a 24, .inl (cI, 33, .inl (mm.2 24))), (a 29, .inl (cI, 11, .inl (mm.2 29))), (a 30, .inl (cI, 11, .inl (mm.2 30))), (a 31, .inl (cI, 11, .inl (mm.2 31))), (a 32, .inl (cI, 11, .inl (mm.2 32))), (a 34, .inl (cI, 11, .inl (mm.2 34))), (a 35, .inl (cI, 11, .inl (mm.2 35))), (a 36, .inl (cI, 1176, .inl (mm.2 36)))]) := hD
        refine lv_iload_n hx hb dX10_mirrors_16 rfl (lv_at hl 2 rfl) ?_
        refine lv_aload_n hx hb dX10_mirrors_17 rfl (lv_at hl 0 rfl) ?_
        refine lv_iload_n hx hb dX10_mirrors_18 rfl (lv_at hl 1 rfl) ?_
        refine sw_i (va_runV (As := [.int d]) (rest := [.int (nI i)]) ⟨hx, hb, hml, hown, hts⟩ (c_X10_sizeOf l D cI cJ cZ a H.size (mF (mF (mS (mS mm 5 (yUm (mm.1 5))) 6 (yUa (mm.1 6))) 4 (miL (mm.2 4) d i)) 7 (rmL (mm.2 7) (mm.2 4) (mm.1 6) 33)) d (a1) (a2)) (cwV 1 hts gX10_mirrors_X10_sizeOf rfl rfl rfl (by decide +kernel) ⟨Nat.le_of_ble_eq_true rfl, Nat.le_of_ble_eq_true rfl⟩) (pr_V hP hD hK hN hE hS hA [0, 1, 2, 3, 4, 5, 6, 7, 8, 9, 10, 11, 12, 13, 14, 15, 16, 17, 18, 19, 20, 21] (by decide) rfl (ci := 10) (q0 := 0) rfl rfl) rfl rfl hl.1 rfl (lv_room (Nat.le_of_ble_eq_true rfl)) dX10_mirrors_19 ⟨Nat.zero_le _, Nat.zero_le _⟩) hD hS hA (fun r_19 u_19 H locs hw_19 hP hD hS => ?_)
        have hr_19 : r_19 = ((miL (mm.2 4) d i) (11 * d).toNatClampNeg) := hw_19
        refine lv_icmp_ge (tgt := 53) hx hb dX10_mirrors_22 (by decide) (fun c_22 => ?_) (fun c_22 => ?_)
        · have i_22 := i_le c_22
          rw [hr_19, miL_sz _ a1 a2 i (by omega)] at i_22
          rw [nIT (by omega)] at i_22
          have e_22 : i = ((mm.2 4) (11 * d).toNatClampNeg).toNatClampNeg := by omega
          refine lv_aload_n hx hb dX10_mirrors_53 rfl (lv_at hl 0 rfl) ?_
          refine lv_iload_n hx hb dX10_mirrors_54 rfl (lv_at hl 1 rfl) ?_
          refine sw_i (va_runV (As := [.int d]) (rest := []) ⟨hx, hb, hml, hown, hts⟩ (c_X10_sizeOf l D cI cJ cZ a H.size (mF (mF (mS (mS mm 5 (yUm (mm.1 5))) 6 (yUa (mm.1 6))) 4 (miL (mm.2 4) d i)) 7 (rmL (mm.2 7) (mm.2 4) (mm.1 6) 33)) d (a1) (a2)) (cwV 1 hts gX10_mirrors_X10_sizeOf rfl rfl rfl (by decide +kernel) ⟨Nat.le_of_ble_eq_true rfl, Nat.le_of_ble_eq_true rfl⟩) (pr_V hP hD hK hN hE hS hA [0, 1, 2, 3, 4, 5, 6, 7, 8, 9, 10, 11, 12, 13, 14, 15, 16, 17, 18, 19, 20, 21] (by decide) rfl (ci := 10) (q0 := 0) rfl rfl) rfl rfl hl.1 rfl (lv_room (Nat.le_of_ble_eq_true rfl)) dX10_mirrors_55 ⟨Nat.zero_le _, Nat.zero_le _⟩) hD hS hA (fun r_55 u_55 H locs hw_55 hP hD hS => ?_)
          have hr_55 : r_55 = ((miL (mm.2 4) d i) (11 * d).toNatClampNeg) := hw_55
          have em_58_7 : (if inR d 0 ((mm.1 0) - 1) = true then (rmL (mm.2 7) (mm.2 4) (mm.1 6) 33) else (mm.2 7)) = (rmL (mm.2 7) (mm.2 4) (mm.1 6) 33) := by first | (simp only [b_5, if_pos c_22, ↓reduceIte, reduceCtorEq]; done) | (simp only [b_5, if_pos c_22, e_22, ↓reduceIte]; done)
          have em_58_6 : (if inR d 0 ((mm.1 0) - 1) = true then (yUa (mm.1 6)) else (mm.1 6)) = (yUa (mm.1 6)) := by first | (simp only [b_5, if_pos c_22, ↓reduceIte, reduceCtorEq]; done) | (simp only [b_5, if_pos c_22, e_22, ↓reduceIte]; done)
          have em_58_5 : (if inR d 0 ((mm.1 0) - 1) = true then (yUm (mm.1 5)) else (mm.1 5)) = (yUm (mm.1 5)) := by first | (simp only [b_5, if_pos c_22, ↓reduceIte, reduceCtorEq]; done) | (simp only [b_5, if_pos c_22, e_22, ↓reduceIte]; done)
          have em_58_4 : (if inR d 0 ((mm.1 0) - 1) = true then (miL (mm.2 4) d ((mm.2 4) (11 * d).toNatClampNeg).toNatClampNeg) else (mm.2 4)) = (miL (mm.2 4) d i) := by first | (simp only [b_5, if_pos c_22, ↓reduceIte, reduceCtorEq]; done) | (simp only [b_5, if_pos c_22, e_22, ↓reduceIte]; done)
          have hP : va_P D vwCl (wM a cI cZ (mF (mS (mS (mF mm 7 (rmL (mm.2 7) (mm.2 4) (mm.1 6) 33)) 6 (yUa (mm.1 6))) 5 (yUm (mm.1 5))) 4 (miL (mm.2 4) d i))) H := hP
          have hD : va_D A (wM a cI cZ (mF (mS (mS (mF mm 7 (rmL (mm.2 7) (mm.2 4) (mm.1 6) 33)) 6 (yUa (mm.1 6))) 5 (yUm (mm.1 5))) 4 (miL (mm.2 4) d i))) := hD
          have eM_58 : (mF (mS (mS (mF mm 7 (if inR d 0 ((mm.1 0) - 1) = true then (rmL (mm.2 7) (mm.2 4) (mm.1 6) 33) else (mm.2 7))) 6 (if inR d 0 ((mm.1 0) - 1) = true then (yUa (mm.1 6)) else (mm.1 6))) 5 (if inR d 0 ((mm.1 0) - 1) = true then (yUm (mm.1 5)) else (mm.1 5))) 4 (if inR d 0 ((mm.1 0) - 1) = true then (miL (mm.2 4) d ((mm.2 4) (11 * d).toNatClampNeg).toNatClampNeg) else (mm.2 4))) = (mF (mS (mS (mF mm 7 (rmL (mm.2 7) (mm.2 4) (mm.1 6) 33)) 6 (yUa (mm.1 6))) 5 (yUm (mm.1 5))) 4 (miL (mm.2 4) d i)) := (mF_c (mS_c (mS_c (mF_c rfl em_58_7) em_58_6) em_58_5) em_58_4)
          rw [← eM_58] at hP hD
          exact lf_i hx hb hr hlocks hQ (mF (mS (mS (mF mm 7 (if inR d 0 ((mm.1 0) - 1) = true then (rmL (mm.2 7) (mm.2 4) (mm.1 6) 33) else (mm.2 7))) 6 (if inR d 0 ((mm.1 0) - 1) = true then (yUa (mm.1 6)) else (mm.1 6))) 5 (if inR d 0 ((mm.1 0) - 1) = true then (yUm (mm.1 5)) else (mm.1 5))) 4 (if inR d 0 ((mm.1 0) - 1) = true then (miL (mm.2 4) d ((mm.2 4) (11 * d).toNatClampNeg).toNatClampNeg) else (mm.2 4))) hP hD hS dX10_mirrors_58 ⟨(by rw [hr_55, if_pos b_5, miL_sz _ a1 a2 i (by omega)]), rfl⟩
        · have i_22 := i_nle c_22
          rw [hr_19, miL_sz _ a1 a2 i (by omega)] at i_22
          rw [nIT (by omega)] at i_22
          refine lv_aload_n hx hb dX10_mirrors_25 rfl (lv_at hl 0 rfl) ?_
          refine va_get (D := D) (ci := 10) (v := .ref (a 4)) (C := RX10) (T := TX10) (N := 37) hx hb hts hin_10 hown hK hP 0 rfl rfl 4 (by decide) fl_19 (fun _ h9 => h9) rfl dX10_mirrors_26 ?_
          refine lv_bipush (v := 11) hx hb dX10_mirrors_29 (by decide) ?_
          refine lv_iload_n hx hb dX10_mirrors_31 rfl (lv_at hl 1 rfl) ?_
          refine lv_imul hx hb dX10_mirrors_32 ?_
          refine lv_iconst (v := 1) hx hb dX10_mirrors_33 (by decide) ?_
          refine lv_iadd hx hb dX10_mirrors_34 ?_
          refine lv_iload_n hx hb dX10_mirrors_35 rfl (lv_at hl 2 rfl) ?_
          refine lv_iadd hx hb dX10_mirrors_36 ?_
          refine lv_aload_n hx hb dX10_mirrors_37 rfl (lv_at hl 0 rfl) ?_
          refine lv_iload_n hx hb dX10_mirrors_38 rfl (lv_at hl 1 rfl) ?_
          refine lv_iload_n hx hb dX10_mirrors_39 rfl (lv_at hl 2 rfl) ?_
          refine sw_i (va_runV (As := [.int d, .int (nI i)]) (rest := [.int (((11 * d) + 1) + (nI i)), .ref (a 4)]) ⟨hx, hb, hml, hown, hts⟩ (c_X10_signOf l D cI cJ cZ a H.size (mF (mF (mS (mS mm 5 (yUm (mm.1 5))) 6 (yUa (mm.1 6))) 4 (miL (mm.2 4) d i)) 7 (rmL (mm.2 7) (mm.2 4) (mm.1 6) 33)) d (nI i) (a1) (a2) ((nIb (by omega)).1) ((nIb (by omega)).2)) (cwV 2 hts gX10_mirrors_X10_signOf rfl rfl rfl (by decide +kernel) ⟨Nat.le_of_ble_eq_true rfl, Nat.le_of_ble_eq_true rfl⟩) (pr_V hP hD hK hN hE hS hA [0, 1, 2, 3, 4, 5, 6, 7, 8, 9, 10, 11, 12, 13, 14, 15, 16, 17, 18, 19, 20, 21] (by decide) rfl (ci := 10) (q0 := 0) rfl rfl) rfl rfl hl.1 rfl (lv_room (Nat.le_of_ble_eq_true rfl)) dX10_mirrors_40 ⟨Nat.zero_le _, Nat.zero_le _⟩) hD hS hA (fun r_40 u_40 H locs hw_40 hP hD hS => ?_)
          have hr_40 : r_40 = ((miL (mm.2 4) d i) (11 * d + 1 + (nI i)).toNatClampNeg) := hw_40
          refine st_i (va_runS (As := [.int r_40]) (rest := [.int (((11 * d) + 1) + (nI i)), .ref (a 4)]) ⟨hx, hb, hml, hown, hts⟩ (c_X10_mirrored l D cI cJ cZ H.size r_40) (va_cwS 1 hts gX10_mirrors_X10_mirrored rfl rfl rfl (by decide +kernel) ⟨Nat.le_of_ble_eq_true rfl, Nat.le_of_ble_eq_true rfl⟩) (pr_S hP hD hK hN hE hS hA [] (by decide) rfl) rfl rfl hl.1 rfl (lv_room (Nat.le_of_ble_eq_true rfl)) dX10_mirrors_43 ⟨Nat.zero_le _, Nat.zero_le _⟩) hP hS hA (fun r_43 u_43 H locs hw_43 hP hS => ?_)
          have hr_43 := hw_43
          refine va_iast (D := D) (f := (miL (mm.2 4) d i)) hx hb hK hP hD hS 4 0 rfl rfl (in11b a1 a2 (nIb (by omega)).1 (nIb (by omega)).2) dX10_mirrors_46 (fun H locs hP hD hS => ?_)
          have hP : va_P D vwCl ([(a 0, .inr (10, [.int (mm.1 0), .ref (a 1), .ref (a 2), .ref (a 3), .ref (a 4), .int (yUm (mm.1 5)), .int (yUa (mm.1 6)), .ref (a 7), .int (mm.1 8), .ref (a 9), .ref (a 10), .ref (a 11), .ref (a 12), .int (mm.1 13), .ref (a 14), .int (mm.1 15), .int (mm.1 16), .int (mm.1 17), .int (mm.1 18), .int (mm.1 19), .int (mm.1 20), .ref (a 21), .ref (a 22), .ref (a 23), .ref (a 24), .int (mm.1 25), .int (mm.1 26), .int (mm.1 27), .int (mm.1 28), .ref (a 29), .ref (a 30), .ref (a 31), .ref (a 32), .int (mm.1 33), .ref (a 34), .ref (a 35), .ref (a 36)])), (a 1, .inl (cI, 3, .inl (mm.2 1))), (a 2, .inl (cI, 3, .inl (mm.2 2))), (a 3, .inl (cI, 3, .inl (mm.2 3))), (a 4, .inl (cI, 33, .inl (upd (miL (mm.2 4) d i) ((((11 * d) + 1) + (nI i)).toNatClampNeg) r_43))), (a 7, .inl (cI, 330, .inl (rmL (mm.2 7) (mm.2 4) (mm.1 6) 33))), (a 9, .inl (cI, 6, .inl (mm.2 9))), (a 10, .inl (cI, 6, .inl (mm.2 10))), (a 11, .inl (cZ, 2, .inl (mm.2 11))), (a 12, .inl (cI, 66, .inl (mm.2 12))), (a 14, .inl (cI, 100, .inl (mm.2 14))), (a 21, .inl (cI, 3, .inl (mm.2 21))), (a 22, .inl (cI, 3, .inl (mm.2 22))), (a 23, .inl (cI, 3, .inl (mm.2 23))), (a 24, .inl (cI, 33, .inl (mm.2 24))), (a 29, .inl (cI, 11, .inl (mm.2 29))), (a 30, .inl (cI, 11, .inl (mm.2 30))), (a 31, .inl (cI, 11, .inl (mm.2 31))), (a 32, .inl (cI, 11, .inl (mm.2 32))), (a 34, .inl (cI, 11, .inl (mm.2 34))), (a 35, .inl (cI, 11, .inl (mm.2 35))), (a 36, .inl (cI, 1176, .inl (mm.2 36)))]) H := hP
          have hD : va_D A ([(a 0, .inr (10, [.int (mm.1 0), .ref (a 1), .ref (a 2), .ref (a 3), .ref (a 4), .int (yUm (mm.1 5)), .int (yUa (mm.1 6)), .ref (a 7), .int (mm.1 8), .ref (a 9), .ref (a 10), .ref (a 11), .ref (a 12), .int (mm.1 13), .ref (a 14), .int (mm.1 15), .int (mm.1 16), .int (mm.1 17), .int (mm.1 18), .int (mm.1 19), .int (mm.1 20), .ref (a 21), .ref (a 22), .ref (a 23), .ref (a 24), .int (mm.1 25), .int (mm.1 26), .int (mm.1 27), .int (mm.1 28), .ref (a 29), .ref (a 30), .ref (a 31), .ref (a 32), .int (mm.1 33), .ref (a 34), .ref (a 35), .ref (a 36)])), (a 1, .inl (cI, 3, .inl (mm.2 1))), (a 2, .inl (cI, 3, .inl (mm.2 2))), (a 3, .inl (cI, 3, .inl (mm.2 3))), (a 4, .inl (cI, 33, .inl (upd (miL (mm.2 4) d i) ((((11 * d) + 1) + (nI i)).toNatClampNeg) r_43))), (a 7, .inl (cI, 330, .inl (rmL (mm.2 7) (mm.2 4) (mm.1 6) 33))), (a 9, .inl (cI, 6, .inl (mm.2 9))), (a 10, .inl (cI, 6, .inl (mm.2 10))), (a 11, .inl (cZ, 2, .inl (mm.2 11))), (a 12, .inl (cI, 66, .inl (mm.2 12))), (a 14, .inl (cI, 100, .inl (mm.2 14))), (a 21, .inl (cI, 3, .inl (mm.2 21))), (a 22, .inl (cI, 3, .inl (mm.2 22))), (a 23, .inl (cI, 3, .inl (mm.2 23))), (a 24, .inl (cI, 33, .inl (mm.2 24))), (a 29, .inl (cI, 11, .inl (mm.2 29))), (a 30, .inl (cI, 11, .inl (mm.2 30))), (a 31, .inl (cI, 11, .inl (mm.2 31))), (a 32, .inl (cI, 11, .inl (mm.2 32))), (a 34, .inl (cI, 11, .inl (mm.2 34))), (a 35, .inl (cI, 11, .inl (mm.2 35))), (a 36, .inl (cI, 1176, .inl (mm.2 36)))]) := hD
          refine lv_iinc (v := ((nI i) + 1)) (lv' := [(2, .int ((nI i) + 1)), (0, .ref (a 0)), (1, .int d)]) hx hb dX10_mirrors_47 hl (k := 2) rfl rfl (by decide) rfl (fun ls hl => ?_)
          rw [show nI i + 1 = nI (i + 1) from nI_1 _] at hl
          have hl : lv_has ls 3 [(2, .int (nI (i + 1))), (0, .ref (a 0)), (1, .int d)] := hl
          refine lv_goto (tgt := 16) hx hb dX10_mirrors_50 (by decide) ?_
          have em_16_4 : (miL (mm.2 4) d (i + 1)) = (upd (miL (mm.2 4) d i) ((((11 * d) + 1) + (nI i)).toNatClampNeg) r_43) := by rw [hr_43, hr_40]; rfl
          have hP : va_P D vwCl (wM a cI cZ (mF (mS (mS (mF mm 7 (rmL (mm.2 7) (mm.2 4) (mm.1 6) 33)) 6 (yUa (mm.1 6))) 5 (yUm (mm.1 5))) 4 (upd (miL (mm.2 4) d i) ((((11 * d) + 1) + (nI i)).toNatClampNeg) r_43))) H := hP
          have hD : va_D A (wM a cI cZ (mF (mS (mS (mF mm 7 (rmL (mm.2 7) (mm.2 4) (mm.1 6) 33)) 6 (yUa (mm.1 6))) 5 (yUm (mm.1 5))) 4 (upd (miL (mm.2 4) d i) ((((11 * d) + 1) + (nI i)).toNatClampNeg) r_43))) := hD
          have eM_16 : (mF (mS (mS (mF mm 7 (rmL (mm.2 7) (mm.2 4) (mm.1 6) 33)) 6 (yUa (mm.1 6))) 5 (yUm (mm.1 5))) 4 (miL (mm.2 4) d (i + 1))) = (mF (mS (mS (mF mm 7 (rmL (mm.2 7) (mm.2 4) (mm.1 6) 33)) 6 (yUa (mm.1 6))) 5 (yUm (mm.1 5))) 4 (upd (miL (mm.2 4) d i) ((((11 * d) + 1) + (nI i)).toNatClampNeg) r_43)) := (mF_c (mS_c (mS_c (mF_c rfl rfl) rfl) rfl) em_16_4)
          rw [← eM_16] at hP hD
          exact LB_16 (i + 1) (by omega) (by omega) H locs hP hD hS ls (lv_sub hl [1, 2, 0] rfl)
    have em_16_4 : (miL (mm.2 4) d 0) = (mm.2 4) := by rfl
    have hP : va_P D vwCl (wM a cI cZ (mF (mS (mS (mF mm 7 (rmL (mm.2 7) (mm.2 4) (mm.1 6) 33)) 6 (yUa (mm.1 6))) 5 (yUm (mm.1 5))) 4 (mm.2 4))) H := hP
    have hD : va_D A (wM a cI cZ (mF (mS (mS (mF mm 7 (rmL (mm.2 7) (mm.2 4) (mm.1 6) 33)) 6 (yUa (mm.1 6))) 5 (yUm (mm.1 5))) 4 (mm.2 4))) := hD
    have eM_16 : (mF (mS (mS (mF mm 7 (rmL (mm.2 7) (mm.2 4) (mm.1 6) 33)) 6 (yUa (mm.1 6))) 5 (yUm (mm.1 5))) 4 (miL (mm.2 4) d 0)) = (mF (mS (mS (mF mm 7 (rmL (mm.2 7) (mm.2 4) (mm.1 6) 33)) 6 (yUa (mm.1 6))) 5 (yUm (mm.1 5))) 4 (mm.2 4)) := (mF_c (mS_c (mS_c (mF_c rfl rfl) rfl) rfl) em_16_4)
    rw [← eM_16] at hP hD
    exact LB_16 (((mm.2 4) (11 * d).toNatClampNeg).toNatClampNeg + 1) 0 (by omega) (by omega) H locs hP hD hS ls (lv_sub hl [1, 2, 0] rfl)
  · have b_5 : (inR d 0 ((mm.1 0) - 1)) = false := bI_0 (hr_2.symm.trans c_5)
    refine lv_iconst (v := (-1)) hx hb dX10_mirrors_8 (by decide) ?_
    have em_9_7 : (if inR d 0 ((mm.1 0) - 1) = true then (rmL (mm.2 7) (mm.2 4) (mm.1 6) 33) else (mm.2 7)) = (mm.2 7) := by first | (simp only [b_5, ↓reduceIte, reduceCtorEq]; done) | (simp only [b_5, e_22, ↓reduceIte]; done)
    have em_9_6 : (if inR d 0 ((mm.1 0) - 1) = true then (yUa (mm.1 6)) else (mm.1 6)) = (mm.1 6) := by first | (simp only [b_5, ↓reduceIte, reduceCtorEq]; done) | (simp only [b_5, e_22, ↓reduceIte]; done)
    have em_9_5 : (if inR d 0 ((mm.1 0) - 1) = true then (yUm (mm.1 5)) else (mm.1 5)) = (mm.1 5) := by first | (simp only [b_5, ↓reduceIte, reduceCtorEq]; done) | (simp only [b_5, e_22, ↓reduceIte]; done)
    have em_9_4 : (if inR d 0 ((mm.1 0) - 1) = true then (miL (mm.2 4) d ((mm.2 4) (11 * d).toNatClampNeg).toNatClampNeg) else (mm.2 4)) = (mm.2 4) := by first | (simp only [b_5, ↓reduceIte, reduceCtorEq]; done) | (simp only [b_5, e_22, ↓reduceIte]; done)
    have hP : va_P D vwCl (wM a cI cZ (mF (mS (mS (mF mm 7 (mm.2 7)) 6 (mm.1 6)) 5 (mm.1 5)) 4 (mm.2 4))) H := hP
    have hD : va_D A (wM a cI cZ (mF (mS (mS (mF mm 7 (mm.2 7)) 6 (mm.1 6)) 5 (mm.1 5)) 4 (mm.2 4))) := hD
    have eM_9 : (mF (mS (mS (mF mm 7 (if inR d 0 ((mm.1 0) - 1) = true then (rmL (mm.2 7) (mm.2 4) (mm.1 6) 33) else (mm.2 7))) 6 (if inR d 0 ((mm.1 0) - 1) = true then (yUa (mm.1 6)) else (mm.1 6))) 5 (if inR d 0 ((mm.1 0) - 1) = true then (yUm (mm.1 5)) else (mm.1 5))) 4 (if inR d 0 ((mm.1 0) - 1) = true then (miL (mm.2 4) d ((mm.2 4) (11 * d).toNatClampNeg).toNatClampNeg) else (mm.2 4))) = (mF (mS (mS (mF mm 7 (mm.2 7)) 6 (mm.1 6)) 5 (mm.1 5)) 4 (mm.2 4)) := (mF_c (mS_c (mS_c (mF_c rfl em_9_7) em_9_6) em_9_5) em_9_4)
    rw [← eM_9] at hP hD
    exact lf_i hx hb hr hlocks hQ (mF (mS (mS (mF mm 7 (if inR d 0 ((mm.1 0) - 1) = true then (rmL (mm.2 7) (mm.2 4) (mm.1 6) 33) else (mm.2 7))) 6 (if inR d 0 ((mm.1 0) - 1) = true then (yUa (mm.1 6)) else (mm.1 6))) 5 (if inR d 0 ((mm.1 0) - 1) = true then (yUm (mm.1 5)) else (mm.1 5))) 4 (if inR d 0 ((mm.1 0) - 1) = true then (miL (mm.2 4) d ((mm.2 4) (11 * d).toNatClampNeg).toNatClampNeg) else (mm.2 4))) hP hD hS dX10_mirrors_9 ⟨(by simp only [b_5, ↓reduceIte, reduceCtorEq]), rfl⟩
abbrev rm_X10_changes : Room := { frames := 2, cells := 0, slots := 0, locals := 43 }
set_option maxHeartbeats 4000000 in
set_option maxRecDepth 100000 in
theorem c_X10_changes (l : Launch) (D : va_G) (cI cJ cZ : ClassId) (a : Nat → Nat) (sz : Nat) (mm : MS) (d : Int32) (b : Int32) (g : Int32) (h0m : 0 ≤ (mm.1 0).toInt) (h3m : (mm.1 0).toInt ≤ 3) (h0u : 0 ≤ (mm.1 6).toInt) (h9u : (mm.1 6).toInt < 10) (hnw : NwOk (mm.2 4)) : Met l yX10_changes wsX10_changes rm_X10_changes (va_Pc [.ref (a 0), .int d, .int b, .int g] (PU D (tyL cI cJ cZ) (wM a cI cZ mm) sz)) (va_Qi (fun (rz : Int32) (uz : MS) => rz = yCh (mm.1 0) (mm.2 4) d b g ∧ uz = (mF (mS (mS (mF mm 7 (if yChG (mm.1 0) (mm.2 4) d b g = true then (rmL (mm.2 7) (mm.2 4) (mm.1 6) 33) else (mm.2 7))) 6 (if yChG (mm.1 0) (mm.2 4) d b g = true then (yUa (mm.1 6)) else (mm.1 6))) 5 (if yChG (mm.1 0) (mm.2 4) d b g = true then (yUm (mm.1 5)) else (mm.1 5))) 4 (if yChG (mm.1 0) (mm.2 4) d b g = true then (upd (mm.2 4) (11 * d + 1 + b).toNatClampNeg g) else (mm.2 4)))) (fun uz => BU D (wM a cI cZ uz) (va_A (wM a cI cZ mm) sz)) (va_A (wM a cI cZ mm) sz)) 0 0 (va_A (wM a cI cZ mm) sz) := by
  refine en (own := RX10) (Qc := fun A => va_Qi (fun (rz : Int32) (uz : MS) => rz = yCh (mm.1 0) (mm.2 4) d b g ∧ uz = (mF (mS (mS (mF mm 7 (if yChG (mm.1 0) (mm.2 4) d b g = true then (rmL (mm.2 7) (mm.2 4) (mm.1 6) 33) else (mm.2 7))) 6 (if yChG (mm.1 0) (mm.2 4) d b g = true then (yUa (mm.1 6)) else (mm.1 6))) 5 (if yChG (mm.1 0) (mm.2 4) d b g = true then (yUm (mm.1 5)) else (mm.1 5))) 4 (if yChG (mm.1 0) (mm.2 4) d b g = true then (upd (mm.2 4) (11 * d + 1 + b).toNatClampNeg g) else (mm.2 4)))) (fun uz => BU D (wM a cI cZ uz) A) A) (by decide) rfl (Nat.le_of_ble_eq_true rfl) rfl ?_
  intro p e s m args below meth c A Q H locs ls hx hb hr hml hown hts hlocks hname hA hN hE hK hQ hP hD hS hl
  have hl : lv_has ls 5 [(0, .ref (a 0)), (1, .int d), (2, .int b), (3, .int g)] := hl
  have fl_19 := hts (.fieldLink RX10 19 "DanceStaffsModel" "now" "[I") (by decide +kernel)
  have hin_10 : ∀ w ∈ u_ws RX10 TX10 37, w ∈ wsX10_changes := by decide +kernel
  refine lv_aload_n hx hb dX10_changes_0 rfl (lv_at hl 0 rfl) ?_
  refine lv_iload_n hx hb dX10_changes_1 rfl (lv_at hl 1 rfl) ?_
  refine sw_i (va_runV (As := [.int d]) (rest := []) ⟨hx, hb, hml, hown, hts⟩ (c_X10_isDancer l D cI cJ cZ a H.size mm d) (cwV 1 hts gX10_changes_X10_isDancer rfl rfl rfl (by decide +kernel) ⟨Nat.le_of_ble_eq_true rfl, Nat.le_of_ble_eq_true rfl⟩) (pr_V hP hD hK hN hE hS hA [0, 1, 2, 3, 4, 5, 6, 7, 8, 9, 10, 11, 12, 13, 14, 15, 16, 17, 18, 19, 20, 21] (by decide) rfl (ci := 10) (q0 := 0) rfl rfl) rfl rfl hl.1 rfl (lv_room (Nat.le_of_ble_eq_true rfl)) dX10_changes_2 ⟨Nat.zero_le _, Nat.zero_le _⟩) hD hS hA (fun r_2 u_2 H locs hw_2 hP hD hS => ?_)
  have hr_2 : r_2 = bI (inR d 0 ((mm.1 0) - 1)) := hw_2
  refine lv_if_eq (tgt := 33) hx hb dX10_changes_5 (by decide) (fun c_5 => ?_) (fun c_5 => ?_)
  · have b_5 : (inR d 0 ((mm.1 0) - 1)) = false := bI_0 (hr_2.symm.trans c_5)
    refine lv_iconst (v := (-1)) hx hb dX10_changes_33 (by decide) ?_
    have em_34_7 : (if yChG (mm.1 0) (mm.2 4) d b g = true then (rmL (mm.2 7) (mm.2 4) (mm.1 6) 33) else (mm.2 7)) = (mm.2 7) := by simp only [yChG, yChCk, b_5, ↓reduceIte, reduceCtorEq]
    have em_34_6 : (if yChG (mm.1 0) (mm.2 4) d b g = true then (yUa (mm.1 6)) else (mm.1 6)) = (mm.1 6) := by simp only [yChG, yChCk, b_5, ↓reduceIte, reduceCtorEq]
    have em_34_5 : (if yChG (mm.1 0) (mm.2 4) d b g = true then (yUm (mm.1 5)) else (mm.1 5)) = (mm.1 5) := by simp only [yChG, yChCk, b_5, ↓reduceIte, reduceCtorEq]
    have em_34_4 : (if yChG (mm.1 0) (mm.2 4) d b g = true then (upd (mm.2 4) (11 * d + 1 + b).toNatClampNeg g) else (mm.2 4)) = (mm.2 4) := by simp only [yChG, yChCk, b_5, ↓reduceIte, reduceCtorEq]
    have hP : va_P D vwCl (wM a cI cZ (mF (mS (mS (mF mm 7 (mm.2 7)) 6 (mm.1 6)) 5 (mm.1 5)) 4 (mm.2 4))) H := hP
    have hD : va_D A (wM a cI cZ (mF (mS (mS (mF mm 7 (mm.2 7)) 6 (mm.1 6)) 5 (mm.1 5)) 4 (mm.2 4))) := hD
    have eM_34 : (mF (mS (mS (mF mm 7 (if yChG (mm.1 0) (mm.2 4) d b g = true then (rmL (mm.2 7) (mm.2 4) (mm.1 6) 33) else (mm.2 7))) 6 (if yChG (mm.1 0) (mm.2 4) d b g = true then (yUa (mm.1 6)) else (mm.1 6))) 5 (if yChG (mm.1 0) (mm.2 4) d b g = true then (yUm (mm.1 5)) else (mm.1 5))) 4 (if yChG (mm.1 0) (mm.2 4) d b g = true then (upd (mm.2 4) (11 * d + 1 + b).toNatClampNeg g) else (mm.2 4))) = (mF (mS (mS (mF mm 7 (mm.2 7)) 6 (mm.1 6)) 5 (mm.1 5)) 4 (mm.2 4)) := (mF_c (mS_c (mS_c (mF_c rfl em_34_7) em_34_6) em_34_5) em_34_4)
    rw [← eM_34] at hP hD
    exact lf_i hx hb hr hlocks hQ (mF (mS (mS (mF mm 7 (if yChG (mm.1 0) (mm.2 4) d b g = true then (rmL (mm.2 7) (mm.2 4) (mm.1 6) 33) else (mm.2 7))) 6 (if yChG (mm.1 0) (mm.2 4) d b g = true then (yUa (mm.1 6)) else (mm.1 6))) 5 (if yChG (mm.1 0) (mm.2 4) d b g = true then (yUm (mm.1 5)) else (mm.1 5))) 4 (if yChG (mm.1 0) (mm.2 4) d b g = true then (upd (mm.2 4) (11 * d + 1 + b).toNatClampNeg g) else (mm.2 4))) hP hD hS dX10_changes_34 ⟨(by first | (simp only [yCh, yChG, yChCk, b_5, ↓reduceIte, reduceCtorEq]; done) | (rw [hr_38]; simp only [yCh, yChG, yChCk, b_5, ↓reduceIte, reduceCtorEq]; done)), rfl⟩
  · have b_5 : (inR d 0 ((mm.1 0) - 1)) = true := bI_1 (fun q => c_5 (hr_2.trans q))
    obtain ⟨a1, a2⟩ := dn_in b_5 h0m h3m
    have hl1 := hnw.at a1 a2
    refine lv_iload_n hx hb dX10_changes_8 rfl (lv_at hl 2 rfl) ?_
    refine lv_iconst (v := 0) hx hb dX10_changes_9 (by decide) ?_
    refine lv_aload_n hx hb dX10_changes_10 rfl (lv_at hl 0 rfl) ?_
    refine lv_iload_n hx hb dX10_changes_11 rfl (lv_at hl 1 rfl) ?_
    refine sw_i (va_runV (As := [.int d]) (rest := [.int 0, .int b]) ⟨hx, hb, hml, hown, hts⟩ (c_X10_sizeOf l D cI cJ cZ a H.size mm d (a1) (a2)) (cwV 1 hts gX10_changes_X10_sizeOf rfl rfl rfl (by decide +kernel) ⟨Nat.le_of_ble_eq_true rfl, Nat.le_of_ble_eq_true rfl⟩) (pr_V hP hD hK hN hE hS hA [0, 1, 2, 3, 4, 5, 6, 7, 8, 9, 10, 11, 12, 13, 14, 15, 16, 17, 18, 19, 20, 21] (by decide) rfl (ci := 10) (q0 := 0) rfl rfl) rfl rfl hl.1 rfl (lv_room (Nat.le_of_ble_eq_true rfl)) dX10_changes_12 ⟨Nat.zero_le _, Nat.zero_le _⟩) hD hS hA (fun r_12 u_12 H locs hw_12 hP hD hS => ?_)
    have hr_12 : r_12 = ((mm.2 4) (11 * d).toNatClampNeg) := hw_12
    refine lv_iconst (v := 1) hx hb dX10_changes_15 (by decide) ?_
    refine lv_isub hx hb dX10_changes_16 ?_
    refine st_i (va_runS (As := [.int b, .int 0, .int (r_12 - 1)]) (rest := []) ⟨hx, hb, hml, hown, hts⟩ (c_X10_in l D cI cJ cZ H.size b 0 (r_12 - 1)) (va_cwS 3 hts gX10_changes_X10_in rfl rfl rfl (by decide +kernel) ⟨Nat.le_of_ble_eq_true rfl, Nat.le_of_ble_eq_true rfl⟩) (pr_S hP hD hK hN hE hS hA [] (by decide) rfl) rfl rfl hl.1 rfl (lv_room (Nat.le_of_ble_eq_true rfl)) dX10_changes_17 ⟨Nat.zero_le _, Nat.zero_le _⟩) hP hS hA (fun r_17 u_17 H locs hw_17 hP hS => ?_)
    have hr_17 := hw_17
    refine lv_if_eq (tgt := 33) hx hb dX10_changes_20 (by decide) (fun c_20 => ?_) (fun c_20 => ?_)
    · have b_20 : (inR b 0 (r_12 - 1)) = false := bI_0 (hr_17.symm.trans c_20)
      rw [hr_12] at b_20
      refine lv_iconst (v := (-1)) hx hb dX10_changes_33 (by decide) ?_
      have em_34_7 : (if yChG (mm.1 0) (mm.2 4) d b g = true then (rmL (mm.2 7) (mm.2 4) (mm.1 6) 33) else (mm.2 7)) = (mm.2 7) := by simp only [yChG, yChCk, b_5, b_20, ↓reduceIte, reduceCtorEq]
      have em_34_6 : (if yChG (mm.1 0) (mm.2 4) d b g = true then (yUa (mm.1 6)) else (mm.1 6)) = (mm.1 6) := by simp only [yChG, yChCk, b_5, b_20, ↓reduceIte, reduceCtorEq]
      have em_34_5 : (if yChG (mm.1 0) (mm.2 4) d b g = true then (yUm (mm.1 5)) else (mm.1 5)) = (mm.1 5) := by simp only [yChG, yChCk, b_5, b_20, ↓reduceIte, reduceCtorEq]
      have em_34_4 : (if yChG (mm.1 0) (mm.2 4) d b g = true then (upd (mm.2 4) (11 * d + 1 + b).toNatClampNeg g) else (mm.2 4)) = (mm.2 4) := by simp only [yChG, yChCk, b_5, b_20, ↓reduceIte, reduceCtorEq]
      have hP : va_P D vwCl (wM a cI cZ (mF (mS (mS (mF mm 7 (mm.2 7)) 6 (mm.1 6)) 5 (mm.1 5)) 4 (mm.2 4))) H := hP
      have hD : va_D A (wM a cI cZ (mF (mS (mS (mF mm 7 (mm.2 7)) 6 (mm.1 6)) 5 (mm.1 5)) 4 (mm.2 4))) := hD
      have eM_34 : (mF (mS (mS (mF mm 7 (if yChG (mm.1 0) (mm.2 4) d b g = true then (rmL (mm.2 7) (mm.2 4) (mm.1 6) 33) else (mm.2 7))) 6 (if yChG (mm.1 0) (mm.2 4) d b g = true then (yUa (mm.1 6)) else (mm.1 6))) 5 (if yChG (mm.1 0) (mm.2 4) d b g = true then (yUm (mm.1 5)) else (mm.1 5))) 4 (if yChG (mm.1 0) (mm.2 4) d b g = true then (upd (mm.2 4) (11 * d + 1 + b).toNatClampNeg g) else (mm.2 4))) = (mF (mS (mS (mF mm 7 (mm.2 7)) 6 (mm.1 6)) 5 (mm.1 5)) 4 (mm.2 4)) := (mF_c (mS_c (mS_c (mF_c rfl em_34_7) em_34_6) em_34_5) em_34_4)
      rw [← eM_34] at hP hD
      exact lf_i hx hb hr hlocks hQ (mF (mS (mS (mF mm 7 (if yChG (mm.1 0) (mm.2 4) d b g = true then (rmL (mm.2 7) (mm.2 4) (mm.1 6) 33) else (mm.2 7))) 6 (if yChG (mm.1 0) (mm.2 4) d b g = true then (yUa (mm.1 6)) else (mm.1 6))) 5 (if yChG (mm.1 0) (mm.2 4) d b g = true then (yUm (mm.1 5)) else (mm.1 5))) 4 (if yChG (mm.1 0) (mm.2 4) d b g = true then (upd (mm.2 4) (11 * d + 1 + b).toNatClampNeg g) else (mm.2 4))) hP hD hS dX10_changes_34 ⟨(by first | (simp only [yCh, yChG, yChCk, b_5, b_20, ↓reduceIte, reduceCtorEq]; done) | (rw [hr_38]; simp only [yCh, yChG, yChCk, b_5, b_20, ↓reduceIte, reduceCtorEq]; done)), rfl⟩
    · have b_20 : (inR b 0 (r_12 - 1)) = true := bI_1 (fun q => c_20 (hr_17.trans q))
      rw [hr_12] at b_20
      obtain ⟨z1, z2⟩ := inR_in b_20
      rw [li_0] at z1
      rw [ti_sub (by rw [li_1]; omega) (by rw [li_1]; omega), li_1] at z2
      refine lv_iload_n hx hb dX10_changes_23 rfl (lv_at hl 3 rfl) ?_
      refine lv_iconst (v := 0) hx hb dX10_changes_24 (by decide) ?_
      refine lv_bipush (v := 32) hx hb dX10_changes_25 (by decide) ?_
      refine st_i (va_runS (As := [.int g, .int 0, .int 32]) (rest := []) ⟨hx, hb, hml, hown, hts⟩ (c_X10_in l D cI cJ cZ H.size g 0 32) (va_cwS 3 hts gX10_changes_X10_in rfl rfl rfl (by decide +kernel) ⟨Nat.le_of_ble_eq_true rfl, Nat.le_of_ble_eq_true rfl⟩) (pr_S hP hD hK hN hE hS hA [] (by decide) rfl) rfl rfl hl.1 rfl (lv_room (Nat.le_of_ble_eq_true rfl)) dX10_changes_27 ⟨Nat.zero_le _, Nat.zero_le _⟩) hP hS hA (fun r_27 u_27 H locs hw_27 hP hS => ?_)
      have hr_27 := hw_27
      refine lv_if_ne (tgt := 35) hx hb dX10_changes_30 (by decide) (fun c_30 => ?_) (fun c_30 => ?_)
      · have b_30 : (inR g 0 32) = true := bI_1 (fun q => c_30 (hr_27.trans q))
        refine lv_aload_n hx hb dX10_changes_35 rfl (lv_at hl 0 rfl) ?_
        refine lv_iload_n hx hb dX10_changes_36 rfl (lv_at hl 1 rfl) ?_
        refine lv_iload_n hx hb dX10_changes_37 rfl (lv_at hl 2 rfl) ?_
        refine sw_i (va_runV (As := [.int d, .int b]) (rest := []) ⟨hx, hb, hml, hown, hts⟩ (c_X10_signOf l D cI cJ cZ a H.size mm d b (a1) (a2) (z1) (by omega)) (cwV 2 hts gX10_changes_X10_signOf rfl rfl rfl (by decide +kernel) ⟨Nat.le_of_ble_eq_true rfl, Nat.le_of_ble_eq_true rfl⟩) (pr_V hP hD hK hN hE hS hA [0, 1, 2, 3, 4, 5, 6, 7, 8, 9, 10, 11, 12, 13, 14, 15, 16, 17, 18, 19, 20, 21] (by decide) rfl (ci := 10) (q0 := 0) rfl rfl) rfl rfl hl.1 rfl (lv_room (Nat.le_of_ble_eq_true rfl)) dX10_changes_38 ⟨Nat.zero_le _, Nat.zero_le _⟩) hD hS hA (fun r_38 u_38 H locs hw_38 hP hD hS => ?_)
        have hr_38 : r_38 = ((mm.2 4) (11 * d + 1 + b).toNatClampNeg) := hw_38
        refine lv_istore (lv' := [(4, .int r_38), (0, .ref (a 0)), (1, .int d), (2, .int b), (3, .int g)]) hx hb dX10_changes_41 hl (by decide) rfl (fun ls hl => ?_)
        refine lv_iload hx hb dX10_changes_43 (lv_at hl 0 rfl) ?_
        refine lv_iload_n hx hb dX10_changes_45 rfl (lv_at hl 4 rfl) ?_
        refine lv_icmp_ne (tgt := 52) hx hb dX10_changes_46 (by decide) (fun c_46 => ?_) (fun c_46 => ?_)
        · have i_46 := i_ne c_46
          rw [hr_38] at c_46
          refine lv_aload_n hx hb dX10_changes_52 rfl (lv_at hl 1 rfl) ?_
          refine sw_v (va_runV (As := []) (rest := []) ⟨hx, hb, hml, hown, hts⟩ (c_X10_remember l D cI cJ cZ a H.size mm (h0u) (h9u)) (cwV 0 hts gX10_changes_X10_remember rfl rfl rfl (by decide +kernel) ⟨Nat.le_of_ble_eq_true rfl, Nat.le_of_ble_eq_true rfl⟩) (pr_V hP hD hK hN hE hS hA [0, 1, 2, 3, 4, 5, 6, 7, 8, 9, 10, 11, 12, 13, 14, 15, 16, 17, 18, 19, 20, 21] (by decide) rfl (ci := 10) (q0 := 0) rfl rfl) rfl rfl hl.1 rfl (lv_room (Nat.le_of_ble_eq_true rfl)) dX10_changes_53 ⟨Nat.zero_le _, Nat.zero_le _⟩) hD hS hA (fun u_53 H locs hw_53 hP hD hS => ?_)
          obtain rfl := hw_53
          have hP : va_P D vwCl ([(a 0, .inr (10, [.int (mm.1 0), .ref (a 1), .ref (a 2), .ref (a 3), .ref (a 4), .int (yUm (mm.1 5)), .int (yUa (mm.1 6)), .ref (a 7), .int (mm.1 8), .ref (a 9), .ref (a 10), .ref (a 11), .ref (a 12), .int (mm.1 13), .ref (a 14), .int (mm.1 15), .int (mm.1 16), .int (mm.1 17), .int (mm.1 18), .int (mm.1 19), .int (mm.1 20), .ref (a 21), .ref (a 22), .ref (a 23), .ref (a 24), .int (mm.1 25), .int (mm.1 26), .int (mm.1 27), .int (mm.1 28), .ref (a 29), .ref (a 30), .ref (a 31), .ref (a 32), .int (mm.1 33), .ref (a 34), .ref (a 35), .ref (a 36)])), (a 1, .inl (cI, 3, .inl (mm.2 1))), (a 2, .inl (cI, 3, .inl (mm.2 2))), (a 3, .inl (cI, 3, .inl (mm.2 3))), (a 4, .inl (cI, 33, .inl (mm.2 4))), (a 7, .inl (cI, 330, .inl (rmL (mm.2 7) (mm.2 4) (mm.1 6) 33))), (a 9, .inl (cI, 6, .inl (mm.2 9))), (a 10, .inl (cI, 6, .inl (mm.2 10))), (a 11, .inl (cZ, 2, .inl (mm.2 11))), (a 12, .inl (cI, 66, .inl (mm.2 12))), (a 14, .inl (cI, 100, .inl (mm.2 14))), (a 21, .inl (cI, 3, .inl (mm.2 21))), (a 22, .inl (cI, 3, .inl (mm.2 22))), (a 23, .inl (cI, 3, .inl (mm.2 23))), (a 24, .inl (cI, 33, .inl (mm.2 24))), (a 29, .inl (cI, 11, .inl (mm.2 29))), (a 30, .inl (cI, 11, .inl (mm.2 30))), (a 31, .inl (cI, 11, .inl (mm.2 31))), (a 32, .inl (cI, 11, .inl (mm.2 32))), (a 34, .inl (cI, 11, .inl (mm.2 34))), (a 35, .inl (cI, 11, .inl (mm.2 35))), (a 36, .inl (cI, 1176, .inl (mm.2 36)))]) H := hP
          have hD : va_D A ([(a 0, .inr (10, [.int (mm.1 0), .ref (a 1), .ref (a 2), .ref (a 3), .ref (a 4), .int (yUm (mm.1 5)), .int (yUa (mm.1 6)), .ref (a 7), .int (mm.1 8), .ref (a 9), .ref (a 10), .ref (a 11), .ref (a 12), .int (mm.1 13), .ref (a 14), .int (mm.1 15), .int (mm.1 16), .int (mm.1 17), .int (mm.1 18), .int (mm.1 19), .int (mm.1 20), .ref (a 21), .ref (a 22), .ref (a 23), .ref (a 24), .int (mm.1 25), .int (mm.1 26), .int (mm.1 27), .int (mm.1 28), .ref (a 29), .ref (a 30), .ref (a 31), .ref (a 32), .int (mm.1 33), .ref (a 34), .ref (a 35), .ref (a 36)])), (a 1, .inl (cI, 3, .inl (mm.2 1))), (a 2, .inl (cI, 3, .inl (mm.2 2))), (a 3, .inl (cI, 3, .inl (mm.2 3))), (a 4, .inl (cI, 33, .inl (mm.2 4))), (a 7, .inl (cI, 330, .inl (rmL (mm.2 7) (mm.2 4) (mm.1 6) 33))), (a 9, .inl (cI, 6, .inl (mm.2 9))), (a 10, .inl (cI, 6, .inl (mm.2 10))), (a 11, .inl (cZ, 2, .inl (mm.2 11))), (a 12, .inl (cI, 66, .inl (mm.2 12))), (a 14, .inl (cI, 100, .inl (mm.2 14))), (a 21, .inl (cI, 3, .inl (mm.2 21))), (a 22, .inl (cI, 3, .inl (mm.2 22))), (a 23, .inl (cI, 3, .inl (mm.2 23))), (a 24, .inl (cI, 33, .inl (mm.2 24))), (a 29, .inl (cI, 11, .inl (mm.2 29))), (a 30, .inl (cI, 11, .inl (mm.2 30))), (a 31, .inl (cI, 11, .inl (mm.2 31))), (a 32, .inl (cI, 11, .inl (mm.2 32))), (a 34, .inl (cI, 11, .inl (mm.2 34))), (a 35, .inl (cI, 11, .inl (mm.2 35))), (a 36, .inl (cI, 1176, .inl (mm.2 36)))]) := hD
          refine lv_aload_n hx hb dX10_changes_56 rfl (lv_at hl 1 rfl) ?_
          refine va_get (D := D) (ci := 10) (v := .ref (a 4)) (C := RX10) (T := TX10) (N := 37) hx hb hts hin_10 hown hK hP 0 rfl rfl 4 (by decide) fl_19 (fun _ h9 => h9) rfl dX10_changes_57 ?_
          refine lv_bipush (v := 11) hx hb dX10_changes_60 (by decide) ?_
          refine lv_iload_n hx hb dX10_changes_62 rfl (lv_at hl 2 rfl) ?_
          refine lv_imul hx hb dX10_changes_63 ?_
          refine lv_iconst (v := 1) hx hb dX10_changes_64 (by decide) ?_
          refine lv_iadd hx hb dX10_changes_65 ?_
          refine lv_iload_n hx hb dX10_changes_66 rfl (lv_at hl 3 rfl) ?_
          refine lv_iadd hx hb dX10_changes_67 ?_
          refine lv_iload_n hx hb dX10_changes_68 rfl (lv_at hl 4 rfl) ?_
          refine va_iast (D := D) (f := (mm.2 4)) hx hb hK hP hD hS 4 0 rfl rfl (in11b a1 a2 z1 (by omega)) dX10_changes_69 (fun H locs hP hD hS => ?_)
          have hP : va_P D vwCl ([(a 0, .inr (10, [.int (mm.1 0), .ref (a 1), .ref (a 2), .ref (a 3), .ref (a 4), .int (yUm (mm.1 5)), .int (yUa (mm.1 6)), .ref (a 7), .int (mm.1 8), .ref (a 9), .ref (a 10), .ref (a 11), .ref (a 12), .int (mm.1 13), .ref (a 14), .int (mm.1 15), .int (mm.1 16), .int (mm.1 17), .int (mm.1 18), .int (mm.1 19), .int (mm.1 20), .ref (a 21), .ref (a 22), .ref (a 23), .ref (a 24), .int (mm.1 25), .int (mm.1 26), .int (mm.1 27), .int (mm.1 28), .ref (a 29), .ref (a 30), .ref (a 31), .ref (a 32), .int (mm.1 33), .ref (a 34), .ref (a 35), .ref (a 36)])), (a 1, .inl (cI, 3, .inl (mm.2 1))), (a 2, .inl (cI, 3, .inl (mm.2 2))), (a 3, .inl (cI, 3, .inl (mm.2 3))), (a 4, .inl (cI, 33, .inl (upd (mm.2 4) ((((11 * d) + 1) + b).toNatClampNeg) g))), (a 7, .inl (cI, 330, .inl (rmL (mm.2 7) (mm.2 4) (mm.1 6) 33))), (a 9, .inl (cI, 6, .inl (mm.2 9))), (a 10, .inl (cI, 6, .inl (mm.2 10))), (a 11, .inl (cZ, 2, .inl (mm.2 11))), (a 12, .inl (cI, 66, .inl (mm.2 12))), (a 14, .inl (cI, 100, .inl (mm.2 14))), (a 21, .inl (cI, 3, .inl (mm.2 21))), (a 22, .inl (cI, 3, .inl (mm.2 22))), (a 23, .inl (cI, 3, .inl (mm.2 23))), (a 24, .inl (cI, 33, .inl (mm.2 24))), (a 29, .inl (cI, 11, .inl (mm.2 29))), (a 30, .inl (cI, 11, .inl (mm.2 30))), (a 31, .inl (cI, 11, .inl (mm.2 31))), (a 32, .inl (cI, 11, .inl (mm.2 32))), (a 34, .inl (cI, 11, .inl (mm.2 34))), (a 35, .inl (cI, 11, .inl (mm.2 35))), (a 36, .inl (cI, 1176, .inl (mm.2 36)))]) H := hP
          have hD : va_D A ([(a 0, .inr (10, [.int (mm.1 0), .ref (a 1), .ref (a 2), .ref (a 3), .ref (a 4), .int (yUm (mm.1 5)), .int (yUa (mm.1 6)), .ref (a 7), .int (mm.1 8), .ref (a 9), .ref (a 10), .ref (a 11), .ref (a 12), .int (mm.1 13), .ref (a 14), .int (mm.1 15), .int (mm.1 16), .int (mm.1 17), .int (mm.1 18), .int (mm.1 19), .int (mm.1 20), .ref (a 21), .ref (a 22), .ref (a 23), .ref (a 24), .int (mm.1 25), .int (mm.1 26), .int (mm.1 27), .int (mm.1 28), .ref (a 29), .ref (a 30), .ref (a 31), .ref (a 32), .int (mm.1 33), .ref (a 34), .ref (a 35), .ref (a 36)])), (a 1, .inl (cI, 3, .inl (mm.2 1))), (a 2, .inl (cI, 3, .inl (mm.2 2))), (a 3, .inl (cI, 3, .inl (mm.2 3))), (a 4, .inl (cI, 33, .inl (upd (mm.2 4) ((((11 * d) + 1) + b).toNatClampNeg) g))), (a 7, .inl (cI, 330, .inl (rmL (mm.2 7) (mm.2 4) (mm.1 6) 33))), (a 9, .inl (cI, 6, .inl (mm.2 9))), (a 10, .inl (cI, 6, .inl (mm.2 10))), (a 11, .inl (cZ, 2, .inl (mm.2 11))), (a 12, .inl (cI, 66, .inl (mm.2 12))), (a 14, .inl (cI, 100, .inl (mm.2 14))), (a 21, .inl (cI, 3, .inl (mm.2 21))), (a 22, .inl (cI, 3, .inl (mm.2 22))), (a 23, .inl (cI, 3, .inl (mm.2 23))), (a 24, .inl (cI, 33, .inl (mm.2 24))), (a 29, .inl (cI, 11, .inl (mm.2 29))), (a 30, .inl (cI, 11, .inl (mm.2 30))), (a 31, .inl (cI, 11, .inl (mm.2 31))), (a 32, .inl (cI, 11, .inl (mm.2 32))), (a 34, .inl (cI, 11, .inl (mm.2 34))), (a 35, .inl (cI, 11, .inl (mm.2 35))), (a 36, .inl (cI, 1176, .inl (mm.2 36)))]) := hD
          refine lv_iload hx hb dX10_changes_70 (lv_at hl 0 rfl) ?_
          have em_72_7 : (if yChG (mm.1 0) (mm.2 4) d b g = true then (rmL (mm.2 7) (mm.2 4) (mm.1 6) 33) else (mm.2 7)) = (rmL (mm.2 7) (mm.2 4) (mm.1 6) 33) := by simp only [yChG, yChCk, b_5, b_20, b_30, if_neg c_46, ↓reduceIte, reduceCtorEq]
          have em_72_6 : (if yChG (mm.1 0) (mm.2 4) d b g = true then (yUa (mm.1 6)) else (mm.1 6)) = (yUa (mm.1 6)) := by simp only [yChG, yChCk, b_5, b_20, b_30, if_neg c_46, ↓reduceIte, reduceCtorEq]
          have em_72_5 : (if yChG (mm.1 0) (mm.2 4) d b g = true then (yUm (mm.1 5)) else (mm.1 5)) = (yUm (mm.1 5)) := by simp only [yChG, yChCk, b_5, b_20, b_30, if_neg c_46, ↓reduceIte, reduceCtorEq]
          have em_72_4 : (if yChG (mm.1 0) (mm.2 4) d b g = true then (upd (mm.2 4) (11 * d + 1 + b).toNatClampNeg g) else (mm.2 4)) = (upd (mm.2 4) ((((11 * d) + 1) + b).toNatClampNeg) g) := by simp only [yChG, yChCk, b_5, b_20, b_30, if_neg c_46, ↓reduceIte, reduceCtorEq]
          have hP : va_P D vwCl (wM a cI cZ (mF (mS (mS (mF mm 7 (rmL (mm.2 7) (mm.2 4) (mm.1 6) 33)) 6 (yUa (mm.1 6))) 5 (yUm (mm.1 5))) 4 (upd (mm.2 4) ((((11 * d) + 1) + b).toNatClampNeg) g))) H := hP
          have hD : va_D A (wM a cI cZ (mF (mS (mS (mF mm 7 (rmL (mm.2 7) (mm.2 4) (mm.1 6) 33)) 6 (yUa (mm.1 6))) 5 (yUm (mm.1 5))) 4 (upd (mm.2 4) ((((11 * d) + 1) + b).toNatClampNeg) g))) := hD
          have eM_72 : (mF (mS (mS (mF mm 7 (if yChG (mm.1 0) (mm.2 4) d b g = true then (rmL (mm.2 7) (mm.2 4) (mm.1 6) 33) else (mm.2 7))) 6 (if yChG (mm.1 0) (mm.2 4) d b g = true then (yUa (mm.1 6)) else (mm.1 6))) 5 (if yChG (mm.1 0) (mm.2 4) d b g = true then (yUm (mm.1 5)) else (mm.1 5))) 4 (if yChG (mm.1 0) (mm.2 4) d b g = true then (upd (mm.2 4) (11 * d + 1 + b).toNatClampNeg g) else (mm.2 4))) = (mF (mS (mS (mF mm 7 (rmL (mm.2 7) (mm.2 4) (mm.1 6) 33)) 6 (yUa (mm.1 6))) 5 (yUm (mm.1 5))) 4 (upd (mm.2 4) ((((11 * d) + 1) + b).toNatClampNeg) g)) := (mF_c (mS_c (mS_c (mF_c rfl em_72_7) em_72_6) em_72_5) em_72_4)
          rw [← eM_72] at hP hD
          exact lf_i hx hb hr hlocks hQ (mF (mS (mS (mF mm 7 (if yChG (mm.1 0) (mm.2 4) d b g = true then (rmL (mm.2 7) (mm.2 4) (mm.1 6) 33) else (mm.2 7))) 6 (if yChG (mm.1 0) (mm.2 4) d b g = true then (yUa (mm.1 6)) else (mm.1 6))) 5 (if yChG (mm.1 0) (mm.2 4) d b g = true then (yUm (mm.1 5)) else (mm.1 5))) 4 (if yChG (mm.1 0) (mm.2 4) d b g = true then (upd (mm.2 4) (11 * d + 1 + b).toNatClampNeg g) else (mm.2 4))) hP hD hS dX10_changes_72 ⟨(by first | (simp only [yCh, yChG, yChCk, b_5, b_20, b_30, if_neg c_46, ↓reduceIte, reduceCtorEq]; done) | (rw [hr_38]; simp only [yCh, yChG, yChCk, b_5, b_20, b_30, if_neg c_46, ↓reduceIte, reduceCtorEq]; done)), rfl⟩
        · have i_46 := i_eq c_46
          rw [hr_38] at c_46
          refine lv_bipush (v := (-2)) hx hb dX10_changes_49 (by decide) ?_
          have em_51_7 : (if yChG (mm.1 0) (mm.2 4) d b g = true then (rmL (mm.2 7) (mm.2 4) (mm.1 6) 33) else (mm.2 7)) = (mm.2 7) := by simp only [yChG, yChCk, b_5, b_20, b_30, if_pos c_46, ↓reduceIte, reduceCtorEq]
          have em_51_6 : (if yChG (mm.1 0) (mm.2 4) d b g = true then (yUa (mm.1 6)) else (mm.1 6)) = (mm.1 6) := by simp only [yChG, yChCk, b_5, b_20, b_30, if_pos c_46, ↓reduceIte, reduceCtorEq]
          have em_51_5 : (if yChG (mm.1 0) (mm.2 4) d b g = true then (yUm (mm.1 5)) else (mm.1 5)) = (mm.1 5) := by simp only [yChG, yChCk, b_5, b_20, b_30, if_pos c_46, ↓reduceIte, reduceCtorEq]
          have em_51_4 : (if yChG (mm.1 0) (mm.2 4) d b g = true then (upd (mm.2 4) (11 * d + 1 + b).toNatClampNeg g) else (mm.2 4)) = (mm.2 4) := by simp only [yChG, yChCk, b_5, b_20, b_30, if_pos c_46, ↓reduceIte, reduceCtorEq]
          have hP : va_P D vwCl (wM a cI cZ (mF (mS (mS (mF mm 7 (mm.2 7)) 6 (mm.1 6)) 5 (mm.1 5)) 4 (mm.2 4))) H := hP
          have hD : va_D A (wM a cI cZ (mF (mS (mS (mF mm 7 (mm.2 7)) 6 (mm.1 6)) 5 (mm.1 5)) 4 (mm.2 4))) := hD
          have eM_51 : (mF (mS (mS (mF mm 7 (if yChG (mm.1 0) (mm.2 4) d b g = true then (rmL (mm.2 7) (mm.2 4) (mm.1 6) 33) else (mm.2 7))) 6 (if yChG (mm.1 0) (mm.2 4) d b g = true then (yUa (mm.1 6)) else (mm.1 6))) 5 (if yChG (mm.1 0) (mm.2 4) d b g = true then (yUm (mm.1 5)) else (mm.1 5))) 4 (if yChG (mm.1 0) (mm.2 4) d b g = true then (upd (mm.2 4) (11 * d + 1 + b).toNatClampNeg g) else (mm.2 4))) = (mF (mS (mS (mF mm 7 (mm.2 7)) 6 (mm.1 6)) 5 (mm.1 5)) 4 (mm.2 4)) := (mF_c (mS_c (mS_c (mF_c rfl em_51_7) em_51_6) em_51_5) em_51_4)
          rw [← eM_51] at hP hD
          exact lf_i hx hb hr hlocks hQ (mF (mS (mS (mF mm 7 (if yChG (mm.1 0) (mm.2 4) d b g = true then (rmL (mm.2 7) (mm.2 4) (mm.1 6) 33) else (mm.2 7))) 6 (if yChG (mm.1 0) (mm.2 4) d b g = true then (yUa (mm.1 6)) else (mm.1 6))) 5 (if yChG (mm.1 0) (mm.2 4) d b g = true then (yUm (mm.1 5)) else (mm.1 5))) 4 (if yChG (mm.1 0) (mm.2 4) d b g = true then (upd (mm.2 4) (11 * d + 1 + b).toNatClampNeg g) else (mm.2 4))) hP hD hS dX10_changes_51 ⟨(by first | (simp only [yCh, yChG, yChCk, b_5, b_20, b_30, if_pos c_46, ↓reduceIte, reduceCtorEq]; done) | (rw [hr_38]; simp only [yCh, yChG, yChCk, b_5, b_20, b_30, if_pos c_46, ↓reduceIte, reduceCtorEq]; done)), rfl⟩
      · have b_30 : (inR g 0 32) = false := bI_0 (hr_27.symm.trans c_30)
        refine lv_iconst (v := (-1)) hx hb dX10_changes_33 (by decide) ?_
        have em_34_7 : (if yChG (mm.1 0) (mm.2 4) d b g = true then (rmL (mm.2 7) (mm.2 4) (mm.1 6) 33) else (mm.2 7)) = (mm.2 7) := by simp only [yChG, yChCk, b_5, b_20, b_30, ↓reduceIte, reduceCtorEq]
        have em_34_6 : (if yChG (mm.1 0) (mm.2 4) d b g = true then (yUa (mm.1 6)) else (mm.1 6)) = (mm.1 6) := by simp only [yChG, yChCk, b_5, b_20, b_30, ↓reduceIte, reduceCtorEq]
        have em_34_5 : (if yChG (mm.1 0) (mm.2 4) d b g = true then (yUm (mm.1 5)) else (mm.1 5)) = (mm.1 5) := by simp only [yChG, yChCk, b_5, b_20, b_30, ↓reduceIte, reduceCtorEq]
        have em_34_4 : (if yChG (mm.1 0) (mm.2 4) d b g = true then (upd (mm.2 4) (11 * d + 1 + b).toNatClampNeg g) else (mm.2 4)) = (mm.2 4) := by simp only [yChG, yChCk, b_5, b_20, b_30, ↓reduceIte, reduceCtorEq]
        have hP : va_P D vwCl (wM a cI cZ (mF (mS (mS (mF mm 7 (mm.2 7)) 6 (mm.1 6)) 5 (mm.1 5)) 4 (mm.2 4))) H := hP
        have hD : va_D A (wM a cI cZ (mF (mS (mS (mF mm 7 (mm.2 7)) 6 (mm.1 6)) 5 (mm.1 5)) 4 (mm.2 4))) := hD
        have eM_34 : (mF (mS (mS (mF mm 7 (if yChG (mm.1 0) (mm.2 4) d b g = true then (rmL (mm.2 7) (mm.2 4) (mm.1 6) 33) else (mm.2 7))) 6 (if yChG (mm.1 0) (mm.2 4) d b g = true then (yUa (mm.1 6)) else (mm.1 6))) 5 (if yChG (mm.1 0) (mm.2 4) d b g = true then (yUm (mm.1 5)) else (mm.1 5))) 4 (if yChG (mm.1 0) (mm.2 4) d b g = true then (upd (mm.2 4) (11 * d + 1 + b).toNatClampNeg g) else (mm.2 4))) = (mF (mS (mS (mF mm 7 (mm.2 7)) 6 (mm.1 6)) 5 (mm.1 5)) 4 (mm.2 4)) := (mF_c (mS_c (mS_c (mF_c rfl em_34_7) em_34_6) em_34_5) em_34_4)
        rw [← eM_34] at hP hD
        exact lf_i hx hb hr hlocks hQ (mF (mS (mS (mF mm 7 (if yChG (mm.1 0) (mm.2 4) d b g = true then (rmL (mm.2 7) (mm.2 4) (mm.1 6) 33) else (mm.2 7))) 6 (if yChG (mm.1 0) (mm.2 4) d b g = true then (yUa (mm.1 6)) else (mm.1 6))) 5 (if yChG (mm.1 0) (mm.2 4) d b g = true then (yUm (mm.1 5)) else (mm.1 5))) 4 (if yChG (mm.1 0) (mm.2 4) d b g = true then (upd (mm.2 4) (11 * d + 1 + b).toNatClampNeg g) else (mm.2 4))) hP hD hS dX10_changes_34 ⟨(by first | (simp only [yCh, yChG, yChCk, b_5, b_20, b_30, ↓reduceIte, reduceCtorEq]; done) | (rw [hr_38]; simp only [yCh, yChG, yChCk, b_5, b_20, b_30, ↓reduceIte, reduceCtorEq]; done)), rfl⟩
abbrev rm_X10_undo : Room := { frames := 0, cells := 0, slots := 0, locals := 0 }
set_option maxHeartbeats 4000000 in
set_option maxRecDepth 100000 in
theorem c_X10_undo (l : Launch) (D : va_G) (cI cJ cZ : ClassId) (a : Nat → Nat) (sz : Nat) (mm : MS) (h0u : 0 ≤ (mm.1 6).toInt) (h9u : (mm.1 6).toInt < 10) : Met l yX10_undo wsX10_undo rm_X10_undo (va_Pc [.ref (a 0)] (PU D (tyL cI cJ cZ) (wM a cI cZ mm) sz)) (va_Qi (fun (rz : Int32) (uz : MS) => rz = (if (mm.1 5) = 0 then -2 else (mm.1 5) - 1) ∧ uz = (mF (mS (mS mm 5 (if (mm.1 5) = 0 then (mm.1 5) else (mm.1 5) - 1)) 6 (if (mm.1 5) = 0 then (mm.1 6) else yUb (mm.1 6))) 4 (if (mm.1 5) = 0 then (mm.2 4) else unL (mm.2 4) (mm.2 7) (yUb (mm.1 6)) 33))) (fun uz => BU D (wM a cI cZ uz) (va_A (wM a cI cZ mm) sz)) (va_A (wM a cI cZ mm) sz)) 0 0 (va_A (wM a cI cZ mm) sz) := by
  refine en (own := RX10) (Qc := fun A => va_Qi (fun (rz : Int32) (uz : MS) => rz = (if (mm.1 5) = 0 then -2 else (mm.1 5) - 1) ∧ uz = (mF (mS (mS mm 5 (if (mm.1 5) = 0 then (mm.1 5) else (mm.1 5) - 1)) 6 (if (mm.1 5) = 0 then (mm.1 6) else yUb (mm.1 6))) 4 (if (mm.1 5) = 0 then (mm.2 4) else unL (mm.2 4) (mm.2 7) (yUb (mm.1 6)) 33))) (fun uz => BU D (wM a cI cZ uz) A) A) (by decide) rfl (Nat.le_of_ble_eq_true rfl) rfl ?_
  intro p e s m args below meth c A Q H locs ls hx hb hr hml hown hts hlocks hname hA hN hE hK hQ hP hD hS hl
  have hl : lv_has ls 2 [(0, .ref (a 0))] := hl
  have fl_130 := hts (.fieldLink RX10 130 "DanceStaffsModel" "undoMany" "I") (by decide +kernel)
  have hin_10 : ∀ w ∈ u_ws RX10 TX10 37, w ∈ wsX10_undo := by decide +kernel
  have fl_189 := hts (.fieldLink RX10 189 "DanceStaffsModel" "undoAt" "I") (by decide +kernel)
  have fl_19 := hts (.fieldLink RX10 19 "DanceStaffsModel" "now" "[I") (by decide +kernel)
  have fl_22 := hts (.fieldLink RX10 22 "DanceStaffsModel" "undos" "[I") (by decide +kernel)
  refine lv_aload_n hx hb dX10_undo_0 rfl (lv_at hl 0 rfl) ?_
  refine va_get (D := D) (ci := 10) (v := .int (mm.1 5)) (C := RX10) (T := TX10) (N := 37) hx hb hts hin_10 hown hK hP 0 rfl rfl 5 (by decide) fl_130 (fun _ h9 => h9) rfl dX10_undo_1 ?_
  refine lv_if_ne (tgt := 10) hx hb dX10_undo_4 (by decide) (fun c_4 => ?_) (fun c_4 => ?_)
  · have i_4 := i_ne c_4
    rw [(by decide : (0 : Int32).toInt = 0)] at i_4
    have hub : 0 ≤ (yUb (mm.1 6)).toInt ∧ (yUb (mm.1 6)).toInt < 10 := rm10 (by rw [ti_sub (by rw [ti_add (by rw [li_10]; omega) (by rw [li_10]; omega), li_10, li_1]; omega) (by rw [ti_add (by rw [li_10]; omega) (by rw [li_10]; omega), li_10, li_1]; omega), ti_add (by rw [li_10]; omega) (by rw [li_10]; omega), li_10, li_1]; omega)
    refine lv_aload_n hx hb dX10_undo_10 rfl (lv_at hl 0 rfl) ?_
    refine lv_aload_n hx hb dX10_undo_11 rfl (lv_at hl 0 rfl) ?_
    refine va_get (D := D) (ci := 10) (v := .int (mm.1 6)) (C := RX10) (T := TX10) (N := 37) hx hb hts hin_10 hown hK hP 0 rfl rfl 6 (by decide) fl_189 (fun _ h9 => h9) rfl dX10_undo_12 ?_
    refine lv_bipush (v := 10) hx hb dX10_undo_15 (by decide) ?_
    refine lv_iadd hx hb dX10_undo_17 ?_
    refine lv_iconst (v := 1) hx hb dX10_undo_18 (by decide) ?_
    refine lv_isub hx hb dX10_undo_19 ?_
    refine lv_bipush (v := 10) hx hb dX10_undo_20 (by decide) ?_
    refine lv_irem hx hb dX10_undo_22 (by decide) ?_
    refine va_put (D := D) (ci := 10) (v := .int ((((mm.1 6) + 10) - 1) - (((mm.1 6) + 10) - 1) / 10 * 10)) (ty := .int) (C := RX10) (T := TX10) (N := 37) hx hb hts hin_10 tyX10 tyX10_ok nmX10 hown hK hP hD hS 0 rfl rfl 6 (by decide) fl_189 (fun _ h9 => h9) rfl (by decide +kernel) rfl rfl (Nat.le_of_ble_eq_true rfl) dX10_undo_23 (fun H locs hP hD hS => ?_)
    have hP : va_P D vwCl ([(a 0, .inr (10, [.int (mm.1 0), .ref (a 1), .ref (a 2), .ref (a 3), .ref (a 4), .int (mm.1 5), .int ((((mm.1 6) + 10) - 1) - (((mm.1 6) + 10) - 1) / 10 * 10), .ref (a 7), .int (mm.1 8), .ref (a 9), .ref (a 10), .ref (a 11), .ref (a 12), .int (mm.1 13), .ref (a 14), .int (mm.1 15), .int (mm.1 16), .int (mm.1 17), .int (mm.1 18), .int (mm.1 19), .int (mm.1 20), .ref (a 21), .ref (a 22), .ref (a 23), .ref (a 24), .int (mm.1 25), .int (mm.1 26), .int (mm.1 27), .int (mm.1 28), .ref (a 29), .ref (a 30), .ref (a 31), .ref (a 32), .int (mm.1 33), .ref (a 34), .ref (a 35), .ref (a 36)])), (a 1, .inl (cI, 3, .inl (mm.2 1))), (a 2, .inl (cI, 3, .inl (mm.2 2))), (a 3, .inl (cI, 3, .inl (mm.2 3))), (a 4, .inl (cI, 33, .inl (mm.2 4))), (a 7, .inl (cI, 330, .inl (mm.2 7))), (a 9, .inl (cI, 6, .inl (mm.2 9))), (a 10, .inl (cI, 6, .inl (mm.2 10))), (a 11, .inl (cZ, 2, .inl (mm.2 11))), (a 12, .inl (cI, 66, .inl (mm.2 12))), (a 14, .inl (cI, 100, .inl (mm.2 14))), (a 21, .inl (cI, 3, .inl (mm.2 21))), (a 22, .inl (cI, 3, .inl (mm.2 22))), (a 23, .inl (cI, 3, .inl (mm.2 23))), (a 24, .inl (cI, 33, .inl (mm.2 24))), (a 29, .inl (cI, 11, .inl (mm.2 29))), (a 30, .inl (cI, 11, .inl (mm.2 30))), (a 31, .inl (cI, 11, .inl (mm.2 31))), (a 32, .inl (cI, 11, .inl (mm.2 32))), (a 34, .inl (cI, 11, .inl (mm.2 34))), (a 35, .inl (cI, 11, .inl (mm.2 35))), (a 36, .inl (cI, 1176, .inl (mm.2 36)))]) H := hP
    have hD : va_D A ([(a 0, .inr (10, [.int (mm.1 0), .ref (a 1), .ref (a 2), .ref (a 3), .ref (a 4), .int (mm.1 5), .int ((((mm.1 6) + 10) - 1) - (((mm.1 6) + 10) - 1) / 10 * 10), .ref (a 7), .int (mm.1 8), .ref (a 9), .ref (a 10), .ref (a 11), .ref (a 12), .int (mm.1 13), .ref (a 14), .int (mm.1 15), .int (mm.1 16), .int (mm.1 17), .int (mm.1 18), .int (mm.1 19), .int (mm.1 20), .ref (a 21), .ref (a 22), .ref (a 23), .ref (a 24), .int (mm.1 25), .int (mm.1 26), .int (mm.1 27), .int (mm.1 28), .ref (a 29), .ref (a 30), .ref (a 31), .ref (a 32), .int (mm.1 33), .ref (a 34), .ref (a 35), .ref (a 36)])), (a 1, .inl (cI, 3, .inl (mm.2 1))), (a 2, .inl (cI, 3, .inl (mm.2 2))), (a 3, .inl (cI, 3, .inl (mm.2 3))), (a 4, .inl (cI, 33, .inl (mm.2 4))), (a 7, .inl (cI, 330, .inl (mm.2 7))), (a 9, .inl (cI, 6, .inl (mm.2 9))), (a 10, .inl (cI, 6, .inl (mm.2 10))), (a 11, .inl (cZ, 2, .inl (mm.2 11))), (a 12, .inl (cI, 66, .inl (mm.2 12))), (a 14, .inl (cI, 100, .inl (mm.2 14))), (a 21, .inl (cI, 3, .inl (mm.2 21))), (a 22, .inl (cI, 3, .inl (mm.2 22))), (a 23, .inl (cI, 3, .inl (mm.2 23))), (a 24, .inl (cI, 33, .inl (mm.2 24))), (a 29, .inl (cI, 11, .inl (mm.2 29))), (a 30, .inl (cI, 11, .inl (mm.2 30))), (a 31, .inl (cI, 11, .inl (mm.2 31))), (a 32, .inl (cI, 11, .inl (mm.2 32))), (a 34, .inl (cI, 11, .inl (mm.2 34))), (a 35, .inl (cI, 11, .inl (mm.2 35))), (a 36, .inl (cI, 1176, .inl (mm.2 36)))]) := hD
    refine lv_aload_n hx hb dX10_undo_26 rfl (lv_at hl 0 rfl) ?_
    refine lv_dup hx hb dX10_undo_27 rfl ?_
    refine va_get (D := D) (ci := 10) (v := .int (mm.1 5)) (C := RX10) (T := TX10) (N := 37) hx hb hts hin_10 hown hK hP 0 rfl rfl 5 (by decide) fl_130 (fun _ h9 => h9) rfl dX10_undo_28 ?_
    refine lv_iconst (v := 1) hx hb dX10_undo_31 (by decide) ?_
    refine lv_isub hx hb dX10_undo_32 ?_
    refine va_put (D := D) (ci := 10) (v := .int ((mm.1 5) - 1)) (ty := .int) (C := RX10) (T := TX10) (N := 37) hx hb hts hin_10 tyX10 tyX10_ok nmX10 hown hK hP hD hS 0 rfl rfl 5 (by decide) fl_130 (fun _ h9 => h9) rfl (by decide +kernel) rfl rfl (Nat.le_of_ble_eq_true rfl) dX10_undo_33 (fun H locs hP hD hS => ?_)
    have hP : va_P D vwCl ([(a 0, .inr (10, [.int (mm.1 0), .ref (a 1), .ref (a 2), .ref (a 3), .ref (a 4), .int ((mm.1 5) - 1), .int ((((mm.1 6) + 10) - 1) - (((mm.1 6) + 10) - 1) / 10 * 10), .ref (a 7), .int (mm.1 8), .ref (a 9), .ref (a 10), .ref (a 11), .ref (a 12), .int (mm.1 13), .ref (a 14), .int (mm.1 15), .int (mm.1 16), .int (mm.1 17), .int (mm.1 18), .int (mm.1 19), .int (mm.1 20), .ref (a 21), .ref (a 22), .ref (a 23), .ref (a 24), .int (mm.1 25), .int (mm.1 26), .int (mm.1 27), .int (mm.1 28), .ref (a 29), .ref (a 30), .ref (a 31), .ref (a 32), .int (mm.1 33), .ref (a 34), .ref (a 35), .ref (a 36)])), (a 1, .inl (cI, 3, .inl (mm.2 1))), (a 2, .inl (cI, 3, .inl (mm.2 2))), (a 3, .inl (cI, 3, .inl (mm.2 3))), (a 4, .inl (cI, 33, .inl (mm.2 4))), (a 7, .inl (cI, 330, .inl (mm.2 7))), (a 9, .inl (cI, 6, .inl (mm.2 9))), (a 10, .inl (cI, 6, .inl (mm.2 10))), (a 11, .inl (cZ, 2, .inl (mm.2 11))), (a 12, .inl (cI, 66, .inl (mm.2 12))), (a 14, .inl (cI, 100, .inl (mm.2 14))), (a 21, .inl (cI, 3, .inl (mm.2 21))), (a 22, .inl (cI, 3, .inl (mm.2 22))), (a 23, .inl (cI, 3, .inl (mm.2 23))), (a 24, .inl (cI, 33, .inl (mm.2 24))), (a 29, .inl (cI, 11, .inl (mm.2 29))), (a 30, .inl (cI, 11, .inl (mm.2 30))), (a 31, .inl (cI, 11, .inl (mm.2 31))), (a 32, .inl (cI, 11, .inl (mm.2 32))), (a 34, .inl (cI, 11, .inl (mm.2 34))), (a 35, .inl (cI, 11, .inl (mm.2 35))), (a 36, .inl (cI, 1176, .inl (mm.2 36)))]) H := hP
    have hD : va_D A ([(a 0, .inr (10, [.int (mm.1 0), .ref (a 1), .ref (a 2), .ref (a 3), .ref (a 4), .int ((mm.1 5) - 1), .int ((((mm.1 6) + 10) - 1) - (((mm.1 6) + 10) - 1) / 10 * 10), .ref (a 7), .int (mm.1 8), .ref (a 9), .ref (a 10), .ref (a 11), .ref (a 12), .int (mm.1 13), .ref (a 14), .int (mm.1 15), .int (mm.1 16), .int (mm.1 17), .int (mm.1 18), .int (mm.1 19), .int (mm.1 20), .ref (a 21), .ref (a 22), .ref (a 23), .ref (a 24), .int (mm.1 25), .int (mm.1 26), .int (mm.1 27), .int (mm.1 28), .ref (a 29), .ref (a 30), .ref (a 31), .ref (a 32), .int (mm.1 33), .ref (a 34), .ref (a 35), .ref (a 36)])), (a 1, .inl (cI, 3, .inl (mm.2 1))), (a 2, .inl (cI, 3, .inl (mm.2 2))), (a 3, .inl (cI, 3, .inl (mm.2 3))), (a 4, .inl (cI, 33, .inl (mm.2 4))), (a 7, .inl (cI, 330, .inl (mm.2 7))), (a 9, .inl (cI, 6, .inl (mm.2 9))), (a 10, .inl (cI, 6, .inl (mm.2 10))), (a 11, .inl (cZ, 2, .inl (mm.2 11))), (a 12, .inl (cI, 66, .inl (mm.2 12))), (a 14, .inl (cI, 100, .inl (mm.2 14))), (a 21, .inl (cI, 3, .inl (mm.2 21))), (a 22, .inl (cI, 3, .inl (mm.2 22))), (a 23, .inl (cI, 3, .inl (mm.2 23))), (a 24, .inl (cI, 33, .inl (mm.2 24))), (a 29, .inl (cI, 11, .inl (mm.2 29))), (a 30, .inl (cI, 11, .inl (mm.2 30))), (a 31, .inl (cI, 11, .inl (mm.2 31))), (a 32, .inl (cI, 11, .inl (mm.2 32))), (a 34, .inl (cI, 11, .inl (mm.2 34))), (a 35, .inl (cI, 11, .inl (mm.2 35))), (a 36, .inl (cI, 1176, .inl (mm.2 36)))]) := hD
    refine lv_iconst (v := 0) hx hb dX10_undo_36 (by decide) ?_
    refine lv_istore_n (lv' := [(1, .int 0), (0, .ref (a 0))]) hx hb dX10_undo_37 rfl hl (by decide) rfl (fun ls hl => ?_)
    have LB_38 : ∀ (n : Nat) (i : Nat) (hn_i : 33 < i + n) (hi_i : i ≤ 33) (H : Heap) (locs : List Loc) (_ : va_P D vwCl (wM a cI cZ (mF (mS (mS mm 5 ((mm.1 5) - 1)) 6 (yUb (mm.1 6))) 4 (unL (mm.2 4) (mm.2 7) (yUb (mm.1 6)) i))) H) (_ : va_D A (wM a cI cZ (mF (mS (mS mm 5 ((mm.1 5) - 1)) 6 (yUb (mm.1 6))) 4 (unL (mm.2 4) (mm.2 7) (yUb (mm.1 6)) i)))) (_ : va_S A s.heap H locs) (ls : Array Slot) (_ : lv_has ls 2 [(0, .ref (a 0)), (1, .int (nI i))]), W p l e rm_X10_undo s m args below meth c H locs 0 0 Q (F0 m 38 ls []) := by
      intro n
      induction n with
      | zero =>
        intro i hn_i hi_i
        exact absurd hn_i (by omega)
      | succ n LB_38 =>
        intro i hn_i hi_i H locs hP hD hS ls hl
        have hP : va_P D vwCl ([(a 0, .inr (10, [.int (mm.1 0), .ref (a 1), .ref (a 2), .ref (a 3), .ref (a 4), .int ((mm.1 5) - 1), .int (yUb (mm.1 6)), .ref (a 7), .int (mm.1 8), .ref (a 9), .ref (a 10), .ref (a 11), .ref (a 12), .int (mm.1 13), .ref (a 14), .int (mm.1 15), .int (mm.1 16), .int (mm.1 17), .int (mm.1 18), .int (mm.1 19), .int (mm.1 20), .ref (a 21), .ref (a 22), .ref (a 23), .ref (a 24), .int (mm.1 25), .int (mm.1 26), .int (mm.1 27), .int (mm.1 28), .ref (a 29), .ref (a 30), .ref (a 31), .ref (a 32), .int (mm.1 33), .ref (a 34), .ref (a 35), .ref (a 36)])), (a 1, .inl (cI, 3, .inl (mm.2 1))), (a 2, .inl (cI, 3, .inl (mm.2 2))), (a 3, .inl (cI, 3, .inl (mm.2 3))), (a 4, .inl (cI, 33, .inl (unL (mm.2 4) (mm.2 7) (yUb (mm.1 6)) i))), (a 7, .inl (cI, 330, .inl (mm.2 7))), (a 9, .inl (cI, 6, .inl (mm.2 9))), (a 10, .inl (cI, 6, .inl (mm.2 10))), (a 11, .inl (cZ, 2, .inl (mm.2 11))), (a 12, .inl (cI, 66, .inl (mm.2 12))), (a 14, .inl (cI, 100, .inl (mm.2 14))), (a 21, .inl (cI, 3, .inl (mm.2 21))), (a 22, .inl (cI, 3, .inl (mm.2 22))), (a 23, .inl (cI, 3, .inl (mm.2 23))), (a 24, .inl (cI, 33, .inl (mm.2 24))), (a 29, .inl (cI, 11, .inl (mm.2 29))), (a 30, .inl (cI, 11, .inl (mm.2 30))), (a 31, .inl (cI, 11, .inl (mm.2 31))), (a 32, .inl (cI, 11, .inl (mm.2 32))), (a 34, .inl (cI, 11, .inl (mm.2 34))), (a 35, .inl (cI, 11, .inl (mm.2 35))), (a 36, .inl (cI, 1176, .inl (mm.2 36)))]) H := hP
        have hD : va_D A ([(a 0, .inr (10, [.int (mm.1 0), .ref (a 1), .ref (a 2), .ref (a 3), .ref (a 4), .int ((mm.1 5) - 1), .int (yUb (mm.1 6)), .ref (a 7), .int (mm.1 8), .ref (a 9), .ref (a 10), .ref (a 11), .ref (a 12), .int (mm.1 13), .ref (a 14), .int (mm.1 15), .int (mm.1 16), .int (mm.1 17), .int (mm.1 18), .int (mm.1 19), .int (mm.1 20), .ref (a 21), .ref (a 22), .ref (a 23), .ref (a 24), .int (mm.1 25), .int (mm.1 26), .int (mm.1 27), .int (mm.1 28), .ref (a 29), .ref (a 30), .ref (a 31), .ref (a 32), .int (mm.1 33), .ref (a 34), .ref (a 35), .ref (a 36)])), (a 1, .inl (cI, 3, .inl (mm.2 1))), (a 2, .inl (cI, 3, .inl (mm.2 2))), (a 3, .inl (cI, 3, .inl (mm.2 3))), (a 4, .inl (cI, 33, .inl (unL (mm.2 4) (mm.2 7) (yUb (mm.1 6)) i))), (a 7, .inl (cI, 330, .inl (mm.2 7))), (a 9, .inl (cI, 6, .inl (mm.2 9))), (a 10, .inl (cI, 6, .inl (mm.2 10))), (a 11, .inl (cZ, 2, .inl (mm.2 11))), (a 12, .inl (cI, 66, .inl (mm.2 12))), (a 14, .inl (cI, 100, .inl (mm.2 14))), (a 21, .inl (cI, 3, .inl (mm.2 21))), (a 22, .inl (cI, 3, .inl (mm.2 22))), (a 23, .inl (cI, 3, .inl (mm.2 23))), (a 24, .inl (cI, 33, .inl (mm.2 24))), (a 29, .inl (cI, 11, .inl (mm.2 29))), (a 30, .inl (cI, 11, .inl (mm.2 30))), (a 31, .inl (cI, 11, .inl (mm.2 31))), (a 32, .inl (cI, 11, .inl (mm.2 32))), (a 34, .inl (cI, 11, .inl (mm.2 34))), (a 35, .inl (cI, 11, .inl (mm.2 35))), (a 36, .inl (cI, 1176, .inl (mm.2 36)))]) := hD
        refine lv_iload_n hx hb dX10_undo_38 rfl (lv_at hl 1 rfl) ?_
        refine lv_bipush (v := 33) hx hb dX10_undo_39 (by decide) ?_
        refine lv_icmp_ge (tgt := 70) hx hb dX10_undo_41 (by decide) (fun c_41 => ?_) (fun c_41 => ?_)
        · have i_41 := i_le c_41
          rw [(by decide : (33 : Int32).toInt = 33)] at i_41
          rw [nIT (by omega)] at i_41
          have e_41 : i = 33 := by omega
          refine lv_aload_n hx hb dX10_undo_70 rfl (lv_at hl 0 rfl) ?_
          refine va_get (D := D) (ci := 10) (v := .int ((mm.1 5) - 1)) (C := RX10) (T := TX10) (N := 37) hx hb hts hin_10 hown hK hP 0 rfl rfl 5 (by decide) fl_130 (fun _ h9 => h9) rfl dX10_undo_71 ?_
          have em_74_5 : (if (mm.1 5) = 0 then (mm.1 5) else (mm.1 5) - 1) = ((mm.1 5) - 1) := by first | (simp only [if_neg c_4, if_pos c_41, ↓reduceIte]; done) | (simp only [if_neg c_4, if_pos c_41, e_41, ↓reduceIte]; done)
          have em_74_6 : (if (mm.1 5) = 0 then (mm.1 6) else yUb (mm.1 6)) = (yUb (mm.1 6)) := by first | (simp only [if_neg c_4, if_pos c_41, ↓reduceIte]; done) | (simp only [if_neg c_4, if_pos c_41, e_41, ↓reduceIte]; done)
          have em_74_4 : (if (mm.1 5) = 0 then (mm.2 4) else unL (mm.2 4) (mm.2 7) (yUb (mm.1 6)) 33) = (unL (mm.2 4) (mm.2 7) (yUb (mm.1 6)) i) := by first | (simp only [if_neg c_4, if_pos c_41, ↓reduceIte]; done) | (simp only [if_neg c_4, if_pos c_41, e_41, ↓reduceIte]; done)
          have hP : va_P D vwCl (wM a cI cZ (mF (mS (mS mm 5 ((mm.1 5) - 1)) 6 (yUb (mm.1 6))) 4 (unL (mm.2 4) (mm.2 7) (yUb (mm.1 6)) i))) H := hP
          have hD : va_D A (wM a cI cZ (mF (mS (mS mm 5 ((mm.1 5) - 1)) 6 (yUb (mm.1 6))) 4 (unL (mm.2 4) (mm.2 7) (yUb (mm.1 6)) i))) := hD
          have eM_74 : (mF (mS (mS mm 5 (if (mm.1 5) = 0 then (mm.1 5) else (mm.1 5) - 1)) 6 (if (mm.1 5) = 0 then (mm.1 6) else yUb (mm.1 6))) 4 (if (mm.1 5) = 0 then (mm.2 4) else unL (mm.2 4) (mm.2 7) (yUb (mm.1 6)) 33)) = (mF (mS (mS mm 5 ((mm.1 5) - 1)) 6 (yUb (mm.1 6))) 4 (unL (mm.2 4) (mm.2 7) (yUb (mm.1 6)) i)) := (mF_c (mS_c (mS_c rfl em_74_5) em_74_6) em_74_4)
          rw [← eM_74] at hP hD
          exact lf_i hx hb hr hlocks hQ (mF (mS (mS mm 5 (if (mm.1 5) = 0 then (mm.1 5) else (mm.1 5) - 1)) 6 (if (mm.1 5) = 0 then (mm.1 6) else yUb (mm.1 6))) 4 (if (mm.1 5) = 0 then (mm.2 4) else unL (mm.2 4) (mm.2 7) (yUb (mm.1 6)) 33)) hP hD hS dX10_undo_74 ⟨(by simp only [if_neg c_4, if_pos c_41, ↓reduceIte]), rfl⟩
        · have i_41 := i_nle c_41
          rw [(by decide : (33 : Int32).toInt = 33)] at i_41
          rw [nIT (by omega)] at i_41
          refine lv_aload_n hx hb dX10_undo_44 rfl (lv_at hl 0 rfl) ?_
          refine va_get (D := D) (ci := 10) (v := .ref (a 4)) (C := RX10) (T := TX10) (N := 37) hx hb hts hin_10 hown hK hP 0 rfl rfl 4 (by decide) fl_19 (fun _ h9 => h9) rfl dX10_undo_45 ?_
          refine lv_iload_n hx hb dX10_undo_48 rfl (lv_at hl 1 rfl) ?_
          refine lv_aload_n hx hb dX10_undo_49 rfl (lv_at hl 0 rfl) ?_
          refine va_get (D := D) (ci := 10) (v := .ref (a 7)) (C := RX10) (T := TX10) (N := 37) hx hb hts hin_10 hown hK hP 0 rfl rfl 7 (by decide) fl_22 (fun _ h9 => h9) rfl dX10_undo_50 ?_
          refine lv_bipush (v := 33) hx hb dX10_undo_53 (by decide) ?_
          refine lv_aload_n hx hb dX10_undo_55 rfl (lv_at hl 0 rfl) ?_
          refine va_get (D := D) (ci := 10) (v := .int (yUb (mm.1 6))) (C := RX10) (T := TX10) (N := 37) hx hb hts hin_10 hown hK hP 0 rfl rfl 6 (by decide) fl_189 (fun _ h9 => h9) rfl dX10_undo_56 ?_
          refine lv_imul hx hb dX10_undo_59 ?_
          refine lv_iload_n hx hb dX10_undo_60 rfl (lv_at hl 1 rfl) ?_
          refine lv_iadd hx hb dX10_undo_61 ?_
          refine va_iald (D := D) (f := (mm.2 7)) hx hb hK hP 5 0 rfl rfl (in33 hub.1 (by decide) hub.2 i (by omega) (by decide)) dX10_undo_62 ?_
          refine va_iast (D := D) (f := (unL (mm.2 4) (mm.2 7) (yUb (mm.1 6)) i)) hx hb hK hP hD hS 4 0 rfl rfl (vp_in_nI (by omega) (by decide)) dX10_undo_63 (fun H locs hP hD hS => ?_)
          have hP : va_P D vwCl ([(a 0, .inr (10, [.int (mm.1 0), .ref (a 1), .ref (a 2), .ref (a 3), .ref (a 4), .int ((mm.1 5) - 1), .int (yUb (mm.1 6)), .ref (a 7), .int (mm.1 8), .ref (a 9), .ref (a 10), .ref (a 11), .ref (a 12), .int (mm.1 13), .ref (a 14), .int (mm.1 15), .int (mm.1 16), .int (mm.1 17), .int (mm.1 18), .int (mm.1 19), .int (mm.1 20), .ref (a 21), .ref (a 22), .ref (a 23), .ref (a 24), .int (mm.1 25), .int (mm.1 26), .int (mm.1 27), .int (mm.1 28), .ref (a 29), .ref (a 30), .ref (a 31), .ref (a 32), .int (mm.1 33), .ref (a 34), .ref (a 35), .ref (a 36)])), (a 1, .inl (cI, 3, .inl (mm.2 1))), (a 2, .inl (cI, 3, .inl (mm.2 2))), (a 3, .inl (cI, 3, .inl (mm.2 3))), (a 4, .inl (cI, 33, .inl (upd (unL (mm.2 4) (mm.2 7) (yUb (mm.1 6)) i) ((nI i).toNatClampNeg) ((mm.2 7) ((33 * (yUb (mm.1 6))) + (nI i)).toNatClampNeg)))), (a 7, .inl (cI, 330, .inl (mm.2 7))), (a 9, .inl (cI, 6, .inl (mm.2 9))), (a 10, .inl (cI, 6, .inl (mm.2 10))), (a 11, .inl (cZ, 2, .inl (mm.2 11))), (a 12, .inl (cI, 66, .inl (mm.2 12))), (a 14, .inl (cI, 100, .inl (mm.2 14))), (a 21, .inl (cI, 3, .inl (mm.2 21))), (a 22, .inl (cI, 3, .inl (mm.2 22))), (a 23, .inl (cI, 3, .inl (mm.2 23))), (a 24, .inl (cI, 33, .inl (mm.2 24))), (a 29, .inl (cI, 11, .inl (mm.2 29))), (a 30, .inl (cI, 11, .inl (mm.2 30))), (a 31, .inl (cI, 11, .inl (mm.2 31))), (a 32, .inl (cI, 11, .inl (mm.2 32))), (a 34, .inl (cI, 11, .inl (mm.2 34))), (a 35, .inl (cI, 11, .inl (mm.2 35))), (a 36, .inl (cI, 1176, .inl (mm.2 36)))]) H := hP
          have hD : va_D A ([(a 0, .inr (10, [.int (mm.1 0), .ref (a 1), .ref (a 2), .ref (a 3), .ref (a 4), .int ((mm.1 5) - 1), .int (yUb (mm.1 6)), .ref (a 7), .int (mm.1 8), .ref (a 9), .ref (a 10), .ref (a 11), .ref (a 12), .int (mm.1 13), .ref (a 14), .int (mm.1 15), .int (mm.1 16), .int (mm.1 17), .int (mm.1 18), .int (mm.1 19), .int (mm.1 20), .ref (a 21), .ref (a 22), .ref (a 23), .ref (a 24), .int (mm.1 25), .int (mm.1 26), .int (mm.1 27), .int (mm.1 28), .ref (a 29), .ref (a 30), .ref (a 31), .ref (a 32), .int (mm.1 33), .ref (a 34), .ref (a 35), .ref (a 36)])), (a 1, .inl (cI, 3, .inl (mm.2 1))), (a 2, .inl (cI, 3, .inl (mm.2 2))), (a 3, .inl (cI, 3, .inl (mm.2 3))), (a 4, .inl (cI, 33, .inl (upd (unL (mm.2 4) (mm.2 7) (yUb (mm.1 6)) i) ((nI i).toNatClampNeg) ((mm.2 7) ((33 * (yUb (mm.1 6))) + (nI i)).toNatClampNeg)))), (a 7, .inl (cI, 330, .inl (mm.2 7))), (a 9, .inl (cI, 6, .inl (mm.2 9))), (a 10, .inl (cI, 6, .inl (mm.2 10))), (a 11, .inl (cZ, 2, .inl (mm.2 11))), (a 12, .inl (cI, 66, .inl (mm.2 12))), (a 14, .inl (cI, 100, .inl (mm.2 14))), (a 21, .inl (cI, 3, .inl (mm.2 21))), (a 22, .inl (cI, 3, .inl (mm.2 22))), (a 23, .inl (cI, 3, .inl (mm.2 23))), (a 24, .inl (cI, 33, .inl (mm.2 24))), (a 29, .inl (cI, 11, .inl (mm.2 29))), (a 30, .inl (cI, 11, .inl (mm.2 30))), (a 31, .inl (cI, 11, .inl (mm.2 31))), (a 32, .inl (cI, 11, .inl (mm.2 32))), (a 34, .inl (cI, 11, .inl (mm.2 34))), (a 35, .inl (cI, 11, .inl (mm.2 35))), (a 36, .inl (cI, 1176, .inl (mm.2 36)))]) := hD
          refine lv_iinc (v := ((nI i) + 1)) (lv' := [(1, .int ((nI i) + 1)), (0, .ref (a 0))]) hx hb dX10_undo_64 hl (k := 1) rfl rfl (by decide) rfl (fun ls hl => ?_)
          rw [show nI i + 1 = nI (i + 1) from nI_1 _] at hl
          have hl : lv_has ls 2 [(1, .int (nI (i + 1))), (0, .ref (a 0))] := hl
          refine lv_goto (tgt := 38) hx hb dX10_undo_67 (by decide) ?_
          have em_38_4 : (unL (mm.2 4) (mm.2 7) (yUb (mm.1 6)) (i + 1)) = (upd (unL (mm.2 4) (mm.2 7) (yUb (mm.1 6)) i) ((nI i).toNatClampNeg) ((mm.2 7) ((33 * (yUb (mm.1 6))) + (nI i)).toNatClampNeg)) := by rfl
          have hP : va_P D vwCl (wM a cI cZ (mF (mS (mS mm 5 ((mm.1 5) - 1)) 6 (yUb (mm.1 6))) 4 (upd (unL (mm.2 4) (mm.2 7) (yUb (mm.1 6)) i) ((nI i).toNatClampNeg) ((mm.2 7) ((33 * (yUb (mm.1 6))) + (nI i)).toNatClampNeg)))) H := hP
          have hD : va_D A (wM a cI cZ (mF (mS (mS mm 5 ((mm.1 5) - 1)) 6 (yUb (mm.1 6))) 4 (upd (unL (mm.2 4) (mm.2 7) (yUb (mm.1 6)) i) ((nI i).toNatClampNeg) ((mm.2 7) ((33 * (yUb (mm.1 6))) + (nI i)).toNatClampNeg)))) := hD
          have eM_38 : (mF (mS (mS mm 5 ((mm.1 5) - 1)) 6 (yUb (mm.1 6))) 4 (unL (mm.2 4) (mm.2 7) (yUb (mm.1 6)) (i + 1))) = (mF (mS (mS mm 5 ((mm.1 5) - 1)) 6 (yUb (mm.1 6))) 4 (upd (unL (mm.2 4) (mm.2 7) (yUb (mm.1 6)) i) ((nI i).toNatClampNeg) ((mm.2 7) ((33 * (yUb (mm.1 6))) + (nI i)).toNatClampNeg))) := (mF_c (mS_c (mS_c rfl rfl) rfl) em_38_4)
          rw [← eM_38] at hP hD
          exact LB_38 (i + 1) (by omega) (by omega) H locs hP hD hS ls (lv_sub hl [1, 0] rfl)
    have em_38_6 : (yUb (mm.1 6)) = ((((mm.1 6) + 10) - 1) - (((mm.1 6) + 10) - 1) / 10 * 10) := by rfl
    have em_38_4 : (unL (mm.2 4) (mm.2 7) (yUb (mm.1 6)) 0) = (mm.2 4) := by rfl
    have hP : va_P D vwCl (wM a cI cZ (mF (mS (mS mm 5 ((mm.1 5) - 1)) 6 ((((mm.1 6) + 10) - 1) - (((mm.1 6) + 10) - 1) / 10 * 10)) 4 (mm.2 4))) H := hP
    have hD : va_D A (wM a cI cZ (mF (mS (mS mm 5 ((mm.1 5) - 1)) 6 ((((mm.1 6) + 10) - 1) - (((mm.1 6) + 10) - 1) / 10 * 10)) 4 (mm.2 4))) := hD
    have eM_38 : (mF (mS (mS mm 5 ((mm.1 5) - 1)) 6 (yUb (mm.1 6))) 4 (unL (mm.2 4) (mm.2 7) (yUb (mm.1 6)) 0)) = (mF (mS (mS mm 5 ((mm.1 5) - 1)) 6 ((((mm.1 6) + 10) - 1) - (((mm.1 6) + 10) - 1) / 10 * 10)) 4 (mm.2 4)) := (mF_c (mS_c (mS_c rfl rfl) em_38_6) em_38_4)
    rw [← eM_38] at hP hD
    exact LB_38 (33 + 1) 0 (by omega) (by omega) H locs hP hD hS ls (lv_sub hl [1, 0] rfl)
  · have i_4 := i_eq c_4
    rw [(by decide : (0 : Int32).toInt = 0)] at i_4
    refine lv_bipush (v := (-2)) hx hb dX10_undo_7 (by decide) ?_
    have em_9_5 : (if (mm.1 5) = 0 then (mm.1 5) else (mm.1 5) - 1) = (mm.1 5) := by first | (simp only [if_pos c_4, ↓reduceIte]; done) | (simp only [if_pos c_4, e_41, ↓reduceIte]; done)
    have em_9_6 : (if (mm.1 5) = 0 then (mm.1 6) else yUb (mm.1 6)) = (mm.1 6) := by first | (simp only [if_pos c_4, ↓reduceIte]; done) | (simp only [if_pos c_4, e_41, ↓reduceIte]; done)
    have em_9_4 : (if (mm.1 5) = 0 then (mm.2 4) else unL (mm.2 4) (mm.2 7) (yUb (mm.1 6)) 33) = (mm.2 4) := by first | (simp only [if_pos c_4, ↓reduceIte]; done) | (simp only [if_pos c_4, e_41, ↓reduceIte]; done)
    have hP : va_P D vwCl (wM a cI cZ (mF (mS (mS mm 5 (mm.1 5)) 6 (mm.1 6)) 4 (mm.2 4))) H := hP
    have hD : va_D A (wM a cI cZ (mF (mS (mS mm 5 (mm.1 5)) 6 (mm.1 6)) 4 (mm.2 4))) := hD
    have eM_9 : (mF (mS (mS mm 5 (if (mm.1 5) = 0 then (mm.1 5) else (mm.1 5) - 1)) 6 (if (mm.1 5) = 0 then (mm.1 6) else yUb (mm.1 6))) 4 (if (mm.1 5) = 0 then (mm.2 4) else unL (mm.2 4) (mm.2 7) (yUb (mm.1 6)) 33)) = (mF (mS (mS mm 5 (mm.1 5)) 6 (mm.1 6)) 4 (mm.2 4)) := (mF_c (mS_c (mS_c rfl em_9_5) em_9_6) em_9_4)
    rw [← eM_9] at hP hD
    exact lf_i hx hb hr hlocks hQ (mF (mS (mS mm 5 (if (mm.1 5) = 0 then (mm.1 5) else (mm.1 5) - 1)) 6 (if (mm.1 5) = 0 then (mm.1 6) else yUb (mm.1 6))) 4 (if (mm.1 5) = 0 then (mm.2 4) else unL (mm.2 4) (mm.2 7) (yUb (mm.1 6)) 33)) hP hD hS dX10_undo_9 ⟨(by simp only [if_pos c_4, ↓reduceIte]), rfl⟩
abbrev rm_X10_sees : Room := { frames := 1, cells := 0, slots := 0, locals := 22 }
set_option maxHeartbeats 4000000 in
set_option maxRecDepth 100000 in
theorem c_X10_sees (l : Launch) (D : va_G) (cI cJ cZ : ClassId) (a : Nat → Nat) (sz : Nat) (mm : MS) (n : Int32) (x : Int32) (y : Int32) (h0s : 0 ≤ (mm.1 8).toInt) (h6s : (mm.1 8).toInt ≤ 6) : Met l yX10_sees wsX10_sees rm_X10_sees (va_Pc [.ref (a 0), .int n, .int x, .int y] (PU D (tyL cI cJ cZ) (wM a cI cZ mm) sz)) (va_Qi (fun (rz : Int32) (uz : MS) => rz = ySe (mm.1 0) (mm.1 8) n x y ∧ uz = (mF (mF (mS mm 8 (if ySeG (mm.1 0) (mm.1 8) n x y = true then ((mm.1 8) + 1) else (mm.1 8))) 9 (if ySeG (mm.1 0) (mm.1 8) n x y = true then (upd (mm.2 9) ((mm.1 8)).toNatClampNeg n) else (mm.2 9))) 10 (if ySeG (mm.1 0) (mm.1 8) n x y = true then (upd (mm.2 10) ((mm.1 8)).toNatClampNeg (7 * x + y)) else (mm.2 10)))) (fun uz => BU D (wM a cI cZ uz) (va_A (wM a cI cZ mm) sz)) (va_A (wM a cI cZ mm) sz)) 0 0 (va_A (wM a cI cZ mm) sz) := by
  refine en (own := RX10) (Qc := fun A => va_Qi (fun (rz : Int32) (uz : MS) => rz = ySe (mm.1 0) (mm.1 8) n x y ∧ uz = (mF (mF (mS mm 8 (if ySeG (mm.1 0) (mm.1 8) n x y = true then ((mm.1 8) + 1) else (mm.1 8))) 9 (if ySeG (mm.1 0) (mm.1 8) n x y = true then (upd (mm.2 9) ((mm.1 8)).toNatClampNeg n) else (mm.2 9))) 10 (if ySeG (mm.1 0) (mm.1 8) n x y = true then (upd (mm.2 10) ((mm.1 8)).toNatClampNeg (7 * x + y)) else (mm.2 10)))) (fun uz => BU D (wM a cI cZ uz) A) A) (by decide) rfl (Nat.le_of_ble_eq_true rfl) rfl ?_
  intro p e s m args below meth c A Q H locs ls hx hb hr hml hown hts hlocks hname hA hN hE hK hQ hP hD hS hl
  have hl : lv_has ls 4 [(0, .ref (a 0)), (1, .int n), (2, .int x), (3, .int y)] := hl
  have fl_127 := hts (.fieldLink RX10 127 "DanceStaffsModel" "many" "I") (by decide +kernel)
  have hin_10 : ∀ w ∈ u_ws RX10 TX10 37, w ∈ wsX10_sees := by decide +kernel
  have fl_133 := hts (.fieldLink RX10 133 "DanceStaffsModel" "seenMany" "I") (by decide +kernel)
  have fl_25 := hts (.fieldLink RX10 25 "DanceStaffsModel" "seenBeat" "[I") (by decide +kernel)
  have fl_28 := hts (.fieldLink RX10 28 "DanceStaffsModel" "seenPlace" "[I") (by decide +kernel)
  refine lv_aload_n hx hb dX10_sees_0 rfl (lv_at hl 0 rfl) ?_
  refine va_get (D := D) (ci := 10) (v := .int (mm.1 0)) (C := RX10) (T := TX10) (N := 37) hx hb hts hin_10 hown hK hP 0 rfl rfl 0 (by decide) fl_127 (fun _ h9 => h9) rfl dX10_sees_1 ?_
  refine lv_if_eq (tgt := 37) hx hb dX10_sees_4 (by decide) (fun c_4 => ?_) (fun c_4 => ?_)
  · have i_4 := i_eq c_4
    rw [(by decide : (0 : Int32).toInt = 0)] at i_4
    refine lv_iconst (v := (-1)) hx hb dX10_sees_37 (by decide) ?_
    have em_38_8 : (if ySeG (mm.1 0) (mm.1 8) n x y = true then ((mm.1 8) + 1) else (mm.1 8)) = (mm.1 8) := by simp only [ySeG, ySeCk, if_pos c_4, ↓reduceIte, reduceCtorEq]
    have em_38_9 : (if ySeG (mm.1 0) (mm.1 8) n x y = true then (upd (mm.2 9) ((mm.1 8)).toNatClampNeg n) else (mm.2 9)) = (mm.2 9) := by simp only [ySeG, ySeCk, if_pos c_4, ↓reduceIte, reduceCtorEq]
    have em_38_10 : (if ySeG (mm.1 0) (mm.1 8) n x y = true then (upd (mm.2 10) ((mm.1 8)).toNatClampNeg (7 * x + y)) else (mm.2 10)) = (mm.2 10) := by simp only [ySeG, ySeCk, if_pos c_4, ↓reduceIte, reduceCtorEq]
    have hP : va_P D vwCl (wM a cI cZ (mF (mF (mS mm 8 (mm.1 8)) 9 (mm.2 9)) 10 (mm.2 10))) H := hP
    have hD : va_D A (wM a cI cZ (mF (mF (mS mm 8 (mm.1 8)) 9 (mm.2 9)) 10 (mm.2 10))) := hD
    have eM_38 : (mF (mF (mS mm 8 (if ySeG (mm.1 0) (mm.1 8) n x y = true then ((mm.1 8) + 1) else (mm.1 8))) 9 (if ySeG (mm.1 0) (mm.1 8) n x y = true then (upd (mm.2 9) ((mm.1 8)).toNatClampNeg n) else (mm.2 9))) 10 (if ySeG (mm.1 0) (mm.1 8) n x y = true then (upd (mm.2 10) ((mm.1 8)).toNatClampNeg (7 * x + y)) else (mm.2 10))) = (mF (mF (mS mm 8 (mm.1 8)) 9 (mm.2 9)) 10 (mm.2 10)) := (mF_c (mF_c (mS_c rfl em_38_8) em_38_9) em_38_10)
    rw [← eM_38] at hP hD
    exact lf_i hx hb hr hlocks hQ (mF (mF (mS mm 8 (if ySeG (mm.1 0) (mm.1 8) n x y = true then ((mm.1 8) + 1) else (mm.1 8))) 9 (if ySeG (mm.1 0) (mm.1 8) n x y = true then (upd (mm.2 9) ((mm.1 8)).toNatClampNeg n) else (mm.2 9))) 10 (if ySeG (mm.1 0) (mm.1 8) n x y = true then (upd (mm.2 10) ((mm.1 8)).toNatClampNeg (7 * x + y)) else (mm.2 10))) hP hD hS dX10_sees_38 ⟨(by simp only [ySe, ySeCk, if_pos c_4, ↓reduceIte, reduceCtorEq]), rfl⟩
  · have i_4 := i_ne c_4
    rw [(by decide : (0 : Int32).toInt = 0)] at i_4
    refine lv_iload_n hx hb dX10_sees_7 rfl (lv_at hl 1 rfl) ?_
    refine lv_iconst (v := 0) hx hb dX10_sees_8 (by decide) ?_
    refine lv_bipush (v := 10) hx hb dX10_sees_9 (by decide) ?_
    refine st_i (va_runS (As := [.int n, .int 0, .int 10]) (rest := []) ⟨hx, hb, hml, hown, hts⟩ (c_X10_in l D cI cJ cZ H.size n 0 10) (va_cwS 3 hts gX10_sees_X10_in rfl rfl rfl (by decide +kernel) ⟨Nat.le_of_ble_eq_true rfl, Nat.le_of_ble_eq_true rfl⟩) (pr_S hP hD hK hN hE hS hA [] (by decide) rfl) rfl rfl hl.1 rfl (lv_room (Nat.le_of_ble_eq_true rfl)) dX10_sees_11 ⟨Nat.zero_le _, Nat.zero_le _⟩) hP hS hA (fun r_11 u_11 H locs hw_11 hP hS => ?_)
    have hr_11 := hw_11
    refine lv_if_eq (tgt := 37) hx hb dX10_sees_14 (by decide) (fun c_14 => ?_) (fun c_14 => ?_)
    · have b_14 : (inR n 0 10) = false := bI_0 (hr_11.symm.trans c_14)
      refine lv_iconst (v := (-1)) hx hb dX10_sees_37 (by decide) ?_
      have em_38_8 : (if ySeG (mm.1 0) (mm.1 8) n x y = true then ((mm.1 8) + 1) else (mm.1 8)) = (mm.1 8) := by simp only [ySeG, ySeCk, if_neg c_4, b_14, ↓reduceIte, reduceCtorEq]
      have em_38_9 : (if ySeG (mm.1 0) (mm.1 8) n x y = true then (upd (mm.2 9) ((mm.1 8)).toNatClampNeg n) else (mm.2 9)) = (mm.2 9) := by simp only [ySeG, ySeCk, if_neg c_4, b_14, ↓reduceIte, reduceCtorEq]
      have em_38_10 : (if ySeG (mm.1 0) (mm.1 8) n x y = true then (upd (mm.2 10) ((mm.1 8)).toNatClampNeg (7 * x + y)) else (mm.2 10)) = (mm.2 10) := by simp only [ySeG, ySeCk, if_neg c_4, b_14, ↓reduceIte, reduceCtorEq]
      have hP : va_P D vwCl (wM a cI cZ (mF (mF (mS mm 8 (mm.1 8)) 9 (mm.2 9)) 10 (mm.2 10))) H := hP
      have hD : va_D A (wM a cI cZ (mF (mF (mS mm 8 (mm.1 8)) 9 (mm.2 9)) 10 (mm.2 10))) := hD
      have eM_38 : (mF (mF (mS mm 8 (if ySeG (mm.1 0) (mm.1 8) n x y = true then ((mm.1 8) + 1) else (mm.1 8))) 9 (if ySeG (mm.1 0) (mm.1 8) n x y = true then (upd (mm.2 9) ((mm.1 8)).toNatClampNeg n) else (mm.2 9))) 10 (if ySeG (mm.1 0) (mm.1 8) n x y = true then (upd (mm.2 10) ((mm.1 8)).toNatClampNeg (7 * x + y)) else (mm.2 10))) = (mF (mF (mS mm 8 (mm.1 8)) 9 (mm.2 9)) 10 (mm.2 10)) := (mF_c (mF_c (mS_c rfl em_38_8) em_38_9) em_38_10)
      rw [← eM_38] at hP hD
      exact lf_i hx hb hr hlocks hQ (mF (mF (mS mm 8 (if ySeG (mm.1 0) (mm.1 8) n x y = true then ((mm.1 8) + 1) else (mm.1 8))) 9 (if ySeG (mm.1 0) (mm.1 8) n x y = true then (upd (mm.2 9) ((mm.1 8)).toNatClampNeg n) else (mm.2 9))) 10 (if ySeG (mm.1 0) (mm.1 8) n x y = true then (upd (mm.2 10) ((mm.1 8)).toNatClampNeg (7 * x + y)) else (mm.2 10))) hP hD hS dX10_sees_38 ⟨(by simp only [ySe, ySeCk, if_neg c_4, b_14, ↓reduceIte, reduceCtorEq]), rfl⟩
    · have b_14 : (inR n 0 10) = true := bI_1 (fun q => c_14 (hr_11.trans q))
      refine lv_iload_n hx hb dX10_sees_17 rfl (lv_at hl 2 rfl) ?_
      refine lv_iconst (v := 0) hx hb dX10_sees_18 (by decide) ?_
      refine lv_bipush (v := 6) hx hb dX10_sees_19 (by decide) ?_
      refine st_i (va_runS (As := [.int x, .int 0, .int 6]) (rest := []) ⟨hx, hb, hml, hown, hts⟩ (c_X10_in l D cI cJ cZ H.size x 0 6) (va_cwS 3 hts gX10_sees_X10_in rfl rfl rfl (by decide +kernel) ⟨Nat.le_of_ble_eq_true rfl, Nat.le_of_ble_eq_true rfl⟩) (pr_S hP hD hK hN hE hS hA [] (by decide) rfl) rfl rfl hl.1 rfl (lv_room (Nat.le_of_ble_eq_true rfl)) dX10_sees_21 ⟨Nat.zero_le _, Nat.zero_le _⟩) hP hS hA (fun r_21 u_21 H locs hw_21 hP hS => ?_)
      have hr_21 := hw_21
      refine lv_if_eq (tgt := 37) hx hb dX10_sees_24 (by decide) (fun c_24 => ?_) (fun c_24 => ?_)
      · have b_24 : (inR x 0 6) = false := bI_0 (hr_21.symm.trans c_24)
        refine lv_iconst (v := (-1)) hx hb dX10_sees_37 (by decide) ?_
        have em_38_8 : (if ySeG (mm.1 0) (mm.1 8) n x y = true then ((mm.1 8) + 1) else (mm.1 8)) = (mm.1 8) := by simp only [ySeG, ySeCk, if_neg c_4, b_14, b_24, ↓reduceIte, reduceCtorEq]
        have em_38_9 : (if ySeG (mm.1 0) (mm.1 8) n x y = true then (upd (mm.2 9) ((mm.1 8)).toNatClampNeg n) else (mm.2 9)) = (mm.2 9) := by simp only [ySeG, ySeCk, if_neg c_4, b_14, b_24, ↓reduceIte, reduceCtorEq]
        have em_38_10 : (if ySeG (mm.1 0) (mm.1 8) n x y = true then (upd (mm.2 10) ((mm.1 8)).toNatClampNeg (7 * x + y)) else (mm.2 10)) = (mm.2 10) := by simp only [ySeG, ySeCk, if_neg c_4, b_14, b_24, ↓reduceIte, reduceCtorEq]
        have hP : va_P D vwCl (wM a cI cZ (mF (mF (mS mm 8 (mm.1 8)) 9 (mm.2 9)) 10 (mm.2 10))) H := hP
        have hD : va_D A (wM a cI cZ (mF (mF (mS mm 8 (mm.1 8)) 9 (mm.2 9)) 10 (mm.2 10))) := hD
        have eM_38 : (mF (mF (mS mm 8 (if ySeG (mm.1 0) (mm.1 8) n x y = true then ((mm.1 8) + 1) else (mm.1 8))) 9 (if ySeG (mm.1 0) (mm.1 8) n x y = true then (upd (mm.2 9) ((mm.1 8)).toNatClampNeg n) else (mm.2 9))) 10 (if ySeG (mm.1 0) (mm.1 8) n x y = true then (upd (mm.2 10) ((mm.1 8)).toNatClampNeg (7 * x + y)) else (mm.2 10))) = (mF (mF (mS mm 8 (mm.1 8)) 9 (mm.2 9)) 10 (mm.2 10)) := (mF_c (mF_c (mS_c rfl em_38_8) em_38_9) em_38_10)
        rw [← eM_38] at hP hD
        exact lf_i hx hb hr hlocks hQ (mF (mF (mS mm 8 (if ySeG (mm.1 0) (mm.1 8) n x y = true then ((mm.1 8) + 1) else (mm.1 8))) 9 (if ySeG (mm.1 0) (mm.1 8) n x y = true then (upd (mm.2 9) ((mm.1 8)).toNatClampNeg n) else (mm.2 9))) 10 (if ySeG (mm.1 0) (mm.1 8) n x y = true then (upd (mm.2 10) ((mm.1 8)).toNatClampNeg (7 * x + y)) else (mm.2 10))) hP hD hS dX10_sees_38 ⟨(by simp only [ySe, ySeCk, if_neg c_4, b_14, b_24, ↓reduceIte, reduceCtorEq]), rfl⟩
      · have b_24 : (inR x 0 6) = true := bI_1 (fun q => c_24 (hr_21.trans q))
        refine lv_iload_n hx hb dX10_sees_27 rfl (lv_at hl 3 rfl) ?_
        refine lv_iconst (v := 0) hx hb dX10_sees_28 (by decide) ?_
        refine lv_bipush (v := 6) hx hb dX10_sees_29 (by decide) ?_
        refine st_i (va_runS (As := [.int y, .int 0, .int 6]) (rest := []) ⟨hx, hb, hml, hown, hts⟩ (c_X10_in l D cI cJ cZ H.size y 0 6) (va_cwS 3 hts gX10_sees_X10_in rfl rfl rfl (by decide +kernel) ⟨Nat.le_of_ble_eq_true rfl, Nat.le_of_ble_eq_true rfl⟩) (pr_S hP hD hK hN hE hS hA [] (by decide) rfl) rfl rfl hl.1 rfl (lv_room (Nat.le_of_ble_eq_true rfl)) dX10_sees_31 ⟨Nat.zero_le _, Nat.zero_le _⟩) hP hS hA (fun r_31 u_31 H locs hw_31 hP hS => ?_)
        have hr_31 := hw_31
        refine lv_if_ne (tgt := 39) hx hb dX10_sees_34 (by decide) (fun c_34 => ?_) (fun c_34 => ?_)
        · have b_34 : (inR y 0 6) = true := bI_1 (fun q => c_34 (hr_31.trans q))
          refine lv_aload_n hx hb dX10_sees_39 rfl (lv_at hl 0 rfl) ?_
          refine va_get (D := D) (ci := 10) (v := .int (mm.1 8)) (C := RX10) (T := TX10) (N := 37) hx hb hts hin_10 hown hK hP 0 rfl rfl 8 (by decide) fl_133 (fun _ h9 => h9) rfl dX10_sees_40 ?_
          refine lv_bipush (v := 6) hx hb dX10_sees_43 (by decide) ?_
          refine lv_icmp_ne (tgt := 51) hx hb dX10_sees_45 (by decide) (fun c_45 => ?_) (fun c_45 => ?_)
          · have i_45 := i_ne c_45
            rw [(by decide : (6 : Int32).toInt = 6)] at i_45
            refine lv_aload_n hx hb dX10_sees_51 rfl (lv_at hl 0 rfl) ?_
            refine va_get (D := D) (ci := 10) (v := .ref (a 9)) (C := RX10) (T := TX10) (N := 37) hx hb hts hin_10 hown hK hP 0 rfl rfl 9 (by decide) fl_25 (fun _ h9 => h9) rfl dX10_sees_52 ?_
            refine lv_aload_n hx hb dX10_sees_55 rfl (lv_at hl 0 rfl) ?_
            refine va_get (D := D) (ci := 10) (v := .int (mm.1 8)) (C := RX10) (T := TX10) (N := 37) hx hb hts hin_10 hown hK hP 0 rfl rfl 8 (by decide) fl_133 (fun _ h9 => h9) rfl dX10_sees_56 ?_
            refine lv_iload_n hx hb dX10_sees_59 rfl (lv_at hl 1 rfl) ?_
            refine va_iast (D := D) (f := (mm.2 9)) hx hb hK hP hD hS 6 0 rfl rfl (by exact vi_mk (by omega) (by omega)) dX10_sees_60 (fun H locs hP hD hS => ?_)
            have hP : va_P D vwCl ([(a 0, .inr (10, [.int (mm.1 0), .ref (a 1), .ref (a 2), .ref (a 3), .ref (a 4), .int (mm.1 5), .int (mm.1 6), .ref (a 7), .int (mm.1 8), .ref (a 9), .ref (a 10), .ref (a 11), .ref (a 12), .int (mm.1 13), .ref (a 14), .int (mm.1 15), .int (mm.1 16), .int (mm.1 17), .int (mm.1 18), .int (mm.1 19), .int (mm.1 20), .ref (a 21), .ref (a 22), .ref (a 23), .ref (a 24), .int (mm.1 25), .int (mm.1 26), .int (mm.1 27), .int (mm.1 28), .ref (a 29), .ref (a 30), .ref (a 31), .ref (a 32), .int (mm.1 33), .ref (a 34), .ref (a 35), .ref (a 36)])), (a 1, .inl (cI, 3, .inl (mm.2 1))), (a 2, .inl (cI, 3, .inl (mm.2 2))), (a 3, .inl (cI, 3, .inl (mm.2 3))), (a 4, .inl (cI, 33, .inl (mm.2 4))), (a 7, .inl (cI, 330, .inl (mm.2 7))), (a 9, .inl (cI, 6, .inl (upd (mm.2 9) ((mm.1 8).toNatClampNeg) n))), (a 10, .inl (cI, 6, .inl (mm.2 10))), (a 11, .inl (cZ, 2, .inl (mm.2 11))), (a 12, .inl (cI, 66, .inl (mm.2 12))), (a 14, .inl (cI, 100, .inl (mm.2 14))), (a 21, .inl (cI, 3, .inl (mm.2 21))), (a 22, .inl (cI, 3, .inl (mm.2 22))), (a 23, .inl (cI, 3, .inl (mm.2 23))), (a 24, .inl (cI, 33, .inl (mm.2 24))), (a 29, .inl (cI, 11, .inl (mm.2 29))), (a 30, .inl (cI, 11, .inl (mm.2 30))), (a 31, .inl (cI, 11, .inl (mm.2 31))), (a 32, .inl (cI, 11, .inl (mm.2 32))), (a 34, .inl (cI, 11, .inl (mm.2 34))), (a 35, .inl (cI, 11, .inl (mm.2 35))), (a 36, .inl (cI, 1176, .inl (mm.2 36)))]) H := hP
            have hD : va_D A ([(a 0, .inr (10, [.int (mm.1 0), .ref (a 1), .ref (a 2), .ref (a 3), .ref (a 4), .int (mm.1 5), .int (mm.1 6), .ref (a 7), .int (mm.1 8), .ref (a 9), .ref (a 10), .ref (a 11), .ref (a 12), .int (mm.1 13), .ref (a 14), .int (mm.1 15), .int (mm.1 16), .int (mm.1 17), .int (mm.1 18), .int (mm.1 19), .int (mm.1 20), .ref (a 21), .ref (a 22), .ref (a 23), .ref (a 24), .int (mm.1 25), .int (mm.1 26), .int (mm.1 27), .int (mm.1 28), .ref (a 29), .ref (a 30), .ref (a 31), .ref (a 32), .int (mm.1 33), .ref (a 34), .ref (a 35), .ref (a 36)])), (a 1, .inl (cI, 3, .inl (mm.2 1))), (a 2, .inl (cI, 3, .inl (mm.2 2))), (a 3, .inl (cI, 3, .inl (mm.2 3))), (a 4, .inl (cI, 33, .inl (mm.2 4))), (a 7, .inl (cI, 330, .inl (mm.2 7))), (a 9, .inl (cI, 6, .inl (upd (mm.2 9) ((mm.1 8).toNatClampNeg) n))), (a 10, .inl (cI, 6, .inl (mm.2 10))), (a 11, .inl (cZ, 2, .inl (mm.2 11))), (a 12, .inl (cI, 66, .inl (mm.2 12))), (a 14, .inl (cI, 100, .inl (mm.2 14))), (a 21, .inl (cI, 3, .inl (mm.2 21))), (a 22, .inl (cI, 3, .inl (mm.2 22))), (a 23, .inl (cI, 3, .inl (mm.2 23))), (a 24, .inl (cI, 33, .inl (mm.2 24))), (a 29, .inl (cI, 11, .inl (mm.2 29))), (a 30, .inl (cI, 11, .inl (mm.2 30))), (a 31, .inl (cI, 11, .inl (mm.2 31))), (a 32, .inl (cI, 11, .inl (mm.2 32))), (a 34, .inl (cI, 11, .inl (mm.2 34))), (a 35, .inl (cI, 11, .inl (mm.2 35))), (a 36, .inl (cI, 1176, .inl (mm.2 36)))]) := hD
            refine lv_aload_n hx hb dX10_sees_61 rfl (lv_at hl 0 rfl) ?_
            refine va_get (D := D) (ci := 10) (v := .ref (a 10)) (C := RX10) (T := TX10) (N := 37) hx hb hts hin_10 hown hK hP 0 rfl rfl 10 (by decide) fl_28 (fun _ h9 => h9) rfl dX10_sees_62 ?_
            refine lv_aload_n hx hb dX10_sees_65 rfl (lv_at hl 0 rfl) ?_
            refine va_get (D := D) (ci := 10) (v := .int (mm.1 8)) (C := RX10) (T := TX10) (N := 37) hx hb hts hin_10 hown hK hP 0 rfl rfl 8 (by decide) fl_133 (fun _ h9 => h9) rfl dX10_sees_66 ?_
            refine lv_bipush (v := 7) hx hb dX10_sees_69 (by decide) ?_
            refine lv_iload_n hx hb dX10_sees_71 rfl (lv_at hl 2 rfl) ?_
            refine lv_imul hx hb dX10_sees_72 ?_
            refine lv_iload_n hx hb dX10_sees_73 rfl (lv_at hl 3 rfl) ?_
            refine lv_iadd hx hb dX10_sees_74 ?_
            refine va_iast (D := D) (f := (mm.2 10)) hx hb hK hP hD hS 7 0 rfl rfl (by exact vi_mk (by omega) (by omega)) dX10_sees_75 (fun H locs hP hD hS => ?_)
            have hP : va_P D vwCl ([(a 0, .inr (10, [.int (mm.1 0), .ref (a 1), .ref (a 2), .ref (a 3), .ref (a 4), .int (mm.1 5), .int (mm.1 6), .ref (a 7), .int (mm.1 8), .ref (a 9), .ref (a 10), .ref (a 11), .ref (a 12), .int (mm.1 13), .ref (a 14), .int (mm.1 15), .int (mm.1 16), .int (mm.1 17), .int (mm.1 18), .int (mm.1 19), .int (mm.1 20), .ref (a 21), .ref (a 22), .ref (a 23), .ref (a 24), .int (mm.1 25), .int (mm.1 26), .int (mm.1 27), .int (mm.1 28), .ref (a 29), .ref (a 30), .ref (a 31), .ref (a 32), .int (mm.1 33), .ref (a 34), .ref (a 35), .ref (a 36)])), (a 1, .inl (cI, 3, .inl (mm.2 1))), (a 2, .inl (cI, 3, .inl (mm.2 2))), (a 3, .inl (cI, 3, .inl (mm.2 3))), (a 4, .inl (cI, 33, .inl (mm.2 4))), (a 7, .inl (cI, 330, .inl (mm.2 7))), (a 9, .inl (cI, 6, .inl (upd (mm.2 9) ((mm.1 8).toNatClampNeg) n))), (a 10, .inl (cI, 6, .inl (upd (mm.2 10) ((mm.1 8).toNatClampNeg) ((7 * x) + y)))), (a 11, .inl (cZ, 2, .inl (mm.2 11))), (a 12, .inl (cI, 66, .inl (mm.2 12))), (a 14, .inl (cI, 100, .inl (mm.2 14))), (a 21, .inl (cI, 3, .inl (mm.2 21))), (a 22, .inl (cI, 3, .inl (mm.2 22))), (a 23, .inl (cI, 3, .inl (mm.2 23))), (a 24, .inl (cI, 33, .inl (mm.2 24))), (a 29, .inl (cI, 11, .inl (mm.2 29))), (a 30, .inl (cI, 11, .inl (mm.2 30))), (a 31, .inl (cI, 11, .inl (mm.2 31))), (a 32, .inl (cI, 11, .inl (mm.2 32))), (a 34, .inl (cI, 11, .inl (mm.2 34))), (a 35, .inl (cI, 11, .inl (mm.2 35))), (a 36, .inl (cI, 1176, .inl (mm.2 36)))]) H := hP
            have hD : va_D A ([(a 0, .inr (10, [.int (mm.1 0), .ref (a 1), .ref (a 2), .ref (a 3), .ref (a 4), .int (mm.1 5), .int (mm.1 6), .ref (a 7), .int (mm.1 8), .ref (a 9), .ref (a 10), .ref (a 11), .ref (a 12), .int (mm.1 13), .ref (a 14), .int (mm.1 15), .int (mm.1 16), .int (mm.1 17), .int (mm.1 18), .int (mm.1 19), .int (mm.1 20), .ref (a 21), .ref (a 22), .ref (a 23), .ref (a 24), .int (mm.1 25), .int (mm.1 26), .int (mm.1 27), .int (mm.1 28), .ref (a 29), .ref (a 30), .ref (a 31), .ref (a 32), .int (mm.1 33), .ref (a 34), .ref (a 35), .ref (a 36)])), (a 1, .inl (cI, 3, .inl (mm.2 1))), (a 2, .inl (cI, 3, .inl (mm.2 2))), (a 3, .inl (cI, 3, .inl (mm.2 3))), (a 4, .inl (cI, 33, .inl (mm.2 4))), (a 7, .inl (cI, 330, .inl (mm.2 7))), (a 9, .inl (cI, 6, .inl (upd (mm.2 9) ((mm.1 8).toNatClampNeg) n))), (a 10, .inl (cI, 6, .inl (upd (mm.2 10) ((mm.1 8).toNatClampNeg) ((7 * x) + y)))), (a 11, .inl (cZ, 2, .inl (mm.2 11))), (a 12, .inl (cI, 66, .inl (mm.2 12))), (a 14, .inl (cI, 100, .inl (mm.2 14))), (a 21, .inl (cI, 3, .inl (mm.2 21))), (a 22, .inl (cI, 3, .inl (mm.2 22))), (a 23, .inl (cI, 3, .inl (mm.2 23))), (a 24, .inl (cI, 33, .inl (mm.2 24))), (a 29, .inl (cI, 11, .inl (mm.2 29))), (a 30, .inl (cI, 11, .inl (mm.2 30))), (a 31, .inl (cI, 11, .inl (mm.2 31))), (a 32, .inl (cI, 11, .inl (mm.2 32))), (a 34, .inl (cI, 11, .inl (mm.2 34))), (a 35, .inl (cI, 11, .inl (mm.2 35))), (a 36, .inl (cI, 1176, .inl (mm.2 36)))]) := hD
            refine lv_aload_n hx hb dX10_sees_76 rfl (lv_at hl 0 rfl) ?_
            refine lv_dup hx hb dX10_sees_77 rfl ?_
            refine va_get (D := D) (ci := 10) (v := .int (mm.1 8)) (C := RX10) (T := TX10) (N := 37) hx hb hts hin_10 hown hK hP 0 rfl rfl 8 (by decide) fl_133 (fun _ h9 => h9) rfl dX10_sees_78 ?_
            refine lv_iconst (v := 1) hx hb dX10_sees_81 (by decide) ?_
            refine lv_iadd hx hb dX10_sees_82 ?_
            refine va_put (D := D) (ci := 10) (v := .int ((mm.1 8) + 1)) (ty := .int) (C := RX10) (T := TX10) (N := 37) hx hb hts hin_10 tyX10 tyX10_ok nmX10 hown hK hP hD hS 0 rfl rfl 8 (by decide) fl_133 (fun _ h9 => h9) rfl (by decide +kernel) rfl rfl (Nat.le_of_ble_eq_true rfl) dX10_sees_83 (fun H locs hP hD hS => ?_)
            have hP : va_P D vwCl ([(a 0, .inr (10, [.int (mm.1 0), .ref (a 1), .ref (a 2), .ref (a 3), .ref (a 4), .int (mm.1 5), .int (mm.1 6), .ref (a 7), .int ((mm.1 8) + 1), .ref (a 9), .ref (a 10), .ref (a 11), .ref (a 12), .int (mm.1 13), .ref (a 14), .int (mm.1 15), .int (mm.1 16), .int (mm.1 17), .int (mm.1 18), .int (mm.1 19), .int (mm.1 20), .ref (a 21), .ref (a 22), .ref (a 23), .ref (a 24), .int (mm.1 25), .int (mm.1 26), .int (mm.1 27), .int (mm.1 28), .ref (a 29), .ref (a 30), .ref (a 31), .ref (a 32), .int (mm.1 33), .ref (a 34), .ref (a 35), .ref (a 36)])), (a 1, .inl (cI, 3, .inl (mm.2 1))), (a 2, .inl (cI, 3, .inl (mm.2 2))), (a 3, .inl (cI, 3, .inl (mm.2 3))), (a 4, .inl (cI, 33, .inl (mm.2 4))), (a 7, .inl (cI, 330, .inl (mm.2 7))), (a 9, .inl (cI, 6, .inl (upd (mm.2 9) ((mm.1 8).toNatClampNeg) n))), (a 10, .inl (cI, 6, .inl (upd (mm.2 10) ((mm.1 8).toNatClampNeg) ((7 * x) + y)))), (a 11, .inl (cZ, 2, .inl (mm.2 11))), (a 12, .inl (cI, 66, .inl (mm.2 12))), (a 14, .inl (cI, 100, .inl (mm.2 14))), (a 21, .inl (cI, 3, .inl (mm.2 21))), (a 22, .inl (cI, 3, .inl (mm.2 22))), (a 23, .inl (cI, 3, .inl (mm.2 23))), (a 24, .inl (cI, 33, .inl (mm.2 24))), (a 29, .inl (cI, 11, .inl (mm.2 29))), (a 30, .inl (cI, 11, .inl (mm.2 30))), (a 31, .inl (cI, 11, .inl (mm.2 31))), (a 32, .inl (cI, 11, .inl (mm.2 32))), (a 34, .inl (cI, 11, .inl (mm.2 34))), (a 35, .inl (cI, 11, .inl (mm.2 35))), (a 36, .inl (cI, 1176, .inl (mm.2 36)))]) H := hP
            have hD : va_D A ([(a 0, .inr (10, [.int (mm.1 0), .ref (a 1), .ref (a 2), .ref (a 3), .ref (a 4), .int (mm.1 5), .int (mm.1 6), .ref (a 7), .int ((mm.1 8) + 1), .ref (a 9), .ref (a 10), .ref (a 11), .ref (a 12), .int (mm.1 13), .ref (a 14), .int (mm.1 15), .int (mm.1 16), .int (mm.1 17), .int (mm.1 18), .int (mm.1 19), .int (mm.1 20), .ref (a 21), .ref (a 22), .ref (a 23), .ref (a 24), .int (mm.1 25), .int (mm.1 26), .int (mm.1 27), .int (mm.1 28), .ref (a 29), .ref (a 30), .ref (a 31), .ref (a 32), .int (mm.1 33), .ref (a 34), .ref (a 35), .ref (a 36)])), (a 1, .inl (cI, 3, .inl (mm.2 1))), (a 2, .inl (cI, 3, .inl (mm.2 2))), (a 3, .inl (cI, 3, .inl (mm.2 3))), (a 4, .inl (cI, 33, .inl (mm.2 4))), (a 7, .inl (cI, 330, .inl (mm.2 7))), (a 9, .inl (cI, 6, .inl (upd (mm.2 9) ((mm.1 8).toNatClampNeg) n))), (a 10, .inl (cI, 6, .inl (upd (mm.2 10) ((mm.1 8).toNatClampNeg) ((7 * x) + y)))), (a 11, .inl (cZ, 2, .inl (mm.2 11))), (a 12, .inl (cI, 66, .inl (mm.2 12))), (a 14, .inl (cI, 100, .inl (mm.2 14))), (a 21, .inl (cI, 3, .inl (mm.2 21))), (a 22, .inl (cI, 3, .inl (mm.2 22))), (a 23, .inl (cI, 3, .inl (mm.2 23))), (a 24, .inl (cI, 33, .inl (mm.2 24))), (a 29, .inl (cI, 11, .inl (mm.2 29))), (a 30, .inl (cI, 11, .inl (mm.2 30))), (a 31, .inl (cI, 11, .inl (mm.2 31))), (a 32, .inl (cI, 11, .inl (mm.2 32))), (a 34, .inl (cI, 11, .inl (mm.2 34))), (a 35, .inl (cI, 11, .inl (mm.2 35))), (a 36, .inl (cI, 1176, .inl (mm.2 36)))]) := hD
            refine lv_aload_n hx hb dX10_sees_86 rfl (lv_at hl 0 rfl) ?_
            refine va_get (D := D) (ci := 10) (v := .int ((mm.1 8) + 1)) (C := RX10) (T := TX10) (N := 37) hx hb hts hin_10 hown hK hP 0 rfl rfl 8 (by decide) fl_133 (fun _ h9 => h9) rfl dX10_sees_87 ?_
            have em_90_8 : (if ySeG (mm.1 0) (mm.1 8) n x y = true then ((mm.1 8) + 1) else (mm.1 8)) = ((mm.1 8) + 1) := by simp only [ySeG, ySeCk, if_neg c_4, b_14, b_24, b_34, if_neg c_45, ↓reduceIte, reduceCtorEq]
            have em_90_9 : (if ySeG (mm.1 0) (mm.1 8) n x y = true then (upd (mm.2 9) ((mm.1 8)).toNatClampNeg n) else (mm.2 9)) = (upd (mm.2 9) ((mm.1 8).toNatClampNeg) n) := by simp only [ySeG, ySeCk, if_neg c_4, b_14, b_24, b_34, if_neg c_45, ↓reduceIte, reduceCtorEq]
            have em_90_10 : (if ySeG (mm.1 0) (mm.1 8) n x y = true then (upd (mm.2 10) ((mm.1 8)).toNatClampNeg (7 * x + y)) else (mm.2 10)) = (upd (mm.2 10) ((mm.1 8).toNatClampNeg) ((7 * x) + y)) := by simp only [ySeG, ySeCk, if_neg c_4, b_14, b_24, b_34, if_neg c_45, ↓reduceIte, reduceCtorEq]
            have hP : va_P D vwCl (wM a cI cZ (mF (mF (mS mm 8 ((mm.1 8) + 1)) 9 (upd (mm.2 9) ((mm.1 8).toNatClampNeg) n)) 10 (upd (mm.2 10) ((mm.1 8).toNatClampNeg) ((7 * x) + y)))) H := hP
            have hD : va_D A (wM a cI cZ (mF (mF (mS mm 8 ((mm.1 8) + 1)) 9 (upd (mm.2 9) ((mm.1 8).toNatClampNeg) n)) 10 (upd (mm.2 10) ((mm.1 8).toNatClampNeg) ((7 * x) + y)))) := hD
            have eM_90 : (mF (mF (mS mm 8 (if ySeG (mm.1 0) (mm.1 8) n x y = true then ((mm.1 8) + 1) else (mm.1 8))) 9 (if ySeG (mm.1 0) (mm.1 8) n x y = true then (upd (mm.2 9) ((mm.1 8)).toNatClampNeg n) else (mm.2 9))) 10 (if ySeG (mm.1 0) (mm.1 8) n x y = true then (upd (mm.2 10) ((mm.1 8)).toNatClampNeg (7 * x + y)) else (mm.2 10))) = (mF (mF (mS mm 8 ((mm.1 8) + 1)) 9 (upd (mm.2 9) ((mm.1 8).toNatClampNeg) n)) 10 (upd (mm.2 10) ((mm.1 8).toNatClampNeg) ((7 * x) + y))) := (mF_c (mF_c (mS_c rfl em_90_8) em_90_9) em_90_10)
            rw [← eM_90] at hP hD
            exact lf_i hx hb hr hlocks hQ (mF (mF (mS mm 8 (if ySeG (mm.1 0) (mm.1 8) n x y = true then ((mm.1 8) + 1) else (mm.1 8))) 9 (if ySeG (mm.1 0) (mm.1 8) n x y = true then (upd (mm.2 9) ((mm.1 8)).toNatClampNeg n) else (mm.2 9))) 10 (if ySeG (mm.1 0) (mm.1 8) n x y = true then (upd (mm.2 10) ((mm.1 8)).toNatClampNeg (7 * x + y)) else (mm.2 10))) hP hD hS dX10_sees_90 ⟨(by simp only [ySe, ySeCk, if_neg c_4, b_14, b_24, b_34, if_neg c_45, ↓reduceIte, reduceCtorEq]), rfl⟩
          · have i_45 := i_eq c_45
            rw [(by decide : (6 : Int32).toInt = 6)] at i_45
            refine lv_bipush (v := (-3)) hx hb dX10_sees_48 (by decide) ?_
            have em_50_8 : (if ySeG (mm.1 0) (mm.1 8) n x y = true then ((mm.1 8) + 1) else (mm.1 8)) = (mm.1 8) := by simp only [ySeG, ySeCk, if_neg c_4, b_14, b_24, b_34, if_pos c_45, ↓reduceIte, reduceCtorEq]
            have em_50_9 : (if ySeG (mm.1 0) (mm.1 8) n x y = true then (upd (mm.2 9) ((mm.1 8)).toNatClampNeg n) else (mm.2 9)) = (mm.2 9) := by simp only [ySeG, ySeCk, if_neg c_4, b_14, b_24, b_34, if_pos c_45, ↓reduceIte, reduceCtorEq]
            have em_50_10 : (if ySeG (mm.1 0) (mm.1 8) n x y = true then (upd (mm.2 10) ((mm.1 8)).toNatClampNeg (7 * x + y)) else (mm.2 10)) = (mm.2 10) := by simp only [ySeG, ySeCk, if_neg c_4, b_14, b_24, b_34, if_pos c_45, ↓reduceIte, reduceCtorEq]
            have hP : va_P D vwCl (wM a cI cZ (mF (mF (mS mm 8 (mm.1 8)) 9 (mm.2 9)) 10 (mm.2 10))) H := hP
            have hD : va_D A (wM a cI cZ (mF (mF (mS mm 8 (mm.1 8)) 9 (mm.2 9)) 10 (mm.2 10))) := hD
            have eM_50 : (mF (mF (mS mm 8 (if ySeG (mm.1 0) (mm.1 8) n x y = true then ((mm.1 8) + 1) else (mm.1 8))) 9 (if ySeG (mm.1 0) (mm.1 8) n x y = true then (upd (mm.2 9) ((mm.1 8)).toNatClampNeg n) else (mm.2 9))) 10 (if ySeG (mm.1 0) (mm.1 8) n x y = true then (upd (mm.2 10) ((mm.1 8)).toNatClampNeg (7 * x + y)) else (mm.2 10))) = (mF (mF (mS mm 8 (mm.1 8)) 9 (mm.2 9)) 10 (mm.2 10)) := (mF_c (mF_c (mS_c rfl em_50_8) em_50_9) em_50_10)
            rw [← eM_50] at hP hD
            exact lf_i hx hb hr hlocks hQ (mF (mF (mS mm 8 (if ySeG (mm.1 0) (mm.1 8) n x y = true then ((mm.1 8) + 1) else (mm.1 8))) 9 (if ySeG (mm.1 0) (mm.1 8) n x y = true then (upd (mm.2 9) ((mm.1 8)).toNatClampNeg n) else (mm.2 9))) 10 (if ySeG (mm.1 0) (mm.1 8) n x y = true then (upd (mm.2 10) ((mm.1 8)).toNatClampNeg (7 * x + y)) else (mm.2 10))) hP hD hS dX10_sees_50 ⟨(by simp only [ySe, ySeCk, if_neg c_4, b_14, b_24, b_34, if_pos c_45, ↓reduceIte, reduceCtorEq]), rfl⟩
        · have b_34 : (inR y 0 6) = false := bI_0 (hr_31.symm.trans c_34)
          refine lv_iconst (v := (-1)) hx hb dX10_sees_37 (by decide) ?_
          have em_38_8 : (if ySeG (mm.1 0) (mm.1 8) n x y = true then ((mm.1 8) + 1) else (mm.1 8)) = (mm.1 8) := by simp only [ySeG, ySeCk, if_neg c_4, b_14, b_24, b_34, ↓reduceIte, reduceCtorEq]
          have em_38_9 : (if ySeG (mm.1 0) (mm.1 8) n x y = true then (upd (mm.2 9) ((mm.1 8)).toNatClampNeg n) else (mm.2 9)) = (mm.2 9) := by simp only [ySeG, ySeCk, if_neg c_4, b_14, b_24, b_34, ↓reduceIte, reduceCtorEq]
          have em_38_10 : (if ySeG (mm.1 0) (mm.1 8) n x y = true then (upd (mm.2 10) ((mm.1 8)).toNatClampNeg (7 * x + y)) else (mm.2 10)) = (mm.2 10) := by simp only [ySeG, ySeCk, if_neg c_4, b_14, b_24, b_34, ↓reduceIte, reduceCtorEq]
          have hP : va_P D vwCl (wM a cI cZ (mF (mF (mS mm 8 (mm.1 8)) 9 (mm.2 9)) 10 (mm.2 10))) H := hP
          have hD : va_D A (wM a cI cZ (mF (mF (mS mm 8 (mm.1 8)) 9 (mm.2 9)) 10 (mm.2 10))) := hD
          have eM_38 : (mF (mF (mS mm 8 (if ySeG (mm.1 0) (mm.1 8) n x y = true then ((mm.1 8) + 1) else (mm.1 8))) 9 (if ySeG (mm.1 0) (mm.1 8) n x y = true then (upd (mm.2 9) ((mm.1 8)).toNatClampNeg n) else (mm.2 9))) 10 (if ySeG (mm.1 0) (mm.1 8) n x y = true then (upd (mm.2 10) ((mm.1 8)).toNatClampNeg (7 * x + y)) else (mm.2 10))) = (mF (mF (mS mm 8 (mm.1 8)) 9 (mm.2 9)) 10 (mm.2 10)) := (mF_c (mF_c (mS_c rfl em_38_8) em_38_9) em_38_10)
          rw [← eM_38] at hP hD
          exact lf_i hx hb hr hlocks hQ (mF (mF (mS mm 8 (if ySeG (mm.1 0) (mm.1 8) n x y = true then ((mm.1 8) + 1) else (mm.1 8))) 9 (if ySeG (mm.1 0) (mm.1 8) n x y = true then (upd (mm.2 9) ((mm.1 8)).toNatClampNeg n) else (mm.2 9))) 10 (if ySeG (mm.1 0) (mm.1 8) n x y = true then (upd (mm.2 10) ((mm.1 8)).toNatClampNeg (7 * x + y)) else (mm.2 10))) hP hD hS dX10_sees_38 ⟨(by simp only [ySe, ySeCk, if_neg c_4, b_14, b_24, b_34, ↓reduceIte, reduceCtorEq]), rfl⟩
abbrev rm_X10_forget : Room := { frames := 0, cells := 0, slots := 0, locals := 0 }
set_option maxHeartbeats 4000000 in
set_option maxRecDepth 100000 in
theorem c_X10_forget (l : Launch) (D : va_G) (cI cJ cZ : ClassId) (a : Nat → Nat) (sz : Nat) (mm : MS) : Met l yX10_forget wsX10_forget rm_X10_forget (va_Pc [.ref (a 0)] (PU D (tyL cI cJ cZ) (wM a cI cZ mm) sz)) (va_Qi (fun (rz : Int32) (uz : MS) => rz = (mm.1 8) ∧ uz = (mS mm 8 0)) (fun uz => BU D (wM a cI cZ uz) (va_A (wM a cI cZ mm) sz)) (va_A (wM a cI cZ mm) sz)) 0 0 (va_A (wM a cI cZ mm) sz) := by
  refine en (own := RX10) (Qc := fun A => va_Qi (fun (rz : Int32) (uz : MS) => rz = (mm.1 8) ∧ uz = (mS mm 8 0)) (fun uz => BU D (wM a cI cZ uz) A) A) (by decide) rfl (Nat.le_of_ble_eq_true rfl) rfl ?_
  intro p e s m args below meth c A Q H locs ls hx hb hr hml hown hts hlocks hname hA hN hE hK hQ hP hD hS hl
  have hl : lv_has ls 2 [(0, .ref (a 0))] := hl
  have fl_133 := hts (.fieldLink RX10 133 "DanceStaffsModel" "seenMany" "I") (by decide +kernel)
  have hin_10 : ∀ w ∈ u_ws RX10 TX10 37, w ∈ wsX10_forget := by decide +kernel
  refine lv_aload_n hx hb dX10_forget_0 rfl (lv_at hl 0 rfl) ?_
  refine va_get (D := D) (ci := 10) (v := .int (mm.1 8)) (C := RX10) (T := TX10) (N := 37) hx hb hts hin_10 hown hK hP 0 rfl rfl 8 (by decide) fl_133 (fun _ h9 => h9) rfl dX10_forget_1 ?_
  refine lv_istore_n (lv' := [(1, .int (mm.1 8)), (0, .ref (a 0))]) hx hb dX10_forget_4 rfl hl (by decide) rfl (fun ls hl => ?_)
  refine lv_aload_n hx hb dX10_forget_5 rfl (lv_at hl 1 rfl) ?_
  refine lv_iconst (v := 0) hx hb dX10_forget_6 (by decide) ?_
  refine va_put (D := D) (ci := 10) (v := .int 0) (ty := .int) (C := RX10) (T := TX10) (N := 37) hx hb hts hin_10 tyX10 tyX10_ok nmX10 hown hK hP hD hS 0 rfl rfl 8 (by decide) fl_133 (fun _ h9 => h9) rfl (by decide +kernel) rfl rfl (Nat.le_of_ble_eq_true rfl) dX10_forget_7 (fun H locs hP hD hS => ?_)
  have hP : va_P D vwCl ([(a 0, .inr (10, [.int (mm.1 0), .ref (a 1), .ref (a 2), .ref (a 3), .ref (a 4), .int (mm.1 5), .int (mm.1 6), .ref (a 7), .int 0, .ref (a 9), .ref (a 10), .ref (a 11), .ref (a 12), .int (mm.1 13), .ref (a 14), .int (mm.1 15), .int (mm.1 16), .int (mm.1 17), .int (mm.1 18), .int (mm.1 19), .int (mm.1 20), .ref (a 21), .ref (a 22), .ref (a 23), .ref (a 24), .int (mm.1 25), .int (mm.1 26), .int (mm.1 27), .int (mm.1 28), .ref (a 29), .ref (a 30), .ref (a 31), .ref (a 32), .int (mm.1 33), .ref (a 34), .ref (a 35), .ref (a 36)])), (a 1, .inl (cI, 3, .inl (mm.2 1))), (a 2, .inl (cI, 3, .inl (mm.2 2))), (a 3, .inl (cI, 3, .inl (mm.2 3))), (a 4, .inl (cI, 33, .inl (mm.2 4))), (a 7, .inl (cI, 330, .inl (mm.2 7))), (a 9, .inl (cI, 6, .inl (mm.2 9))), (a 10, .inl (cI, 6, .inl (mm.2 10))), (a 11, .inl (cZ, 2, .inl (mm.2 11))), (a 12, .inl (cI, 66, .inl (mm.2 12))), (a 14, .inl (cI, 100, .inl (mm.2 14))), (a 21, .inl (cI, 3, .inl (mm.2 21))), (a 22, .inl (cI, 3, .inl (mm.2 22))), (a 23, .inl (cI, 3, .inl (mm.2 23))), (a 24, .inl (cI, 33, .inl (mm.2 24))), (a 29, .inl (cI, 11, .inl (mm.2 29))), (a 30, .inl (cI, 11, .inl (mm.2 30))), (a 31, .inl (cI, 11, .inl (mm.2 31))), (a 32, .inl (cI, 11, .inl (mm.2 32))), (a 34, .inl (cI, 11, .inl (mm.2 34))), (a 35, .inl (cI, 11, .inl (mm.2 35))), (a 36, .inl (cI, 1176, .inl (mm.2 36)))]) H := hP
  have hD : va_D A ([(a 0, .inr (10, [.int (mm.1 0), .ref (a 1), .ref (a 2), .ref (a 3), .ref (a 4), .int (mm.1 5), .int (mm.1 6), .ref (a 7), .int 0, .ref (a 9), .ref (a 10), .ref (a 11), .ref (a 12), .int (mm.1 13), .ref (a 14), .int (mm.1 15), .int (mm.1 16), .int (mm.1 17), .int (mm.1 18), .int (mm.1 19), .int (mm.1 20), .ref (a 21), .ref (a 22), .ref (a 23), .ref (a 24), .int (mm.1 25), .int (mm.1 26), .int (mm.1 27), .int (mm.1 28), .ref (a 29), .ref (a 30), .ref (a 31), .ref (a 32), .int (mm.1 33), .ref (a 34), .ref (a 35), .ref (a 36)])), (a 1, .inl (cI, 3, .inl (mm.2 1))), (a 2, .inl (cI, 3, .inl (mm.2 2))), (a 3, .inl (cI, 3, .inl (mm.2 3))), (a 4, .inl (cI, 33, .inl (mm.2 4))), (a 7, .inl (cI, 330, .inl (mm.2 7))), (a 9, .inl (cI, 6, .inl (mm.2 9))), (a 10, .inl (cI, 6, .inl (mm.2 10))), (a 11, .inl (cZ, 2, .inl (mm.2 11))), (a 12, .inl (cI, 66, .inl (mm.2 12))), (a 14, .inl (cI, 100, .inl (mm.2 14))), (a 21, .inl (cI, 3, .inl (mm.2 21))), (a 22, .inl (cI, 3, .inl (mm.2 22))), (a 23, .inl (cI, 3, .inl (mm.2 23))), (a 24, .inl (cI, 33, .inl (mm.2 24))), (a 29, .inl (cI, 11, .inl (mm.2 29))), (a 30, .inl (cI, 11, .inl (mm.2 30))), (a 31, .inl (cI, 11, .inl (mm.2 31))), (a 32, .inl (cI, 11, .inl (mm.2 32))), (a 34, .inl (cI, 11, .inl (mm.2 34))), (a 35, .inl (cI, 11, .inl (mm.2 35))), (a 36, .inl (cI, 1176, .inl (mm.2 36)))]) := hD
  refine lv_iload_n hx hb dX10_forget_10 rfl (lv_at hl 0 rfl) ?_
  have hP : va_P D vwCl (wM a cI cZ (mS mm 8 0)) H := hP
  have hD : va_D A (wM a cI cZ (mS mm 8 0)) := hD
  exact lf_i hx hb hr hlocks hQ (mS mm 8 0) hP hD hS dX10_forget_11 ⟨(by first | with_reducible rfl | (simp only [↓reduceIte, bI_t, bI_f, reduceCtorEq]; done) | (subst_vars; simp only [↓reduceIte, bI_t, bI_f, reduceCtorEq]; done) | (simp [bI_t, bI_f]; done)), rfl⟩
abbrev rm_X10_keep : Room := { frames := 1, cells := 0, slots := 0, locals := 22 }
set_option maxHeartbeats 4000000 in
set_option maxRecDepth 100000 in
theorem c_X10_keep (l : Launch) (D : va_G) (cI cJ cZ : ClassId) (a : Nat → Nat) (sz : Nat) (mm : MS) (k : Int32) : Met l yX10_keep wsX10_keep rm_X10_keep (va_Pc [.ref (a 0), .int k] (PU D (tyL cI cJ cZ) (wM a cI cZ mm) sz)) (va_Qi (fun (rz : Int32) (uz : MS) => rz = (if inR k 0 1 = true then (mm.1 0) else -1) ∧ uz = (mF (mF mm 11 (if inR k 0 1 = true then (upd (mm.2 11) (k).toNatClampNeg 1) else (mm.2 11))) 12 (if inR k 0 1 = true then (kpL (mm.2 12) (mm.2 4) k 33) else (mm.2 12)))) (fun uz => BU D (wM a cI cZ uz) (va_A (wM a cI cZ mm) sz)) (va_A (wM a cI cZ mm) sz)) 0 0 (va_A (wM a cI cZ mm) sz) := by
  refine en (own := RX10) (Qc := fun A => va_Qi (fun (rz : Int32) (uz : MS) => rz = (if inR k 0 1 = true then (mm.1 0) else -1) ∧ uz = (mF (mF mm 11 (if inR k 0 1 = true then (upd (mm.2 11) (k).toNatClampNeg 1) else (mm.2 11))) 12 (if inR k 0 1 = true then (kpL (mm.2 12) (mm.2 4) k 33) else (mm.2 12)))) (fun uz => BU D (wM a cI cZ uz) A) A) (by decide) rfl (Nat.le_of_ble_eq_true rfl) rfl ?_
  intro p e s m args below meth c A Q H locs ls hx hb hr hml hown hts hlocks hname hA hN hE hK hQ hP hD hS hl
  have hl : lv_has ls 3 [(0, .ref (a 0)), (1, .int k)] := hl
  have fl_31 := hts (.fieldLink RX10 31 "DanceStaffsModel" "isKept" "[Z") (by decide +kernel)
  have hin_10 : ∀ w ∈ u_ws RX10 TX10 37, w ∈ wsX10_keep := by decide +kernel
  have fl_127 := hts (.fieldLink RX10 127 "DanceStaffsModel" "many" "I") (by decide +kernel)
  have fl_35 := hts (.fieldLink RX10 35 "DanceStaffsModel" "kept" "[I") (by decide +kernel)
  have fl_19 := hts (.fieldLink RX10 19 "DanceStaffsModel" "now" "[I") (by decide +kernel)
  refine lv_iload_n hx hb dX10_keep_0 rfl (lv_at hl 1 rfl) ?_
  refine lv_iconst (v := 0) hx hb dX10_keep_1 (by decide) ?_
  refine lv_iconst (v := 1) hx hb dX10_keep_2 (by decide) ?_
  refine st_i (va_runS (As := [.int k, .int 0, .int 1]) (rest := []) ⟨hx, hb, hml, hown, hts⟩ (c_X10_in l D cI cJ cZ H.size k 0 1) (va_cwS 3 hts gX10_keep_X10_in rfl rfl rfl (by decide +kernel) ⟨Nat.le_of_ble_eq_true rfl, Nat.le_of_ble_eq_true rfl⟩) (pr_S hP hD hK hN hE hS hA [] (by decide) rfl) rfl rfl hl.1 rfl (lv_room (Nat.le_of_ble_eq_true rfl)) dX10_keep_3 ⟨Nat.zero_le _, Nat.zero_le _⟩) hP hS hA (fun r_3 u_3 H locs hw_3 hP hS => ?_)
  have hr_3 := hw_3
  refine lv_if_ne (tgt := 11) hx hb dX10_keep_6 (by decide) (fun c_6 => ?_) (fun c_6 => ?_)
  · have b_6 : (inR k 0 1) = true := bI_1 (fun q => c_6 (hr_3.trans q))
    obtain ⟨z1, z2⟩ := inR_in b_6
    rw [li_0] at z1
    rw [li_1] at z2
    refine lv_aload_n hx hb dX10_keep_11 rfl (lv_at hl 0 rfl) ?_
    refine va_get (D := D) (ci := 10) (v := .ref (a 11)) (C := RX10) (T := TX10) (N := 37) hx hb hts hin_10 hown hK hP 0 rfl rfl 11 (by decide) fl_31 (fun _ h9 => h9) rfl dX10_keep_12 ?_
    refine lv_iload_n hx hb dX10_keep_15 rfl (lv_at hl 1 rfl) ?_
    refine lv_iconst (v := 1) hx hb dX10_keep_16 (by decide) ?_
    refine va_zast (D := D) (f := (mm.2 11)) hx hb hK hP hD hS 8 2 rfl rfl (vi_mk z1 (by omega)) dX10_keep_17 (fun H locs hP hD hS => ?_)
    rw [show vp_nar .boolean 1 = 1 from rfl] at hP hD
    have hP : va_P D vwCl ([(a 0, .inr (10, [.int (mm.1 0), .ref (a 1), .ref (a 2), .ref (a 3), .ref (a 4), .int (mm.1 5), .int (mm.1 6), .ref (a 7), .int (mm.1 8), .ref (a 9), .ref (a 10), .ref (a 11), .ref (a 12), .int (mm.1 13), .ref (a 14), .int (mm.1 15), .int (mm.1 16), .int (mm.1 17), .int (mm.1 18), .int (mm.1 19), .int (mm.1 20), .ref (a 21), .ref (a 22), .ref (a 23), .ref (a 24), .int (mm.1 25), .int (mm.1 26), .int (mm.1 27), .int (mm.1 28), .ref (a 29), .ref (a 30), .ref (a 31), .ref (a 32), .int (mm.1 33), .ref (a 34), .ref (a 35), .ref (a 36)])), (a 1, .inl (cI, 3, .inl (mm.2 1))), (a 2, .inl (cI, 3, .inl (mm.2 2))), (a 3, .inl (cI, 3, .inl (mm.2 3))), (a 4, .inl (cI, 33, .inl (mm.2 4))), (a 7, .inl (cI, 330, .inl (mm.2 7))), (a 9, .inl (cI, 6, .inl (mm.2 9))), (a 10, .inl (cI, 6, .inl (mm.2 10))), (a 11, .inl (cZ, 2, .inl (upd (mm.2 11) ((k).toNatClampNeg) 1))), (a 12, .inl (cI, 66, .inl (mm.2 12))), (a 14, .inl (cI, 100, .inl (mm.2 14))), (a 21, .inl (cI, 3, .inl (mm.2 21))), (a 22, .inl (cI, 3, .inl (mm.2 22))), (a 23, .inl (cI, 3, .inl (mm.2 23))), (a 24, .inl (cI, 33, .inl (mm.2 24))), (a 29, .inl (cI, 11, .inl (mm.2 29))), (a 30, .inl (cI, 11, .inl (mm.2 30))), (a 31, .inl (cI, 11, .inl (mm.2 31))), (a 32, .inl (cI, 11, .inl (mm.2 32))), (a 34, .inl (cI, 11, .inl (mm.2 34))), (a 35, .inl (cI, 11, .inl (mm.2 35))), (a 36, .inl (cI, 1176, .inl (mm.2 36)))]) H := hP
    have hD : va_D A ([(a 0, .inr (10, [.int (mm.1 0), .ref (a 1), .ref (a 2), .ref (a 3), .ref (a 4), .int (mm.1 5), .int (mm.1 6), .ref (a 7), .int (mm.1 8), .ref (a 9), .ref (a 10), .ref (a 11), .ref (a 12), .int (mm.1 13), .ref (a 14), .int (mm.1 15), .int (mm.1 16), .int (mm.1 17), .int (mm.1 18), .int (mm.1 19), .int (mm.1 20), .ref (a 21), .ref (a 22), .ref (a 23), .ref (a 24), .int (mm.1 25), .int (mm.1 26), .int (mm.1 27), .int (mm.1 28), .ref (a 29), .ref (a 30), .ref (a 31), .ref (a 32), .int (mm.1 33), .ref (a 34), .ref (a 35), .ref (a 36)])), (a 1, .inl (cI, 3, .inl (mm.2 1))), (a 2, .inl (cI, 3, .inl (mm.2 2))), (a 3, .inl (cI, 3, .inl (mm.2 3))), (a 4, .inl (cI, 33, .inl (mm.2 4))), (a 7, .inl (cI, 330, .inl (mm.2 7))), (a 9, .inl (cI, 6, .inl (mm.2 9))), (a 10, .inl (cI, 6, .inl (mm.2 10))), (a 11, .inl (cZ, 2, .inl (upd (mm.2 11) ((k).toNatClampNeg) 1))), (a 12, .inl (cI, 66, .inl (mm.2 12))), (a 14, .inl (cI, 100, .inl (mm.2 14))), (a 21, .inl (cI, 3, .inl (mm.2 21))), (a 22, .inl (cI, 3, .inl (mm.2 22))), (a 23, .inl (cI, 3, .inl (mm.2 23))), (a 24, .inl (cI, 33, .inl (mm.2 24))), (a 29, .inl (cI, 11, .inl (mm.2 29))), (a 30, .inl (cI, 11, .inl (mm.2 30))), (a 31, .inl (cI, 11, .inl (mm.2 31))), (a 32, .inl (cI, 11, .inl (mm.2 32))), (a 34, .inl (cI, 11, .inl (mm.2 34))), (a 35, .inl (cI, 11, .inl (mm.2 35))), (a 36, .inl (cI, 1176, .inl (mm.2 36)))]) := hD
    refine lv_iconst (v := 0) hx hb dX10_keep_18 (by decide) ?_
    refine lv_istore_n (lv' := [(2, .int 0), (0, .ref (a 0)), (1, .int k)]) hx hb dX10_keep_19 rfl hl (by decide) rfl (fun ls hl => ?_)
    have LB_20 : ∀ (n : Nat) (i : Nat) (hn_i : 33 < i + n) (hi_i : i ≤ 33) (H : Heap) (locs : List Loc) (_ : va_P D vwCl (wM a cI cZ (mF (mF mm 11 (upd (mm.2 11) (k).toNatClampNeg 1)) 12 (kpL (mm.2 12) (mm.2 4) k i))) H) (_ : va_D A (wM a cI cZ (mF (mF mm 11 (upd (mm.2 11) (k).toNatClampNeg 1)) 12 (kpL (mm.2 12) (mm.2 4) k i)))) (_ : va_S A s.heap H locs) (ls : Array Slot) (_ : lv_has ls 3 [(0, .ref (a 0)), (1, .int k), (2, .int (nI i))]), W p l e rm_X10_keep s m args below meth c H locs 0 0 Q (F0 m 20 ls []) := by
      intro n
      induction n with
      | zero =>
        intro i hn_i hi_i
        exact absurd hn_i (by omega)
      | succ n LB_20 =>
        intro i hn_i hi_i H locs hP hD hS ls hl
        have hP : va_P D vwCl ([(a 0, .inr (10, [.int (mm.1 0), .ref (a 1), .ref (a 2), .ref (a 3), .ref (a 4), .int (mm.1 5), .int (mm.1 6), .ref (a 7), .int (mm.1 8), .ref (a 9), .ref (a 10), .ref (a 11), .ref (a 12), .int (mm.1 13), .ref (a 14), .int (mm.1 15), .int (mm.1 16), .int (mm.1 17), .int (mm.1 18), .int (mm.1 19), .int (mm.1 20), .ref (a 21), .ref (a 22), .ref (a 23), .ref (a 24), .int (mm.1 25), .int (mm.1 26), .int (mm.1 27), .int (mm.1 28), .ref (a 29), .ref (a 30), .ref (a 31), .ref (a 32), .int (mm.1 33), .ref (a 34), .ref (a 35), .ref (a 36)])), (a 1, .inl (cI, 3, .inl (mm.2 1))), (a 2, .inl (cI, 3, .inl (mm.2 2))), (a 3, .inl (cI, 3, .inl (mm.2 3))), (a 4, .inl (cI, 33, .inl (mm.2 4))), (a 7, .inl (cI, 330, .inl (mm.2 7))), (a 9, .inl (cI, 6, .inl (mm.2 9))), (a 10, .inl (cI, 6, .inl (mm.2 10))), (a 11, .inl (cZ, 2, .inl (upd (mm.2 11) (k).toNatClampNeg 1))), (a 12, .inl (cI, 66, .inl (kpL (mm.2 12) (mm.2 4) k i))), (a 14, .inl (cI, 100, .inl (mm.2 14))), (a 21, .inl (cI, 3, .inl (mm.2 21))), (a 22, .inl (cI, 3, .inl (mm.2 22))), (a 23, .inl (cI, 3, .inl (mm.2 23))), (a 24, .inl (cI, 33, .inl (mm.2 24))), (a 29, .inl (cI, 11, .inl (mm.2 29))), (a 30, .inl (cI, 11, .inl (mm.2 30))), (a 31, .inl (cI, 11, .inl (mm.2 31))), (a 32, .inl (cI, 11, .inl (mm.2 32))), (a 34, .inl (cI, 11, .inl (mm.2 34))), (a 35, .inl (cI, 11, .inl (mm.2 35))), (a 36, .inl (cI, 1176, .inl (mm.2 36)))]) H := hP
        have hD : va_D A ([(a 0, .inr (10, [.int (mm.1 0), .ref (a 1), .ref (a 2), .ref (a 3), .ref (a 4), .int (mm.1 5), .int (mm.1 6), .ref (a 7), .int (mm.1 8), .ref (a 9), .ref (a 10), .ref (a 11), .ref (a 12), .int (mm.1 13), .ref (a 14), .int (mm.1 15), .int (mm.1 16), .int (mm.1 17), .int (mm.1 18), .int (mm.1 19), .int (mm.1 20), .ref (a 21), .ref (a 22), .ref (a 23), .ref (a 24), .int (mm.1 25), .int (mm.1 26), .int (mm.1 27), .int (mm.1 28), .ref (a 29), .ref (a 30), .ref (a 31), .ref (a 32), .int (mm.1 33), .ref (a 34), .ref (a 35), .ref (a 36)])), (a 1, .inl (cI, 3, .inl (mm.2 1))), (a 2, .inl (cI, 3, .inl (mm.2 2))), (a 3, .inl (cI, 3, .inl (mm.2 3))), (a 4, .inl (cI, 33, .inl (mm.2 4))), (a 7, .inl (cI, 330, .inl (mm.2 7))), (a 9, .inl (cI, 6, .inl (mm.2 9))), (a 10, .inl (cI, 6, .inl (mm.2 10))), (a 11, .inl (cZ, 2, .inl (upd (mm.2 11) (k).toNatClampNeg 1))), (a 12, .inl (cI, 66, .inl (kpL (mm.2 12) (mm.2 4) k i))), (a 14, .inl (cI, 100, .inl (mm.2 14))), (a 21, .inl (cI, 3, .inl (mm.2 21))), (a 22, .inl (cI, 3, .inl (mm.2 22))), (a 23, .inl (cI, 3, .inl (mm.2 23))), (a 24, .inl (cI, 33, .inl (mm.2 24))), (a 29, .inl (cI, 11, .inl (mm.2 29))), (a 30, .inl (cI, 11, .inl (mm.2 30))), (a 31, .inl (cI, 11, .inl (mm.2 31))), (a 32, .inl (cI, 11, .inl (mm.2 32))), (a 34, .inl (cI, 11, .inl (mm.2 34))), (a 35, .inl (cI, 11, .inl (mm.2 35))), (a 36, .inl (cI, 1176, .inl (mm.2 36)))]) := hD
        refine lv_iload_n hx hb dX10_keep_20 rfl (lv_at hl 2 rfl) ?_
        refine lv_bipush (v := 33) hx hb dX10_keep_21 (by decide) ?_
        refine lv_icmp_ge (tgt := 49) hx hb dX10_keep_23 (by decide) (fun c_23 => ?_) (fun c_23 => ?_)
        · have i_23 := i_le c_23
          rw [(by decide : (33 : Int32).toInt = 33)] at i_23
          rw [nIT (by omega)] at i_23
          have e_23 : i = 33 := by omega
          refine lv_aload_n hx hb dX10_keep_49 rfl (lv_at hl 0 rfl) ?_
          refine va_get (D := D) (ci := 10) (v := .int (mm.1 0)) (C := RX10) (T := TX10) (N := 37) hx hb hts hin_10 hown hK hP 0 rfl rfl 0 (by decide) fl_127 (fun _ h9 => h9) rfl dX10_keep_50 ?_
          have em_53_11 : (if inR k 0 1 = true then (upd (mm.2 11) (k).toNatClampNeg 1) else (mm.2 11)) = (upd (mm.2 11) (k).toNatClampNeg 1) := by first | (simp only [b_6, if_pos c_23, ↓reduceIte, reduceCtorEq]; done) | (simp only [b_6, if_pos c_23, e_23, ↓reduceIte]; done)
          have em_53_12 : (if inR k 0 1 = true then (kpL (mm.2 12) (mm.2 4) k 33) else (mm.2 12)) = (kpL (mm.2 12) (mm.2 4) k i) := by first | (simp only [b_6, if_pos c_23, ↓reduceIte, reduceCtorEq]; done) | (simp only [b_6, if_pos c_23, e_23, ↓reduceIte]; done)
          have hP : va_P D vwCl (wM a cI cZ (mF (mF mm 11 (upd (mm.2 11) (k).toNatClampNeg 1)) 12 (kpL (mm.2 12) (mm.2 4) k i))) H := hP
          have hD : va_D A (wM a cI cZ (mF (mF mm 11 (upd (mm.2 11) (k).toNatClampNeg 1)) 12 (kpL (mm.2 12) (mm.2 4) k i))) := hD
          have eM_53 : (mF (mF mm 11 (if inR k 0 1 = true then (upd (mm.2 11) (k).toNatClampNeg 1) else (mm.2 11))) 12 (if inR k 0 1 = true then (kpL (mm.2 12) (mm.2 4) k 33) else (mm.2 12))) = (mF (mF mm 11 (upd (mm.2 11) (k).toNatClampNeg 1)) 12 (kpL (mm.2 12) (mm.2 4) k i)) := (mF_c (mF_c rfl em_53_11) em_53_12)
          rw [← eM_53] at hP hD
          exact lf_i hx hb hr hlocks hQ (mF (mF mm 11 (if inR k 0 1 = true then (upd (mm.2 11) (k).toNatClampNeg 1) else (mm.2 11))) 12 (if inR k 0 1 = true then (kpL (mm.2 12) (mm.2 4) k 33) else (mm.2 12))) hP hD hS dX10_keep_53 ⟨(by simp only [b_6, if_pos c_23, ↓reduceIte, reduceCtorEq]), rfl⟩
        · have i_23 := i_nle c_23
          rw [(by decide : (33 : Int32).toInt = 33)] at i_23
          rw [nIT (by omega)] at i_23
          refine lv_aload_n hx hb dX10_keep_26 rfl (lv_at hl 0 rfl) ?_
          refine va_get (D := D) (ci := 10) (v := .ref (a 12)) (C := RX10) (T := TX10) (N := 37) hx hb hts hin_10 hown hK hP 0 rfl rfl 12 (by decide) fl_35 (fun _ h9 => h9) rfl dX10_keep_27 ?_
          refine lv_bipush (v := 33) hx hb dX10_keep_30 (by decide) ?_
          refine lv_iload_n hx hb dX10_keep_32 rfl (lv_at hl 1 rfl) ?_
          refine lv_imul hx hb dX10_keep_33 ?_
          refine lv_iload_n hx hb dX10_keep_34 rfl (lv_at hl 2 rfl) ?_
          refine lv_iadd hx hb dX10_keep_35 ?_
          refine lv_aload_n hx hb dX10_keep_36 rfl (lv_at hl 0 rfl) ?_
          refine va_get (D := D) (ci := 10) (v := .ref (a 4)) (C := RX10) (T := TX10) (N := 37) hx hb hts hin_10 hown hK hP 0 rfl rfl 4 (by decide) fl_19 (fun _ h9 => h9) rfl dX10_keep_37 ?_
          refine lv_iload_n hx hb dX10_keep_40 rfl (lv_at hl 2 rfl) ?_
          refine va_iald (D := D) (f := (mm.2 4)) hx hb hK hP 4 0 rfl rfl (vp_in_nI (by omega) (by decide)) dX10_keep_41 ?_
          refine va_iast (D := D) (f := (kpL (mm.2 12) (mm.2 4) k i)) hx hb hK hP hD hS 9 0 rfl rfl (in33 z1 (by decide) (m := 2) (by omega) i (by omega) (by decide)) dX10_keep_42 (fun H locs hP hD hS => ?_)
          have hP : va_P D vwCl ([(a 0, .inr (10, [.int (mm.1 0), .ref (a 1), .ref (a 2), .ref (a 3), .ref (a 4), .int (mm.1 5), .int (mm.1 6), .ref (a 7), .int (mm.1 8), .ref (a 9), .ref (a 10), .ref (a 11), .ref (a 12), .int (mm.1 13), .ref (a 14), .int (mm.1 15), .int (mm.1 16), .int (mm.1 17), .int (mm.1 18), .int (mm.1 19), .int (mm.1 20), .ref (a 21), .ref (a 22), .ref (a 23), .ref (a 24), .int (mm.1 25), .int (mm.1 26), .int (mm.1 27), .int (mm.1 28), .ref (a 29), .ref (a 30), .ref (a 31), .ref (a 32), .int (mm.1 33), .ref (a 34), .ref (a 35), .ref (a 36)])), (a 1, .inl (cI, 3, .inl (mm.2 1))), (a 2, .inl (cI, 3, .inl (mm.2 2))), (a 3, .inl (cI, 3, .inl (mm.2 3))), (a 4, .inl (cI, 33, .inl (mm.2 4))), (a 7, .inl (cI, 330, .inl (mm.2 7))), (a 9, .inl (cI, 6, .inl (mm.2 9))), (a 10, .inl (cI, 6, .inl (mm.2 10))), (a 11, .inl (cZ, 2, .inl (upd (mm.2 11) (k).toNatClampNeg 1))), (a 12, .inl (cI, 66, .inl (upd (kpL (mm.2 12) (mm.2 4) k i) (((33 * k) + (nI i)).toNatClampNeg) ((mm.2 4) (nI i).toNatClampNeg)))), (a 14, .inl (cI, 100, .inl (mm.2 14))), (a 21, .inl (cI, 3, .inl (mm.2 21))), (a 22, .inl (cI, 3, .inl (mm.2 22))), (a 23, .inl (cI, 3, .inl (mm.2 23))), (a 24, .inl (cI, 33, .inl (mm.2 24))), (a 29, .inl (cI, 11, .inl (mm.2 29))), (a 30, .inl (cI, 11, .inl (mm.2 30))), (a 31, .inl (cI, 11, .inl (mm.2 31))), (a 32, .inl (cI, 11, .inl (mm.2 32))), (a 34, .inl (cI, 11, .inl (mm.2 34))), (a 35, .inl (cI, 11, .inl (mm.2 35))), (a 36, .inl (cI, 1176, .inl (mm.2 36)))]) H := hP
          have hD : va_D A ([(a 0, .inr (10, [.int (mm.1 0), .ref (a 1), .ref (a 2), .ref (a 3), .ref (a 4), .int (mm.1 5), .int (mm.1 6), .ref (a 7), .int (mm.1 8), .ref (a 9), .ref (a 10), .ref (a 11), .ref (a 12), .int (mm.1 13), .ref (a 14), .int (mm.1 15), .int (mm.1 16), .int (mm.1 17), .int (mm.1 18), .int (mm.1 19), .int (mm.1 20), .ref (a 21), .ref (a 22), .ref (a 23), .ref (a 24), .int (mm.1 25), .int (mm.1 26), .int (mm.1 27), .int (mm.1 28), .ref (a 29), .ref (a 30), .ref (a 31), .ref (a 32), .int (mm.1 33), .ref (a 34), .ref (a 35), .ref (a 36)])), (a 1, .inl (cI, 3, .inl (mm.2 1))), (a 2, .inl (cI, 3, .inl (mm.2 2))), (a 3, .inl (cI, 3, .inl (mm.2 3))), (a 4, .inl (cI, 33, .inl (mm.2 4))), (a 7, .inl (cI, 330, .inl (mm.2 7))), (a 9, .inl (cI, 6, .inl (mm.2 9))), (a 10, .inl (cI, 6, .inl (mm.2 10))), (a 11, .inl (cZ, 2, .inl (upd (mm.2 11) (k).toNatClampNeg 1))), (a 12, .inl (cI, 66, .inl (upd (kpL (mm.2 12) (mm.2 4) k i) (((33 * k) + (nI i)).toNatClampNeg) ((mm.2 4) (nI i).toNatClampNeg)))), (a 14, .inl (cI, 100, .inl (mm.2 14))), (a 21, .inl (cI, 3, .inl (mm.2 21))), (a 22, .inl (cI, 3, .inl (mm.2 22))), (a 23, .inl (cI, 3, .inl (mm.2 23))), (a 24, .inl (cI, 33, .inl (mm.2 24))), (a 29, .inl (cI, 11, .inl (mm.2 29))), (a 30, .inl (cI, 11, .inl (mm.2 30))), (a 31, .inl (cI, 11, .inl (mm.2 31))), (a 32, .inl (cI, 11, .inl (mm.2 32))), (a 34, .inl (cI, 11, .inl (mm.2 34))), (a 35, .inl (cI, 11, .inl (mm.2 35))), (a 36, .inl (cI, 1176, .inl (mm.2 36)))]) := hD
          refine lv_iinc (v := ((nI i) + 1)) (lv' := [(2, .int ((nI i) + 1)), (0, .ref (a 0)), (1, .int k)]) hx hb dX10_keep_43 hl (k := 2) rfl rfl (by decide) rfl (fun ls hl => ?_)
          rw [show nI i + 1 = nI (i + 1) from nI_1 _] at hl
          have hl : lv_has ls 3 [(2, .int (nI (i + 1))), (0, .ref (a 0)), (1, .int k)] := hl
          refine lv_goto (tgt := 20) hx hb dX10_keep_46 (by decide) ?_
          have em_20_12 : (kpL (mm.2 12) (mm.2 4) k (i + 1)) = (upd (kpL (mm.2 12) (mm.2 4) k i) (((33 * k) + (nI i)).toNatClampNeg) ((mm.2 4) (nI i).toNatClampNeg)) := by rfl
          have hP : va_P D vwCl (wM a cI cZ (mF (mF mm 11 (upd (mm.2 11) (k).toNatClampNeg 1)) 12 (upd (kpL (mm.2 12) (mm.2 4) k i) (((33 * k) + (nI i)).toNatClampNeg) ((mm.2 4) (nI i).toNatClampNeg)))) H := hP
          have hD : va_D A (wM a cI cZ (mF (mF mm 11 (upd (mm.2 11) (k).toNatClampNeg 1)) 12 (upd (kpL (mm.2 12) (mm.2 4) k i) (((33 * k) + (nI i)).toNatClampNeg) ((mm.2 4) (nI i).toNatClampNeg)))) := hD
          have eM_20 : (mF (mF mm 11 (upd (mm.2 11) (k).toNatClampNeg 1)) 12 (kpL (mm.2 12) (mm.2 4) k (i + 1))) = (mF (mF mm 11 (upd (mm.2 11) (k).toNatClampNeg 1)) 12 (upd (kpL (mm.2 12) (mm.2 4) k i) (((33 * k) + (nI i)).toNatClampNeg) ((mm.2 4) (nI i).toNatClampNeg))) := (mF_c (mF_c rfl rfl) em_20_12)
          rw [← eM_20] at hP hD
          exact LB_20 (i + 1) (by omega) (by omega) H locs hP hD hS ls (lv_sub hl [1, 2, 0] rfl)
    have em_20_12 : (kpL (mm.2 12) (mm.2 4) k 0) = (mm.2 12) := by rfl
    have hP : va_P D vwCl (wM a cI cZ (mF (mF mm 11 (upd (mm.2 11) ((k).toNatClampNeg) 1)) 12 (mm.2 12))) H := hP
    have hD : va_D A (wM a cI cZ (mF (mF mm 11 (upd (mm.2 11) ((k).toNatClampNeg) 1)) 12 (mm.2 12))) := hD
    have eM_20 : (mF (mF mm 11 (upd (mm.2 11) (k).toNatClampNeg 1)) 12 (kpL (mm.2 12) (mm.2 4) k 0)) = (mF (mF mm 11 (upd (mm.2 11) ((k).toNatClampNeg) 1)) 12 (mm.2 12)) := (mF_c (mF_c rfl rfl) em_20_12)
    rw [← eM_20] at hP hD
    exact LB_20 (33 + 1) 0 (by omega) (by omega) H locs hP hD hS ls (lv_sub hl [1, 2, 0] rfl)
  · have b_6 : (inR k 0 1) = false := bI_0 (hr_3.symm.trans c_6)
    refine lv_iconst (v := (-1)) hx hb dX10_keep_9 (by decide) ?_
    have em_10_11 : (if inR k 0 1 = true then (upd (mm.2 11) (k).toNatClampNeg 1) else (mm.2 11)) = (mm.2 11) := by first | (simp only [b_6, ↓reduceIte, reduceCtorEq]; done) | (simp only [b_6, e_23, ↓reduceIte]; done)
    have em_10_12 : (if inR k 0 1 = true then (kpL (mm.2 12) (mm.2 4) k 33) else (mm.2 12)) = (mm.2 12) := by first | (simp only [b_6, ↓reduceIte, reduceCtorEq]; done) | (simp only [b_6, e_23, ↓reduceIte]; done)
    have hP : va_P D vwCl (wM a cI cZ (mF (mF mm 11 (mm.2 11)) 12 (mm.2 12))) H := hP
    have hD : va_D A (wM a cI cZ (mF (mF mm 11 (mm.2 11)) 12 (mm.2 12))) := hD
    have eM_10 : (mF (mF mm 11 (if inR k 0 1 = true then (upd (mm.2 11) (k).toNatClampNeg 1) else (mm.2 11))) 12 (if inR k 0 1 = true then (kpL (mm.2 12) (mm.2 4) k 33) else (mm.2 12))) = (mF (mF mm 11 (mm.2 11)) 12 (mm.2 12)) := (mF_c (mF_c rfl em_10_11) em_10_12)
    rw [← eM_10] at hP hD
    exact lf_i hx hb hr hlocks hQ (mF (mF mm 11 (if inR k 0 1 = true then (upd (mm.2 11) (k).toNatClampNeg 1) else (mm.2 11))) 12 (if inR k 0 1 = true then (kpL (mm.2 12) (mm.2 4) k 33) else (mm.2 12))) hP hD hS dX10_keep_10 ⟨(by simp only [b_6, ↓reduceIte, reduceCtorEq]), rfl⟩
abbrev rm_X10_back : Room := { frames := 1, cells := 0, slots := 0, locals := 22 }
set_option maxHeartbeats 4000000 in
set_option maxRecDepth 100000 in
theorem c_X10_back (l : Launch) (D : va_G) (cI cJ cZ : ClassId) (a : Nat → Nat) (sz : Nat) (mm : MS) (k : Int32) : Met l yX10_back wsX10_back rm_X10_back (va_Pc [.ref (a 0), .int k] (PU D (tyL cI cJ cZ) (wM a cI cZ mm) sz)) (va_Qi (fun (rz : Int32) (uz : MS) => rz = (if inR k 0 1 = true then (if (mm.2 11) (k).toNatClampNeg = 0 then -2 else (mm.1 0)) else -1) ∧ uz = (mF (mS mm 5 (if inR k 0 1 = true then (if (mm.2 11) (k).toNatClampNeg = 0 then (mm.1 5) else 0) else (mm.1 5))) 4 (if inR k 0 1 = true then (if (mm.2 11) (k).toNatClampNeg = 0 then (mm.2 4) else unL (mm.2 4) (mm.2 12) k 33) else (mm.2 4)))) (fun uz => BU D (wM a cI cZ uz) (va_A (wM a cI cZ mm) sz)) (va_A (wM a cI cZ mm) sz)) 0 0 (va_A (wM a cI cZ mm) sz) := by
  refine en (own := RX10) (Qc := fun A => va_Qi (fun (rz : Int32) (uz : MS) => rz = (if inR k 0 1 = true then (if (mm.2 11) (k).toNatClampNeg = 0 then -2 else (mm.1 0)) else -1) ∧ uz = (mF (mS mm 5 (if inR k 0 1 = true then (if (mm.2 11) (k).toNatClampNeg = 0 then (mm.1 5) else 0) else (mm.1 5))) 4 (if inR k 0 1 = true then (if (mm.2 11) (k).toNatClampNeg = 0 then (mm.2 4) else unL (mm.2 4) (mm.2 12) k 33) else (mm.2 4)))) (fun uz => BU D (wM a cI cZ uz) A) A) (by decide) rfl (Nat.le_of_ble_eq_true rfl) rfl ?_
  intro p e s m args below meth c A Q H locs ls hx hb hr hml hown hts hlocks hname hA hN hE hK hQ hP hD hS hl
  have hl : lv_has ls 3 [(0, .ref (a 0)), (1, .int k)] := hl
  have fl_31 := hts (.fieldLink RX10 31 "DanceStaffsModel" "isKept" "[Z") (by decide +kernel)
  have hin_10 : ∀ w ∈ u_ws RX10 TX10 37, w ∈ wsX10_back := by decide +kernel
  have fl_130 := hts (.fieldLink RX10 130 "DanceStaffsModel" "undoMany" "I") (by decide +kernel)
  have fl_127 := hts (.fieldLink RX10 127 "DanceStaffsModel" "many" "I") (by decide +kernel)
  have fl_19 := hts (.fieldLink RX10 19 "DanceStaffsModel" "now" "[I") (by decide +kernel)
  have fl_35 := hts (.fieldLink RX10 35 "DanceStaffsModel" "kept" "[I") (by decide +kernel)
  refine lv_iload_n hx hb dX10_back_0 rfl (lv_at hl 1 rfl) ?_
  refine lv_iconst (v := 0) hx hb dX10_back_1 (by decide) ?_
  refine lv_iconst (v := 1) hx hb dX10_back_2 (by decide) ?_
  refine st_i (va_runS (As := [.int k, .int 0, .int 1]) (rest := []) ⟨hx, hb, hml, hown, hts⟩ (c_X10_in l D cI cJ cZ H.size k 0 1) (va_cwS 3 hts gX10_back_X10_in rfl rfl rfl (by decide +kernel) ⟨Nat.le_of_ble_eq_true rfl, Nat.le_of_ble_eq_true rfl⟩) (pr_S hP hD hK hN hE hS hA [] (by decide) rfl) rfl rfl hl.1 rfl (lv_room (Nat.le_of_ble_eq_true rfl)) dX10_back_3 ⟨Nat.zero_le _, Nat.zero_le _⟩) hP hS hA (fun r_3 u_3 H locs hw_3 hP hS => ?_)
  have hr_3 := hw_3
  refine lv_if_ne (tgt := 11) hx hb dX10_back_6 (by decide) (fun c_6 => ?_) (fun c_6 => ?_)
  · have b_6 : (inR k 0 1) = true := bI_1 (fun q => c_6 (hr_3.trans q))
    obtain ⟨z1, z2⟩ := inR_in b_6
    rw [li_0] at z1
    rw [li_1] at z2
    refine lv_aload_n hx hb dX10_back_11 rfl (lv_at hl 0 rfl) ?_
    refine va_get (D := D) (ci := 10) (v := .ref (a 11)) (C := RX10) (T := TX10) (N := 37) hx hb hts hin_10 hown hK hP 0 rfl rfl 11 (by decide) fl_31 (fun _ h9 => h9) rfl dX10_back_12 ?_
    refine lv_iload_n hx hb dX10_back_15 rfl (lv_at hl 1 rfl) ?_
    refine va_zald (D := D) (f := (mm.2 11)) hx hb hK hP 8 2 rfl rfl (vi_mk z1 (by omega)) dX10_back_16 ?_
    refine lv_if_ne (tgt := 23) hx hb dX10_back_17 (by decide) (fun c_17 => ?_) (fun c_17 => ?_)
    · have i_17 := i_ne c_17
      rw [(by decide : (0 : Int32).toInt = 0)] at i_17
      refine lv_iconst (v := 0) hx hb dX10_back_23 (by decide) ?_
      refine lv_istore_n (lv' := [(2, .int 0), (0, .ref (a 0)), (1, .int k)]) hx hb dX10_back_24 rfl hl (by decide) rfl (fun ls hl => ?_)
      have LB_25 : ∀ (n : Nat) (i : Nat) (hn_i : 33 < i + n) (hi_i : i ≤ 33) (H : Heap) (locs : List Loc) (_ : va_P D vwCl (wM a cI cZ (mF mm 4 (unL (mm.2 4) (mm.2 12) k i))) H) (_ : va_D A (wM a cI cZ (mF mm 4 (unL (mm.2 4) (mm.2 12) k i)))) (_ : va_S A s.heap H locs) (ls : Array Slot) (_ : lv_has ls 3 [(0, .ref (a 0)), (1, .int k), (2, .int (nI i))]), W p l e rm_X10_back s m args below meth c H locs 0 0 Q (F0 m 25 ls []) := by
        intro n
        induction n with
        | zero =>
          intro i hn_i hi_i
          exact absurd hn_i (by omega)
        | succ n LB_25 =>
          intro i hn_i hi_i H locs hP hD hS ls hl
          have hP : va_P D vwCl ([(a 0, .inr (10, [.int (mm.1 0), .ref (a 1), .ref (a 2), .ref (a 3), .ref (a 4), .int (mm.1 5), .int (mm.1 6), .ref (a 7), .int (mm.1 8), .ref (a 9), .ref (a 10), .ref (a 11), .ref (a 12), .int (mm.1 13), .ref (a 14), .int (mm.1 15), .int (mm.1 16), .int (mm.1 17), .int (mm.1 18), .int (mm.1 19), .int (mm.1 20), .ref (a 21), .ref (a 22), .ref (a 23), .ref (a 24), .int (mm.1 25), .int (mm.1 26), .int (mm.1 27), .int (mm.1 28), .ref (a 29), .ref (a 30), .ref (a 31), .ref (a 32), .int (mm.1 33), .ref (a 34), .ref (a 35), .ref (a 36)])), (a 1, .inl (cI, 3, .inl (mm.2 1))), (a 2, .inl (cI, 3, .inl (mm.2 2))), (a 3, .inl (cI, 3, .inl (mm.2 3))), (a 4, .inl (cI, 33, .inl (unL (mm.2 4) (mm.2 12) k i))), (a 7, .inl (cI, 330, .inl (mm.2 7))), (a 9, .inl (cI, 6, .inl (mm.2 9))), (a 10, .inl (cI, 6, .inl (mm.2 10))), (a 11, .inl (cZ, 2, .inl (mm.2 11))), (a 12, .inl (cI, 66, .inl (mm.2 12))), (a 14, .inl (cI, 100, .inl (mm.2 14))), (a 21, .inl (cI, 3, .inl (mm.2 21))), (a 22, .inl (cI, 3, .inl (mm.2 22))), (a 23, .inl (cI, 3, .inl (mm.2 23))), (a 24, .inl (cI, 33, .inl (mm.2 24))), (a 29, .inl (cI, 11, .inl (mm.2 29))), (a 30, .inl (cI, 11, .inl (mm.2 30))), (a 31, .inl (cI, 11, .inl (mm.2 31))), (a 32, .inl (cI, 11, .inl (mm.2 32))), (a 34, .inl (cI, 11, .inl (mm.2 34))), (a 35, .inl (cI, 11, .inl (mm.2 35))), (a 36, .inl (cI, 1176, .inl (mm.2 36)))]) H := hP
          have hD : va_D A ([(a 0, .inr (10, [.int (mm.1 0), .ref (a 1), .ref (a 2), .ref (a 3), .ref (a 4), .int (mm.1 5), .int (mm.1 6), .ref (a 7), .int (mm.1 8), .ref (a 9), .ref (a 10), .ref (a 11), .ref (a 12), .int (mm.1 13), .ref (a 14), .int (mm.1 15), .int (mm.1 16), .int (mm.1 17), .int (mm.1 18), .int (mm.1 19), .int (mm.1 20), .ref (a 21), .ref (a 22), .ref (a 23), .ref (a 24), .int (mm.1 25), .int (mm.1 26), .int (mm.1 27), .int (mm.1 28), .ref (a 29), .ref (a 30), .ref (a 31), .ref (a 32), .int (mm.1 33), .ref (a 34), .ref (a 35), .ref (a 36)])), (a 1, .inl (cI, 3, .inl (mm.2 1))), (a 2, .inl (cI, 3, .inl (mm.2 2))), (a 3, .inl (cI, 3, .inl (mm.2 3))), (a 4, .inl (cI, 33, .inl (unL (mm.2 4) (mm.2 12) k i))), (a 7, .inl (cI, 330, .inl (mm.2 7))), (a 9, .inl (cI, 6, .inl (mm.2 9))), (a 10, .inl (cI, 6, .inl (mm.2 10))), (a 11, .inl (cZ, 2, .inl (mm.2 11))), (a 12, .inl (cI, 66, .inl (mm.2 12))), (a 14, .inl (cI, 100, .inl (mm.2 14))), (a 21, .inl (cI, 3, .inl (mm.2 21))), (a 22, .inl (cI, 3, .inl (mm.2 22))), (a 23, .inl (cI, 3, .inl (mm.2 23))), (a 24, .inl (cI, 33, .inl (mm.2 24))), (a 29, .inl (cI, 11, .inl (mm.2 29))), (a 30, .inl (cI, 11, .inl (mm.2 30))), (a 31, .inl (cI, 11, .inl (mm.2 31))), (a 32, .inl (cI, 11, .inl (mm.2 32))), (a 34, .inl (cI, 11, .inl (mm.2 34))), (a 35, .inl (cI, 11, .inl (mm.2 35))), (a 36, .inl (cI, 1176, .inl (mm.2 36)))]) := hD
          refine lv_iload_n hx hb dX10_back_25 rfl (lv_at hl 2 rfl) ?_
          refine lv_bipush (v := 33) hx hb dX10_back_26 (by decide) ?_
          refine lv_icmp_ge (tgt := 54) hx hb dX10_back_28 (by decide) (fun c_28 => ?_) (fun c_28 => ?_)
          · have i_28 := i_le c_28
            rw [(by decide : (33 : Int32).toInt = 33)] at i_28
            rw [nIT (by omega)] at i_28
            have e_28 : i = 33 := by omega
            refine lv_aload_n hx hb dX10_back_54 rfl (lv_at hl 0 rfl) ?_
            refine lv_iconst (v := 0) hx hb dX10_back_55 (by decide) ?_
            refine va_put (D := D) (ci := 10) (v := .int 0) (ty := .int) (C := RX10) (T := TX10) (N := 37) hx hb hts hin_10 tyX10 tyX10_ok nmX10 hown hK hP hD hS 0 rfl rfl 5 (by decide) fl_130 (fun _ h9 => h9) rfl (by decide +kernel) rfl rfl (Nat.le_of_ble_eq_true rfl) dX10_back_56 (fun H locs hP hD hS => ?_)
            have hP : va_P D vwCl ([(a 0, .inr (10, [.int (mm.1 0), .ref (a 1), .ref (a 2), .ref (a 3), .ref (a 4), .int 0, .int (mm.1 6), .ref (a 7), .int (mm.1 8), .ref (a 9), .ref (a 10), .ref (a 11), .ref (a 12), .int (mm.1 13), .ref (a 14), .int (mm.1 15), .int (mm.1 16), .int (mm.1 17), .int (mm.1 18), .int (mm.1 19), .int (mm.1 20), .ref (a 21), .ref (a 22), .ref (a 23), .ref (a 24), .int (mm.1 25), .int (mm.1 26), .int (mm.1 27), .int (mm.1 28), .ref (a 29), .ref (a 30), .ref (a 31), .ref (a 32), .int (mm.1 33), .ref (a 34), .ref (a 35), .ref (a 36)])), (a 1, .inl (cI, 3, .inl (mm.2 1))), (a 2, .inl (cI, 3, .inl (mm.2 2))), (a 3, .inl (cI, 3, .inl (mm.2 3))), (a 4, .inl (cI, 33, .inl (unL (mm.2 4) (mm.2 12) k i))), (a 7, .inl (cI, 330, .inl (mm.2 7))), (a 9, .inl (cI, 6, .inl (mm.2 9))), (a 10, .inl (cI, 6, .inl (mm.2 10))), (a 11, .inl (cZ, 2, .inl (mm.2 11))), (a 12, .inl (cI, 66, .inl (mm.2 12))), (a 14, .inl (cI, 100, .inl (mm.2 14))), (a 21, .inl (cI, 3, .inl (mm.2 21))), (a 22, .inl (cI, 3, .inl (mm.2 22))), (a 23, .inl (cI, 3, .inl (mm.2 23))), (a 24, .inl (cI, 33, .inl (mm.2 24))), (a 29, .inl (cI, 11, .inl (mm.2 29))), (a 30, .inl (cI, 11, .inl (mm.2 30))), (a 31, .inl (cI, 11, .inl (mm.2 31))), (a 32, .inl (cI, 11, .inl (mm.2 32))), (a 34, .inl (cI, 11, .inl (mm.2 34))), (a 35, .inl (cI, 11, .inl (mm.2 35))), (a 36, .inl (cI, 1176, .inl (mm.2 36)))]) H := hP
            have hD : va_D A ([(a 0, .inr (10, [.int (mm.1 0), .ref (a 1), .ref (a 2), .ref (a 3), .ref (a 4), .int 0, .int (mm.1 6), .ref (a 7), .int (mm.1 8), .ref (a 9), .ref (a 10), .ref (a 11), .ref (a 12), .int (mm.1 13), .ref (a 14), .int (mm.1 15), .int (mm.1 16), .int (mm.1 17), .int (mm.1 18), .int (mm.1 19), .int (mm.1 20), .ref (a 21), .ref (a 22), .ref (a 23), .ref (a 24), .int (mm.1 25), .int (mm.1 26), .int (mm.1 27), .int (mm.1 28), .ref (a 29), .ref (a 30), .ref (a 31), .ref (a 32), .int (mm.1 33), .ref (a 34), .ref (a 35), .ref (a 36)])), (a 1, .inl (cI, 3, .inl (mm.2 1))), (a 2, .inl (cI, 3, .inl (mm.2 2))), (a 3, .inl (cI, 3, .inl (mm.2 3))), (a 4, .inl (cI, 33, .inl (unL (mm.2 4) (mm.2 12) k i))), (a 7, .inl (cI, 330, .inl (mm.2 7))), (a 9, .inl (cI, 6, .inl (mm.2 9))), (a 10, .inl (cI, 6, .inl (mm.2 10))), (a 11, .inl (cZ, 2, .inl (mm.2 11))), (a 12, .inl (cI, 66, .inl (mm.2 12))), (a 14, .inl (cI, 100, .inl (mm.2 14))), (a 21, .inl (cI, 3, .inl (mm.2 21))), (a 22, .inl (cI, 3, .inl (mm.2 22))), (a 23, .inl (cI, 3, .inl (mm.2 23))), (a 24, .inl (cI, 33, .inl (mm.2 24))), (a 29, .inl (cI, 11, .inl (mm.2 29))), (a 30, .inl (cI, 11, .inl (mm.2 30))), (a 31, .inl (cI, 11, .inl (mm.2 31))), (a 32, .inl (cI, 11, .inl (mm.2 32))), (a 34, .inl (cI, 11, .inl (mm.2 34))), (a 35, .inl (cI, 11, .inl (mm.2 35))), (a 36, .inl (cI, 1176, .inl (mm.2 36)))]) := hD
            refine lv_aload_n hx hb dX10_back_59 rfl (lv_at hl 0 rfl) ?_
            refine va_get (D := D) (ci := 10) (v := .int (mm.1 0)) (C := RX10) (T := TX10) (N := 37) hx hb hts hin_10 hown hK hP 0 rfl rfl 0 (by decide) fl_127 (fun _ h9 => h9) rfl dX10_back_60 ?_
            have em_63_5 : (if inR k 0 1 = true then (if (mm.2 11) (k).toNatClampNeg = 0 then (mm.1 5) else 0) else (mm.1 5)) = 0 := by first | (simp only [b_6, if_neg c_17, if_pos c_28, ↓reduceIte, reduceCtorEq]; done) | (simp only [b_6, if_neg c_17, if_pos c_28, e_28, ↓reduceIte]; done)
            have em_63_4 : (if inR k 0 1 = true then (if (mm.2 11) (k).toNatClampNeg = 0 then (mm.2 4) else unL (mm.2 4) (mm.2 12) k 33) else (mm.2 4)) = (unL (mm.2 4) (mm.2 12) k i) := by first | (simp only [b_6, if_neg c_17, if_pos c_28, ↓reduceIte, reduceCtorEq]; done) | (simp only [b_6, if_neg c_17, if_pos c_28, e_28, ↓reduceIte]; done)
            have hP : va_P D vwCl (wM a cI cZ (mF (mS mm 5 0) 4 (unL (mm.2 4) (mm.2 12) k i))) H := hP
            have hD : va_D A (wM a cI cZ (mF (mS mm 5 0) 4 (unL (mm.2 4) (mm.2 12) k i))) := hD
            have eM_63 : (mF (mS mm 5 (if inR k 0 1 = true then (if (mm.2 11) (k).toNatClampNeg = 0 then (mm.1 5) else 0) else (mm.1 5))) 4 (if inR k 0 1 = true then (if (mm.2 11) (k).toNatClampNeg = 0 then (mm.2 4) else unL (mm.2 4) (mm.2 12) k 33) else (mm.2 4))) = (mF (mS mm 5 0) 4 (unL (mm.2 4) (mm.2 12) k i)) := (mF_c (mS_c rfl em_63_5) em_63_4)
            rw [← eM_63] at hP hD
            exact lf_i hx hb hr hlocks hQ (mF (mS mm 5 (if inR k 0 1 = true then (if (mm.2 11) (k).toNatClampNeg = 0 then (mm.1 5) else 0) else (mm.1 5))) 4 (if inR k 0 1 = true then (if (mm.2 11) (k).toNatClampNeg = 0 then (mm.2 4) else unL (mm.2 4) (mm.2 12) k 33) else (mm.2 4))) hP hD hS dX10_back_63 ⟨(by simp only [b_6, if_neg c_17, if_pos c_28, ↓reduceIte, reduceCtorEq]), rfl⟩
          · have i_28 := i_nle c_28
            rw [(by decide : (33 : Int32).toInt = 33)] at i_28
            rw [nIT (by omega)] at i_28
            refine lv_aload_n hx hb dX10_back_31 rfl (lv_at hl 0 rfl) ?_
            refine va_get (D := D) (ci := 10) (v := .ref (a 4)) (C := RX10) (T := TX10) (N := 37) hx hb hts hin_10 hown hK hP 0 rfl rfl 4 (by decide) fl_19 (fun _ h9 => h9) rfl dX10_back_32 ?_
            refine lv_iload_n hx hb dX10_back_35 rfl (lv_at hl 2 rfl) ?_
            refine lv_aload_n hx hb dX10_back_36 rfl (lv_at hl 0 rfl) ?_
            refine va_get (D := D) (ci := 10) (v := .ref (a 12)) (C := RX10) (T := TX10) (N := 37) hx hb hts hin_10 hown hK hP 0 rfl rfl 12 (by decide) fl_35 (fun _ h9 => h9) rfl dX10_back_37 ?_
            refine lv_bipush (v := 33) hx hb dX10_back_40 (by decide) ?_
            refine lv_iload_n hx hb dX10_back_42 rfl (lv_at hl 1 rfl) ?_
            refine lv_imul hx hb dX10_back_43 ?_
            refine lv_iload_n hx hb dX10_back_44 rfl (lv_at hl 2 rfl) ?_
            refine lv_iadd hx hb dX10_back_45 ?_
            refine va_iald (D := D) (f := (mm.2 12)) hx hb hK hP 9 0 rfl rfl (in33 z1 (by decide) (m := 2) (by omega) i (by omega) (by decide)) dX10_back_46 ?_
            refine va_iast (D := D) (f := (unL (mm.2 4) (mm.2 12) k i)) hx hb hK hP hD hS 4 0 rfl rfl (vp_in_nI (by omega) (by decide)) dX10_back_47 (fun H locs hP hD hS => ?_)
            have hP : va_P D vwCl ([(a 0, .inr (10, [.int (mm.1 0), .ref (a 1), .ref (a 2), .ref (a 3), .ref (a 4), .int (mm.1 5), .int (mm.1 6), .ref (a 7), .int (mm.1 8), .ref (a 9), .ref (a 10), .ref (a 11), .ref (a 12), .int (mm.1 13), .ref (a 14), .int (mm.1 15), .int (mm.1 16), .int (mm.1 17), .int (mm.1 18), .int (mm.1 19), .int (mm.1 20), .ref (a 21), .ref (a 22), .ref (a 23), .ref (a 24), .int (mm.1 25), .int (mm.1 26), .int (mm.1 27), .int (mm.1 28), .ref (a 29), .ref (a 30), .ref (a 31), .ref (a 32), .int (mm.1 33), .ref (a 34), .ref (a 35), .ref (a 36)])), (a 1, .inl (cI, 3, .inl (mm.2 1))), (a 2, .inl (cI, 3, .inl (mm.2 2))), (a 3, .inl (cI, 3, .inl (mm.2 3))), (a 4, .inl (cI, 33, .inl (upd (unL (mm.2 4) (mm.2 12) k i) ((nI i).toNatClampNeg) ((mm.2 12) ((33 * k) + (nI i)).toNatClampNeg)))), (a 7, .inl (cI, 330, .inl (mm.2 7))), (a 9, .inl (cI, 6, .inl (mm.2 9))), (a 10, .inl (cI, 6, .inl (mm.2 10))), (a 11, .inl (cZ, 2, .inl (mm.2 11))), (a 12, .inl (cI, 66, .inl (mm.2 12))), (a 14, .inl (cI, 100, .inl (mm.2 14))), (a 21, .inl (cI, 3, .inl (mm.2 21))), (a 22, .inl (cI, 3, .inl (mm.2 22))), (a 23, .inl (cI, 3, .inl (mm.2 23))), (a 24, .inl (cI, 33, .inl (mm.2 24))), (a 29, .inl (cI, 11, .inl (mm.2 29))), (a 30, .inl (cI, 11, .inl (mm.2 30))), (a 31, .inl (cI, 11, .inl (mm.2 31))), (a 32, .inl (cI, 11, .inl (mm.2 32))), (a 34, .inl (cI, 11, .inl (mm.2 34))), (a 35, .inl (cI, 11, .inl (mm.2 35))), (a 36, .inl (cI, 1176, .inl (mm.2 36)))]) H := hP
            have hD : va_D A ([(a 0, .inr (10, [.int (mm.1 0), .ref (a 1), .ref (a 2), .ref (a 3), .ref (a 4), .int (mm.1 5), .int (mm.1 6), .ref (a 7), .int (mm.1 8), .ref (a 9), .ref (a 10), .ref (a 11), .ref (a 12), .int (mm.1 13), .ref (a 14), .int (mm.1 15), .int (mm.1 16), .int (mm.1 17), .int (mm.1 18), .int (mm.1 19), .int (mm.1 20), .ref (a 21), .ref (a 22), .ref (a 23), .ref (a 24), .int (mm.1 25), .int (mm.1 26), .int (mm.1 27), .int (mm.1 28), .ref (a 29), .ref (a 30), .ref (a 31), .ref (a 32), .int (mm.1 33), .ref (a 34), .ref (a 35), .ref (a 36)])), (a 1, .inl (cI, 3, .inl (mm.2 1))), (a 2, .inl (cI, 3, .inl (mm.2 2))), (a 3, .inl (cI, 3, .inl (mm.2 3))), (a 4, .inl (cI, 33, .inl (upd (unL (mm.2 4) (mm.2 12) k i) ((nI i).toNatClampNeg) ((mm.2 12) ((33 * k) + (nI i)).toNatClampNeg)))), (a 7, .inl (cI, 330, .inl (mm.2 7))), (a 9, .inl (cI, 6, .inl (mm.2 9))), (a 10, .inl (cI, 6, .inl (mm.2 10))), (a 11, .inl (cZ, 2, .inl (mm.2 11))), (a 12, .inl (cI, 66, .inl (mm.2 12))), (a 14, .inl (cI, 100, .inl (mm.2 14))), (a 21, .inl (cI, 3, .inl (mm.2 21))), (a 22, .inl (cI, 3, .inl (mm.2 22))), (a 23, .inl (cI, 3, .inl (mm.2 23))), (a 24, .inl (cI, 33, .inl (mm.2 24))), (a 29, .inl (cI, 11, .inl (mm.2 29))), (a 30, .inl (cI, 11, .inl (mm.2 30))), (a 31, .inl (cI, 11, .inl (mm.2 31))), (a 32, .inl (cI, 11, .inl (mm.2 32))), (a 34, .inl (cI, 11, .inl (mm.2 34))), (a 35, .inl (cI, 11, .inl (mm.2 35))), (a 36, .inl (cI, 1176, .inl (mm.2 36)))]) := hD
            refine lv_iinc (v := ((nI i) + 1)) (lv' := [(2, .int ((nI i) + 1)), (0, .ref (a 0)), (1, .int k)]) hx hb dX10_back_48 hl (k := 2) rfl rfl (by decide) rfl (fun ls hl => ?_)
            rw [show nI i + 1 = nI (i + 1) from nI_1 _] at hl
            have hl : lv_has ls 3 [(2, .int (nI (i + 1))), (0, .ref (a 0)), (1, .int k)] := hl
            refine lv_goto (tgt := 25) hx hb dX10_back_51 (by decide) ?_
            have em_25_4 : (unL (mm.2 4) (mm.2 12) k (i + 1)) = (upd (unL (mm.2 4) (mm.2 12) k i) ((nI i).toNatClampNeg) ((mm.2 12) ((33 * k) + (nI i)).toNatClampNeg)) := by rfl
            have hP : va_P D vwCl (wM a cI cZ (mF mm 4 (upd (unL (mm.2 4) (mm.2 12) k i) ((nI i).toNatClampNeg) ((mm.2 12) ((33 * k) + (nI i)).toNatClampNeg)))) H := hP
            have hD : va_D A (wM a cI cZ (mF mm 4 (upd (unL (mm.2 4) (mm.2 12) k i) ((nI i).toNatClampNeg) ((mm.2 12) ((33 * k) + (nI i)).toNatClampNeg)))) := hD
            have eM_25 : (mF mm 4 (unL (mm.2 4) (mm.2 12) k (i + 1))) = (mF mm 4 (upd (unL (mm.2 4) (mm.2 12) k i) ((nI i).toNatClampNeg) ((mm.2 12) ((33 * k) + (nI i)).toNatClampNeg))) := (mF_c rfl em_25_4)
            rw [← eM_25] at hP hD
            exact LB_25 (i + 1) (by omega) (by omega) H locs hP hD hS ls (lv_sub hl [1, 2, 0] rfl)
      have em_25_4 : (unL (mm.2 4) (mm.2 12) k 0) = (mm.2 4) := by rfl
      have hP : va_P D vwCl (wM a cI cZ (mF mm 4 (mm.2 4))) H := hP
      have hD : va_D A (wM a cI cZ (mF mm 4 (mm.2 4))) := hD
      have eM_25 : (mF mm 4 (unL (mm.2 4) (mm.2 12) k 0)) = (mF mm 4 (mm.2 4)) := (mF_c rfl em_25_4)
      rw [← eM_25] at hP hD
      exact LB_25 (33 + 1) 0 (by omega) (by omega) H locs hP hD hS ls (lv_sub hl [1, 2, 0] rfl)
    · have i_17 := i_eq c_17
      rw [(by decide : (0 : Int32).toInt = 0)] at i_17
      refine lv_bipush (v := (-2)) hx hb dX10_back_20 (by decide) ?_
      have em_22_5 : (if inR k 0 1 = true then (if (mm.2 11) (k).toNatClampNeg = 0 then (mm.1 5) else 0) else (mm.1 5)) = (mm.1 5) := by first | (simp only [b_6, if_pos c_17, ↓reduceIte, reduceCtorEq]; done) | (simp only [b_6, if_pos c_17, e_28, ↓reduceIte]; done)
      have em_22_4 : (if inR k 0 1 = true then (if (mm.2 11) (k).toNatClampNeg = 0 then (mm.2 4) else unL (mm.2 4) (mm.2 12) k 33) else (mm.2 4)) = (mm.2 4) := by first | (simp only [b_6, if_pos c_17, ↓reduceIte, reduceCtorEq]; done) | (simp only [b_6, if_pos c_17, e_28, ↓reduceIte]; done)
      have hP : va_P D vwCl (wM a cI cZ (mF (mS mm 5 (mm.1 5)) 4 (mm.2 4))) H := hP
      have hD : va_D A (wM a cI cZ (mF (mS mm 5 (mm.1 5)) 4 (mm.2 4))) := hD
      have eM_22 : (mF (mS mm 5 (if inR k 0 1 = true then (if (mm.2 11) (k).toNatClampNeg = 0 then (mm.1 5) else 0) else (mm.1 5))) 4 (if inR k 0 1 = true then (if (mm.2 11) (k).toNatClampNeg = 0 then (mm.2 4) else unL (mm.2 4) (mm.2 12) k 33) else (mm.2 4))) = (mF (mS mm 5 (mm.1 5)) 4 (mm.2 4)) := (mF_c (mS_c rfl em_22_5) em_22_4)
      rw [← eM_22] at hP hD
      exact lf_i hx hb hr hlocks hQ (mF (mS mm 5 (if inR k 0 1 = true then (if (mm.2 11) (k).toNatClampNeg = 0 then (mm.1 5) else 0) else (mm.1 5))) 4 (if inR k 0 1 = true then (if (mm.2 11) (k).toNatClampNeg = 0 then (mm.2 4) else unL (mm.2 4) (mm.2 12) k 33) else (mm.2 4))) hP hD hS dX10_back_22 ⟨(by simp only [b_6, if_pos c_17, ↓reduceIte, reduceCtorEq]), rfl⟩
  · have b_6 : (inR k 0 1) = false := bI_0 (hr_3.symm.trans c_6)
    refine lv_iconst (v := (-1)) hx hb dX10_back_9 (by decide) ?_
    have em_10_5 : (if inR k 0 1 = true then (if (mm.2 11) (k).toNatClampNeg = 0 then (mm.1 5) else 0) else (mm.1 5)) = (mm.1 5) := by first | (simp only [b_6, ↓reduceIte, reduceCtorEq]; done) | (simp only [b_6, e_28, ↓reduceIte]; done)
    have em_10_4 : (if inR k 0 1 = true then (if (mm.2 11) (k).toNatClampNeg = 0 then (mm.2 4) else unL (mm.2 4) (mm.2 12) k 33) else (mm.2 4)) = (mm.2 4) := by first | (simp only [b_6, ↓reduceIte, reduceCtorEq]; done) | (simp only [b_6, e_28, ↓reduceIte]; done)
    have hP : va_P D vwCl (wM a cI cZ (mF (mS mm 5 (mm.1 5)) 4 (mm.2 4))) H := hP
    have hD : va_D A (wM a cI cZ (mF (mS mm 5 (mm.1 5)) 4 (mm.2 4))) := hD
    have eM_10 : (mF (mS mm 5 (if inR k 0 1 = true then (if (mm.2 11) (k).toNatClampNeg = 0 then (mm.1 5) else 0) else (mm.1 5))) 4 (if inR k 0 1 = true then (if (mm.2 11) (k).toNatClampNeg = 0 then (mm.2 4) else unL (mm.2 4) (mm.2 12) k 33) else (mm.2 4))) = (mF (mS mm 5 (mm.1 5)) 4 (mm.2 4)) := (mF_c (mS_c rfl em_10_5) em_10_4)
    rw [← eM_10] at hP hD
    exact lf_i hx hb hr hlocks hQ (mF (mS mm 5 (if inR k 0 1 = true then (if (mm.2 11) (k).toNatClampNeg = 0 then (mm.1 5) else 0) else (mm.1 5))) 4 (if inR k 0 1 = true then (if (mm.2 11) (k).toNatClampNeg = 0 then (mm.2 4) else unL (mm.2 4) (mm.2 12) k 33) else (mm.2 4))) hP hD hS dX10_back_10 ⟨(by simp only [b_6, ↓reduceIte, reduceCtorEq]), rfl⟩
abbrev rm_X10_isAt : Room := { frames := 0, cells := 0, slots := 0, locals := 0 }
set_option maxHeartbeats 4000000 in
set_option maxRecDepth 100000 in
theorem c_X10_isAt (l : Launch) (D : va_G) (cI cJ cZ : ClassId) (a : Nat → Nat) (sz : Nat) (mm : MS) (n : Int32) (x : Int32) (y : Int32) (h0n : 0 ≤ n.toInt) (hn10 : n.toInt < 11) : Met l yX10_isAt wsX10_isAt rm_X10_isAt (va_Pc [.ref (a 0), .int n, .int x, .int y] (PU D (tyL cI cJ cZ) (wM a cI cZ mm) sz)) (va_Qi (fun (rz : Int32) (_ : Unit) => rz = bI (if (mm.2 29) (n).toNatClampNeg = x then (if (mm.2 30) (n).toNatClampNeg = y then true else false) else false)) (fun uz => BU D (wM a cI cZ mm) (va_A (wM a cI cZ mm) sz)) (va_A (wM a cI cZ mm) sz)) 0 0 (va_A (wM a cI cZ mm) sz) := by
  refine en (own := RX10) (Qc := fun A => va_Qi (fun (rz : Int32) (_ : Unit) => rz = bI (if (mm.2 29) (n).toNatClampNeg = x then (if (mm.2 30) (n).toNatClampNeg = y then true else false) else false)) (fun uz => BU D (wM a cI cZ mm) A) A) (by decide) rfl (Nat.le_of_ble_eq_true rfl) rfl ?_
  intro p e s m args below meth c A Q H locs ls hx hb hr hml hown hts hlocks hname hA hN hE hK hQ hP hD hS hl
  have hl : lv_has ls 4 [(0, .ref (a 0)), (1, .int n), (2, .int x), (3, .int y)] := hl
  have fl_53 := hts (.fieldLink RX10 53 "DanceStaffsModel" "xs" "[I") (by decide +kernel)
  have hin_10 : ∀ w ∈ u_ws RX10 TX10 37, w ∈ wsX10_isAt := by decide +kernel
  have fl_56 := hts (.fieldLink RX10 56 "DanceStaffsModel" "ys" "[I") (by decide +kernel)
  refine lv_aload_n hx hb dX10_isAt_0 rfl (lv_at hl 0 rfl) ?_
  refine va_get (D := D) (ci := 10) (v := .ref (a 29)) (C := RX10) (T := TX10) (N := 37) hx hb hts hin_10 hown hK hP 0 rfl rfl 29 (by decide) fl_53 (fun _ h9 => h9) rfl dX10_isAt_1 ?_
  refine lv_iload_n hx hb dX10_isAt_4 rfl (lv_at hl 1 rfl) ?_
  refine va_iald (D := D) (f := (mm.2 29)) hx hb hK hP 15 0 rfl rfl (by exact vi_mk (by omega) (by omega)) dX10_isAt_5 ?_
  refine lv_iload_n hx hb dX10_isAt_6 rfl (lv_at hl 2 rfl) ?_
  refine lv_icmp_ne (tgt := 24) hx hb dX10_isAt_7 (by decide) (fun c_7 => ?_) (fun c_7 => ?_)
  · have i_7 := i_ne c_7
    refine lv_iconst (v := 0) hx hb dX10_isAt_24 (by decide) ?_
    exact lf_z hx hb hr hlocks hQ () hP hD hS dX10_isAt_25 (by first | rfl | (rw [bI_f]; exact bI_n _) | exact bI_n _) (by first | with_reducible rfl | (simp only [if_neg c_7, ↓reduceIte, bI_t, bI_f, reduceCtorEq]; done) | (subst_vars; simp only [if_neg c_7, ↓reduceIte, bI_t, bI_f, reduceCtorEq]; done) | (simp [c_7, bI_t, bI_f]; done))
  · have i_7 := i_eq c_7
    refine lv_aload_n hx hb dX10_isAt_10 rfl (lv_at hl 0 rfl) ?_
    refine va_get (D := D) (ci := 10) (v := .ref (a 30)) (C := RX10) (T := TX10) (N := 37) hx hb hts hin_10 hown hK hP 0 rfl rfl 30 (by decide) fl_56 (fun _ h9 => h9) rfl dX10_isAt_11 ?_
    refine lv_iload_n hx hb dX10_isAt_14 rfl (lv_at hl 1 rfl) ?_
    refine va_iald (D := D) (f := (mm.2 30)) hx hb hK hP 16 0 rfl rfl (by exact vi_mk (by omega) (by omega)) dX10_isAt_15 ?_
    refine lv_iload_n hx hb dX10_isAt_16 rfl (lv_at hl 3 rfl) ?_
    refine lv_icmp_ne (tgt := 24) hx hb dX10_isAt_17 (by decide) (fun c_17 => ?_) (fun c_17 => ?_)
    · have i_17 := i_ne c_17
      refine lv_iconst (v := 0) hx hb dX10_isAt_24 (by decide) ?_
      exact lf_z hx hb hr hlocks hQ () hP hD hS dX10_isAt_25 (by first | rfl | (rw [bI_f]; exact bI_n _) | exact bI_n _) (by first | with_reducible rfl | (simp only [if_pos c_7, if_neg c_17, ↓reduceIte, bI_t, bI_f, reduceCtorEq]; done) | (subst_vars; simp only [if_pos c_7, if_neg c_17, ↓reduceIte, bI_t, bI_f, reduceCtorEq]; done) | (simp [c_7, c_17, bI_t, bI_f]; done))
    · have i_17 := i_eq c_17
      refine lv_iconst (v := 1) hx hb dX10_isAt_20 (by decide) ?_
      refine lv_goto (tgt := 25) hx hb dX10_isAt_21 (by decide) ?_
      exact lf_z hx hb hr hlocks hQ () hP hD hS dX10_isAt_25 (by first | rfl | (rw [bI_f]; exact bI_n _) | exact bI_n _) (by first | with_reducible rfl | (simp only [if_pos c_7, if_pos c_17, ↓reduceIte, bI_t, bI_f, reduceCtorEq]; done) | (subst_vars; simp only [if_pos c_7, if_pos c_17, ↓reduceIte, bI_t, bI_f, reduceCtorEq]; done) | (simp [c_7, c_17, bI_t, bI_f]; done))
