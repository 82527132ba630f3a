abbrev rm_X10_in : Room := { frames := 0, cells := 0, slots := 0, locals := 0 }
set_option maxHeartbeats 4000000 in
set_option maxRecDepth 100000 in
theorem c_X10_in (l : Launch) (D : va_G) (cI cJ cZ : ClassId) (sz : Nat) (v : Int32) (lo : Int32) (hi : Int32) : Met l yX10_in wsX10_in rm_X10_in (va_Pc [.int v, .int lo, .int hi] (PU D (tyL cI cJ cZ) (([] : va_W)) sz)) (va_Qi (fun (rz : Int32) (_ : Unit) => rz = bI (inR v lo hi)) (fun uz => BU D (([] : va_W)) (va_A (([] : va_W)) sz)) (va_A (([] : va_W)) sz)) 0 0 (va_A (([] : va_W)) sz) := by
  refine en (own := RX10) (Qc := fun A => va_Qi (fun (rz : Int32) (_ : Unit) => rz = bI (inR v lo hi)) (fun uz => BU D (([] : va_W)) A) A) (by decide) rfl (Nat.le_of_ble_eq_true rfl) rfl ?_
  intro p e s m args below meth c A Q H locs ls hx hb hr hml hown hts hlocks hname hA hN hE hK hQ hP hD hS hl
  have hl : lv_has ls 3 [(0, .int v), (1, .int lo), (2, .int hi)] := hl
  refine lv_iload_n hx hb dX10_in_0 rfl (lv_at hl 0 rfl) ?_
  refine lv_iload_n hx hb dX10_in_1 rfl (lv_at hl 1 rfl) ?_
  refine lv_icmp_lt (tgt := 14) hx hb dX10_in_2 (by decide) (fun c_2 => ?_) (fun c_2 => ?_)
  · have i_2 := i_lt c_2
    refine lv_iconst (v := 0) hx hb dX10_in_14 (by decide) ?_
    exact lf_z hx hb hr hlocks hQ () hP hD hS dX10_in_15 (by first | rfl | (rw [bI_f]; exact bI_n _) | exact bI_n _) (by first | with_reducible rfl | (simp only [inR, if_pos c_2, ↓reduceIte, bI_t, bI_f, reduceCtorEq]; done) | (subst_vars; simp only [inR, if_pos c_2, ↓reduceIte, bI_t, bI_f, reduceCtorEq]; done) | (simp [inR, c_2, bI_t, bI_f]; done))
  · have i_2 := i_nlt c_2
    refine lv_iload_n hx hb dX10_in_5 rfl (lv_at hl 0 rfl) ?_
    refine lv_iload_n hx hb dX10_in_6 rfl (lv_at hl 2 rfl) ?_
    refine lv_icmp_gt (tgt := 14) hx hb dX10_in_7 (by decide) (fun c_7 => ?_) (fun c_7 => ?_)
    · have i_7 := i_lt c_7
      refine lv_iconst (v := 0) hx hb dX10_in_14 (by decide) ?_
      exact lf_z hx hb hr hlocks hQ () hP hD hS dX10_in_15 (by first | rfl | (rw [bI_f]; exact bI_n _) | exact bI_n _) (by first | with_reducible rfl | (simp only [inR, if_neg c_2, if_pos c_7, ↓reduceIte, bI_t, bI_f, reduceCtorEq]; done) | (subst_vars; simp only [inR, if_neg c_2, if_pos c_7, ↓reduceIte, bI_t, bI_f, reduceCtorEq]; done) | (simp [inR, c_2, c_7, bI_t, bI_f]; done))
    · have i_7 := i_nlt c_7
      refine lv_iconst (v := 1) hx hb dX10_in_10 (by decide) ?_
      refine lv_goto (tgt := 15) hx hb dX10_in_11 (by decide) ?_
      exact lf_z hx hb hr hlocks hQ () hP hD hS dX10_in_15 (by first | rfl | (rw [bI_f]; exact bI_n _) | exact bI_n _) (by first | with_reducible rfl | (simp only [inR, if_neg c_2, if_neg c_7, ↓reduceIte, bI_t, bI_f, reduceCtorEq]; done) | (subst_vars; simp only [inR, if_neg c_2, if_neg c_7, ↓reduceIte, bI_t, bI_f, reduceCtorEq]; done) | (simp [inR, c_2, c_7, bI_t, bI_f]; done))
abbrev rm_X10_has : Room := { frames := 0, cells := 0, slots := 0, locals := 0 }
set_option maxHeartbeats 4000000 in
set_option maxRecDepth 100000 in
theorem c_X10_has (l : Launch) (D : va_G) (cI cJ cZ : ClassId) (sz : Nat) (g : Int32) (k : Int32) : Met l yX10_has wsX10_has rm_X10_has (va_Pc [.int g, .int k] (PU D (tyL cI cJ cZ) (([] : va_W)) sz)) (va_Qi (fun (rz : Int32) (_ : Unit) => rz = bI (hasB g k)) (fun uz => BU D (([] : va_W)) (va_A (([] : va_W)) sz)) (va_A (([] : va_W)) sz)) 0 0 (va_A (([] : va_W)) sz) := by
  refine en (own := RX10) (Qc := fun A => va_Qi (fun (rz : Int32) (_ : Unit) => rz = bI (hasB g k)) (fun uz => BU D (([] : va_W)) A) A) (by decide) rfl (Nat.le_of_ble_eq_true rfl) rfl ?_
  intro p e s m args below meth c A Q H locs ls hx hb hr hml hown hts hlocks hname hA hN hE hK hQ hP hD hS hl
  have hl : lv_has ls 2 [(0, .int g), (1, .int k)] := hl
  refine lv_iload_n hx hb dX10_has_0 rfl (lv_at hl 0 rfl) ?_
  refine lv_iload_n hx hb dX10_has_1 rfl (lv_at hl 1 rfl) ?_
  refine lv_ishr hx hb dX10_has_2 ?_
  refine lv_iconst (v := 1) hx hb dX10_has_3 (by decide) ?_
  refine lv_iand hx hb dX10_has_4 ?_
  refine lv_iconst (v := 1) hx hb dX10_has_5 (by decide) ?_
  refine lv_icmp_ne (tgt := 13) hx hb dX10_has_6 (by decide) (fun c_6 => ?_) (fun c_6 => ?_)
  · have i_6 := i_ne c_6
    rw [(by decide : (1 : Int32).toInt = 1)] at i_6
    refine lv_iconst (v := 0) hx hb dX10_has_13 (by decide) ?_
    exact lf_z hx hb hr hlocks hQ () hP hD hS dX10_has_14 (by first | rfl | (rw [bI_f]; exact bI_n _) | exact bI_n _) (by first | with_reducible rfl | (simp only [hasB, if_neg c_6, ↓reduceIte, bI_t, bI_f, reduceCtorEq]; done) | (subst_vars; simp only [hasB, if_neg c_6, ↓reduceIte, bI_t, bI_f, reduceCtorEq]; done) | (simp [hasB, c_6, bI_t, bI_f]; done))
  · have i_6 := i_eq c_6
    rw [(by decide : (1 : Int32).toInt = 1)] at i_6
    refine lv_iconst (v := 1) hx hb dX10_has_9 (by decide) ?_
    refine lv_goto (tgt := 14) hx hb dX10_has_10 (by decide) ?_
    exact lf_z hx hb hr hlocks hQ () hP hD hS dX10_has_14 (by first | rfl | (rw [bI_f]; exact bI_n _) | exact bI_n _) (by first | with_reducible rfl | (simp only [hasB, if_pos c_6, ↓reduceIte, bI_t, bI_f, reduceCtorEq]; done) | (subst_vars; simp only [hasB, if_pos c_6, ↓reduceIte, bI_t, bI_f, reduceCtorEq]; done) | (simp [hasB, c_6, bI_t, bI_f]; done))
abbrev rm_X10_isToken : Room := { frames := 0, cells := 0, slots := 0, locals := 0 }
set_option maxHeartbeats 4000000 in
set_option maxRecDepth 100000 in
theorem c_X10_isToken (l : Launch) (D : va_G) (cI cJ cZ : ClassId) (sz : Nat) (k : Int32) : Met l yX10_isToken wsX10_isToken rm_X10_isToken (va_Pc [.int k] (PU D (tyL cI cJ cZ) (([] : va_W)) sz)) (va_Qi (fun (rz : Int32) (_ : Unit) => rz = bI (isTok k)) (fun uz => BU D (([] : va_W)) (va_A (([] : va_W)) sz)) (va_A (([] : va_W)) sz)) 0 0 (va_A (([] : va_W)) sz) := by
  refine en (own := RX10) (Qc := fun A => va_Qi (fun (rz : Int32) (_ : Unit) => rz = bI (isTok k)) (fun uz => BU D (([] : va_W)) A) A) (by decide) rfl (Nat.le_of_ble_eq_true rfl) rfl ?_
  intro p e s m args below meth c A Q H locs ls hx hb hr hml hown hts hlocks hname hA hN hE hK hQ hP hD hS hl
  have hl : lv_has ls 1 [(0, .int k)] := hl
  refine lv_iload_n hx hb dX10_isToken_0 rfl (lv_at hl 0 rfl) ?_
  refine lv_bipush (v := 100) hx hb dX10_isToken_1 (by decide) ?_
  refine lv_icmp_eq (tgt := 48) hx hb dX10_isToken_3 (by decide) (fun c_3 => ?_) (fun c_3 => ?_)
  · have i_3 := i_eq c_3
    rw [(by decide : (100 : Int32).toInt = 100)] at i_3
    refine lv_iconst (v := 1) hx hb dX10_isToken_48 (by decide) ?_
    refine lv_goto (tgt := 53) hx hb dX10_isToken_49 (by decide) ?_
    exact lf_z hx hb hr hlocks hQ () hP hD hS dX10_isToken_53 (by first | rfl | (rw [bI_f]; exact bI_n _) | exact bI_n _) (by simp only [isTok, if_pos c_3, ↓reduceIte, bI_t, bI_f])
  · have i_3 := i_ne c_3
    rw [(by decide : (100 : Int32).toInt = 100)] at i_3
    refine lv_iload_n hx hb dX10_isToken_6 rfl (lv_at hl 0 rfl) ?_
    refine lv_bipush (v := 99) hx hb dX10_isToken_7 (by decide) ?_
    refine lv_icmp_eq (tgt := 48) hx hb dX10_isToken_9 (by decide) (fun c_9 => ?_) (fun c_9 => ?_)
    · have i_9 := i_eq c_9
      rw [(by decide : (99 : Int32).toInt = 99)] at i_9
      refine lv_iconst (v := 1) hx hb dX10_isToken_48 (by decide) ?_
      refine lv_goto (tgt := 53) hx hb dX10_isToken_49 (by decide) ?_
      exact lf_z hx hb hr hlocks hQ () hP hD hS dX10_isToken_53 (by first | rfl | (rw [bI_f]; exact bI_n _) | exact bI_n _) (by simp only [isTok, if_neg c_3, if_pos c_9, ↓reduceIte, bI_t, bI_f])
    · have i_9 := i_ne c_9
      rw [(by decide : (99 : Int32).toInt = 99)] at i_9
      refine lv_iload_n hx hb dX10_isToken_12 rfl (lv_at hl 0 rfl) ?_
      refine lv_bipush (v := 108) hx hb dX10_isToken_13 (by decide) ?_
      refine lv_icmp_eq (tgt := 48) hx hb dX10_isToken_15 (by decide) (fun c_15 => ?_) (fun c_15 => ?_)
      · have i_15 := i_eq c_15
        rw [(by decide : (108 : Int32).toInt = 108)] at i_15
        refine lv_iconst (v := 1) hx hb dX10_isToken_48 (by decide) ?_
        refine lv_goto (tgt := 53) hx hb dX10_isToken_49 (by decide) ?_
        exact lf_z hx hb hr hlocks hQ () hP hD hS dX10_isToken_53 (by first | rfl | (rw [bI_f]; exact bI_n _) | exact bI_n _) (by simp only [isTok, if_neg c_3, if_neg c_9, if_pos c_15, ↓reduceIte, bI_t, bI_f])
      · have i_15 := i_ne c_15
        rw [(by decide : (108 : Int32).toInt = 108)] at i_15
        refine lv_iload_n hx hb dX10_isToken_18 rfl (lv_at hl 0 rfl) ?_
        refine lv_bipush (v := 114) hx hb dX10_isToken_19 (by decide) ?_
        refine lv_icmp_eq (tgt := 48) hx hb dX10_isToken_21 (by decide) (fun c_21 => ?_) (fun c_21 => ?_)
        · have i_21 := i_eq c_21
          rw [(by decide : (114 : Int32).toInt = 114)] at i_21
          refine lv_iconst (v := 1) hx hb dX10_isToken_48 (by decide) ?_
          refine lv_goto (tgt := 53) hx hb dX10_isToken_49 (by decide) ?_
          exact lf_z hx hb hr hlocks hQ () hP hD hS dX10_isToken_53 (by first | rfl | (rw [bI_f]; exact bI_n _) | exact bI_n _) (by simp only [isTok, if_neg c_3, if_neg c_9, if_neg c_15, if_pos c_21, ↓reduceIte, bI_t, bI_f])
        · have i_21 := i_ne c_21
          rw [(by decide : (114 : Int32).toInt = 114)] at i_21
          refine lv_iload_n hx hb dX10_isToken_24 rfl (lv_at hl 0 rfl) ?_
          refine lv_bipush (v := 106) hx hb dX10_isToken_25 (by decide) ?_
          refine lv_icmp_eq (tgt := 48) hx hb dX10_isToken_27 (by decide) (fun c_27 => ?_) (fun c_27 => ?_)
          · have i_27 := i_eq c_27
            rw [(by decide : (106 : Int32).toInt = 106)] at i_27
            refine lv_iconst (v := 1) hx hb dX10_isToken_48 (by decide) ?_
            refine lv_goto (tgt := 53) hx hb dX10_isToken_49 (by decide) ?_
            exact lf_z hx hb hr hlocks hQ () hP hD hS dX10_isToken_53 (by first | rfl | (rw [bI_f]; exact bI_n _) | exact bI_n _) (by simp only [isTok, if_neg c_3, if_neg c_9, if_neg c_15, if_neg c_21, if_pos c_27, ↓reduceIte, bI_t, bI_f])
          · have i_27 := i_ne c_27
            rw [(by decide : (106 : Int32).toInt = 106)] at i_27
            refine lv_iload_n hx hb dX10_isToken_30 rfl (lv_at hl 0 rfl) ?_
            refine lv_bipush (v := 116) hx hb dX10_isToken_31 (by decide) ?_
            refine lv_icmp_eq (tgt := 48) hx hb dX10_isToken_33 (by decide) (fun c_33 => ?_) (fun c_33 => ?_)
            · have i_33 := i_eq c_33
              rw [(by decide : (116 : Int32).toInt = 116)] at i_33
              refine lv_iconst (v := 1) hx hb dX10_isToken_48 (by decide) ?_
              refine lv_goto (tgt := 53) hx hb dX10_isToken_49 (by decide) ?_
              exact lf_z hx hb hr hlocks hQ () hP hD hS dX10_isToken_53 (by first | rfl | (rw [bI_f]; exact bI_n _) | exact bI_n _) (by simp only [isTok, if_neg c_3, if_neg c_9, if_neg c_15, if_neg c_21, if_neg c_27, if_pos c_33, ↓reduceIte, bI_t, bI_f])
            · have i_33 := i_ne c_33
              rw [(by decide : (116 : Int32).toInt = 116)] at i_33
              refine lv_iload_n hx hb dX10_isToken_36 rfl (lv_at hl 0 rfl) ?_
              refine lv_bipush (v := 46) hx hb dX10_isToken_37 (by decide) ?_
              refine lv_icmp_eq (tgt := 48) hx hb dX10_isToken_39 (by decide) (fun c_39 => ?_) (fun c_39 => ?_)
              · have i_39 := i_eq c_39
                rw [(by decide : (46 : Int32).toInt = 46)] at i_39
                refine lv_iconst (v := 1) hx hb dX10_isToken_48 (by decide) ?_
                refine lv_goto (tgt := 53) hx hb dX10_isToken_49 (by decide) ?_
                exact lf_z hx hb hr hlocks hQ () hP hD hS dX10_isToken_53 (by first | rfl | (rw [bI_f]; exact bI_n _) | exact bI_n _) (by simp only [isTok, if_neg c_3, if_neg c_9, if_neg c_15, if_neg c_21, if_neg c_27, if_neg c_33, if_pos c_39, ↓reduceIte, bI_t, bI_f])
              · have i_39 := i_ne c_39
                rw [(by decide : (46 : Int32).toInt = 46)] at i_39
                refine lv_iload_n hx hb dX10_isToken_42 rfl (lv_at hl 0 rfl) ?_
                refine lv_bipush (v := 59) hx hb dX10_isToken_43 (by decide) ?_
                refine lv_icmp_ne (tgt := 52) hx hb dX10_isToken_45 (by decide) (fun c_45 => ?_) (fun c_45 => ?_)
                · have i_45 := i_ne c_45
                  rw [(by decide : (59 : Int32).toInt = 59)] at i_45
                  refine lv_iconst (v := 0) hx hb dX10_isToken_52 (by decide) ?_
                  exact lf_z hx hb hr hlocks hQ () hP hD hS dX10_isToken_53 (by first | rfl | (rw [bI_f]; exact bI_n _) | exact bI_n _) (by simp only [isTok, if_neg c_3, if_neg c_9, if_neg c_15, if_neg c_21, if_neg c_27, if_neg c_33, if_neg c_39, if_neg c_45, ↓reduceIte, bI_t, bI_f])
                · have i_45 := i_eq c_45
                  rw [(by decide : (59 : Int32).toInt = 59)] at i_45
                  refine lv_iconst (v := 1) hx hb dX10_isToken_48 (by decide) ?_
                  refine lv_goto (tgt := 53) hx hb dX10_isToken_49 (by decide) ?_
                  exact lf_z hx hb hr hlocks hQ () hP hD hS dX10_isToken_53 (by first | rfl | (rw [bI_f]; exact bI_n _) | exact bI_n _) (by simp only [isTok, if_neg c_3, if_neg c_9, if_neg c_15, if_neg c_21, if_neg c_27, if_neg c_33, if_neg c_39, if_pos c_45, ↓reduceIte, bI_t, bI_f])
abbrev rm_X10_stepX : Room := { frames := 0, cells := 0, slots := 0, locals := 0 }
set_option maxHeartbeats 4000000 in
set_option maxRecDepth 100000 in
theorem c_X10_stepX (l : Launch) (D : va_G) (cI cJ cZ : ClassId) (sz : Nat) (k : Int32) : Met l yX10_stepX wsX10_stepX rm_X10_stepX (va_Pc [.int k] (PU D (tyL cI cJ cZ) (([] : va_W)) sz)) (va_Qi (fun (rz : Int32) (_ : Unit) => rz = stX k) (fun uz => BU D (([] : va_W)) (va_A (([] : va_W)) sz)) (va_A (([] : va_W)) sz)) 0 0 (va_A (([] : va_W)) sz) := by
  refine en (own := RX10) (Qc := fun A => va_Qi (fun (rz : Int32) (_ : Unit) => rz = stX k) (fun uz => BU D (([] : va_W)) A) A) (by decide) rfl (Nat.le_of_ble_eq_true rfl) rfl ?_
  intro p e s m args below meth c A Q H locs ls hx hb hr hml hown hts hlocks hname hA hN hE hK hQ hP hD hS hl
  have hl : lv_has ls 2 [(0, .int k)] := hl
  refine lv_iload_n hx hb dX10_stepX_0 rfl (lv_at hl 0 rfl) ?_
  refine lv_bipush (v := 8) hx hb dX10_stepX_1 (by decide) ?_
  refine lv_irem hx hb dX10_stepX_3 (by decide) ?_
  refine lv_istore_n (lv' := [(1, .int (k - k / 8 * 8)), (0, .int k)]) hx hb dX10_stepX_4 rfl hl (by decide) rfl (fun ls hl => ?_)
  refine lv_iload_n hx hb dX10_stepX_5 rfl (lv_at hl 0 rfl) ?_
  refine lv_iconst (v := 4) hx hb dX10_stepX_6 (by decide) ?_
  refine lv_irem hx hb dX10_stepX_7 (by decide) ?_
  refine lv_if_ne (tgt := 15) hx hb dX10_stepX_8 (by decide) (fun c_8 => ?_) (fun c_8 => ?_)
  · have i_8 := i_ne c_8
    rw [(by decide : (0 : Int32).toInt = 0)] at i_8
    refine lv_iload_n hx hb dX10_stepX_15 rfl (lv_at hl 0 rfl) ?_
    refine lv_iconst (v := 4) hx hb dX10_stepX_16 (by decide) ?_
    refine lv_icmp_ge (tgt := 24) hx hb dX10_stepX_17 (by decide) (fun c_17 => ?_) (fun c_17 => ?_)
    · have i_17 := i_le c_17
      rw [(by decide : (4 : Int32).toInt = 4)] at i_17
      refine lv_iconst (v := (-1)) hx hb dX10_stepX_24 (by decide) ?_
      exact lf_i hx hb hr hlocks hQ () hP hD hS dX10_stepX_25 (by first | with_reducible rfl | (simp only [stX, if_neg c_8, if_pos c_17, ↓reduceIte, bI_t, bI_f, reduceCtorEq]; done) | (subst_vars; simp only [stX, if_neg c_8, if_pos c_17, ↓reduceIte, bI_t, bI_f, reduceCtorEq]; done) | (simp [stX, c_8, c_17, bI_t, bI_f]; done))
    · have i_17 := i_nle c_17
      rw [(by decide : (4 : Int32).toInt = 4)] at i_17
      refine lv_iconst (v := 1) hx hb dX10_stepX_20 (by decide) ?_
      refine lv_goto (tgt := 25) hx hb dX10_stepX_21 (by decide) ?_
      exact lf_i hx hb hr hlocks hQ () hP hD hS dX10_stepX_25 (by first | with_reducible rfl | (simp only [stX, if_neg c_8, if_neg c_17, ↓reduceIte, bI_t, bI_f, reduceCtorEq]; done) | (subst_vars; simp only [stX, if_neg c_8, if_neg c_17, ↓reduceIte, bI_t, bI_f, reduceCtorEq]; done) | (simp [stX, c_8, c_17, bI_t, bI_f]; done))
  · have i_8 := i_eq c_8
    rw [(by decide : (0 : Int32).toInt = 0)] at i_8
    refine lv_iconst (v := 0) hx hb dX10_stepX_11 (by decide) ?_
    refine lv_goto (tgt := 25) hx hb dX10_stepX_12 (by decide) ?_
    exact lf_i hx hb hr hlocks hQ () hP hD hS dX10_stepX_25 (by first | with_reducible rfl | (simp only [stX, if_pos c_8, ↓reduceIte, bI_t, bI_f, reduceCtorEq]; done) | (subst_vars; simp only [stX, if_pos c_8, ↓reduceIte, bI_t, bI_f, reduceCtorEq]; done) | (simp [stX, c_8, bI_t, bI_f]; done))
abbrev rm_X10_stepY : Room := { frames := 1, cells := 0, slots := 0, locals := 21 }
set_option maxHeartbeats 4000000 in
set_option maxRecDepth 100000 in
theorem c_X10_stepY (l : Launch) (D : va_G) (cI cJ cZ : ClassId) (sz : Nat) (k : Int32) : Met l yX10_stepY wsX10_stepY rm_X10_stepY (va_Pc [.int k] (PU D (tyL cI cJ cZ) (([] : va_W)) sz)) (va_Qi (fun (rz : Int32) (_ : Unit) => rz = stY k) (fun uz => BU D (([] : va_W)) (va_A (([] : va_W)) sz)) (va_A (([] : va_W)) sz)) 0 0 (va_A (([] : va_W)) sz) := by
  refine en (own := RX10) (Qc := fun A => va_Qi (fun (rz : Int32) (_ : Unit) => rz = stY k) (fun uz => BU D (([] : va_W)) A) A) (by decide) rfl (Nat.le_of_ble_eq_true rfl) rfl ?_
  intro p e s m args below meth c A Q H locs ls hx hb hr hml hown hts hlocks hname hA hN hE hK hQ hP hD hS hl
  have hl : lv_has ls 1 [(0, .int k)] := hl
  refine lv_iload_n hx hb dX10_stepY_0 rfl (lv_at hl 0 rfl) ?_
  refine lv_iconst (v := 2) hx hb dX10_stepY_1 (by decide) ?_
  refine lv_iadd hx hb dX10_stepY_2 ?_
  refine st_i (va_runS (As := [.int (k + 2)]) (rest := []) ⟨hx, hb, hml, hown, hts⟩ (c_X10_stepX l D cI cJ cZ H.size (k + 2)) (va_cwS 1 hts gX10_stepY_X10_stepX rfl rfl rfl (by decide +kernel) ⟨Nat.le_of_ble_eq_true rfl, Nat.le_of_ble_eq_true rfl⟩) (pr_S hP hD hK hN hE hS hA [] (by decide) rfl) rfl rfl hl.1 rfl (lv_room (Nat.le_of_ble_eq_true rfl)) dX10_stepY_3 ⟨Nat.zero_le _, Nat.zero_le _⟩) hP hS hA (fun r_3 u_3 H locs hw_3 hP hS => ?_)
  have hr_3 := hw_3
  exact lf_i hx hb hr hlocks hQ () hP hD hS dX10_stepY_6 (by exact hr_3)
abbrev rm_X10_type : Room := { frames := 1, cells := 0, slots := 0, locals := 22 }
set_option maxHeartbeats 4000000 in
set_option maxRecDepth 100000 in
theorem c_X10_type (l : Launch) (D : va_G) (cI cJ cZ : ClassId) (a : Nat → Nat) (sz : Nat) (mm : MS) (k : Int32) (h0n : 0 ≤ (mm.1 13).toInt) (h1n : (mm.1 13).toInt ≤ 100) : Met l yX10_type wsX10_type rm_X10_type (va_Pc [.ref (a 0), .int k] (PU D (tyL cI cJ cZ) (wM a cI cZ mm) sz)) (va_Qi (fun (rz : Int32) (uz : MS) => rz = yTy (mm.1 13) k ∧ uz = (mF (mS mm 13 (yTyN (mm.1 13) k)) 14 (yTyF (mm.1 13) (mm.2 14) k))) (fun uz => BU D (wM a cI cZ uz) (va_A (wM a cI cZ mm) sz)) (va_A (wM a cI cZ mm) sz)) 0 0 (va_A (wM a cI cZ mm) sz) := by
  refine en (own := RX10) (Qc := fun A => va_Qi (fun (rz : Int32) (uz : MS) => rz = yTy (mm.1 13) k ∧ uz = (mF (mS mm 13 (yTyN (mm.1 13) k)) 14 (yTyF (mm.1 13) (mm.2 14) k))) (fun uz => BU D (wM a cI cZ uz) A) A) (by decide) rfl (Nat.le_of_ble_eq_true rfl) rfl ?_
  intro p e s m args below meth c A Q H locs ls hx hb hr hml hown hts hlocks hname hA hN hE hK hQ hP hD hS hl
  have hl : lv_has ls 2 [(0, .ref (a 0)), (1, .int k)] := hl
  have fl_78 := hts (.fieldLink RX10 78 "DanceStaffsModel" "letterMany" "I") (by decide +kernel)
  have hin_10 : ∀ w ∈ u_ws RX10 TX10 37, w ∈ wsX10_type := by decide +kernel
  have fl_38 := hts (.fieldLink RX10 38 "DanceStaffsModel" "text" "[I") (by decide +kernel)
  refine lv_iload_n hx hb dX10_type_0 rfl (lv_at hl 1 rfl) ?_
  refine lv_iconst (v := 0) hx hb dX10_type_1 (by decide) ?_
  refine lv_sipush (v := 255) hx hb dX10_type_2 (by decide) ?_
  refine st_i (va_runS (As := [.int k, .int 0, .int 255]) (rest := []) ⟨hx, hb, hml, hown, hts⟩ (c_X10_in l D cI cJ cZ H.size k 0 255) (va_cwS 3 hts gX10_type_X10_in rfl rfl rfl (by decide +kernel) ⟨Nat.le_of_ble_eq_true rfl, Nat.le_of_ble_eq_true rfl⟩) (pr_S hP hD hK hN hE hS hA [] (by decide) rfl) rfl rfl hl.1 rfl (lv_room (Nat.le_of_ble_eq_true rfl)) dX10_type_5 ⟨Nat.zero_le _, Nat.zero_le _⟩) hP hS hA (fun r_5 u_5 H locs hw_5 hP hS => ?_)
  have hr_5 := hw_5
  refine lv_if_ne (tgt := 13) hx hb dX10_type_8 (by decide) (fun c_8 => ?_) (fun c_8 => ?_)
  · have b_8 : (inR k 0 255) = true := bI_1 (fun q => c_8 (hr_5.trans q))
    refine lv_aload_n hx hb dX10_type_13 rfl (lv_at hl 0 rfl) ?_
    refine va_get (D := D) (ci := 10) (v := .int (mm.1 13)) (C := RX10) (T := TX10) (N := 37) hx hb hts hin_10 hown hK hP 0 rfl rfl 13 (by decide) fl_78 (fun _ h9 => h9) rfl dX10_type_14 ?_
    refine lv_bipush (v := 100) hx hb dX10_type_17 (by decide) ?_
    refine lv_icmp_ne (tgt := 25) hx hb dX10_type_19 (by decide) (fun c_19 => ?_) (fun c_19 => ?_)
    · have i_19 := i_ne c_19
      rw [(by decide : (100 : Int32).toInt = 100)] at i_19
      refine lv_aload_n hx hb dX10_type_25 rfl (lv_at hl 0 rfl) ?_
      refine va_get (D := D) (ci := 10) (v := .ref (a 14)) (C := RX10) (T := TX10) (N := 37) hx hb hts hin_10 hown hK hP 0 rfl rfl 14 (by decide) fl_38 (fun _ h9 => h9) rfl dX10_type_26 ?_
      refine lv_aload_n hx hb dX10_type_29 rfl (lv_at hl 0 rfl) ?_
      refine va_get (D := D) (ci := 10) (v := .int (mm.1 13)) (C := RX10) (T := TX10) (N := 37) hx hb hts hin_10 hown hK hP 0 rfl rfl 13 (by decide) fl_78 (fun _ h9 => h9) rfl dX10_type_30 ?_
      refine lv_iload_n hx hb dX10_type_33 rfl (lv_at hl 1 rfl) ?_
      refine va_iast (D := D) (f := (mm.2 14)) hx hb hK hP hD hS 10 0 rfl rfl (vi_mk h0n (by have := i_19; omega)) dX10_type_34 (fun H locs hP hD hS => ?_)
      have hP : va_P D vwCl (wM a cI cZ (mF mm 14 (upd (mm.2 14) ((mm.1 13).toNatClampNeg) k))) H := hP
      have hD : va_D A (wM a cI cZ (mF mm 14 (upd (mm.2 14) ((mm.1 13).toNatClampNeg) k))) := hD
      refine lv_aload_n hx hb dX10_type_35 rfl (lv_at hl 0 rfl) ?_
      refine lv_dup hx hb dX10_type_36 rfl ?_
      refine va_get (D := D) (ci := 10) (v := .int (mm.1 13)) (C := RX10) (T := TX10) (N := 37) hx hb hts hin_10 hown hK hP 0 rfl rfl 13 (by decide) fl_78 (fun _ h9 => h9) rfl dX10_type_37 ?_
      refine lv_iconst (v := 1) hx hb dX10_type_40 (by decide) ?_
      refine lv_iadd hx hb dX10_type_41 ?_
      refine va_put (D := D) (ci := 10) (v := .int ((mm.1 13) + 1)) (ty := .int) (C := RX10) (T := TX10) (N := 37) hx hb hts hin_10 tyX10 tyX10_ok nmX10 hown hK hP hD hS 0 rfl rfl 13 (by decide) fl_78 (fun _ h9 => h9) rfl (by decide +kernel) rfl rfl (Nat.le_of_ble_eq_true rfl) dX10_type_42 (fun H locs hP hD hS => ?_)
      have hP : va_P D vwCl (wM a cI cZ (mF (mS mm 13 ((mm.1 13) + 1)) 14 (upd (mm.2 14) ((mm.1 13).toNatClampNeg) k))) H := hP
      have hD : va_D A (wM a cI cZ (mF (mS mm 13 ((mm.1 13) + 1)) 14 (upd (mm.2 14) ((mm.1 13).toNatClampNeg) k))) := hD
      refine lv_aload_n hx hb dX10_type_45 rfl (lv_at hl 0 rfl) ?_
      refine va_get (D := D) (ci := 10) (v := .int ((mm.1 13) + 1)) (C := RX10) (T := TX10) (N := 37) hx hb hts hin_10 hown hK hP 0 rfl rfl 13 (by decide) fl_78 (fun _ h9 => h9) rfl dX10_type_46 ?_
      have em_49_13 : (yTyN (mm.1 13) k) = ((mm.1 13) + 1) := by simp only [yTy, yTyN, yTyF, b_8, if_neg c_19, ← hr_5, ↓reduceIte, reduceCtorEq]
      have em_49_14 : (yTyF (mm.1 13) (mm.2 14) k) = (upd (mm.2 14) ((mm.1 13).toNatClampNeg) k) := by simp only [yTy, yTyN, yTyF, b_8, if_neg c_19, ← hr_5, ↓reduceIte, reduceCtorEq]
      have hP : va_P D vwCl (wM a cI cZ (mF (mS mm 13 ((mm.1 13) + 1)) 14 (upd (mm.2 14) ((mm.1 13).toNatClampNeg) k))) H := hP
      have hD : va_D A (wM a cI cZ (mF (mS mm 13 ((mm.1 13) + 1)) 14 (upd (mm.2 14) ((mm.1 13).toNatClampNeg) k))) := hD
      have eM_49 : (mF (mS mm 13 (yTyN (mm.1 13) k)) 14 (yTyF (mm.1 13) (mm.2 14) k)) = (mF (mS mm 13 ((mm.1 13) + 1)) 14 (upd (mm.2 14) ((mm.1 13).toNatClampNeg) k)) := (mF_c (mS_c rfl em_49_13) em_49_14)
      rw [← eM_49] at hP hD
      have hP : va_P D vwCl (wM a cI cZ (mF (mS mm 13 (yTyN (mm.1 13) k)) 14 (yTyF (mm.1 13) (mm.2 14) k))) H := hP
      have hD : va_D A (wM a cI cZ (mF (mS mm 13 (yTyN (mm.1 13) k)) 14 (yTyF (mm.1 13) (mm.2 14) k))) := hD
      exact lf_i hx hb hr hlocks hQ (mF (mS mm 13 (yTyN (mm.1 13) k)) 14 (yTyF (mm.1 13) (mm.2 14) k)) hP hD hS dX10_type_49 ⟨(by first | with_reducible rfl | (simp only [yTy, yTyN, yTyF, b_8, if_neg c_19, ← hr_5, ↓reduceIte, bI_t, bI_f, reduceCtorEq]; done) | (subst_vars; simp only [yTy, yTyN, yTyF, b_8, if_neg c_19, ↓reduceIte, bI_t, bI_f, reduceCtorEq]; done) | (simp [yTy, yTyN, yTyF, b_8, c_19, bI_t, bI_f]; done)), rfl⟩
    · have i_19 := i_eq c_19
      rw [(by decide : (100 : Int32).toInt = 100)] at i_19
      refine lv_bipush (v := (-3)) hx hb dX10_type_22 (by decide) ?_
      have em_24_13 : (yTyN (mm.1 13) k) = (mm.1 13) := by simp only [yTy, yTyN, yTyF, b_8, if_pos c_19, ← hr_5, ↓reduceIte, reduceCtorEq]
      have em_24_14 : (yTyF (mm.1 13) (mm.2 14) k) = (mm.2 14) := by simp only [yTy, yTyN, yTyF, b_8, if_pos c_19, ← hr_5, ↓reduceIte, reduceCtorEq]
      have hP : va_P D vwCl (wM a cI cZ (mF (mS mm 13 (mm.1 13)) 14 (mm.2 14))) H := hP
      have hD : va_D A (wM a cI cZ (mF (mS mm 13 (mm.1 13)) 14 (mm.2 14))) := hD
      have eM_24 : (mF (mS mm 13 (yTyN (mm.1 13) k)) 14 (yTyF (mm.1 13) (mm.2 14) k)) = (mF (mS mm 13 (mm.1 13)) 14 (mm.2 14)) := (mF_c (mS_c rfl em_24_13) em_24_14)
      rw [← eM_24] at hP hD
      have hP : va_P D vwCl (wM a cI cZ (mF (mS mm 13 (yTyN (mm.1 13) k)) 14 (yTyF (mm.1 13) (mm.2 14) k))) H := hP
      have hD : va_D A (wM a cI cZ (mF (mS mm 13 (yTyN (mm.1 13) k)) 14 (yTyF (mm.1 13) (mm.2 14) k))) := hD
      exact lf_i hx hb hr hlocks hQ (mF (mS mm 13 (yTyN (mm.1 13) k)) 14 (yTyF (mm.1 13) (mm.2 14) k)) hP hD hS dX10_type_24 ⟨(by first | with_reducible rfl | (simp only [yTy, yTyN, yTyF, b_8, if_pos c_19, ← hr_5, ↓reduceIte, bI_t, bI_f, reduceCtorEq]; done) | (subst_vars; simp only [yTy, yTyN, yTyF, b_8, if_pos c_19, ↓reduceIte, bI_t, bI_f, reduceCtorEq]; done) | (simp [yTy, yTyN, yTyF, b_8, c_19, bI_t, bI_f]; done)), rfl⟩
  · have b_8 : (inR k 0 255) = false := bI_0 (hr_5.symm.trans c_8)
    refine lv_iconst (v := (-1)) hx hb dX10_type_11 (by decide) ?_
    have em_12_13 : (yTyN (mm.1 13) k) = (mm.1 13) := by simp only [yTy, yTyN, yTyF, b_8, ← hr_5, ↓reduceIte, reduceCtorEq]
    have em_12_14 : (yTyF (mm.1 13) (mm.2 14) k) = (mm.2 14) := by simp only [yTy, yTyN, yTyF, b_8, ← hr_5, ↓reduceIte, reduceCtorEq]
    have hP : va_P D vwCl (wM a cI cZ (mF (mS mm 13 (mm.1 13)) 14 (mm.2 14))) H := hP
    have hD : va_D A (wM a cI cZ (mF (mS mm 13 (mm.1 13)) 14 (mm.2 14))) := hD
    have eM_12 : (mF (mS mm 13 (yTyN (mm.1 13) k)) 14 (yTyF (mm.1 13) (mm.2 14) k)) = (mF (mS mm 13 (mm.1 13)) 14 (mm.2 14)) := (mF_c (mS_c rfl em_12_13) em_12_14)
    rw [← eM_12] at hP hD
    have hP : va_P D vwCl (wM a cI cZ (mF (mS mm 13 (yTyN (mm.1 13) k)) 14 (yTyF (mm.1 13) (mm.2 14) k))) H := hP
    have hD : va_D A (wM a cI cZ (mF (mS mm 13 (yTyN (mm.1 13) k)) 14 (yTyF (mm.1 13) (mm.2 14) k))) := hD
    exact lf_i hx hb hr hlocks hQ (mF (mS mm 13 (yTyN (mm.1 13) k)) 14 (yTyF (mm.1 13) (mm.2 14) k)) hP hD hS dX10_type_12 ⟨(by first | with_reducible rfl | (simp only [yTy, yTyN, yTyF, b_8, ← hr_5, ↓reduceIte, bI_t, bI_f, reduceCtorEq]; done) | (subst_vars; simp only [yTy, yTyN, yTyF, b_8, ↓reduceIte, bI_t, bI_f, reduceCtorEq]; done) | (simp [yTy, yTyN, yTyF, b_8, bI_t, bI_f]; done)), rfl⟩
abbrev rm_X10_clear : Room := { frames := 0, cells := 0, slots := 0, locals := 0 }
set_option maxHeartbeats 4000000 in
set_option maxRecDepth 100000 in
theorem c_X10_clear (l : Launch) (D : va_G) (cI cJ cZ : ClassId) (a : Nat → Nat) (sz : Nat) (mm : MS) : Met l yX10_clear wsX10_clear rm_X10_clear (va_Pc [.ref (a 0)] (PU D (tyL cI cJ cZ) (wM a cI cZ mm) sz)) (va_Qi (fun (rz : Int32) (uz : MS) => rz = (mm.1 13) ∧ uz = (mS mm 13 0)) (fun uz => BU D (wM a cI cZ uz) (va_A (wM a cI cZ mm) sz)) (va_A (wM a cI cZ mm) sz)) 0 0 (va_A (wM a cI cZ mm) sz) := by
  refine en (own := RX10) (Qc := fun A => va_Qi (fun (rz : Int32) (uz : MS) => rz = (mm.1 13) ∧ uz = (mS mm 13 0)) (fun uz => BU D (wM a cI cZ uz) A) A) (by decide) rfl (Nat.le_of_ble_eq_true rfl) rfl ?_
  intro p e s m args below meth c A Q H locs ls hx hb hr hml hown hts hlocks hname hA hN hE hK hQ hP hD hS hl
  have hl : lv_has ls 2 [(0, .ref (a 0))] := hl
  have fl_78 := hts (.fieldLink RX10 78 "DanceStaffsModel" "letterMany" "I") (by decide +kernel)
  have hin_10 : ∀ w ∈ u_ws RX10 TX10 37, w ∈ wsX10_clear := by decide +kernel
  refine lv_aload_n hx hb dX10_clear_0 rfl (lv_at hl 0 rfl) ?_
  refine va_get (D := D) (ci := 10) (v := .int (mm.1 13)) (C := RX10) (T := TX10) (N := 37) hx hb hts hin_10 hown hK hP 0 rfl rfl 13 (by decide) fl_78 (fun _ h9 => h9) rfl dX10_clear_1 ?_
  refine lv_istore_n (lv' := [(1, .int (mm.1 13)), (0, .ref (a 0))]) hx hb dX10_clear_4 rfl hl (by decide) rfl (fun ls hl => ?_)
  refine lv_aload_n hx hb dX10_clear_5 rfl (lv_at hl 1 rfl) ?_
  refine lv_iconst (v := 0) hx hb dX10_clear_6 (by decide) ?_
  refine va_put (D := D) (ci := 10) (v := .int 0) (ty := .int) (C := RX10) (T := TX10) (N := 37) hx hb hts hin_10 tyX10 tyX10_ok nmX10 hown hK hP hD hS 0 rfl rfl 13 (by decide) fl_78 (fun _ h9 => h9) rfl (by decide +kernel) rfl rfl (Nat.le_of_ble_eq_true rfl) dX10_clear_7 (fun H locs hP hD hS => ?_)
  have hP : va_P D vwCl (wM a cI cZ (mS mm 13 0)) H := hP
  have hD : va_D A (wM a cI cZ (mS mm 13 0)) := hD
  refine lv_iload_n hx hb dX10_clear_10 rfl (lv_at hl 0 rfl) ?_
  have hP : va_P D vwCl (wM a cI cZ (mS mm 13 0)) H := hP
  have hD : va_D A (wM a cI cZ (mS mm 13 0)) := hD
  exact lf_i hx hb hr hlocks hQ (mS mm 13 0) hP hD hS dX10_clear_11 ⟨(by first | with_reducible rfl | (simp only [↓reduceIte, bI_t, bI_f, reduceCtorEq]; done) | (subst_vars; simp only [↓reduceIte, bI_t, bI_f, reduceCtorEq]; done) | (simp [bI_t, bI_f]; done)), rfl⟩
abbrev rm_X10_isFigure : Room := { frames := 1, cells := 0, slots := 0, locals := 22 }
set_option maxHeartbeats 4000000 in
set_option maxRecDepth 100000 in
theorem c_X10_isFigure (l : Launch) (D : va_G) (cI cJ cZ : ClassId) (a : Nat → Nat) (sz : Nat) (mm : MS) (h0r : 0 ≤ (mm.1 15).toInt) (h1n : (mm.1 13).toInt ≤ 100) : Met l yX10_isFigure wsX10_isFigure rm_X10_isFigure (va_Pc [.ref (a 0)] (PU D (tyL cI cJ cZ) (wM a cI cZ mm) sz)) (va_Qi (fun (rz : Int32) (_ : Unit) => rz = bI (yFig (mm.1 13) (mm.2 14) (mm.1 15))) (fun uz => BU D (wM a cI cZ mm) (va_A (wM a cI cZ mm) sz)) (va_A (wM a cI cZ mm) sz)) 0 0 (va_A (wM a cI cZ mm) sz) := by
  refine en (own := RX10) (Qc := fun A => va_Qi (fun (rz : Int32) (_ : Unit) => rz = bI (yFig (mm.1 13) (mm.2 14) (mm.1 15))) (fun uz => BU D (wM a cI cZ mm) A) A) (by decide) rfl (Nat.le_of_ble_eq_true rfl) rfl ?_
  intro p e s m args below meth c A Q H locs ls hx hb hr hml hown hts hlocks hname hA hN hE hK hQ hP hD hS hl
  have hl : lv_has ls 1 [(0, .ref (a 0))] := hl
  have fl_82 := hts (.fieldLink RX10 82 "DanceStaffsModel" "readAt" "I") (by decide +kernel)
  have hin_10 : ∀ w ∈ u_ws RX10 TX10 37, w ∈ wsX10_isFigure := by decide +kernel
  have fl_78 := hts (.fieldLink RX10 78 "DanceStaffsModel" "letterMany" "I") (by decide +kernel)
  have fl_38 := hts (.fieldLink RX10 38 "DanceStaffsModel" "text" "[I") (by decide +kernel)
  refine lv_aload_n hx hb dX10_isFigure_0 rfl (lv_at hl 0 rfl) ?_
  refine va_get (D := D) (ci := 10) (v := .int (mm.1 15)) (C := RX10) (T := TX10) (N := 37) hx hb hts hin_10 hown hK hP 0 rfl rfl 15 (by decide) fl_82 (fun _ h9 => h9) rfl dX10_isFigure_1 ?_
  refine lv_aload_n hx hb dX10_isFigure_4 rfl (lv_at hl 0 rfl) ?_
  refine va_get (D := D) (ci := 10) (v := .int (mm.1 13)) (C := RX10) (T := TX10) (N := 37) hx hb hts hin_10 hown hK hP 0 rfl rfl 13 (by decide) fl_78 (fun _ h9 => h9) rfl dX10_isFigure_5 ?_
  refine lv_icmp_ge (tgt := 34) hx hb dX10_isFigure_8 (by decide) (fun c_8 => ?_) (fun c_8 => ?_)
  · have i_8 := i_le c_8
    refine lv_iconst (v := 0) hx hb dX10_isFigure_34 (by decide) ?_
    exact lf_z hx hb hr hlocks hQ () hP hD hS dX10_isFigure_35 (by first | rfl | (rw [bI_f]; exact bI_n _) | exact bI_n _) (by first | with_reducible rfl | (simp only [yFig, if_pos c_8, ↓reduceIte, bI_t, bI_f, reduceCtorEq]; done) | (subst_vars; simp only [yFig, if_pos c_8, ↓reduceIte, bI_t, bI_f, reduceCtorEq]; done) | (simp [yFig, c_8, bI_t, bI_f]; done))
  · have i_8 := i_nle c_8
    refine lv_aload_n hx hb dX10_isFigure_11 rfl (lv_at hl 0 rfl) ?_
    refine va_get (D := D) (ci := 10) (v := .ref (a 14)) (C := RX10) (T := TX10) (N := 37) hx hb hts hin_10 hown hK hP 0 rfl rfl 14 (by decide) fl_38 (fun _ h9 => h9) rfl dX10_isFigure_12 ?_
    refine lv_aload_n hx hb dX10_isFigure_15 rfl (lv_at hl 0 rfl) ?_
    refine va_get (D := D) (ci := 10) (v := .int (mm.1 15)) (C := RX10) (T := TX10) (N := 37) hx hb hts hin_10 hown hK hP 0 rfl rfl 15 (by decide) fl_82 (fun _ h9 => h9) rfl dX10_isFigure_16 ?_
    refine va_iald (D := D) (f := (mm.2 14)) hx hb hK hP 10 0 rfl rfl (by exact vi_mk (by omega) (by omega)) dX10_isFigure_19 ?_
    refine lv_bipush (v := 48) hx hb dX10_isFigure_20 (by decide) ?_
    refine lv_bipush (v := 57) hx hb dX10_isFigure_22 (by decide) ?_
    refine st_i (va_runS (As := [.int ((mm.2 14) (mm.1 15).toNatClampNeg), .int 48, .int 57]) (rest := []) ⟨hx, hb, hml, hown, hts⟩ (c_X10_in l D cI cJ cZ H.size ((mm.2 14) (mm.1 15).toNatClampNeg) 48 57) (va_cwS 3 hts gX10_isFigure_X10_in rfl rfl rfl (by decide +kernel) ⟨Nat.le_of_ble_eq_true rfl, Nat.le_of_ble_eq_true rfl⟩) (pr_S hP hD hK hN hE hS hA [] (by decide) rfl) rfl rfl hl.1 rfl (lv_room (Nat.le_of_ble_eq_true rfl)) dX10_isFigure_24 ⟨Nat.zero_le _, Nat.zero_le _⟩) hP hS hA (fun r_24 u_24 H locs hw_24 hP hS => ?_)
    have hr_24 := hw_24
    refine lv_if_eq (tgt := 34) hx hb dX10_isFigure_27 (by decide) (fun c_27 => ?_) (fun c_27 => ?_)
    · have b_27 : (inR ((mm.2 14) (mm.1 15).toNatClampNeg) 48 57) = false := bI_0 (hr_24.symm.trans c_27)
      refine lv_iconst (v := 0) hx hb dX10_isFigure_34 (by decide) ?_
      exact lf_z hx hb hr hlocks hQ () hP hD hS dX10_isFigure_35 (by first | rfl | (rw [bI_f]; exact bI_n _) | exact bI_n _) (by first | with_reducible rfl | (simp only [yFig, if_neg c_8, b_27, ← hr_24, ↓reduceIte, bI_t, bI_f, reduceCtorEq]; done) | (subst_vars; simp only [yFig, if_neg c_8, b_27, ↓reduceIte, bI_t, bI_f, reduceCtorEq]; done) | (simp [yFig, c_8, b_27, bI_t, bI_f]; done))
    · have b_27 : (inR ((mm.2 14) (mm.1 15).toNatClampNeg) 48 57) = true := bI_1 (fun q => c_27 (hr_24.trans q))
      refine lv_iconst (v := 1) hx hb dX10_isFigure_30 (by decide) ?_
      refine lv_goto (tgt := 35) hx hb dX10_isFigure_31 (by decide) ?_
      exact lf_z hx hb hr hlocks hQ () hP hD hS dX10_isFigure_35 (by first | rfl | (rw [bI_f]; exact bI_n _) | exact bI_n _) (by first | with_reducible rfl | (simp only [yFig, if_neg c_8, b_27, ← hr_24, ↓reduceIte, bI_t, bI_f, reduceCtorEq]; done) | (subst_vars; simp only [yFig, if_neg c_8, b_27, ↓reduceIte, bI_t, bI_f, reduceCtorEq]; done) | (simp [yFig, c_8, b_27, bI_t, bI_f]; done))
abbrev rm_X10_blanks : Room := { frames := 0, cells := 0, slots := 0, locals := 0 }
set_option maxHeartbeats 4000000 in
set_option maxRecDepth 100000 in
theorem c_X10_blanks (l : Launch) (D : va_G) (cI cJ cZ : ClassId) (a : Nat → Nat) (sz : Nat) (mm : MS) (h0r : 0 ≤ (mm.1 15).toInt) (h1n : (mm.1 13).toInt ≤ 100) : Met l yX10_blanks wsX10_blanks rm_X10_blanks (va_Pc [.ref (a 0)] (PU D (tyL cI cJ cZ) (wM a cI cZ mm) sz)) (va_Qv (fun (uz : MS) => uz = (mS mm 15 (yBl (mm.1 13) (mm.2 14) (mm.1 15)))) (fun uz => BU D (wM a cI cZ uz) (va_A (wM a cI cZ mm) sz)) (va_A (wM a cI cZ mm) sz)) 0 0 (va_A (wM a cI cZ mm) sz) := by
  refine en (own := RX10) (Qc := fun A => va_Qv (fun (uz : MS) => uz = (mS mm 15 (yBl (mm.1 13) (mm.2 14) (mm.1 15)))) (fun uz => BU D (wM a cI cZ uz) A) A) (by decide) rfl (Nat.le_of_ble_eq_true rfl) rfl ?_
  intro p e s m args below meth c A Q H locs ls hx hb hr hml hown hts hlocks hname hA hN hE hK hQ hP hD hS hl
  have hl : lv_has ls 1 [(0, .ref (a 0))] := hl
  have fl_82 := hts (.fieldLink RX10 82 "DanceStaffsModel" "readAt" "I") (by decide +kernel)
  have hin_10 : ∀ w ∈ u_ws RX10 TX10 37, w ∈ wsX10_blanks := by decide +kernel
  have fl_78 := hts (.fieldLink RX10 78 "DanceStaffsModel" "letterMany" "I") (by decide +kernel)
  have fl_38 := hts (.fieldLink RX10 38 "DanceStaffsModel" "text" "[I") (by decide +kernel)
  have LB_0 : ∀ (n : Nat) (x : Int32) (hm : ((mm.1 13).toInt - x.toInt).toNat < n) (hx0 : 0 ≤ x.toInt) (hG : skP (mm.1 13) (mm.2 14) n x = yBl (mm.1 13) (mm.2 14) (mm.1 15)) (H : Heap) (locs : List Loc) (_ : va_P D vwCl (wM a cI cZ (mS mm 15 x)) H) (_ : va_D A (wM a cI cZ (mS mm 15 x))) (_ : va_S A s.heap H locs) (ls : Array Slot) (_ : lv_has ls 1 [(0, .ref (a 0))]), W p l e rm_X10_blanks s m args below meth c H locs 0 0 Q (F0 m 0 ls []) := by
    intro n
    induction n with
    | zero =>
      intro x hm hx0 hG
      exact absurd hm (by omega)
    | succ n LB_0 =>
      intro x hm hx0 hG H locs hP hD hS ls hl
      refine lv_aload_n hx hb dX10_blanks_0 rfl (lv_at hl 0 rfl) ?_
      refine va_get (D := D) (ci := 10) (v := .int x) (C := RX10) (T := TX10) (N := 37) hx hb hts hin_10 hown hK hP 0 rfl rfl 15 (by decide) fl_82 (fun _ h9 => h9) rfl dX10_blanks_1 ?_
      refine lv_aload_n hx hb dX10_blanks_4 rfl (lv_at hl 0 rfl) ?_
      refine va_get (D := D) (ci := 10) (v := .int (mm.1 13)) (C := RX10) (T := TX10) (N := 37) hx hb hts hin_10 hown hK hP 0 rfl rfl 13 (by decide) fl_78 (fun _ h9 => h9) rfl dX10_blanks_5 ?_
      refine lv_icmp_ge (tgt := 38) hx hb dX10_blanks_8 (by decide) (fun c_8 => ?_) (fun c_8 => ?_)
      · have i_8 := i_le c_8
        rw [skP, if_pos c_8] at hG
        have em_38_15 : (yBl (mm.1 13) (mm.2 14) (mm.1 15)) = x := by exact hG.symm
        have hP : va_P D vwCl (wM a cI cZ (mS mm 15 x)) H := hP
        have hD : va_D A (wM a cI cZ (mS mm 15 x)) := hD
        have eM_38 : (mS mm 15 (yBl (mm.1 13) (mm.2 14) (mm.1 15))) = (mS mm 15 x) := (mS_c rfl em_38_15)
        rw [← eM_38] at hP hD
        have hP : va_P D vwCl (wM a cI cZ (mS mm 15 (yBl (mm.1 13) (mm.2 14) (mm.1 15)))) H := hP
        have hD : va_D A (wM a cI cZ (mS mm 15 (yBl (mm.1 13) (mm.2 14) (mm.1 15)))) := hD
        exact lf_v hx hb hr hlocks hQ (mS mm 15 (yBl (mm.1 13) (mm.2 14) (mm.1 15))) hP hD hS dX10_blanks_38 rfl
      · have i_8 := i_nle c_8
        rw [skP, if_neg c_8] at hG
        refine lv_aload_n hx hb dX10_blanks_11 rfl (lv_at hl 0 rfl) ?_
        refine va_get (D := D) (ci := 10) (v := .ref (a 14)) (C := RX10) (T := TX10) (N := 37) hx hb hts hin_10 hown hK hP 0 rfl rfl 14 (by decide) fl_38 (fun _ h9 => h9) rfl dX10_blanks_12 ?_
        refine lv_aload_n hx hb dX10_blanks_15 rfl (lv_at hl 0 rfl) ?_
        refine va_get (D := D) (ci := 10) (v := .int x) (C := RX10) (T := TX10) (N := 37) hx hb hts hin_10 hown hK hP 0 rfl rfl 15 (by decide) fl_82 (fun _ h9 => h9) rfl dX10_blanks_16 ?_
        refine va_iald (D := D) (f := (mm.2 14)) hx hb hK hP 10 0 rfl rfl (by exact vi_mk (by omega) (by omega)) dX10_blanks_19 ?_
        refine lv_bipush (v := 32) hx hb dX10_blanks_20 (by decide) ?_
        refine lv_icmp_ne (tgt := 38) hx hb dX10_blanks_22 (by decide) (fun c_22 => ?_) (fun c_22 => ?_)
        · have i_22 := i_ne c_22
          rw [(by decide : (32 : Int32).toInt = 32)] at i_22
          rw [if_neg c_22] at hG
          have em_38_15 : (yBl (mm.1 13) (mm.2 14) (mm.1 15)) = x := by exact hG.symm
          have hP : va_P D vwCl (wM a cI cZ (mS mm 15 x)) H := hP
          have hD : va_D A (wM a cI cZ (mS mm 15 x)) := hD
          have eM_38 : (mS mm 15 (yBl (mm.1 13) (mm.2 14) (mm.1 15))) = (mS mm 15 x) := (mS_c rfl em_38_15)
          rw [← eM_38] at hP hD
          have hP : va_P D vwCl (wM a cI cZ (mS mm 15 (yBl (mm.1 13) (mm.2 14) (mm.1 15)))) H := hP
          have hD : va_D A (wM a cI cZ (mS mm 15 (yBl (mm.1 13) (mm.2 14) (mm.1 15)))) := hD
          exact lf_v hx hb hr hlocks hQ (mS mm 15 (yBl (mm.1 13) (mm.2 14) (mm.1 15))) hP hD hS dX10_blanks_38 rfl
        · have i_22 := i_eq c_22
          rw [(by decide : (32 : Int32).toInt = 32)] at i_22
          rw [if_pos c_22] at hG
          have hx1 : (x + 1).toInt = x.toInt + 1 := by rw [ti_add (by rw [li_1]; omega) (by rw [li_1]; omega), li_1]
          refine lv_aload_n hx hb dX10_blanks_25 rfl (lv_at hl 0 rfl) ?_
          refine lv_dup hx hb dX10_blanks_26 rfl ?_
          refine va_get (D := D) (ci := 10) (v := .int x) (C := RX10) (T := TX10) (N := 37) hx hb hts hin_10 hown hK hP 0 rfl rfl 15 (by decide) fl_82 (fun _ h9 => h9) rfl dX10_blanks_27 ?_
          refine lv_iconst (v := 1) hx hb dX10_blanks_30 (by decide) ?_
          refine lv_iadd hx hb dX10_blanks_31 ?_
          refine va_put (D := D) (ci := 10) (v := .int (x + 1)) (ty := .int) (C := RX10) (T := TX10) (N := 37) hx hb hts hin_10 tyX10 tyX10_ok nmX10 hown hK hP hD hS 0 rfl rfl 15 (by decide) fl_82 (fun _ h9 => h9) rfl (by decide +kernel) rfl rfl (Nat.le_of_ble_eq_true rfl) dX10_blanks_32 (fun H locs hP hD hS => ?_)
          have hP : va_P D vwCl (wM a cI cZ (mS mm 15 (x + 1))) H := hP
          have hD : va_D A (wM a cI cZ (mS mm 15 (x + 1))) := hD
          refine lv_goto (tgt := 0) hx hb dX10_blanks_35 (by decide) ?_
          have hP : va_P D vwCl (wM a cI cZ (mS mm 15 (x + 1))) H := hP
          have hD : va_D A (wM a cI cZ (mS mm 15 (x + 1))) := hD
          exact LB_0 (x + 1) (by omega) (by omega) (hG) H locs hP hD hS ls (lv_sub hl [0] rfl)
  have hP : va_P D vwCl (wM a cI cZ (mS mm 15 (mm.1 15))) H := hP
  have hD : va_D A (wM a cI cZ (mS mm 15 (mm.1 15))) := hD
  exact LB_0 101 (mm.1 15) (by omega) (by omega) (rfl) H locs hP hD hS ls (lv_sub hl [0] rfl)
abbrev rm_X10_fails : Room := { frames := 0, cells := 0, slots := 0, locals := 0 }
set_option maxHeartbeats 4000000 in
set_option maxRecDepth 100000 in
theorem c_X10_fails (l : Launch) (D : va_G) (cI cJ cZ : ClassId) (a : Nat → Nat) (sz : Nat) (mm : MS) : Met l yX10_fails wsX10_fails rm_X10_fails (va_Pc [.ref (a 0)] (PU D (tyL cI cJ cZ) (wM a cI cZ mm) sz)) (va_Qi (fun (rz : Int32) (uz : MS) => rz = bI (false) ∧ uz = (mS mm 19 (mm.1 16))) (fun uz => BU D (wM a cI cZ uz) (va_A (wM a cI cZ mm) sz)) (va_A (wM a cI cZ mm) sz)) 0 0 (va_A (wM a cI cZ mm) sz) := by
  refine en (own := RX10) (Qc := fun A => va_Qi (fun (rz : Int32) (uz : MS) => rz = bI (false) ∧ uz = (mS mm 19 (mm.1 16))) (fun uz => BU D (wM a cI cZ uz) A) A) (by decide) rfl (Nat.le_of_ble_eq_true rfl) rfl ?_
  intro p e s m args below meth c A Q H locs ls hx hb hr hml hown hts hlocks hname hA hN hE hK hQ hP hD hS hl
  have hl : lv_has ls 1 [(0, .ref (a 0))] := hl
  have fl_88 := hts (.fieldLink RX10 88 "DanceStaffsModel" "tokenAt" "I") (by decide +kernel)
  have hin_10 : ∀ w ∈ u_ws RX10 TX10 37, w ∈ wsX10_fails := by decide +kernel
  have fl_105 := hts (.fieldLink RX10 105 "DanceStaffsModel" "faultAt" "I") (by decide +kernel)
  refine lv_aload_n hx hb dX10_fails_0 rfl (lv_at hl 0 rfl) ?_
  refine lv_aload_n hx hb dX10_fails_1 rfl (lv_at hl 0 rfl) ?_
  refine va_get (D := D) (ci := 10) (v := .int (mm.1 16)) (C := RX10) (T := TX10) (N := 37) hx hb hts hin_10 hown hK hP 0 rfl rfl 16 (by decide) fl_88 (fun _ h9 => h9) rfl dX10_fails_2 ?_
  refine va_put (D := D) (ci := 10) (v := .int (mm.1 16)) (ty := .int) (C := RX10) (T := TX10) (N := 37) hx hb hts hin_10 tyX10 tyX10_ok nmX10 hown hK hP hD hS 0 rfl rfl 19 (by decide) fl_105 (fun _ h9 => h9) rfl (by decide +kernel) rfl rfl (Nat.le_of_ble_eq_true rfl) dX10_fails_5 (fun H locs hP hD hS => ?_)
  have hP : va_P D vwCl (wM a cI cZ (mS mm 19 (mm.1 16))) H := hP
  have hD : va_D A (wM a cI cZ (mS mm 19 (mm.1 16))) := hD
  refine lv_iconst (v := 0) hx hb dX10_fails_8 (by decide) ?_
  have hP : va_P D vwCl (wM a cI cZ (mS mm 19 (mm.1 16))) H := hP
  have hD : va_D A (wM a cI cZ (mS mm 19 (mm.1 16))) := hD
  exact lf_z hx hb hr hlocks hQ (mS mm 19 (mm.1 16)) hP hD hS dX10_fails_9 (by first | rfl | (rw [bI_f]; exact bI_n _) | exact bI_n _) ⟨(by first | with_reducible rfl | (simp only [↓reduceIte, bI_t, bI_f, reduceCtorEq]; done) | (subst_vars; simp only [↓reduceIte, bI_t, bI_f, reduceCtorEq]; done) | (simp [bI_t, bI_f]; done)), rfl⟩
abbrev rm_X10_isDancer : Room := { frames := 1, cells := 0, slots := 0, locals := 22 }
set_option maxHeartbeats 4000000 in
set_option maxRecDepth 100000 in
theorem c_X10_isDancer (l : Launch) (D : va_G) (cI cJ cZ : ClassId) (a : Nat → Nat) (sz : Nat) (mm : MS) (d : Int32) : Met l yX10_isDancer wsX10_isDancer rm_X10_isDancer (va_Pc [.ref (a 0), .int d] (PU D (tyL cI cJ cZ) (wM a cI cZ mm) sz)) (va_Qi (fun (rz : Int32) (_ : Unit) => rz = bI (inR d 0 ((mm.1 0) - 1))) (fun uz => BU D (wM a cI cZ mm) (va_A (wM a cI cZ mm) sz)) (va_A (wM a cI cZ mm) sz)) 0 0 (va_A (wM a cI cZ mm) sz) := by
  refine en (own := RX10) (Qc := fun A => va_Qi (fun (rz : Int32) (_ : Unit) => rz = bI (inR d 0 ((mm.1 0) - 1))) (fun uz => BU D (wM a cI cZ mm) A) A) (by decide) rfl (Nat.le_of_ble_eq_true rfl) rfl ?_
  intro p e s m args below meth c A Q H locs ls hx hb hr hml hown hts hlocks hname hA hN hE hK hQ hP hD hS hl
  have hl : lv_has ls 2 [(0, .ref (a 0)), (1, .int d)] := hl
  have fl_127 := hts (.fieldLink RX10 127 "DanceStaffsModel" "many" "I") (by decide +kernel)
  have hin_10 : ∀ w ∈ u_ws RX10 TX10 37, w ∈ wsX10_isDancer := by decide +kernel
  refine lv_iload_n hx hb dX10_isDancer_0 rfl (lv_at hl 1 rfl) ?_
  refine lv_iconst (v := 0) hx hb dX10_isDancer_1 (by decide) ?_
  refine lv_aload_n hx hb dX10_isDancer_2 rfl (lv_at hl 0 rfl) ?_
  refine va_get (D := D) (ci := 10) (v := .int (mm.1 0)) (C := RX10) (T := TX10) (N := 37) hx hb hts hin_10 hown hK hP 0 rfl rfl 0 (by decide) fl_127 (fun _ h9 => h9) rfl dX10_isDancer_3 ?_
  refine lv_iconst (v := 1) hx hb dX10_isDancer_6 (by decide) ?_
  refine lv_isub hx hb dX10_isDancer_7 ?_
  refine st_i (va_runS (As := [.int d, .int 0, .int ((mm.1 0) - 1)]) (rest := []) ⟨hx, hb, hml, hown, hts⟩ (c_X10_in l D cI cJ cZ H.size d 0 ((mm.1 0) - 1)) (va_cwS 3 hts gX10_isDancer_X10_in rfl rfl rfl (by decide +kernel) ⟨Nat.le_of_ble_eq_true rfl, Nat.le_of_ble_eq_true rfl⟩) (pr_S hP hD hK hN hE hS hA [] (by decide) rfl) rfl rfl hl.1 rfl (lv_room (Nat.le_of_ble_eq_true rfl)) dX10_isDancer_8 ⟨Nat.zero_le _, Nat.zero_le _⟩) hP hS hA (fun r_8 u_8 H locs hw_8 hP hS => ?_)
  have hr_8 := hw_8
  exact lf_z hx hb hr hlocks hQ () hP hD hS dX10_isDancer_11 (by first | rfl | (rw [hr_8]; exact bI_n _) | exact bI_n _) (by exact hr_8)
abbrev rm_X10_sizeOf : Room := { frames := 0, cells := 0, slots := 0, locals := 0 }
set_option maxHeartbeats 4000000 in
set_option maxRecDepth 100000 in
theorem c_X10_sizeOf (l : Launch) (D : va_G) (cI cJ cZ : ClassId) (a : Nat → Nat) (sz : Nat) (mm : MS) (d : Int32) (h0d : 0 ≤ d.toInt) (h3d : d.toInt < 3) : Met l yX10_sizeOf wsX10_sizeOf rm_X10_sizeOf (va_Pc [.ref (a 0), .int d] (PU D (tyL cI cJ cZ) (wM a cI cZ mm) sz)) (va_Qi (fun (rz : Int32) (_ : Unit) => rz = ((mm.2 4) (11 * d).toNatClampNeg)) (fun uz => BU D (wM a cI cZ mm) (va_A (wM a cI cZ mm) sz)) (va_A (wM a cI cZ mm) sz)) 0 0 (va_A (wM a cI cZ mm) sz) := by
  refine en (own := RX10) (Qc := fun A => va_Qi (fun (rz : Int32) (_ : Unit) => rz = ((mm.2 4) (11 * d).toNatClampNeg)) (fun uz => BU D (wM a cI cZ mm) A) A) (by decide) rfl (Nat.le_of_ble_eq_true rfl) rfl ?_
  intro p e s m args below meth c A Q H locs ls hx hb hr hml hown hts hlocks hname hA hN hE hK hQ hP hD hS hl
  have hl : lv_has ls 2 [(0, .ref (a 0)), (1, .int d)] := hl
  have fl_19 := hts (.fieldLink RX10 19 "DanceStaffsModel" "now" "[I") (by decide +kernel)
  have hin_10 : ∀ w ∈ u_ws RX10 TX10 37, w ∈ wsX10_sizeOf := by decide +kernel
  refine lv_aload_n hx hb dX10_sizeOf_0 rfl (lv_at hl 0 rfl) ?_
  refine va_get (D := D) (ci := 10) (v := .ref (a 4)) (C := RX10) (T := TX10) (N := 37) hx hb hts hin_10 hown hK hP 0 rfl rfl 4 (by decide) fl_19 (fun _ h9 => h9) rfl dX10_sizeOf_1 ?_
  refine lv_bipush (v := 11) hx hb dX10_sizeOf_4 (by decide) ?_
  refine lv_iload_n hx hb dX10_sizeOf_6 rfl (lv_at hl 1 rfl) ?_
  refine lv_imul hx hb dX10_sizeOf_7 ?_
  refine va_iald (D := D) (f := (mm.2 4)) hx hb hK hP 4 0 rfl rfl (by have q0 : (11 : Int32).toInt = 11 := (by decide); have q1 : (11 * d).toInt = 11 * d.toInt := (by rw [ti_mul (by rw [q0]; omega) (by rw [q0]; omega), q0]); exact vi_mk (by rw [q1]; omega) (by rw [q1]; omega)) dX10_sizeOf_8 ?_
  exact lf_i hx hb hr hlocks hQ () hP hD hS dX10_sizeOf_9 (by first | with_reducible rfl | (simp only [↓reduceIte, bI_t, bI_f, reduceCtorEq]; done) | (subst_vars; simp only [↓reduceIte, bI_t, bI_f, reduceCtorEq]; done) | (simp [bI_t, bI_f]; done))
abbrev rm_X10_signOf : Room := { frames := 0, cells := 0, slots := 0, locals := 0 }
set_option maxHeartbeats 4000000 in
set_option maxRecDepth 100000 in
theorem c_X10_signOf (l : Launch) (D : va_G) (cI cJ cZ : ClassId) (a : Nat → Nat) (sz : Nat) (mm : MS) (d : Int32) (b : Int32) (h0d : 0 ≤ d.toInt) (h3d : d.toInt < 3) (h0b : 0 ≤ b.toInt) (h9b : b.toInt < 10) : Met l yX10_signOf wsX10_signOf rm_X10_signOf (va_Pc [.ref (a 0), .int d, .int b] (PU D (tyL cI cJ cZ) (wM a cI cZ mm) sz)) (va_Qi (fun (rz : Int32) (_ : Unit) => rz = ((mm.2 4) (11 * d + 1 + b).toNatClampNeg)) (fun uz => BU D (wM a cI cZ mm) (va_A (wM a cI cZ mm) sz)) (va_A (wM a cI cZ mm) sz)) 0 0 (va_A (wM a cI cZ mm) sz) := by
  refine en (own := RX10) (Qc := fun A => va_Qi (fun (rz : Int32) (_ : Unit) => rz = ((mm.2 4) (11 * d + 1 + b).toNatClampNeg)) (fun uz => BU D (wM a cI cZ mm) A) A) (by decide) rfl (Nat.le_of_ble_eq_true rfl) rfl ?_
  intro p e s m args below meth c A Q H locs ls hx hb hr hml hown hts hlocks hname hA hN hE hK hQ hP hD hS hl
  have hl : lv_has ls 3 [(0, .ref (a 0)), (1, .int d), (2, .int b)] := hl
  have fl_19 := hts (.fieldLink RX10 19 "DanceStaffsModel" "now" "[I") (by decide +kernel)
  have hin_10 : ∀ w ∈ u_ws RX10 TX10 37, w ∈ wsX10_signOf := by decide +kernel
  refine lv_aload_n hx hb dX10_signOf_0 rfl (lv_at hl 0 rfl) ?_
  refine va_get (D := D) (ci := 10) (v := .ref (a 4)) (C := RX10) (T := TX10) (N := 37) hx hb hts hin_10 hown hK hP 0 rfl rfl 4 (by decide) fl_19 (fun _ h9 => h9) rfl dX10_signOf_1 ?_
  refine lv_bipush (v := 11) hx hb dX10_signOf_4 (by decide) ?_
  refine lv_iload_n hx hb dX10_signOf_6 rfl (lv_at hl 1 rfl) ?_
  refine lv_imul hx hb dX10_signOf_7 ?_
  refine lv_iconst (v := 1) hx hb dX10_signOf_8 (by decide) ?_
  refine lv_iadd hx hb dX10_signOf_9 ?_
  refine lv_iload_n hx hb dX10_signOf_10 rfl (lv_at hl 2 rfl) ?_
  refine lv_iadd hx hb dX10_signOf_11 ?_
  refine va_iald (D := D) (f := (mm.2 4)) hx hb hK hP 4 0 rfl rfl (by have q0 : (11 : Int32).toInt = 11 := (by decide); have q1 : (11 * d).toInt = 11 * d.toInt := (by rw [ti_mul (by rw [q0]; omega) (by rw [q0]; omega), q0]); have q2 : (1 : Int32).toInt = 1 := (by decide); have q3 : ((11 * d) + 1).toInt = (11 * d.toInt) + 1 := (by rw [ti_add (by rw [q1, q2]; omega) (by rw [q1, q2]; omega), q1, q2]); have q4 : (((11 * d) + 1) + b).toInt = ((11 * d.toInt) + 1) + b.toInt := (by rw [ti_add (by rw [q3]; omega) (by rw [q3]; omega), q3]); exact vi_mk (by rw [q4]; omega) (by rw [q4]; omega)) dX10_signOf_12 ?_
  exact lf_i hx hb hr hlocks hQ () hP hD hS dX10_signOf_13 (by first | with_reducible rfl | (simp only [↓reduceIte, bI_t, bI_f, reduceCtorEq]; done) | (subst_vars; simp only [↓reduceIte, bI_t, bI_f, reduceCtorEq]; done) | (simp [bI_t, bI_f]; done))
abbrev rm_X10_leads : Room := { frames := 2, cells := 0, slots := 0, locals := 41 }
set_option maxHeartbeats 4000000 in
set_option maxRecDepth 100000 in
theorem c_X10_leads (l : Launch) (D : va_G) (cI cJ cZ : ClassId) (a : Nat → Nat) (sz : Nat) (mm : MS) (x : Int32) (y : Int32) (w : Int32) (z : Int32) (g : Int32) : Met l yX10_leads wsX10_leads rm_X10_leads (va_Pc [.ref (a 0), .int x, .int y, .int w, .int z, .int g] (PU D (tyL cI cJ cZ) (wM a cI cZ mm) sz)) (va_Qi (fun (rz : Int32) (uz : MS) => rz = bI (ldB x y w z g) ∧ uz = (mS (mS (mS (mS mm 25 (ldX x w g)) 26 (ldY y w g)) 27 (ldL w g)) 28 (ldW z g))) (fun uz => BU D (wM a cI cZ uz) (va_A (wM a cI cZ mm) sz)) (va_A (wM a cI cZ mm) sz)) 0 0 (va_A (wM a cI cZ mm) sz) := by
  refine en (own := RX10) (Qc := fun A => va_Qi (fun (rz : Int32) (uz : MS) => rz = bI (ldB x y w z g) ∧ uz = (mS (mS (mS (mS mm 25 (ldX x w g)) 26 (ldY y w g)) 27 (ldL w g)) 28 (ldW z g))) (fun uz => BU D (wM a cI cZ uz) A) A) (by decide) rfl (Nat.le_of_ble_eq_true rfl) rfl ?_
  intro p e s m args below meth c A Q H locs ls hx hb hr hml hown hts hlocks hname hA hN hE hK hQ hP hD hS hl
  have hl : lv_has ls 8 [(0, .ref (a 0)), (1, .int x), (2, .int y), (3, .int w), (4, .int z), (5, .int g)] := hl
  have fl_140 := hts (.fieldLink RX10 140 "DanceStaffsModel" "toX" "I") (by decide +kernel)
  have hin_10 : ∀ w ∈ u_ws RX10 TX10 37, w ∈ wsX10_leads := by decide +kernel
  have fl_143 := hts (.fieldLink RX10 143 "DanceStaffsModel" "toY" "I") (by decide +kernel)
  have fl_146 := hts (.fieldLink RX10 146 "DanceStaffsModel" "toLooks" "I") (by decide +kernel)
  have fl_149 := hts (.fieldLink RX10 149 "DanceStaffsModel" "toWeight" "I") (by decide +kernel)
  refine lv_aload_n hx hb dX10_leads_0 rfl (lv_at hl 0 rfl) ?_
  refine lv_iload_n hx hb dX10_leads_1 rfl (lv_at hl 1 rfl) ?_
  refine va_put (D := D) (ci := 10) (v := .int x) (ty := .int) (C := RX10) (T := TX10) (N := 37) hx hb hts hin_10 tyX10 tyX10_ok nmX10 hown hK hP hD hS 0 rfl rfl 25 (by decide) fl_140 (fun _ h9 => h9) rfl (by decide +kernel) rfl rfl (Nat.le_of_ble_eq_true rfl) dX10_leads_2 (fun H locs hP hD hS => ?_)
  have hP : va_P D vwCl (wM a cI cZ (mS mm 25 x)) H := hP
  have hD : va_D A (wM a cI cZ (mS mm 25 x)) := hD
  refine lv_aload_n hx hb dX10_leads_5 rfl (lv_at hl 0 rfl) ?_
  refine lv_iload_n hx hb dX10_leads_6 rfl (lv_at hl 2 rfl) ?_
  refine va_put (D := D) (ci := 10) (v := .int y) (ty := .int) (C := RX10) (T := TX10) (N := 37) hx hb hts hin_10 tyX10 tyX10_ok nmX10 hown hK hP hD hS 0 rfl rfl 26 (by decide) fl_143 (fun _ h9 => h9) rfl (by decide +kernel) rfl rfl (Nat.le_of_ble_eq_true rfl) dX10_leads_7 (fun H locs hP hD hS => ?_)
  have hP : va_P D vwCl (wM a cI cZ (mS (mS mm 25 x) 26 y)) H := hP
  have hD : va_D A (wM a cI cZ (mS (mS mm 25 x) 26 y)) := hD
  refine lv_aload_n hx hb dX10_leads_10 rfl (lv_at hl 0 rfl) ?_
  refine lv_iload_n hx hb dX10_leads_11 rfl (lv_at hl 3 rfl) ?_
  refine va_put (D := D) (ci := 10) (v := .int w) (ty := .int) (C := RX10) (T := TX10) (N := 37) hx hb hts hin_10 tyX10 tyX10_ok nmX10 hown hK hP hD hS 0 rfl rfl 27 (by decide) fl_146 (fun _ h9 => h9) rfl (by decide +kernel) rfl rfl (Nat.le_of_ble_eq_true rfl) dX10_leads_12 (fun H locs hP hD hS => ?_)
  have hP : va_P D vwCl (wM a cI cZ (mS (mS (mS mm 25 x) 26 y) 27 w)) H := hP
  have hD : va_D A (wM a cI cZ (mS (mS (mS mm 25 x) 26 y) 27 w)) := hD
  refine lv_aload_n hx hb dX10_leads_15 rfl (lv_at hl 0 rfl) ?_
  refine lv_iload hx hb dX10_leads_16 (lv_at hl 4 rfl) ?_
  refine va_put (D := D) (ci := 10) (v := .int z) (ty := .int) (C := RX10) (T := TX10) (N := 37) hx hb hts hin_10 tyX10 tyX10_ok nmX10 hown hK hP hD hS 0 rfl rfl 28 (by decide) fl_149 (fun _ h9 => h9) rfl (by decide +kernel) rfl rfl (Nat.le_of_ble_eq_true rfl) dX10_leads_18 (fun H locs hP hD hS => ?_)
  have hP : va_P D vwCl (wM a cI cZ (mS (mS (mS (mS mm 25 x) 26 y) 27 w) 28 z)) H := hP
  have hD : va_D A (wM a cI cZ (mS (mS (mS (mS mm 25 x) 26 y) 27 w) 28 z)) := hD
  refine lv_iload hx hb dX10_leads_21 (lv_at hl 5 rfl) ?_
  refine lv_bipush (v := 26) hx hb dX10_leads_23 (by decide) ?_
  refine lv_icmp_lt (tgt := 47) hx hb dX10_leads_25 (by decide) (fun c_25 => ?_) (fun c_25 => ?_)
  · have i_25 := i_lt c_25
    rw [(by decide : (26 : Int32).toInt = 26)] at i_25
    refine lv_iload hx hb dX10_leads_47 (lv_at hl 5 rfl) ?_
    refine lv_iconst (v := 2) hx hb dX10_leads_49 (by decide) ?_
    refine lv_icmp_lt (tgt := 152) hx hb dX10_leads_50 (by decide) (fun c_50 => ?_) (fun c_50 => ?_)
    · have i_50 := i_lt c_50
      rw [(by decide : (2 : Int32).toInt = 2)] at i_50
      refine lv_iload hx hb dX10_leads_152 (lv_at hl 5 rfl) ?_
      refine lv_iconst (v := 1) hx hb dX10_leads_154 (by decide) ?_
      refine lv_icmp_ne (tgt := 163) hx hb dX10_leads_155 (by decide) (fun c_155 => ?_) (fun c_155 => ?_)
      · have i_155 := i_ne c_155
        rw [(by decide : (1 : Int32).toInt = 1)] at i_155
        refine lv_iconst (v := 1) hx hb dX10_leads_163 (by decide) ?_
        have em_164_25 : (ldX x w g) = x := by simp only [ldB, ldX, ldY, ldL, ldW, ldG, ldK, ldD, if_pos c_25, if_pos c_50, if_neg c_155, ↓reduceIte, reduceCtorEq]
        have em_164_26 : (ldY y w g) = y := by simp only [ldB, ldX, ldY, ldL, ldW, ldG, ldK, ldD, if_pos c_25, if_pos c_50, if_neg c_155, ↓reduceIte, reduceCtorEq]
        have em_164_27 : (ldL w g) = w := by simp only [ldB, ldX, ldY, ldL, ldW, ldG, ldK, ldD, if_pos c_25, if_pos c_50, if_neg c_155, ↓reduceIte, reduceCtorEq]
        have em_164_28 : (ldW z g) = z := by simp only [ldB, ldX, ldY, ldL, ldW, ldG, ldK, ldD, if_pos c_25, if_pos c_50, if_neg c_155, ↓reduceIte, reduceCtorEq]
        have hP : va_P D vwCl (wM a cI cZ (mS (mS (mS (mS mm 25 x) 26 y) 27 w) 28 z)) H := hP
        have hD : va_D A (wM a cI cZ (mS (mS (mS (mS mm 25 x) 26 y) 27 w) 28 z)) := hD
        have eM_164 : (mS (mS (mS (mS mm 25 (ldX x w g)) 26 (ldY y w g)) 27 (ldL w g)) 28 (ldW z g)) = (mS (mS (mS (mS mm 25 x) 26 y) 27 w) 28 z) := (mS_c (mS_c (mS_c (mS_c rfl em_164_25) em_164_26) em_164_27) em_164_28)
        rw [← eM_164] at hP hD
        have hP : va_P D vwCl (wM a cI cZ (mS (mS (mS (mS mm 25 (ldX x w g)) 26 (ldY y w g)) 27 (ldL w g)) 28 (ldW z g))) H := hP
        have hD : va_D A (wM a cI cZ (mS (mS (mS (mS mm 25 (ldX x w g)) 26 (ldY y w g)) 27 (ldL w g)) 28 (ldW z g))) := hD
        exact lf_z hx hb hr hlocks hQ (mS (mS (mS (mS mm 25 (ldX x w g)) 26 (ldY y w g)) 27 (ldL w g)) 28 (ldW z g)) hP hD hS dX10_leads_164 (by first | rfl | (rw [bI_f]; exact bI_n _) | exact bI_n _) ⟨(by first | with_reducible rfl | (simp only [ldB, ldX, ldY, ldL, ldW, ldG, ldK, ldD, if_pos c_25, if_pos c_50, if_neg c_155, ↓reduceIte, bI_t, bI_f, reduceCtorEq]; done) | (subst_vars; simp only [ldB, ldX, ldY, ldL, ldW, ldG, ldK, ldD, if_pos c_25, if_pos c_50, if_neg c_155, ↓reduceIte, bI_t, bI_f, reduceCtorEq]; done) | (simp [ldB, ldX, ldY, ldL, ldW, ldG, ldK, ldD, c_25, c_50, c_155, bI_t, bI_f]; done)), rfl⟩
      · have i_155 := i_eq c_155
        rw [(by decide : (1 : Int32).toInt = 1)] at i_155
        refine lv_aload_n hx hb dX10_leads_158 rfl (lv_at hl 0 rfl) ?_
        refine lv_iconst (v := 2) hx hb dX10_leads_159 (by decide) ?_
        refine va_put (D := D) (ci := 10) (v := .int 2) (ty := .int) (C := RX10) (T := TX10) (N := 37) hx hb hts hin_10 tyX10 tyX10_ok nmX10 hown hK hP hD hS 0 rfl rfl 28 (by decide) fl_149 (fun _ h9 => h9) rfl (by decide +kernel) rfl rfl (Nat.le_of_ble_eq_true rfl) dX10_leads_160 (fun H locs hP hD hS => ?_)
        have hP : va_P D vwCl (wM a cI cZ (mS (mS (mS (mS mm 25 x) 26 y) 27 w) 28 2)) H := hP
        have hD : va_D A (wM a cI cZ (mS (mS (mS (mS mm 25 x) 26 y) 27 w) 28 2)) := hD
        refine lv_iconst (v := 1) hx hb dX10_leads_163 (by decide) ?_
        have em_164_25 : (ldX x w g) = x := by simp only [ldB, ldX, ldY, ldL, ldW, ldG, ldK, ldD, if_pos c_25, if_pos c_50, if_pos c_155, ↓reduceIte, reduceCtorEq]
        have em_164_26 : (ldY y w g) = y := by simp only [ldB, ldX, ldY, ldL, ldW, ldG, ldK, ldD, if_pos c_25, if_pos c_50, if_pos c_155, ↓reduceIte, reduceCtorEq]
        have em_164_27 : (ldL w g) = w := by simp only [ldB, ldX, ldY, ldL, ldW, ldG, ldK, ldD, if_pos c_25, if_pos c_50, if_pos c_155, ↓reduceIte, reduceCtorEq]
        have em_164_28 : (ldW z g) = 2 := by simp only [ldB, ldX, ldY, ldL, ldW, ldG, ldK, ldD, if_pos c_25, if_pos c_50, if_pos c_155, ↓reduceIte, reduceCtorEq]
        have hP : va_P D vwCl (wM a cI cZ (mS (mS (mS (mS mm 25 x) 26 y) 27 w) 28 2)) H := hP
        have hD : va_D A (wM a cI cZ (mS (mS (mS (mS mm 25 x) 26 y) 27 w) 28 2)) := hD
        have eM_164 : (mS (mS (mS (mS mm 25 (ldX x w g)) 26 (ldY y w g)) 27 (ldL w g)) 28 (ldW z g)) = (mS (mS (mS (mS mm 25 x) 26 y) 27 w) 28 2) := (mS_c (mS_c (mS_c (mS_c rfl em_164_25) em_164_26) em_164_27) em_164_28)
        rw [← eM_164] at hP hD
        have hP : va_P D vwCl (wM a cI cZ (mS (mS (mS (mS mm 25 (ldX x w g)) 26 (ldY y w g)) 27 (ldL w g)) 28 (ldW z g))) H := hP
        have hD : va_D A (wM a cI cZ (mS (mS (mS (mS mm 25 (ldX x w g)) 26 (ldY y w g)) 27 (ldL w g)) 28 (ldW z g))) := hD
        exact lf_z hx hb hr hlocks hQ (mS (mS (mS (mS mm 25 (ldX x w g)) 26 (ldY y w g)) 27 (ldL w g)) 28 (ldW z g)) hP hD hS dX10_leads_164 (by first | rfl | (rw [bI_f]; exact bI_n _) | exact bI_n _) ⟨(by first | with_reducible rfl | (simp only [ldB, ldX, ldY, ldL, ldW, ldG, ldK, ldD, if_pos c_25, if_pos c_50, if_pos c_155, ↓reduceIte, bI_t, bI_f, reduceCtorEq]; done) | (subst_vars; simp only [ldB, ldX, ldY, ldL, ldW, ldG, ldK, ldD, if_pos c_25, if_pos c_50, if_pos c_155, ↓reduceIte, bI_t, bI_f, reduceCtorEq]; done) | (simp [ldB, ldX, ldY, ldL, ldW, ldG, ldK, ldD, c_25, c_50, c_155, bI_t, bI_f]; done)), rfl⟩
    · have i_50 := i_nlt c_50
      rw [(by decide : (2 : Int32).toInt = 2)] at i_50
      refine lv_iload hx hb dX10_leads_53 (lv_at hl 5 rfl) ?_
      refine lv_iconst (v := 2) hx hb dX10_leads_55 (by decide) ?_
      refine lv_isub hx hb dX10_leads_56 ?_
      refine lv_bipush (v := 8) hx hb dX10_leads_57 (by decide) ?_
      refine lv_idiv hx hb dX10_leads_59 (by decide) ?_
      refine lv_istore (lv' := [(6, .int ((g - 2) / 8)), (0, .ref (a 0)), (1, .int x), (2, .int y), (3, .int w), (4, .int z), (5, .int g)]) hx hb dX10_leads_60 hl (by decide) rfl (fun ls hl => ?_)
      refine lv_iload_n hx hb dX10_leads_62 rfl (lv_at hl 4 rfl) ?_
      refine lv_iload hx hb dX10_leads_63 (lv_at hl 6 rfl) ?_
      refine lv_iconst (v := 2) hx hb dX10_leads_65 (by decide) ?_
      refine lv_isub hx hb dX10_leads_66 ?_
      refine lv_bipush (v := 8) hx hb dX10_leads_67 (by decide) ?_
      refine lv_irem hx hb dX10_leads_69 (by decide) ?_
      refine lv_iadd hx hb dX10_leads_70 ?_
      refine lv_istore (lv' := [(7, .int (w + ((g - 2) - (g - 2) / 8 * 8))), (6, .int ((g - 2) / 8)), (0, .ref (a 0)), (1, .int x), (2, .int y), (3, .int w), (4, .int z), (5, .int g)]) hx hb dX10_leads_71 hl (by decide) rfl (fun ls hl => ?_)
      refine lv_aload_n hx hb dX10_leads_73 rfl (lv_at hl 2 rfl) ?_
      refine lv_dup hx hb dX10_leads_74 rfl ?_
      refine va_get (D := D) (ci := 10) (v := .int x) (C := RX10) (T := TX10) (N := 37) hx hb hts hin_10 hown hK hP 0 rfl rfl 25 (by decide) fl_140 (fun _ h9 => h9) rfl dX10_leads_75 ?_
      refine lv_iload hx hb dX10_leads_78 (lv_at hl 0 rfl) ?_
      refine st_i (va_runS (As := [.int (w + ((g - 2) - (g - 2) / 8 * 8))]) (rest := [.int x, .ref (a 0)]) ⟨hx, hb, hml, hown, hts⟩ (c_X10_stepX l D cI cJ cZ H.size (w + ((g - 2) - (g - 2) / 8 * 8))) (va_cwS 1 hts gX10_leads_X10_stepX rfl rfl rfl (by decide +kernel) ⟨Nat.le_of_ble_eq_true rfl, Nat.le_of_ble_eq_true rfl⟩) (pr_S hP hD hK hN hE hS hA [] (by decide) rfl) rfl rfl hl.1 rfl (lv_room (Nat.le_of_ble_eq_true rfl)) dX10_leads_80 ⟨Nat.zero_le _, Nat.zero_le _⟩) hP hS hA (fun r_80 u_80 H locs hw_80 hP hS => ?_)
      have hr_80 := hw_80
      refine lv_iadd hx hb dX10_leads_83 ?_
      refine va_put (D := D) (ci := 10) (v := .int (x + r_80)) (ty := .int) (C := RX10) (T := TX10) (N := 37) hx hb hts hin_10 tyX10 tyX10_ok nmX10 hown hK hP hD hS 0 rfl rfl 25 (by decide) fl_140 (fun _ h9 => h9) rfl (by decide +kernel) rfl rfl (Nat.le_of_ble_eq_true rfl) dX10_leads_84 (fun H locs hP hD hS => ?_)
      have hP : va_P D vwCl (wM a cI cZ (mS (mS (mS (mS mm 25 (x + r_80)) 26 y) 27 w) 28 z)) H := hP
      have hD : va_D A (wM a cI cZ (mS (mS (mS (mS mm 25 (x + r_80)) 26 y) 27 w) 28 z)) := hD
      refine lv_aload_n hx hb dX10_leads_87 rfl (lv_at hl 2 rfl) ?_
      refine lv_dup hx hb dX10_leads_88 rfl ?_
      refine va_get (D := D) (ci := 10) (v := .int y) (C := RX10) (T := TX10) (N := 37) hx hb hts hin_10 hown hK hP 0 rfl rfl 26 (by decide) fl_143 (fun _ h9 => h9) rfl dX10_leads_89 ?_
      refine lv_iload hx hb dX10_leads_92 (lv_at hl 0 rfl) ?_
      refine st_i (va_runS (As := [.int (w + ((g - 2) - (g - 2) / 8 * 8))]) (rest := [.int y, .ref (a 0)]) ⟨hx, hb, hml, hown, hts⟩ (c_X10_stepY l D cI cJ cZ H.size (w + ((g - 2) - (g - 2) / 8 * 8))) (va_cwS 1 hts gX10_leads_X10_stepY rfl rfl rfl (by decide +kernel) ⟨Nat.le_of_ble_eq_true rfl, Nat.le_of_ble_eq_true rfl⟩) (pr_S hP hD hK hN hE hS hA [] (by decide) rfl) rfl rfl hl.1 rfl (lv_room (Nat.le_of_ble_eq_true rfl)) dX10_leads_94 ⟨Nat.zero_le _, Nat.zero_le _⟩) hP hS hA (fun r_94 u_94 H locs hw_94 hP hS => ?_)
      have hr_94 := hw_94
      refine lv_iadd hx hb dX10_leads_97 ?_
      refine va_put (D := D) (ci := 10) (v := .int (y + r_94)) (ty := .int) (C := RX10) (T := TX10) (N := 37) hx hb hts hin_10 tyX10 tyX10_ok nmX10 hown hK hP hD hS 0 rfl rfl 26 (by decide) fl_143 (fun _ h9 => h9) rfl (by decide +kernel) rfl rfl (Nat.le_of_ble_eq_true rfl) dX10_leads_98 (fun H locs hP hD hS => ?_)
      have hP : va_P D vwCl (wM a cI cZ (mS (mS (mS (mS mm 25 (x + r_80)) 26 (y + r_94)) 27 w) 28 z)) H := hP
      have hD : va_D A (wM a cI cZ (mS (mS (mS (mS mm 25 (x + r_80)) 26 (y + r_94)) 27 w) 28 z)) := hD
      refine lv_aload_n hx hb dX10_leads_101 rfl (lv_at hl 2 rfl) ?_
      refine lv_iload hx hb dX10_leads_102 (lv_at hl 1 rfl) ?_
      refine va_put (D := D) (ci := 10) (v := .int ((g - 2) / 8)) (ty := .int) (C := RX10) (T := TX10) (N := 37) hx hb hts hin_10 tyX10 tyX10_ok nmX10 hown hK hP hD hS 0 rfl rfl 28 (by decide) fl_149 (fun _ h9 => h9) rfl (by decide +kernel) rfl rfl (Nat.le_of_ble_eq_true rfl) dX10_leads_104 (fun H locs hP hD hS => ?_)
      have hP : va_P D vwCl (wM a cI cZ (mS (mS (mS (mS mm 25 (x + r_80)) 26 (y + r_94)) 27 w) 28 ((g - 2) / 8))) H := hP
      have hD : va_D A (wM a cI cZ (mS (mS (mS (mS mm 25 (x + r_80)) 26 (y + r_94)) 27 w) 28 ((g - 2) / 8))) := hD
      refine lv_iload hx hb dX10_leads_107 (lv_at hl 1 rfl) ?_
      refine lv_iconst (v := 1) hx hb dX10_leads_109 (by decide) ?_
      refine lv_icmp_gt (tgt := 120) hx hb dX10_leads_110 (by decide) (fun c_110 => ?_) (fun c_110 => ?_)
      · have i_110 := i_lt c_110
        rw [(by decide : (1 : Int32).toInt = 1)] at i_110
        refine lv_aload_n hx hb dX10_leads_120 rfl (lv_at hl 2 rfl) ?_
        refine va_get (D := D) (ci := 10) (v := .int (x + r_80)) (C := RX10) (T := TX10) (N := 37) hx hb hts hin_10 hown hK hP 0 rfl rfl 25 (by decide) fl_140 (fun _ h9 => h9) rfl dX10_leads_121 ?_
        refine lv_iconst (v := 0) hx hb dX10_leads_124 (by decide) ?_
        refine lv_bipush (v := 6) hx hb dX10_leads_125 (by decide) ?_
        refine st_i (va_runS (As := [.int (x + r_80), .int 0, .int 6]) (rest := []) ⟨hx, hb, hml, hown, hts⟩ (c_X10_in l D cI cJ cZ H.size (x + r_80) 0 6) (va_cwS 3 hts gX10_leads_X10_in rfl rfl rfl (by decide +kernel) ⟨Nat.le_of_ble_eq_true rfl, Nat.le_of_ble_eq_true rfl⟩) (pr_S hP hD hK hN hE hS hA [] (by decide) rfl) rfl rfl hl.1 rfl (lv_room (Nat.le_of_ble_eq_true rfl)) dX10_leads_127 ⟨Nat.zero_le _, Nat.zero_le _⟩) hP hS hA (fun r_127 u_127 H locs hw_127 hP hS => ?_)
        have hr_127 := hw_127
        refine lv_if_eq (tgt := 150) hx hb dX10_leads_130 (by decide) (fun c_130 => ?_) (fun c_130 => ?_)
        · have b_130 : (inR (x + r_80) 0 6) = false := bI_0 (hr_127.symm.trans c_130)
          refine lv_iconst (v := 0) hx hb dX10_leads_150 (by decide) ?_
          have em_151_25 : (ldX x w g) = (x + r_80) := by simp only [ldB, ldX, ldY, ldL, ldW, ldG, ldK, ldD, if_pos c_25, if_neg c_50, if_pos c_110, b_130, ← hr_127, ← hr_94, ← hr_80, ↓reduceIte, reduceCtorEq]
          have em_151_26 : (ldY y w g) = (y + r_94) := by simp only [ldB, ldX, ldY, ldL, ldW, ldG, ldK, ldD, if_pos c_25, if_neg c_50, if_pos c_110, b_130, ← hr_127, ← hr_94, ← hr_80, ↓reduceIte, reduceCtorEq]
          have em_151_27 : (ldL w g) = w := by simp only [ldB, ldX, ldY, ldL, ldW, ldG, ldK, ldD, if_pos c_25, if_neg c_50, if_pos c_110, b_130, ← hr_127, ← hr_94, ← hr_80, ↓reduceIte, reduceCtorEq]
          have em_151_28 : (ldW z g) = ((g - 2) / 8) := by simp only [ldB, ldX, ldY, ldL, ldW, ldG, ldK, ldD, if_pos c_25, if_neg c_50, if_pos c_110, b_130, ← hr_127, ← hr_94, ← hr_80, ↓reduceIte, reduceCtorEq]
          have hP : va_P D vwCl (wM a cI cZ (mS (mS (mS (mS mm 25 (x + r_80)) 26 (y + r_94)) 27 w) 28 ((g - 2) / 8))) H := hP
          have hD : va_D A (wM a cI cZ (mS (mS (mS (mS mm 25 (x + r_80)) 26 (y + r_94)) 27 w) 28 ((g - 2) / 8))) := hD
          have eM_151 : (mS (mS (mS (mS mm 25 (ldX x w g)) 26 (ldY y w g)) 27 (ldL w g)) 28 (ldW z g)) = (mS (mS (mS (mS mm 25 (x + r_80)) 26 (y + r_94)) 27 w) 28 ((g - 2) / 8)) := (mS_c (mS_c (mS_c (mS_c rfl em_151_25) em_151_26) em_151_27) em_151_28)
          rw [← eM_151] at hP hD
          have hP : va_P D vwCl (wM a cI cZ (mS (mS (mS (mS mm 25 (ldX x w g)) 26 (ldY y w g)) 27 (ldL w g)) 28 (ldW z g))) H := hP
          have hD : va_D A (wM a cI cZ (mS (mS (mS (mS mm 25 (ldX x w g)) 26 (ldY y w g)) 27 (ldL w g)) 28 (ldW z g))) := hD
          exact lf_z hx hb hr hlocks hQ (mS (mS (mS (mS mm 25 (ldX x w g)) 26 (ldY y w g)) 27 (ldL w g)) 28 (ldW z g)) hP hD hS dX10_leads_151 (by first | rfl | (rw [bI_f]; exact bI_n _) | exact bI_n _) ⟨(by first | with_reducible rfl | (simp only [ldB, ldX, ldY, ldL, ldW, ldG, ldK, ldD, if_pos c_25, if_neg c_50, if_pos c_110, b_130, ← hr_127, ← hr_94, ← hr_80, ↓reduceIte, bI_t, bI_f, reduceCtorEq]; done) | (subst_vars; simp only [ldB, ldX, ldY, ldL, ldW, ldG, ldK, ldD, if_pos c_25, if_neg c_50, if_pos c_110, b_130, ↓reduceIte, bI_t, bI_f, reduceCtorEq]; done) | (simp [ldB, ldX, ldY, ldL, ldW, ldG, ldK, ldD, c_25, c_50, c_110, b_130, bI_t, bI_f]; done)), rfl⟩
        · have b_130 : (inR (x + r_80) 0 6) = true := bI_1 (fun q => c_130 (hr_127.trans q))
          refine lv_aload_n hx hb dX10_leads_133 rfl (lv_at hl 2 rfl) ?_
          refine va_get (D := D) (ci := 10) (v := .int (y + r_94)) (C := RX10) (T := TX10) (N := 37) hx hb hts hin_10 hown hK hP 0 rfl rfl 26 (by decide) fl_143 (fun _ h9 => h9) rfl dX10_leads_134 ?_
          refine lv_iconst (v := 0) hx hb dX10_leads_137 (by decide) ?_
          refine lv_bipush (v := 6) hx hb dX10_leads_138 (by decide) ?_
          refine st_i (va_runS (As := [.int (y + r_94), .int 0, .int 6]) (rest := []) ⟨hx, hb, hml, hown, hts⟩ (c_X10_in l D cI cJ cZ H.size (y + r_94) 0 6) (va_cwS 3 hts gX10_leads_X10_in rfl rfl rfl (by decide +kernel) ⟨Nat.le_of_ble_eq_true rfl, Nat.le_of_ble_eq_true rfl⟩) (pr_S hP hD hK hN hE hS hA [] (by decide) rfl) rfl rfl hl.1 rfl (lv_room (Nat.le_of_ble_eq_true rfl)) dX10_leads_140 ⟨Nat.zero_le _, Nat.zero_le _⟩) hP hS hA (fun r_140 u_140 H locs hw_140 hP hS => ?_)
          have hr_140 := hw_140
          refine lv_if_eq (tgt := 150) hx hb dX10_leads_143 (by decide) (fun c_143 => ?_) (fun c_143 => ?_)
          · have b_143 : (inR (y + r_94) 0 6) = false := bI_0 (hr_140.symm.trans c_143)
            refine lv_iconst (v := 0) hx hb dX10_leads_150 (by decide) ?_
            have em_151_25 : (ldX x w g) = (x + r_80) := by simp only [ldB, ldX, ldY, ldL, ldW, ldG, ldK, ldD, if_pos c_25, if_neg c_50, if_pos c_110, b_130, b_143, ← hr_140, ← hr_127, ← hr_94, ← hr_80, ↓reduceIte, reduceCtorEq]
            have em_151_26 : (ldY y w g) = (y + r_94) := by simp only [ldB, ldX, ldY, ldL, ldW, ldG, ldK, ldD, if_pos c_25, if_neg c_50, if_pos c_110, b_130, b_143, ← hr_140, ← hr_127, ← hr_94, ← hr_80, ↓reduceIte, reduceCtorEq]
            have em_151_27 : (ldL w g) = w := by simp only [ldB, ldX, ldY, ldL, ldW, ldG, ldK, ldD, if_pos c_25, if_neg c_50, if_pos c_110, b_130, b_143, ← hr_140, ← hr_127, ← hr_94, ← hr_80, ↓reduceIte, reduceCtorEq]
            have em_151_28 : (ldW z g) = ((g - 2) / 8) := by simp only [ldB, ldX, ldY, ldL, ldW, ldG, ldK, ldD, if_pos c_25, if_neg c_50, if_pos c_110, b_130, b_143, ← hr_140, ← hr_127, ← hr_94, ← hr_80, ↓reduceIte, reduceCtorEq]
            have hP : va_P D vwCl (wM a cI cZ (mS (mS (mS (mS mm 25 (x + r_80)) 26 (y + r_94)) 27 w) 28 ((g - 2) / 8))) H := hP
            have hD : va_D A (wM a cI cZ (mS (mS (mS (mS mm 25 (x + r_80)) 26 (y + r_94)) 27 w) 28 ((g - 2) / 8))) := hD
            have eM_151 : (mS (mS (mS (mS mm 25 (ldX x w g)) 26 (ldY y w g)) 27 (ldL w g)) 28 (ldW z g)) = (mS (mS (mS (mS mm 25 (x + r_80)) 26 (y + r_94)) 27 w) 28 ((g - 2) / 8)) := (mS_c (mS_c (mS_c (mS_c rfl em_151_25) em_151_26) em_151_27) em_151_28)
            rw [← eM_151] at hP hD
            have hP : va_P D vwCl (wM a cI cZ (mS (mS (mS (mS mm 25 (ldX x w g)) 26 (ldY y w g)) 27 (ldL w g)) 28 (ldW z g))) H := hP
            have hD : va_D A (wM a cI cZ (mS (mS (mS (mS mm 25 (ldX x w g)) 26 (ldY y w g)) 27 (ldL w g)) 28 (ldW z g))) := hD
            exact lf_z hx hb hr hlocks hQ (mS (mS (mS (mS mm 25 (ldX x w g)) 26 (ldY y w g)) 27 (ldL w g)) 28 (ldW z g)) hP hD hS dX10_leads_151 (by first | rfl | (rw [bI_f]; exact bI_n _) | exact bI_n _) ⟨(by first | with_reducible rfl | (simp only [ldB, ldX, ldY, ldL, ldW, ldG, ldK, ldD, if_pos c_25, if_neg c_50, if_pos c_110, b_130, b_143, ← hr_140, ← hr_127, ← hr_94, ← hr_80, ↓reduceIte, bI_t, bI_f, reduceCtorEq]; done) | (subst_vars; simp only [ldB, ldX, ldY, ldL, ldW, ldG, ldK, ldD, if_pos c_25, if_neg c_50, if_pos c_110, b_130, b_143, ↓reduceIte, bI_t, bI_f, reduceCtorEq]; done) | (simp [ldB, ldX, ldY, ldL, ldW, ldG, ldK, ldD, c_25, c_50, c_110, b_130, b_143, bI_t, bI_f]; done)), rfl⟩
          · have b_143 : (inR (y + r_94) 0 6) = true := bI_1 (fun q => c_143 (hr_140.trans q))
            refine lv_iconst (v := 1) hx hb dX10_leads_146 (by decide) ?_
            refine lv_goto (tgt := 151) hx hb dX10_leads_147 (by decide) ?_
            have em_151_25 : (ldX x w g) = (x + r_80) := by simp only [ldB, ldX, ldY, ldL, ldW, ldG, ldK, ldD, if_pos c_25, if_neg c_50, if_pos c_110, b_130, b_143, ← hr_140, ← hr_127, ← hr_94, ← hr_80, ↓reduceIte, reduceCtorEq]
            have em_151_26 : (ldY y w g) = (y + r_94) := by simp only [ldB, ldX, ldY, ldL, ldW, ldG, ldK, ldD, if_pos c_25, if_neg c_50, if_pos c_110, b_130, b_143, ← hr_140, ← hr_127, ← hr_94, ← hr_80, ↓reduceIte, reduceCtorEq]
            have em_151_27 : (ldL w g) = w := by simp only [ldB, ldX, ldY, ldL, ldW, ldG, ldK, ldD, if_pos c_25, if_neg c_50, if_pos c_110, b_130, b_143, ← hr_140, ← hr_127, ← hr_94, ← hr_80, ↓reduceIte, reduceCtorEq]
            have em_151_28 : (ldW z g) = ((g - 2) / 8) := by simp only [ldB, ldX, ldY, ldL, ldW, ldG, ldK, ldD, if_pos c_25, if_neg c_50, if_pos c_110, b_130, b_143, ← hr_140, ← hr_127, ← hr_94, ← hr_80, ↓reduceIte, reduceCtorEq]
            have hP : va_P D vwCl (wM a cI cZ (mS (mS (mS (mS mm 25 (x + r_80)) 26 (y + r_94)) 27 w) 28 ((g - 2) / 8))) H := hP
            have hD : va_D A (wM a cI cZ (mS (mS (mS (mS mm 25 (x + r_80)) 26 (y + r_94)) 27 w) 28 ((g - 2) / 8))) := hD
            have eM_151 : (mS (mS (mS (mS mm 25 (ldX x w g)) 26 (ldY y w g)) 27 (ldL w g)) 28 (ldW z g)) = (mS (mS (mS (mS mm 25 (x + r_80)) 26 (y + r_94)) 27 w) 28 ((g - 2) / 8)) := (mS_c (mS_c (mS_c (mS_c rfl em_151_25) em_151_26) em_151_27) em_151_28)
            rw [← eM_151] at hP hD
            have hP : va_P D vwCl (wM a cI cZ (mS (mS (mS (mS mm 25 (ldX x w g)) 26 (ldY y w g)) 27 (ldL w g)) 28 (ldW z g))) H := hP
            have hD : va_D A (wM a cI cZ (mS (mS (mS (mS mm 25 (ldX x w g)) 26 (ldY y w g)) 27 (ldL w g)) 28 (ldW z g))) := hD
            exact lf_z hx hb hr hlocks hQ (mS (mS (mS (mS mm 25 (ldX x w g)) 26 (ldY y w g)) 27 (ldL w g)) 28 (ldW z g)) hP hD hS dX10_leads_151 (by first | rfl | (rw [bI_f]; exact bI_n _) | exact bI_n _) ⟨(by first | with_reducible rfl | (simp only [ldB, ldX, ldY, ldL, ldW, ldG, ldK, ldD, if_pos c_25, if_neg c_50, if_pos c_110, b_130, b_143, ← hr_140, ← hr_127, ← hr_94, ← hr_80, ↓reduceIte, bI_t, bI_f, reduceCtorEq]; done) | (subst_vars; simp only [ldB, ldX, ldY, ldL, ldW, ldG, ldK, ldD, if_pos c_25, if_neg c_50, if_pos c_110, b_130, b_143, ↓reduceIte, bI_t, bI_f, reduceCtorEq]; done) | (simp [ldB, ldX, ldY, ldL, ldW, ldG, ldK, ldD, c_25, c_50, c_110, b_130, b_143, bI_t, bI_f]; done)), rfl⟩
      · have i_110 := i_nlt c_110
        rw [(by decide : (1 : Int32).toInt = 1)] at i_110
        refine lv_iload hx hb dX10_leads_113 (lv_at hl 6 rfl) ?_
        refine lv_iload hx hb dX10_leads_115 (lv_at hl 1 rfl) ?_
        refine lv_icmp_eq (tgt := 150) hx hb dX10_leads_117 (by decide) (fun c_117 => ?_) (fun c_117 => ?_)
        · have i_117 := i_eq c_117
          refine lv_iconst (v := 0) hx hb dX10_leads_150 (by decide) ?_
          have em_151_25 : (ldX x w g) = (x + r_80) := by simp only [ldB, ldX, ldY, ldL, ldW, ldG, ldK, ldD, if_pos c_25, if_neg c_50, if_neg c_110, if_pos c_117, ← hr_94, ← hr_80, ↓reduceIte, reduceCtorEq]
          have em_151_26 : (ldY y w g) = (y + r_94) := by simp only [ldB, ldX, ldY, ldL, ldW, ldG, ldK, ldD, if_pos c_25, if_neg c_50, if_neg c_110, if_pos c_117, ← hr_94, ← hr_80, ↓reduceIte, reduceCtorEq]
          have em_151_27 : (ldL w g) = w := by simp only [ldB, ldX, ldY, ldL, ldW, ldG, ldK, ldD, if_pos c_25, if_neg c_50, if_neg c_110, if_pos c_117, ← hr_94, ← hr_80, ↓reduceIte, reduceCtorEq]
          have em_151_28 : (ldW z g) = ((g - 2) / 8) := by simp only [ldB, ldX, ldY, ldL, ldW, ldG, ldK, ldD, if_pos c_25, if_neg c_50, if_neg c_110, if_pos c_117, ← hr_94, ← hr_80, ↓reduceIte, reduceCtorEq]
          have hP : va_P D vwCl (wM a cI cZ (mS (mS (mS (mS mm 25 (x + r_80)) 26 (y + r_94)) 27 w) 28 ((g - 2) / 8))) H := hP
          have hD : va_D A (wM a cI cZ (mS (mS (mS (mS mm 25 (x + r_80)) 26 (y + r_94)) 27 w) 28 ((g - 2) / 8))) := hD
          have eM_151 : (mS (mS (mS (mS mm 25 (ldX x w g)) 26 (ldY y w g)) 27 (ldL w g)) 28 (ldW z g)) = (mS (mS (mS (mS mm 25 (x + r_80)) 26 (y + r_94)) 27 w) 28 ((g - 2) / 8)) := (mS_c (mS_c (mS_c (mS_c rfl em_151_25) em_151_26) em_151_27) em_151_28)
          rw [← eM_151] at hP hD
          have hP : va_P D vwCl (wM a cI cZ (mS (mS (mS (mS mm 25 (ldX x w g)) 26 (ldY y w g)) 27 (ldL w g)) 28 (ldW z g))) H := hP
          have hD : va_D A (wM a cI cZ (mS (mS (mS (mS mm 25 (ldX x w g)) 26 (ldY y w g)) 27 (ldL w g)) 28 (ldW z g))) := hD
          exact lf_z hx hb hr hlocks hQ (mS (mS (mS (mS mm 25 (ldX x w g)) 26 (ldY y w g)) 27 (ldL w g)) 28 (ldW z g)) hP hD hS dX10_leads_151 (by first | rfl | (rw [bI_f]; exact bI_n _) | exact bI_n _) ⟨(by first | with_reducible rfl | (simp only [ldB, ldX, ldY, ldL, ldW, ldG, ldK, ldD, if_pos c_25, if_neg c_50, if_neg c_110, if_pos c_117, ← hr_94, ← hr_80, ↓reduceIte, bI_t, bI_f, reduceCtorEq]; done) | (subst_vars; simp only [ldB, ldX, ldY, ldL, ldW, ldG, ldK, ldD, if_pos c_25, if_neg c_50, if_neg c_110, if_pos c_117, ↓reduceIte, bI_t, bI_f, reduceCtorEq]; done) | (simp [ldB, ldX, ldY, ldL, ldW, ldG, ldK, ldD, c_25, c_50, c_110, c_117, bI_t, bI_f]; done)), rfl⟩
        · have i_117 := i_ne c_117
          refine lv_aload_n hx hb dX10_leads_120 rfl (lv_at hl 2 rfl) ?_
          refine va_get (D := D) (ci := 10) (v := .int (x + r_80)) (C := RX10) (T := TX10) (N := 37) hx hb hts hin_10 hown hK hP 0 rfl rfl 25 (by decide) fl_140 (fun _ h9 => h9) rfl dX10_leads_121 ?_
          refine lv_iconst (v := 0) hx hb dX10_leads_124 (by decide) ?_
          refine lv_bipush (v := 6) hx hb dX10_leads_125 (by decide) ?_
          refine st_i (va_runS (As := [.int (x + r_80), .int 0, .int 6]) (rest := []) ⟨hx, hb, hml, hown, hts⟩ (c_X10_in l D cI cJ cZ H.size (x + r_80) 0 6) (va_cwS 3 hts gX10_leads_X10_in rfl rfl rfl (by decide +kernel) ⟨Nat.le_of_ble_eq_true rfl, Nat.le_of_ble_eq_true rfl⟩) (pr_S hP hD hK hN hE hS hA [] (by decide) rfl) rfl rfl hl.1 rfl (lv_room (Nat.le_of_ble_eq_true rfl)) dX10_leads_127 ⟨Nat.zero_le _, Nat.zero_le _⟩) hP hS hA (fun r_127 u_127 H locs hw_127 hP hS => ?_)
          have hr_127 := hw_127
          refine lv_if_eq (tgt := 150) hx hb dX10_leads_130 (by decide) (fun c_130 => ?_) (fun c_130 => ?_)
          · have b_130 : (inR (x + r_80) 0 6) = false := bI_0 (hr_127.symm.trans c_130)
            refine lv_iconst (v := 0) hx hb dX10_leads_150 (by decide) ?_
            have em_151_25 : (ldX x w g) = (x + r_80) := by simp only [ldB, ldX, ldY, ldL, ldW, ldG, ldK, ldD, if_pos c_25, if_neg c_50, if_neg c_110, if_neg c_117, b_130, ← hr_127, ← hr_94, ← hr_80, ↓reduceIte, reduceCtorEq]
            have em_151_26 : (ldY y w g) = (y + r_94) := by simp only [ldB, ldX, ldY, ldL, ldW, ldG, ldK, ldD, if_pos c_25, if_neg c_50, if_neg c_110, if_neg c_117, b_130, ← hr_127, ← hr_94, ← hr_80, ↓reduceIte, reduceCtorEq]
            have em_151_27 : (ldL w g) = w := by simp only [ldB, ldX, ldY, ldL, ldW, ldG, ldK, ldD, if_pos c_25, if_neg c_50, if_neg c_110, if_neg c_117, b_130, ← hr_127, ← hr_94, ← hr_80, ↓reduceIte, reduceCtorEq]
            have em_151_28 : (ldW z g) = ((g - 2) / 8) := by simp only [ldB, ldX, ldY, ldL, ldW, ldG, ldK, ldD, if_pos c_25, if_neg c_50, if_neg c_110, if_neg c_117, b_130, ← hr_127, ← hr_94, ← hr_80, ↓reduceIte, reduceCtorEq]
            have hP : va_P D vwCl (wM a cI cZ (mS (mS (mS (mS mm 25 (x + r_80)) 26 (y + r_94)) 27 w) 28 ((g - 2) / 8))) H := hP
            have hD : va_D A (wM a cI cZ (mS (mS (mS (mS mm 25 (x + r_80)) 26 (y + r_94)) 27 w) 28 ((g - 2) / 8))) := hD
            have eM_151 : (mS (mS (mS (mS mm 25 (ldX x w g)) 26 (ldY y w g)) 27 (ldL w g)) 28 (ldW z g)) = (mS (mS (mS (mS mm 25 (x + r_80)) 26 (y + r_94)) 27 w) 28 ((g - 2) / 8)) := (mS_c (mS_c (mS_c (mS_c rfl em_151_25) em_151_26) em_151_27) em_151_28)
            rw [← eM_151] at hP hD
            have hP : va_P D vwCl (wM a cI cZ (mS (mS (mS (mS mm 25 (ldX x w g)) 26 (ldY y w g)) 27 (ldL w g)) 28 (ldW z g))) H := hP
            have hD : va_D A (wM a cI cZ (mS (mS (mS (mS mm 25 (ldX x w g)) 26 (ldY y w g)) 27 (ldL w g)) 28 (ldW z g))) := hD
            exact lf_z hx hb hr hlocks hQ (mS (mS (mS (mS mm 25 (ldX x w g)) 26 (ldY y w g)) 27 (ldL w g)) 28 (ldW z g)) hP hD hS dX10_leads_151 (by first | rfl | (rw [bI_f]; exact bI_n _) | exact bI_n _) ⟨(by first | with_reducible rfl | (simp only [ldB, ldX, ldY, ldL, ldW, ldG, ldK, ldD, if_pos c_25, if_neg c_50, if_neg c_110, if_neg c_117, b_130, ← hr_127, ← hr_94, ← hr_80, ↓reduceIte, bI_t, bI_f, reduceCtorEq]; done) | (subst_vars; simp only [ldB, ldX, ldY, ldL, ldW, ldG, ldK, ldD, if_pos c_25, if_neg c_50, if_neg c_110, if_neg c_117, b_130, ↓reduceIte, bI_t, bI_f, reduceCtorEq]; done) | (simp [ldB, ldX, ldY, ldL, ldW, ldG, ldK, ldD, c_25, c_50, c_110, c_117, b_130, bI_t, bI_f]; done)), rfl⟩
          · have b_130 : (inR (x + r_80) 0 6) = true := bI_1 (fun q => c_130 (hr_127.trans q))
            refine lv_aload_n hx hb dX10_leads_133 rfl (lv_at hl 2 rfl) ?_
            refine va_get (D := D) (ci := 10) (v := .int (y + r_94)) (C := RX10) (T := TX10) (N := 37) hx hb hts hin_10 hown hK hP 0 rfl rfl 26 (by decide) fl_143 (fun _ h9 => h9) rfl dX10_leads_134 ?_
            refine lv_iconst (v := 0) hx hb dX10_leads_137 (by decide) ?_
            refine lv_bipush (v := 6) hx hb dX10_leads_138 (by decide) ?_
            refine st_i (va_runS (As := [.int (y + r_94), .int 0, .int 6]) (rest := []) ⟨hx, hb, hml, hown, hts⟩ (c_X10_in l D cI cJ cZ H.size (y + r_94) 0 6) (va_cwS 3 hts gX10_leads_X10_in rfl rfl rfl (by decide +kernel) ⟨Nat.le_of_ble_eq_true rfl, Nat.le_of_ble_eq_true rfl⟩) (pr_S hP hD hK hN hE hS hA [] (by decide) rfl) rfl rfl hl.1 rfl (lv_room (Nat.le_of_ble_eq_true rfl)) dX10_leads_140 ⟨Nat.zero_le _, Nat.zero_le _⟩) hP hS hA (fun r_140 u_140 H locs hw_140 hP hS => ?_)
            have hr_140 := hw_140
            refine lv_if_eq (tgt := 150) hx hb dX10_leads_143 (by decide) (fun c_143 => ?_) (fun c_143 => ?_)
            · have b_143 : (inR (y + r_94) 0 6) = false := bI_0 (hr_140.symm.trans c_143)
              refine lv_iconst (v := 0) hx hb dX10_leads_150 (by decide) ?_
              have em_151_25 : (ldX x w g) = (x + r_80) := by simp only [ldB, ldX, ldY, ldL, ldW, ldG, ldK, ldD, if_pos c_25, if_neg c_50, if_neg c_110, if_neg c_117, b_130, b_143, ← hr_140, ← hr_127, ← hr_94, ← hr_80, ↓reduceIte, reduceCtorEq]
              have em_151_26 : (ldY y w g) = (y + r_94) := by simp only [ldB, ldX, ldY, ldL, ldW, ldG, ldK, ldD, if_pos c_25, if_neg c_50, if_neg c_110, if_neg c_117, b_130, b_143, ← hr_140, ← hr_127, ← hr_94, ← hr_80, ↓reduceIte, reduceCtorEq]
              have em_151_27 : (ldL w g) = w := by simp only [ldB, ldX, ldY, ldL, ldW, ldG, ldK, ldD, if_pos c_25, if_neg c_50, if_neg c_110, if_neg c_117, b_130, b_143, ← hr_140, ← hr_127, ← hr_94, ← hr_80, ↓reduceIte, reduceCtorEq]
              have em_151_28 : (ldW z g) = ((g - 2) / 8) := by simp only [ldB, ldX, ldY, ldL, ldW, ldG, ldK, ldD, if_pos c_25, if_neg c_50, if_neg c_110, if_neg c_117, b_130, b_143, ← hr_140, ← hr_127, ← hr_94, ← hr_80, ↓reduceIte, reduceCtorEq]
              have hP : va_P D vwCl (wM a cI cZ (mS (mS (mS (mS mm 25 (x + r_80)) 26 (y + r_94)) 27 w) 28 ((g - 2) / 8))) H := hP
              have hD : va_D A (wM a cI cZ (mS (mS (mS (mS mm 25 (x + r_80)) 26 (y + r_94)) 27 w) 28 ((g - 2) / 8))) := hD
              have eM_151 : (mS (mS (mS (mS mm 25 (ldX x w g)) 26 (ldY y w g)) 27 (ldL w g)) 28 (ldW z g)) = (mS (mS (mS (mS mm 25 (x + r_80)) 26 (y + r_94)) 27 w) 28 ((g - 2) / 8)) := (mS_c (mS_c (mS_c (mS_c rfl em_151_25) em_151_26) em_151_27) em_151_28)
              rw [← eM_151] at hP hD
              have hP : va_P D vwCl (wM a cI cZ (mS (mS (mS (mS mm 25 (ldX x w g)) 26 (ldY y w g)) 27 (ldL w g)) 28 (ldW z g))) H := hP
              have hD : va_D A (wM a cI cZ (mS (mS (mS (mS mm 25 (ldX x w g)) 26 (ldY y w g)) 27 (ldL w g)) 28 (ldW z g))) := hD
              exact lf_z hx hb hr hlocks hQ (mS (mS (mS (mS mm 25 (ldX x w g)) 26 (ldY y w g)) 27 (ldL w g)) 28 (ldW z g)) hP hD hS dX10_leads_151 (by first | rfl | (rw [bI_f]; exact bI_n _) | exact bI_n _) ⟨(by first | with_reducible rfl | (simp only [ldB, ldX, ldY, ldL, ldW, ldG, ldK, ldD, if_pos c_25, if_neg c_50, if_neg c_110, if_neg c_117, b_130, b_143, ← hr_140, ← hr_127, ← hr_94, ← hr_80, ↓reduceIte, bI_t, bI_f, reduceCtorEq]; done) | (subst_vars; simp only [ldB, ldX, ldY, ldL, ldW, ldG, ldK, ldD, if_pos c_25, if_neg c_50, if_neg c_110, if_neg c_117, b_130, b_143, ↓reduceIte, bI_t, bI_f, reduceCtorEq]; done) | (simp [ldB, ldX, ldY, ldL, ldW, ldG, ldK, ldD, c_25, c_50, c_110, c_117, b_130, b_143, bI_t, bI_f]; done)), rfl⟩
            · have b_143 : (inR (y + r_94) 0 6) = true := bI_1 (fun q => c_143 (hr_140.trans q))
              refine lv_iconst (v := 1) hx hb dX10_leads_146 (by decide) ?_
              refine lv_goto (tgt := 151) hx hb dX10_leads_147 (by decide) ?_
              have em_151_25 : (ldX x w g) = (x + r_80) := by simp only [ldB, ldX, ldY, ldL, ldW, ldG, ldK, ldD, if_pos c_25, if_neg c_50, if_neg c_110, if_neg c_117, b_130, b_143, ← hr_140, ← hr_127, ← hr_94, ← hr_80, ↓reduceIte, reduceCtorEq]
              have em_151_26 : (ldY y w g) = (y + r_94) := by simp only [ldB, ldX, ldY, ldL, ldW, ldG, ldK, ldD, if_pos c_25, if_neg c_50, if_neg c_110, if_neg c_117, b_130, b_143, ← hr_140, ← hr_127, ← hr_94, ← hr_80, ↓reduceIte, reduceCtorEq]
              have em_151_27 : (ldL w g) = w := by simp only [ldB, ldX, ldY, ldL, ldW, ldG, ldK, ldD, if_pos c_25, if_neg c_50, if_neg c_110, if_neg c_117, b_130, b_143, ← hr_140, ← hr_127, ← hr_94, ← hr_80, ↓reduceIte, reduceCtorEq]
              have em_151_28 : (ldW z g) = ((g - 2) / 8) := by simp only [ldB, ldX, ldY, ldL, ldW, ldG, ldK, ldD, if_pos c_25, if_neg c_50, if_neg c_110, if_neg c_117, b_130, b_143, ← hr_140, ← hr_127, ← hr_94, ← hr_80, ↓reduceIte, reduceCtorEq]
              have hP : va_P D vwCl (wM a cI cZ (mS (mS (mS (mS mm 25 (x + r_80)) 26 (y + r_94)) 27 w) 28 ((g - 2) / 8))) H := hP
              have hD : va_D A (wM a cI cZ (mS (mS (mS (mS mm 25 (x + r_80)) 26 (y + r_94)) 27 w) 28 ((g - 2) / 8))) := hD
              have eM_151 : (mS (mS (mS (mS mm 25 (ldX x w g)) 26 (ldY y w g)) 27 (ldL w g)) 28 (ldW z g)) = (mS (mS (mS (mS mm 25 (x + r_80)) 26 (y + r_94)) 27 w) 28 ((g - 2) / 8)) := (mS_c (mS_c (mS_c (mS_c rfl em_151_25) em_151_26) em_151_27) em_151_28)
              rw [← eM_151] at hP hD
              have hP : va_P D vwCl (wM a cI cZ (mS (mS (mS (mS mm 25 (ldX x w g)) 26 (ldY y w g)) 27 (ldL w g)) 28 (ldW z g))) H := hP
              have hD : va_D A (wM a cI cZ (mS (mS (mS (mS mm 25 (ldX x w g)) 26 (ldY y w g)) 27 (ldL w g)) 28 (ldW z g))) := hD
              exact lf_z hx hb hr hlocks hQ (mS (mS (mS (mS mm 25 (ldX x w g)) 26 (ldY y w g)) 27 (ldL w g)) 28 (ldW z g)) hP hD hS dX10_leads_151 (by first | rfl | (rw [bI_f]; exact bI_n _) | exact bI_n _) ⟨(by first | with_reducible rfl | (simp only [ldB, ldX, ldY, ldL, ldW, ldG, ldK, ldD, if_pos c_25, if_neg c_50, if_neg c_110, if_neg c_117, b_130, b_143, ← hr_140, ← hr_127, ← hr_94, ← hr_80, ↓reduceIte, bI_t, bI_f, reduceCtorEq]; done) | (subst_vars; simp only [ldB, ldX, ldY, ldL, ldW, ldG, ldK, ldD, if_pos c_25, if_neg c_50, if_neg c_110, if_neg c_117, b_130, b_143, ↓reduceIte, bI_t, bI_f, reduceCtorEq]; done) | (simp [ldB, ldX, ldY, ldL, ldW, ldG, ldK, ldD, c_25, c_50, c_110, c_117, b_130, b_143, bI_t, bI_f]; done)), rfl⟩
  · have i_25 := i_nlt c_25
    rw [(by decide : (26 : Int32).toInt = 26)] at i_25
    refine lv_aload_n hx hb dX10_leads_28 rfl (lv_at hl 0 rfl) ?_
    refine lv_iload_n hx hb dX10_leads_29 rfl (lv_at hl 3 rfl) ?_
    refine lv_iload hx hb dX10_leads_30 (lv_at hl 5 rfl) ?_
    refine lv_iadd hx hb dX10_leads_32 ?_
    refine lv_bipush (v := 26) hx hb dX10_leads_33 (by decide) ?_
    refine lv_isub hx hb dX10_leads_35 ?_
    refine lv_iconst (v := 1) hx hb dX10_leads_36 (by decide) ?_
    refine lv_iadd hx hb dX10_leads_37 ?_
    refine lv_bipush (v := 8) hx hb dX10_leads_38 (by decide) ?_
    refine lv_irem hx hb dX10_leads_40 (by decide) ?_
    refine va_put (D := D) (ci := 10) (v := .int ((((w + g) - 26) + 1) - (((w + g) - 26) + 1) / 8 * 8)) (ty := .int) (C := RX10) (T := TX10) (N := 37) hx hb hts hin_10 tyX10 tyX10_ok nmX10 hown hK hP hD hS 0 rfl rfl 27 (by decide) fl_146 (fun _ h9 => h9) rfl (by decide +kernel) rfl rfl (Nat.le_of_ble_eq_true rfl) dX10_leads_41 (fun H locs hP hD hS => ?_)
    have hP : va_P D vwCl (wM a cI cZ (mS (mS (mS (mS mm 25 x) 26 y) 27 ((((w + g) - 26) + 1) - (((w + g) - 26) + 1) / 8 * 8)) 28 z)) H := hP
    have hD : va_D A (wM a cI cZ (mS (mS (mS (mS mm 25 x) 26 y) 27 ((((w + g) - 26) + 1) - (((w + g) - 26) + 1) / 8 * 8)) 28 z)) := hD
    refine lv_goto (tgt := 163) hx hb dX10_leads_44 (by decide) ?_
    refine lv_iconst (v := 1) hx hb dX10_leads_163 (by decide) ?_
    have em_164_25 : (ldX x w g) = x := by simp only [ldB, ldX, ldY, ldL, ldW, ldG, ldK, ldD, if_neg c_25, ↓reduceIte, reduceCtorEq]
    have em_164_26 : (ldY y w g) = y := by simp only [ldB, ldX, ldY, ldL, ldW, ldG, ldK, ldD, if_neg c_25, ↓reduceIte, reduceCtorEq]
    have em_164_27 : (ldL w g) = ((((w + g) - 26) + 1) - (((w + g) - 26) + 1) / 8 * 8) := by simp only [ldB, ldX, ldY, ldL, ldW, ldG, ldK, ldD, if_neg c_25, ↓reduceIte, reduceCtorEq]
    have em_164_28 : (ldW z g) = z := by simp only [ldB, ldX, ldY, ldL, ldW, ldG, ldK, ldD, if_neg c_25, ↓reduceIte, reduceCtorEq]
    have hP : va_P D vwCl (wM a cI cZ (mS (mS (mS (mS mm 25 x) 26 y) 27 ((((w + g) - 26) + 1) - (((w + g) - 26) + 1) / 8 * 8)) 28 z)) H := hP
    have hD : va_D A (wM a cI cZ (mS (mS (mS (mS mm 25 x) 26 y) 27 ((((w + g) - 26) + 1) - (((w + g) - 26) + 1) / 8 * 8)) 28 z)) := hD
    have eM_164 : (mS (mS (mS (mS mm 25 (ldX x w g)) 26 (ldY y w g)) 27 (ldL w g)) 28 (ldW z g)) = (mS (mS (mS (mS mm 25 x) 26 y) 27 ((((w + g) - 26) + 1) - (((w + g) - 26) + 1) / 8 * 8)) 28 z) := (mS_c (mS_c (mS_c (mS_c rfl em_164_25) em_164_26) em_164_27) em_164_28)
    rw [← eM_164] at hP hD
    have hP : va_P D vwCl (wM a cI cZ (mS (mS (mS (mS mm 25 (ldX x w g)) 26 (ldY y w g)) 27 (ldL w g)) 28 (ldW z g))) H := hP
    have hD : va_D A (wM a cI cZ (mS (mS (mS (mS mm 25 (ldX x w g)) 26 (ldY y w g)) 27 (ldL w g)) 28 (ldW z g))) := hD
    exact lf_z hx hb hr hlocks hQ (mS (mS (mS (mS mm 25 (ldX x w g)) 26 (ldY y w g)) 27 (ldL w g)) 28 (ldW z g)) hP hD hS dX10_leads_164 (by first | rfl | (rw [bI_f]; exact bI_n _) | exact bI_n _) ⟨(by first | with_reducible rfl | (simp only [ldB, ldX, ldY, ldL, ldW, ldG, ldK, ldD, if_neg c_25, ↓reduceIte, bI_t, bI_f, reduceCtorEq]; done) | (subst_vars; simp only [ldB, ldX, ldY, ldL, ldW, ldG, ldK, ldD, if_neg c_25, ↓reduceIte, bI_t, bI_f, reduceCtorEq]; done) | (simp [ldB, ldX, ldY, ldL, ldW, ldG, ldK, ldD, c_25, bI_t, bI_f]; done)), rfl⟩
abbrev rm_X10_dances : Room := { frames := 3, cells := 0, slots := 0, locals := 68 }
set_option maxHeartbeats 4000000 in
set_option maxRecDepth 100000 in
theorem c_X10_dances (l : Launch) (D : va_G) (cI cJ cZ : ClassId) (a : Nat → Nat) (sz : Nat) (mm : MS) (d : Int32) (but : Int32) (h0d : 0 ≤ d.toInt) (h3d : d.toInt < 3) : Met l yX10_dances wsX10_dances rm_X10_dances (va_Pc [.ref (a 0), .int d, .int but] (PU D (tyL cI cJ cZ) (wM a cI cZ mm) sz)) (va_Qv (fun (uz : MS) => uz = (mS (mS (mS (mS (mS (mF (mF (mF (mF mm 29 ((dnT (mm.2 1) (mm.2 2) (mm.2 3) (mm.2 4) (mm.2 29) (mm.2 30) (mm.2 31) (mm.2 32) (mm.1 25, mm.1 26, mm.1 27, mm.1 28) d but).1)) 30 ((dnT (mm.2 1) (mm.2 2) (mm.2 3) (mm.2 4) (mm.2 29) (mm.2 30) (mm.2 31) (mm.2 32) (mm.1 25, mm.1 26, mm.1 27, mm.1 28) d but).2.1)) 31 ((dnT (mm.2 1) (mm.2 2) (mm.2 3) (mm.2 4) (mm.2 29) (mm.2 30) (mm.2 31) (mm.2 32) (mm.1 25, mm.1 26, mm.1 27, mm.1 28) d but).2.2.1)) 32 ((dnT (mm.2 1) (mm.2 2) (mm.2 3) (mm.2 4) (mm.2 29) (mm.2 30) (mm.2 31) (mm.2 32) (mm.1 25, mm.1 26, mm.1 27, mm.1 28) d but).2.2.2.1)) 33 ((dnT (mm.2 1) (mm.2 2) (mm.2 3) (mm.2 4) (mm.2 29) (mm.2 30) (mm.2 31) (mm.2 32) (mm.1 25, mm.1 26, mm.1 27, mm.1 28) d but).2.2.2.2.1)) 25 ((dnT (mm.2 1) (mm.2 2) (mm.2 3) (mm.2 4) (mm.2 29) (mm.2 30) (mm.2 31) (mm.2 32) (mm.1 25, mm.1 26, mm.1 27, mm.1 28) d but).2.2.2.2.2.1)) 26 ((dnT (mm.2 1) (mm.2 2) (mm.2 3) (mm.2 4) (mm.2 29) (mm.2 30) (mm.2 31) (mm.2 32) (mm.1 25, mm.1 26, mm.1 27, mm.1 28) d but).2.2.2.2.2.2.1)) 27 ((dnT (mm.2 1) (mm.2 2) (mm.2 3) (mm.2 4) (mm.2 29) (mm.2 30) (mm.2 31) (mm.2 32) (mm.1 25, mm.1 26, mm.1 27, mm.1 28) d but).2.2.2.2.2.2.2.1)) 28 ((dnT (mm.2 1) (mm.2 2) (mm.2 3) (mm.2 4) (mm.2 29) (mm.2 30) (mm.2 31) (mm.2 32) (mm.1 25, mm.1 26, mm.1 27, mm.1 28) d but).2.2.2.2.2.2.2.2))) (fun uz => BU D (wM a cI cZ uz) (va_A (wM a cI cZ mm) sz)) (va_A (wM a cI cZ mm) sz)) 0 0 (va_A (wM a cI cZ mm) sz) := by
  refine en (own := RX10) (Qc := fun A => va_Qv (fun (uz : MS) => uz = (mS (mS (mS (mS (mS (mF (mF (mF (mF mm 29 ((dnT (mm.2 1) (mm.2 2) (mm.2 3) (mm.2 4) (mm.2 29) (mm.2 30) (mm.2 31) (mm.2 32) (mm.1 25, mm.1 26, mm.1 27, mm.1 28) d but).1)) 30 ((dnT (mm.2 1) (mm.2 2) (mm.2 3) (mm.2 4) (mm.2 29) (mm.2 30) (mm.2 31) (mm.2 32) (mm.1 25, mm.1 26, mm.1 27, mm.1 28) d but).2.1)) 31 ((dnT (mm.2 1) (mm.2 2) (mm.2 3) (mm.2 4) (mm.2 29) (mm.2 30) (mm.2 31) (mm.2 32) (mm.1 25, mm.1 26, mm.1 27, mm.1 28) d but).2.2.1)) 32 ((dnT (mm.2 1) (mm.2 2) (mm.2 3) (mm.2 4) (mm.2 29) (mm.2 30) (mm.2 31) (mm.2 32) (mm.1 25, mm.1 26, mm.1 27, mm.1 28) d but).2.2.2.1)) 33 ((dnT (mm.2 1) (mm.2 2) (mm.2 3) (mm.2 4) (mm.2 29) (mm.2 30) (mm.2 31) (mm.2 32) (mm.1 25, mm.1 26, mm.1 27, mm.1 28) d but).2.2.2.2.1)) 25 ((dnT (mm.2 1) (mm.2 2) (mm.2 3) (mm.2 4) (mm.2 29) (mm.2 30) (mm.2 31) (mm.2 32) (mm.1 25, mm.1 26, mm.1 27, mm.1 28) d but).2.2.2.2.2.1)) 26 ((dnT (mm.2 1) (mm.2 2) (mm.2 3) (mm.2 4) (mm.2 29) (mm.2 30) (mm.2 31) (mm.2 32) (mm.1 25, mm.1 26, mm.1 27, mm.1 28) d but).2.2.2.2.2.2.1)) 27 ((dnT (mm.2 1) (mm.2 2) (mm.2 3) (mm.2 4) (mm.2 29) (mm.2 30) (mm.2 31) (mm.2 32) (mm.1 25, mm.1 26, mm.1 27, mm.1 28) d but).2.2.2.2.2.2.2.1)) 28 ((dnT (mm.2 1) (mm.2 2) (mm.2 3) (mm.2 4) (mm.2 29) (mm.2 30) (mm.2 31) (mm.2 32) (mm.1 25, mm.1 26, mm.1 27, mm.1 28) d but).2.2.2.2.2.2.2.2))) (fun uz => BU D (wM a cI cZ uz) A) A) (by decide) rfl (Nat.le_of_ble_eq_true rfl) rfl ?_
  intro p e s m args below meth c A Q H locs ls hx hb hr hml hown hts hlocks hname hA hN hE hK hQ hP hD hS hl
  have hl : lv_has ls 6 [(0, .ref (a 0)), (1, .int d), (2, .int but)] := hl
  have fl_53 := hts (.fieldLink RX10 53 "DanceStaffsModel" "xs" "[I") (by decide +kernel)
  have hin_10 : ∀ w ∈ u_ws RX10 TX10 37, w ∈ wsX10_dances := by decide +kernel
  have fl_7 := hts (.fieldLink RX10 7 "DanceStaffsModel" "beginX" "[I") (by decide +kernel)
  have fl_56 := hts (.fieldLink RX10 56 "DanceStaffsModel" "ys" "[I") (by decide +kernel)
  have fl_13 := hts (.fieldLink RX10 13 "DanceStaffsModel" "beginY" "[I") (by decide +kernel)
  have fl_59 := hts (.fieldLink RX10 59 "DanceStaffsModel" "looksAt" "[I") (by decide +kernel)
  have fl_16 := hts (.fieldLink RX10 16 "DanceStaffsModel" "beginLooks" "[I") (by decide +kernel)
  have fl_62 := hts (.fieldLink RX10 62 "DanceStaffsModel" "weights" "[I") (by decide +kernel)
  have fl_155 := hts (.fieldLink RX10 155 "DanceStaffsModel" "broken" "I") (by decide +kernel)
  have fl_140 := hts (.fieldLink RX10 140 "DanceStaffsModel" "toX" "I") (by decide +kernel)
  have fl_143 := hts (.fieldLink RX10 143 "DanceStaffsModel" "toY" "I") (by decide +kernel)
  have fl_146 := hts (.fieldLink RX10 146 "DanceStaffsModel" "toLooks" "I") (by decide +kernel)
  have fl_149 := hts (.fieldLink RX10 149 "DanceStaffsModel" "toWeight" "I") (by decide +kernel)
  refine lv_aload_n hx hb dX10_dances_0 rfl (lv_at hl 0 rfl) ?_
  refine va_get (D := D) (ci := 10) (v := .ref (a 29)) (C := RX10) (T := TX10) (N := 37) hx hb hts hin_10 hown hK hP 0 rfl rfl 29 (by decide) fl_53 (fun _ h9 => h9) rfl dX10_dances_1 ?_
  refine lv_iconst (v := 0) hx hb dX10_dances_4 (by decide) ?_
  refine lv_aload_n hx hb dX10_dances_5 rfl (lv_at hl 0 rfl) ?_
  refine va_get (D := D) (ci := 10) (v := .ref (a 1)) (C := RX10) (T := TX10) (N := 37) hx hb hts hin_10 hown hK hP 0 rfl rfl 1 (by decide) fl_7 (fun _ h9 => h9) rfl dX10_dances_6 ?_
  refine lv_iload_n hx hb dX10_dances_9 rfl (lv_at hl 1 rfl) ?_
  refine va_iald (D := D) (f := (mm.2 1)) hx hb hK hP 1 0 rfl rfl (by exact vi_mk (by omega) (by omega)) dX10_dances_10 ?_
  refine va_iast (D := D) (f := (mm.2 29)) hx hb hK hP hD hS 15 0 rfl rfl (vi_mk (by decide) (by decide)) dX10_dances_11 (fun H locs hP hD hS => ?_)
  have hP : va_P D vwCl (wM a cI cZ (mF mm 29 (upd (mm.2 29) ((0 : Int32).toNatClampNeg) ((mm.2 1) (d).toNatClampNeg)))) H := hP
  have hD : va_D A (wM a cI cZ (mF mm 29 (upd (mm.2 29) ((0 : Int32).toNatClampNeg) ((mm.2 1) (d).toNatClampNeg)))) := hD
  refine lv_aload_n hx hb dX10_dances_12 rfl (lv_at hl 0 rfl) ?_
  refine va_get (D := D) (ci := 10) (v := .ref (a 30)) (C := RX10) (T := TX10) (N := 37) hx hb hts hin_10 hown hK hP 0 rfl rfl 30 (by decide) fl_56 (fun _ h9 => h9) rfl dX10_dances_13 ?_
  refine lv_iconst (v := 0) hx hb dX10_dances_16 (by decide) ?_
  refine lv_aload_n hx hb dX10_dances_17 rfl (lv_at hl 0 rfl) ?_
  refine va_get (D := D) (ci := 10) (v := .ref (a 2)) (C := RX10) (T := TX10) (N := 37) hx hb hts hin_10 hown hK hP 0 rfl rfl 2 (by decide) fl_13 (fun _ h9 => h9) rfl dX10_dances_18 ?_
  refine lv_iload_n hx hb dX10_dances_21 rfl (lv_at hl 1 rfl) ?_
  refine va_iald (D := D) (f := (mm.2 2)) hx hb hK hP 2 0 rfl rfl (by exact vi_mk (by omega) (by omega)) dX10_dances_22 ?_
  refine va_iast (D := D) (f := (mm.2 30)) hx hb hK hP hD hS 16 0 rfl rfl (vi_mk (by decide) (by decide)) dX10_dances_23 (fun H locs hP hD hS => ?_)
  have hP : va_P D vwCl (wM a cI cZ (mF (mF mm 29 (upd (mm.2 29) ((0 : Int32).toNatClampNeg) ((mm.2 1) (d).toNatClampNeg))) 30 (upd (mm.2 30) ((0 : Int32).toNatClampNeg) ((mm.2 2) (d).toNatClampNeg)))) H := hP
  have hD : va_D A (wM a cI cZ (mF (mF mm 29 (upd (mm.2 29) ((0 : Int32).toNatClampNeg) ((mm.2 1) (d).toNatClampNeg))) 30 (upd (mm.2 30) ((0 : Int32).toNatClampNeg) ((mm.2 2) (d).toNatClampNeg)))) := hD
  refine lv_aload_n hx hb dX10_dances_24 rfl (lv_at hl 0 rfl) ?_
  refine va_get (D := D) (ci := 10) (v := .ref (a 31)) (C := RX10) (T := TX10) (N := 37) hx hb hts hin_10 hown hK hP 0 rfl rfl 31 (by decide) fl_59 (fun _ h9 => h9) rfl dX10_dances_25 ?_
  refine lv_iconst (v := 0) hx hb dX10_dances_28 (by decide) ?_
  refine lv_aload_n hx hb dX10_dances_29 rfl (lv_at hl 0 rfl) ?_
  refine va_get (D := D) (ci := 10) (v := .ref (a 3)) (C := RX10) (T := TX10) (N := 37) hx hb hts hin_10 hown hK hP 0 rfl rfl 3 (by decide) fl_16 (fun _ h9 => h9) rfl dX10_dances_30 ?_
  refine lv_iload_n hx hb dX10_dances_33 rfl (lv_at hl 1 rfl) ?_
  refine va_iald (D := D) (f := (mm.2 3)) hx hb hK hP 3 0 rfl rfl (by exact vi_mk (by omega) (by omega)) dX10_dances_34 ?_
  refine va_iast (D := D) (f := (mm.2 31)) hx hb hK hP hD hS 17 0 rfl rfl (vi_mk (by decide) (by decide)) dX10_dances_35 (fun H locs hP hD hS => ?_)
  have hP : va_P D vwCl (wM a cI cZ (mF (mF (mF mm 29 (upd (mm.2 29) ((0 : Int32).toNatClampNeg) ((mm.2 1) (d).toNatClampNeg))) 30 (upd (mm.2 30) ((0 : Int32).toNatClampNeg) ((mm.2 2) (d).toNatClampNeg))) 31 (upd (mm.2 31) ((0 : Int32).toNatClampNeg) ((mm.2 3) (d).toNatClampNeg)))) H := hP
  have hD : va_D A (wM a cI cZ (mF (mF (mF mm 29 (upd (mm.2 29) ((0 : Int32).toNatClampNeg) ((mm.2 1) (d).toNatClampNeg))) 30 (upd (mm.2 30) ((0 : Int32).toNatClampNeg) ((mm.2 2) (d).toNatClampNeg))) 31 (upd (mm.2 31) ((0 : Int32).toNatClampNeg) ((mm.2 3) (d).toNatClampNeg)))) := hD
  refine lv_aload_n hx hb dX10_dances_36 rfl (lv_at hl 0 rfl) ?_
  refine va_get (D := D) (ci := 10) (v := .ref (a 32)) (C := RX10) (T := TX10) (N := 37) hx hb hts hin_10 hown hK hP 0 rfl rfl 32 (by decide) fl_62 (fun _ h9 => h9) rfl dX10_dances_37 ?_
  refine lv_iconst (v := 0) hx hb dX10_dances_40 (by decide) ?_
  refine lv_iconst (v := 2) hx hb dX10_dances_41 (by decide) ?_
  refine va_iast (D := D) (f := (mm.2 32)) hx hb hK hP hD hS 18 0 rfl rfl (vi_mk (by decide) (by decide)) dX10_dances_42 (fun H locs hP hD hS => ?_)
  have hP : va_P D vwCl (wM a cI cZ (mF (mF (mF (mF mm 29 (upd (mm.2 29) ((0 : Int32).toNatClampNeg) ((mm.2 1) (d).toNatClampNeg))) 30 (upd (mm.2 30) ((0 : Int32).toNatClampNeg) ((mm.2 2) (d).toNatClampNeg))) 31 (upd (mm.2 31) ((0 : Int32).toNatClampNeg) ((mm.2 3) (d).toNatClampNeg))) 32 (upd (mm.2 32) ((0 : Int32).toNatClampNeg) 2))) H := hP
  have hD : va_D A (wM a cI cZ (mF (mF (mF (mF mm 29 (upd (mm.2 29) ((0 : Int32).toNatClampNeg) ((mm.2 1) (d).toNatClampNeg))) 30 (upd (mm.2 30) ((0 : Int32).toNatClampNeg) ((mm.2 2) (d).toNatClampNeg))) 31 (upd (mm.2 31) ((0 : Int32).toNatClampNeg) ((mm.2 3) (d).toNatClampNeg))) 32 (upd (mm.2 32) ((0 : Int32).toNatClampNeg) 2))) := hD
  refine lv_aload_n hx hb dX10_dances_43 rfl (lv_at hl 0 rfl) ?_
  refine lv_bipush (v := (-9)) hx hb dX10_dances_44 (by decide) ?_
  refine va_put (D := D) (ci := 10) (v := .int (-9)) (ty := .int) (C := RX10) (T := TX10) (N := 37) hx hb hts hin_10 tyX10 tyX10_ok nmX10 hown hK hP hD hS 0 rfl rfl 33 (by decide) fl_155 (fun _ h9 => h9) rfl (by decide +kernel) rfl rfl (Nat.le_of_ble_eq_true rfl) dX10_dances_46 (fun H locs hP hD hS => ?_)
  have hP : va_P D vwCl (wM a cI cZ (mF (mF (mF (mF (mS mm 33 (-9)) 29 (upd (mm.2 29) ((0 : Int32).toNatClampNeg) ((mm.2 1) (d).toNatClampNeg))) 30 (upd (mm.2 30) ((0 : Int32).toNatClampNeg) ((mm.2 2) (d).toNatClampNeg))) 31 (upd (mm.2 31) ((0 : Int32).toNatClampNeg) ((mm.2 3) (d).toNatClampNeg))) 32 (upd (mm.2 32) ((0 : Int32).toNatClampNeg) 2))) H := hP
  have hD : va_D A (wM a cI cZ (mF (mF (mF (mF (mS mm 33 (-9)) 29 (upd (mm.2 29) ((0 : Int32).toNatClampNeg) ((mm.2 1) (d).toNatClampNeg))) 30 (upd (mm.2 30) ((0 : Int32).toNatClampNeg) ((mm.2 2) (d).toNatClampNeg))) 31 (upd (mm.2 31) ((0 : Int32).toNatClampNeg) ((mm.2 3) (d).toNatClampNeg))) 32 (upd (mm.2 32) ((0 : Int32).toNatClampNeg) 2))) := hD
  refine lv_iconst (v := 0) hx hb dX10_dances_49 (by decide) ?_
  refine lv_istore_n (lv' := [(3, .int 0), (0, .ref (a 0)), (1, .int d), (2, .int but)]) hx hb dX10_dances_50 rfl hl (by decide) rfl (fun ls hl => ?_)
  have LB_51 : ∀ (n : Nat) (i : Nat) (hn_i : 10 < i + n) (hi_i : i ≤ 10) (H : Heap) (locs : List Loc) (_ : va_P D vwCl (wM a cI cZ (mF (mF (mF (mF (mS (mS (mS (mS (mS mm 25 ((dnI mm d but i).2.2.2.2.2.1)) 26 ((dnI mm d but i).2.2.2.2.2.2.1)) 27 ((dnI mm d but i).2.2.2.2.2.2.2.1)) 28 ((dnI mm d but i).2.2.2.2.2.2.2.2)) 33 ((dnI mm d but i).2.2.2.2.1)) 29 ((dnI mm d but i).1)) 30 ((dnI mm d but i).2.1)) 31 ((dnI mm d but i).2.2.1)) 32 ((dnI mm d but i).2.2.2.1))) H) (_ : va_D A (wM a cI cZ (mF (mF (mF (mF (mS (mS (mS (mS (mS mm 25 ((dnI mm d but i).2.2.2.2.2.1)) 26 ((dnI mm d but i).2.2.2.2.2.2.1)) 27 ((dnI mm d but i).2.2.2.2.2.2.2.1)) 28 ((dnI mm d but i).2.2.2.2.2.2.2.2)) 33 ((dnI mm d but i).2.2.2.2.1)) 29 ((dnI mm d but i).1)) 30 ((dnI mm d but i).2.1)) 31 ((dnI mm d but i).2.2.1)) 32 ((dnI mm d but i).2.2.2.1)))) (_ : va_S A s.heap H locs) (ls : Array Slot) (_ : lv_has ls 6 [(0, .ref (a 0)), (1, .int d), (2, .int but), (3, .int (nI i))]), W p l e rm_X10_dances s m args below meth c H locs 0 0 Q (F0 m 51 ls []) := by
    intro n
    induction n with
    | zero =>
      intro i hn_i hi_i
      exact absurd hn_i (by omega)
    | succ n LB_51 =>
      intro i hn_i hi_i H locs hP hD hS ls hl
      refine lv_iload_n hx hb dX10_dances_51 rfl (lv_at hl 3 rfl) ?_
      refine lv_bipush (v := 10) hx hb dX10_dances_52 (by decide) ?_
      refine lv_icmp_ge (tgt := 251) hx hb dX10_dances_54 (by decide) (fun c_54 => ?_) (fun c_54 => ?_)
      · have i_54 := i_le c_54
        rw [(by decide : (10 : Int32).toInt = 10)] at i_54
        rw [nIT (by omega)] at i_54
        have e_54 : i = 10 := by omega
        have em_251_29 : (dnT (mm.2 1) (mm.2 2) (mm.2 3) (mm.2 4) (mm.2 29) (mm.2 30) (mm.2 31) (mm.2 32) (mm.1 25, mm.1 26, mm.1 27, mm.1 28) d but).1 = (dnI mm d but i).1 := by rw [e_54]; rfl
        have em_251_30 : (dnT (mm.2 1) (mm.2 2) (mm.2 3) (mm.2 4) (mm.2 29) (mm.2 30) (mm.2 31) (mm.2 32) (mm.1 25, mm.1 26, mm.1 27, mm.1 28) d but).2.1 = (dnI mm d but i).2.1 := by rw [e_54]; rfl
        have em_251_31 : (dnT (mm.2 1) (mm.2 2) (mm.2 3) (mm.2 4) (mm.2 29) (mm.2 30) (mm.2 31) (mm.2 32) (mm.1 25, mm.1 26, mm.1 27, mm.1 28) d but).2.2.1 = (dnI mm d but i).2.2.1 := by rw [e_54]; rfl
        have em_251_32 : (dnT (mm.2 1) (mm.2 2) (mm.2 3) (mm.2 4) (mm.2 29) (mm.2 30) (mm.2 31) (mm.2 32) (mm.1 25, mm.1 26, mm.1 27, mm.1 28) d but).2.2.2.1 = (dnI mm d but i).2.2.2.1 := by rw [e_54]; rfl
        have em_251_33 : (dnT (mm.2 1) (mm.2 2) (mm.2 3) (mm.2 4) (mm.2 29) (mm.2 30) (mm.2 31) (mm.2 32) (mm.1 25, mm.1 26, mm.1 27, mm.1 28) d but).2.2.2.2.1 = (dnI mm d but i).2.2.2.2.1 := by rw [e_54]; rfl
        have em_251_25 : (dnT (mm.2 1) (mm.2 2) (mm.2 3) (mm.2 4) (mm.2 29) (mm.2 30) (mm.2 31) (mm.2 32) (mm.1 25, mm.1 26, mm.1 27, mm.1 28) d but).2.2.2.2.2.1 = (dnI mm d but i).2.2.2.2.2.1 := by rw [e_54]; rfl
        have em_251_26 : (dnT (mm.2 1) (mm.2 2) (mm.2 3) (mm.2 4) (mm.2 29) (mm.2 30) (mm.2 31) (mm.2 32) (mm.1 25, mm.1 26, mm.1 27, mm.1 28) d but).2.2.2.2.2.2.1 = (dnI mm d but i).2.2.2.2.2.2.1 := by rw [e_54]; rfl
        have em_251_27 : (dnT (mm.2 1) (mm.2 2) (mm.2 3) (mm.2 4) (mm.2 29) (mm.2 30) (mm.2 31) (mm.2 32) (mm.1 25, mm.1 26, mm.1 27, mm.1 28) d but).2.2.2.2.2.2.2.1 = (dnI mm d but i).2.2.2.2.2.2.2.1 := by rw [e_54]; rfl
        have em_251_28 : (dnT (mm.2 1) (mm.2 2) (mm.2 3) (mm.2 4) (mm.2 29) (mm.2 30) (mm.2 31) (mm.2 32) (mm.1 25, mm.1 26, mm.1 27, mm.1 28) d but).2.2.2.2.2.2.2.2 = (dnI mm d but i).2.2.2.2.2.2.2.2 := by rw [e_54]; rfl
        have hP : va_P D vwCl (wM a cI cZ (mS (mS (mS (mS (mS (mF (mF (mF (mF mm 29 ((dnI mm d but i).1)) 30 ((dnI mm d but i).2.1)) 31 ((dnI mm d but i).2.2.1)) 32 ((dnI mm d but i).2.2.2.1)) 33 ((dnI mm d but i).2.2.2.2.1)) 25 ((dnI mm d but i).2.2.2.2.2.1)) 26 ((dnI mm d but i).2.2.2.2.2.2.1)) 27 ((dnI mm d but i).2.2.2.2.2.2.2.1)) 28 ((dnI mm d but i).2.2.2.2.2.2.2.2))) H := hP
        have hD : va_D A (wM a cI cZ (mS (mS (mS (mS (mS (mF (mF (mF (mF mm 29 ((dnI mm d but i).1)) 30 ((dnI mm d but i).2.1)) 31 ((dnI mm d but i).2.2.1)) 32 ((dnI mm d but i).2.2.2.1)) 33 ((dnI mm d but i).2.2.2.2.1)) 25 ((dnI mm d but i).2.2.2.2.2.1)) 26 ((dnI mm d but i).2.2.2.2.2.2.1)) 27 ((dnI mm d but i).2.2.2.2.2.2.2.1)) 28 ((dnI mm d but i).2.2.2.2.2.2.2.2))) := hD
        have eM_251 : (mS (mS (mS (mS (mS (mF (mF (mF (mF mm 29 ((dnT (mm.2 1) (mm.2 2) (mm.2 3) (mm.2 4) (mm.2 29) (mm.2 30) (mm.2 31) (mm.2 32) (mm.1 25, mm.1 26, mm.1 27, mm.1 28) d but).1)) 30 ((dnT (mm.2 1) (mm.2 2) (mm.2 3) (mm.2 4) (mm.2 29) (mm.2 30) (mm.2 31) (mm.2 32) (mm.1 25, mm.1 26, mm.1 27, mm.1 28) d but).2.1)) 31 ((dnT (mm.2 1) (mm.2 2) (mm.2 3) (mm.2 4) (mm.2 29) (mm.2 30) (mm.2 31) (mm.2 32) (mm.1 25, mm.1 26, mm.1 27, mm.1 28) d but).2.2.1)) 32 ((dnT (mm.2 1) (mm.2 2) (mm.2 3) (mm.2 4) (mm.2 29) (mm.2 30) (mm.2 31) (mm.2 32) (mm.1 25, mm.1 26, mm.1 27, mm.1 28) d but).2.2.2.1)) 33 ((dnT (mm.2 1) (mm.2 2) (mm.2 3) (mm.2 4) (mm.2 29) (mm.2 30) (mm.2 31) (mm.2 32) (mm.1 25, mm.1 26, mm.1 27, mm.1 28) d but).2.2.2.2.1)) 25 ((dnT (mm.2 1) (mm.2 2) (mm.2 3) (mm.2 4) (mm.2 29) (mm.2 30) (mm.2 31) (mm.2 32) (mm.1 25, mm.1 26, mm.1 27, mm.1 28) d but).2.2.2.2.2.1)) 26 ((dnT (mm.2 1) (mm.2 2) (mm.2 3) (mm.2 4) (mm.2 29) (mm.2 30) (mm.2 31) (mm.2 32) (mm.1 25, mm.1 26, mm.1 27, mm.1 28) d but).2.2.2.2.2.2.1)) 27 ((dnT (mm.2 1) (mm.2 2) (mm.2 3) (mm.2 4) (mm.2 29) (mm.2 30) (mm.2 31) (mm.2 32) (mm.1 25, mm.1 26, mm.1 27, mm.1 28) d but).2.2.2.2.2.2.2.1)) 28 ((dnT (mm.2 1) (mm.2 2) (mm.2 3) (mm.2 4) (mm.2 29) (mm.2 30) (mm.2 31) (mm.2 32) (mm.1 25, mm.1 26, mm.1 27, mm.1 28) d but).2.2.2.2.2.2.2.2)) = (mS (mS (mS (mS (mS (mF (mF (mF (mF mm 29 ((dnI mm d but i).1)) 30 ((dnI mm d but i).2.1)) 31 ((dnI mm d but i).2.2.1)) 32 ((dnI mm d but i).2.2.2.1)) 33 ((dnI mm d but i).2.2.2.2.1)) 25 ((dnI mm d but i).2.2.2.2.2.1)) 26 ((dnI mm d but i).2.2.2.2.2.2.1)) 27 ((dnI mm d but i).2.2.2.2.2.2.2.1)) 28 ((dnI mm d but i).2.2.2.2.2.2.2.2)) := (mS_c (mS_c (mS_c (mS_c (mS_c (mF_c (mF_c (mF_c (mF_c rfl em_251_29) em_251_30) em_251_31) em_251_32) em_251_33) em_251_25) em_251_26) em_251_27) em_251_28)
        rw [← eM_251] at hP hD
        have hP : va_P D vwCl (wM a cI cZ (mS (mS (mS (mS (mS (mF (mF (mF (mF mm 29 ((dnT (mm.2 1) (mm.2 2) (mm.2 3) (mm.2 4) (mm.2 29) (mm.2 30) (mm.2 31) (mm.2 32) (mm.1 25, mm.1 26, mm.1 27, mm.1 28) d but).1)) 30 ((dnT (mm.2 1) (mm.2 2) (mm.2 3) (mm.2 4) (mm.2 29) (mm.2 30) (mm.2 31) (mm.2 32) (mm.1 25, mm.1 26, mm.1 27, mm.1 28) d but).2.1)) 31 ((dnT (mm.2 1) (mm.2 2) (mm.2 3) (mm.2 4) (mm.2 29) (mm.2 30) (mm.2 31) (mm.2 32) (mm.1 25, mm.1 26, mm.1 27, mm.1 28) d but).2.2.1)) 32 ((dnT (mm.2 1) (mm.2 2) (mm.2 3) (mm.2 4) (mm.2 29) (mm.2 30) (mm.2 31) (mm.2 32) (mm.1 25, mm.1 26, mm.1 27, mm.1 28) d but).2.2.2.1)) 33 ((dnT (mm.2 1) (mm.2 2) (mm.2 3) (mm.2 4) (mm.2 29) (mm.2 30) (mm.2 31) (mm.2 32) (mm.1 25, mm.1 26, mm.1 27, mm.1 28) d but).2.2.2.2.1)) 25 ((dnT (mm.2 1) (mm.2 2) (mm.2 3) (mm.2 4) (mm.2 29) (mm.2 30) (mm.2 31) (mm.2 32) (mm.1 25, mm.1 26, mm.1 27, mm.1 28) d but).2.2.2.2.2.1)) 26 ((dnT (mm.2 1) (mm.2 2) (mm.2 3) (mm.2 4) (mm.2 29) (mm.2 30) (mm.2 31) (mm.2 32) (mm.1 25, mm.1 26, mm.1 27, mm.1 28) d but).2.2.2.2.2.2.1)) 27 ((dnT (mm.2 1) (mm.2 2) (mm.2 3) (mm.2 4) (mm.2 29) (mm.2 30) (mm.2 31) (mm.2 32) (mm.1 25, mm.1 26, mm.1 27, mm.1 28) d but).2.2.2.2.2.2.2.1)) 28 ((dnT (mm.2 1) (mm.2 2) (mm.2 3) (mm.2 4) (mm.2 29) (mm.2 30) (mm.2 31) (mm.2 32) (mm.1 25, mm.1 26, mm.1 27, mm.1 28) d but).2.2.2.2.2.2.2.2))) H := hP
        have hD : va_D A (wM a cI cZ (mS (mS (mS (mS (mS (mF (mF (mF (mF mm 29 ((dnT (mm.2 1) (mm.2 2) (mm.2 3) (mm.2 4) (mm.2 29) (mm.2 30) (mm.2 31) (mm.2 32) (mm.1 25, mm.1 26, mm.1 27, mm.1 28) d but).1)) 30 ((dnT (mm.2 1) (mm.2 2) (mm.2 3) (mm.2 4) (mm.2 29) (mm.2 30) (mm.2 31) (mm.2 32) (mm.1 25, mm.1 26, mm.1 27, mm.1 28) d but).2.1)) 31 ((dnT (mm.2 1) (mm.2 2) (mm.2 3) (mm.2 4) (mm.2 29) (mm.2 30) (mm.2 31) (mm.2 32) (mm.1 25, mm.1 26, mm.1 27, mm.1 28) d but).2.2.1)) 32 ((dnT (mm.2 1) (mm.2 2) (mm.2 3) (mm.2 4) (mm.2 29) (mm.2 30) (mm.2 31) (mm.2 32) (mm.1 25, mm.1 26, mm.1 27, mm.1 28) d but).2.2.2.1)) 33 ((dnT (mm.2 1) (mm.2 2) (mm.2 3) (mm.2 4) (mm.2 29) (mm.2 30) (mm.2 31) (mm.2 32) (mm.1 25, mm.1 26, mm.1 27, mm.1 28) d but).2.2.2.2.1)) 25 ((dnT (mm.2 1) (mm.2 2) (mm.2 3) (mm.2 4) (mm.2 29) (mm.2 30) (mm.2 31) (mm.2 32) (mm.1 25, mm.1 26, mm.1 27, mm.1 28) d but).2.2.2.2.2.1)) 26 ((dnT (mm.2 1) (mm.2 2) (mm.2 3) (mm.2 4) (mm.2 29) (mm.2 30) (mm.2 31) (mm.2 32) (mm.1 25, mm.1 26, mm.1 27, mm.1 28) d but).2.2.2.2.2.2.1)) 27 ((dnT (mm.2 1) (mm.2 2) (mm.2 3) (mm.2 4) (mm.2 29) (mm.2 30) (mm.2 31) (mm.2 32) (mm.1 25, mm.1 26, mm.1 27, mm.1 28) d but).2.2.2.2.2.2.2.1)) 28 ((dnT (mm.2 1) (mm.2 2) (mm.2 3) (mm.2 4) (mm.2 29) (mm.2 30) (mm.2 31) (mm.2 32) (mm.1 25, mm.1 26, mm.1 27, mm.1 28) d but).2.2.2.2.2.2.2.2))) := hD
        exact lf_v hx hb hr hlocks hQ (mS (mS (mS (mS (mS (mF (mF (mF (mF mm 29 ((dnT (mm.2 1) (mm.2 2) (mm.2 3) (mm.2 4) (mm.2 29) (mm.2 30) (mm.2 31) (mm.2 32) (mm.1 25, mm.1 26, mm.1 27, mm.1 28) d but).1)) 30 ((dnT (mm.2 1) (mm.2 2) (mm.2 3) (mm.2 4) (mm.2 29) (mm.2 30) (mm.2 31) (mm.2 32) (mm.1 25, mm.1 26, mm.1 27, mm.1 28) d but).2.1)) 31 ((dnT (mm.2 1) (mm.2 2) (mm.2 3) (mm.2 4) (mm.2 29) (mm.2 30) (mm.2 31) (mm.2 32) (mm.1 25, mm.1 26, mm.1 27, mm.1 28) d but).2.2.1)) 32 ((dnT (mm.2 1) (mm.2 2) (mm.2 3) (mm.2 4) (mm.2 29) (mm.2 30) (mm.2 31) (mm.2 32) (mm.1 25, mm.1 26, mm.1 27, mm.1 28) d but).2.2.2.1)) 33 ((dnT (mm.2 1) (mm.2 2) (mm.2 3) (mm.2 4) (mm.2 29) (mm.2 30) (mm.2 31) (mm.2 32) (mm.1 25, mm.1 26, mm.1 27, mm.1 28) d but).2.2.2.2.1)) 25 ((dnT (mm.2 1) (mm.2 2) (mm.2 3) (mm.2 4) (mm.2 29) (mm.2 30) (mm.2 31) (mm.2 32) (mm.1 25, mm.1 26, mm.1 27, mm.1 28) d but).2.2.2.2.2.1)) 26 ((dnT (mm.2 1) (mm.2 2) (mm.2 3) (mm.2 4) (mm.2 29) (mm.2 30) (mm.2 31) (mm.2 32) (mm.1 25, mm.1 26, mm.1 27, mm.1 28) d but).2.2.2.2.2.2.1)) 27 ((dnT (mm.2 1) (mm.2 2) (mm.2 3) (mm.2 4) (mm.2 29) (mm.2 30) (mm.2 31) (mm.2 32) (mm.1 25, mm.1 26, mm.1 27, mm.1 28) d but).2.2.2.2.2.2.2.1)) 28 ((dnT (mm.2 1) (mm.2 2) (mm.2 3) (mm.2 4) (mm.2 29) (mm.2 30) (mm.2 31) (mm.2 32) (mm.1 25, mm.1 26, mm.1 27, mm.1 28) d but).2.2.2.2.2.2.2.2)) hP hD hS dX10_dances_251 rfl
      · have i_54 := i_nle c_54
        rw [(by decide : (10 : Int32).toInt = 10)] at i_54
        rw [nIT (by omega)] at i_54
        have LB_92 : ∀ (g : Int32) (eg : dnG (mm.2 4 (11 * d).toNatClampNeg) (dnSg (mm.2 4) d) but (dnI mm d but i).2.2.2.2.1 i = g) (H : Heap) (locs : List Loc) (_ : va_P D vwCl (wM a cI cZ (mF (mF (mF (mF (mS (mS (mS (mS (mS mm 25 ((dnI mm d but i).2.2.2.2.2.1)) 26 ((dnI mm d but i).2.2.2.2.2.2.1)) 27 ((dnI mm d but i).2.2.2.2.2.2.2.1)) 28 ((dnI mm d but i).2.2.2.2.2.2.2.2)) 33 ((dnI mm d but i).2.2.2.2.1)) 29 ((dnI mm d but i).1)) 30 ((dnI mm d but i).2.1)) 31 ((dnI mm d but i).2.2.1)) 32 ((dnI mm d but i).2.2.2.1))) H) (_ : va_D A (wM a cI cZ (mF (mF (mF (mF (mS (mS (mS (mS (mS mm 25 ((dnI mm d but i).2.2.2.2.2.1)) 26 ((dnI mm d but i).2.2.2.2.2.2.1)) 27 ((dnI mm d but i).2.2.2.2.2.2.2.1)) 28 ((dnI mm d but i).2.2.2.2.2.2.2.2)) 33 ((dnI mm d but i).2.2.2.2.1)) 29 ((dnI mm d but i).1)) 30 ((dnI mm d but i).2.1)) 31 ((dnI mm d but i).2.2.1)) 32 ((dnI mm d but i).2.2.2.1)))) (_ : va_S A s.heap H locs) (ls : Array Slot) (_ : lv_has ls 6 [(0, .ref (a 0)), (1, .int d), (2, .int but), (3, .int (nI i)), (4, .int g)]), W p l e rm_X10_dances s m args below meth c H locs 0 0 Q (F0 m 92 ls []) := by
          intro g eg H locs hP hD hS ls hl
          refine lv_aload_n hx hb dX10_dances_92 rfl (lv_at hl 0 rfl) ?_
          refine lv_aload_n hx hb dX10_dances_93 rfl (lv_at hl 0 rfl) ?_
          refine va_get (D := D) (ci := 10) (v := .ref (a 29)) (C := RX10) (T := TX10) (N := 37) hx hb hts hin_10 hown hK hP 0 rfl rfl 29 (by decide) fl_53 (fun _ h9 => h9) rfl dX10_dances_94 ?_
          refine lv_iload_n hx hb dX10_dances_97 rfl (lv_at hl 3 rfl) ?_
          refine va_iald (D := D) (f := (dnI mm d but i).1) hx hb hK hP 15 0 rfl rfl (vp_in_nI (by omega) (by decide)) dX10_dances_98 ?_
          refine lv_aload_n hx hb dX10_dances_99 rfl (lv_at hl 0 rfl) ?_
          refine va_get (D := D) (ci := 10) (v := .ref (a 30)) (C := RX10) (T := TX10) (N := 37) hx hb hts hin_10 hown hK hP 0 rfl rfl 30 (by decide) fl_56 (fun _ h9 => h9) rfl dX10_dances_100 ?_
          refine lv_iload_n hx hb dX10_dances_103 rfl (lv_at hl 3 rfl) ?_
          refine va_iald (D := D) (f := (dnI mm d but i).2.1) hx hb hK hP 16 0 rfl rfl (vp_in_nI (by omega) (by decide)) dX10_dances_104 ?_
          refine lv_aload_n hx hb dX10_dances_105 rfl (lv_at hl 0 rfl) ?_
          refine va_get (D := D) (ci := 10) (v := .ref (a 31)) (C := RX10) (T := TX10) (N := 37) hx hb hts hin_10 hown hK hP 0 rfl rfl 31 (by decide) fl_59 (fun _ h9 => h9) rfl dX10_dances_106 ?_
          refine lv_iload_n hx hb dX10_dances_109 rfl (lv_at hl 3 rfl) ?_
          refine va_iald (D := D) (f := (dnI mm d but i).2.2.1) hx hb hK hP 17 0 rfl rfl (vp_in_nI (by omega) (by decide)) dX10_dances_110 ?_
          refine lv_aload_n hx hb dX10_dances_111 rfl (lv_at hl 0 rfl) ?_
          refine va_get (D := D) (ci := 10) (v := .ref (a 32)) (C := RX10) (T := TX10) (N := 37) hx hb hts hin_10 hown hK hP 0 rfl rfl 32 (by decide) fl_62 (fun _ h9 => h9) rfl dX10_dances_112 ?_
          refine lv_iload_n hx hb dX10_dances_115 rfl (lv_at hl 3 rfl) ?_
          refine va_iald (D := D) (f := (dnI mm d but i).2.2.2.1) hx hb hK hP 18 0 rfl rfl (vp_in_nI (by omega) (by decide)) dX10_dances_116 ?_
          refine lv_iload hx hb dX10_dances_117 (lv_at hl 4 rfl) ?_
          refine sw_i (va_runV (As := [.int ((dnI mm d but i).1 (nI i).toNatClampNeg), .int ((dnI mm d but i).2.1 (nI i).toNatClampNeg), .int ((dnI mm d but i).2.2.1 (nI i).toNatClampNeg), .int ((dnI mm d but i).2.2.2.1 (nI i).toNatClampNeg), .int g]) (rest := []) ⟨hx, hb, hml, hown, hts⟩ (c_X10_leads l D cI cJ cZ a H.size (mF (mF (mF (mF (mS (mS (mS (mS (mS mm 25 ((dnI mm d but i).2.2.2.2.2.1)) 26 ((dnI mm d but i).2.2.2.2.2.2.1)) 27 ((dnI mm d but i).2.2.2.2.2.2.2.1)) 28 ((dnI mm d but i).2.2.2.2.2.2.2.2)) 33 ((dnI mm d but i).2.2.2.2.1)) 29 ((dnI mm d but i).1)) 30 ((dnI mm d but i).2.1)) 31 ((dnI mm d but i).2.2.1)) 32 ((dnI mm d but i).2.2.2.1)) ((dnI mm d but i).1 (nI i).toNatClampNeg) ((dnI mm d but i).2.1 (nI i).toNatClampNeg) ((dnI mm d but i).2.2.1 (nI i).toNatClampNeg) ((dnI mm d but i).2.2.2.1 (nI i).toNatClampNeg) g) (cwV 5 hts gX10_dances_X10_leads rfl rfl rfl (by decide +kernel) ⟨Nat.le_of_ble_eq_true rfl, Nat.le_of_ble_eq_true rfl⟩) (pr_V hP hD hK hN hE hS hA [0, 1, 2, 3, 4, 5, 6, 7, 8, 9, 10, 11, 12, 13, 14, 15, 16, 17, 18, 19, 20, 21] (by decide) rfl (ci := 10) (q0 := 0) rfl rfl) rfl rfl hl.1 rfl (lv_room (Nat.le_of_ble_eq_true rfl)) dX10_dances_119 ⟨Nat.zero_le _, Nat.zero_le _⟩) hD hS hA (fun r_119 u_119 H locs hw_119 hP hD hS => ?_)
          obtain ⟨hr_119, rfl⟩ := hw_119
          have hP : va_P D vwCl (wM a cI cZ (mF (mF (mF (mF (mS (mS (mS (mS (mS mm 25 (ldX ((dnI mm d but i).1 (nI i).toNatClampNeg) ((dnI mm d but i).2.2.1 (nI i).toNatClampNeg) g)) 26 (ldY ((dnI mm d but i).2.1 (nI i).toNatClampNeg) ((dnI mm d but i).2.2.1 (nI i).toNatClampNeg) g)) 27 (ldL ((dnI mm d but i).2.2.1 (nI i).toNatClampNeg) g)) 28 (ldW ((dnI mm d but i).2.2.2.1 (nI i).toNatClampNeg) g)) 33 ((dnI mm d but i).2.2.2.2.1)) 29 ((dnI mm d but i).1)) 30 ((dnI mm d but i).2.1)) 31 ((dnI mm d but i).2.2.1)) 32 ((dnI mm d but i).2.2.2.1))) H := hP
          have hD : va_D A (wM a cI cZ (mF (mF (mF (mF (mS (mS (mS (mS (mS mm 25 (ldX ((dnI mm d but i).1 (nI i).toNatClampNeg) ((dnI mm d but i).2.2.1 (nI i).toNatClampNeg) g)) 26 (ldY ((dnI mm d but i).2.1 (nI i).toNatClampNeg) ((dnI mm d but i).2.2.1 (nI i).toNatClampNeg) g)) 27 (ldL ((dnI mm d but i).2.2.1 (nI i).toNatClampNeg) g)) 28 (ldW ((dnI mm d but i).2.2.2.1 (nI i).toNatClampNeg) g)) 33 ((dnI mm d but i).2.2.2.2.1)) 29 ((dnI mm d but i).1)) 30 ((dnI mm d but i).2.1)) 31 ((dnI mm d but i).2.2.1)) 32 ((dnI mm d but i).2.2.2.1))) := hD
          have hr_119 : r_119 = bI (ldB ((dnI mm d but i).1 (nI i).toNatClampNeg) ((dnI mm d but i).2.1 (nI i).toNatClampNeg) ((dnI mm d but i).2.2.1 (nI i).toNatClampNeg) ((dnI mm d but i).2.2.2.1 (nI i).toNatClampNeg) g) := hr_119
          refine lv_istore (lv' := [(5, .int r_119), (0, .ref (a 0)), (1, .int d), (2, .int but), (3, .int (nI i)), (4, .int g)]) hx hb dX10_dances_122 hl (by decide) rfl (fun ls hl => ?_)
          refine lv_aload_n hx hb dX10_dances_124 rfl (lv_at hl 1 rfl) ?_
          refine lv_iload hx hb dX10_dances_125 (lv_at hl 0 rfl) ?_
          refine lv_if_eq (tgt := 137) hx hb dX10_dances_127 (by decide) (fun c_127 => ?_) (fun c_127 => ?_)
          · have b_127 : (ldB ((dnI mm d but i).1 (nI i).toNatClampNeg) ((dnI mm d but i).2.1 (nI i).toNatClampNeg) ((dnI mm d but i).2.2.1 (nI i).toNatClampNeg) ((dnI mm d but i).2.2.2.1 (nI i).toNatClampNeg) g) = false := bI_0 (hr_119.symm.trans c_127)
            refine lv_iload_n hx hb dX10_dances_137 rfl (lv_at hl 4 rfl) ?_
            refine va_put (D := D) (ci := 10) (v := .int (nI i)) (ty := .int) (C := RX10) (T := TX10) (N := 37) hx hb hts hin_10 tyX10 tyX10_ok nmX10 hown hK hP hD hS 0 rfl rfl 33 (by decide) fl_155 (fun _ h9 => h9) rfl (by decide +kernel) rfl rfl (Nat.le_of_ble_eq_true rfl) dX10_dances_138 (fun H locs hP hD hS => ?_)
            have hP : va_P D vwCl (wM a cI cZ (mF (mF (mF (mF (mS (mS (mS (mS (mS mm 25 (ldX ((dnI mm d but i).1 (nI i).toNatClampNeg) ((dnI mm d but i).2.2.1 (nI i).toNatClampNeg) g)) 26 (ldY ((dnI mm d but i).2.1 (nI i).toNatClampNeg) ((dnI mm d but i).2.2.1 (nI i).toNatClampNeg) g)) 27 (ldL ((dnI mm d but i).2.2.1 (nI i).toNatClampNeg) g)) 28 (ldW ((dnI mm d but i).2.2.2.1 (nI i).toNatClampNeg) g)) 33 (nI i)) 29 ((dnI mm d but i).1)) 30 ((dnI mm d but i).2.1)) 31 ((dnI mm d but i).2.2.1)) 32 ((dnI mm d but i).2.2.2.1))) H := hP
            have hD : va_D A (wM a cI cZ (mF (mF (mF (mF (mS (mS (mS (mS (mS mm 25 (ldX ((dnI mm d but i).1 (nI i).toNatClampNeg) ((dnI mm d but i).2.2.1 (nI i).toNatClampNeg) g)) 26 (ldY ((dnI mm d but i).2.1 (nI i).toNatClampNeg) ((dnI mm d but i).2.2.1 (nI i).toNatClampNeg) g)) 27 (ldL ((dnI mm d but i).2.2.1 (nI i).toNatClampNeg) g)) 28 (ldW ((dnI mm d but i).2.2.2.1 (nI i).toNatClampNeg) g)) 33 (nI i)) 29 ((dnI mm d but i).1)) 30 ((dnI mm d but i).2.1)) 31 ((dnI mm d but i).2.2.1)) 32 ((dnI mm d but i).2.2.2.1))) := hD
            refine lv_aload_n hx hb dX10_dances_141 rfl (lv_at hl 1 rfl) ?_
            refine va_get (D := D) (ci := 10) (v := .ref (a 29)) (C := RX10) (T := TX10) (N := 37) hx hb hts hin_10 hown hK hP 0 rfl rfl 29 (by decide) fl_53 (fun _ h9 => h9) rfl dX10_dances_142 ?_
            refine lv_iload_n hx hb dX10_dances_145 rfl (lv_at hl 4 rfl) ?_
            refine lv_iconst (v := 1) hx hb dX10_dances_146 (by decide) ?_
            refine lv_iadd hx hb dX10_dances_147 ?_
            refine lv_iload hx hb dX10_dances_148 (lv_at hl 0 rfl) ?_
            refine lv_if_eq (tgt := 160) hx hb dX10_dances_150 (by decide) (fun c_150 => ?_) (fun c_150 => ?_)
            · have b_150 : (ldB ((dnI mm d but i).1 (nI i).toNatClampNeg) ((dnI mm d but i).2.1 (nI i).toNatClampNeg) ((dnI mm d but i).2.2.1 (nI i).toNatClampNeg) ((dnI mm d but i).2.2.2.1 (nI i).toNatClampNeg) g) = false := bI_0 (hr_119.symm.trans c_150)
              refine lv_aload_n hx hb dX10_dances_160 rfl (lv_at hl 1 rfl) ?_
              refine va_get (D := D) (ci := 10) (v := .ref (a 29)) (C := RX10) (T := TX10) (N := 37) hx hb hts hin_10 hown hK hP 0 rfl rfl 29 (by decide) fl_53 (fun _ h9 => h9) rfl dX10_dances_161 ?_
              refine lv_iload_n hx hb dX10_dances_164 rfl (lv_at hl 4 rfl) ?_
              refine va_iald (D := D) (f := (dnI mm d but i).1) hx hb hK hP 15 0 rfl rfl (vp_in_nI (by omega) (by decide)) dX10_dances_165 ?_
              refine va_iast (D := D) (f := (dnI mm d but i).1) hx hb hK hP hD hS 15 0 rfl rfl (by rw [show nI i + 1 = nI (i + 1) from nI_1 i]; exact vp_in_nI (by omega) (by decide)) dX10_dances_166 (fun H locs hP hD hS => ?_)
              have hP : va_P D vwCl (wM a cI cZ (mF (mF (mF (mF (mS (mS (mS (mS (mS mm 25 (ldX ((dnI mm d but i).1 (nI i).toNatClampNeg) ((dnI mm d but i).2.2.1 (nI i).toNatClampNeg) g)) 26 (ldY ((dnI mm d but i).2.1 (nI i).toNatClampNeg) ((dnI mm d but i).2.2.1 (nI i).toNatClampNeg) g)) 27 (ldL ((dnI mm d but i).2.2.1 (nI i).toNatClampNeg) g)) 28 (ldW ((dnI mm d but i).2.2.2.1 (nI i).toNatClampNeg) g)) 33 (nI i)) 29 (upd ((dnI mm d but i).1) (((nI i) + 1).toNatClampNeg) ((dnI mm d but i).1 (nI i).toNatClampNeg))) 30 ((dnI mm d but i).2.1)) 31 ((dnI mm d but i).2.2.1)) 32 ((dnI mm d but i).2.2.2.1))) H := hP
              have hD : va_D A (wM a cI cZ (mF (mF (mF (mF (mS (mS (mS (mS (mS mm 25 (ldX ((dnI mm d but i).1 (nI i).toNatClampNeg) ((dnI mm d but i).2.2.1 (nI i).toNatClampNeg) g)) 26 (ldY ((dnI mm d but i).2.1 (nI i).toNatClampNeg) ((dnI mm d but i).2.2.1 (nI i).toNatClampNeg) g)) 27 (ldL ((dnI mm d but i).2.2.1 (nI i).toNatClampNeg) g)) 28 (ldW ((dnI mm d but i).2.2.2.1 (nI i).toNatClampNeg) g)) 33 (nI i)) 29 (upd ((dnI mm d but i).1) (((nI i) + 1).toNatClampNeg) ((dnI mm d but i).1 (nI i).toNatClampNeg))) 30 ((dnI mm d but i).2.1)) 31 ((dnI mm d but i).2.2.1)) 32 ((dnI mm d but i).2.2.2.1))) := hD
              refine lv_aload_n hx hb dX10_dances_167 rfl (lv_at hl 1 rfl) ?_
              refine va_get (D := D) (ci := 10) (v := .ref (a 30)) (C := RX10) (T := TX10) (N := 37) hx hb hts hin_10 hown hK hP 0 rfl rfl 30 (by decide) fl_56 (fun _ h9 => h9) rfl dX10_dances_168 ?_
              refine lv_iload_n hx hb dX10_dances_171 rfl (lv_at hl 4 rfl) ?_
              refine lv_iconst (v := 1) hx hb dX10_dances_172 (by decide) ?_
              refine lv_iadd hx hb dX10_dances_173 ?_
              refine lv_iload hx hb dX10_dances_174 (lv_at hl 0 rfl) ?_
              refine lv_if_eq (tgt := 186) hx hb dX10_dances_176 (by decide) (fun c_176 => ?_) (fun c_176 => ?_)
              · have b_176 : (ldB ((dnI mm d but i).1 (nI i).toNatClampNeg) ((dnI mm d but i).2.1 (nI i).toNatClampNeg) ((dnI mm d but i).2.2.1 (nI i).toNatClampNeg) ((dnI mm d but i).2.2.2.1 (nI i).toNatClampNeg) g) = false := bI_0 (hr_119.symm.trans c_176)
                refine lv_aload_n hx hb dX10_dances_186 rfl (lv_at hl 1 rfl) ?_
                refine va_get (D := D) (ci := 10) (v := .ref (a 30)) (C := RX10) (T := TX10) (N := 37) hx hb hts hin_10 hown hK hP 0 rfl rfl 30 (by decide) fl_56 (fun _ h9 => h9) rfl dX10_dances_187 ?_
                refine lv_iload_n hx hb dX10_dances_190 rfl (lv_at hl 4 rfl) ?_
                refine va_iald (D := D) (f := (dnI mm d but i).2.1) hx hb hK hP 16 0 rfl rfl (vp_in_nI (by omega) (by decide)) dX10_dances_191 ?_
                refine va_iast (D := D) (f := (dnI mm d but i).2.1) hx hb hK hP hD hS 16 0 rfl rfl (by rw [show nI i + 1 = nI (i + 1) from nI_1 i]; exact vp_in_nI (by omega) (by decide)) dX10_dances_192 (fun H locs hP hD hS => ?_)
                have hP : va_P D vwCl (wM a cI cZ (mF (mF (mF (mF (mS (mS (mS (mS (mS mm 25 (ldX ((dnI mm d but i).1 (nI i).toNatClampNeg) ((dnI mm d but i).2.2.1 (nI i).toNatClampNeg) g)) 26 (ldY ((dnI mm d but i).2.1 (nI i).toNatClampNeg) ((dnI mm d but i).2.2.1 (nI i).toNatClampNeg) g)) 27 (ldL ((dnI mm d but i).2.2.1 (nI i).toNatClampNeg) g)) 28 (ldW ((dnI mm d but i).2.2.2.1 (nI i).toNatClampNeg) g)) 33 (nI i)) 29 (upd ((dnI mm d but i).1) (((nI i) + 1).toNatClampNeg) ((dnI mm d but i).1 (nI i).toNatClampNeg))) 30 (upd ((dnI mm d but i).2.1) (((nI i) + 1).toNatClampNeg) ((dnI mm d but i).2.1 (nI i).toNatClampNeg))) 31 ((dnI mm d but i).2.2.1)) 32 ((dnI mm d but i).2.2.2.1))) H := hP
                have hD : va_D A (wM a cI cZ (mF (mF (mF (mF (mS (mS (mS (mS (mS mm 25 (ldX ((dnI mm d but i).1 (nI i).toNatClampNeg) ((dnI mm d but i).2.2.1 (nI i).toNatClampNeg) g)) 26 (ldY ((dnI mm d but i).2.1 (nI i).toNatClampNeg) ((dnI mm d but i).2.2.1 (nI i).toNatClampNeg) g)) 27 (ldL ((dnI mm d but i).2.2.1 (nI i).toNatClampNeg) g)) 28 (ldW ((dnI mm d but i).2.2.2.1 (nI i).toNatClampNeg) g)) 33 (nI i)) 29 (upd ((dnI mm d but i).1) (((nI i) + 1).toNatClampNeg) ((dnI mm d but i).1 (nI i).toNatClampNeg))) 30 (upd ((dnI mm d but i).2.1) (((nI i) + 1).toNatClampNeg) ((dnI mm d but i).2.1 (nI i).toNatClampNeg))) 31 ((dnI mm d but i).2.2.1)) 32 ((dnI mm d but i).2.2.2.1))) := hD
                refine lv_aload_n hx hb dX10_dances_193 rfl (lv_at hl 1 rfl) ?_
                refine va_get (D := D) (ci := 10) (v := .ref (a 31)) (C := RX10) (T := TX10) (N := 37) hx hb hts hin_10 hown hK hP 0 rfl rfl 31 (by decide) fl_59 (fun _ h9 => h9) rfl dX10_dances_194 ?_
                refine lv_iload_n hx hb dX10_dances_197 rfl (lv_at hl 4 rfl) ?_
                refine lv_iconst (v := 1) hx hb dX10_dances_198 (by decide) ?_
                refine lv_iadd hx hb dX10_dances_199 ?_
                refine lv_iload hx hb dX10_dances_200 (lv_at hl 0 rfl) ?_
                refine lv_if_eq (tgt := 212) hx hb dX10_dances_202 (by decide) (fun c_202 => ?_) (fun c_202 => ?_)
                · have b_202 : (ldB ((dnI mm d but i).1 (nI i).toNatClampNeg) ((dnI mm d but i).2.1 (nI i).toNatClampNeg) ((dnI mm d but i).2.2.1 (nI i).toNatClampNeg) ((dnI mm d but i).2.2.2.1 (nI i).toNatClampNeg) g) = false := bI_0 (hr_119.symm.trans c_202)
                  refine lv_aload_n hx hb dX10_dances_212 rfl (lv_at hl 1 rfl) ?_
                  refine va_get (D := D) (ci := 10) (v := .ref (a 31)) (C := RX10) (T := TX10) (N := 37) hx hb hts hin_10 hown hK hP 0 rfl rfl 31 (by decide) fl_59 (fun _ h9 => h9) rfl dX10_dances_213 ?_
                  refine lv_iload_n hx hb dX10_dances_216 rfl (lv_at hl 4 rfl) ?_
                  refine va_iald (D := D) (f := (dnI mm d but i).2.2.1) hx hb hK hP 17 0 rfl rfl (vp_in_nI (by omega) (by decide)) dX10_dances_217 ?_
                  refine va_iast (D := D) (f := (dnI mm d but i).2.2.1) hx hb hK hP hD hS 17 0 rfl rfl (by rw [show nI i + 1 = nI (i + 1) from nI_1 i]; exact vp_in_nI (by omega) (by decide)) dX10_dances_218 (fun H locs hP hD hS => ?_)
                  have hP : va_P D vwCl (wM a cI cZ (mF (mF (mF (mF (mS (mS (mS (mS (mS mm 25 (ldX ((dnI mm d but i).1 (nI i).toNatClampNeg) ((dnI mm d but i).2.2.1 (nI i).toNatClampNeg) g)) 26 (ldY ((dnI mm d but i).2.1 (nI i).toNatClampNeg) ((dnI mm d but i).2.2.1 (nI i).toNatClampNeg) g)) 27 (ldL ((dnI mm d but i).2.2.1 (nI i).toNatClampNeg) g)) 28 (ldW ((dnI mm d but i).2.2.2.1 (nI i).toNatClampNeg) g)) 33 (nI i)) 29 (upd ((dnI mm d but i).1) (((nI i) + 1).toNatClampNeg) ((dnI mm d but i).1 (nI i).toNatClampNeg))) 30 (upd ((dnI mm d but i).2.1) (((nI i) + 1).toNatClampNeg) ((dnI mm d but i).2.1 (nI i).toNatClampNeg))) 31 (upd ((dnI mm d but i).2.2.1) (((nI i) + 1).toNatClampNeg) ((dnI mm d but i).2.2.1 (nI i).toNatClampNeg))) 32 ((dnI mm d but i).2.2.2.1))) H := hP
                  have hD : va_D A (wM a cI cZ (mF (mF (mF (mF (mS (mS (mS (mS (mS mm 25 (ldX ((dnI mm d but i).1 (nI i).toNatClampNeg) ((dnI mm d but i).2.2.1 (nI i).toNatClampNeg) g)) 26 (ldY ((dnI mm d but i).2.1 (nI i).toNatClampNeg) ((dnI mm d but i).2.2.1 (nI i).toNatClampNeg) g)) 27 (ldL ((dnI mm d but i).2.2.1 (nI i).toNatClampNeg) g)) 28 (ldW ((dnI mm d but i).2.2.2.1 (nI i).toNatClampNeg) g)) 33 (nI i)) 29 (upd ((dnI mm d but i).1) (((nI i) + 1).toNatClampNeg) ((dnI mm d but i).1 (nI i).toNatClampNeg))) 30 (upd ((dnI mm d but i).2.1) (((nI i) + 1).toNatClampNeg) ((dnI mm d but i).2.1 (nI i).toNatClampNeg))) 31 (upd ((dnI mm d but i).2.2.1) (((nI i) + 1).toNatClampNeg) ((dnI mm d but i).2.2.1 (nI i).toNatClampNeg))) 32 ((dnI mm d but i).2.2.2.1))) := hD
                  refine lv_aload_n hx hb dX10_dances_219 rfl (lv_at hl 1 rfl) ?_
                  refine va_get (D := D) (ci := 10) (v := .ref (a 32)) (C := RX10) (T := TX10) (N := 37) hx hb hts hin_10 hown hK hP 0 rfl rfl 32 (by decide) fl_62 (fun _ h9 => h9) rfl dX10_dances_220 ?_
                  refine lv_iload_n hx hb dX10_dances_223 rfl (lv_at hl 4 rfl) ?_
                  refine lv_iconst (v := 1) hx hb dX10_dances_224 (by decide) ?_
                  refine lv_iadd hx hb dX10_dances_225 ?_
                  refine lv_iload hx hb dX10_dances_226 (lv_at hl 0 rfl) ?_
                  refine lv_if_eq (tgt := 238) hx hb dX10_dances_228 (by decide) (fun c_228 => ?_) (fun c_228 => ?_)
                  · have b_228 : (ldB ((dnI mm d but i).1 (nI i).toNatClampNeg) ((dnI mm d but i).2.1 (nI i).toNatClampNeg) ((dnI mm d but i).2.2.1 (nI i).toNatClampNeg) ((dnI mm d but i).2.2.2.1 (nI i).toNatClampNeg) g) = false := bI_0 (hr_119.symm.trans c_228)
                    refine lv_aload_n hx hb dX10_dances_238 rfl (lv_at hl 1 rfl) ?_
                    refine va_get (D := D) (ci := 10) (v := .ref (a 32)) (C := RX10) (T := TX10) (N := 37) hx hb hts hin_10 hown hK hP 0 rfl rfl 32 (by decide) fl_62 (fun _ h9 => h9) rfl dX10_dances_239 ?_
                    refine lv_iload_n hx hb dX10_dances_242 rfl (lv_at hl 4 rfl) ?_
                    refine va_iald (D := D) (f := (dnI mm d but i).2.2.2.1) hx hb hK hP 18 0 rfl rfl (vp_in_nI (by omega) (by decide)) dX10_dances_243 ?_
                    refine va_iast (D := D) (f := (dnI mm d but i).2.2.2.1) hx hb hK hP hD hS 18 0 rfl rfl (by rw [show nI i + 1 = nI (i + 1) from nI_1 i]; exact vp_in_nI (by omega) (by decide)) dX10_dances_244 (fun H locs hP hD hS => ?_)
                    have hP : va_P D vwCl (wM a cI cZ (mF (mF (mF (mF (mS (mS (mS (mS (mS mm 25 (ldX ((dnI mm d but i).1 (nI i).toNatClampNeg) ((dnI mm d but i).2.2.1 (nI i).toNatClampNeg) g)) 26 (ldY ((dnI mm d but i).2.1 (nI i).toNatClampNeg) ((dnI mm d but i).2.2.1 (nI i).toNatClampNeg) g)) 27 (ldL ((dnI mm d but i).2.2.1 (nI i).toNatClampNeg) g)) 28 (ldW ((dnI mm d but i).2.2.2.1 (nI i).toNatClampNeg) g)) 33 (nI i)) 29 (upd ((dnI mm d but i).1) (((nI i) + 1).toNatClampNeg) ((dnI mm d but i).1 (nI i).toNatClampNeg))) 30 (upd ((dnI mm d but i).2.1) (((nI i) + 1).toNatClampNeg) ((dnI mm d but i).2.1 (nI i).toNatClampNeg))) 31 (upd ((dnI mm d but i).2.2.1) (((nI i) + 1).toNatClampNeg) ((dnI mm d but i).2.2.1 (nI i).toNatClampNeg))) 32 (upd ((dnI mm d but i).2.2.2.1) (((nI i) + 1).toNatClampNeg) ((dnI mm d but i).2.2.2.1 (nI i).toNatClampNeg)))) H := hP
                    have hD : va_D A (wM a cI cZ (mF (mF (mF (mF (mS (mS (mS (mS (mS mm 25 (ldX ((dnI mm d but i).1 (nI i).toNatClampNeg) ((dnI mm d but i).2.2.1 (nI i).toNatClampNeg) g)) 26 (ldY ((dnI mm d but i).2.1 (nI i).toNatClampNeg) ((dnI mm d but i).2.2.1 (nI i).toNatClampNeg) g)) 27 (ldL ((dnI mm d but i).2.2.1 (nI i).toNatClampNeg) g)) 28 (ldW ((dnI mm d but i).2.2.2.1 (nI i).toNatClampNeg) g)) 33 (nI i)) 29 (upd ((dnI mm d but i).1) (((nI i) + 1).toNatClampNeg) ((dnI mm d but i).1 (nI i).toNatClampNeg))) 30 (upd ((dnI mm d but i).2.1) (((nI i) + 1).toNatClampNeg) ((dnI mm d but i).2.1 (nI i).toNatClampNeg))) 31 (upd ((dnI mm d but i).2.2.1) (((nI i) + 1).toNatClampNeg) ((dnI mm d but i).2.2.1 (nI i).toNatClampNeg))) 32 (upd ((dnI mm d but i).2.2.2.1) (((nI i) + 1).toNatClampNeg) ((dnI mm d but i).2.2.2.1 (nI i).toNatClampNeg)))) := hD
                    refine lv_iinc (v := ((nI i) + 1)) (lv' := [(3, .int ((nI i) + 1)), (5, .int r_119), (0, .ref (a 0)), (1, .int d), (2, .int but), (4, .int g)]) hx hb dX10_dances_245 hl (k := 4) rfl rfl (by decide) rfl (fun ls hl => ?_)
                    rw [show nI i + 1 = nI (i + 1) from nI_1 _] at hl
                    have hl : lv_has ls 6 [(3, .int (nI (i + 1))), (5, .int r_119), (0, .ref (a 0)), (1, .int d), (2, .int but), (4, .int g)] := hl
                    refine lv_goto (tgt := 51) hx hb dX10_dances_248 (by decide) ?_
                    have em_51_29 : (dnI mm d but (i + 1)).1 = (upd ((dnI mm d but i).1) (((nI i) + 1).toNatClampNeg) ((dnI mm d but i).1 (nI i).toNatClampNeg)) := by simp only [dnI_s, eg, dnP, b_127, ↓reduceIte, reduceCtorEq]
                    have em_51_30 : (dnI mm d but (i + 1)).2.1 = (upd ((dnI mm d but i).2.1) (((nI i) + 1).toNatClampNeg) ((dnI mm d but i).2.1 (nI i).toNatClampNeg)) := by simp only [dnI_s, eg, dnP, b_127, ↓reduceIte, reduceCtorEq]
                    have em_51_31 : (dnI mm d but (i + 1)).2.2.1 = (upd ((dnI mm d but i).2.2.1) (((nI i) + 1).toNatClampNeg) ((dnI mm d but i).2.2.1 (nI i).toNatClampNeg)) := by simp only [dnI_s, eg, dnP, b_127, ↓reduceIte, reduceCtorEq]
                    have em_51_32 : (dnI mm d but (i + 1)).2.2.2.1 = (upd ((dnI mm d but i).2.2.2.1) (((nI i) + 1).toNatClampNeg) ((dnI mm d but i).2.2.2.1 (nI i).toNatClampNeg)) := by simp only [dnI_s, eg, dnP, b_127, ↓reduceIte, reduceCtorEq]
                    have em_51_33 : (dnI mm d but (i + 1)).2.2.2.2.1 = (nI i) := by simp only [dnI_s, eg, dnP, b_127, ↓reduceIte, reduceCtorEq]
                    have em_51_25 : (dnI mm d but (i + 1)).2.2.2.2.2.1 = (ldX ((dnI mm d but i).1 (nI i).toNatClampNeg) ((dnI mm d but i).2.2.1 (nI i).toNatClampNeg) g) := by simp only [dnI_s, eg, dnP, b_127, ↓reduceIte, reduceCtorEq]
                    have em_51_26 : (dnI mm d but (i + 1)).2.2.2.2.2.2.1 = (ldY ((dnI mm d but i).2.1 (nI i).toNatClampNeg) ((dnI mm d but i).2.2.1 (nI i).toNatClampNeg) g) := by simp only [dnI_s, eg, dnP, b_127, ↓reduceIte, reduceCtorEq]
                    have em_51_27 : (dnI mm d but (i + 1)).2.2.2.2.2.2.2.1 = (ldL ((dnI mm d but i).2.2.1 (nI i).toNatClampNeg) g) := by simp only [dnI_s, eg, dnP, b_127, ↓reduceIte, reduceCtorEq]
                    have em_51_28 : (dnI mm d but (i + 1)).2.2.2.2.2.2.2.2 = (ldW ((dnI mm d but i).2.2.2.1 (nI i).toNatClampNeg) g) := by simp only [dnI_s, eg, dnP, b_127, ↓reduceIte, reduceCtorEq]
                    have hP : va_P D vwCl (wM a cI cZ (mS (mS (mS (mS (mS (mF (mF (mF (mF mm 29 (upd ((dnI mm d but i).1) (((nI i) + 1).toNatClampNeg) ((dnI mm d but i).1 (nI i).toNatClampNeg))) 30 (upd ((dnI mm d but i).2.1) (((nI i) + 1).toNatClampNeg) ((dnI mm d but i).2.1 (nI i).toNatClampNeg))) 31 (upd ((dnI mm d but i).2.2.1) (((nI i) + 1).toNatClampNeg) ((dnI mm d but i).2.2.1 (nI i).toNatClampNeg))) 32 (upd ((dnI mm d but i).2.2.2.1) (((nI i) + 1).toNatClampNeg) ((dnI mm d but i).2.2.2.1 (nI i).toNatClampNeg))) 33 (nI i)) 25 (ldX ((dnI mm d but i).1 (nI i).toNatClampNeg) ((dnI mm d but i).2.2.1 (nI i).toNatClampNeg) g)) 26 (ldY ((dnI mm d but i).2.1 (nI i).toNatClampNeg) ((dnI mm d but i).2.2.1 (nI i).toNatClampNeg) g)) 27 (ldL ((dnI mm d but i).2.2.1 (nI i).toNatClampNeg) g)) 28 (ldW ((dnI mm d but i).2.2.2.1 (nI i).toNatClampNeg) g))) H := hP
                    have hD : va_D A (wM a cI cZ (mS (mS (mS (mS (mS (mF (mF (mF (mF mm 29 (upd ((dnI mm d but i).1) (((nI i) + 1).toNatClampNeg) ((dnI mm d but i).1 (nI i).toNatClampNeg))) 30 (upd ((dnI mm d but i).2.1) (((nI i) + 1).toNatClampNeg) ((dnI mm d but i).2.1 (nI i).toNatClampNeg))) 31 (upd ((dnI mm d but i).2.2.1) (((nI i) + 1).toNatClampNeg) ((dnI mm d but i).2.2.1 (nI i).toNatClampNeg))) 32 (upd ((dnI mm d but i).2.2.2.1) (((nI i) + 1).toNatClampNeg) ((dnI mm d but i).2.2.2.1 (nI i).toNatClampNeg))) 33 (nI i)) 25 (ldX ((dnI mm d but i).1 (nI i).toNatClampNeg) ((dnI mm d but i).2.2.1 (nI i).toNatClampNeg) g)) 26 (ldY ((dnI mm d but i).2.1 (nI i).toNatClampNeg) ((dnI mm d but i).2.2.1 (nI i).toNatClampNeg) g)) 27 (ldL ((dnI mm d but i).2.2.1 (nI i).toNatClampNeg) g)) 28 (ldW ((dnI mm d but i).2.2.2.1 (nI i).toNatClampNeg) g))) := hD
                    have eM_51 : (mS (mS (mS (mS (mS (mF (mF (mF (mF mm 29 ((dnI mm d but (i + 1)).1)) 30 ((dnI mm d but (i + 1)).2.1)) 31 ((dnI mm d but (i + 1)).2.2.1)) 32 ((dnI mm d but (i + 1)).2.2.2.1)) 33 ((dnI mm d but (i + 1)).2.2.2.2.1)) 25 ((dnI mm d but (i + 1)).2.2.2.2.2.1)) 26 ((dnI mm d but (i + 1)).2.2.2.2.2.2.1)) 27 ((dnI mm d but (i + 1)).2.2.2.2.2.2.2.1)) 28 ((dnI mm d but (i + 1)).2.2.2.2.2.2.2.2)) = (mS (mS (mS (mS (mS (mF (mF (mF (mF mm 29 (upd ((dnI mm d but i).1) (((nI i) + 1).toNatClampNeg) ((dnI mm d but i).1 (nI i).toNatClampNeg))) 30 (upd ((dnI mm d but i).2.1) (((nI i) + 1).toNatClampNeg) ((dnI mm d but i).2.1 (nI i).toNatClampNeg))) 31 (upd ((dnI mm d but i).2.2.1) (((nI i) + 1).toNatClampNeg) ((dnI mm d but i).2.2.1 (nI i).toNatClampNeg))) 32 (upd ((dnI mm d but i).2.2.2.1) (((nI i) + 1).toNatClampNeg) ((dnI mm d but i).2.2.2.1 (nI i).toNatClampNeg))) 33 (nI i)) 25 (ldX ((dnI mm d but i).1 (nI i).toNatClampNeg) ((dnI mm d but i).2.2.1 (nI i).toNatClampNeg) g)) 26 (ldY ((dnI mm d but i).2.1 (nI i).toNatClampNeg) ((dnI mm d but i).2.2.1 (nI i).toNatClampNeg) g)) 27 (ldL ((dnI mm d but i).2.2.1 (nI i).toNatClampNeg) g)) 28 (ldW ((dnI mm d but i).2.2.2.1 (nI i).toNatClampNeg) g)) := (mS_c (mS_c (mS_c (mS_c (mS_c (mF_c (mF_c (mF_c (mF_c rfl em_51_29) em_51_30) em_51_31) em_51_32) em_51_33) em_51_25) em_51_26) em_51_27) em_51_28)
                    rw [← eM_51] at hP hD
                    have hP : va_P D vwCl (wM a cI cZ (mS (mS (mS (mS (mS (mF (mF (mF (mF mm 29 ((dnI mm d but (i + 1)).1)) 30 ((dnI mm d but (i + 1)).2.1)) 31 ((dnI mm d but (i + 1)).2.2.1)) 32 ((dnI mm d but (i + 1)).2.2.2.1)) 33 ((dnI mm d but (i + 1)).2.2.2.2.1)) 25 ((dnI mm d but (i + 1)).2.2.2.2.2.1)) 26 ((dnI mm d but (i + 1)).2.2.2.2.2.2.1)) 27 ((dnI mm d but (i + 1)).2.2.2.2.2.2.2.1)) 28 ((dnI mm d but (i + 1)).2.2.2.2.2.2.2.2))) H := hP
                    have hD : va_D A (wM a cI cZ (mS (mS (mS (mS (mS (mF (mF (mF (mF mm 29 ((dnI mm d but (i + 1)).1)) 30 ((dnI mm d but (i + 1)).2.1)) 31 ((dnI mm d but (i + 1)).2.2.1)) 32 ((dnI mm d but (i + 1)).2.2.2.1)) 33 ((dnI mm d but (i + 1)).2.2.2.2.1)) 25 ((dnI mm d but (i + 1)).2.2.2.2.2.1)) 26 ((dnI mm d but (i + 1)).2.2.2.2.2.2.1)) 27 ((dnI mm d but (i + 1)).2.2.2.2.2.2.2.1)) 28 ((dnI mm d but (i + 1)).2.2.2.2.2.2.2.2))) := hD
                    exact LB_51 (i + 1) (by omega) (by omega) H locs hP hD hS ls (lv_sub hl [2, 3, 4, 0] rfl)
                  · have b_228 : (ldB ((dnI mm d but i).1 (nI i).toNatClampNeg) ((dnI mm d but i).2.1 (nI i).toNatClampNeg) ((dnI mm d but i).2.2.1 (nI i).toNatClampNeg) ((dnI mm d but i).2.2.2.1 (nI i).toNatClampNeg) g) = true := bI_1 (fun q => c_228 (hr_119.trans q))
                    exact absurd (b_202.symm.trans b_228) (by decide)
                · have b_202 : (ldB ((dnI mm d but i).1 (nI i).toNatClampNeg) ((dnI mm d but i).2.1 (nI i).toNatClampNeg) ((dnI mm d but i).2.2.1 (nI i).toNatClampNeg) ((dnI mm d but i).2.2.2.1 (nI i).toNatClampNeg) g) = true := bI_1 (fun q => c_202 (hr_119.trans q))
                  exact absurd (b_176.symm.trans b_202) (by decide)
              · have b_176 : (ldB ((dnI mm d but i).1 (nI i).toNatClampNeg) ((dnI mm d but i).2.1 (nI i).toNatClampNeg) ((dnI mm d but i).2.2.1 (nI i).toNatClampNeg) ((dnI mm d but i).2.2.2.1 (nI i).toNatClampNeg) g) = true := bI_1 (fun q => c_176 (hr_119.trans q))
                exact absurd (b_150.symm.trans b_176) (by decide)
            · have b_150 : (ldB ((dnI mm d but i).1 (nI i).toNatClampNeg) ((dnI mm d but i).2.1 (nI i).toNatClampNeg) ((dnI mm d but i).2.2.1 (nI i).toNatClampNeg) ((dnI mm d but i).2.2.2.1 (nI i).toNatClampNeg) g) = true := bI_1 (fun q => c_150 (hr_119.trans q))
              exact absurd (b_127.symm.trans b_150) (by decide)
          · have b_127 : (ldB ((dnI mm d but i).1 (nI i).toNatClampNeg) ((dnI mm d but i).2.1 (nI i).toNatClampNeg) ((dnI mm d but i).2.2.1 (nI i).toNatClampNeg) ((dnI mm d but i).2.2.2.1 (nI i).toNatClampNeg) g) = true := bI_1 (fun q => c_127 (hr_119.trans q))
            refine lv_aload_n hx hb dX10_dances_130 rfl (lv_at hl 1 rfl) ?_
            refine va_get (D := D) (ci := 10) (v := .int ((dnI mm d but i).2.2.2.2.1)) (C := RX10) (T := TX10) (N := 37) hx hb hts hin_10 hown hK hP 0 rfl rfl 33 (by decide) fl_155 (fun _ h9 => h9) rfl dX10_dances_131 ?_
            refine lv_goto (tgt := 138) hx hb dX10_dances_134 (by decide) ?_
            refine va_put (D := D) (ci := 10) (v := .int ((dnI mm d but i).2.2.2.2.1)) (ty := .int) (C := RX10) (T := TX10) (N := 37) hx hb hts hin_10 tyX10 tyX10_ok nmX10 hown hK hP hD hS 0 rfl rfl 33 (by decide) fl_155 (fun _ h9 => h9) rfl (by decide +kernel) rfl rfl (Nat.le_of_ble_eq_true rfl) dX10_dances_138 (fun H locs hP hD hS => ?_)
            have hP : va_P D vwCl (wM a cI cZ (mF (mF (mF (mF (mS (mS (mS (mS (mS mm 25 (ldX ((dnI mm d but i).1 (nI i).toNatClampNeg) ((dnI mm d but i).2.2.1 (nI i).toNatClampNeg) g)) 26 (ldY ((dnI mm d but i).2.1 (nI i).toNatClampNeg) ((dnI mm d but i).2.2.1 (nI i).toNatClampNeg) g)) 27 (ldL ((dnI mm d but i).2.2.1 (nI i).toNatClampNeg) g)) 28 (ldW ((dnI mm d but i).2.2.2.1 (nI i).toNatClampNeg) g)) 33 ((dnI mm d but i).2.2.2.2.1)) 29 ((dnI mm d but i).1)) 30 ((dnI mm d but i).2.1)) 31 ((dnI mm d but i).2.2.1)) 32 ((dnI mm d but i).2.2.2.1))) H := hP
            have hD : va_D A (wM a cI cZ (mF (mF (mF (mF (mS (mS (mS (mS (mS mm 25 (ldX ((dnI mm d but i).1 (nI i).toNatClampNeg) ((dnI mm d but i).2.2.1 (nI i).toNatClampNeg) g)) 26 (ldY ((dnI mm d but i).2.1 (nI i).toNatClampNeg) ((dnI mm d but i).2.2.1 (nI i).toNatClampNeg) g)) 27 (ldL ((dnI mm d but i).2.2.1 (nI i).toNatClampNeg) g)) 28 (ldW ((dnI mm d but i).2.2.2.1 (nI i).toNatClampNeg) g)) 33 ((dnI mm d but i).2.2.2.2.1)) 29 ((dnI mm d but i).1)) 30 ((dnI mm d but i).2.1)) 31 ((dnI mm d but i).2.2.1)) 32 ((dnI mm d but i).2.2.2.1))) := hD
            refine lv_aload_n hx hb dX10_dances_141 rfl (lv_at hl 1 rfl) ?_
            refine va_get (D := D) (ci := 10) (v := .ref (a 29)) (C := RX10) (T := TX10) (N := 37) hx hb hts hin_10 hown hK hP 0 rfl rfl 29 (by decide) fl_53 (fun _ h9 => h9) rfl dX10_dances_142 ?_
            refine lv_iload_n hx hb dX10_dances_145 rfl (lv_at hl 4 rfl) ?_
            refine lv_iconst (v := 1) hx hb dX10_dances_146 (by decide) ?_
            refine lv_iadd hx hb dX10_dances_147 ?_
            refine lv_iload hx hb dX10_dances_148 (lv_at hl 0 rfl) ?_
            refine lv_if_eq (tgt := 160) hx hb dX10_dances_150 (by decide) (fun c_150 => ?_) (fun c_150 => ?_)
            · have b_150 : (ldB ((dnI mm d but i).1 (nI i).toNatClampNeg) ((dnI mm d but i).2.1 (nI i).toNatClampNeg) ((dnI mm d but i).2.2.1 (nI i).toNatClampNeg) ((dnI mm d but i).2.2.2.1 (nI i).toNatClampNeg) g) = false := bI_0 (hr_119.symm.trans c_150)
              exact absurd (b_127.symm.trans b_150) (by decide)
            · have b_150 : (ldB ((dnI mm d but i).1 (nI i).toNatClampNeg) ((dnI mm d but i).2.1 (nI i).toNatClampNeg) ((dnI mm d but i).2.2.1 (nI i).toNatClampNeg) ((dnI mm d but i).2.2.2.1 (nI i).toNatClampNeg) g) = true := bI_1 (fun q => c_150 (hr_119.trans q))
              refine lv_aload_n hx hb dX10_dances_153 rfl (lv_at hl 1 rfl) ?_
              refine va_get (D := D) (ci := 10) (v := .int (ldX ((dnI mm d but i).1 (nI i).toNatClampNeg) ((dnI mm d but i).2.2.1 (nI i).toNatClampNeg) g)) (C := RX10) (T := TX10) (N := 37) hx hb hts hin_10 hown hK hP 0 rfl rfl 25 (by decide) fl_140 (fun _ h9 => h9) rfl dX10_dances_154 ?_
              refine lv_goto (tgt := 166) hx hb dX10_dances_157 (by decide) ?_
              refine va_iast (D := D) (f := (dnI mm d but i).1) hx hb hK hP hD hS 15 0 rfl rfl (by rw [show nI i + 1 = nI (i + 1) from nI_1 i]; exact vp_in_nI (by omega) (by decide)) dX10_dances_166 (fun H locs hP hD hS => ?_)
              have hP : va_P D vwCl (wM a cI cZ (mF (mF (mF (mF (mS (mS (mS (mS (mS mm 25 (ldX ((dnI mm d but i).1 (nI i).toNatClampNeg) ((dnI mm d but i).2.2.1 (nI i).toNatClampNeg) g)) 26 (ldY ((dnI mm d but i).2.1 (nI i).toNatClampNeg) ((dnI mm d but i).2.2.1 (nI i).toNatClampNeg) g)) 27 (ldL ((dnI mm d but i).2.2.1 (nI i).toNatClampNeg) g)) 28 (ldW ((dnI mm d but i).2.2.2.1 (nI i).toNatClampNeg) g)) 33 ((dnI mm d but i).2.2.2.2.1)) 29 (upd ((dnI mm d but i).1) (((nI i) + 1).toNatClampNeg) (ldX ((dnI mm d but i).1 (nI i).toNatClampNeg) ((dnI mm d but i).2.2.1 (nI i).toNatClampNeg) g))) 30 ((dnI mm d but i).2.1)) 31 ((dnI mm d but i).2.2.1)) 32 ((dnI mm d but i).2.2.2.1))) H := hP
              have hD : va_D A (wM a cI cZ (mF (mF (mF (mF (mS (mS (mS (mS (mS mm 25 (ldX ((dnI mm d but i).1 (nI i).toNatClampNeg) ((dnI mm d but i).2.2.1 (nI i).toNatClampNeg) g)) 26 (ldY ((dnI mm d but i).2.1 (nI i).toNatClampNeg) ((dnI mm d but i).2.2.1 (nI i).toNatClampNeg) g)) 27 (ldL ((dnI mm d but i).2.2.1 (nI i).toNatClampNeg) g)) 28 (ldW ((dnI mm d but i).2.2.2.1 (nI i).toNatClampNeg) g)) 33 ((dnI mm d but i).2.2.2.2.1)) 29 (upd ((dnI mm d but i).1) (((nI i) + 1).toNatClampNeg) (ldX ((dnI mm d but i).1 (nI i).toNatClampNeg) ((dnI mm d but i).2.2.1 (nI i).toNatClampNeg) g))) 30 ((dnI mm d but i).2.1)) 31 ((dnI mm d but i).2.2.1)) 32 ((dnI mm d but i).2.2.2.1))) := hD
              refine lv_aload_n hx hb dX10_dances_167 rfl (lv_at hl 1 rfl) ?_
              refine va_get (D := D) (ci := 10) (v := .ref (a 30)) (C := RX10) (T := TX10) (N := 37) hx hb hts hin_10 hown hK hP 0 rfl rfl 30 (by decide) fl_56 (fun _ h9 => h9) rfl dX10_dances_168 ?_
              refine lv_iload_n hx hb dX10_dances_171 rfl (lv_at hl 4 rfl) ?_
              refine lv_iconst (v := 1) hx hb dX10_dances_172 (by decide) ?_
              refine lv_iadd hx hb dX10_dances_173 ?_
              refine lv_iload hx hb dX10_dances_174 (lv_at hl 0 rfl) ?_
              refine lv_if_eq (tgt := 186) hx hb dX10_dances_176 (by decide) (fun c_176 => ?_) (fun c_176 => ?_)
              · have b_176 : (ldB ((dnI mm d but i).1 (nI i).toNatClampNeg) ((dnI mm d but i).2.1 (nI i).toNatClampNeg) ((dnI mm d but i).2.2.1 (nI i).toNatClampNeg) ((dnI mm d but i).2.2.2.1 (nI i).toNatClampNeg) g) = false := bI_0 (hr_119.symm.trans c_176)
                exact absurd (b_150.symm.trans b_176) (by decide)
              · have b_176 : (ldB ((dnI mm d but i).1 (nI i).toNatClampNeg) ((dnI mm d but i).2.1 (nI i).toNatClampNeg) ((dnI mm d but i).2.2.1 (nI i).toNatClampNeg) ((dnI mm d but i).2.2.2.1 (nI i).toNatClampNeg) g) = true := bI_1 (fun q => c_176 (hr_119.trans q))
                refine lv_aload_n hx hb dX10_dances_179 rfl (lv_at hl 1 rfl) ?_
                refine va_get (D := D) (ci := 10) (v := .int (ldY ((dnI mm d but i).2.1 (nI i).toNatClampNeg) ((dnI mm d but i).2.2.1 (nI i).toNatClampNeg) g)) (C := RX10) (T := TX10) (N := 37) hx hb hts hin_10 hown hK hP 0 rfl rfl 26 (by decide) fl_143 (fun _ h9 => h9) rfl dX10_dances_180 ?_
                refine lv_goto (tgt := 192) hx hb dX10_dances_183 (by decide) ?_
                refine va_iast (D := D) (f := (dnI mm d but i).2.1) hx hb hK hP hD hS 16 0 rfl rfl (by rw [show nI i + 1 = nI (i + 1) from nI_1 i]; exact vp_in_nI (by omega) (by decide)) dX10_dances_192 (fun H locs hP hD hS => ?_)
                have hP : va_P D vwCl (wM a cI cZ (mF (mF (mF (mF (mS (mS (mS (mS (mS mm 25 (ldX ((dnI mm d but i).1 (nI i).toNatClampNeg) ((dnI mm d but i).2.2.1 (nI i).toNatClampNeg) g)) 26 (ldY ((dnI mm d but i).2.1 (nI i).toNatClampNeg) ((dnI mm d but i).2.2.1 (nI i).toNatClampNeg) g)) 27 (ldL ((dnI mm d but i).2.2.1 (nI i).toNatClampNeg) g)) 28 (ldW ((dnI mm d but i).2.2.2.1 (nI i).toNatClampNeg) g)) 33 ((dnI mm d but i).2.2.2.2.1)) 29 (upd ((dnI mm d but i).1) (((nI i) + 1).toNatClampNeg) (ldX ((dnI mm d but i).1 (nI i).toNatClampNeg) ((dnI mm d but i).2.2.1 (nI i).toNatClampNeg) g))) 30 (upd ((dnI mm d but i).2.1) (((nI i) + 1).toNatClampNeg) (ldY ((dnI mm d but i).2.1 (nI i).toNatClampNeg) ((dnI mm d but i).2.2.1 (nI i).toNatClampNeg) g))) 31 ((dnI mm d but i).2.2.1)) 32 ((dnI mm d but i).2.2.2.1))) H := hP
                have hD : va_D A (wM a cI cZ (mF (mF (mF (mF (mS (mS (mS (mS (mS mm 25 (ldX ((dnI mm d but i).1 (nI i).toNatClampNeg) ((dnI mm d but i).2.2.1 (nI i).toNatClampNeg) g)) 26 (ldY ((dnI mm d but i).2.1 (nI i).toNatClampNeg) ((dnI mm d but i).2.2.1 (nI i).toNatClampNeg) g)) 27 (ldL ((dnI mm d but i).2.2.1 (nI i).toNatClampNeg) g)) 28 (ldW ((dnI mm d but i).2.2.2.1 (nI i).toNatClampNeg) g)) 33 ((dnI mm d but i).2.2.2.2.1)) 29 (upd ((dnI mm d but i).1) (((nI i) + 1).toNatClampNeg) (ldX ((dnI mm d but i).1 (nI i).toNatClampNeg) ((dnI mm d but i).2.2.1 (nI i).toNatClampNeg) g))) 30 (upd ((dnI mm d but i).2.1) (((nI i) + 1).toNatClampNeg) (ldY ((dnI mm d but i).2.1 (nI i).toNatClampNeg) ((dnI mm d but i).2.2.1 (nI i).toNatClampNeg) g))) 31 ((dnI mm d but i).2.2.1)) 32 ((dnI mm d but i).2.2.2.1))) := hD
                refine lv_aload_n hx hb dX10_dances_193 rfl (lv_at hl 1 rfl) ?_
                refine va_get (D := D) (ci := 10) (v := .ref (a 31)) (C := RX10) (T := TX10) (N := 37) hx hb hts hin_10 hown hK hP 0 rfl rfl 31 (by decide) fl_59 (fun _ h9 => h9) rfl dX10_dances_194 ?_
                refine lv_iload_n hx hb dX10_dances_197 rfl (lv_at hl 4 rfl) ?_
                refine lv_iconst (v := 1) hx hb dX10_dances_198 (by decide) ?_
                refine lv_iadd hx hb dX10_dances_199 ?_
                refine lv_iload hx hb dX10_dances_200 (lv_at hl 0 rfl) ?_
                refine lv_if_eq (tgt := 212) hx hb dX10_dances_202 (by decide) (fun c_202 => ?_) (fun c_202 => ?_)
                · have b_202 : (ldB ((dnI mm d but i).1 (nI i).toNatClampNeg) ((dnI mm d but i).2.1 (nI i).toNatClampNeg) ((dnI mm d but i).2.2.1 (nI i).toNatClampNeg) ((dnI mm d but i).2.2.2.1 (nI i).toNatClampNeg) g) = false := bI_0 (hr_119.symm.trans c_202)
                  exact absurd (b_176.symm.trans b_202) (by decide)
                · have b_202 : (ldB ((dnI mm d but i).1 (nI i).toNatClampNeg) ((dnI mm d but i).2.1 (nI i).toNatClampNeg) ((dnI mm d but i).2.2.1 (nI i).toNatClampNeg) ((dnI mm d but i).2.2.2.1 (nI i).toNatClampNeg) g) = true := bI_1 (fun q => c_202 (hr_119.trans q))
                  refine lv_aload_n hx hb dX10_dances_205 rfl (lv_at hl 1 rfl) ?_
                  refine va_get (D := D) (ci := 10) (v := .int (ldL ((dnI mm d but i).2.2.1 (nI i).toNatClampNeg) g)) (C := RX10) (T := TX10) (N := 37) hx hb hts hin_10 hown hK hP 0 rfl rfl 27 (by decide) fl_146 (fun _ h9 => h9) rfl dX10_dances_206 ?_
                  refine lv_goto (tgt := 218) hx hb dX10_dances_209 (by decide) ?_
                  refine va_iast (D := D) (f := (dnI mm d but i).2.2.1) hx hb hK hP hD hS 17 0 rfl rfl (by rw [show nI i + 1 = nI (i + 1) from nI_1 i]; exact vp_in_nI (by omega) (by decide)) dX10_dances_218 (fun H locs hP hD hS => ?_)
                  have hP : va_P D vwCl (wM a cI cZ (mF (mF (mF (mF (mS (mS (mS (mS (mS mm 25 (ldX ((dnI mm d but i).1 (nI i).toNatClampNeg) ((dnI mm d but i).2.2.1 (nI i).toNatClampNeg) g)) 26 (ldY ((dnI mm d but i).2.1 (nI i).toNatClampNeg) ((dnI mm d but i).2.2.1 (nI i).toNatClampNeg) g)) 27 (ldL ((dnI mm d but i).2.2.1 (nI i).toNatClampNeg) g)) 28 (ldW ((dnI mm d but i).2.2.2.1 (nI i).toNatClampNeg) g)) 33 ((dnI mm d but i).2.2.2.2.1)) 29 (upd ((dnI mm d but i).1) (((nI i) + 1).toNatClampNeg) (ldX ((dnI mm d but i).1 (nI i).toNatClampNeg) ((dnI mm d but i).2.2.1 (nI i).toNatClampNeg) g))) 30 (upd ((dnI mm d but i).2.1) (((nI i) + 1).toNatClampNeg) (ldY ((dnI mm d but i).2.1 (nI i).toNatClampNeg) ((dnI mm d but i).2.2.1 (nI i).toNatClampNeg) g))) 31 (upd ((dnI mm d but i).2.2.1) (((nI i) + 1).toNatClampNeg) (ldL ((dnI mm d but i).2.2.1 (nI i).toNatClampNeg) g))) 32 ((dnI mm d but i).2.2.2.1))) H := hP
                  have hD : va_D A (wM a cI cZ (mF (mF (mF (mF (mS (mS (mS (mS (mS mm 25 (ldX ((dnI mm d but i).1 (nI i).toNatClampNeg) ((dnI mm d but i).2.2.1 (nI i).toNatClampNeg) g)) 26 (ldY ((dnI mm d but i).2.1 (nI i).toNatClampNeg) ((dnI mm d but i).2.2.1 (nI i).toNatClampNeg) g)) 27 (ldL ((dnI mm d but i).2.2.1 (nI i).toNatClampNeg) g)) 28 (ldW ((dnI mm d but i).2.2.2.1 (nI i).toNatClampNeg) g)) 33 ((dnI mm d but i).2.2.2.2.1)) 29 (upd ((dnI mm d but i).1) (((nI i) + 1).toNatClampNeg) (ldX ((dnI mm d but i).1 (nI i).toNatClampNeg) ((dnI mm d but i).2.2.1 (nI i).toNatClampNeg) g))) 30 (upd ((dnI mm d but i).2.1) (((nI i) + 1).toNatClampNeg) (ldY ((dnI mm d but i).2.1 (nI i).toNatClampNeg) ((dnI mm d but i).2.2.1 (nI i).toNatClampNeg) g))) 31 (upd ((dnI mm d but i).2.2.1) (((nI i) + 1).toNatClampNeg) (ldL ((dnI mm d but i).2.2.1 (nI i).toNatClampNeg) g))) 32 ((dnI mm d but i).2.2.2.1))) := hD
                  refine lv_aload_n hx hb dX10_dances_219 rfl (lv_at hl 1 rfl) ?_
                  refine va_get (D := D) (ci := 10) (v := .ref (a 32)) (C := RX10) (T := TX10) (N := 37) hx hb hts hin_10 hown hK hP 0 rfl rfl 32 (by decide) fl_62 (fun _ h9 => h9) rfl dX10_dances_220 ?_
                  refine lv_iload_n hx hb dX10_dances_223 rfl (lv_at hl 4 rfl) ?_
                  refine lv_iconst (v := 1) hx hb dX10_dances_224 (by decide) ?_
                  refine lv_iadd hx hb dX10_dances_225 ?_
                  refine lv_iload hx hb dX10_dances_226 (lv_at hl 0 rfl) ?_
                  refine lv_if_eq (tgt := 238) hx hb dX10_dances_228 (by decide) (fun c_228 => ?_) (fun c_228 => ?_)
                  · have b_228 : (ldB ((dnI mm d but i).1 (nI i).toNatClampNeg) ((dnI mm d but i).2.1 (nI i).toNatClampNeg) ((dnI mm d but i).2.2.1 (nI i).toNatClampNeg) ((dnI mm d but i).2.2.2.1 (nI i).toNatClampNeg) g) = false := bI_0 (hr_119.symm.trans c_228)
                    exact absurd (b_202.symm.trans b_228) (by decide)
                  · have b_228 : (ldB ((dnI mm d but i).1 (nI i).toNatClampNeg) ((dnI mm d but i).2.1 (nI i).toNatClampNeg) ((dnI mm d but i).2.2.1 (nI i).toNatClampNeg) ((dnI mm d but i).2.2.2.1 (nI i).toNatClampNeg) g) = true := bI_1 (fun q => c_228 (hr_119.trans q))
                    refine lv_aload_n hx hb dX10_dances_231 rfl (lv_at hl 1 rfl) ?_
                    refine va_get (D := D) (ci := 10) (v := .int (ldW ((dnI mm d but i).2.2.2.1 (nI i).toNatClampNeg) g)) (C := RX10) (T := TX10) (N := 37) hx hb hts hin_10 hown hK hP 0 rfl rfl 28 (by decide) fl_149 (fun _ h9 => h9) rfl dX10_dances_232 ?_
                    refine lv_goto (tgt := 244) hx hb dX10_dances_235 (by decide) ?_
                    refine va_iast (D := D) (f := (dnI mm d but i).2.2.2.1) hx hb hK hP hD hS 18 0 rfl rfl (by rw [show nI i + 1 = nI (i + 1) from nI_1 i]; exact vp_in_nI (by omega) (by decide)) dX10_dances_244 (fun H locs hP hD hS => ?_)
                    have hP : va_P D vwCl (wM a cI cZ (mF (mF (mF (mF (mS (mS (mS (mS (mS mm 25 (ldX ((dnI mm d but i).1 (nI i).toNatClampNeg) ((dnI mm d but i).2.2.1 (nI i).toNatClampNeg) g)) 26 (ldY ((dnI mm d but i).2.1 (nI i).toNatClampNeg) ((dnI mm d but i).2.2.1 (nI i).toNatClampNeg) g)) 27 (ldL ((dnI mm d but i).2.2.1 (nI i).toNatClampNeg) g)) 28 (ldW ((dnI mm d but i).2.2.2.1 (nI i).toNatClampNeg) g)) 33 ((dnI mm d but i).2.2.2.2.1)) 29 (upd ((dnI mm d but i).1) (((nI i) + 1).toNatClampNeg) (ldX ((dnI mm d but i).1 (nI i).toNatClampNeg) ((dnI mm d but i).2.2.1 (nI i).toNatClampNeg) g))) 30 (upd ((dnI mm d but i).2.1) (((nI i) + 1).toNatClampNeg) (ldY ((dnI mm d but i).2.1 (nI i).toNatClampNeg) ((dnI mm d but i).2.2.1 (nI i).toNatClampNeg) g))) 31 (upd ((dnI mm d but i).2.2.1) (((nI i) + 1).toNatClampNeg) (ldL ((dnI mm d but i).2.2.1 (nI i).toNatClampNeg) g))) 32 (upd ((dnI mm d but i).2.2.2.1) (((nI i) + 1).toNatClampNeg) (ldW ((dnI mm d but i).2.2.2.1 (nI i).toNatClampNeg) g)))) H := hP
                    have hD : va_D A (wM a cI cZ (mF (mF (mF (mF (mS (mS (mS (mS (mS mm 25 (ldX ((dnI mm d but i).1 (nI i).toNatClampNeg) ((dnI mm d but i).2.2.1 (nI i).toNatClampNeg) g)) 26 (ldY ((dnI mm d but i).2.1 (nI i).toNatClampNeg) ((dnI mm d but i).2.2.1 (nI i).toNatClampNeg) g)) 27 (ldL ((dnI mm d but i).2.2.1 (nI i).toNatClampNeg) g)) 28 (ldW ((dnI mm d but i).2.2.2.1 (nI i).toNatClampNeg) g)) 33 ((dnI mm d but i).2.2.2.2.1)) 29 (upd ((dnI mm d but i).1) (((nI i) + 1).toNatClampNeg) (ldX ((dnI mm d but i).1 (nI i).toNatClampNeg) ((dnI mm d but i).2.2.1 (nI i).toNatClampNeg) g))) 30 (upd ((dnI mm d but i).2.1) (((nI i) + 1).toNatClampNeg) (ldY ((dnI mm d but i).2.1 (nI i).toNatClampNeg) ((dnI mm d but i).2.2.1 (nI i).toNatClampNeg) g))) 31 (upd ((dnI mm d but i).2.2.1) (((nI i) + 1).toNatClampNeg) (ldL ((dnI mm d but i).2.2.1 (nI i).toNatClampNeg) g))) 32 (upd ((dnI mm d but i).2.2.2.1) (((nI i) + 1).toNatClampNeg) (ldW ((dnI mm d but i).2.2.2.1 (nI i).toNatClampNeg) g)))) := hD
                    refine lv_iinc (v := ((nI i) + 1)) (lv' := [(3, .int ((nI i) + 1)), (5, .int r_119), (0, .ref (a 0)), (1, .int d), (2, .int but), (4, .int g)]) hx hb dX10_dances_245 hl (k := 4) rfl rfl (by decide) rfl (fun ls hl => ?_)
                    rw [show nI i + 1 = nI (i + 1) from nI_1 _] at hl
                    have hl : lv_has ls 6 [(3, .int (nI (i + 1))), (5, .int r_119), (0, .ref (a 0)), (1, .int d), (2, .int but), (4, .int g)] := hl
                    refine lv_goto (tgt := 51) hx hb dX10_dances_248 (by decide) ?_
                    have em_51_29 : (dnI mm d but (i + 1)).1 = (upd ((dnI mm d but i).1) (((nI i) + 1).toNatClampNeg) (ldX ((dnI mm d but i).1 (nI i).toNatClampNeg) ((dnI mm d but i).2.2.1 (nI i).toNatClampNeg) g)) := by simp only [dnI_s, eg, dnP, b_127, ↓reduceIte, reduceCtorEq]
                    have em_51_30 : (dnI mm d but (i + 1)).2.1 = (upd ((dnI mm d but i).2.1) (((nI i) + 1).toNatClampNeg) (ldY ((dnI mm d but i).2.1 (nI i).toNatClampNeg) ((dnI mm d but i).2.2.1 (nI i).toNatClampNeg) g)) := by simp only [dnI_s, eg, dnP, b_127, ↓reduceIte, reduceCtorEq]
                    have em_51_31 : (dnI mm d but (i + 1)).2.2.1 = (upd ((dnI mm d but i).2.2.1) (((nI i) + 1).toNatClampNeg) (ldL ((dnI mm d but i).2.2.1 (nI i).toNatClampNeg) g)) := by simp only [dnI_s, eg, dnP, b_127, ↓reduceIte, reduceCtorEq]
                    have em_51_32 : (dnI mm d but (i + 1)).2.2.2.1 = (upd ((dnI mm d but i).2.2.2.1) (((nI i) + 1).toNatClampNeg) (ldW ((dnI mm d but i).2.2.2.1 (nI i).toNatClampNeg) g)) := by simp only [dnI_s, eg, dnP, b_127, ↓reduceIte, reduceCtorEq]
                    have em_51_33 : (dnI mm d but (i + 1)).2.2.2.2.1 = (dnI mm d but i).2.2.2.2.1 := by simp only [dnI_s, eg, dnP, b_127, ↓reduceIte, reduceCtorEq]
                    have em_51_25 : (dnI mm d but (i + 1)).2.2.2.2.2.1 = (ldX ((dnI mm d but i).1 (nI i).toNatClampNeg) ((dnI mm d but i).2.2.1 (nI i).toNatClampNeg) g) := by simp only [dnI_s, eg, dnP, b_127, ↓reduceIte, reduceCtorEq]
                    have em_51_26 : (dnI mm d but (i + 1)).2.2.2.2.2.2.1 = (ldY ((dnI mm d but i).2.1 (nI i).toNatClampNeg) ((dnI mm d but i).2.2.1 (nI i).toNatClampNeg) g) := by simp only [dnI_s, eg, dnP, b_127, ↓reduceIte, reduceCtorEq]
                    have em_51_27 : (dnI mm d but (i + 1)).2.2.2.2.2.2.2.1 = (ldL ((dnI mm d but i).2.2.1 (nI i).toNatClampNeg) g) := by simp only [dnI_s, eg, dnP, b_127, ↓reduceIte, reduceCtorEq]
                    have em_51_28 : (dnI mm d but (i + 1)).2.2.2.2.2.2.2.2 = (ldW ((dnI mm d but i).2.2.2.1 (nI i).toNatClampNeg) g) := by simp only [dnI_s, eg, dnP, b_127, ↓reduceIte, reduceCtorEq]
                    have hP : va_P D vwCl (wM a cI cZ (mS (mS (mS (mS (mS (mF (mF (mF (mF mm 29 (upd ((dnI mm d but i).1) (((nI i) + 1).toNatClampNeg) (ldX ((dnI mm d but i).1 (nI i).toNatClampNeg) ((dnI mm d but i).2.2.1 (nI i).toNatClampNeg) g))) 30 (upd ((dnI mm d but i).2.1) (((nI i) + 1).toNatClampNeg) (ldY ((dnI mm d but i).2.1 (nI i).toNatClampNeg) ((dnI mm d but i).2.2.1 (nI i).toNatClampNeg) g))) 31 (upd ((dnI mm d but i).2.2.1) (((nI i) + 1).toNatClampNeg) (ldL ((dnI mm d but i).2.2.1 (nI i).toNatClampNeg) g))) 32 (upd ((dnI mm d but i).2.2.2.1) (((nI i) + 1).toNatClampNeg) (ldW ((dnI mm d but i).2.2.2.1 (nI i).toNatClampNeg) g))) 33 ((dnI mm d but i).2.2.2.2.1)) 25 (ldX ((dnI mm d but i).1 (nI i).toNatClampNeg) ((dnI mm d but i).2.2.1 (nI i).toNatClampNeg) g)) 26 (ldY ((dnI mm d but i).2.1 (nI i).toNatClampNeg) ((dnI mm d but i).2.2.1 (nI i).toNatClampNeg) g)) 27 (ldL ((dnI mm d but i).2.2.1 (nI i).toNatClampNeg) g)) 28 (ldW ((dnI mm d but i).2.2.2.1 (nI i).toNatClampNeg) g))) H := hP
                    have hD : va_D A (wM a cI cZ (mS (mS (mS (mS (mS (mF (mF (mF (mF mm 29 (upd ((dnI mm d but i).1) (((nI i) + 1).toNatClampNeg) (ldX ((dnI mm d but i).1 (nI i).toNatClampNeg) ((dnI mm d but i).2.2.1 (nI i).toNatClampNeg) g))) 30 (upd ((dnI mm d but i).2.1) (((nI i) + 1).toNatClampNeg) (ldY ((dnI mm d but i).2.1 (nI i).toNatClampNeg) ((dnI mm d but i).2.2.1 (nI i).toNatClampNeg) g))) 31 (upd ((dnI mm d but i).2.2.1) (((nI i) + 1).toNatClampNeg) (ldL ((dnI mm d but i).2.2.1 (nI i).toNatClampNeg) g))) 32 (upd ((dnI mm d but i).2.2.2.1) (((nI i) + 1).toNatClampNeg) (ldW ((dnI mm d but i).2.2.2.1 (nI i).toNatClampNeg) g))) 33 ((dnI mm d but i).2.2.2.2.1)) 25 (ldX ((dnI mm d but i).1 (nI i).toNatClampNeg) ((dnI mm d but i).2.2.1 (nI i).toNatClampNeg) g)) 26 (ldY ((dnI mm d but i).2.1 (nI i).toNatClampNeg) ((dnI mm d but i).2.2.1 (nI i).toNatClampNeg) g)) 27 (ldL ((dnI mm d but i).2.2.1 (nI i).toNatClampNeg) g)) 28 (ldW ((dnI mm d but i).2.2.2.1 (nI i).toNatClampNeg) g))) := hD
                    have eM_51 : (mS (mS (mS (mS (mS (mF (mF (mF (mF mm 29 ((dnI mm d but (i + 1)).1)) 30 ((dnI mm d but (i + 1)).2.1)) 31 ((dnI mm d but (i + 1)).2.2.1)) 32 ((dnI mm d but (i + 1)).2.2.2.1)) 33 ((dnI mm d but (i + 1)).2.2.2.2.1)) 25 ((dnI mm d but (i + 1)).2.2.2.2.2.1)) 26 ((dnI mm d but (i + 1)).2.2.2.2.2.2.1)) 27 ((dnI mm d but (i + 1)).2.2.2.2.2.2.2.1)) 28 ((dnI mm d but (i + 1)).2.2.2.2.2.2.2.2)) = (mS (mS (mS (mS (mS (mF (mF (mF (mF mm 29 (upd ((dnI mm d but i).1) (((nI i) + 1).toNatClampNeg) (ldX ((dnI mm d but i).1 (nI i).toNatClampNeg) ((dnI mm d but i).2.2.1 (nI i).toNatClampNeg) g))) 30 (upd ((dnI mm d but i).2.1) (((nI i) + 1).toNatClampNeg) (ldY ((dnI mm d but i).2.1 (nI i).toNatClampNeg) ((dnI mm d but i).2.2.1 (nI i).toNatClampNeg) g))) 31 (upd ((dnI mm d but i).2.2.1) (((nI i) + 1).toNatClampNeg) (ldL ((dnI mm d but i).2.2.1 (nI i).toNatClampNeg) g))) 32 (upd ((dnI mm d but i).2.2.2.1) (((nI i) + 1).toNatClampNeg) (ldW ((dnI mm d but i).2.2.2.1 (nI i).toNatClampNeg) g))) 33 ((dnI mm d but i).2.2.2.2.1)) 25 (ldX ((dnI mm d but i).1 (nI i).toNatClampNeg) ((dnI mm d but i).2.2.1 (nI i).toNatClampNeg) g)) 26 (ldY ((dnI mm d but i).2.1 (nI i).toNatClampNeg) ((dnI mm d but i).2.2.1 (nI i).toNatClampNeg) g)) 27 (ldL ((dnI mm d but i).2.2.1 (nI i).toNatClampNeg) g)) 28 (ldW ((dnI mm d but i).2.2.2.1 (nI i).toNatClampNeg) g)) := (mS_c (mS_c (mS_c (mS_c (mS_c (mF_c (mF_c (mF_c (mF_c rfl em_51_29) em_51_30) em_51_31) em_51_32) em_51_33) em_51_25) em_51_26) em_51_27) em_51_28)
                    rw [← eM_51] at hP hD
                    have hP : va_P D vwCl (wM a cI cZ (mS (mS (mS (mS (mS (mF (mF (mF (mF mm 29 ((dnI mm d but (i + 1)).1)) 30 ((dnI mm d but (i + 1)).2.1)) 31 ((dnI mm d but (i + 1)).2.2.1)) 32 ((dnI mm d but (i + 1)).2.2.2.1)) 33 ((dnI mm d but (i + 1)).2.2.2.2.1)) 25 ((dnI mm d but (i + 1)).2.2.2.2.2.1)) 26 ((dnI mm d but (i + 1)).2.2.2.2.2.2.1)) 27 ((dnI mm d but (i + 1)).2.2.2.2.2.2.2.1)) 28 ((dnI mm d but (i + 1)).2.2.2.2.2.2.2.2))) H := hP
                    have hD : va_D A (wM a cI cZ (mS (mS (mS (mS (mS (mF (mF (mF (mF mm 29 ((dnI mm d but (i + 1)).1)) 30 ((dnI mm d but (i + 1)).2.1)) 31 ((dnI mm d but (i + 1)).2.2.1)) 32 ((dnI mm d but (i + 1)).2.2.2.1)) 33 ((dnI mm d but (i + 1)).2.2.2.2.1)) 25 ((dnI mm d but (i + 1)).2.2.2.2.2.1)) 26 ((dnI mm d but (i + 1)).2.2.2.2.2.2.1)) 27 ((dnI mm d but (i + 1)).2.2.2.2.2.2.2.1)) 28 ((dnI mm d but (i + 1)).2.2.2.2.2.2.2.2))) := hD
                    exact LB_51 (i + 1) (by omega) (by omega) H locs hP hD hS ls (lv_sub hl [2, 3, 4, 0] rfl)
        refine lv_iload_n hx hb dX10_dances_57 rfl (lv_at hl 3 rfl) ?_
        refine lv_aload_n hx hb dX10_dances_58 rfl (lv_at hl 0 rfl) ?_
        refine lv_iload_n hx hb dX10_dances_59 rfl (lv_at hl 1 rfl) ?_
        refine sw_i (va_runV (As := [.int d]) (rest := [.int (nI i)]) ⟨hx, hb, hml, hown, hts⟩ (c_X10_sizeOf l D cI cJ cZ a H.size (mF (mF (mF (mF (mS (mS (mS (mS (mS mm 25 ((dnI mm d but i).2.2.2.2.2.1)) 26 ((dnI mm d but i).2.2.2.2.2.2.1)) 27 ((dnI mm d but i).2.2.2.2.2.2.2.1)) 28 ((dnI mm d but i).2.2.2.2.2.2.2.2)) 33 ((dnI mm d but i).2.2.2.2.1)) 29 ((dnI mm d but i).1)) 30 ((dnI mm d but i).2.1)) 31 ((dnI mm d but i).2.2.1)) 32 ((dnI mm d but i).2.2.2.1)) d (h0d) (h3d)) (cwV 1 hts gX10_dances_X10_sizeOf rfl rfl rfl (by decide +kernel) ⟨Nat.le_of_ble_eq_true rfl, Nat.le_of_ble_eq_true rfl⟩) (pr_V hP hD hK hN hE hS hA [0, 1, 2, 3, 4, 5, 6, 7, 8, 9, 10, 11, 12, 13, 14, 15, 16, 17, 18, 19, 20, 21] (by decide) rfl (ci := 10) (q0 := 0) rfl rfl) rfl rfl hl.1 rfl (lv_room (Nat.le_of_ble_eq_true rfl)) dX10_dances_60 ⟨Nat.zero_le _, Nat.zero_le _⟩) hD hS hA (fun r_60 u_60 H locs hw_60 hP hD hS => ?_)
        have hr_60 : r_60 = ((mm.2 4) (11 * d).toNatClampNeg) := hw_60
        refine lv_icmp_ge (tgt := 89) hx hb dX10_dances_63 (by decide) (fun c_63 => ?_) (fun c_63 => ?_)
        · have i_63 := i_le c_63
          rw [hr_60] at c_63
          refine lv_iconst (v := 0) hx hb dX10_dances_89 (by decide) ?_
          refine lv_istore (lv' := [(4, .int 0), (0, .ref (a 0)), (1, .int d), (2, .int but), (3, .int (nI i))]) hx hb dX10_dances_90 hl (by decide) rfl (fun ls hl => ?_)
          have hP : va_P D vwCl (wM a cI cZ (mS (mS (mS (mS (mS (mF (mF (mF (mF mm 29 ((dnI mm d but i).1)) 30 ((dnI mm d but i).2.1)) 31 ((dnI mm d but i).2.2.1)) 32 ((dnI mm d but i).2.2.2.1)) 33 ((dnI mm d but i).2.2.2.2.1)) 25 ((dnI mm d but i).2.2.2.2.2.1)) 26 ((dnI mm d but i).2.2.2.2.2.2.1)) 27 ((dnI mm d but i).2.2.2.2.2.2.2.1)) 28 ((dnI mm d but i).2.2.2.2.2.2.2.2))) H := hP
          have hD : va_D A (wM a cI cZ (mS (mS (mS (mS (mS (mF (mF (mF (mF mm 29 ((dnI mm d but i).1)) 30 ((dnI mm d but i).2.1)) 31 ((dnI mm d but i).2.2.1)) 32 ((dnI mm d but i).2.2.2.1)) 33 ((dnI mm d but i).2.2.2.2.1)) 25 ((dnI mm d but i).2.2.2.2.2.1)) 26 ((dnI mm d but i).2.2.2.2.2.2.1)) 27 ((dnI mm d but i).2.2.2.2.2.2.2.1)) 28 ((dnI mm d but i).2.2.2.2.2.2.2.2))) := hD
          exact LB_92 0 (by unfold dnG; rw [if_pos c_63]) H locs hP hD hS ls (lv_sub hl [1, 2, 3, 4, 0] rfl)
        · have i_63 := i_nle c_63
          rw [hr_60] at c_63
          refine lv_iload_n hx hb dX10_dances_66 rfl (lv_at hl 3 rfl) ?_
          refine lv_iload_n hx hb dX10_dances_67 rfl (lv_at hl 2 rfl) ?_
          refine lv_icmp_eq (tgt := 89) hx hb dX10_dances_68 (by decide) (fun c_68 => ?_) (fun c_68 => ?_)
          · have i_68 := i_eq c_68
            refine lv_iconst (v := 0) hx hb dX10_dances_89 (by decide) ?_
            refine lv_istore (lv' := [(4, .int 0), (0, .ref (a 0)), (1, .int d), (2, .int but), (3, .int (nI i))]) hx hb dX10_dances_90 hl (by decide) rfl (fun ls hl => ?_)
            have hP : va_P D vwCl (wM a cI cZ (mS (mS (mS (mS (mS (mF (mF (mF (mF mm 29 ((dnI mm d but i).1)) 30 ((dnI mm d but i).2.1)) 31 ((dnI mm d but i).2.2.1)) 32 ((dnI mm d but i).2.2.2.1)) 33 ((dnI mm d but i).2.2.2.2.1)) 25 ((dnI mm d but i).2.2.2.2.2.1)) 26 ((dnI mm d but i).2.2.2.2.2.2.1)) 27 ((dnI mm d but i).2.2.2.2.2.2.2.1)) 28 ((dnI mm d but i).2.2.2.2.2.2.2.2))) H := hP
            have hD : va_D A (wM a cI cZ (mS (mS (mS (mS (mS (mF (mF (mF (mF mm 29 ((dnI mm d but i).1)) 30 ((dnI mm d but i).2.1)) 31 ((dnI mm d but i).2.2.1)) 32 ((dnI mm d but i).2.2.2.1)) 33 ((dnI mm d but i).2.2.2.2.1)) 25 ((dnI mm d but i).2.2.2.2.2.1)) 26 ((dnI mm d but i).2.2.2.2.2.2.1)) 27 ((dnI mm d but i).2.2.2.2.2.2.2.1)) 28 ((dnI mm d but i).2.2.2.2.2.2.2.2))) := hD
            exact LB_92 0 (by unfold dnG; rw [if_neg c_63, if_pos c_68]) H locs hP hD hS ls (lv_sub hl [1, 2, 3, 4, 0] rfl)
          · have i_68 := i_ne c_68
            refine lv_aload_n hx hb dX10_dances_71 rfl (lv_at hl 0 rfl) ?_
            refine va_get (D := D) (ci := 10) (v := .int ((dnI mm d but i).2.2.2.2.1)) (C := RX10) (T := TX10) (N := 37) hx hb hts hin_10 hown hK hP 0 rfl rfl 33 (by decide) fl_155 (fun _ h9 => h9) rfl dX10_dances_72 ?_
            refine lv_bipush (v := (-9)) hx hb dX10_dances_75 (by decide) ?_
            refine lv_icmp_ne (tgt := 89) hx hb dX10_dances_77 (by decide) (fun c_77 => ?_) (fun c_77 => ?_)
            · have i_77 := i_ne c_77
              rw [(by decide : (-9 : Int32).toInt = -9)] at i_77
              refine lv_iconst (v := 0) hx hb dX10_dances_89 (by decide) ?_
              refine lv_istore (lv' := [(4, .int 0), (0, .ref (a 0)), (1, .int d), (2, .int but), (3, .int (nI i))]) hx hb dX10_dances_90 hl (by decide) rfl (fun ls hl => ?_)
              have hP : va_P D vwCl (wM a cI cZ (mS (mS (mS (mS (mS (mF (mF (mF (mF mm 29 ((dnI mm d but i).1)) 30 ((dnI mm d but i).2.1)) 31 ((dnI mm d but i).2.2.1)) 32 ((dnI mm d but i).2.2.2.1)) 33 ((dnI mm d but i).2.2.2.2.1)) 25 ((dnI mm d but i).2.2.2.2.2.1)) 26 ((dnI mm d but i).2.2.2.2.2.2.1)) 27 ((dnI mm d but i).2.2.2.2.2.2.2.1)) 28 ((dnI mm d but i).2.2.2.2.2.2.2.2))) H := hP
              have hD : va_D A (wM a cI cZ (mS (mS (mS (mS (mS (mF (mF (mF (mF mm 29 ((dnI mm d but i).1)) 30 ((dnI mm d but i).2.1)) 31 ((dnI mm d but i).2.2.1)) 32 ((dnI mm d but i).2.2.2.1)) 33 ((dnI mm d but i).2.2.2.2.1)) 25 ((dnI mm d but i).2.2.2.2.2.1)) 26 ((dnI mm d but i).2.2.2.2.2.2.1)) 27 ((dnI mm d but i).2.2.2.2.2.2.2.1)) 28 ((dnI mm d but i).2.2.2.2.2.2.2.2))) := hD
              exact LB_92 0 (by unfold dnG; rw [if_neg c_63, if_neg c_68, if_neg c_77]) H locs hP hD hS ls (lv_sub hl [1, 2, 3, 4, 0] rfl)
            · have i_77 := i_eq c_77
              rw [(by decide : (-9 : Int32).toInt = -9)] at i_77
              refine lv_aload_n hx hb dX10_dances_80 rfl (lv_at hl 0 rfl) ?_
              refine lv_iload_n hx hb dX10_dances_81 rfl (lv_at hl 1 rfl) ?_
              refine lv_iload_n hx hb dX10_dances_82 rfl (lv_at hl 3 rfl) ?_
              refine sw_i (va_runV (As := [.int d, .int (nI i)]) (rest := []) ⟨hx, hb, hml, hown, hts⟩ (c_X10_signOf l D cI cJ cZ a H.size (mF (mF (mF (mF (mS (mS (mS (mS (mS mm 25 ((dnI mm d but i).2.2.2.2.2.1)) 26 ((dnI mm d but i).2.2.2.2.2.2.1)) 27 ((dnI mm d but i).2.2.2.2.2.2.2.1)) 28 ((dnI mm d but i).2.2.2.2.2.2.2.2)) 33 ((dnI mm d but i).2.2.2.2.1)) 29 ((dnI mm d but i).1)) 30 ((dnI mm d but i).2.1)) 31 ((dnI mm d but i).2.2.1)) 32 ((dnI mm d but i).2.2.2.1)) d (nI i) (h0d) (h3d) (by rw [nIT (by omega)]; omega) (by rw [nIT (by omega)]; omega)) (cwV 2 hts gX10_dances_X10_signOf rfl rfl rfl (by decide +kernel) ⟨Nat.le_of_ble_eq_true rfl, Nat.le_of_ble_eq_true rfl⟩) (pr_V hP hD hK hN hE hS hA [0, 1, 2, 3, 4, 5, 6, 7, 8, 9, 10, 11, 12, 13, 14, 15, 16, 17, 18, 19, 20, 21] (by decide) rfl (ci := 10) (q0 := 0) rfl rfl) rfl rfl hl.1 rfl (lv_room (Nat.le_of_ble_eq_true rfl)) dX10_dances_83 ⟨Nat.zero_le _, Nat.zero_le _⟩) hD hS hA (fun r_83 u_83 H locs hw_83 hP hD hS => ?_)
              have hr_83 : r_83 = ((mm.2 4) (11 * d + 1 + (nI i)).toNatClampNeg) := hw_83
              refine lv_goto (tgt := 90) hx hb dX10_dances_86 (by decide) ?_
              refine lv_istore (lv' := [(4, .int r_83), (0, .ref (a 0)), (1, .int d), (2, .int but), (3, .int (nI i))]) hx hb dX10_dances_90 hl (by decide) rfl (fun ls hl => ?_)
              have hP : va_P D vwCl (wM a cI cZ (mS (mS (mS (mS (mS (mF (mF (mF (mF mm 29 ((dnI mm d but i).1)) 30 ((dnI mm d but i).2.1)) 31 ((dnI mm d but i).2.2.1)) 32 ((dnI mm d but i).2.2.2.1)) 33 ((dnI mm d but i).2.2.2.2.1)) 25 ((dnI mm d but i).2.2.2.2.2.1)) 26 ((dnI mm d but i).2.2.2.2.2.2.1)) 27 ((dnI mm d but i).2.2.2.2.2.2.2.1)) 28 ((dnI mm d but i).2.2.2.2.2.2.2.2))) H := hP
              have hD : va_D A (wM a cI cZ (mS (mS (mS (mS (mS (mF (mF (mF (mF mm 29 ((dnI mm d but i).1)) 30 ((dnI mm d but i).2.1)) 31 ((dnI mm d but i).2.2.1)) 32 ((dnI mm d but i).2.2.2.1)) 33 ((dnI mm d but i).2.2.2.2.1)) 25 ((dnI mm d but i).2.2.2.2.2.1)) 26 ((dnI mm d but i).2.2.2.2.2.2.1)) 27 ((dnI mm d but i).2.2.2.2.2.2.2.1)) 28 ((dnI mm d but i).2.2.2.2.2.2.2.2))) := hD
              exact LB_92 r_83 (by unfold dnG; rw [if_neg c_63, if_neg c_68, if_pos c_77]; exact hr_83.symm) H locs hP hD hS ls (lv_sub hl [1, 2, 3, 4, 0] rfl)
  have em_51_29 : (dnI mm d but 0).1 = (upd (mm.2 29) ((0 : Int32).toNatClampNeg) ((mm.2 1) (d).toNatClampNeg)) := by rfl
  have em_51_30 : (dnI mm d but 0).2.1 = (upd (mm.2 30) ((0 : Int32).toNatClampNeg) ((mm.2 2) (d).toNatClampNeg)) := by rfl
  have em_51_31 : (dnI mm d but 0).2.2.1 = (upd (mm.2 31) ((0 : Int32).toNatClampNeg) ((mm.2 3) (d).toNatClampNeg)) := by rfl
  have em_51_32 : (dnI mm d but 0).2.2.2.1 = (upd (mm.2 32) ((0 : Int32).toNatClampNeg) 2) := by rfl
  have em_51_33 : (dnI mm d but 0).2.2.2.2.1 = (-9) := by rfl
  have em_51_25 : (dnI mm d but 0).2.2.2.2.2.1 = (mm.1 25) := by rfl
  have em_51_26 : (dnI mm d but 0).2.2.2.2.2.2.1 = (mm.1 26) := by rfl
  have em_51_27 : (dnI mm d but 0).2.2.2.2.2.2.2.1 = (mm.1 27) := by rfl
  have em_51_28 : (dnI mm d but 0).2.2.2.2.2.2.2.2 = (mm.1 28) := by rfl
  have hP : va_P D vwCl (wM a cI cZ (mS (mS (mS (mS (mS (mF (mF (mF (mF mm 29 (upd (mm.2 29) ((0 : Int32).toNatClampNeg) ((mm.2 1) (d).toNatClampNeg))) 30 (upd (mm.2 30) ((0 : Int32).toNatClampNeg) ((mm.2 2) (d).toNatClampNeg))) 31 (upd (mm.2 31) ((0 : Int32).toNatClampNeg) ((mm.2 3) (d).toNatClampNeg))) 32 (upd (mm.2 32) ((0 : Int32).toNatClampNeg) 2)) 33 (-9)) 25 (mm.1 25)) 26 (mm.1 26)) 27 (mm.1 27)) 28 (mm.1 28))) H := hP
  have hD : va_D A (wM a cI cZ (mS (mS (mS (mS (mS (mF (mF (mF (mF mm 29 (upd (mm.2 29) ((0 : Int32).toNatClampNeg) ((mm.2 1) (d).toNatClampNeg))) 30 (upd (mm.2 30) ((0 : Int32).toNatClampNeg) ((mm.2 2) (d).toNatClampNeg))) 31 (upd (mm.2 31) ((0 : Int32).toNatClampNeg) ((mm.2 3) (d).toNatClampNeg))) 32 (upd (mm.2 32) ((0 : Int32).toNatClampNeg) 2)) 33 (-9)) 25 (mm.1 25)) 26 (mm.1 26)) 27 (mm.1 27)) 28 (mm.1 28))) := hD
  have eM_51 : (mS (mS (mS (mS (mS (mF (mF (mF (mF mm 29 ((dnI mm d but 0).1)) 30 ((dnI mm d but 0).2.1)) 31 ((dnI mm d but 0).2.2.1)) 32 ((dnI mm d but 0).2.2.2.1)) 33 ((dnI mm d but 0).2.2.2.2.1)) 25 ((dnI mm d but 0).2.2.2.2.2.1)) 26 ((dnI mm d but 0).2.2.2.2.2.2.1)) 27 ((dnI mm d but 0).2.2.2.2.2.2.2.1)) 28 ((dnI mm d but 0).2.2.2.2.2.2.2.2)) = (mS (mS (mS (mS (mS (mF (mF (mF (mF mm 29 (upd (mm.2 29) ((0 : Int32).toNatClampNeg) ((mm.2 1) (d).toNatClampNeg))) 30 (upd (mm.2 30) ((0 : Int32).toNatClampNeg) ((mm.2 2) (d).toNatClampNeg))) 31 (upd (mm.2 31) ((0 : Int32).toNatClampNeg) ((mm.2 3) (d).toNatClampNeg))) 32 (upd (mm.2 32) ((0 : Int32).toNatClampNeg) 2)) 33 (-9)) 25 (mm.1 25)) 26 (mm.1 26)) 27 (mm.1 27)) 28 (mm.1 28)) := (mS_c (mS_c (mS_c (mS_c (mS_c (mF_c (mF_c (mF_c (mF_c rfl em_51_29) em_51_30) em_51_31) em_51_32) em_51_33) em_51_25) em_51_26) em_51_27) em_51_28)
  rw [← eM_51] at hP hD
  have hP : va_P D vwCl (wM a cI cZ (mS (mS (mS (mS (mS (mF (mF (mF (mF mm 29 ((dnI mm d but 0).1)) 30 ((dnI mm d but 0).2.1)) 31 ((dnI mm d but 0).2.2.1)) 32 ((dnI mm d but 0).2.2.2.1)) 33 ((dnI mm d but 0).2.2.2.2.1)) 25 ((dnI mm d but 0).2.2.2.2.2.1)) 26 ((dnI mm d but 0).2.2.2.2.2.2.1)) 27 ((dnI mm d but 0).2.2.2.2.2.2.2.1)) 28 ((dnI mm d but 0).2.2.2.2.2.2.2.2))) H := hP
  have hD : va_D A (wM a cI cZ (mS (mS (mS (mS (mS (mF (mF (mF (mF mm 29 ((dnI mm d but 0).1)) 30 ((dnI mm d but 0).2.1)) 31 ((dnI mm d but 0).2.2.1)) 32 ((dnI mm d but 0).2.2.2.1)) 33 ((dnI mm d but 0).2.2.2.2.1)) 25 ((dnI mm d but 0).2.2.2.2.2.1)) 26 ((dnI mm d but 0).2.2.2.2.2.2.1)) 27 ((dnI mm d but 0).2.2.2.2.2.2.2.1)) 28 ((dnI mm d but 0).2.2.2.2.2.2.2.2))) := hD
  exact LB_51 (10 + 1) 0 (by omega) (by omega) H locs hP hD hS ls (lv_sub hl [1, 2, 3, 0] rfl)
