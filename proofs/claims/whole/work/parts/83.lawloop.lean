/-! the law's loop -/
set_option maxHeartbeats 4000000 in
set_option maxRecDepth 100000 in
theorem law_loop {p : Program} {l : Launch} {e : Env} {s : State} {m : MethodId} {below : List Frame} {meth : Method} {c : Code} {b L : Nat} {xs : Nat → Int32} {D : va_G} {cI cJ cZ : ClassId} {a : Nat → Nat} (hL : L ≤ 3584) (C0 : lw_At p s m meth c b L xs) (hK : va_K D vwCl (tyL cI cJ cZ) s) (hN : EnvN s) (hE : EnvS (fun q : Nat => s.heap.size ≤ q) s s.heap) : ∀ (n i : Nat), i ≤ L → L + 1 ≤ i + n → LI p l e s m below meth c b D cI cJ cZ a i 18 := by
  intro n
  induction n with
  | zero => intro i h1 h2; exact absurd h2 (by omega)
  | succ n ih =>
    intro i hi hin
    have hk : L ≥ i + 7 → LI p l e s m below meth c b D cI cJ cZ a i 710 := by
      intro h7
      obtain ⟨hx, hb, hr, hml, hown, htb, hX, hbl, hlocks, hgv⟩ := C0
      intro xa tx rd tr dr hi si i1 i2 c1 c2 wk tl pb mm hM H locs hP hD hS ls hl
      refine lv_iinc (v := nI i + 7) (lv' := [(3, .int (nI i + 7)), (0, .ref b), (1, .ref (xa 0)), (2, .ref (a 0))]) hx hb dL_law_710 hl (k := 3) rfl rfl (by decide) rfl (fun ls hl => ?_)
      rw [show nI i + 7 = nI (i + 7) from nI_add i 7] at hl
      refine lv_goto (tgt := 18) hx hb dL_law_713 (by decide) ?_
      exact ih (i + 7) (by omega) (by omega) xa tx rd tr dr hi si i1 i2 c1 c2 wk tl pb mm hM H locs hP hD hS ls (lv_sub hl [1, 2, 3, 0] rfl)
    have C1 := C0
    obtain ⟨hx, hb, hr, hml, hown, htb, hX, hbl, hlocks, hgv⟩ := C0
    have hbA : ¬ (fun q : Nat => s.heap.size ≤ q) b := Nat.not_le.mpr hbl
    intro xa tx rd tr dr hi si i1 i2 c1 c2 wk tl pb mm hM H locs hP hD hS ls hl
    refine lv_iload_n hx hb dL_law_18 rfl (lv_at hl 3 rfl) ?_
    refine lv_aload_n hx hb dL_law_19 rfl (lv_at hl 0 rfl) ?_
    refine va_slen hx hb hX hbl hbA hS dL_law_20 ?_
    refine lv_bipush (v := 7) hx hb dL_law_21 (by decide) ?_
    refine lv_isub hx hb dL_law_23 ?_
    have e7 : (Int32.ofNat L - 7).toInt = (L : Int) - 7 := by
      show (nI L - 7).toInt = _
      rw [ti_sub (by rw [nIT (by omega), li_7]; omega) (by rw [nIT (by omega), li_7]; omega), nIT (by omega), li_7]
    refine lv_icmp_gt (tgt := 716) hx hb dL_law_24 (by decide) (fun c_24 => ?_) (fun c_24 => ?_)
    · refine lv_iconst (v := 1) hx hb dL_law_716 (by decide) ?_
      refine va_forget (fun q hq => hS.2.2 q hq) ?_
      exact lw_ret hx hb hr hlocks dL_law_717
    · have h7 : i + 7 ≤ L := by
        have := i_nlt c_24
        rw [nIT (by omega), e7] at this
        omega
      have hk := hk h7
      refine lv_aload_n hx hb dL_law_27 rfl (lv_at hl 0 rfl) ?_
      refine lv_iload_n hx hb dL_law_28 rfl (lv_at hl 3 rfl) ?_
      refine va_sld hx hb hX hbl hbA hS (vp_in_nI (by omega) (by omega)) dL_law_29 ?_
      refine lv_bipush (v := 31) hx hb dL_law_30 (by decide) ?_
      refine lv_iand hx hb dL_law_32 ?_
      generalize xs (nI i).toNatClampNeg &&& 31 = kx
      by_cases w_0 : kx = 0
      · refine lv_tableIn (off := 95) (tgt := 128) hx hb dL_law_33 (by rw [w_0]; decide) (by rw [w_0]; decide) (by rw [w_0]; rfl) (by decide) ?_
        exact law_type hL C1 hK hN hE h7 hk xa tx rd tr dr hi si i1 i2 c1 c2 wk tl pb mm hM H locs hP hD hS ls hl
      by_cases w_1 : kx = 1
      · refine lv_tableIn (off := 118) (tgt := 151) hx hb dL_law_33 (by rw [w_1]; decide) (by rw [w_1]; decide) (by rw [w_1]; rfl) (by decide) ?_
        exact law_clear hL C1 hK hN hE h7 hk xa tx rd tr dr hi si i1 i2 c1 c2 wk tl pb mm hM H locs hP hD hS ls hl
      by_cases w_2 : kx = 2
      · refine lv_tableIn (off := 131) (tgt := 164) hx hb dL_law_33 (by rw [w_2]; decide) (by rw [w_2]; decide) (by rw [w_2]; rfl) (by decide) ?_
        exact law_dance hL C1 hK hN hE h7 hk xa tx rd tr dr hi si i1 i2 c1 c2 wk tl pb mm hM H locs hP hD hS ls hl
      by_cases w_3 : kx = 3
      · refine lv_tableIn (off := 144) (tgt := 177) hx hb dL_law_33 (by rw [w_3]; decide) (by rw [w_3]; decide) (by rw [w_3]; rfl) (by decide) ?_
        exact law_sign hL C1 hK hN hE h7 hk xa tx rd tr dr hi si i1 i2 c1 c2 wk tl pb mm hM H locs hP hD hS ls hl
      by_cases w_4 : kx = 4
      · refine lv_tableIn (off := 177) (tgt := 210) hx hb dL_law_33 (by rw [w_4]; decide) (by rw [w_4]; decide) (by rw [w_4]; rfl) (by decide) ?_
        exact law_stand hL C1 hK hN hE h7 hk xa tx rd tr dr hi si i1 i2 c1 c2 wk tl pb mm hM H locs hP hD hS ls hl
      by_cases w_5 : kx = 5
      · refine lv_tableIn (off := 220) (tgt := 253) hx hb dL_law_33 (by rw [w_5]; decide) (by rw [w_5]; decide) (by rw [w_5]; rfl) (by decide) ?_
        exact law_staff hL C1 hK hN hE h7 hk xa tx rd tr dr hi si i1 i2 c1 c2 wk tl pb mm hM H locs hP hD hS ls hl
      by_cases w_6 : kx = 6
      · refine lv_tableIn (off := 253) (tgt := 286) hx hb dL_law_33 (by rw [w_6]; decide) (by rw [w_6]; decide) (by rw [w_6]; rfl) (by decide) ?_
        exact law_mirrors hL C1 hK hN hE h7 hk xa tx rd tr dr hi si i1 i2 c1 c2 wk tl pb mm hM H locs hP hD hS ls hl
      by_cases w_7 : kx = 7
      · refine lv_tableIn (off := 276) (tgt := 309) hx hb dL_law_33 (by rw [w_7]; decide) (by rw [w_7]; decide) (by rw [w_7]; rfl) (by decide) ?_
        exact law_canons hL C1 hK hN hE h7 hk xa tx rd tr dr hi si i1 i2 c1 c2 wk tl pb mm hM H locs hP hD hS ls hl
      by_cases w_8 : kx = 8
      · refine lv_tableIn (off := 319) (tgt := 352) hx hb dL_law_33 (by rw [w_8]; decide) (by rw [w_8]; decide) (by rw [w_8]; rfl) (by decide) ?_
        exact law_changes hL C1 hK hN hE h7 hk xa tx rd tr dr hi si i1 i2 c1 c2 wk tl pb mm hM H locs hP hD hS ls hl
      by_cases w_9 : kx = 9
      · refine lv_tableIn (off := 362) (tgt := 395) hx hb dL_law_33 (by rw [w_9]; decide) (by rw [w_9]; decide) (by rw [w_9]; rfl) (by decide) ?_
        exact law_adds hL C1 hK hN hE h7 hk xa tx rd tr dr hi si i1 i2 c1 c2 wk tl pb mm hM H locs hP hD hS ls hl
      by_cases w_10 : kx = 10
      · refine lv_tableIn (off := 395) (tgt := 428) hx hb dL_law_33 (by rw [w_10]; decide) (by rw [w_10]; decide) (by rw [w_10]; rfl) (by decide) ?_
        exact law_undo hL C1 hK hN hE h7 hk xa tx rd tr dr hi si i1 i2 c1 c2 wk tl pb mm hM H locs hP hD hS ls hl
      by_cases w_11 : kx = 11
      · refine lv_tableIn (off := 408) (tgt := 441) hx hb dL_law_33 (by rw [w_11]; decide) (by rw [w_11]; decide) (by rw [w_11]; rfl) (by decide) ?_
        exact law_meet hL C1 hK hN hE h7 hk xa tx rd tr dr hi si i1 i2 c1 c2 wk tl pb mm hM H locs hP hD hS ls hl
      by_cases w_12 : kx = 12
      · refine lv_tableIn (off := 451) (tgt := 484) hx hb dL_law_33 (by rw [w_12]; decide) (by rw [w_12]; decide) (by rw [w_12]; rfl) (by decide) ?_
        exact law_fewest hL C1 hK hN hE h7 hk xa tx rd tr dr hi si i1 i2 c1 c2 wk tl pb mm hM H locs hP hD hS ls hl
      by_cases w_13 : kx = 13
      · refine lv_tableIn (off := 526) (tgt := 559) hx hb dL_law_33 (by rw [w_13]; decide) (by rw [w_13]; decide) (by rw [w_13]; rfl) (by decide) ?_
        exact law_sees hL C1 hK hN hE h7 hk xa tx rd tr dr hi si i1 i2 c1 c2 wk tl pb mm hM H locs hP hD hS ls hl
      by_cases w_14 : kx = 14
      · refine lv_tableIn (off := 569) (tgt := 602) hx hb dL_law_33 (by rw [w_14]; decide) (by rw [w_14]; decide) (by rw [w_14]; rfl) (by decide) ?_
        exact law_forget hL C1 hK hN hE h7 hk xa tx rd tr dr hi si i1 i2 c1 c2 wk tl pb mm hM H locs hP hD hS ls hl
      by_cases w_15 : kx = 15
      · refine lv_tableIn (off := 582) (tgt := 615) hx hb dL_law_33 (by rw [w_15]; decide) (by rw [w_15]; decide) (by rw [w_15]; rfl) (by decide) ?_
        exact law_unseen hL C1 hK hN hE h7 hk xa tx rd tr dr hi si i1 i2 c1 c2 wk tl pb mm hM H locs hP hD hS ls hl
      by_cases w_16 : kx = 16
      · refine lv_tableIn (off := 595) (tgt := 628) hx hb dL_law_33 (by rw [w_16]; decide) (by rw [w_16]; decide) (by rw [w_16]; rfl) (by decide) ?_
        exact law_look hL C1 hK hN hE h7 hk xa tx rd tr dr hi si i1 i2 c1 c2 wk tl pb mm hM H locs hP hD hS ls hl
      by_cases w_17 : kx = 17
      · refine lv_tableIn (off := 608) (tgt := 641) hx hb dL_law_33 (by rw [w_17]; decide) (by rw [w_17]; decide) (by rw [w_17]; rfl) (by decide) ?_
        exact law_keep hL C1 hK hN hE h7 hk xa tx rd tr dr hi si i1 i2 c1 c2 wk tl pb mm hM H locs hP hD hS ls hl
      by_cases w_18 : kx = 18
      · refine lv_tableIn (off := 631) (tgt := 664) hx hb dL_law_33 (by rw [w_18]; decide) (by rw [w_18]; decide) (by rw [w_18]; rfl) (by decide) ?_
        exact law_back hL C1 hK hN hE h7 hk xa tx rd tr dr hi si i1 i2 c1 c2 wk tl pb mm hM H locs hP hD hS ls hl
      by_cases w_19 : kx = 19
      · refine lv_tableIn (off := 654) (tgt := 687) hx hb dL_law_33 (by rw [w_19]; decide) (by rw [w_19]; decide) (by rw [w_19]; rfl) (by decide) ?_
        exact law_count hL C1 hK hN hE h7 hk xa tx rd tr dr hi si i1 i2 c1 c2 wk tl pb mm hM H locs hP hD hS ls hl
      refine lv_tableOut (tgt := 710) hx hb dL_law_33 (by have := lv_neT w_0 (a := 0) (by decide);  have := lv_neT w_1 (a := 1) (by decide);  have := lv_neT w_2 (a := 2) (by decide);  have := lv_neT w_3 (a := 3) (by decide);  have := lv_neT w_4 (a := 4) (by decide);  have := lv_neT w_5 (a := 5) (by decide);  have := lv_neT w_6 (a := 6) (by decide);  have := lv_neT w_7 (a := 7) (by decide);  have := lv_neT w_8 (a := 8) (by decide);  have := lv_neT w_9 (a := 9) (by decide);  have := lv_neT w_10 (a := 10) (by decide);  have := lv_neT w_11 (a := 11) (by decide);  have := lv_neT w_12 (a := 12) (by decide);  have := lv_neT w_13 (a := 13) (by decide);  have := lv_neT w_14 (a := 14) (by decide);  have := lv_neT w_15 (a := 15) (by decide);  have := lv_neT w_16 (a := 16) (by decide);  have := lv_neT w_17 (a := 17) (by decide);  have := lv_neT w_18 (a := 18) (by decide);  have := lv_neT w_19 (a := 19) (by decide); omega) (by decide) ?_
      exact hk xa tx rd tr dr hi si i1 i2 c1 c2 wk tl pb mm hM H locs hP hD hS ls hl
theorem fl15 (x0 x1 x2 x3 x4 x5 x6 x7 x8 x9 x10 x11 x12 x13 x14 : va_W) : [x0, x1, x2, x3, x4, x5, x6, x7, x8, x9, x10, x11, x12, x13, x14].flatten = x0 ++ x1 ++ x2 ++ x3 ++ x4 ++ x5 ++ x6 ++ x7 ++ x8 ++ x9 ++ x10 ++ x11 ++ x12 ++ x13 ++ x14 := by simp
