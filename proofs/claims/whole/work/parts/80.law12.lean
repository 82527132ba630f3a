/-! the law: fewest -/
set_option maxHeartbeats 4000000 in
set_option maxRecDepth 100000 in
theorem law_fewest {p : Program} {l : Launch} {e : Env} {s : State} {m : MethodId} {below : List Frame} {meth : Method} {c : Code} {b L : Nat} {xs : Nat → Int32} {D : va_G} {cI cJ cZ : ClassId} {a : Nat → Nat} {i : Nat} (hL : L ≤ 3584) (C0 : lw_At p s m meth c b L xs) (hK : va_K D vwCl (tyL cI cJ cZ) s) (hN : EnvN s) (hE : EnvS (fun q : Nat => s.heap.size ≤ q) s s.heap) (h7 : i + 7 ≤ L) (hk : LI p l e s m below meth c b D cI cJ cZ a i 710) : LI p l e s m below meth c b D cI cJ cZ a i 484 := by
  obtain ⟨hx, hb, hr, hml, hown, htb, hX, hbl, hlocks, hgv⟩ := C0
  have hts : ∀ w ∈ wsL_law, w.before #[Value.ref b] s = true := fun w hw => htb w (wsL_law_in w hw)
  have hA : ∀ q : Nat, s.heap.size ≤ q → (fun q : Nat => s.heap.size ≤ q) q := fun _ h => h
  have hbA : ¬ (fun q : Nat => s.heap.size ≤ q) b := Nat.not_le.mpr hbl
  intro xa tx rd tr dr hi si i1 i2 c1 c2 wk tl pb mm hM H locs hP hD hS ls hl
  have hR : RR tx tr hi si i1 i2 (mm.1 0) (mm.1 5) (mm.1 6) (mm.1 8) (mm.1 13) (mm.2 1) (mm.2 2) (mm.2 3) (mm.2 4) (mm.2 7) (mm.2 9) (mm.2 10) (mm.2 11) (mm.2 12) (mm.2 14) := hM
  have v1 : vp_in (nI i + 1) L := li_in 1 h7 hL (by omega)
  have v2 : vp_in (nI i + 2) L := li_in 2 h7 hL (by omega)
  have v3 : vp_in (nI i + 3) L := li_in 3 h7 hL (by omega)
  have v4 : vp_in (nI i + 4) L := li_in 4 h7 hL (by omega)
  have v5 : vp_in (nI i + 5) L := li_in 5 h7 hL (by omega)
  have v6 : vp_in (nI i + 6) L := li_in 6 h7 hL (by omega)
  obtain ⟨y1, ey1⟩ : ∃ zq0 : Int32, zq0 = xs (nI i + 1).toNatClampNeg := ⟨_, rfl⟩
  obtain ⟨y2, ey2⟩ : ∃ zq0 : Int32, zq0 = xs (nI i + 2).toNatClampNeg := ⟨_, rfl⟩
  obtain ⟨y3, ey3⟩ : ∃ zq0 : Int32, zq0 = xs (nI i + 3).toNatClampNeg := ⟨_, rfl⟩
  obtain ⟨y4, ey4⟩ : ∃ zq0 : Int32, zq0 = xs (nI i + 4).toNatClampNeg := ⟨_, rfl⟩
  obtain ⟨y5, ey5⟩ : ∃ zq0 : Int32, zq0 = xs (nI i + 5).toNatClampNeg := ⟨_, rfl⟩
  obtain ⟨y6, ey6⟩ : ∃ zq0 : Int32, zq0 = xs (nI i + 6).toNatClampNeg := ⟨_, rfl⟩
  have hP : va_P D vwCl (List.flatten [wXo xa, wTxt (xa 1) (xa 2) cI tx, wRdr (xa 3) rd, wTrp (xa 4) (xa 5) (xa 6) (xa 7) (xa 8) (xa 9) (xa 10) cI tr, wTrp (xa 11) (xa 12) (xa 13) (xa 14) (xa 15) (xa 16) (xa 17) cI dr, wHis (xa 18) (xa 19) (xa 20) (xa 21) cI hi, wSgt (xa 22) (xa 23) (xa 24) (xa 25) cI si, wImg (xa 26) (xa 27) (xa 28) (xa 29) cI i1, wImg (xa 30) (xa 31) (xa 32) (xa 33) cI i2, wCrs (xa 34) (xa 35) (xa 36) (xa 37) (xa 38) (xa 39) cI c1, wCrs (xa 40) (xa 41) (xa 42) (xa 43) (xa 44) (xa 45) cI c2, wStg (xa 46) wk, wStg (xa 47) tl, wLon (xa 48) cJ pb, wM a cI cZ mm]) H := hP
  have hD : va_D (fun q : Nat => s.heap.size ≤ q) (List.flatten [wXo xa, wTxt (xa 1) (xa 2) cI tx, wRdr (xa 3) rd, wTrp (xa 4) (xa 5) (xa 6) (xa 7) (xa 8) (xa 9) (xa 10) cI tr, wTrp (xa 11) (xa 12) (xa 13) (xa 14) (xa 15) (xa 16) (xa 17) cI dr, wHis (xa 18) (xa 19) (xa 20) (xa 21) cI hi, wSgt (xa 22) (xa 23) (xa 24) (xa 25) cI si, wImg (xa 26) (xa 27) (xa 28) (xa 29) cI i1, wImg (xa 30) (xa 31) (xa 32) (xa 33) cI i2, wCrs (xa 34) (xa 35) (xa 36) (xa 37) (xa 38) (xa 39) cI c1, wCrs (xa 40) (xa 41) (xa 42) (xa 43) (xa 44) (xa 45) cI c2, wStg (xa 46) wk, wStg (xa 47) tl, wLon (xa 48) cJ pb, wM a cI cZ mm]) := hD
  refine lv_aload_n hx hb dL_law_484 rfl (lv_at hl 1 rfl) ?_
  refine lv_aload_n hx hb dL_law_485 rfl (lv_at hl 0 rfl) ?_
  refine lv_iload_n hx hb dL_law_486 rfl (lv_at hl 3 rfl) ?_
  refine lv_iconst (v := 1) hx hb dL_law_487 (by decide) ?_
  refine lv_iadd hx hb dL_law_488 ?_
  refine va_sld hx hb hX hbl hbA hS v1 dL_law_489 ?_
  rw [← ey1]
  refine lv_aload_n hx hb dL_law_490 rfl (lv_at hl 0 rfl) ?_
  refine lv_iload_n hx hb dL_law_491 rfl (lv_at hl 3 rfl) ?_
  refine lv_iconst (v := 2) hx hb dL_law_492 (by decide) ?_
  refine lv_iadd hx hb dL_law_493 ?_
  refine va_sld hx hb hX hbl hbA hS v2 dL_law_494 ?_
  rw [← ey2]
  refine lv_aload_n hx hb dL_law_495 rfl (lv_at hl 0 rfl) ?_
  refine lv_iload_n hx hb dL_law_496 rfl (lv_at hl 3 rfl) ?_
  refine lv_iconst (v := 3) hx hb dL_law_497 (by decide) ?_
  refine lv_iadd hx hb dL_law_498 ?_
  refine va_sld hx hb hX hbl hbA hS v3 dL_law_499 ?_
  rw [← ey3]
  refine lv_aload_n hx hb dL_law_500 rfl (lv_at hl 0 rfl) ?_
  refine lv_iload_n hx hb dL_law_501 rfl (lv_at hl 3 rfl) ?_
  refine lv_iconst (v := 4) hx hb dL_law_502 (by decide) ?_
  refine lv_iadd hx hb dL_law_503 ?_
  refine va_sld hx hb hX hbl hbA hS v4 dL_law_504 ?_
  rw [← ey4]
  refine lv_aload_n hx hb dL_law_505 rfl (lv_at hl 0 rfl) ?_
  refine lv_iload_n hx hb dL_law_506 rfl (lv_at hl 3 rfl) ?_
  refine lv_iconst (v := 5) hx hb dL_law_507 (by decide) ?_
  refine lv_iadd hx hb dL_law_508 ?_
  refine va_sld hx hb hX hbl hbA hS v5 dL_law_509 ?_
  rw [← ey5]
  refine lv_aload_n hx hb dL_law_510 rfl (lv_at hl 0 rfl) ?_
  refine lv_iload_n hx hb dL_law_511 rfl (lv_at hl 3 rfl) ?_
  refine lv_bipush (v := 6) hx hb dL_law_512 (by decide) ?_
  refine lv_iadd hx hb dL_law_514 ?_
  refine va_sld hx hb hX hbl hbA hS v6 dL_law_515 ?_
  rw [← ey6]
  have hp0 : (List.flatten [wXo xa, wTxt (xa 1) (xa 2) cI tx, wRdr (xa 3) rd, wTrp (xa 4) (xa 5) (xa 6) (xa 7) (xa 8) (xa 9) (xa 10) cI tr, wTrp (xa 11) (xa 12) (xa 13) (xa 14) (xa 15) (xa 16) (xa 17) cI dr, wHis (xa 18) (xa 19) (xa 20) (xa 21) cI hi, wSgt (xa 22) (xa 23) (xa 24) (xa 25) cI si, wImg (xa 26) (xa 27) (xa 28) (xa 29) cI i1, wImg (xa 30) (xa 31) (xa 32) (xa 33) cI i2, wCrs (xa 34) (xa 35) (xa 36) (xa 37) (xa 38) (xa 39) cI c1, wCrs (xa 40) (xa 41) (xa 42) (xa 43) (xa 44) (xa 45) cI c2, wStg (xa 46) wk, wStg (xa 47) tl, wLon (xa 48) cJ pb, wM a cI cZ mm]).Perm (List.flatten [wTxt (xa 1) (xa 2) cI tx, wRdr (xa 3) rd, wTrp (xa 11) (xa 12) (xa 13) (xa 14) (xa 15) (xa 16) (xa 17) cI dr, wHis (xa 18) (xa 19) (xa 20) (xa 21) cI hi, wSgt (xa 22) (xa 23) (xa 24) (xa 25) cI si, wImg (xa 26) (xa 27) (xa 28) (xa 29) cI i1, wImg (xa 30) (xa 31) (xa 32) (xa 33) cI i2, wCrs (xa 40) (xa 41) (xa 42) (xa 43) (xa 44) (xa 45) cI c2, wLon (xa 48) cJ pb, wM a cI cZ mm] ++ (wXo xa ++ wTrp (xa 4) (xa 5) (xa 6) (xa 7) (xa 8) (xa 9) (xa 10) cI tr ++ wCrs (xa 34) (xa 35) (xa 36) (xa 37) (xa 38) (xa 39) cI c1 ++ wStg (xa 46) wk ++ wStg (xa 47) tl)) := (pm_bl [wXo xa, wTxt (xa 1) (xa 2) cI tx, wRdr (xa 3) rd, wTrp (xa 4) (xa 5) (xa 6) (xa 7) (xa 8) (xa 9) (xa 10) cI tr, wTrp (xa 11) (xa 12) (xa 13) (xa 14) (xa 15) (xa 16) (xa 17) cI dr, wHis (xa 18) (xa 19) (xa 20) (xa 21) cI hi, wSgt (xa 22) (xa 23) (xa 24) (xa 25) cI si, wImg (xa 26) (xa 27) (xa 28) (xa 29) cI i1, wImg (xa 30) (xa 31) (xa 32) (xa 33) cI i2, wCrs (xa 34) (xa 35) (xa 36) (xa 37) (xa 38) (xa 39) cI c1, wCrs (xa 40) (xa 41) (xa 42) (xa 43) (xa 44) (xa 45) cI c2, wStg (xa 46) wk, wStg (xa 47) tl, wLon (xa 48) cJ pb, wM a cI cZ mm] [wTxt (xa 1) (xa 2) cI tx, wRdr (xa 3) rd, wTrp (xa 11) (xa 12) (xa 13) (xa 14) (xa 15) (xa 16) (xa 17) cI dr, wHis (xa 18) (xa 19) (xa 20) (xa 21) cI hi, wSgt (xa 22) (xa 23) (xa 24) (xa 25) cI si, wImg (xa 26) (xa 27) (xa 28) (xa 29) cI i1, wImg (xa 30) (xa 31) (xa 32) (xa 33) cI i2, wCrs (xa 40) (xa 41) (xa 42) (xa 43) (xa 44) (xa 45) cI c2, wLon (xa 48) cJ pb, wM a cI cZ mm] [wXo xa, wTrp (xa 4) (xa 5) (xa 6) (xa 7) (xa 8) (xa 9) (xa 10) cI tr, wCrs (xa 34) (xa 35) (xa 36) (xa 37) (xa 38) (xa 39) cI c1, wStg (xa 46) wk, wStg (xa 47) tl] 15 rfl [1, 2, 4, 5, 6, 7, 8, 10, 13, 14, 0, 3, 9, 11, 12] (by decide) rfl (fl5 _ _ _ _ _))
  have ct0 := (c_X9_fewest l D cI cJ cZ xa H.size tr c1 wk tl y1 y2 y3 y4 y5 y6 (hR.trp) (fun w1 w2 => xFw_k hR.2.1.1 c1 wk y1 y2 y3 y4 y5 y6 w1 w2))
  refine jb_i (W2 := fun u0 => List.flatten [wXo xa, wTxt (xa 1) (xa 2) cI tx, wRdr (xa 3) rd, wTrp (xa 4) (xa 5) (xa 6) (xa 7) (xa 8) (xa 9) (xa 10) cI tr, wTrp (xa 11) (xa 12) (xa 13) (xa 14) (xa 15) (xa 16) (xa 17) cI dr, wHis (xa 18) (xa 19) (xa 20) (xa 21) cI hi, wSgt (xa 22) (xa 23) (xa 24) (xa 25) cI si, wImg (xa 26) (xa 27) (xa 28) (xa 29) cI i1, wImg (xa 30) (xa 31) (xa 32) (xa 33) cI i2, wCrs (xa 34) (xa 35) (xa 36) (xa 37) (xa 38) (xa 39) cI u0.1, wCrs (xa 40) (xa 41) (xa 42) (xa 43) (xa 44) (xa 45) cI c2, wStg (xa 46) u0.2.1, wStg (xa 47) u0.2.2, wLon (xa 48) cJ pb, wM a cI cZ mm]) (va_runV (As := [.int y1, .int y2, .int y3, .int y4, .int y5, .int y6]) (rest := []) ⟨hx, hb, hml, hown, hts⟩ ct0 (cwV 6 hts gL_law_X9_fewest rfl rfl rfl (by decide +kernel) ⟨Nat.le_of_ble_eq_true rfl, Nat.le_of_ble_eq_true rfl⟩) (pr_VB hP hD hK hN hE hS hA hp0 (ci := 9) (q0 := 0) rfl rfl) rfl rfl hl.1 rfl (lv_room (Nat.le_of_ble_eq_true rfl)) dL_law_516 ⟨Nat.le_of_ble_eq_true rfl, Nat.le_of_ble_eq_true rfl⟩) hP hD hS hA hp0 ?hq0 (fun r0 u0 H locs hw0 hP hD hS => ?_)
  case hq0 => exact fun u0 => (pm_bl [wXo xa, wTxt (xa 1) (xa 2) cI tx, wRdr (xa 3) rd, wTrp (xa 4) (xa 5) (xa 6) (xa 7) (xa 8) (xa 9) (xa 10) cI tr, wTrp (xa 11) (xa 12) (xa 13) (xa 14) (xa 15) (xa 16) (xa 17) cI dr, wHis (xa 18) (xa 19) (xa 20) (xa 21) cI hi, wSgt (xa 22) (xa 23) (xa 24) (xa 25) cI si, wImg (xa 26) (xa 27) (xa 28) (xa 29) cI i1, wImg (xa 30) (xa 31) (xa 32) (xa 33) cI i2, wCrs (xa 34) (xa 35) (xa 36) (xa 37) (xa 38) (xa 39) cI u0.1, wCrs (xa 40) (xa 41) (xa 42) (xa 43) (xa 44) (xa 45) cI c2, wStg (xa 46) u0.2.1, wStg (xa 47) u0.2.2, wLon (xa 48) cJ pb, wM a cI cZ mm] [wTxt (xa 1) (xa 2) cI tx, wRdr (xa 3) rd, wTrp (xa 11) (xa 12) (xa 13) (xa 14) (xa 15) (xa 16) (xa 17) cI dr, wHis (xa 18) (xa 19) (xa 20) (xa 21) cI hi, wSgt (xa 22) (xa 23) (xa 24) (xa 25) cI si, wImg (xa 26) (xa 27) (xa 28) (xa 29) cI i1, wImg (xa 30) (xa 31) (xa 32) (xa 33) cI i2, wCrs (xa 40) (xa 41) (xa 42) (xa 43) (xa 44) (xa 45) cI c2, wLon (xa 48) cJ pb, wM a cI cZ mm] [wXo xa, wTrp (xa 4) (xa 5) (xa 6) (xa 7) (xa 8) (xa 9) (xa 10) cI tr, wCrs (xa 34) (xa 35) (xa 36) (xa 37) (xa 38) (xa 39) cI u0.1, wStg (xa 46) u0.2.1, wStg (xa 47) u0.2.2] 15 rfl [1, 2, 4, 5, 6, 7, 8, 10, 13, 14, 0, 3, 9, 11, 12] (by decide) rfl (fl5 _ _ _ _ _))
  obtain ⟨hrx, hu0⟩ := hw0
  refine lv_aload_n hx hb dL_law_519 rfl (lv_at hl 2 rfl) ?_
  refine lv_aload_n hx hb dL_law_520 rfl (lv_at hl 0 rfl) ?_
  refine lv_iload_n hx hb dL_law_521 rfl (lv_at hl 3 rfl) ?_
  refine lv_iconst (v := 1) hx hb dL_law_522 (by decide) ?_
  refine lv_iadd hx hb dL_law_523 ?_
  refine va_sld hx hb hX hbl hbA hS v1 dL_law_524 ?_
  rw [← ey1]
  refine lv_aload_n hx hb dL_law_525 rfl (lv_at hl 0 rfl) ?_
  refine lv_iload_n hx hb dL_law_526 rfl (lv_at hl 3 rfl) ?_
  refine lv_iconst (v := 2) hx hb dL_law_527 (by decide) ?_
  refine lv_iadd hx hb dL_law_528 ?_
  refine va_sld hx hb hX hbl hbA hS v2 dL_law_529 ?_
  rw [← ey2]
  refine lv_aload_n hx hb dL_law_530 rfl (lv_at hl 0 rfl) ?_
  refine lv_iload_n hx hb dL_law_531 rfl (lv_at hl 3 rfl) ?_
  refine lv_iconst (v := 3) hx hb dL_law_532 (by decide) ?_
  refine lv_iadd hx hb dL_law_533 ?_
  refine va_sld hx hb hX hbl hbA hS v3 dL_law_534 ?_
  rw [← ey3]
  refine lv_aload_n hx hb dL_law_535 rfl (lv_at hl 0 rfl) ?_
  refine lv_iload_n hx hb dL_law_536 rfl (lv_at hl 3 rfl) ?_
  refine lv_iconst (v := 4) hx hb dL_law_537 (by decide) ?_
  refine lv_iadd hx hb dL_law_538 ?_
  refine va_sld hx hb hX hbl hbA hS v4 dL_law_539 ?_
  rw [← ey4]
  refine lv_aload_n hx hb dL_law_540 rfl (lv_at hl 0 rfl) ?_
  refine lv_iload_n hx hb dL_law_541 rfl (lv_at hl 3 rfl) ?_
  refine lv_iconst (v := 5) hx hb dL_law_542 (by decide) ?_
  refine lv_iadd hx hb dL_law_543 ?_
  refine va_sld hx hb hX hbl hbA hS v5 dL_law_544 ?_
  rw [← ey5]
  refine lv_aload_n hx hb dL_law_545 rfl (lv_at hl 0 rfl) ?_
  refine lv_iload_n hx hb dL_law_546 rfl (lv_at hl 3 rfl) ?_
  refine lv_bipush (v := 6) hx hb dL_law_547 (by decide) ?_
  refine lv_iadd hx hb dL_law_549 ?_
  refine va_sld hx hb hX hbl hbA hS v6 dL_law_550 ?_
  rw [← ey6]
  have hp1 : (List.flatten [wXo xa, wTxt (xa 1) (xa 2) cI tx, wRdr (xa 3) rd, wTrp (xa 4) (xa 5) (xa 6) (xa 7) (xa 8) (xa 9) (xa 10) cI tr, wTrp (xa 11) (xa 12) (xa 13) (xa 14) (xa 15) (xa 16) (xa 17) cI dr, wHis (xa 18) (xa 19) (xa 20) (xa 21) cI hi, wSgt (xa 22) (xa 23) (xa 24) (xa 25) cI si, wImg (xa 26) (xa 27) (xa 28) (xa 29) cI i1, wImg (xa 30) (xa 31) (xa 32) (xa 33) cI i2, wCrs (xa 34) (xa 35) (xa 36) (xa 37) (xa 38) (xa 39) cI u0.1, wCrs (xa 40) (xa 41) (xa 42) (xa 43) (xa 44) (xa 45) cI c2, wStg (xa 46) u0.2.1, wStg (xa 47) u0.2.2, wLon (xa 48) cJ pb, wM a cI cZ mm]).Perm (List.flatten [wXo xa, wTxt (xa 1) (xa 2) cI tx, wRdr (xa 3) rd, wTrp (xa 4) (xa 5) (xa 6) (xa 7) (xa 8) (xa 9) (xa 10) cI tr, wTrp (xa 11) (xa 12) (xa 13) (xa 14) (xa 15) (xa 16) (xa 17) cI dr, wHis (xa 18) (xa 19) (xa 20) (xa 21) cI hi, wSgt (xa 22) (xa 23) (xa 24) (xa 25) cI si, wImg (xa 26) (xa 27) (xa 28) (xa 29) cI i1, wImg (xa 30) (xa 31) (xa 32) (xa 33) cI i2, wCrs (xa 34) (xa 35) (xa 36) (xa 37) (xa 38) (xa 39) cI u0.1, wCrs (xa 40) (xa 41) (xa 42) (xa 43) (xa 44) (xa 45) cI c2, wStg (xa 46) u0.2.1, wStg (xa 47) u0.2.2, wLon (xa 48) cJ pb] ++ (wM a cI cZ mm)) := (pm_bl [wXo xa, wTxt (xa 1) (xa 2) cI tx, wRdr (xa 3) rd, wTrp (xa 4) (xa 5) (xa 6) (xa 7) (xa 8) (xa 9) (xa 10) cI tr, wTrp (xa 11) (xa 12) (xa 13) (xa 14) (xa 15) (xa 16) (xa 17) cI dr, wHis (xa 18) (xa 19) (xa 20) (xa 21) cI hi, wSgt (xa 22) (xa 23) (xa 24) (xa 25) cI si, wImg (xa 26) (xa 27) (xa 28) (xa 29) cI i1, wImg (xa 30) (xa 31) (xa 32) (xa 33) cI i2, wCrs (xa 34) (xa 35) (xa 36) (xa 37) (xa 38) (xa 39) cI u0.1, wCrs (xa 40) (xa 41) (xa 42) (xa 43) (xa 44) (xa 45) cI c2, wStg (xa 46) u0.2.1, wStg (xa 47) u0.2.2, wLon (xa 48) cJ pb, wM a cI cZ mm] [wXo xa, wTxt (xa 1) (xa 2) cI tx, wRdr (xa 3) rd, wTrp (xa 4) (xa 5) (xa 6) (xa 7) (xa 8) (xa 9) (xa 10) cI tr, wTrp (xa 11) (xa 12) (xa 13) (xa 14) (xa 15) (xa 16) (xa 17) cI dr, wHis (xa 18) (xa 19) (xa 20) (xa 21) cI hi, wSgt (xa 22) (xa 23) (xa 24) (xa 25) cI si, wImg (xa 26) (xa 27) (xa 28) (xa 29) cI i1, wImg (xa 30) (xa 31) (xa 32) (xa 33) cI i2, wCrs (xa 34) (xa 35) (xa 36) (xa 37) (xa 38) (xa 39) cI u0.1, wCrs (xa 40) (xa 41) (xa 42) (xa 43) (xa 44) (xa 45) cI c2, wStg (xa 46) u0.2.1, wStg (xa 47) u0.2.2, wLon (xa 48) cJ pb] [wM a cI cZ mm] 15 rfl [0, 1, 2, 3, 4, 5, 6, 7, 8, 9, 10, 11, 12, 13, 14] (by decide) rfl (fl1 _))
  have ct1 := (c_X10_fewest l D cI cJ cZ a H.size mm y1 y2 y3 y4 y5 y6 (hR.mn.1) (hR.mn.2) (fun w1 w2 => hR.so c1 y1 y2 w1 w2))
  refine jb_i (W2 := fun u1 => List.flatten [wXo xa, wTxt (xa 1) (xa 2) cI tx, wRdr (xa 3) rd, wTrp (xa 4) (xa 5) (xa 6) (xa 7) (xa 8) (xa 9) (xa 10) cI tr, wTrp (xa 11) (xa 12) (xa 13) (xa 14) (xa 15) (xa 16) (xa 17) cI dr, wHis (xa 18) (xa 19) (xa 20) (xa 21) cI hi, wSgt (xa 22) (xa 23) (xa 24) (xa 25) cI si, wImg (xa 26) (xa 27) (xa 28) (xa 29) cI i1, wImg (xa 30) (xa 31) (xa 32) (xa 33) cI i2, wCrs (xa 34) (xa 35) (xa 36) (xa 37) (xa 38) (xa 39) cI u0.1, wCrs (xa 40) (xa 41) (xa 42) (xa 43) (xa 44) (xa 45) cI c2, wStg (xa 46) u0.2.1, wStg (xa 47) u0.2.2, wLon (xa 48) cJ pb, wM a cI cZ (mF (mF (mF (mS (mS (mS (mS (mS (mF (mF (mF (mF mm 29 u1.1.1) 30 u1.1.2.1) 31 u1.1.2.2.1) 32 u1.1.2.2.2.1) 33 u1.1.2.2.2.2.1) 25 u1.1.2.2.2.2.2.1) 26 u1.1.2.2.2.2.2.2.1) 27 u1.1.2.2.2.2.2.2.2.1) 28 u1.1.2.2.2.2.2.2.2.2) 34 u1.2.1) 35 u1.2.2.1) 36 u1.2.2.2)]) (va_runV (As := [.int y1, .int y2, .int y3, .int y4, .int y5, .int y6]) (rest := [.int r0]) ⟨hx, hb, hml, hown, hts⟩ ct1 (cwV 6 hts gL_law_X10_fewest rfl rfl rfl (by decide +kernel) ⟨Nat.le_of_ble_eq_true rfl, Nat.le_of_ble_eq_true rfl⟩) (pr_VB hP hD hK hN hE hS hA hp1 (ci := 10) (q0 := 0) rfl rfl) rfl rfl hl.1 rfl (lv_room (Nat.le_of_ble_eq_true rfl)) dL_law_551 ⟨Nat.le_of_ble_eq_true rfl, Nat.le_of_ble_eq_true rfl⟩) hP hD hS hA hp1 ?hq1 (fun r1 u1 H locs hw1 hP hD hS => ?_)
  case hq1 => exact fun u1 => (pm_bl [wXo xa, wTxt (xa 1) (xa 2) cI tx, wRdr (xa 3) rd, wTrp (xa 4) (xa 5) (xa 6) (xa 7) (xa 8) (xa 9) (xa 10) cI tr, wTrp (xa 11) (xa 12) (xa 13) (xa 14) (xa 15) (xa 16) (xa 17) cI dr, wHis (xa 18) (xa 19) (xa 20) (xa 21) cI hi, wSgt (xa 22) (xa 23) (xa 24) (xa 25) cI si, wImg (xa 26) (xa 27) (xa 28) (xa 29) cI i1, wImg (xa 30) (xa 31) (xa 32) (xa 33) cI i2, wCrs (xa 34) (xa 35) (xa 36) (xa 37) (xa 38) (xa 39) cI u0.1, wCrs (xa 40) (xa 41) (xa 42) (xa 43) (xa 44) (xa 45) cI c2, wStg (xa 46) u0.2.1, wStg (xa 47) u0.2.2, wLon (xa 48) cJ pb, wM a cI cZ (mF (mF (mF (mS (mS (mS (mS (mS (mF (mF (mF (mF mm 29 u1.1.1) 30 u1.1.2.1) 31 u1.1.2.2.1) 32 u1.1.2.2.2.1) 33 u1.1.2.2.2.2.1) 25 u1.1.2.2.2.2.2.1) 26 u1.1.2.2.2.2.2.2.1) 27 u1.1.2.2.2.2.2.2.2.1) 28 u1.1.2.2.2.2.2.2.2.2) 34 u1.2.1) 35 u1.2.2.1) 36 u1.2.2.2)] [wXo xa, wTxt (xa 1) (xa 2) cI tx, wRdr (xa 3) rd, wTrp (xa 4) (xa 5) (xa 6) (xa 7) (xa 8) (xa 9) (xa 10) cI tr, wTrp (xa 11) (xa 12) (xa 13) (xa 14) (xa 15) (xa 16) (xa 17) cI dr, wHis (xa 18) (xa 19) (xa 20) (xa 21) cI hi, wSgt (xa 22) (xa 23) (xa 24) (xa 25) cI si, wImg (xa 26) (xa 27) (xa 28) (xa 29) cI i1, wImg (xa 30) (xa 31) (xa 32) (xa 33) cI i2, wCrs (xa 34) (xa 35) (xa 36) (xa 37) (xa 38) (xa 39) cI u0.1, wCrs (xa 40) (xa 41) (xa 42) (xa 43) (xa 44) (xa 45) cI c2, wStg (xa 46) u0.2.1, wStg (xa 47) u0.2.2, wLon (xa 48) cJ pb] [wM a cI cZ (mF (mF (mF (mS (mS (mS (mS (mS (mF (mF (mF (mF mm 29 u1.1.1) 30 u1.1.2.1) 31 u1.1.2.2.1) 32 u1.1.2.2.2.1) 33 u1.1.2.2.2.2.1) 25 u1.1.2.2.2.2.2.1) 26 u1.1.2.2.2.2.2.2.1) 27 u1.1.2.2.2.2.2.2.2.1) 28 u1.1.2.2.2.2.2.2.2.2) 34 u1.2.1) 35 u1.2.2.1) 36 u1.2.2.2)] 15 rfl [0, 1, 2, 3, 4, 5, 6, 7, 8, 9, 10, 11, 12, 13, 14] (by decide) rfl (fl1 _))
  have hrm := hw1
  have eq := xFw_eq hR.2.1.1 c1 wk y1 y2 y3 y4 y5 y6
  have hR2 := hR
  have e01 : r0 = r1 := by rw [hrx, hrm]; exact eq
  refine lv_icmp_eq (tgt := 710) hx hb dL_law_554 (by decide) (fun c_ => ?_) (fun c_ => absurd e01 c_)
  exact hk xa tx rd tr dr hi si i1 i2 u0.1 c2 u0.2.1 u0.2.2 pb (mF (mF (mF (mS (mS (mS (mS (mS (mF (mF (mF (mF mm 29 u1.1.1) 30 u1.1.2.1) 31 u1.1.2.2.1) 32 u1.1.2.2.2.1) 33 u1.1.2.2.2.2.1) 25 u1.1.2.2.2.2.2.1) 26 u1.1.2.2.2.2.2.2.1) 27 u1.1.2.2.2.2.2.2.2.1) 28 u1.1.2.2.2.2.2.2.2.2) 34 u1.2.1) 35 u1.2.2.1) 36 u1.2.2.2) hR2 H locs hP hD hS ls hl
