abbrev rm_X9_unseen : Room := { frames := 5, cells := 0, slots := 0, locals := 119 }
set_option maxHeartbeats 4000000 in
set_option maxRecDepth 100000 in
theorem c_X9_unseen (l : Launch) (D : va_G) (cI cJ cZ : ClassId) (xa : Nat → Nat) (sz : Nat) (tr : Trp) (si : Sgt) (c1 : Crs) (htr : TrpOk tr) (hs0 : 0 ≤ si.2.2.2.toInt) (hs6 : si.2.2.2.toInt ≤ 6) : Met l yX9_unseen wsX9_unseen rm_X9_unseen (va_Pc [.ref (xa 0)] (PU D (tyL cI cJ cZ) (wXo xa ++ wTrp (xa 4) (xa 5) (xa 6) (xa 7) (xa 8) (xa 9) (xa 10) cI tr ++ wSgt (xa 22) (xa 23) (xa 24) (xa 25) cI si ++ wCrs (xa 34) (xa 35) (xa 36) (xa 37) (xa 38) (xa 39) cI c1) sz)) (va_Qi (fun (rz : Int32) (uz : Crs) => rz = (pbT tr si c1).1 ∧ uz = (pbT tr si c1).2) (fun uz => BU D (wXo xa ++ wTrp (xa 4) (xa 5) (xa 6) (xa 7) (xa 8) (xa 9) (xa 10) cI tr ++ wSgt (xa 22) (xa 23) (xa 24) (xa 25) cI si ++ wCrs (xa 34) (xa 35) (xa 36) (xa 37) (xa 38) (xa 39) cI uz) (va_A (wXo xa ++ wTrp (xa 4) (xa 5) (xa 6) (xa 7) (xa 8) (xa 9) (xa 10) cI tr ++ wSgt (xa 22) (xa 23) (xa 24) (xa 25) cI si ++ wCrs (xa 34) (xa 35) (xa 36) (xa 37) (xa 38) (xa 39) cI c1) sz)) (va_A (wXo xa ++ wTrp (xa 4) (xa 5) (xa 6) (xa 7) (xa 8) (xa 9) (xa 10) cI tr ++ wSgt (xa 22) (xa 23) (xa 24) (xa 25) cI si ++ wCrs (xa 34) (xa 35) (xa 36) (xa 37) (xa 38) (xa 39) cI c1) sz)) 0 0 (va_A (wXo xa ++ wTrp (xa 4) (xa 5) (xa 6) (xa 7) (xa 8) (xa 9) (xa 10) cI tr ++ wSgt (xa 22) (xa 23) (xa 24) (xa 25) cI si ++ wCrs (xa 34) (xa 35) (xa 36) (xa 37) (xa 38) (xa 39) cI c1) sz) := by
  refine en (own := RX9) (Qc := fun A => va_Qi (fun (rz : Int32) (uz : Crs) => rz = (pbT tr si c1).1 ∧ uz = (pbT tr si c1).2) (fun uz => BU D (wXo xa ++ wTrp (xa 4) (xa 5) (xa 6) (xa 7) (xa 8) (xa 9) (xa 10) cI tr ++ wSgt (xa 22) (xa 23) (xa 24) (xa 25) cI si ++ wCrs (xa 34) (xa 35) (xa 36) (xa 37) (xa 38) (xa 39) cI uz) A) A) (by decide) rfl (Nat.le_of_ble_eq_true rfl) rfl ?_
  intro p e s m args below meth c A Q H locs ls hx hb hr hml hown hts hlocks hname hA hN hE hK hQ hP hD hS hl
  have hl : lv_has ls 1 [(0, .ref (xa 0))] := hl
  refine lv_aload_n hx hb dX9_unseen_0 rfl (lv_at hl 0 rfl) ?_
  refine jn_i (W2 := fun u_1 => wXo xa ++ wTrp (xa 4) (xa 5) (xa 6) (xa 7) (xa 8) (xa 9) (xa 10) cI tr ++ wSgt (xa 22) (xa 23) (xa 24) (xa 25) cI si ++ wCrs (xa 34) (xa 35) (xa 36) (xa 37) (xa 38) (xa 39) cI u_1) (va_runV (As := []) (rest := []) ⟨hx, hb, hml, hown, hts⟩ (c_X9_possibleBeats l D cI cJ cZ xa H.size tr si c1 (htr) (hs0) (hs6)) (cwV 0 hts gX9_unseen_X9_possibleBeats rfl rfl rfl (by decide +kernel) ⟨Nat.le_of_ble_eq_true rfl, Nat.le_of_ble_eq_true rfl⟩) (pr_V hP hD hK hN hE hS hA [0, 1, 2, 3, 4, 5, 6, 7, 8, 9, 10, 11, 12, 13, 14, 15, 16, 17] (by decide) rfl (ci := 9) (q0 := 0) rfl rfl) rfl rfl hl.1 rfl (lv_room (Nat.le_of_ble_eq_true rfl)) dX9_unseen_1 ⟨Nat.zero_le _, Nat.zero_le _⟩) hP hD hS hA [0, 1, 2, 3, 4, 5, 6, 7, 8, 9, 10, 11, 12, 13, 14, 15, 16, 17] [] [0, 1, 2, 3, 4, 5, 6, 7, 8, 9, 10, 11, 12, 13, 14, 15, 16, 17] rfl rfl (by decide) (by decide) (by decide) (fun _ => rfl) (fun r_1 u_1 H locs hw_1 hP hD hS => ?_)
  have hP : va_P D vwCl (wXo xa ++ wTrp (xa 4) (xa 5) (xa 6) (xa 7) (xa 8) (xa 9) (xa 10) cI tr ++ wSgt (xa 22) (xa 23) (xa 24) (xa 25) cI si ++ wCrs (xa 34) (xa 35) (xa 36) (xa 37) (xa 38) (xa 39) cI u_1) H := hP
  have hD : va_D A (wXo xa ++ wTrp (xa 4) (xa 5) (xa 6) (xa 7) (xa 8) (xa 9) (xa 10) cI tr ++ wSgt (xa 22) (xa 23) (xa 24) (xa 25) cI si ++ wCrs (xa 34) (xa 35) (xa 36) (xa 37) (xa 38) (xa 39) cI u_1) := hD
  obtain ⟨hr_1, hu_1⟩ := hw_1
  exact lf_i hx hb hr hlocks hQ u_1 hP hD hS dX9_unseen_4 ⟨(by first | exact hr_1 | exact hu_1), (by first | exact hr_1 | exact hu_1)⟩
abbrev rm_X9_look : Room := { frames := 5, cells := 0, slots := 0, locals := 120 }
set_option maxHeartbeats 4000000 in
set_option maxRecDepth 100000 in
theorem c_X9_look (l : Launch) (D : va_G) (cI cJ cZ : ClassId) (xa : Nat → Nat) (sz : Nat) (tr : Trp) (si : Sgt) (c1 : Crs) (pb : Lfn) (htr : TrpOk tr) (hs0 : 0 ≤ si.2.2.2.toInt) (hs6 : si.2.2.2.toInt ≤ 6) : Met l yX9_look wsX9_look rm_X9_look (va_Pc [.ref (xa 0)] (PU D (tyL cI cJ cZ) (wXo xa ++ wTrp (xa 4) (xa 5) (xa 6) (xa 7) (xa 8) (xa 9) (xa 10) cI tr ++ wSgt (xa 22) (xa 23) (xa 24) (xa 25) cI si ++ wCrs (xa 34) (xa 35) (xa 36) (xa 37) (xa 38) (xa 39) cI c1 ++ wLon (xa 48) cJ pb) sz)) (va_Qi (fun (rz : Int32) (uz : Crs × Lfn) => rz = xLook tr si c1 pb ∧ uz.1 = xLookC tr si c1 pb ∧ uz.2 = xLookF tr si c1 pb) (fun uz => BU D (wXo xa ++ wTrp (xa 4) (xa 5) (xa 6) (xa 7) (xa 8) (xa 9) (xa 10) cI tr ++ wSgt (xa 22) (xa 23) (xa 24) (xa 25) cI si ++ wCrs (xa 34) (xa 35) (xa 36) (xa 37) (xa 38) (xa 39) cI uz.1 ++ wLon (xa 48) cJ uz.2) (va_A (wXo xa ++ wTrp (xa 4) (xa 5) (xa 6) (xa 7) (xa 8) (xa 9) (xa 10) cI tr ++ wSgt (xa 22) (xa 23) (xa 24) (xa 25) cI si ++ wCrs (xa 34) (xa 35) (xa 36) (xa 37) (xa 38) (xa 39) cI c1 ++ wLon (xa 48) cJ pb) sz)) (va_A (wXo xa ++ wTrp (xa 4) (xa 5) (xa 6) (xa 7) (xa 8) (xa 9) (xa 10) cI tr ++ wSgt (xa 22) (xa 23) (xa 24) (xa 25) cI si ++ wCrs (xa 34) (xa 35) (xa 36) (xa 37) (xa 38) (xa 39) cI c1 ++ wLon (xa 48) cJ pb) sz)) 0 0 (va_A (wXo xa ++ wTrp (xa 4) (xa 5) (xa 6) (xa 7) (xa 8) (xa 9) (xa 10) cI tr ++ wSgt (xa 22) (xa 23) (xa 24) (xa 25) cI si ++ wCrs (xa 34) (xa 35) (xa 36) (xa 37) (xa 38) (xa 39) cI c1 ++ wLon (xa 48) cJ pb) sz) := by
  refine en (own := RX9) (Qc := fun A => va_Qi (fun (rz : Int32) (uz : Crs × Lfn) => rz = xLook tr si c1 pb ∧ uz.1 = xLookC tr si c1 pb ∧ uz.2 = xLookF tr si c1 pb) (fun uz => BU D (wXo xa ++ wTrp (xa 4) (xa 5) (xa 6) (xa 7) (xa 8) (xa 9) (xa 10) cI tr ++ wSgt (xa 22) (xa 23) (xa 24) (xa 25) cI si ++ wCrs (xa 34) (xa 35) (xa 36) (xa 37) (xa 38) (xa 39) cI uz.1 ++ wLon (xa 48) cJ uz.2) A) A) (by decide) rfl (Nat.le_of_ble_eq_true rfl) rfl ?_
  intro p e s m args below meth c A Q H locs ls hx hb hr hml hown hts hlocks hname hA hN hE hK hQ hP hD hS hl
  have hl : lv_has ls 4 [(0, .ref (xa 0))] := hl
  have fl_77 := hts (.fieldLink RX9 77 "DanceStaffs" "placesBehind" "[J") (by decide +kernel)
  have hin_9 : ∀ w ∈ u_ws RX9 TX9 13, w ∈ wsX9_look := by decide +kernel
  refine lv_aload_n hx hb dX9_look_0 rfl (lv_at hl 0 rfl) ?_
  refine jn_i (W2 := fun u_1 => wXo xa ++ wTrp (xa 4) (xa 5) (xa 6) (xa 7) (xa 8) (xa 9) (xa 10) cI tr ++ wSgt (xa 22) (xa 23) (xa 24) (xa 25) cI si ++ wCrs (xa 34) (xa 35) (xa 36) (xa 37) (xa 38) (xa 39) cI u_1 ++ wLon (xa 48) cJ pb) (va_runV (As := []) (rest := []) ⟨hx, hb, hml, hown, hts⟩ (c_X9_possibleBeats l D cI cJ cZ xa H.size tr si c1 (htr) (hs0) (hs6)) (cwV 0 hts gX9_look_X9_possibleBeats rfl rfl rfl (by decide +kernel) ⟨Nat.le_of_ble_eq_true rfl, Nat.le_of_ble_eq_true rfl⟩) (pr_V hP hD hK hN hE hS hA [0, 1, 2, 3, 4, 5, 6, 7, 8, 9, 10, 11, 12, 13, 14, 15, 16, 17] (by decide) rfl (ci := 9) (q0 := 0) rfl rfl) rfl rfl hl.1 rfl (lv_room (Nat.le_of_ble_eq_true rfl)) dX9_look_1 ⟨Nat.zero_le _, Nat.zero_le _⟩) hP hD hS hA [0, 1, 2, 3, 4, 5, 6, 7, 8, 9, 10, 11, 12, 13, 14, 15, 16, 17] [18] [1, 2, 3, 4, 5, 6, 7, 8, 9, 10, 11, 12, 13, 14, 15, 16, 17, 18, 0] rfl rfl (by decide) (by decide) (by decide) (fun _ => rfl) (fun r_1 u_1 H locs hw_1 hP hD hS => ?_)
  have hP : va_P D vwCl (wXo xa ++ wTrp (xa 4) (xa 5) (xa 6) (xa 7) (xa 8) (xa 9) (xa 10) cI tr ++ wSgt (xa 22) (xa 23) (xa 24) (xa 25) cI si ++ wCrs (xa 34) (xa 35) (xa 36) (xa 37) (xa 38) (xa 39) cI u_1 ++ wLon (xa 48) cJ pb) H := hP
  have hD : va_D A (wXo xa ++ wTrp (xa 4) (xa 5) (xa 6) (xa 7) (xa 8) (xa 9) (xa 10) cI tr ++ wSgt (xa 22) (xa 23) (xa 24) (xa 25) cI si ++ wCrs (xa 34) (xa 35) (xa 36) (xa 37) (xa 38) (xa 39) cI u_1 ++ wLon (xa 48) cJ pb) := hD
  obtain ⟨hr_1, hu_1⟩ := hw_1
  refine lv_istore_n (lv' := [(1, .int r_1), (0, .ref (xa 0))]) hx hb dX9_look_4 rfl hl (by decide) rfl (fun ls hl => ?_)
  refine lv_iload_n hx hb dX9_look_5 rfl (lv_at hl 0 rfl) ?_
  refine st_i (va_runS (As := [.int r_1]) (rest := []) ⟨hx, hb, hml, hown, hts⟩ (c_J6_bitCount_0f7a4 l D cI cJ cZ H.size r_1) (va_cwS 1 hts gX9_look_J6_bitCount_0f7a4 rfl rfl rfl (by decide +kernel) ⟨Nat.le_of_ble_eq_true rfl, Nat.le_of_ble_eq_true rfl⟩) (pr_S hP hD hK hN hE hS hA [] (by decide) rfl) rfl rfl hl.1 rfl (lv_room (Nat.le_of_ble_eq_true rfl)) dX9_look_6 ⟨Nat.zero_le _, Nat.zero_le _⟩) hP hS hA (fun r_6 u_6 H locs hw_6 hP hS => ?_)
  have hr_6 := hw_6
  refine lv_iconst (v := 2) hx hb dX9_look_9 (by decide) ?_
  refine lv_icmp_ge (tgt := 16) hx hb dX9_look_10 (by decide) (fun c_10 => ?_) (fun c_10 => ?_)
  · have i_10 := i_le c_10
    rw [(by decide : (2 : Int32).toInt = 2)] at i_10
    rw [hr_6, hr_1] at c_10
    refine lv_aload_n hx hb dX9_look_16 rfl (lv_at hl 1 rfl) ?_
    refine lv_iload_n hx hb dX9_look_17 rfl (lv_at hl 0 rfl) ?_
    refine jn_v (W2 := fun u_18 => wXo xa ++ wTrp (xa 4) (xa 5) (xa 6) (xa 7) (xa 8) (xa 9) (xa 10) cI tr ++ wSgt (xa 22) (xa 23) (xa 24) (xa 25) cI si ++ wCrs (xa 34) (xa 35) (xa 36) (xa 37) (xa 38) (xa 39) cI u_18.1 ++ wLon (xa 48) cJ u_18.2) (va_runV (As := [.int r_1]) (rest := []) ⟨hx, hb, hml, hown, hts⟩ (c_X9_gatherPlaces l D cI cJ cZ xa H.size tr u_1 pb r_1 (htr)) (cwV 1 hts gX9_look_X9_gatherPlaces rfl rfl rfl (by decide +kernel) ⟨Nat.le_of_ble_eq_true rfl, Nat.le_of_ble_eq_true rfl⟩) (pr_V hP hD hK hN hE hS hA [0, 1, 2, 3, 4, 5, 6, 7, 12, 13, 14, 15, 16, 17, 18] (by decide) rfl (ci := 9) (q0 := 0) rfl rfl) rfl rfl hl.1 rfl (lv_room (Nat.le_of_ble_eq_true rfl)) dX9_look_18 ⟨Nat.zero_le _, Nat.zero_le _⟩) hP hD hS hA [0, 1, 2, 3, 4, 5, 6, 7, 12, 13, 14, 15, 16, 17, 18] [8, 9, 10, 11] [4, 5, 6, 7, 8, 9, 10, 11, 0, 1, 2, 3, 12, 13, 14, 15, 16, 17, 18] rfl rfl (by decide) (by decide) (by decide) (fun _ => rfl) (fun u_18 H locs hw_18 hP hD hS => ?_)
    have hP : va_P D vwCl (wXo xa ++ wTrp (xa 4) (xa 5) (xa 6) (xa 7) (xa 8) (xa 9) (xa 10) cI tr ++ wSgt (xa 22) (xa 23) (xa 24) (xa 25) cI si ++ wCrs (xa 34) (xa 35) (xa 36) (xa 37) (xa 38) (xa 39) cI u_18.1 ++ wLon (xa 48) cJ u_18.2) H := hP
    have hD : va_D A (wXo xa ++ wTrp (xa 4) (xa 5) (xa 6) (xa 7) (xa 8) (xa 9) (xa 10) cI tr ++ wSgt (xa 22) (xa 23) (xa 24) (xa 25) cI si ++ wCrs (xa 34) (xa 35) (xa 36) (xa 37) (xa 38) (xa 39) cI u_18.1 ++ wLon (xa 48) cJ u_18.2) := hD
    obtain ⟨hu_18_0, hu_18_1⟩ := hw_18
    have eg_21 : u_18.1 = (gpL tr (pbT tr si c1).1 (pbT tr si c1).2 pb 10).1 := by rw [hu_18_0, hr_1, hu_1]
    rw [eg_21] at hP hD
    have hP : va_P D vwCl (wXo xa ++ wTrp (xa 4) (xa 5) (xa 6) (xa 7) (xa 8) (xa 9) (xa 10) cI tr ++ wSgt (xa 22) (xa 23) (xa 24) (xa 25) cI si ++ wCrs (xa 34) (xa 35) (xa 36) (xa 37) (xa 38) (xa 39) cI ((gpL tr (pbT tr si c1).1 (pbT tr si c1).2 pb 10).1) ++ wLon (xa 48) cJ u_18.2) H := hP
    have hD : va_D A (wXo xa ++ wTrp (xa 4) (xa 5) (xa 6) (xa 7) (xa 8) (xa 9) (xa 10) cI tr ++ wSgt (xa 22) (xa 23) (xa 24) (xa 25) cI si ++ wCrs (xa 34) (xa 35) (xa 36) (xa 37) (xa 38) (xa 39) cI ((gpL tr (pbT tr si c1).1 (pbT tr si c1).2 pb 10).1) ++ wLon (xa 48) cJ u_18.2) := hD
    have eg_21 : u_18.2 = (gpL tr (pbT tr si c1).1 (pbT tr si c1).2 pb 10).2 := by rw [hu_18_1, hr_1, hu_1]
    rw [eg_21] at hP hD
    have hP : va_P D vwCl (wXo xa ++ wTrp (xa 4) (xa 5) (xa 6) (xa 7) (xa 8) (xa 9) (xa 10) cI tr ++ wSgt (xa 22) (xa 23) (xa 24) (xa 25) cI si ++ wCrs (xa 34) (xa 35) (xa 36) (xa 37) (xa 38) (xa 39) cI ((gpL tr (pbT tr si c1).1 (pbT tr si c1).2 pb 10).1) ++ wLon (xa 48) cJ ((gpL tr (pbT tr si c1).1 (pbT tr si c1).2 pb 10).2)) H := hP
    have hD : va_D A (wXo xa ++ wTrp (xa 4) (xa 5) (xa 6) (xa 7) (xa 8) (xa 9) (xa 10) cI tr ++ wSgt (xa 22) (xa 23) (xa 24) (xa 25) cI si ++ wCrs (xa 34) (xa 35) (xa 36) (xa 37) (xa 38) (xa 39) cI ((gpL tr (pbT tr si c1).1 (pbT tr si c1).2 pb 10).1) ++ wLon (xa 48) cJ ((gpL tr (pbT tr si c1).1 (pbT tr si c1).2 pb 10).2)) := hD
    refine lv_iconst (v := 1) hx hb dX9_look_21 (by decide) ?_
    refine lv_istore_n (lv' := [(2, .int 1), (1, .int r_1), (0, .ref (xa 0))]) hx hb dX9_look_22 rfl hl (by decide) rfl (fun ls hl => ?_)
    refine lv_iconst (v := 2) hx hb dX9_look_23 (by decide) ?_
    refine lv_istore_n (lv' := [(3, .int 2), (2, .int 1), (1, .int r_1), (0, .ref (xa 0))]) hx hb dX9_look_24 rfl hl (by decide) rfl (fun ls hl => ?_)
    have LB_25 : ∀ (n : Nat) (j : Nat) (hn_j : 9 < j + n) (hi_j : j ≤ 9) (H : Heap) (locs : List Loc) (_ : va_P D vwCl (wXo xa ++ wTrp (xa 4) (xa 5) (xa 6) (xa 7) (xa 8) (xa 9) (xa 10) cI tr ++ wSgt (xa 22) (xa 23) (xa 24) (xa 25) cI si ++ wCrs (xa 34) (xa 35) (xa 36) (xa 37) (xa 38) (xa 39) cI ((gpL tr (pbT tr si c1).1 (pbT tr si c1).2 pb 10).1) ++ wLon (xa 48) cJ ((gpL tr (pbT tr si c1).1 (pbT tr si c1).2 pb 10).2)) H) (_ : va_D A (wXo xa ++ wTrp (xa 4) (xa 5) (xa 6) (xa 7) (xa 8) (xa 9) (xa 10) cI tr ++ wSgt (xa 22) (xa 23) (xa 24) (xa 25) cI si ++ wCrs (xa 34) (xa 35) (xa 36) (xa 37) (xa 38) (xa 39) cI ((gpL tr (pbT tr si c1).1 (pbT tr si c1).2 pb 10).1) ++ wLon (xa 48) cJ ((gpL tr (pbT tr si c1).1 (pbT tr si c1).2 pb 10).2))) (_ : va_S A s.heap H locs) (ls : Array Slot) (_ : lv_has ls 4 [(0, .ref (xa 0)), (2, .int (bsL (gpL tr (pbT tr si c1).1 (pbT tr si c1).2 pb 10).2 j)), (3, .int (nI (j + 2)))]), W p l e rm_X9_look s m args below meth c H locs 0 0 Q (F0 m 25 ls []) := by
      intro n
      induction n with
      | zero =>
        intro j hn_j hi_j
        exact absurd hn_j (by omega)
      | succ n LB_25 =>
        intro j hn_j hi_j H locs hP hD hS ls hl
        refine lv_iload_n hx hb dX9_look_25 rfl (lv_at hl 2 rfl) ?_
        refine lv_bipush (v := 10) hx hb dX9_look_26 (by decide) ?_
        refine lv_icmp_gt (tgt := 60) hx hb dX9_look_28 (by decide) (fun c_28 => ?_) (fun c_28 => ?_)
        · have i_28 := i_lt c_28
          rw [(by decide : (10 : Int32).toInt = 10)] at i_28
          rw [nIT (by omega)] at i_28
          have e_28 : j = 9 := by omega
          refine lv_iload_n hx hb dX9_look_60 rfl (lv_at hl 1 rfl) ?_
          exact lf_i hx hb hr hlocks hQ (((gpL tr (pbT tr si c1).1 (pbT tr si c1).2 pb 10).1), (gpL tr (pbT tr si c1).1 (pbT tr si c1).2 pb 10).2) hP hD hS dX9_look_61 ⟨(by simp only [xLook, if_pos c_10, e_28]), (by simp only [xLookC, if_pos c_10]), (by simp only [xLookF, if_pos c_10])⟩
        · have i_28 := i_nlt c_28
          rw [(by decide : (10 : Int32).toInt = 10)] at i_28
          rw [nIT (by omega)] at i_28
          refine lv_aload_n hx hb dX9_look_31 rfl (lv_at hl 0 rfl) ?_
          refine va_get (D := D) (ci := 9) (v := .ref (xa 48)) (C := RX9) (T := TX9) (N := 13) hx hb hts hin_9 hown hK hP 0 rfl rfl 12 (by decide) fl_77 (fun _ h9 => h9) rfl dX9_look_32 ?_
          refine lv_iload_n hx hb dX9_look_35 rfl (lv_at hl 2 rfl) ?_
          refine va_lald (D := D) (f := (gpL tr (pbT tr si c1).1 (pbT tr si c1).2 pb 10).2) hx hb hK hP 18 1 rfl rfl (vp_in_nI (by omega) (by decide)) dX9_look_36 ?_
          refine st_i (va_runS (As := [.long ((gpL tr (pbT tr si c1).1 (pbT tr si c1).2 pb 10).2 (nI (j + 2)).toNatClampNeg)]) (rest := []) ⟨hx, hb, hml, hown, hts⟩ (c_J13_bitCount_95d88 l D cI cJ cZ H.size ((gpL tr (pbT tr si c1).1 (pbT tr si c1).2 pb 10).2 (nI (j + 2)).toNatClampNeg)) (va_cwS 1 hts gX9_look_J13_bitCount_95d88 rfl rfl rfl (by decide +kernel) ⟨Nat.le_of_ble_eq_true rfl, Nat.le_of_ble_eq_true rfl⟩) (pr_S hP hD hK hN hE hS hA [] (by decide) rfl) rfl rfl hl.1 rfl (lv_room (Nat.le_of_ble_eq_true rfl)) dX9_look_37 ⟨Nat.zero_le _, Nat.zero_le _⟩) hP hS hA (fun r_37 u_37 H locs hw_37 hP hS => ?_)
          have hr_37 := hw_37
          refine lv_aload_n hx hb dX9_look_40 rfl (lv_at hl 0 rfl) ?_
          refine va_get (D := D) (ci := 9) (v := .ref (xa 48)) (C := RX9) (T := TX9) (N := 13) hx hb hts hin_9 hown hK hP 0 rfl rfl 12 (by decide) fl_77 (fun _ h9 => h9) rfl dX9_look_41 ?_
          refine lv_iload_n hx hb dX9_look_44 rfl (lv_at hl 1 rfl) ?_
          refine va_lald (D := D) (f := (gpL tr (pbT tr si c1).1 (pbT tr si c1).2 pb 10).2) hx hb hK hP 18 1 rfl rfl (by obtain ⟨q1, q2⟩ := bsL_in (gpL tr (pbT tr si c1).1 (pbT tr si c1).2 pb 10).2 j (by omega); exact vi_mk q1 q2) dX9_look_45 ?_
          refine st_i (va_runS (As := [.long ((gpL tr (pbT tr si c1).1 (pbT tr si c1).2 pb 10).2 (bsL (gpL tr (pbT tr si c1).1 (pbT tr si c1).2 pb 10).2 j).toNatClampNeg)]) (rest := [.int r_37]) ⟨hx, hb, hml, hown, hts⟩ (c_J13_bitCount_95d88 l D cI cJ cZ H.size ((gpL tr (pbT tr si c1).1 (pbT tr si c1).2 pb 10).2 (bsL (gpL tr (pbT tr si c1).1 (pbT tr si c1).2 pb 10).2 j).toNatClampNeg)) (va_cwS 1 hts gX9_look_J13_bitCount_95d88 rfl rfl rfl (by decide +kernel) ⟨Nat.le_of_ble_eq_true rfl, Nat.le_of_ble_eq_true rfl⟩) (pr_S hP hD hK hN hE hS hA [] (by decide) rfl) rfl rfl hl.1 rfl (lv_room (Nat.le_of_ble_eq_true rfl)) dX9_look_46 ⟨Nat.zero_le _, Nat.zero_le _⟩) hP hS hA (fun r_46 u_46 H locs hw_46 hP hS => ?_)
          have hr_46 := hw_46
          refine lv_icmp_le (tgt := 54) hx hb dX9_look_49 (by decide) (fun c_49 => ?_) (fun c_49 => ?_)
          · have i_49 := i_le c_49
            refine lv_iinc (v := ((nI (j + 2)) + 1)) (lv' := [(3, .int ((nI (j + 2)) + 1)), (0, .ref (xa 0)), (2, .int (bsL (gpL tr (pbT tr si c1).1 (pbT tr si c1).2 pb 10).2 j))]) hx hb dX9_look_54 hl (k := 2) rfl rfl (by decide) rfl (fun ls hl => ?_)
            rw [show nI (j + 2) + 1 = nI (j + 1 + 2) from nI_1 _] at hl
            have hl : lv_has ls 4 [(3, .int (nI (j + 1 + 2))), (0, .ref (xa 0)), (2, .int (bsL (gpL tr (pbT tr si c1).1 (pbT tr si c1).2 pb 10).2 j))] := hl
            have es : (bsL (gpL tr (pbT tr si c1).1 (pbT tr si c1).2 pb 10).2 j) = bsL (gpL tr (pbT tr si c1).1 (pbT tr si c1).2 pb 10).2 (j + 1) := by simp only [bsL, ← hr_37, ← hr_46, if_pos c_49, ↓reduceIte]
            rw [es] at hl
            have hl : lv_has ls 4 [(3, .int (nI (j + 1 + 2))), (0, .ref (xa 0)), (2, .int (bsL (gpL tr (pbT tr si c1).1 (pbT tr si c1).2 pb 10).2 (j + 1)))] := hl
            refine lv_goto (tgt := 25) hx hb dX9_look_57 (by decide) ?_
            exact LB_25 (j + 1) (by omega) (by omega) H locs hP hD hS ls (lv_sub hl [1, 2, 0] rfl)
          · have i_49 := i_nle c_49
            refine lv_iload_n hx hb dX9_look_52 rfl (lv_at hl 2 rfl) ?_
            refine lv_istore_n (lv' := [(2, .int (nI (j + 2))), (0, .ref (xa 0)), (3, .int (nI (j + 2)))]) hx hb dX9_look_53 rfl hl (by decide) rfl (fun ls hl => ?_)
            refine lv_iinc (v := ((nI (j + 2)) + 1)) (lv' := [(3, .int ((nI (j + 2)) + 1)), (2, .int (nI (j + 2))), (0, .ref (xa 0))]) hx hb dX9_look_54 hl (k := 2) rfl rfl (by decide) rfl (fun ls hl => ?_)
            rw [show nI (j + 2) + 1 = nI (j + 1 + 2) from nI_1 _] at hl
            have hl : lv_has ls 4 [(3, .int (nI (j + 1 + 2))), (2, .int (nI (j + 2))), (0, .ref (xa 0))] := hl
            have es : (nI (j + 2)) = bsL (gpL tr (pbT tr si c1).1 (pbT tr si c1).2 pb 10).2 (j + 1) := by simp only [bsL, ← hr_37, ← hr_46, if_neg c_49, ↓reduceIte]
            have hl : lv_has ls 4 [(3, .int (nI (j + 1 + 2))), (2, .int (bsL (gpL tr (pbT tr si c1).1 (pbT tr si c1).2 pb 10).2 (j + 1))), (0, .ref (xa 0))] := by rw [← es]; exact hl
            refine lv_goto (tgt := 25) hx hb dX9_look_57 (by decide) ?_
            exact LB_25 (j + 1) (by omega) (by omega) H locs hP hD hS ls (lv_sub hl [2, 1, 0] rfl)
    exact LB_25 (9 + 1) 0 (by omega) (by omega) H locs hP hD hS ls (lv_sub hl [3, 1, 0] rfl)
  · have i_10 := i_nle c_10
    rw [(by decide : (2 : Int32).toInt = 2)] at i_10
    rw [hr_6, hr_1] at c_10
    refine lv_bipush (v := (-9)) hx hb dX9_look_13 (by decide) ?_
    exact lf_i hx hb hr hlocks hQ (u_1, pb) hP hD hS dX9_look_15 ⟨(by simp only [xLook, if_neg c_10]), (by simp only [xLookC, if_neg c_10]; exact hu_1), (by simp only [xLookF, if_neg c_10])⟩
abbrev rm_X9_type : Room := { frames := 1, cells := 0, slots := 0, locals := 21 }
set_option maxHeartbeats 4000000 in
set_option maxRecDepth 100000 in
theorem c_X9_type (l : Launch) (D : va_G) (cI cJ cZ : ClassId) (xa : Nat → Nat) (sz : Nat) (tx : Txt) (k : Int32) (ht0 : 0 ≤ tx.1.toInt) : Met l yX9_type wsX9_type rm_X9_type (va_Pc [.ref (xa 0), .int k] (PU D (tyL cI cJ cZ) (wXo xa ++ wTxt (xa 1) (xa 2) cI tx) sz)) (va_Qi (fun (rz : Int32) (uz : Txt) => rz = xType tx k ∧ uz = xTypeS tx k) (fun uz => BU D (wXo xa ++ wTxt (xa 1) (xa 2) cI uz) (va_A (wXo xa ++ wTxt (xa 1) (xa 2) cI tx) sz)) (va_A (wXo xa ++ wTxt (xa 1) (xa 2) cI tx) sz)) 0 0 (va_A (wXo xa ++ wTxt (xa 1) (xa 2) cI tx) sz) := by
  refine en (own := RX9) (Qc := fun A => va_Qi (fun (rz : Int32) (uz : Txt) => rz = xType tx k ∧ uz = xTypeS tx k) (fun uz => BU D (wXo xa ++ wTxt (xa 1) (xa 2) cI uz) A) A) (by decide) rfl (Nat.le_of_ble_eq_true rfl) rfl ?_
  intro p e s m args below meth c A Q H locs ls hx hb hr hml hown hts hlocks hname hA hN hE hK hQ hP hD hS hl
  have hl : lv_has ls 2 [(0, .ref (xa 0)), (1, .int k)] := hl
  have fl_10 := hts (.fieldLink RX9 10 "DanceStaffs" "text" "LDanceStaffs$Text;") (by decide +kernel)
  have hin_9 : ∀ w ∈ u_ws RX9 TX9 13, w ∈ wsX9_type := by decide +kernel
  refine lv_iload_n hx hb dX9_type_0 rfl (lv_at hl 1 rfl) ?_
  refine lv_if_lt (tgt := 11) hx hb dX9_type_1 (by decide) (fun c_1 => ?_) (fun c_1 => ?_)
  · have i_1 := i_lt c_1
    rw [(by decide : (0 : Int32).toInt = 0)] at i_1
    refine lv_iconst (v := (-1)) hx hb dX9_type_11 (by decide) ?_
    exact lf_i hx hb hr hlocks hQ tx hP hD hS dX9_type_12 ⟨(by first | with_reducible rfl | (simp only [xType, xTypeS, if_pos c_1, ↓reduceIte, bI_t, bI_f, reduceCtorEq]; done) | (subst_vars; simp only [xType, xTypeS, if_pos c_1, ↓reduceIte, bI_t, bI_f, reduceCtorEq]; done) | (simp [xType, xTypeS, c_1, bI_t, bI_f]; done)), (by first | with_reducible rfl | (simp only [xType, xTypeS, if_pos c_1, ↓reduceIte, bI_t, bI_f, reduceCtorEq]; done) | (subst_vars; simp only [xType, xTypeS, if_pos c_1, ↓reduceIte, bI_t, bI_f, reduceCtorEq]; done) | (simp [xType, xTypeS, c_1, bI_t, bI_f]; done))⟩
  · have i_1 := i_nlt c_1
    rw [(by decide : (0 : Int32).toInt = 0)] at i_1
    refine lv_iload_n hx hb dX9_type_4 rfl (lv_at hl 1 rfl) ?_
    refine lv_sipush (v := 255) hx hb dX9_type_5 (by decide) ?_
    refine lv_icmp_le (tgt := 13) hx hb dX9_type_8 (by decide) (fun c_8 => ?_) (fun c_8 => ?_)
    · have i_8 := i_le c_8
      rw [(by decide : (255 : Int32).toInt = 255)] at i_8
      refine lv_aload_n hx hb dX9_type_13 rfl (lv_at hl 0 rfl) ?_
      refine va_get (D := D) (ci := 9) (v := .ref (xa 1)) (C := RX9) (T := TX9) (N := 13) hx hb hts hin_9 hown hK hP 0 rfl rfl 0 (by decide) fl_10 (fun _ h9 => h9) rfl dX9_type_14 ?_
      refine lv_iload_n hx hb dX9_type_17 rfl (lv_at hl 1 rfl) ?_
      refine jn_i (W2 := fun u_18 => wXo xa ++ wTxt (xa 1) (xa 2) cI u_18) (va_runV (As := [.int k]) (rest := []) ⟨hx, hb, hml, hown, hts⟩ (c_X7_append l D cI cJ cZ (xa 1) (xa 2) H.size tx k (ht0)) (cwV 1 hts gX9_type_X7_append rfl rfl rfl (by decide +kernel) ⟨Nat.le_of_ble_eq_true rfl, Nat.le_of_ble_eq_true rfl⟩) (pr_V hP hD hK hN hE hS hA [1, 2] (by decide) rfl (ci := 7) (q0 := 1) rfl rfl) rfl rfl hl.1 rfl (lv_room (Nat.le_of_ble_eq_true rfl)) dX9_type_18 ⟨Nat.zero_le _, Nat.zero_le _⟩) hP hD hS hA [1, 2] [0] [0, 1, 2] rfl rfl (by decide) (by decide) (by decide) (fun _ => rfl) (fun r_18 u_18 H locs hw_18 hP hD hS => ?_)
      have hP : va_P D vwCl (wXo xa ++ wTxt (xa 1) (xa 2) cI u_18) H := hP
      have hD : va_D A (wXo xa ++ wTxt (xa 1) (xa 2) cI u_18) := hD
      obtain ⟨hr_18, hu_18⟩ := hw_18
      refine lv_if_eq (tgt := 34) hx hb dX9_type_21 (by decide) (fun c_21 => ?_) (fun c_21 => ?_)
      · have b_21 : (tAppB tx) = false := bI_0 (hr_18.symm.trans c_21)
        refine lv_bipush (v := (-3)) hx hb dX9_type_34 (by decide) ?_
        exact lf_i hx hb hr hlocks hQ u_18 hP hD hS dX9_type_36 ⟨(by first | with_reducible rfl | (simp only [xType, xTypeS, if_neg c_1, if_pos c_8, b_21, ← hr_18, ← hu_18, ↓reduceIte, bI_t, bI_f, reduceCtorEq]; done) | (subst_vars; simp only [xType, xTypeS, if_neg c_1, if_pos c_8, b_21, ↓reduceIte, bI_t, bI_f, reduceCtorEq]; done) | (simp [xType, xTypeS, c_1, c_8, b_21, bI_t, bI_f]; done)), (by first | with_reducible rfl | (simp only [xType, xTypeS, if_neg c_1, if_pos c_8, b_21, ← hr_18, ← hu_18, ↓reduceIte, bI_t, bI_f, reduceCtorEq]; done) | (subst_vars; simp only [xType, xTypeS, if_neg c_1, if_pos c_8, b_21, ↓reduceIte, bI_t, bI_f, reduceCtorEq]; done) | (simp [xType, xTypeS, c_1, c_8, b_21, bI_t, bI_f]; done))⟩
      · have b_21 : (tAppB tx) = true := bI_1 (fun q => c_21 (hr_18.trans q))
        refine lv_aload_n hx hb dX9_type_24 rfl (lv_at hl 0 rfl) ?_
        refine va_get (D := D) (ci := 9) (v := .ref (xa 1)) (C := RX9) (T := TX9) (N := 13) hx hb hts hin_9 hown hK hP 0 rfl rfl 0 (by decide) fl_10 (fun _ h9 => h9) rfl dX9_type_25 ?_
        refine jn_i (W2 := fun _ => wXo xa ++ wTxt (xa 1) (xa 2) cI u_18) (va_runV (As := []) (rest := []) ⟨hx, hb, hml, hown, hts⟩ (c_X7_length l D cI cJ cZ (xa 1) (xa 2) H.size u_18) (cwV 0 hts gX9_type_X7_length rfl rfl rfl (by decide +kernel) ⟨Nat.le_of_ble_eq_true rfl, Nat.le_of_ble_eq_true rfl⟩) (pr_V hP hD hK hN hE hS hA [1, 2] (by decide) rfl (ci := 7) (q0 := 1) rfl rfl) rfl rfl hl.1 rfl (lv_room (Nat.le_of_ble_eq_true rfl)) dX9_type_28 ⟨Nat.zero_le _, Nat.zero_le _⟩) hP hD hS hA [1, 2] [0] [0, 1, 2] rfl rfl (by decide) (by decide) (by decide) (fun _ => rfl) (fun r_28 u_28 H locs hw_28 hP hD hS => ?_)
        have hP : va_P D vwCl (wXo xa ++ wTxt (xa 1) (xa 2) cI u_18) H := hP
        have hD : va_D A (wXo xa ++ wTxt (xa 1) (xa 2) cI u_18) := hD
        have hr_28 := hw_28
        refine lv_goto (tgt := 36) hx hb dX9_type_31 (by decide) ?_
        exact lf_i hx hb hr hlocks hQ u_18 hP hD hS dX9_type_36 ⟨(by first | with_reducible rfl | (simp only [xType, xTypeS, if_neg c_1, if_pos c_8, b_21, ← hr_28, ← hr_18, ← hu_18, ↓reduceIte, bI_t, bI_f, reduceCtorEq]; done) | (subst_vars; simp only [xType, xTypeS, if_neg c_1, if_pos c_8, b_21, ↓reduceIte, bI_t, bI_f, reduceCtorEq]; done) | (simp [xType, xTypeS, c_1, c_8, b_21, bI_t, bI_f]; done)), (by first | with_reducible rfl | (simp only [xType, xTypeS, if_neg c_1, if_pos c_8, b_21, ← hr_28, ← hr_18, ← hu_18, ↓reduceIte, bI_t, bI_f, reduceCtorEq]; done) | (subst_vars; simp only [xType, xTypeS, if_neg c_1, if_pos c_8, b_21, ↓reduceIte, bI_t, bI_f, reduceCtorEq]; done) | (simp [xType, xTypeS, c_1, c_8, b_21, bI_t, bI_f]; done))⟩
    · have i_8 := i_nle c_8
      rw [(by decide : (255 : Int32).toInt = 255)] at i_8
      refine lv_iconst (v := (-1)) hx hb dX9_type_11 (by decide) ?_
      exact lf_i hx hb hr hlocks hQ tx hP hD hS dX9_type_12 ⟨(by first | with_reducible rfl | (simp only [xType, xTypeS, if_neg c_1, if_neg c_8, ↓reduceIte, bI_t, bI_f, reduceCtorEq]; done) | (subst_vars; simp only [xType, xTypeS, if_neg c_1, if_neg c_8, ↓reduceIte, bI_t, bI_f, reduceCtorEq]; done) | (simp [xType, xTypeS, c_1, c_8, bI_t, bI_f]; done)), (by first | with_reducible rfl | (simp only [xType, xTypeS, if_neg c_1, if_neg c_8, ↓reduceIte, bI_t, bI_f, reduceCtorEq]; done) | (subst_vars; simp only [xType, xTypeS, if_neg c_1, if_neg c_8, ↓reduceIte, bI_t, bI_f, reduceCtorEq]; done) | (simp [xType, xTypeS, c_1, c_8, bI_t, bI_f]; done))⟩
abbrev rm_X9_clear : Room := { frames := 1, cells := 0, slots := 0, locals := 20 }
set_option maxHeartbeats 4000000 in
set_option maxRecDepth 100000 in
theorem c_X9_clear (l : Launch) (D : va_G) (cI cJ cZ : ClassId) (xa : Nat → Nat) (sz : Nat) (tx : Txt) : Met l yX9_clear wsX9_clear rm_X9_clear (va_Pc [.ref (xa 0)] (PU D (tyL cI cJ cZ) (wXo xa ++ wTxt (xa 1) (xa 2) cI tx) sz)) (va_Qi (fun (rz : Int32) (uz : Txt) => rz = tx.1 ∧ uz = (0, tx.2)) (fun uz => BU D (wXo xa ++ wTxt (xa 1) (xa 2) cI uz) (va_A (wXo xa ++ wTxt (xa 1) (xa 2) cI tx) sz)) (va_A (wXo xa ++ wTxt (xa 1) (xa 2) cI tx) sz)) 0 0 (va_A (wXo xa ++ wTxt (xa 1) (xa 2) cI tx) sz) := by
  refine en (own := RX9) (Qc := fun A => va_Qi (fun (rz : Int32) (uz : Txt) => rz = tx.1 ∧ uz = (0, tx.2)) (fun uz => BU D (wXo xa ++ wTxt (xa 1) (xa 2) cI uz) A) A) (by decide) rfl (Nat.le_of_ble_eq_true rfl) rfl ?_
  intro p e s m args below meth c A Q H locs ls hx hb hr hml hown hts hlocks hname hA hN hE hK hQ hP hD hS hl
  have hl : lv_has ls 2 [(0, .ref (xa 0))] := hl
  have fl_10 := hts (.fieldLink RX9 10 "DanceStaffs" "text" "LDanceStaffs$Text;") (by decide +kernel)
  have hin_9 : ∀ w ∈ u_ws RX9 TX9 13, w ∈ wsX9_clear := by decide +kernel
  refine lv_aload_n hx hb dX9_clear_0 rfl (lv_at hl 0 rfl) ?_
  refine va_get (D := D) (ci := 9) (v := .ref (xa 1)) (C := RX9) (T := TX9) (N := 13) hx hb hts hin_9 hown hK hP 0 rfl rfl 0 (by decide) fl_10 (fun _ h9 => h9) rfl dX9_clear_1 ?_
  refine jn_i (W2 := fun _ => wXo xa ++ wTxt (xa 1) (xa 2) cI tx) (va_runV (As := []) (rest := []) ⟨hx, hb, hml, hown, hts⟩ (c_X7_length l D cI cJ cZ (xa 1) (xa 2) H.size tx) (cwV 0 hts gX9_clear_X7_length rfl rfl rfl (by decide +kernel) ⟨Nat.le_of_ble_eq_true rfl, Nat.le_of_ble_eq_true rfl⟩) (pr_V hP hD hK hN hE hS hA [1, 2] (by decide) rfl (ci := 7) (q0 := 1) rfl rfl) rfl rfl hl.1 rfl (lv_room (Nat.le_of_ble_eq_true rfl)) dX9_clear_4 ⟨Nat.zero_le _, Nat.zero_le _⟩) hP hD hS hA [1, 2] [0] [0, 1, 2] rfl rfl (by decide) (by decide) (by decide) (fun _ => rfl) (fun r_4 u_4 H locs hw_4 hP hD hS => ?_)
  have hP : va_P D vwCl (wXo xa ++ wTxt (xa 1) (xa 2) cI tx) H := hP
  have hD : va_D A (wXo xa ++ wTxt (xa 1) (xa 2) cI tx) := hD
  have hr_4 := hw_4
  refine lv_istore_n (lv' := [(1, .int r_4), (0, .ref (xa 0))]) hx hb dX9_clear_7 rfl hl (by decide) rfl (fun ls hl => ?_)
  refine lv_aload_n hx hb dX9_clear_8 rfl (lv_at hl 1 rfl) ?_
  refine va_get (D := D) (ci := 9) (v := .ref (xa 1)) (C := RX9) (T := TX9) (N := 13) hx hb hts hin_9 hown hK hP 0 rfl rfl 0 (by decide) fl_10 (fun _ h9 => h9) rfl dX9_clear_9 ?_
  refine jn_v (W2 := fun u_12 => wXo xa ++ wTxt (xa 1) (xa 2) cI u_12) (va_runV (As := []) (rest := []) ⟨hx, hb, hml, hown, hts⟩ (c_X7_empty l D cI cJ cZ (xa 1) (xa 2) H.size tx) (cwV 0 hts gX9_clear_X7_empty rfl rfl rfl (by decide +kernel) ⟨Nat.le_of_ble_eq_true rfl, Nat.le_of_ble_eq_true rfl⟩) (pr_V hP hD hK hN hE hS hA [1, 2] (by decide) rfl (ci := 7) (q0 := 1) rfl rfl) rfl rfl hl.1 rfl (lv_room (Nat.le_of_ble_eq_true rfl)) dX9_clear_12 ⟨Nat.zero_le _, Nat.zero_le _⟩) hP hD hS hA [1, 2] [0] [0, 1, 2] rfl rfl (by decide) (by decide) (by decide) (fun _ => rfl) (fun u_12 H locs hw_12 hP hD hS => ?_)
  have hP : va_P D vwCl (wXo xa ++ wTxt (xa 1) (xa 2) cI u_12) H := hP
  have hD : va_D A (wXo xa ++ wTxt (xa 1) (xa 2) cI u_12) := hD
  have hu_12 := hw_12
  refine lv_iload_n hx hb dX9_clear_15 rfl (lv_at hl 0 rfl) ?_
  exact lf_i hx hb hr hlocks hQ u_12 hP hD hS dX9_clear_16 ⟨(by first | exact hr_4 | exact hu_12), (by first | exact hr_4 | exact hu_12)⟩
abbrev rm_X9_sign : Room := { frames := 3, cells := 0, slots := 0, locals := 64 }
set_option maxHeartbeats 4000000 in
set_option maxRecDepth 100000 in
theorem c_X9_sign (l : Launch) (D : va_G) (cI cJ cZ : ClassId) (xa : Nat → Nat) (sz : Nat) (tr : Trp) (d : Int32) (b : Int32) (htr : TrpOk tr) : Met l yX9_sign wsX9_sign rm_X9_sign (va_Pc [.ref (xa 0), .int d, .int b] (PU D (tyL cI cJ cZ) (wXo xa ++ wTrp (xa 4) (xa 5) (xa 6) (xa 7) (xa 8) (xa 9) (xa 10) cI tr) sz)) (va_Qi (fun (rz : Int32) (_ : Unit) => rz = xSign tr d b) (fun uz => BU D (wXo xa ++ wTrp (xa 4) (xa 5) (xa 6) (xa 7) (xa 8) (xa 9) (xa 10) cI tr) (va_A (wXo xa ++ wTrp (xa 4) (xa 5) (xa 6) (xa 7) (xa 8) (xa 9) (xa 10) cI tr) sz)) (va_A (wXo xa ++ wTrp (xa 4) (xa 5) (xa 6) (xa 7) (xa 8) (xa 9) (xa 10) cI tr) sz)) 0 0 (va_A (wXo xa ++ wTrp (xa 4) (xa 5) (xa 6) (xa 7) (xa 8) (xa 9) (xa 10) cI tr) sz) := by
  refine en (own := RX9) (Qc := fun A => va_Qi (fun (rz : Int32) (_ : Unit) => rz = xSign tr d b) (fun uz => BU D (wXo xa ++ wTrp (xa 4) (xa 5) (xa 6) (xa 7) (xa 8) (xa 9) (xa 10) cI tr) A) A) (by decide) rfl (Nat.le_of_ble_eq_true rfl) rfl ?_
  intro p e s m args below meth c A Q H locs ls hx hb hr hml hown hts hlocks hname hA hN hE hK hQ hP hD hS hl
  have hl : lv_has ls 3 [(0, .ref (xa 0)), (1, .int d), (2, .int b)] := hl
  have fl_26 := hts (.fieldLink RX9 26 "DanceStaffs" "troupe" "LDanceStaffs$Troupe;") (by decide +kernel)
  have hin_9 : ∀ w ∈ u_ws RX9 TX9 13, w ∈ wsX9_sign := by decide +kernel
  have hin_8 : ∀ w ∈ u_ws RX8 TX8 5, w ∈ wsX9_sign := by decide +kernel
  refine lv_aload_n hx hb dX9_sign_0 rfl (lv_at hl 0 rfl) ?_
  refine lv_iload_n hx hb dX9_sign_1 rfl (lv_at hl 1 rfl) ?_
  refine jn_i (W2 := fun _ => wXo xa ++ wTrp (xa 4) (xa 5) (xa 6) (xa 7) (xa 8) (xa 9) (xa 10) cI tr) (va_runV (As := [.int d]) (rest := []) ⟨hx, hb, hml, hown, hts⟩ (c_X9_isDancer l D cI cJ cZ xa H.size tr d) (cwV 1 hts gX9_sign_X9_isDancer rfl rfl rfl (by decide +kernel) ⟨Nat.le_of_ble_eq_true rfl, Nat.le_of_ble_eq_true rfl⟩) (pr_V hP hD hK hN hE hS hA [0, 1, 2, 3, 4, 5, 6, 7] (by decide) rfl (ci := 9) (q0 := 0) rfl rfl) rfl rfl hl.1 rfl (lv_room (Nat.le_of_ble_eq_true rfl)) dX9_sign_2 ⟨Nat.zero_le _, Nat.zero_le _⟩) hP hD hS hA [0, 1, 2, 3, 4, 5, 6, 7] [] [0, 1, 2, 3, 4, 5, 6, 7] rfl rfl (by decide) (by decide) (by decide) (fun _ => rfl) (fun r_2 u_2 H locs hw_2 hP hD hS => ?_)
  have hP : va_P D vwCl (wXo xa ++ wTrp (xa 4) (xa 5) (xa 6) (xa 7) (xa 8) (xa 9) (xa 10) cI tr) H := hP
  have hD : va_D A (wXo xa ++ wTrp (xa 4) (xa 5) (xa 6) (xa 7) (xa 8) (xa 9) (xa 10) cI tr) := hD
  have hr_2 := hw_2
  refine lv_if_eq (tgt := 18) hx hb dX9_sign_5 (by decide) (fun c_5 => ?_) (fun c_5 => ?_)
  · have b_5 : (isDn tr d) = false := bI_0 (hr_2.symm.trans c_5)
    refine lv_iconst (v := (-1)) hx hb dX9_sign_18 (by decide) ?_
    exact lf_i hx hb hr hlocks hQ () hP hD hS dX9_sign_19 (by first | with_reducible rfl | (simp only [xSign, b_5, ← hr_2, ↓reduceIte, bI_t, bI_f, reduceCtorEq]; done) | (subst_vars; simp only [xSign, b_5, ↓reduceIte, bI_t, bI_f, reduceCtorEq]; done) | (simp [xSign, b_5, bI_t, bI_f]; done))
  · have b_5 : (isDn tr d) = true := bI_1 (fun q => c_5 (hr_2.trans q))
    refine lv_iload_n hx hb dX9_sign_8 rfl (lv_at hl 2 rfl) ?_
    refine lv_if_lt (tgt := 18) hx hb dX9_sign_9 (by decide) (fun c_9 => ?_) (fun c_9 => ?_)
    · have i_9 := i_lt c_9
      rw [(by decide : (0 : Int32).toInt = 0)] at i_9
      refine lv_iconst (v := (-1)) hx hb dX9_sign_18 (by decide) ?_
      exact lf_i hx hb hr hlocks hQ () hP hD hS dX9_sign_19 (by first | with_reducible rfl | (simp only [xSign, b_5, if_pos c_9, ← hr_2, ↓reduceIte, bI_t, bI_f, reduceCtorEq]; done) | (subst_vars; simp only [xSign, b_5, if_pos c_9, ↓reduceIte, bI_t, bI_f, reduceCtorEq]; done) | (simp [xSign, b_5, c_9, bI_t, bI_f]; done))
    · have i_9 := i_nlt c_9
      rw [(by decide : (0 : Int32).toInt = 0)] at i_9
      refine lv_iload_n hx hb dX9_sign_12 rfl (lv_at hl 2 rfl) ?_
      refine lv_bipush (v := 10) hx hb dX9_sign_13 (by decide) ?_
      refine lv_icmp_lt (tgt := 20) hx hb dX9_sign_15 (by decide) (fun c_15 => ?_) (fun c_15 => ?_)
      · have i_15 := i_lt c_15
        rw [(by decide : (10 : Int32).toInt = 10)] at i_15
        refine lv_aload_n hx hb dX9_sign_20 rfl (lv_at hl 0 rfl) ?_
        refine va_get (D := D) (ci := 9) (v := .ref (xa 4)) (C := RX9) (T := TX9) (N := 13) hx hb hts hin_9 hown hK hP 0 rfl rfl 2 (by decide) fl_26 (fun _ h9 => h9) rfl dX9_sign_21 ?_
        refine va_getN (D := D) (ci := 8) (v := .ref (xa 8)) (C := RX8) (T := TX8) (N := 5) hx hb hts hin_8 hown hK hP 1 rfl rfl 3 (by decide) (nw_fuse hN 34 rfl) (fun _ h9 => h9) rfl dX9_sign_24 ?_
        refine lv_iload_n hx hb dX9_sign_27 rfl (lv_at hl 1 rfl) ?_
        refine lv_iload_n hx hb dX9_sign_28 rfl (lv_at hl 2 rfl) ?_
        refine jn_i (W2 := fun _ => wXo xa ++ wTrp (xa 4) (xa 5) (xa 6) (xa 7) (xa 8) (xa 9) (xa 10) cI tr) (va_runV (As := [.int d, .int b]) (rest := []) ⟨hx, hb, hml, hown, hts⟩ (c_X5_signAt l D cI cJ cZ (xa 8) (xa 9) (xa 10) H.size tr.2.2.2.2 d b (htr.2.2)) (cwV 2 hts gX9_sign_X5_signAt rfl rfl rfl (by decide +kernel) ⟨Nat.le_of_ble_eq_true rfl, Nat.le_of_ble_eq_true rfl⟩) (pr_V hP hD hK hN hE hS hA [5, 6, 7] (by decide) rfl (ci := 5) (q0 := 5) rfl rfl) rfl rfl hl.1 rfl (lv_room (Nat.le_of_ble_eq_true rfl)) dX9_sign_29 ⟨Nat.zero_le _, Nat.zero_le _⟩) hP hD hS hA [5, 6, 7] [0, 1, 2, 3, 4] [0, 1, 2, 3, 4, 5, 6, 7] rfl rfl (by decide) (by decide) (by decide) (fun _ => rfl) (fun r_29 u_29 H locs hw_29 hP hD hS => ?_)
        have hP : va_P D vwCl (wXo xa ++ wTrp (xa 4) (xa 5) (xa 6) (xa 7) (xa 8) (xa 9) (xa 10) cI tr) H := hP
        have hD : va_D A (wXo xa ++ wTrp (xa 4) (xa 5) (xa 6) (xa 7) (xa 8) (xa 9) (xa 10) cI tr) := hD
        have hr_29 := hw_29
        exact lf_i hx hb hr hlocks hQ () hP hD hS dX9_sign_32 (by first | with_reducible rfl | (simp only [xSign, b_5, if_neg c_9, if_pos c_15, ← hr_29, ← hr_2, ↓reduceIte, bI_t, bI_f, reduceCtorEq]; done) | (subst_vars; simp only [xSign, b_5, if_neg c_9, if_pos c_15, ↓reduceIte, bI_t, bI_f, reduceCtorEq]; done) | (simp [xSign, b_5, c_9, c_15, bI_t, bI_f]; done))
      · have i_15 := i_nlt c_15
        rw [(by decide : (10 : Int32).toInt = 10)] at i_15
        refine lv_iconst (v := (-1)) hx hb dX9_sign_18 (by decide) ?_
        exact lf_i hx hb hr hlocks hQ () hP hD hS dX9_sign_19 (by first | with_reducible rfl | (simp only [xSign, b_5, if_neg c_9, if_neg c_15, ← hr_2, ↓reduceIte, bI_t, bI_f, reduceCtorEq]; done) | (subst_vars; simp only [xSign, b_5, if_neg c_9, if_neg c_15, ↓reduceIte, bI_t, bI_f, reduceCtorEq]; done) | (simp [xSign, b_5, c_9, c_15, bI_t, bI_f]; done))
abbrev rm_X9_mirrors : Room := { frames := 4, cells := 0, slots := 0, locals := 88 }
set_option maxHeartbeats 4000000 in
set_option maxRecDepth 100000 in
theorem c_X9_mirrors (l : Launch) (D : va_G) (cI cJ cZ : ClassId) (xa : Nat → Nat) (sz : Nat) (tr : Trp) (hi : His) (d : Int32) (htr : TrpOk tr) (hhi : HisOk hi) : Met l yX9_mirrors wsX9_mirrors rm_X9_mirrors (va_Pc [.ref (xa 0), .int d] (PU D (tyL cI cJ cZ) (wXo xa ++ wTrp (xa 4) (xa 5) (xa 6) (xa 7) (xa 8) (xa 9) (xa 10) cI tr ++ wHis (xa 18) (xa 19) (xa 20) (xa 21) cI hi) sz)) (va_Qi (fun (rz : Int32) (uz : Trp × His) => rz = xMir tr d ∧ uz.1 = xMirT tr d ∧ uz.2 = xMirH tr hi d) (fun uz => BU D (wXo xa ++ wTrp (xa 4) (xa 5) (xa 6) (xa 7) (xa 8) (xa 9) (xa 10) cI uz.1 ++ wHis (xa 18) (xa 19) (xa 20) (xa 21) cI uz.2) (va_A (wXo xa ++ wTrp (xa 4) (xa 5) (xa 6) (xa 7) (xa 8) (xa 9) (xa 10) cI tr ++ wHis (xa 18) (xa 19) (xa 20) (xa 21) cI hi) sz)) (va_A (wXo xa ++ wTrp (xa 4) (xa 5) (xa 6) (xa 7) (xa 8) (xa 9) (xa 10) cI tr ++ wHis (xa 18) (xa 19) (xa 20) (xa 21) cI hi) sz)) 0 0 (va_A (wXo xa ++ wTrp (xa 4) (xa 5) (xa 6) (xa 7) (xa 8) (xa 9) (xa 10) cI tr ++ wHis (xa 18) (xa 19) (xa 20) (xa 21) cI hi) sz) := by
  refine en (own := RX9) (Qc := fun A => va_Qi (fun (rz : Int32) (uz : Trp × His) => rz = xMir tr d ∧ uz.1 = xMirT tr d ∧ uz.2 = xMirH tr hi d) (fun uz => BU D (wXo xa ++ wTrp (xa 4) (xa 5) (xa 6) (xa 7) (xa 8) (xa 9) (xa 10) cI uz.1 ++ wHis (xa 18) (xa 19) (xa 20) (xa 21) cI uz.2) A) A) (by decide) rfl (Nat.le_of_ble_eq_true rfl) rfl ?_
  intro p e s m args below meth c A Q H locs ls hx hb hr hml hown hts hlocks hname hA hN hE hK hQ hP hD hS hl
  have hl : lv_has ls 2 [(0, .ref (xa 0)), (1, .int d)] := hl
  have fl_36 := hts (.fieldLink RX9 36 "DanceStaffs" "history" "LDanceStaffs$History;") (by decide +kernel)
  have hin_9 : ∀ w ∈ u_ws RX9 TX9 13, w ∈ wsX9_mirrors := by decide +kernel
  have fl_26 := hts (.fieldLink RX9 26 "DanceStaffs" "troupe" "LDanceStaffs$Troupe;") (by decide +kernel)
  have hin_8 : ∀ w ∈ u_ws RX8 TX8 5, w ∈ wsX9_mirrors := by decide +kernel
  refine lv_aload_n hx hb dX9_mirrors_0 rfl (lv_at hl 0 rfl) ?_
  refine lv_iload_n hx hb dX9_mirrors_1 rfl (lv_at hl 1 rfl) ?_
  refine jn_i (W2 := fun _ => wXo xa ++ wTrp (xa 4) (xa 5) (xa 6) (xa 7) (xa 8) (xa 9) (xa 10) cI tr ++ wHis (xa 18) (xa 19) (xa 20) (xa 21) cI hi) (va_runV (As := [.int d]) (rest := []) ⟨hx, hb, hml, hown, hts⟩ (c_X9_isDancer l D cI cJ cZ xa H.size tr d) (cwV 1 hts gX9_mirrors_X9_isDancer rfl rfl rfl (by decide +kernel) ⟨Nat.le_of_ble_eq_true rfl, Nat.le_of_ble_eq_true rfl⟩) (pr_V hP hD hK hN hE hS hA [0, 1, 2, 3, 4, 5, 6, 7] (by decide) rfl (ci := 9) (q0 := 0) rfl rfl) rfl rfl hl.1 rfl (lv_room (Nat.le_of_ble_eq_true rfl)) dX9_mirrors_2 ⟨Nat.zero_le _, Nat.zero_le _⟩) hP hD hS hA [0, 1, 2, 3, 4, 5, 6, 7] [8, 9, 10, 11] [4, 5, 6, 7, 8, 9, 10, 11, 0, 1, 2, 3] rfl rfl (by decide) (by decide) (by decide) (fun _ => rfl) (fun r_2 u_2 H locs hw_2 hP hD hS => ?_)
  have hP : va_P D vwCl (wXo xa ++ wTrp (xa 4) (xa 5) (xa 6) (xa 7) (xa 8) (xa 9) (xa 10) cI tr ++ wHis (xa 18) (xa 19) (xa 20) (xa 21) cI hi) H := hP
  have hD : va_D A (wXo xa ++ wTrp (xa 4) (xa 5) (xa 6) (xa 7) (xa 8) (xa 9) (xa 10) cI tr ++ wHis (xa 18) (xa 19) (xa 20) (xa 21) cI hi) := hD
  have hr_2 := hw_2
  refine lv_if_ne (tgt := 10) hx hb dX9_mirrors_5 (by decide) (fun c_5 => ?_) (fun c_5 => ?_)
  · have b_5 : (isDn tr d) = true := bI_1 (fun q => c_5 (hr_2.trans q))
    refine lv_aload_n hx hb dX9_mirrors_10 rfl (lv_at hl 0 rfl) ?_
    refine va_get (D := D) (ci := 9) (v := .ref (xa 18)) (C := RX9) (T := TX9) (N := 13) hx hb hts hin_9 hown hK hP 0 rfl rfl 4 (by decide) fl_36 (fun _ h9 => h9) rfl dX9_mirrors_11 ?_
    refine lv_aload_n hx hb dX9_mirrors_14 rfl (lv_at hl 0 rfl) ?_
    refine va_get (D := D) (ci := 9) (v := .ref (xa 4)) (C := RX9) (T := TX9) (N := 13) hx hb hts hin_9 hown hK hP 0 rfl rfl 2 (by decide) fl_26 (fun _ h9 => h9) rfl dX9_mirrors_15 ?_
    refine va_getN (D := D) (ci := 8) (v := .ref (xa 8)) (C := RX8) (T := TX8) (N := 5) hx hb hts hin_8 hown hK hP 1 rfl rfl 3 (by decide) (nw_fuse hN 34 rfl) (fun _ h9 => h9) rfl dX9_mirrors_18 ?_
    refine lv_iload_n hx hb dX9_mirrors_21 rfl (lv_at hl 1 rfl) ?_
    refine jn_v (W2 := fun u_22 => wXo xa ++ wTrp (xa 4) (xa 5) (xa 6) (xa 7) (xa 8) (xa 9) (xa 10) cI tr ++ wHis (xa 18) (xa 19) (xa 20) (xa 21) cI u_22) (va_runV (As := [.ref (xa 8), .int d]) (rest := []) ⟨hx, hb, hml, hown, hts⟩ (c_X1_remember l D cI cJ cZ (xa 18) (xa 19) (xa 20) (xa 21) (xa 8) (xa 9) (xa 10) H.size hi tr.2.2.2.2 d (hhi) (htr.2.2)) (cwV 2 hts gX9_mirrors_X1_remember rfl rfl rfl (by decide +kernel) ⟨Nat.le_of_ble_eq_true rfl, Nat.le_of_ble_eq_true rfl⟩) (pr_V hP hD hK hN hE hS hA [8, 9, 10, 11, 5, 6, 7] (by decide) rfl (ci := 1) (q0 := 8) rfl rfl) rfl rfl hl.1 rfl (lv_room (Nat.le_of_ble_eq_true rfl)) dX9_mirrors_22 ⟨Nat.zero_le _, Nat.zero_le _⟩) hP hD hS hA [8, 9, 10, 11, 5, 6, 7] [0, 1, 2, 3, 4] [0, 1, 2, 3, 4, 9, 10, 11, 5, 6, 7, 8] rfl rfl (by decide) (by decide) (by decide) (fun _ => rfl) (fun u_22 H locs hw_22 hP hD hS => ?_)
    have hP : va_P D vwCl (wXo xa ++ wTrp (xa 4) (xa 5) (xa 6) (xa 7) (xa 8) (xa 9) (xa 10) cI tr ++ wHis (xa 18) (xa 19) (xa 20) (xa 21) cI u_22) H := hP
    have hD : va_D A (wXo xa ++ wTrp (xa 4) (xa 5) (xa 6) (xa 7) (xa 8) (xa 9) (xa 10) cI tr ++ wHis (xa 18) (xa 19) (xa 20) (xa 21) cI u_22) := hD
    have hu_22 := hw_22
    refine lv_aload_n hx hb dX9_mirrors_25 rfl (lv_at hl 0 rfl) ?_
    refine va_get (D := D) (ci := 9) (v := .ref (xa 4)) (C := RX9) (T := TX9) (N := 13) hx hb hts hin_9 hown hK hP 0 rfl rfl 2 (by decide) fl_26 (fun _ h9 => h9) rfl dX9_mirrors_26 ?_
    refine va_getN (D := D) (ci := 8) (v := .ref (xa 8)) (C := RX8) (T := TX8) (N := 5) hx hb hts hin_8 hown hK hP 1 rfl rfl 3 (by decide) (nw_fuse hN 34 rfl) (fun _ h9 => h9) rfl dX9_mirrors_29 ?_
    refine lv_iload_n hx hb dX9_mirrors_32 rfl (lv_at hl 1 rfl) ?_
    refine jn_v (W2 := fun u_33 => wXo xa ++ wTrp (xa 4) (xa 5) (xa 6) (xa 7) (xa 8) (xa 9) (xa 10) cI (tr.1, tr.2.1, tr.2.2.1, tr.2.2.2.1, u_33) ++ wHis (xa 18) (xa 19) (xa 20) (xa 21) cI u_22) (va_runV (As := [.int d]) (rest := []) ⟨hx, hb, hml, hown, hts⟩ (c_X5_mirror l D cI cJ cZ (xa 8) (xa 9) (xa 10) H.size tr.2.2.2.2 d (htr.2.2)) (cwV 1 hts gX9_mirrors_X5_mirror rfl rfl rfl (by decide +kernel) ⟨Nat.le_of_ble_eq_true rfl, Nat.le_of_ble_eq_true rfl⟩) (pr_V hP hD hK hN hE hS hA [5, 6, 7] (by decide) rfl (ci := 5) (q0 := 5) rfl rfl) rfl rfl hl.1 rfl (lv_room (Nat.le_of_ble_eq_true rfl)) dX9_mirrors_33 ⟨Nat.zero_le _, Nat.zero_le _⟩) hP hD hS hA [5, 6, 7] [0, 1, 2, 3, 4, 8, 9, 10, 11] [0, 1, 2, 3, 4, 9, 10, 11, 5, 6, 7, 8] rfl rfl (by decide) (by decide) (by decide) (fun _ => rfl) (fun u_33 H locs hw_33 hP hD hS => ?_)
    have hP : va_P D vwCl (wXo xa ++ wTrp (xa 4) (xa 5) (xa 6) (xa 7) (xa 8) (xa 9) (xa 10) cI (tr.1, tr.2.1, tr.2.2.1, tr.2.2.2.1, u_33) ++ wHis (xa 18) (xa 19) (xa 20) (xa 21) cI u_22) H := hP
    have hD : va_D A (wXo xa ++ wTrp (xa 4) (xa 5) (xa 6) (xa 7) (xa 8) (xa 9) (xa 10) cI (tr.1, tr.2.1, tr.2.2.1, tr.2.2.2.1, u_33) ++ wHis (xa 18) (xa 19) (xa 20) (xa 21) cI u_22) := hD
    have hu_33 := hw_33
    refine lv_aload_n hx hb dX9_mirrors_36 rfl (lv_at hl 0 rfl) ?_
    refine va_get (D := D) (ci := 9) (v := .ref (xa 4)) (C := RX9) (T := TX9) (N := 13) hx hb hts hin_9 hown hK hP 0 rfl rfl 2 (by decide) fl_26 (fun _ h9 => h9) rfl dX9_mirrors_37 ?_
    refine va_getN (D := D) (ci := 8) (v := .ref (xa 8)) (C := RX8) (T := TX8) (N := 5) hx hb hts hin_8 hown hK hP 1 rfl rfl 3 (by decide) (nw_fuse hN 34 rfl) (fun _ h9 => h9) rfl dX9_mirrors_40 ?_
    refine lv_iload_n hx hb dX9_mirrors_43 rfl (lv_at hl 1 rfl) ?_
    refine jn_i (W2 := fun _ => wXo xa ++ wTrp (xa 4) (xa 5) (xa 6) (xa 7) (xa 8) (xa 9) (xa 10) cI (tr.1, tr.2.1, tr.2.2.1, tr.2.2.2.1, u_33) ++ wHis (xa 18) (xa 19) (xa 20) (xa 21) cI u_22) (va_runV (As := [.int d]) (rest := []) ⟨hx, hb, hml, hown, hts⟩ (c_X5_lengthOf l D cI cJ cZ (xa 8) (xa 9) (xa 10) H.size u_33 d) (cwV 1 hts gX9_mirrors_X5_lengthOf rfl rfl rfl (by decide +kernel) ⟨Nat.le_of_ble_eq_true rfl, Nat.le_of_ble_eq_true rfl⟩) (pr_V hP hD hK hN hE hS hA [5, 6, 7] (by decide) rfl (ci := 5) (q0 := 5) rfl rfl) rfl rfl hl.1 rfl (lv_room (Nat.le_of_ble_eq_true rfl)) dX9_mirrors_44 ⟨Nat.zero_le _, Nat.zero_le _⟩) hP hD hS hA [5, 6, 7] [0, 1, 2, 3, 4, 8, 9, 10, 11] [0, 1, 2, 3, 4, 9, 10, 11, 5, 6, 7, 8] rfl rfl (by decide) (by decide) (by decide) (fun _ => rfl) (fun r_44 u_44 H locs hw_44 hP hD hS => ?_)
    have hP : va_P D vwCl (wXo xa ++ wTrp (xa 4) (xa 5) (xa 6) (xa 7) (xa 8) (xa 9) (xa 10) cI (tr.1, tr.2.1, tr.2.2.1, tr.2.2.2.1, u_33) ++ wHis (xa 18) (xa 19) (xa 20) (xa 21) cI u_22) H := hP
    have hD : va_D A (wXo xa ++ wTrp (xa 4) (xa 5) (xa 6) (xa 7) (xa 8) (xa 9) (xa 10) cI (tr.1, tr.2.1, tr.2.2.1, tr.2.2.2.1, u_33) ++ wHis (xa 18) (xa 19) (xa 20) (xa 21) cI u_22) := hD
    have hr_44 := hw_44
    exact lf_i hx hb hr hlocks hQ ((tr.1, tr.2.1, tr.2.2.1, tr.2.2.2.1, u_33), u_22) hP hD hS dX9_mirrors_47 ⟨(by first | with_reducible rfl | (simp only [xMir, xMirT, xMirH, tpSt, b_5, ← hr_44, ← hu_33, ← hu_22, ← hr_2, ↓reduceIte, bI_t, bI_f, reduceCtorEq]; done) | (subst_vars; simp only [xMir, xMirT, xMirH, tpSt, b_5, ↓reduceIte, bI_t, bI_f, reduceCtorEq]; done) | (simp [xMir, xMirT, xMirH, tpSt, b_5, bI_t, bI_f]; done)), (by first | with_reducible rfl | (simp only [xMir, xMirT, xMirH, tpSt, b_5, ← hr_44, ← hu_33, ← hu_22, ← hr_2, ↓reduceIte, bI_t, bI_f, reduceCtorEq]; done) | (subst_vars; simp only [xMir, xMirT, xMirH, tpSt, b_5, ↓reduceIte, bI_t, bI_f, reduceCtorEq]; done) | (simp [xMir, xMirT, xMirH, tpSt, b_5, bI_t, bI_f]; done)), (by first | with_reducible rfl | (simp only [xMir, xMirT, xMirH, tpSt, b_5, ← hr_44, ← hu_33, ← hu_22, ← hr_2, ↓reduceIte, bI_t, bI_f, reduceCtorEq]; done) | (subst_vars; simp only [xMir, xMirT, xMirH, tpSt, b_5, ↓reduceIte, bI_t, bI_f, reduceCtorEq]; done) | (simp [xMir, xMirT, xMirH, tpSt, b_5, bI_t, bI_f]; done))⟩
  · have b_5 : (isDn tr d) = false := bI_0 (hr_2.symm.trans c_5)
    refine lv_iconst (v := (-1)) hx hb dX9_mirrors_8 (by decide) ?_
    exact lf_i hx hb hr hlocks hQ (tr, hi) hP hD hS dX9_mirrors_9 ⟨(by first | with_reducible rfl | (simp only [xMir, xMirT, xMirH, tpSt, b_5, ← hr_2, ↓reduceIte, bI_t, bI_f, reduceCtorEq]; done) | (subst_vars; simp only [xMir, xMirT, xMirH, tpSt, b_5, ↓reduceIte, bI_t, bI_f, reduceCtorEq]; done) | (simp [xMir, xMirT, xMirH, tpSt, b_5, bI_t, bI_f]; done)), (by first | with_reducible rfl | (simp only [xMir, xMirT, xMirH, tpSt, b_5, ← hr_2, ↓reduceIte, bI_t, bI_f, reduceCtorEq]; done) | (subst_vars; simp only [xMir, xMirT, xMirH, tpSt, b_5, ↓reduceIte, bI_t, bI_f, reduceCtorEq]; done) | (simp [xMir, xMirT, xMirH, tpSt, b_5, bI_t, bI_f]; done)), (by first | with_reducible rfl | (simp only [xMir, xMirT, xMirH, tpSt, b_5, ← hr_2, ↓reduceIte, bI_t, bI_f, reduceCtorEq]; done) | (subst_vars; simp only [xMir, xMirT, xMirH, tpSt, b_5, ↓reduceIte, bI_t, bI_f, reduceCtorEq]; done) | (simp [xMir, xMirT, xMirH, tpSt, b_5, bI_t, bI_f]; done))⟩
abbrev rm_X9_canons : Room := { frames := 4, cells := 0, slots := 0, locals := 89 }
set_option maxHeartbeats 4000000 in
set_option maxRecDepth 100000 in
theorem c_X9_canons (l : Launch) (D : va_G) (cI cJ cZ : ClassId) (xa : Nat → Nat) (sz : Nat) (tr : Trp) (hi : His) (d : Int32) (o : Int32) (n : Int32) (htr : TrpOk tr) (hhi : HisOk hi) : Met l yX9_canons wsX9_canons rm_X9_canons (va_Pc [.ref (xa 0), .int d, .int o, .int n] (PU D (tyL cI cJ cZ) (wXo xa ++ wTrp (xa 4) (xa 5) (xa 6) (xa 7) (xa 8) (xa 9) (xa 10) cI tr ++ wHis (xa 18) (xa 19) (xa 20) (xa 21) cI hi) sz)) (va_Qi (fun (rz : Int32) (uz : Trp × His) => rz = xCan tr d o n ∧ uz.1 = xCanT tr d o n ∧ uz.2 = xCanH tr hi d o n) (fun uz => BU D (wXo xa ++ wTrp (xa 4) (xa 5) (xa 6) (xa 7) (xa 8) (xa 9) (xa 10) cI uz.1 ++ wHis (xa 18) (xa 19) (xa 20) (xa 21) cI uz.2) (va_A (wXo xa ++ wTrp (xa 4) (xa 5) (xa 6) (xa 7) (xa 8) (xa 9) (xa 10) cI tr ++ wHis (xa 18) (xa 19) (xa 20) (xa 21) cI hi) sz)) (va_A (wXo xa ++ wTrp (xa 4) (xa 5) (xa 6) (xa 7) (xa 8) (xa 9) (xa 10) cI tr ++ wHis (xa 18) (xa 19) (xa 20) (xa 21) cI hi) sz)) 0 0 (va_A (wXo xa ++ wTrp (xa 4) (xa 5) (xa 6) (xa 7) (xa 8) (xa 9) (xa 10) cI tr ++ wHis (xa 18) (xa 19) (xa 20) (xa 21) cI hi) sz) := by
  refine en (own := RX9) (Qc := fun A => va_Qi (fun (rz : Int32) (uz : Trp × His) => rz = xCan tr d o n ∧ uz.1 = xCanT tr d o n ∧ uz.2 = xCanH tr hi d o n) (fun uz => BU D (wXo xa ++ wTrp (xa 4) (xa 5) (xa 6) (xa 7) (xa 8) (xa 9) (xa 10) cI uz.1 ++ wHis (xa 18) (xa 19) (xa 20) (xa 21) cI uz.2) A) A) (by decide) rfl (Nat.le_of_ble_eq_true rfl) rfl ?_
  intro p e s m args below meth c A Q H locs ls hx hb hr hml hown hts hlocks hname hA hN hE hK hQ hP hD hS hl
  have hl : lv_has ls 4 [(0, .ref (xa 0)), (1, .int d), (2, .int o), (3, .int n)] := hl
  have fl_36 := hts (.fieldLink RX9 36 "DanceStaffs" "history" "LDanceStaffs$History;") (by decide +kernel)
  have hin_9 : ∀ w ∈ u_ws RX9 TX9 13, w ∈ wsX9_canons := by decide +kernel
  have fl_26 := hts (.fieldLink RX9 26 "DanceStaffs" "troupe" "LDanceStaffs$Troupe;") (by decide +kernel)
  have hin_8 : ∀ w ∈ u_ws RX8 TX8 5, w ∈ wsX9_canons := by decide +kernel
  refine lv_aload_n hx hb dX9_canons_0 rfl (lv_at hl 0 rfl) ?_
  refine lv_iload_n hx hb dX9_canons_1 rfl (lv_at hl 1 rfl) ?_
  refine lv_iload_n hx hb dX9_canons_2 rfl (lv_at hl 2 rfl) ?_
  refine jn_i (W2 := fun _ => wXo xa ++ wTrp (xa 4) (xa 5) (xa 6) (xa 7) (xa 8) (xa 9) (xa 10) cI tr ++ wHis (xa 18) (xa 19) (xa 20) (xa 21) cI hi) (va_runV (As := [.int d, .int o]) (rest := []) ⟨hx, hb, hml, hown, hts⟩ (c_X9_areTwo l D cI cJ cZ xa H.size tr d o) (cwV 2 hts gX9_canons_X9_areTwo rfl rfl rfl (by decide +kernel) ⟨Nat.le_of_ble_eq_true rfl, Nat.le_of_ble_eq_true rfl⟩) (pr_V hP hD hK hN hE hS hA [0, 1, 2, 3, 4, 5, 6, 7] (by decide) rfl (ci := 9) (q0 := 0) rfl rfl) rfl rfl hl.1 rfl (lv_room (Nat.le_of_ble_eq_true rfl)) dX9_canons_3 ⟨Nat.zero_le _, Nat.zero_le _⟩) hP hD hS hA [0, 1, 2, 3, 4, 5, 6, 7] [8, 9, 10, 11] [4, 5, 6, 7, 8, 9, 10, 11, 0, 1, 2, 3] rfl rfl (by decide) (by decide) (by decide) (fun _ => rfl) (fun r_3 u_3 H locs hw_3 hP hD hS => ?_)
  have hP : va_P D vwCl (wXo xa ++ wTrp (xa 4) (xa 5) (xa 6) (xa 7) (xa 8) (xa 9) (xa 10) cI tr ++ wHis (xa 18) (xa 19) (xa 20) (xa 21) cI hi) H := hP
  have hD : va_D A (wXo xa ++ wTrp (xa 4) (xa 5) (xa 6) (xa 7) (xa 8) (xa 9) (xa 10) cI tr ++ wHis (xa 18) (xa 19) (xa 20) (xa 21) cI hi) := hD
  have hr_3 := hw_3
  refine lv_if_eq (tgt := 18) hx hb dX9_canons_6 (by decide) (fun c_6 => ?_) (fun c_6 => ?_)
  · have b_6 : (ar2 tr d o) = false := bI_0 (hr_3.symm.trans c_6)
    refine lv_iconst (v := (-1)) hx hb dX9_canons_18 (by decide) ?_
    exact lf_i hx hb hr hlocks hQ (tr, hi) hP hD hS dX9_canons_19 ⟨(by first | with_reducible rfl | (simp only [xCan, xCanT, xCanH, xCanCk, tpSt, b_6, ← hr_3, ↓reduceIte, bI_t, bI_f, reduceCtorEq]; done) | (subst_vars; simp only [xCan, xCanT, xCanH, xCanCk, tpSt, b_6, ↓reduceIte, bI_t, bI_f, reduceCtorEq]; done) | (simp [xCan, xCanT, xCanH, xCanCk, tpSt, b_6, bI_t, bI_f]; done)), (by first | with_reducible rfl | (simp only [xCan, xCanT, xCanH, xCanCk, tpSt, b_6, ← hr_3, ↓reduceIte, bI_t, bI_f, reduceCtorEq]; done) | (subst_vars; simp only [xCan, xCanT, xCanH, xCanCk, tpSt, b_6, ↓reduceIte, bI_t, bI_f, reduceCtorEq]; done) | (simp [xCan, xCanT, xCanH, xCanCk, tpSt, b_6, bI_t, bI_f]; done)), (by first | with_reducible rfl | (simp only [xCan, xCanT, xCanH, xCanCk, tpSt, b_6, ← hr_3, ↓reduceIte, bI_t, bI_f, reduceCtorEq]; done) | (subst_vars; simp only [xCan, xCanT, xCanH, xCanCk, tpSt, b_6, ↓reduceIte, bI_t, bI_f, reduceCtorEq]; done) | (simp [xCan, xCanT, xCanH, xCanCk, tpSt, b_6, bI_t, bI_f]; done))⟩
  · have b_6 : (ar2 tr d o) = true := bI_1 (fun q => c_6 (hr_3.trans q))
    refine lv_iload_n hx hb dX9_canons_9 rfl (lv_at hl 3 rfl) ?_
    refine lv_if_lt (tgt := 18) hx hb dX9_canons_10 (by decide) (fun c_10 => ?_) (fun c_10 => ?_)
    · have i_10 := i_lt c_10
      rw [(by decide : (0 : Int32).toInt = 0)] at i_10
      refine lv_iconst (v := (-1)) hx hb dX9_canons_18 (by decide) ?_
      exact lf_i hx hb hr hlocks hQ (tr, hi) hP hD hS dX9_canons_19 ⟨(by first | with_reducible rfl | (simp only [xCan, xCanT, xCanH, xCanCk, tpSt, b_6, if_pos c_10, ← hr_3, ↓reduceIte, bI_t, bI_f, reduceCtorEq]; done) | (subst_vars; simp only [xCan, xCanT, xCanH, xCanCk, tpSt, b_6, if_pos c_10, ↓reduceIte, bI_t, bI_f, reduceCtorEq]; done) | (simp [xCan, xCanT, xCanH, xCanCk, tpSt, b_6, c_10, bI_t, bI_f]; done)), (by first | with_reducible rfl | (simp only [xCan, xCanT, xCanH, xCanCk, tpSt, b_6, if_pos c_10, ← hr_3, ↓reduceIte, bI_t, bI_f, reduceCtorEq]; done) | (subst_vars; simp only [xCan, xCanT, xCanH, xCanCk, tpSt, b_6, if_pos c_10, ↓reduceIte, bI_t, bI_f, reduceCtorEq]; done) | (simp [xCan, xCanT, xCanH, xCanCk, tpSt, b_6, c_10, bI_t, bI_f]; done)), (by first | with_reducible rfl | (simp only [xCan, xCanT, xCanH, xCanCk, tpSt, b_6, if_pos c_10, ← hr_3, ↓reduceIte, bI_t, bI_f, reduceCtorEq]; done) | (subst_vars; simp only [xCan, xCanT, xCanH, xCanCk, tpSt, b_6, if_pos c_10, ↓reduceIte, bI_t, bI_f, reduceCtorEq]; done) | (simp [xCan, xCanT, xCanH, xCanCk, tpSt, b_6, c_10, bI_t, bI_f]; done))⟩
    · have i_10 := i_nlt c_10
      rw [(by decide : (0 : Int32).toInt = 0)] at i_10
      refine lv_iload_n hx hb dX9_canons_13 rfl (lv_at hl 3 rfl) ?_
      refine lv_iconst (v := 4) hx hb dX9_canons_14 (by decide) ?_
      refine lv_icmp_le (tgt := 20) hx hb dX9_canons_15 (by decide) (fun c_15 => ?_) (fun c_15 => ?_)
      · have i_15 := i_le c_15
        rw [(by decide : (4 : Int32).toInt = 4)] at i_15
        refine lv_aload_n hx hb dX9_canons_20 rfl (lv_at hl 0 rfl) ?_
        refine va_get (D := D) (ci := 9) (v := .ref (xa 18)) (C := RX9) (T := TX9) (N := 13) hx hb hts hin_9 hown hK hP 0 rfl rfl 4 (by decide) fl_36 (fun _ h9 => h9) rfl dX9_canons_21 ?_
        refine lv_aload_n hx hb dX9_canons_24 rfl (lv_at hl 0 rfl) ?_
        refine va_get (D := D) (ci := 9) (v := .ref (xa 4)) (C := RX9) (T := TX9) (N := 13) hx hb hts hin_9 hown hK hP 0 rfl rfl 2 (by decide) fl_26 (fun _ h9 => h9) rfl dX9_canons_25 ?_
        refine va_getN (D := D) (ci := 8) (v := .ref (xa 8)) (C := RX8) (T := TX8) (N := 5) hx hb hts hin_8 hown hK hP 1 rfl rfl 3 (by decide) (nw_fuse hN 34 rfl) (fun _ h9 => h9) rfl dX9_canons_28 ?_
        refine lv_iload_n hx hb dX9_canons_31 rfl (lv_at hl 1 rfl) ?_
        refine jn_v (W2 := fun u_32 => wXo xa ++ wTrp (xa 4) (xa 5) (xa 6) (xa 7) (xa 8) (xa 9) (xa 10) cI tr ++ wHis (xa 18) (xa 19) (xa 20) (xa 21) cI u_32) (va_runV (As := [.ref (xa 8), .int d]) (rest := []) ⟨hx, hb, hml, hown, hts⟩ (c_X1_remember l D cI cJ cZ (xa 18) (xa 19) (xa 20) (xa 21) (xa 8) (xa 9) (xa 10) H.size hi tr.2.2.2.2 d (hhi) (htr.2.2)) (cwV 2 hts gX9_canons_X1_remember rfl rfl rfl (by decide +kernel) ⟨Nat.le_of_ble_eq_true rfl, Nat.le_of_ble_eq_true rfl⟩) (pr_V hP hD hK hN hE hS hA [8, 9, 10, 11, 5, 6, 7] (by decide) rfl (ci := 1) (q0 := 8) rfl rfl) rfl rfl hl.1 rfl (lv_room (Nat.le_of_ble_eq_true rfl)) dX9_canons_32 ⟨Nat.zero_le _, Nat.zero_le _⟩) hP hD hS hA [8, 9, 10, 11, 5, 6, 7] [0, 1, 2, 3, 4] [0, 1, 2, 3, 4, 9, 10, 11, 5, 6, 7, 8] rfl rfl (by decide) (by decide) (by decide) (fun _ => rfl) (fun u_32 H locs hw_32 hP hD hS => ?_)
        have hP : va_P D vwCl (wXo xa ++ wTrp (xa 4) (xa 5) (xa 6) (xa 7) (xa 8) (xa 9) (xa 10) cI tr ++ wHis (xa 18) (xa 19) (xa 20) (xa 21) cI u_32) H := hP
        have hD : va_D A (wXo xa ++ wTrp (xa 4) (xa 5) (xa 6) (xa 7) (xa 8) (xa 9) (xa 10) cI tr ++ wHis (xa 18) (xa 19) (xa 20) (xa 21) cI u_32) := hD
        have hu_32 := hw_32
        refine lv_aload_n hx hb dX9_canons_35 rfl (lv_at hl 0 rfl) ?_
        refine va_get (D := D) (ci := 9) (v := .ref (xa 4)) (C := RX9) (T := TX9) (N := 13) hx hb hts hin_9 hown hK hP 0 rfl rfl 2 (by decide) fl_26 (fun _ h9 => h9) rfl dX9_canons_36 ?_
        refine va_getN (D := D) (ci := 8) (v := .ref (xa 8)) (C := RX8) (T := TX8) (N := 5) hx hb hts hin_8 hown hK hP 1 rfl rfl 3 (by decide) (nw_fuse hN 34 rfl) (fun _ h9 => h9) rfl dX9_canons_39 ?_
        refine lv_iload_n hx hb dX9_canons_42 rfl (lv_at hl 1 rfl) ?_
        refine lv_iload_n hx hb dX9_canons_43 rfl (lv_at hl 2 rfl) ?_
        refine lv_iload_n hx hb dX9_canons_44 rfl (lv_at hl 3 rfl) ?_
        refine jn_v (W2 := fun u_45 => wXo xa ++ wTrp (xa 4) (xa 5) (xa 6) (xa 7) (xa 8) (xa 9) (xa 10) cI (tr.1, tr.2.1, tr.2.2.1, tr.2.2.2.1, u_45) ++ wHis (xa 18) (xa 19) (xa 20) (xa 21) cI u_32) (va_runV (As := [.int d, .int o, .int n]) (rest := []) ⟨hx, hb, hml, hown, hts⟩ (c_X5_makeCanon l D cI cJ cZ (xa 8) (xa 9) (xa 10) H.size tr.2.2.2.2 d o n (htr.2.2)) (cwV 3 hts gX9_canons_X5_makeCanon rfl rfl rfl (by decide +kernel) ⟨Nat.le_of_ble_eq_true rfl, Nat.le_of_ble_eq_true rfl⟩) (pr_V hP hD hK hN hE hS hA [5, 6, 7] (by decide) rfl (ci := 5) (q0 := 5) rfl rfl) rfl rfl hl.1 rfl (lv_room (Nat.le_of_ble_eq_true rfl)) dX9_canons_45 ⟨Nat.zero_le _, Nat.zero_le _⟩) hP hD hS hA [5, 6, 7] [0, 1, 2, 3, 4, 8, 9, 10, 11] [0, 1, 2, 3, 4, 9, 10, 11, 5, 6, 7, 8] rfl rfl (by decide) (by decide) (by decide) (fun _ => rfl) (fun u_45 H locs hw_45 hP hD hS => ?_)
        have hP : va_P D vwCl (wXo xa ++ wTrp (xa 4) (xa 5) (xa 6) (xa 7) (xa 8) (xa 9) (xa 10) cI (tr.1, tr.2.1, tr.2.2.1, tr.2.2.2.1, u_45) ++ wHis (xa 18) (xa 19) (xa 20) (xa 21) cI u_32) H := hP
        have hD : va_D A (wXo xa ++ wTrp (xa 4) (xa 5) (xa 6) (xa 7) (xa 8) (xa 9) (xa 10) cI (tr.1, tr.2.1, tr.2.2.1, tr.2.2.2.1, u_45) ++ wHis (xa 18) (xa 19) (xa 20) (xa 21) cI u_32) := hD
        have hu_45 := hw_45
        refine lv_aload_n hx hb dX9_canons_48 rfl (lv_at hl 0 rfl) ?_
        refine va_get (D := D) (ci := 9) (v := .ref (xa 4)) (C := RX9) (T := TX9) (N := 13) hx hb hts hin_9 hown hK hP 0 rfl rfl 2 (by decide) fl_26 (fun _ h9 => h9) rfl dX9_canons_49 ?_
        refine va_getN (D := D) (ci := 8) (v := .ref (xa 8)) (C := RX8) (T := TX8) (N := 5) hx hb hts hin_8 hown hK hP 1 rfl rfl 3 (by decide) (nw_fuse hN 34 rfl) (fun _ h9 => h9) rfl dX9_canons_52 ?_
        refine lv_iload_n hx hb dX9_canons_55 rfl (lv_at hl 1 rfl) ?_
        refine jn_i (W2 := fun _ => wXo xa ++ wTrp (xa 4) (xa 5) (xa 6) (xa 7) (xa 8) (xa 9) (xa 10) cI (tr.1, tr.2.1, tr.2.2.1, tr.2.2.2.1, u_45) ++ wHis (xa 18) (xa 19) (xa 20) (xa 21) cI u_32) (va_runV (As := [.int d]) (rest := []) ⟨hx, hb, hml, hown, hts⟩ (c_X5_lengthOf l D cI cJ cZ (xa 8) (xa 9) (xa 10) H.size u_45 d) (cwV 1 hts gX9_canons_X5_lengthOf rfl rfl rfl (by decide +kernel) ⟨Nat.le_of_ble_eq_true rfl, Nat.le_of_ble_eq_true rfl⟩) (pr_V hP hD hK hN hE hS hA [5, 6, 7] (by decide) rfl (ci := 5) (q0 := 5) rfl rfl) rfl rfl hl.1 rfl (lv_room (Nat.le_of_ble_eq_true rfl)) dX9_canons_56 ⟨Nat.zero_le _, Nat.zero_le _⟩) hP hD hS hA [5, 6, 7] [0, 1, 2, 3, 4, 8, 9, 10, 11] [0, 1, 2, 3, 4, 9, 10, 11, 5, 6, 7, 8] rfl rfl (by decide) (by decide) (by decide) (fun _ => rfl) (fun r_56 u_56 H locs hw_56 hP hD hS => ?_)
        have hP : va_P D vwCl (wXo xa ++ wTrp (xa 4) (xa 5) (xa 6) (xa 7) (xa 8) (xa 9) (xa 10) cI (tr.1, tr.2.1, tr.2.2.1, tr.2.2.2.1, u_45) ++ wHis (xa 18) (xa 19) (xa 20) (xa 21) cI u_32) H := hP
        have hD : va_D A (wXo xa ++ wTrp (xa 4) (xa 5) (xa 6) (xa 7) (xa 8) (xa 9) (xa 10) cI (tr.1, tr.2.1, tr.2.2.1, tr.2.2.2.1, u_45) ++ wHis (xa 18) (xa 19) (xa 20) (xa 21) cI u_32) := hD
        have hr_56 := hw_56
        exact lf_i hx hb hr hlocks hQ ((tr.1, tr.2.1, tr.2.2.1, tr.2.2.2.1, u_45), u_32) hP hD hS dX9_canons_59 ⟨(by first | with_reducible rfl | (simp only [xCan, xCanT, xCanH, xCanCk, tpSt, b_6, if_neg c_10, if_pos c_15, ← hr_56, ← hu_45, ← hu_32, ← hr_3, ↓reduceIte, bI_t, bI_f, reduceCtorEq]; done) | (subst_vars; simp only [xCan, xCanT, xCanH, xCanCk, tpSt, b_6, if_neg c_10, if_pos c_15, ↓reduceIte, bI_t, bI_f, reduceCtorEq]; done) | (simp [xCan, xCanT, xCanH, xCanCk, tpSt, b_6, c_10, c_15, bI_t, bI_f]; done)), (by first | with_reducible rfl | (simp only [xCan, xCanT, xCanH, xCanCk, tpSt, b_6, if_neg c_10, if_pos c_15, ← hr_56, ← hu_45, ← hu_32, ← hr_3, ↓reduceIte, bI_t, bI_f, reduceCtorEq]; done) | (subst_vars; simp only [xCan, xCanT, xCanH, xCanCk, tpSt, b_6, if_neg c_10, if_pos c_15, ↓reduceIte, bI_t, bI_f, reduceCtorEq]; done) | (simp [xCan, xCanT, xCanH, xCanCk, tpSt, b_6, c_10, c_15, bI_t, bI_f]; done)), (by first | with_reducible rfl | (simp only [xCan, xCanT, xCanH, xCanCk, tpSt, b_6, if_neg c_10, if_pos c_15, ← hr_56, ← hu_45, ← hu_32, ← hr_3, ↓reduceIte, bI_t, bI_f, reduceCtorEq]; done) | (subst_vars; simp only [xCan, xCanT, xCanH, xCanCk, tpSt, b_6, if_neg c_10, if_pos c_15, ↓reduceIte, bI_t, bI_f, reduceCtorEq]; done) | (simp [xCan, xCanT, xCanH, xCanCk, tpSt, b_6, c_10, c_15, bI_t, bI_f]; done))⟩
      · have i_15 := i_nle c_15
        rw [(by decide : (4 : Int32).toInt = 4)] at i_15
        refine lv_iconst (v := (-1)) hx hb dX9_canons_18 (by decide) ?_
        exact lf_i hx hb hr hlocks hQ (tr, hi) hP hD hS dX9_canons_19 ⟨(by first | with_reducible rfl | (simp only [xCan, xCanT, xCanH, xCanCk, tpSt, b_6, if_neg c_10, if_neg c_15, ← hr_3, ↓reduceIte, bI_t, bI_f, reduceCtorEq]; done) | (subst_vars; simp only [xCan, xCanT, xCanH, xCanCk, tpSt, b_6, if_neg c_10, if_neg c_15, ↓reduceIte, bI_t, bI_f, reduceCtorEq]; done) | (simp [xCan, xCanT, xCanH, xCanCk, tpSt, b_6, c_10, c_15, bI_t, bI_f]; done)), (by first | with_reducible rfl | (simp only [xCan, xCanT, xCanH, xCanCk, tpSt, b_6, if_neg c_10, if_neg c_15, ← hr_3, ↓reduceIte, bI_t, bI_f, reduceCtorEq]; done) | (subst_vars; simp only [xCan, xCanT, xCanH, xCanCk, tpSt, b_6, if_neg c_10, if_neg c_15, ↓reduceIte, bI_t, bI_f, reduceCtorEq]; done) | (simp [xCan, xCanT, xCanH, xCanCk, tpSt, b_6, c_10, c_15, bI_t, bI_f]; done)), (by first | with_reducible rfl | (simp only [xCan, xCanT, xCanH, xCanCk, tpSt, b_6, if_neg c_10, if_neg c_15, ← hr_3, ↓reduceIte, bI_t, bI_f, reduceCtorEq]; done) | (subst_vars; simp only [xCan, xCanT, xCanH, xCanCk, tpSt, b_6, if_neg c_10, if_neg c_15, ↓reduceIte, bI_t, bI_f, reduceCtorEq]; done) | (simp [xCan, xCanT, xCanH, xCanCk, tpSt, b_6, c_10, c_15, bI_t, bI_f]; done))⟩
abbrev rm_X9_changes : Room := { frames := 4, cells := 0, slots := 0, locals := 88 }
set_option maxHeartbeats 4000000 in
set_option maxRecDepth 100000 in
theorem c_X9_changes (l : Launch) (D : va_G) (cI cJ cZ : ClassId) (xa : Nat → Nat) (sz : Nat) (tr : Trp) (hi : His) (d : Int32) (b : Int32) (g : Int32) (htr : TrpOk tr) (hhi : HisOk hi) : Met l yX9_changes wsX9_changes rm_X9_changes (va_Pc [.ref (xa 0), .int d, .int b, .int g] (PU D (tyL cI cJ cZ) (wXo xa ++ wTrp (xa 4) (xa 5) (xa 6) (xa 7) (xa 8) (xa 9) (xa 10) cI tr ++ wHis (xa 18) (xa 19) (xa 20) (xa 21) cI hi) sz)) (va_Qi (fun (rz : Int32) (uz : Trp × His) => rz = xCh tr d b g ∧ uz.1 = xChT tr d b g ∧ uz.2 = xChH tr hi d b g) (fun uz => BU D (wXo xa ++ wTrp (xa 4) (xa 5) (xa 6) (xa 7) (xa 8) (xa 9) (xa 10) cI uz.1 ++ wHis (xa 18) (xa 19) (xa 20) (xa 21) cI uz.2) (va_A (wXo xa ++ wTrp (xa 4) (xa 5) (xa 6) (xa 7) (xa 8) (xa 9) (xa 10) cI tr ++ wHis (xa 18) (xa 19) (xa 20) (xa 21) cI hi) sz)) (va_A (wXo xa ++ wTrp (xa 4) (xa 5) (xa 6) (xa 7) (xa 8) (xa 9) (xa 10) cI tr ++ wHis (xa 18) (xa 19) (xa 20) (xa 21) cI hi) sz)) 0 0 (va_A (wXo xa ++ wTrp (xa 4) (xa 5) (xa 6) (xa 7) (xa 8) (xa 9) (xa 10) cI tr ++ wHis (xa 18) (xa 19) (xa 20) (xa 21) cI hi) sz) := by
  refine en (own := RX9) (Qc := fun A => va_Qi (fun (rz : Int32) (uz : Trp × His) => rz = xCh tr d b g ∧ uz.1 = xChT tr d b g ∧ uz.2 = xChH tr hi d b g) (fun uz => BU D (wXo xa ++ wTrp (xa 4) (xa 5) (xa 6) (xa 7) (xa 8) (xa 9) (xa 10) cI uz.1 ++ wHis (xa 18) (xa 19) (xa 20) (xa 21) cI uz.2) A) A) (by decide) rfl (Nat.le_of_ble_eq_true rfl) rfl ?_
  intro p e s m args below meth c A Q H locs ls hx hb hr hml hown hts hlocks hname hA hN hE hK hQ hP hD hS hl
  have hl : lv_has ls 5 [(0, .ref (xa 0)), (1, .int d), (2, .int b), (3, .int g)] := hl
  have fl_26 := hts (.fieldLink RX9 26 "DanceStaffs" "troupe" "LDanceStaffs$Troupe;") (by decide +kernel)
  have hin_9 : ∀ w ∈ u_ws RX9 TX9 13, w ∈ wsX9_changes := by decide +kernel
  have hin_8 : ∀ w ∈ u_ws RX8 TX8 5, w ∈ wsX9_changes := by decide +kernel
  have fl_36 := hts (.fieldLink RX9 36 "DanceStaffs" "history" "LDanceStaffs$History;") (by decide +kernel)
  refine lv_aload_n hx hb dX9_changes_0 rfl (lv_at hl 0 rfl) ?_
  refine lv_iload_n hx hb dX9_changes_1 rfl (lv_at hl 1 rfl) ?_
  refine jn_i (W2 := fun _ => wXo xa ++ wTrp (xa 4) (xa 5) (xa 6) (xa 7) (xa 8) (xa 9) (xa 10) cI tr ++ wHis (xa 18) (xa 19) (xa 20) (xa 21) cI hi) (va_runV (As := [.int d]) (rest := []) ⟨hx, hb, hml, hown, hts⟩ (c_X9_isDancer l D cI cJ cZ xa H.size tr d) (cwV 1 hts gX9_changes_X9_isDancer rfl rfl rfl (by decide +kernel) ⟨Nat.le_of_ble_eq_true rfl, Nat.le_of_ble_eq_true rfl⟩) (pr_V hP hD hK hN hE hS hA [0, 1, 2, 3, 4, 5, 6, 7] (by decide) rfl (ci := 9) (q0 := 0) rfl rfl) rfl rfl hl.1 rfl (lv_room (Nat.le_of_ble_eq_true rfl)) dX9_changes_2 ⟨Nat.zero_le _, Nat.zero_le _⟩) hP hD hS hA [0, 1, 2, 3, 4, 5, 6, 7] [8, 9, 10, 11] [4, 5, 6, 7, 8, 9, 10, 11, 0, 1, 2, 3] rfl rfl (by decide) (by decide) (by decide) (fun _ => rfl) (fun r_2 u_2 H locs hw_2 hP hD hS => ?_)
  have hP : va_P D vwCl (wXo xa ++ wTrp (xa 4) (xa 5) (xa 6) (xa 7) (xa 8) (xa 9) (xa 10) cI tr ++ wHis (xa 18) (xa 19) (xa 20) (xa 21) cI hi) H := hP
  have hD : va_D A (wXo xa ++ wTrp (xa 4) (xa 5) (xa 6) (xa 7) (xa 8) (xa 9) (xa 10) cI tr ++ wHis (xa 18) (xa 19) (xa 20) (xa 21) cI hi) := hD
  have hr_2 := hw_2
  refine lv_if_eq (tgt := 15) hx hb dX9_changes_5 (by decide) (fun c_5 => ?_) (fun c_5 => ?_)
  · have b_5 : (isDn tr d) = false := bI_0 (hr_2.symm.trans c_5)
    refine lv_iconst (v := (-1)) hx hb dX9_changes_15 (by decide) ?_
    exact lf_i hx hb hr hlocks hQ (tr, hi) hP hD hS dX9_changes_16 ⟨(by first | with_reducible rfl | (simp only [xCh, xChT, xChH, xChCk, tpSt, b_5, ← hr_2, ↓reduceIte, bI_t, bI_f, reduceCtorEq]; done) | (subst_vars; simp only [xCh, xChT, xChH, xChCk, tpSt, b_5, ↓reduceIte, bI_t, bI_f, reduceCtorEq]; done) | (simp [xCh, xChT, xChH, xChCk, tpSt, b_5, bI_t, bI_f]; done)), (by first | with_reducible rfl | (simp only [xCh, xChT, xChH, xChCk, tpSt, b_5, ← hr_2, ↓reduceIte, bI_t, bI_f, reduceCtorEq]; done) | (subst_vars; simp only [xCh, xChT, xChH, xChCk, tpSt, b_5, ↓reduceIte, bI_t, bI_f, reduceCtorEq]; done) | (simp [xCh, xChT, xChH, xChCk, tpSt, b_5, bI_t, bI_f]; done)), (by first | with_reducible rfl | (simp only [xCh, xChT, xChH, xChCk, tpSt, b_5, ← hr_2, ↓reduceIte, bI_t, bI_f, reduceCtorEq]; done) | (subst_vars; simp only [xCh, xChT, xChH, xChCk, tpSt, b_5, ↓reduceIte, bI_t, bI_f, reduceCtorEq]; done) | (simp [xCh, xChT, xChH, xChCk, tpSt, b_5, bI_t, bI_f]; done))⟩
  · have b_5 : (isDn tr d) = true := bI_1 (fun q => c_5 (hr_2.trans q))
    refine lv_iload_n hx hb dX9_changes_8 rfl (lv_at hl 3 rfl) ?_
    refine st_i (va_runS (As := [.int g]) (rest := []) ⟨hx, hb, hml, hown, hts⟩ (c_X9_isSign l D cI cJ cZ H.size g) (va_cwS 1 hts gX9_changes_X9_isSign rfl rfl rfl (by decide +kernel) ⟨Nat.le_of_ble_eq_true rfl, Nat.le_of_ble_eq_true rfl⟩) (pr_S hP hD hK hN hE hS hA [] (by decide) rfl) rfl rfl hl.1 rfl (lv_room (Nat.le_of_ble_eq_true rfl)) dX9_changes_9 ⟨Nat.zero_le _, Nat.zero_le _⟩) hP hS hA (fun r_9 u_9 H locs hw_9 hP hS => ?_)
    have hr_9 := hw_9
    refine lv_if_ne (tgt := 17) hx hb dX9_changes_12 (by decide) (fun c_12 => ?_) (fun c_12 => ?_)
    · have b_12 : (isSgn g) = true := bI_1 (fun q => c_12 (hr_9.trans q))
      refine lv_aload_n hx hb dX9_changes_17 rfl (lv_at hl 0 rfl) ?_
      refine va_get (D := D) (ci := 9) (v := .ref (xa 4)) (C := RX9) (T := TX9) (N := 13) hx hb hts hin_9 hown hK hP 0 rfl rfl 2 (by decide) fl_26 (fun _ h9 => h9) rfl dX9_changes_18 ?_
      refine va_getN (D := D) (ci := 8) (v := .ref (xa 8)) (C := RX8) (T := TX8) (N := 5) hx hb hts hin_8 hown hK hP 1 rfl rfl 3 (by decide) (nw_fuse hN 34 rfl) (fun _ h9 => h9) rfl dX9_changes_21 ?_
      refine lv_iload_n hx hb dX9_changes_24 rfl (lv_at hl 1 rfl) ?_
      refine lv_iload_n hx hb dX9_changes_25 rfl (lv_at hl 2 rfl) ?_
      refine jn_i (W2 := fun _ => wXo xa ++ wTrp (xa 4) (xa 5) (xa 6) (xa 7) (xa 8) (xa 9) (xa 10) cI tr ++ wHis (xa 18) (xa 19) (xa 20) (xa 21) cI hi) (va_runV (As := [.int d, .int b]) (rest := []) ⟨hx, hb, hml, hown, hts⟩ (c_X5_signAt l D cI cJ cZ (xa 8) (xa 9) (xa 10) H.size tr.2.2.2.2 d b (htr.2.2)) (cwV 2 hts gX9_changes_X5_signAt rfl rfl rfl (by decide +kernel) ⟨Nat.le_of_ble_eq_true rfl, Nat.le_of_ble_eq_true rfl⟩) (pr_V hP hD hK hN hE hS hA [5, 6, 7] (by decide) rfl (ci := 5) (q0 := 5) rfl rfl) rfl rfl hl.1 rfl (lv_room (Nat.le_of_ble_eq_true rfl)) dX9_changes_26 ⟨Nat.zero_le _, Nat.zero_le _⟩) hP hD hS hA [5, 6, 7] [0, 1, 2, 3, 4, 8, 9, 10, 11] [0, 1, 2, 3, 4, 9, 10, 11, 5, 6, 7, 8] rfl rfl (by decide) (by decide) (by decide) (fun _ => rfl) (fun r_26 u_26 H locs hw_26 hP hD hS => ?_)
      have hP : va_P D vwCl (wXo xa ++ wTrp (xa 4) (xa 5) (xa 6) (xa 7) (xa 8) (xa 9) (xa 10) cI tr ++ wHis (xa 18) (xa 19) (xa 20) (xa 21) cI hi) H := hP
      have hD : va_D A (wXo xa ++ wTrp (xa 4) (xa 5) (xa 6) (xa 7) (xa 8) (xa 9) (xa 10) cI tr ++ wHis (xa 18) (xa 19) (xa 20) (xa 21) cI hi) := hD
      have hr_26 := hw_26
      refine lv_istore (lv' := [(4, .int r_26), (0, .ref (xa 0)), (1, .int d), (2, .int b), (3, .int g)]) hx hb dX9_changes_29 hl (by decide) rfl (fun ls hl => ?_)
      refine lv_iload hx hb dX9_changes_31 (lv_at hl 0 rfl) ?_
      refine lv_bipush (v := (-9)) hx hb dX9_changes_33 (by decide) ?_
      refine lv_icmp_ne (tgt := 40) hx hb dX9_changes_35 (by decide) (fun c_35 => ?_) (fun c_35 => ?_)
      · have i_35 := i_ne c_35
        rw [(by decide : (-9 : Int32).toInt = -9)] at i_35
        refine lv_iload hx hb dX9_changes_40 (lv_at hl 0 rfl) ?_
        refine lv_iload_n hx hb dX9_changes_42 rfl (lv_at hl 4 rfl) ?_
        refine lv_icmp_ne (tgt := 49) hx hb dX9_changes_43 (by decide) (fun c_43 => ?_) (fun c_43 => ?_)
        · have i_43 := i_ne c_43
          refine lv_aload_n hx hb dX9_changes_49 rfl (lv_at hl 1 rfl) ?_
          refine va_get (D := D) (ci := 9) (v := .ref (xa 18)) (C := RX9) (T := TX9) (N := 13) hx hb hts hin_9 hown hK hP 0 rfl rfl 4 (by decide) fl_36 (fun _ h9 => h9) rfl dX9_changes_50 ?_
          refine lv_aload_n hx hb dX9_changes_53 rfl (lv_at hl 1 rfl) ?_
          refine va_get (D := D) (ci := 9) (v := .ref (xa 4)) (C := RX9) (T := TX9) (N := 13) hx hb hts hin_9 hown hK hP 0 rfl rfl 2 (by decide) fl_26 (fun _ h9 => h9) rfl dX9_changes_54 ?_
          refine va_getN (D := D) (ci := 8) (v := .ref (xa 8)) (C := RX8) (T := TX8) (N := 5) hx hb hts hin_8 hown hK hP 1 rfl rfl 3 (by decide) (nw_fuse hN 34 rfl) (fun _ h9 => h9) rfl dX9_changes_57 ?_
          refine lv_iload_n hx hb dX9_changes_60 rfl (lv_at hl 2 rfl) ?_
          refine jn_v (W2 := fun u_61 => wXo xa ++ wTrp (xa 4) (xa 5) (xa 6) (xa 7) (xa 8) (xa 9) (xa 10) cI tr ++ wHis (xa 18) (xa 19) (xa 20) (xa 21) cI u_61) (va_runV (As := [.ref (xa 8), .int d]) (rest := []) ⟨hx, hb, hml, hown, hts⟩ (c_X1_remember l D cI cJ cZ (xa 18) (xa 19) (xa 20) (xa 21) (xa 8) (xa 9) (xa 10) H.size hi tr.2.2.2.2 d (hhi) (htr.2.2)) (cwV 2 hts gX9_changes_X1_remember rfl rfl rfl (by decide +kernel) ⟨Nat.le_of_ble_eq_true rfl, Nat.le_of_ble_eq_true rfl⟩) (pr_V hP hD hK hN hE hS hA [8, 9, 10, 11, 5, 6, 7] (by decide) rfl (ci := 1) (q0 := 8) rfl rfl) rfl rfl hl.1 rfl (lv_room (Nat.le_of_ble_eq_true rfl)) dX9_changes_61 ⟨Nat.zero_le _, Nat.zero_le _⟩) hP hD hS hA [8, 9, 10, 11, 5, 6, 7] [0, 1, 2, 3, 4] [0, 1, 2, 3, 4, 9, 10, 11, 5, 6, 7, 8] rfl rfl (by decide) (by decide) (by decide) (fun _ => rfl) (fun u_61 H locs hw_61 hP hD hS => ?_)
          have hP : va_P D vwCl (wXo xa ++ wTrp (xa 4) (xa 5) (xa 6) (xa 7) (xa 8) (xa 9) (xa 10) cI tr ++ wHis (xa 18) (xa 19) (xa 20) (xa 21) cI u_61) H := hP
          have hD : va_D A (wXo xa ++ wTrp (xa 4) (xa 5) (xa 6) (xa 7) (xa 8) (xa 9) (xa 10) cI tr ++ wHis (xa 18) (xa 19) (xa 20) (xa 21) cI u_61) := hD
          have hu_61 := hw_61
          refine lv_aload_n hx hb dX9_changes_64 rfl (lv_at hl 1 rfl) ?_
          refine va_get (D := D) (ci := 9) (v := .ref (xa 4)) (C := RX9) (T := TX9) (N := 13) hx hb hts hin_9 hown hK hP 0 rfl rfl 2 (by decide) fl_26 (fun _ h9 => h9) rfl dX9_changes_65 ?_
          refine va_getN (D := D) (ci := 8) (v := .ref (xa 8)) (C := RX8) (T := TX8) (N := 5) hx hb hts hin_8 hown hK hP 1 rfl rfl 3 (by decide) (nw_fuse hN 34 rfl) (fun _ h9 => h9) rfl dX9_changes_68 ?_
          refine lv_iload_n hx hb dX9_changes_71 rfl (lv_at hl 2 rfl) ?_
          refine lv_iload_n hx hb dX9_changes_72 rfl (lv_at hl 3 rfl) ?_
          refine lv_iload_n hx hb dX9_changes_73 rfl (lv_at hl 4 rfl) ?_
          refine jn_v (W2 := fun u_74 => wXo xa ++ wTrp (xa 4) (xa 5) (xa 6) (xa 7) (xa 8) (xa 9) (xa 10) cI (tr.1, tr.2.1, tr.2.2.1, tr.2.2.2.1, u_74) ++ wHis (xa 18) (xa 19) (xa 20) (xa 21) cI u_61) (va_runV (As := [.int d, .int b, .int g]) (rest := []) ⟨hx, hb, hml, hown, hts⟩ (c_X5_replace l D cI cJ cZ (xa 8) (xa 9) (xa 10) H.size tr.2.2.2.2 d b g (htr.2.2)) (cwV 3 hts gX9_changes_X5_replace rfl rfl rfl (by decide +kernel) ⟨Nat.le_of_ble_eq_true rfl, Nat.le_of_ble_eq_true rfl⟩) (pr_V hP hD hK hN hE hS hA [5, 6, 7] (by decide) rfl (ci := 5) (q0 := 5) rfl rfl) rfl rfl hl.1 rfl (lv_room (Nat.le_of_ble_eq_true rfl)) dX9_changes_74 ⟨Nat.zero_le _, Nat.zero_le _⟩) hP hD hS hA [5, 6, 7] [0, 1, 2, 3, 4, 8, 9, 10, 11] [0, 1, 2, 3, 4, 9, 10, 11, 5, 6, 7, 8] rfl rfl (by decide) (by decide) (by decide) (fun _ => rfl) (fun u_74 H locs hw_74 hP hD hS => ?_)
          have hP : va_P D vwCl (wXo xa ++ wTrp (xa 4) (xa 5) (xa 6) (xa 7) (xa 8) (xa 9) (xa 10) cI (tr.1, tr.2.1, tr.2.2.1, tr.2.2.2.1, u_74) ++ wHis (xa 18) (xa 19) (xa 20) (xa 21) cI u_61) H := hP
          have hD : va_D A (wXo xa ++ wTrp (xa 4) (xa 5) (xa 6) (xa 7) (xa 8) (xa 9) (xa 10) cI (tr.1, tr.2.1, tr.2.2.1, tr.2.2.2.1, u_74) ++ wHis (xa 18) (xa 19) (xa 20) (xa 21) cI u_61) := hD
          have hu_74 := hw_74
          refine lv_iload hx hb dX9_changes_77 (lv_at hl 0 rfl) ?_
          exact lf_i hx hb hr hlocks hQ ((tr.1, tr.2.1, tr.2.2.1, tr.2.2.2.1, u_74), u_61) hP hD hS dX9_changes_79 ⟨(by first | with_reducible rfl | (simp only [xCh, xChT, xChH, xChCk, tpSt, b_5, b_12, if_neg c_35, if_neg c_43, ← hu_74, ← hu_61, ← hr_26, ← hr_9, ← hr_2, ↓reduceIte, bI_t, bI_f, reduceCtorEq]; done) | (subst_vars; simp only [xCh, xChT, xChH, xChCk, tpSt, b_5, b_12, if_neg c_35, if_neg c_43, ↓reduceIte, bI_t, bI_f, reduceCtorEq]; done) | (simp [xCh, xChT, xChH, xChCk, tpSt, b_5, b_12, c_35, c_43, bI_t, bI_f]; done)), (by first | with_reducible rfl | (simp only [xCh, xChT, xChH, xChCk, tpSt, b_5, b_12, if_neg c_35, if_neg c_43, ← hu_74, ← hu_61, ← hr_26, ← hr_9, ← hr_2, ↓reduceIte, bI_t, bI_f, reduceCtorEq]; done) | (subst_vars; simp only [xCh, xChT, xChH, xChCk, tpSt, b_5, b_12, if_neg c_35, if_neg c_43, ↓reduceIte, bI_t, bI_f, reduceCtorEq]; done) | (simp [xCh, xChT, xChH, xChCk, tpSt, b_5, b_12, c_35, c_43, bI_t, bI_f]; done)), (by first | with_reducible rfl | (simp only [xCh, xChT, xChH, xChCk, tpSt, b_5, b_12, if_neg c_35, if_neg c_43, ← hu_74, ← hu_61, ← hr_26, ← hr_9, ← hr_2, ↓reduceIte, bI_t, bI_f, reduceCtorEq]; done) | (subst_vars; simp only [xCh, xChT, xChH, xChCk, tpSt, b_5, b_12, if_neg c_35, if_neg c_43, ↓reduceIte, bI_t, bI_f, reduceCtorEq]; done) | (simp [xCh, xChT, xChH, xChCk, tpSt, b_5, b_12, c_35, c_43, bI_t, bI_f]; done))⟩
        · have i_43 := i_eq c_43
          refine lv_bipush (v := (-2)) hx hb dX9_changes_46 (by decide) ?_
          exact lf_i hx hb hr hlocks hQ (tr, hi) hP hD hS dX9_changes_48 ⟨(by first | with_reducible rfl | (simp only [xCh, xChT, xChH, xChCk, tpSt, b_5, b_12, if_neg c_35, if_pos c_43, ← hr_26, ← hr_9, ← hr_2, ↓reduceIte, bI_t, bI_f, reduceCtorEq]; done) | (subst_vars; simp only [xCh, xChT, xChH, xChCk, tpSt, b_5, b_12, if_neg c_35, if_pos c_43, ↓reduceIte, bI_t, bI_f, reduceCtorEq]; done) | (simp [xCh, xChT, xChH, xChCk, tpSt, b_5, b_12, c_35, c_43, bI_t, bI_f]; done)), (by first | with_reducible rfl | (simp only [xCh, xChT, xChH, xChCk, tpSt, b_5, b_12, if_neg c_35, if_pos c_43, ← hr_26, ← hr_9, ← hr_2, ↓reduceIte, bI_t, bI_f, reduceCtorEq]; done) | (subst_vars; simp only [xCh, xChT, xChH, xChCk, tpSt, b_5, b_12, if_neg c_35, if_pos c_43, ↓reduceIte, bI_t, bI_f, reduceCtorEq]; done) | (simp [xCh, xChT, xChH, xChCk, tpSt, b_5, b_12, c_35, c_43, bI_t, bI_f]; done)), (by first | with_reducible rfl | (simp only [xCh, xChT, xChH, xChCk, tpSt, b_5, b_12, if_neg c_35, if_pos c_43, ← hr_26, ← hr_9, ← hr_2, ↓reduceIte, bI_t, bI_f, reduceCtorEq]; done) | (subst_vars; simp only [xCh, xChT, xChH, xChCk, tpSt, b_5, b_12, if_neg c_35, if_pos c_43, ↓reduceIte, bI_t, bI_f, reduceCtorEq]; done) | (simp [xCh, xChT, xChH, xChCk, tpSt, b_5, b_12, c_35, c_43, bI_t, bI_f]; done))⟩
      · have i_35 := i_eq c_35
        rw [(by decide : (-9 : Int32).toInt = -9)] at i_35
        refine lv_iconst (v := (-1)) hx hb dX9_changes_38 (by decide) ?_
        exact lf_i hx hb hr hlocks hQ (tr, hi) hP hD hS dX9_changes_39 ⟨(by first | with_reducible rfl | (simp only [xCh, xChT, xChH, xChCk, tpSt, b_5, b_12, if_pos c_35, ← hr_26, ← hr_9, ← hr_2, ↓reduceIte, bI_t, bI_f, reduceCtorEq]; done) | (subst_vars; simp only [xCh, xChT, xChH, xChCk, tpSt, b_5, b_12, if_pos c_35, ↓reduceIte, bI_t, bI_f, reduceCtorEq]; done) | (simp [xCh, xChT, xChH, xChCk, tpSt, b_5, b_12, c_35, bI_t, bI_f]; done)), (by first | with_reducible rfl | (simp only [xCh, xChT, xChH, xChCk, tpSt, b_5, b_12, if_pos c_35, ← hr_26, ← hr_9, ← hr_2, ↓reduceIte, bI_t, bI_f, reduceCtorEq]; done) | (subst_vars; simp only [xCh, xChT, xChH, xChCk, tpSt, b_5, b_12, if_pos c_35, ↓reduceIte, bI_t, bI_f, reduceCtorEq]; done) | (simp [xCh, xChT, xChH, xChCk, tpSt, b_5, b_12, c_35, bI_t, bI_f]; done)), (by first | with_reducible rfl | (simp only [xCh, xChT, xChH, xChCk, tpSt, b_5, b_12, if_pos c_35, ← hr_26, ← hr_9, ← hr_2, ↓reduceIte, bI_t, bI_f, reduceCtorEq]; done) | (subst_vars; simp only [xCh, xChT, xChH, xChCk, tpSt, b_5, b_12, if_pos c_35, ↓reduceIte, bI_t, bI_f, reduceCtorEq]; done) | (simp [xCh, xChT, xChH, xChCk, tpSt, b_5, b_12, c_35, bI_t, bI_f]; done))⟩
    · have b_12 : (isSgn g) = false := bI_0 (hr_9.symm.trans c_12)
      refine lv_iconst (v := (-1)) hx hb dX9_changes_15 (by decide) ?_
      exact lf_i hx hb hr hlocks hQ (tr, hi) hP hD hS dX9_changes_16 ⟨(by first | with_reducible rfl | (simp only [xCh, xChT, xChH, xChCk, tpSt, b_5, b_12, ← hr_9, ← hr_2, ↓reduceIte, bI_t, bI_f, reduceCtorEq]; done) | (subst_vars; simp only [xCh, xChT, xChH, xChCk, tpSt, b_5, b_12, ↓reduceIte, bI_t, bI_f, reduceCtorEq]; done) | (simp [xCh, xChT, xChH, xChCk, tpSt, b_5, b_12, bI_t, bI_f]; done)), (by first | with_reducible rfl | (simp only [xCh, xChT, xChH, xChCk, tpSt, b_5, b_12, ← hr_9, ← hr_2, ↓reduceIte, bI_t, bI_f, reduceCtorEq]; done) | (subst_vars; simp only [xCh, xChT, xChH, xChCk, tpSt, b_5, b_12, ↓reduceIte, bI_t, bI_f, reduceCtorEq]; done) | (simp [xCh, xChT, xChH, xChCk, tpSt, b_5, b_12, bI_t, bI_f]; done)), (by first | with_reducible rfl | (simp only [xCh, xChT, xChH, xChCk, tpSt, b_5, b_12, ← hr_9, ← hr_2, ↓reduceIte, bI_t, bI_f, reduceCtorEq]; done) | (subst_vars; simp only [xCh, xChT, xChH, xChCk, tpSt, b_5, b_12, ↓reduceIte, bI_t, bI_f, reduceCtorEq]; done) | (simp [xCh, xChT, xChH, xChCk, tpSt, b_5, b_12, bI_t, bI_f]; done))⟩
abbrev rm_X9_adds : Room := { frames := 4, cells := 0, slots := 0, locals := 88 }
set_option maxHeartbeats 4000000 in
set_option maxRecDepth 100000 in
theorem c_X9_adds (l : Launch) (D : va_G) (cI cJ cZ : ClassId) (xa : Nat → Nat) (sz : Nat) (tr : Trp) (hi : His) (d : Int32) (g : Int32) (htr : TrpOk tr) (hhi : HisOk hi) : Met l yX9_adds wsX9_adds rm_X9_adds (va_Pc [.ref (xa 0), .int d, .int g] (PU D (tyL cI cJ cZ) (wXo xa ++ wTrp (xa 4) (xa 5) (xa 6) (xa 7) (xa 8) (xa 9) (xa 10) cI tr ++ wHis (xa 18) (xa 19) (xa 20) (xa 21) cI hi) sz)) (va_Qi (fun (rz : Int32) (uz : Trp × His) => rz = xAd tr d g ∧ uz.1 = xAdT tr d g ∧ uz.2 = xAdH tr hi d g) (fun uz => BU D (wXo xa ++ wTrp (xa 4) (xa 5) (xa 6) (xa 7) (xa 8) (xa 9) (xa 10) cI uz.1 ++ wHis (xa 18) (xa 19) (xa 20) (xa 21) cI uz.2) (va_A (wXo xa ++ wTrp (xa 4) (xa 5) (xa 6) (xa 7) (xa 8) (xa 9) (xa 10) cI tr ++ wHis (xa 18) (xa 19) (xa 20) (xa 21) cI hi) sz)) (va_A (wXo xa ++ wTrp (xa 4) (xa 5) (xa 6) (xa 7) (xa 8) (xa 9) (xa 10) cI tr ++ wHis (xa 18) (xa 19) (xa 20) (xa 21) cI hi) sz)) 0 0 (va_A (wXo xa ++ wTrp (xa 4) (xa 5) (xa 6) (xa 7) (xa 8) (xa 9) (xa 10) cI tr ++ wHis (xa 18) (xa 19) (xa 20) (xa 21) cI hi) sz) := by
  refine en (own := RX9) (Qc := fun A => va_Qi (fun (rz : Int32) (uz : Trp × His) => rz = xAd tr d g ∧ uz.1 = xAdT tr d g ∧ uz.2 = xAdH tr hi d g) (fun uz => BU D (wXo xa ++ wTrp (xa 4) (xa 5) (xa 6) (xa 7) (xa 8) (xa 9) (xa 10) cI uz.1 ++ wHis (xa 18) (xa 19) (xa 20) (xa 21) cI uz.2) A) A) (by decide) rfl (Nat.le_of_ble_eq_true rfl) rfl ?_
  intro p e s m args below meth c A Q H locs ls hx hb hr hml hown hts hlocks hname hA hN hE hK hQ hP hD hS hl
  have hl : lv_has ls 3 [(0, .ref (xa 0)), (1, .int d), (2, .int g)] := hl
  have fl_26 := hts (.fieldLink RX9 26 "DanceStaffs" "troupe" "LDanceStaffs$Troupe;") (by decide +kernel)
  have hin_9 : ∀ w ∈ u_ws RX9 TX9 13, w ∈ wsX9_adds := by decide +kernel
  have hin_8 : ∀ w ∈ u_ws RX8 TX8 5, w ∈ wsX9_adds := by decide +kernel
  have fl_36 := hts (.fieldLink RX9 36 "DanceStaffs" "history" "LDanceStaffs$History;") (by decide +kernel)
  refine lv_aload_n hx hb dX9_adds_0 rfl (lv_at hl 0 rfl) ?_
  refine lv_iload_n hx hb dX9_adds_1 rfl (lv_at hl 1 rfl) ?_
  refine jn_i (W2 := fun _ => wXo xa ++ wTrp (xa 4) (xa 5) (xa 6) (xa 7) (xa 8) (xa 9) (xa 10) cI tr ++ wHis (xa 18) (xa 19) (xa 20) (xa 21) cI hi) (va_runV (As := [.int d]) (rest := []) ⟨hx, hb, hml, hown, hts⟩ (c_X9_isDancer l D cI cJ cZ xa H.size tr d) (cwV 1 hts gX9_adds_X9_isDancer rfl rfl rfl (by decide +kernel) ⟨Nat.le_of_ble_eq_true rfl, Nat.le_of_ble_eq_true rfl⟩) (pr_V hP hD hK hN hE hS hA [0, 1, 2, 3, 4, 5, 6, 7] (by decide) rfl (ci := 9) (q0 := 0) rfl rfl) rfl rfl hl.1 rfl (lv_room (Nat.le_of_ble_eq_true rfl)) dX9_adds_2 ⟨Nat.zero_le _, Nat.zero_le _⟩) hP hD hS hA [0, 1, 2, 3, 4, 5, 6, 7] [8, 9, 10, 11] [4, 5, 6, 7, 8, 9, 10, 11, 0, 1, 2, 3] rfl rfl (by decide) (by decide) (by decide) (fun _ => rfl) (fun r_2 u_2 H locs hw_2 hP hD hS => ?_)
  have hP : va_P D vwCl (wXo xa ++ wTrp (xa 4) (xa 5) (xa 6) (xa 7) (xa 8) (xa 9) (xa 10) cI tr ++ wHis (xa 18) (xa 19) (xa 20) (xa 21) cI hi) H := hP
  have hD : va_D A (wXo xa ++ wTrp (xa 4) (xa 5) (xa 6) (xa 7) (xa 8) (xa 9) (xa 10) cI tr ++ wHis (xa 18) (xa 19) (xa 20) (xa 21) cI hi) := hD
  have hr_2 := hw_2
  refine lv_if_eq (tgt := 15) hx hb dX9_adds_5 (by decide) (fun c_5 => ?_) (fun c_5 => ?_)
  · have b_5 : (isDn tr d) = false := bI_0 (hr_2.symm.trans c_5)
    refine lv_iconst (v := (-1)) hx hb dX9_adds_15 (by decide) ?_
    exact lf_i hx hb hr hlocks hQ (tr, hi) hP hD hS dX9_adds_16 ⟨(by first | with_reducible rfl | (simp only [xAd, xAdT, xAdH, xAdCk, tpSt, b_5, ← hr_2, ↓reduceIte, bI_t, bI_f, reduceCtorEq]; done) | (subst_vars; simp only [xAd, xAdT, xAdH, xAdCk, tpSt, b_5, ↓reduceIte, bI_t, bI_f, reduceCtorEq]; done) | (simp [xAd, xAdT, xAdH, xAdCk, tpSt, b_5, bI_t, bI_f]; done)), (by first | with_reducible rfl | (simp only [xAd, xAdT, xAdH, xAdCk, tpSt, b_5, ← hr_2, ↓reduceIte, bI_t, bI_f, reduceCtorEq]; done) | (subst_vars; simp only [xAd, xAdT, xAdH, xAdCk, tpSt, b_5, ↓reduceIte, bI_t, bI_f, reduceCtorEq]; done) | (simp [xAd, xAdT, xAdH, xAdCk, tpSt, b_5, bI_t, bI_f]; done)), (by first | with_reducible rfl | (simp only [xAd, xAdT, xAdH, xAdCk, tpSt, b_5, ← hr_2, ↓reduceIte, bI_t, bI_f, reduceCtorEq]; done) | (subst_vars; simp only [xAd, xAdT, xAdH, xAdCk, tpSt, b_5, ↓reduceIte, bI_t, bI_f, reduceCtorEq]; done) | (simp [xAd, xAdT, xAdH, xAdCk, tpSt, b_5, bI_t, bI_f]; done))⟩
  · have b_5 : (isDn tr d) = true := bI_1 (fun q => c_5 (hr_2.trans q))
    refine lv_iload_n hx hb dX9_adds_8 rfl (lv_at hl 2 rfl) ?_
    refine st_i (va_runS (As := [.int g]) (rest := []) ⟨hx, hb, hml, hown, hts⟩ (c_X9_isSign l D cI cJ cZ H.size g) (va_cwS 1 hts gX9_adds_X9_isSign rfl rfl rfl (by decide +kernel) ⟨Nat.le_of_ble_eq_true rfl, Nat.le_of_ble_eq_true rfl⟩) (pr_S hP hD hK hN hE hS hA [] (by decide) rfl) rfl rfl hl.1 rfl (lv_room (Nat.le_of_ble_eq_true rfl)) dX9_adds_9 ⟨Nat.zero_le _, Nat.zero_le _⟩) hP hS hA (fun r_9 u_9 H locs hw_9 hP hS => ?_)
    have hr_9 := hw_9
    refine lv_if_ne (tgt := 17) hx hb dX9_adds_12 (by decide) (fun c_12 => ?_) (fun c_12 => ?_)
    · have b_12 : (isSgn g) = true := bI_1 (fun q => c_12 (hr_9.trans q))
      refine lv_aload_n hx hb dX9_adds_17 rfl (lv_at hl 0 rfl) ?_
      refine va_get (D := D) (ci := 9) (v := .ref (xa 4)) (C := RX9) (T := TX9) (N := 13) hx hb hts hin_9 hown hK hP 0 rfl rfl 2 (by decide) fl_26 (fun _ h9 => h9) rfl dX9_adds_18 ?_
      refine va_getN (D := D) (ci := 8) (v := .ref (xa 8)) (C := RX8) (T := TX8) (N := 5) hx hb hts hin_8 hown hK hP 1 rfl rfl 3 (by decide) (nw_fuse hN 34 rfl) (fun _ h9 => h9) rfl dX9_adds_21 ?_
      refine lv_iload_n hx hb dX9_adds_24 rfl (lv_at hl 1 rfl) ?_
      refine jn_i (W2 := fun _ => wXo xa ++ wTrp (xa 4) (xa 5) (xa 6) (xa 7) (xa 8) (xa 9) (xa 10) cI tr ++ wHis (xa 18) (xa 19) (xa 20) (xa 21) cI hi) (va_runV (As := [.int d]) (rest := []) ⟨hx, hb, hml, hown, hts⟩ (c_X5_lengthOf l D cI cJ cZ (xa 8) (xa 9) (xa 10) H.size tr.2.2.2.2 d) (cwV 1 hts gX9_adds_X5_lengthOf rfl rfl rfl (by decide +kernel) ⟨Nat.le_of_ble_eq_true rfl, Nat.le_of_ble_eq_true rfl⟩) (pr_V hP hD hK hN hE hS hA [5, 6, 7] (by decide) rfl (ci := 5) (q0 := 5) rfl rfl) rfl rfl hl.1 rfl (lv_room (Nat.le_of_ble_eq_true rfl)) dX9_adds_25 ⟨Nat.zero_le _, Nat.zero_le _⟩) hP hD hS hA [5, 6, 7] [0, 1, 2, 3, 4, 8, 9, 10, 11] [0, 1, 2, 3, 4, 9, 10, 11, 5, 6, 7, 8] rfl rfl (by decide) (by decide) (by decide) (fun _ => rfl) (fun r_25 u_25 H locs hw_25 hP hD hS => ?_)
      have hP : va_P D vwCl (wXo xa ++ wTrp (xa 4) (xa 5) (xa 6) (xa 7) (xa 8) (xa 9) (xa 10) cI tr ++ wHis (xa 18) (xa 19) (xa 20) (xa 21) cI hi) H := hP
      have hD : va_D A (wXo xa ++ wTrp (xa 4) (xa 5) (xa 6) (xa 7) (xa 8) (xa 9) (xa 10) cI tr ++ wHis (xa 18) (xa 19) (xa 20) (xa 21) cI hi) := hD
      have hr_25 := hw_25
      refine lv_bipush (v := 10) hx hb dX9_adds_28 (by decide) ?_
      refine lv_icmp_lt (tgt := 36) hx hb dX9_adds_30 (by decide) (fun c_30 => ?_) (fun c_30 => ?_)
      · have i_30 := i_lt c_30
        rw [(by decide : (10 : Int32).toInt = 10)] at i_30
        refine lv_aload_n hx hb dX9_adds_36 rfl (lv_at hl 0 rfl) ?_
        refine va_get (D := D) (ci := 9) (v := .ref (xa 18)) (C := RX9) (T := TX9) (N := 13) hx hb hts hin_9 hown hK hP 0 rfl rfl 4 (by decide) fl_36 (fun _ h9 => h9) rfl dX9_adds_37 ?_
        refine lv_aload_n hx hb dX9_adds_40 rfl (lv_at hl 0 rfl) ?_
        refine va_get (D := D) (ci := 9) (v := .ref (xa 4)) (C := RX9) (T := TX9) (N := 13) hx hb hts hin_9 hown hK hP 0 rfl rfl 2 (by decide) fl_26 (fun _ h9 => h9) rfl dX9_adds_41 ?_
        refine va_getN (D := D) (ci := 8) (v := .ref (xa 8)) (C := RX8) (T := TX8) (N := 5) hx hb hts hin_8 hown hK hP 1 rfl rfl 3 (by decide) (nw_fuse hN 34 rfl) (fun _ h9 => h9) rfl dX9_adds_44 ?_
        refine lv_iload_n hx hb dX9_adds_47 rfl (lv_at hl 1 rfl) ?_
        refine jn_v (W2 := fun u_48 => wXo xa ++ wTrp (xa 4) (xa 5) (xa 6) (xa 7) (xa 8) (xa 9) (xa 10) cI tr ++ wHis (xa 18) (xa 19) (xa 20) (xa 21) cI u_48) (va_runV (As := [.ref (xa 8), .int d]) (rest := []) ⟨hx, hb, hml, hown, hts⟩ (c_X1_remember l D cI cJ cZ (xa 18) (xa 19) (xa 20) (xa 21) (xa 8) (xa 9) (xa 10) H.size hi tr.2.2.2.2 d (hhi) (htr.2.2)) (cwV 2 hts gX9_adds_X1_remember rfl rfl rfl (by decide +kernel) ⟨Nat.le_of_ble_eq_true rfl, Nat.le_of_ble_eq_true rfl⟩) (pr_V hP hD hK hN hE hS hA [8, 9, 10, 11, 5, 6, 7] (by decide) rfl (ci := 1) (q0 := 8) rfl rfl) rfl rfl hl.1 rfl (lv_room (Nat.le_of_ble_eq_true rfl)) dX9_adds_48 ⟨Nat.zero_le _, Nat.zero_le _⟩) hP hD hS hA [8, 9, 10, 11, 5, 6, 7] [0, 1, 2, 3, 4] [0, 1, 2, 3, 4, 9, 10, 11, 5, 6, 7, 8] rfl rfl (by decide) (by decide) (by decide) (fun _ => rfl) (fun u_48 H locs hw_48 hP hD hS => ?_)
        have hP : va_P D vwCl (wXo xa ++ wTrp (xa 4) (xa 5) (xa 6) (xa 7) (xa 8) (xa 9) (xa 10) cI tr ++ wHis (xa 18) (xa 19) (xa 20) (xa 21) cI u_48) H := hP
        have hD : va_D A (wXo xa ++ wTrp (xa 4) (xa 5) (xa 6) (xa 7) (xa 8) (xa 9) (xa 10) cI tr ++ wHis (xa 18) (xa 19) (xa 20) (xa 21) cI u_48) := hD
        have hu_48 := hw_48
        refine lv_aload_n hx hb dX9_adds_51 rfl (lv_at hl 0 rfl) ?_
        refine va_get (D := D) (ci := 9) (v := .ref (xa 4)) (C := RX9) (T := TX9) (N := 13) hx hb hts hin_9 hown hK hP 0 rfl rfl 2 (by decide) fl_26 (fun _ h9 => h9) rfl dX9_adds_52 ?_
        refine va_getN (D := D) (ci := 8) (v := .ref (xa 8)) (C := RX8) (T := TX8) (N := 5) hx hb hts hin_8 hown hK hP 1 rfl rfl 3 (by decide) (nw_fuse hN 34 rfl) (fun _ h9 => h9) rfl dX9_adds_55 ?_
        refine lv_iload_n hx hb dX9_adds_58 rfl (lv_at hl 1 rfl) ?_
        refine lv_iload_n hx hb dX9_adds_59 rfl (lv_at hl 2 rfl) ?_
        refine jn_v (W2 := fun u_60 => wXo xa ++ wTrp (xa 4) (xa 5) (xa 6) (xa 7) (xa 8) (xa 9) (xa 10) cI (tr.1, tr.2.1, tr.2.2.1, tr.2.2.2.1, u_60) ++ wHis (xa 18) (xa 19) (xa 20) (xa 21) cI u_48) (va_runV (As := [.int d, .int g]) (rest := []) ⟨hx, hb, hml, hown, hts⟩ (c_X5_append l D cI cJ cZ (xa 8) (xa 9) (xa 10) H.size tr.2.2.2.2 d g (htr.2.2)) (cwV 2 hts gX9_adds_X5_append rfl rfl rfl (by decide +kernel) ⟨Nat.le_of_ble_eq_true rfl, Nat.le_of_ble_eq_true rfl⟩) (pr_V hP hD hK hN hE hS hA [5, 6, 7] (by decide) rfl (ci := 5) (q0 := 5) rfl rfl) rfl rfl hl.1 rfl (lv_room (Nat.le_of_ble_eq_true rfl)) dX9_adds_60 ⟨Nat.zero_le _, Nat.zero_le _⟩) hP hD hS hA [5, 6, 7] [0, 1, 2, 3, 4, 8, 9, 10, 11] [0, 1, 2, 3, 4, 9, 10, 11, 5, 6, 7, 8] rfl rfl (by decide) (by decide) (by decide) (fun _ => rfl) (fun u_60 H locs hw_60 hP hD hS => ?_)
        have hP : va_P D vwCl (wXo xa ++ wTrp (xa 4) (xa 5) (xa 6) (xa 7) (xa 8) (xa 9) (xa 10) cI (tr.1, tr.2.1, tr.2.2.1, tr.2.2.2.1, u_60) ++ wHis (xa 18) (xa 19) (xa 20) (xa 21) cI u_48) H := hP
        have hD : va_D A (wXo xa ++ wTrp (xa 4) (xa 5) (xa 6) (xa 7) (xa 8) (xa 9) (xa 10) cI (tr.1, tr.2.1, tr.2.2.1, tr.2.2.2.1, u_60) ++ wHis (xa 18) (xa 19) (xa 20) (xa 21) cI u_48) := hD
        have hu_60 := hw_60
        refine lv_aload_n hx hb dX9_adds_63 rfl (lv_at hl 0 rfl) ?_
        refine va_get (D := D) (ci := 9) (v := .ref (xa 4)) (C := RX9) (T := TX9) (N := 13) hx hb hts hin_9 hown hK hP 0 rfl rfl 2 (by decide) fl_26 (fun _ h9 => h9) rfl dX9_adds_64 ?_
        refine va_getN (D := D) (ci := 8) (v := .ref (xa 8)) (C := RX8) (T := TX8) (N := 5) hx hb hts hin_8 hown hK hP 1 rfl rfl 3 (by decide) (nw_fuse hN 34 rfl) (fun _ h9 => h9) rfl dX9_adds_67 ?_
        refine lv_iload_n hx hb dX9_adds_70 rfl (lv_at hl 1 rfl) ?_
        refine jn_i (W2 := fun _ => wXo xa ++ wTrp (xa 4) (xa 5) (xa 6) (xa 7) (xa 8) (xa 9) (xa 10) cI (tr.1, tr.2.1, tr.2.2.1, tr.2.2.2.1, u_60) ++ wHis (xa 18) (xa 19) (xa 20) (xa 21) cI u_48) (va_runV (As := [.int d]) (rest := []) ⟨hx, hb, hml, hown, hts⟩ (c_X5_lengthOf l D cI cJ cZ (xa 8) (xa 9) (xa 10) H.size u_60 d) (cwV 1 hts gX9_adds_X5_lengthOf rfl rfl rfl (by decide +kernel) ⟨Nat.le_of_ble_eq_true rfl, Nat.le_of_ble_eq_true rfl⟩) (pr_V hP hD hK hN hE hS hA [5, 6, 7] (by decide) rfl (ci := 5) (q0 := 5) rfl rfl) rfl rfl hl.1 rfl (lv_room (Nat.le_of_ble_eq_true rfl)) dX9_adds_71 ⟨Nat.zero_le _, Nat.zero_le _⟩) hP hD hS hA [5, 6, 7] [0, 1, 2, 3, 4, 8, 9, 10, 11] [0, 1, 2, 3, 4, 9, 10, 11, 5, 6, 7, 8] rfl rfl (by decide) (by decide) (by decide) (fun _ => rfl) (fun r_71 u_71 H locs hw_71 hP hD hS => ?_)
        have hP : va_P D vwCl (wXo xa ++ wTrp (xa 4) (xa 5) (xa 6) (xa 7) (xa 8) (xa 9) (xa 10) cI (tr.1, tr.2.1, tr.2.2.1, tr.2.2.2.1, u_60) ++ wHis (xa 18) (xa 19) (xa 20) (xa 21) cI u_48) H := hP
        have hD : va_D A (wXo xa ++ wTrp (xa 4) (xa 5) (xa 6) (xa 7) (xa 8) (xa 9) (xa 10) cI (tr.1, tr.2.1, tr.2.2.1, tr.2.2.2.1, u_60) ++ wHis (xa 18) (xa 19) (xa 20) (xa 21) cI u_48) := hD
        have hr_71 := hw_71
        exact lf_i hx hb hr hlocks hQ ((tr.1, tr.2.1, tr.2.2.1, tr.2.2.2.1, u_60), u_48) hP hD hS dX9_adds_74 ⟨(by first | with_reducible rfl | (simp only [xAd, xAdT, xAdH, xAdCk, tpSt, b_5, b_12, if_pos c_30, ← hr_71, ← hu_60, ← hu_48, ← hr_25, ← hr_9, ← hr_2, ↓reduceIte, bI_t, bI_f, reduceCtorEq]; done) | (subst_vars; simp only [xAd, xAdT, xAdH, xAdCk, tpSt, b_5, b_12, if_pos c_30, ↓reduceIte, bI_t, bI_f, reduceCtorEq]; done) | (simp [xAd, xAdT, xAdH, xAdCk, tpSt, b_5, b_12, c_30, bI_t, bI_f]; done)), (by first | with_reducible rfl | (simp only [xAd, xAdT, xAdH, xAdCk, tpSt, b_5, b_12, if_pos c_30, ← hr_71, ← hu_60, ← hu_48, ← hr_25, ← hr_9, ← hr_2, ↓reduceIte, bI_t, bI_f, reduceCtorEq]; done) | (subst_vars; simp only [xAd, xAdT, xAdH, xAdCk, tpSt, b_5, b_12, if_pos c_30, ↓reduceIte, bI_t, bI_f, reduceCtorEq]; done) | (simp [xAd, xAdT, xAdH, xAdCk, tpSt, b_5, b_12, c_30, bI_t, bI_f]; done)), (by first | with_reducible rfl | (simp only [xAd, xAdT, xAdH, xAdCk, tpSt, b_5, b_12, if_pos c_30, ← hr_71, ← hu_60, ← hu_48, ← hr_25, ← hr_9, ← hr_2, ↓reduceIte, bI_t, bI_f, reduceCtorEq]; done) | (subst_vars; simp only [xAd, xAdT, xAdH, xAdCk, tpSt, b_5, b_12, if_pos c_30, ↓reduceIte, bI_t, bI_f, reduceCtorEq]; done) | (simp [xAd, xAdT, xAdH, xAdCk, tpSt, b_5, b_12, c_30, bI_t, bI_f]; done))⟩
      · have i_30 := i_nlt c_30
        rw [(by decide : (10 : Int32).toInt = 10)] at i_30
        refine lv_bipush (v := (-3)) hx hb dX9_adds_33 (by decide) ?_
        exact lf_i hx hb hr hlocks hQ (tr, hi) hP hD hS dX9_adds_35 ⟨(by first | with_reducible rfl | (simp only [xAd, xAdT, xAdH, xAdCk, tpSt, b_5, b_12, if_neg c_30, ← hr_25, ← hr_9, ← hr_2, ↓reduceIte, bI_t, bI_f, reduceCtorEq]; done) | (subst_vars; simp only [xAd, xAdT, xAdH, xAdCk, tpSt, b_5, b_12, if_neg c_30, ↓reduceIte, bI_t, bI_f, reduceCtorEq]; done) | (simp [xAd, xAdT, xAdH, xAdCk, tpSt, b_5, b_12, c_30, bI_t, bI_f]; done)), (by first | with_reducible rfl | (simp only [xAd, xAdT, xAdH, xAdCk, tpSt, b_5, b_12, if_neg c_30, ← hr_25, ← hr_9, ← hr_2, ↓reduceIte, bI_t, bI_f, reduceCtorEq]; done) | (subst_vars; simp only [xAd, xAdT, xAdH, xAdCk, tpSt, b_5, b_12, if_neg c_30, ↓reduceIte, bI_t, bI_f, reduceCtorEq]; done) | (simp [xAd, xAdT, xAdH, xAdCk, tpSt, b_5, b_12, c_30, bI_t, bI_f]; done)), (by first | with_reducible rfl | (simp only [xAd, xAdT, xAdH, xAdCk, tpSt, b_5, b_12, if_neg c_30, ← hr_25, ← hr_9, ← hr_2, ↓reduceIte, bI_t, bI_f, reduceCtorEq]; done) | (subst_vars; simp only [xAd, xAdT, xAdH, xAdCk, tpSt, b_5, b_12, if_neg c_30, ↓reduceIte, bI_t, bI_f, reduceCtorEq]; done) | (simp [xAd, xAdT, xAdH, xAdCk, tpSt, b_5, b_12, c_30, bI_t, bI_f]; done))⟩
    · have b_12 : (isSgn g) = false := bI_0 (hr_9.symm.trans c_12)
      refine lv_iconst (v := (-1)) hx hb dX9_adds_15 (by decide) ?_
      exact lf_i hx hb hr hlocks hQ (tr, hi) hP hD hS dX9_adds_16 ⟨(by first | with_reducible rfl | (simp only [xAd, xAdT, xAdH, xAdCk, tpSt, b_5, b_12, ← hr_9, ← hr_2, ↓reduceIte, bI_t, bI_f, reduceCtorEq]; done) | (subst_vars; simp only [xAd, xAdT, xAdH, xAdCk, tpSt, b_5, b_12, ↓reduceIte, bI_t, bI_f, reduceCtorEq]; done) | (simp [xAd, xAdT, xAdH, xAdCk, tpSt, b_5, b_12, bI_t, bI_f]; done)), (by first | with_reducible rfl | (simp only [xAd, xAdT, xAdH, xAdCk, tpSt, b_5, b_12, ← hr_9, ← hr_2, ↓reduceIte, bI_t, bI_f, reduceCtorEq]; done) | (subst_vars; simp only [xAd, xAdT, xAdH, xAdCk, tpSt, b_5, b_12, ↓reduceIte, bI_t, bI_f, reduceCtorEq]; done) | (simp [xAd, xAdT, xAdH, xAdCk, tpSt, b_5, b_12, bI_t, bI_f]; done)), (by first | with_reducible rfl | (simp only [xAd, xAdT, xAdH, xAdCk, tpSt, b_5, b_12, ← hr_9, ← hr_2, ↓reduceIte, bI_t, bI_f, reduceCtorEq]; done) | (subst_vars; simp only [xAd, xAdT, xAdH, xAdCk, tpSt, b_5, b_12, ↓reduceIte, bI_t, bI_f, reduceCtorEq]; done) | (simp [xAd, xAdT, xAdH, xAdCk, tpSt, b_5, b_12, bI_t, bI_f]; done))⟩
abbrev rm_X9_undo : Room := { frames := 4, cells := 0, slots := 0, locals := 89 }
set_option maxHeartbeats 4000000 in
set_option maxRecDepth 100000 in
theorem c_X9_undo (l : Launch) (D : va_G) (cI cJ cZ : ClassId) (xa : Nat → Nat) (sz : Nat) (tr : Trp) (hi : His) (htr : TrpOk tr) (hhi : HisOk hi) : Met l yX9_undo wsX9_undo rm_X9_undo (va_Pc [.ref (xa 0)] (PU D (tyL cI cJ cZ) (wXo xa ++ wTrp (xa 4) (xa 5) (xa 6) (xa 7) (xa 8) (xa 9) (xa 10) cI tr ++ wHis (xa 18) (xa 19) (xa 20) (xa 21) cI hi) sz)) (va_Qi (fun (rz : Int32) (uz : Trp × His) => rz = xUn hi ∧ uz.1 = xUnT tr hi ∧ uz.2 = hPopd hi) (fun uz => BU D (wXo xa ++ wTrp (xa 4) (xa 5) (xa 6) (xa 7) (xa 8) (xa 9) (xa 10) cI uz.1 ++ wHis (xa 18) (xa 19) (xa 20) (xa 21) cI uz.2) (va_A (wXo xa ++ wTrp (xa 4) (xa 5) (xa 6) (xa 7) (xa 8) (xa 9) (xa 10) cI tr ++ wHis (xa 18) (xa 19) (xa 20) (xa 21) cI hi) sz)) (va_A (wXo xa ++ wTrp (xa 4) (xa 5) (xa 6) (xa 7) (xa 8) (xa 9) (xa 10) cI tr ++ wHis (xa 18) (xa 19) (xa 20) (xa 21) cI hi) sz)) 0 0 (va_A (wXo xa ++ wTrp (xa 4) (xa 5) (xa 6) (xa 7) (xa 8) (xa 9) (xa 10) cI tr ++ wHis (xa 18) (xa 19) (xa 20) (xa 21) cI hi) sz) := by
  refine en (own := RX9) (Qc := fun A => va_Qi (fun (rz : Int32) (uz : Trp × His) => rz = xUn hi ∧ uz.1 = xUnT tr hi ∧ uz.2 = hPopd hi) (fun uz => BU D (wXo xa ++ wTrp (xa 4) (xa 5) (xa 6) (xa 7) (xa 8) (xa 9) (xa 10) cI uz.1 ++ wHis (xa 18) (xa 19) (xa 20) (xa 21) cI uz.2) A) A) (by decide) rfl (Nat.le_of_ble_eq_true rfl) rfl ?_
  intro p e s m args below meth c A Q H locs ls hx hb hr hml hown hts hlocks hname hA hN hE hK hQ hP hD hS hl
  have hl : lv_has ls 1 [(0, .ref (xa 0))] := hl
  have fl_36 := hts (.fieldLink RX9 36 "DanceStaffs" "history" "LDanceStaffs$History;") (by decide +kernel)
  have hin_9 : ∀ w ∈ u_ws RX9 TX9 13, w ∈ wsX9_undo := by decide +kernel
  have hin_1 : ∀ w ∈ u_ws RX1 TX1 5, w ∈ wsX9_undo := by decide +kernel
  have fl_26 := hts (.fieldLink RX9 26 "DanceStaffs" "troupe" "LDanceStaffs$Troupe;") (by decide +kernel)
  have hin_8 : ∀ w ∈ u_ws RX8 TX8 5, w ∈ wsX9_undo := by decide +kernel
  refine lv_aload_n hx hb dX9_undo_0 rfl (lv_at hl 0 rfl) ?_
  refine va_get (D := D) (ci := 9) (v := .ref (xa 18)) (C := RX9) (T := TX9) (N := 13) hx hb hts hin_9 hown hK hP 0 rfl rfl 4 (by decide) fl_36 (fun _ h9 => h9) rfl dX9_undo_1 ?_
  refine va_getN (D := D) (ci := 1) (v := .int hi.2.2.2.2) (C := RX1) (T := TX1) (N := 5) hx hb hts hin_1 hown hK hP 8 rfl rfl 4 (by decide) (nw_fuse hN 28 rfl) (fun _ h9 => h9) rfl dX9_undo_4 ?_
  refine lv_if_ne (tgt := 13) hx hb dX9_undo_7 (by decide) (fun c_7 => ?_) (fun c_7 => ?_)
  · have i_7 := i_ne c_7
    rw [(by decide : (0 : Int32).toInt = 0)] at i_7
    refine lv_aload_n hx hb dX9_undo_13 rfl (lv_at hl 0 rfl) ?_
    refine va_get (D := D) (ci := 9) (v := .ref (xa 18)) (C := RX9) (T := TX9) (N := 13) hx hb hts hin_9 hown hK hP 0 rfl rfl 4 (by decide) fl_36 (fun _ h9 => h9) rfl dX9_undo_14 ?_
    refine lv_aload_n hx hb dX9_undo_17 rfl (lv_at hl 0 rfl) ?_
    refine va_get (D := D) (ci := 9) (v := .ref (xa 4)) (C := RX9) (T := TX9) (N := 13) hx hb hts hin_9 hown hK hP 0 rfl rfl 2 (by decide) fl_26 (fun _ h9 => h9) rfl dX9_undo_18 ?_
    refine va_getN (D := D) (ci := 8) (v := .ref (xa 8)) (C := RX8) (T := TX8) (N := 5) hx hb hts hin_8 hown hK hP 1 rfl rfl 3 (by decide) (nw_fuse hN 34 rfl) (fun _ h9 => h9) rfl dX9_undo_21 ?_
    refine jn_v (W2 := fun u_24 => wXo xa ++ wTrp (xa 4) (xa 5) (xa 6) (xa 7) (xa 8) (xa 9) (xa 10) cI (tr.1, tr.2.1, tr.2.2.1, tr.2.2.2.1, u_24.2) ++ wHis (xa 18) (xa 19) (xa 20) (xa 21) cI u_24.1) (va_runV (As := [.ref (xa 8)]) (rest := []) ⟨hx, hb, hml, hown, hts⟩ (c_X1_revert l D cI cJ cZ (xa 18) (xa 19) (xa 20) (xa 21) (xa 8) (xa 9) (xa 10) H.size hi tr.2.2.2.2 (hhi) (htr.2.2)) (cwV 1 hts gX9_undo_X1_revert rfl rfl rfl (by decide +kernel) ⟨Nat.le_of_ble_eq_true rfl, Nat.le_of_ble_eq_true rfl⟩) (pr_V hP hD hK hN hE hS hA [8, 9, 10, 11, 5, 6, 7] (by decide) rfl (ci := 1) (q0 := 8) rfl rfl) rfl rfl hl.1 rfl (lv_room (Nat.le_of_ble_eq_true rfl)) dX9_undo_24 ⟨Nat.zero_le _, Nat.zero_le _⟩) hP hD hS hA [8, 9, 10, 11, 5, 6, 7] [0, 1, 2, 3, 4] [0, 1, 2, 3, 4, 9, 10, 11, 5, 6, 7, 8] rfl rfl (by decide) (by decide) (by decide) (fun _ => rfl) (fun u_24 H locs hw_24 hP hD hS => ?_)
    have hP : va_P D vwCl (wXo xa ++ wTrp (xa 4) (xa 5) (xa 6) (xa 7) (xa 8) (xa 9) (xa 10) cI (tr.1, tr.2.1, tr.2.2.1, tr.2.2.2.1, u_24.2) ++ wHis (xa 18) (xa 19) (xa 20) (xa 21) cI u_24.1) H := hP
    have hD : va_D A (wXo xa ++ wTrp (xa 4) (xa 5) (xa 6) (xa 7) (xa 8) (xa 9) (xa 10) cI (tr.1, tr.2.1, tr.2.2.1, tr.2.2.2.1, u_24.2) ++ wHis (xa 18) (xa 19) (xa 20) (xa 21) cI u_24.1) := hD
    obtain ⟨hu_24_0, hu_24_1⟩ := hw_24
    refine lv_aload_n hx hb dX9_undo_27 rfl (lv_at hl 0 rfl) ?_
    refine va_get (D := D) (ci := 9) (v := .ref (xa 18)) (C := RX9) (T := TX9) (N := 13) hx hb hts hin_9 hown hK hP 0 rfl rfl 4 (by decide) fl_36 (fun _ h9 => h9) rfl dX9_undo_28 ?_
    refine va_getN (D := D) (ci := 1) (v := .int u_24.1.2.2.2.2) (C := RX1) (T := TX1) (N := 5) hx hb hts hin_1 hown hK hP 8 rfl rfl 4 (by decide) (nw_fuse hN 28 rfl) (fun _ h9 => h9) rfl dX9_undo_31 ?_
    exact lf_i hx hb hr hlocks hQ ((tr.1, tr.2.1, tr.2.2.1, tr.2.2.2.1, u_24.2), u_24.1) hP hD hS dX9_undo_34 ⟨(by first | with_reducible rfl | (simp only [xUn, xUnT, tpSt, if_neg c_7, ← hu_24_1, ← hu_24_0, ↓reduceIte, bI_t, bI_f, reduceCtorEq]; done) | (subst_vars; simp only [xUn, xUnT, tpSt, if_neg c_7, ↓reduceIte, bI_t, bI_f, reduceCtorEq]; done) | (simp [xUn, xUnT, tpSt, c_7, bI_t, bI_f]; done)), (by first | with_reducible rfl | (simp only [xUn, xUnT, tpSt, if_neg c_7, ← hu_24_1, ← hu_24_0, ↓reduceIte, bI_t, bI_f, reduceCtorEq]; done) | (subst_vars; simp only [xUn, xUnT, tpSt, if_neg c_7, ↓reduceIte, bI_t, bI_f, reduceCtorEq]; done) | (simp [xUn, xUnT, tpSt, c_7, bI_t, bI_f]; done)), (by first | with_reducible rfl | (simp only [xUn, xUnT, tpSt, if_neg c_7, ← hu_24_1, ← hu_24_0, ↓reduceIte, bI_t, bI_f, reduceCtorEq]; done) | (subst_vars; simp only [xUn, xUnT, tpSt, if_neg c_7, ↓reduceIte, bI_t, bI_f, reduceCtorEq]; done) | (simp [xUn, xUnT, tpSt, c_7, bI_t, bI_f]; done))⟩
  · have i_7 := i_eq c_7
    rw [(by decide : (0 : Int32).toInt = 0)] at i_7
    refine lv_bipush (v := (-2)) hx hb dX9_undo_10 (by decide) ?_
    exact lf_i hx hb hr hlocks hQ (tr, hi) hP hD hS dX9_undo_12 ⟨(by first | with_reducible rfl | (simp only [xUn, xUnT, tpSt, if_pos c_7, ↓reduceIte, bI_t, bI_f, reduceCtorEq]; done) | (subst_vars; simp only [xUn, xUnT, tpSt, if_pos c_7, ↓reduceIte, bI_t, bI_f, reduceCtorEq]; done) | (simp [xUn, xUnT, tpSt, c_7, bI_t, bI_f]; done)), (by first | with_reducible rfl | (simp only [xUn, xUnT, tpSt, if_pos c_7, ↓reduceIte, bI_t, bI_f, reduceCtorEq]; done) | (subst_vars; simp only [xUn, xUnT, tpSt, if_pos c_7, ↓reduceIte, bI_t, bI_f, reduceCtorEq]; done) | (simp [xUn, xUnT, tpSt, c_7, bI_t, bI_f]; done)), (by simp only [hPopd, if_pos c_7, ↓reduceIte])⟩
abbrev rm_X9_meet : Room := { frames := 5, cells := 0, slots := 0, locals := 119 }
set_option maxHeartbeats 4000000 in
set_option maxRecDepth 100000 in
theorem c_X9_meet (l : Launch) (D : va_G) (cI cJ cZ : ClassId) (xa : Nat → Nat) (sz : Nat) (tr : Trp) (c1 : Crs) (c2 : Crs) (d : Int32) (o : Int32) (w : Int32) (htr : TrpOk tr) : Met l yX9_meet wsX9_meet rm_X9_meet (va_Pc [.ref (xa 0), .int d, .int o, .int w] (PU D (tyL cI cJ cZ) (wXo xa ++ wTrp (xa 4) (xa 5) (xa 6) (xa 7) (xa 8) (xa 9) (xa 10) cI tr ++ wCrs (xa 34) (xa 35) (xa 36) (xa 37) (xa 38) (xa 39) cI c1 ++ wCrs (xa 40) (xa 41) (xa 42) (xa 43) (xa 44) (xa 45) cI c2) sz)) (va_Qi (fun (rz : Int32) (uz : Crs × Crs) => rz = xMe tr c1 c2 d o w ∧ uz.1 = xMeA tr c1 d o w ∧ uz.2 = xMeB tr c2 d o w) (fun uz => BU D (wXo xa ++ wTrp (xa 4) (xa 5) (xa 6) (xa 7) (xa 8) (xa 9) (xa 10) cI tr ++ wCrs (xa 34) (xa 35) (xa 36) (xa 37) (xa 38) (xa 39) cI uz.1 ++ wCrs (xa 40) (xa 41) (xa 42) (xa 43) (xa 44) (xa 45) cI uz.2) (va_A (wXo xa ++ wTrp (xa 4) (xa 5) (xa 6) (xa 7) (xa 8) (xa 9) (xa 10) cI tr ++ wCrs (xa 34) (xa 35) (xa 36) (xa 37) (xa 38) (xa 39) cI c1 ++ wCrs (xa 40) (xa 41) (xa 42) (xa 43) (xa 44) (xa 45) cI c2) sz)) (va_A (wXo xa ++ wTrp (xa 4) (xa 5) (xa 6) (xa 7) (xa 8) (xa 9) (xa 10) cI tr ++ wCrs (xa 34) (xa 35) (xa 36) (xa 37) (xa 38) (xa 39) cI c1 ++ wCrs (xa 40) (xa 41) (xa 42) (xa 43) (xa 44) (xa 45) cI c2) sz)) 0 0 (va_A (wXo xa ++ wTrp (xa 4) (xa 5) (xa 6) (xa 7) (xa 8) (xa 9) (xa 10) cI tr ++ wCrs (xa 34) (xa 35) (xa 36) (xa 37) (xa 38) (xa 39) cI c1 ++ wCrs (xa 40) (xa 41) (xa 42) (xa 43) (xa 44) (xa 45) cI c2) sz) := by
  refine en (own := RX9) (Qc := fun A => va_Qi (fun (rz : Int32) (uz : Crs × Crs) => rz = xMe tr c1 c2 d o w ∧ uz.1 = xMeA tr c1 d o w ∧ uz.2 = xMeB tr c2 d o w) (fun uz => BU D (wXo xa ++ wTrp (xa 4) (xa 5) (xa 6) (xa 7) (xa 8) (xa 9) (xa 10) cI tr ++ wCrs (xa 34) (xa 35) (xa 36) (xa 37) (xa 38) (xa 39) cI uz.1 ++ wCrs (xa 40) (xa 41) (xa 42) (xa 43) (xa 44) (xa 45) cI uz.2) A) A) (by decide) rfl (Nat.le_of_ble_eq_true rfl) rfl ?_
  intro p e s m args below meth c A Q H locs ls hx hb hr hml hown hts hlocks hname hA hN hE hK hQ hP hD hS hl
  have hl : lv_has ls 4 [(0, .ref (xa 0)), (1, .int d), (2, .int o), (3, .int w)] := hl
  refine lv_aload_n hx hb dX9_meet_0 rfl (lv_at hl 0 rfl) ?_
  refine lv_iload_n hx hb dX9_meet_1 rfl (lv_at hl 1 rfl) ?_
  refine lv_iload_n hx hb dX9_meet_2 rfl (lv_at hl 2 rfl) ?_
  refine jn_i (W2 := fun _ => wXo xa ++ wTrp (xa 4) (xa 5) (xa 6) (xa 7) (xa 8) (xa 9) (xa 10) cI tr ++ wCrs (xa 34) (xa 35) (xa 36) (xa 37) (xa 38) (xa 39) cI c1 ++ wCrs (xa 40) (xa 41) (xa 42) (xa 43) (xa 44) (xa 45) cI c2) (va_runV (As := [.int d, .int o]) (rest := []) ⟨hx, hb, hml, hown, hts⟩ (c_X9_areTwo l D cI cJ cZ xa H.size tr d o) (cwV 2 hts gX9_meet_X9_areTwo rfl rfl rfl (by decide +kernel) ⟨Nat.le_of_ble_eq_true rfl, Nat.le_of_ble_eq_true rfl⟩) (pr_V hP hD hK hN hE hS hA [0, 1, 2, 3, 4, 5, 6, 7] (by decide) rfl (ci := 9) (q0 := 0) rfl rfl) rfl rfl hl.1 rfl (lv_room (Nat.le_of_ble_eq_true rfl)) dX9_meet_3 ⟨Nat.zero_le _, Nat.zero_le _⟩) hP hD hS hA [0, 1, 2, 3, 4, 5, 6, 7] [8, 9, 10, 11, 12, 13, 14, 15, 16, 17, 18, 19] [12, 13, 14, 15, 16, 17, 18, 19, 0, 1, 2, 3, 4, 5, 6, 7, 8, 9, 10, 11] rfl rfl (by decide) (by decide) (by decide) (fun _ => rfl) (fun r_3 u_3 H locs hw_3 hP hD hS => ?_)
  have hP : va_P D vwCl (wXo xa ++ wTrp (xa 4) (xa 5) (xa 6) (xa 7) (xa 8) (xa 9) (xa 10) cI tr ++ wCrs (xa 34) (xa 35) (xa 36) (xa 37) (xa 38) (xa 39) cI c1 ++ wCrs (xa 40) (xa 41) (xa 42) (xa 43) (xa 44) (xa 45) cI c2) H := hP
  have hD : va_D A (wXo xa ++ wTrp (xa 4) (xa 5) (xa 6) (xa 7) (xa 8) (xa 9) (xa 10) cI tr ++ wCrs (xa 34) (xa 35) (xa 36) (xa 37) (xa 38) (xa 39) cI c1 ++ wCrs (xa 40) (xa 41) (xa 42) (xa 43) (xa 44) (xa 45) cI c2) := hD
  have hr_3 := hw_3
  refine lv_if_eq (tgt := 18) hx hb dX9_meet_6 (by decide) (fun c_6 => ?_) (fun c_6 => ?_)
  · have b_6 : (ar2 tr d o) = false := bI_0 (hr_3.symm.trans c_6)
    refine lv_iconst (v := (-1)) hx hb dX9_meet_18 (by decide) ?_
    exact lf_i hx hb hr hlocks hQ (c1, c2) hP hD hS dX9_meet_19 ⟨(by first | with_reducible rfl | (simp only [xMe, xMeA, xMeB, xMeCk, b_6, ← hr_3, ↓reduceIte, bI_t, bI_f, reduceCtorEq]; done) | (subst_vars; simp only [xMe, xMeA, xMeB, xMeCk, b_6, ↓reduceIte, bI_t, bI_f, reduceCtorEq]; done) | (simp [xMe, xMeA, xMeB, xMeCk, b_6, bI_t, bI_f]; done)), (by first | with_reducible rfl | (simp only [xMe, xMeA, xMeB, xMeCk, b_6, ← hr_3, ↓reduceIte, bI_t, bI_f, reduceCtorEq]; done) | (subst_vars; simp only [xMe, xMeA, xMeB, xMeCk, b_6, ↓reduceIte, bI_t, bI_f, reduceCtorEq]; done) | (simp [xMe, xMeA, xMeB, xMeCk, b_6, bI_t, bI_f]; done)), (by first | with_reducible rfl | (simp only [xMe, xMeA, xMeB, xMeCk, b_6, ← hr_3, ↓reduceIte, bI_t, bI_f, reduceCtorEq]; done) | (subst_vars; simp only [xMe, xMeA, xMeB, xMeCk, b_6, ↓reduceIte, bI_t, bI_f, reduceCtorEq]; done) | (simp [xMe, xMeA, xMeB, xMeCk, b_6, bI_t, bI_f]; done))⟩
  · have b_6 : (ar2 tr d o) = true := bI_1 (fun q => c_6 (hr_3.trans q))
    refine lv_iload_n hx hb dX9_meet_9 rfl (lv_at hl 3 rfl) ?_
    refine lv_if_lt (tgt := 18) hx hb dX9_meet_10 (by decide) (fun c_10 => ?_) (fun c_10 => ?_)
    · have i_10 := i_lt c_10
      rw [(by decide : (0 : Int32).toInt = 0)] at i_10
      refine lv_iconst (v := (-1)) hx hb dX9_meet_18 (by decide) ?_
      exact lf_i hx hb hr hlocks hQ (c1, c2) hP hD hS dX9_meet_19 ⟨(by first | with_reducible rfl | (simp only [xMe, xMeA, xMeB, xMeCk, b_6, if_pos c_10, ← hr_3, ↓reduceIte, bI_t, bI_f, reduceCtorEq]; done) | (subst_vars; simp only [xMe, xMeA, xMeB, xMeCk, b_6, if_pos c_10, ↓reduceIte, bI_t, bI_f, reduceCtorEq]; done) | (simp [xMe, xMeA, xMeB, xMeCk, b_6, c_10, bI_t, bI_f]; done)), (by first | with_reducible rfl | (simp only [xMe, xMeA, xMeB, xMeCk, b_6, if_pos c_10, ← hr_3, ↓reduceIte, bI_t, bI_f, reduceCtorEq]; done) | (subst_vars; simp only [xMe, xMeA, xMeB, xMeCk, b_6, if_pos c_10, ↓reduceIte, bI_t, bI_f, reduceCtorEq]; done) | (simp [xMe, xMeA, xMeB, xMeCk, b_6, c_10, bI_t, bI_f]; done)), (by first | with_reducible rfl | (simp only [xMe, xMeA, xMeB, xMeCk, b_6, if_pos c_10, ← hr_3, ↓reduceIte, bI_t, bI_f, reduceCtorEq]; done) | (subst_vars; simp only [xMe, xMeA, xMeB, xMeCk, b_6, if_pos c_10, ↓reduceIte, bI_t, bI_f, reduceCtorEq]; done) | (simp [xMe, xMeA, xMeB, xMeCk, b_6, c_10, bI_t, bI_f]; done))⟩
    · have i_10 := i_nlt c_10
      rw [(by decide : (0 : Int32).toInt = 0)] at i_10
      refine lv_iload_n hx hb dX9_meet_13 rfl (lv_at hl 3 rfl) ?_
      refine lv_iconst (v := 1) hx hb dX9_meet_14 (by decide) ?_
      refine lv_icmp_le (tgt := 20) hx hb dX9_meet_15 (by decide) (fun c_15 => ?_) (fun c_15 => ?_)
      · have i_15 := i_le c_15
        rw [(by decide : (1 : Int32).toInt = 1)] at i_15
        refine lv_aload_n hx hb dX9_meet_20 rfl (lv_at hl 0 rfl) ?_
        refine lv_iload_n hx hb dX9_meet_21 rfl (lv_at hl 1 rfl) ?_
        refine lv_iload_n hx hb dX9_meet_22 rfl (lv_at hl 2 rfl) ?_
        refine jn_v (W2 := fun u_23 => wXo xa ++ wTrp (xa 4) (xa 5) (xa 6) (xa 7) (xa 8) (xa 9) (xa 10) cI tr ++ wCrs (xa 34) (xa 35) (xa 36) (xa 37) (xa 38) (xa 39) cI u_23.1 ++ wCrs (xa 40) (xa 41) (xa 42) (xa 43) (xa 44) (xa 45) cI u_23.2) (va_runV (As := [.int d, .int o]) (rest := []) ⟨hx, hb, hml, hown, hts⟩ (c_X9_followBoth l D cI cJ cZ xa H.size tr c1 c2 d o (htr)) (cwV 2 hts gX9_meet_X9_followBoth rfl rfl rfl (by decide +kernel) ⟨Nat.le_of_ble_eq_true rfl, Nat.le_of_ble_eq_true rfl⟩) (pr_V hP hD hK hN hE hS hA [0, 1, 2, 3, 4, 5, 6, 7, 8, 9, 10, 11, 12, 13, 14, 15, 16, 17, 18, 19] (by decide) rfl (ci := 9) (q0 := 0) rfl rfl) rfl rfl hl.1 rfl (lv_room (Nat.le_of_ble_eq_true rfl)) dX9_meet_23 ⟨Nat.zero_le _, Nat.zero_le _⟩) hP hD hS hA [0, 1, 2, 3, 4, 5, 6, 7, 8, 9, 10, 11, 12, 13, 14, 15, 16, 17, 18, 19] [] [0, 1, 2, 3, 4, 5, 6, 7, 8, 9, 10, 11, 12, 13, 14, 15, 16, 17, 18, 19] rfl rfl (by decide) (by decide) (by decide) (fun _ => rfl) (fun u_23 H locs hw_23 hP hD hS => ?_)
        have hP : va_P D vwCl (wXo xa ++ wTrp (xa 4) (xa 5) (xa 6) (xa 7) (xa 8) (xa 9) (xa 10) cI tr ++ wCrs (xa 34) (xa 35) (xa 36) (xa 37) (xa 38) (xa 39) cI u_23.1 ++ wCrs (xa 40) (xa 41) (xa 42) (xa 43) (xa 44) (xa 45) cI u_23.2) H := hP
        have hD : va_D A (wXo xa ++ wTrp (xa 4) (xa 5) (xa 6) (xa 7) (xa 8) (xa 9) (xa 10) cI tr ++ wCrs (xa 34) (xa 35) (xa 36) (xa 37) (xa 38) (xa 39) cI u_23.1 ++ wCrs (xa 40) (xa 41) (xa 42) (xa 43) (xa 44) (xa 45) cI u_23.2) := hD
        obtain ⟨hu_23_0, hu_23_1⟩ := hw_23
        refine lv_iload_n hx hb dX9_meet_26 rfl (lv_at hl 3 rfl) ?_
        refine lv_if_ne (tgt := 37) hx hb dX9_meet_27 (by decide) (fun c_27 => ?_) (fun c_27 => ?_)
        · have i_27 := i_ne c_27
          rw [(by decide : (0 : Int32).toInt = 0)] at i_27
          refine lv_aload_n hx hb dX9_meet_37 rfl (lv_at hl 0 rfl) ?_
          refine jn_i (W2 := fun _ => wXo xa ++ wTrp (xa 4) (xa 5) (xa 6) (xa 7) (xa 8) (xa 9) (xa 10) cI tr ++ wCrs (xa 34) (xa 35) (xa 36) (xa 37) (xa 38) (xa 39) cI u_23.1 ++ wCrs (xa 40) (xa 41) (xa 42) (xa 43) (xa 44) (xa 45) cI u_23.2) (va_runV (As := []) (rest := []) ⟨hx, hb, hml, hown, hts⟩ (c_X9_firstCrossing l D cI cJ cZ xa H.size u_23.1 u_23.2) (cwV 0 hts gX9_meet_X9_firstCrossing rfl rfl rfl (by decide +kernel) ⟨Nat.le_of_ble_eq_true rfl, Nat.le_of_ble_eq_true rfl⟩) (pr_V hP hD hK hN hE hS hA [0, 8, 9, 10, 11, 12, 13, 14, 15, 16, 17, 18, 19] (by decide) rfl (ci := 9) (q0 := 0) rfl rfl) rfl rfl hl.1 rfl (lv_room (Nat.le_of_ble_eq_true rfl)) dX9_meet_38 ⟨Nat.zero_le _, Nat.zero_le _⟩) hP hD hS hA [0, 8, 9, 10, 11, 12, 13, 14, 15, 16, 17, 18, 19] [1, 2, 3, 4, 5, 6, 7] [7, 0, 1, 2, 3, 4, 5, 6, 8, 9, 10, 11, 12, 13, 14, 15, 16, 17, 18, 19] rfl rfl (by decide) (by decide) (by decide) (fun _ => rfl) (fun r_38 u_38 H locs hw_38 hP hD hS => ?_)
          have hP : va_P D vwCl (wXo xa ++ wTrp (xa 4) (xa 5) (xa 6) (xa 7) (xa 8) (xa 9) (xa 10) cI tr ++ wCrs (xa 34) (xa 35) (xa 36) (xa 37) (xa 38) (xa 39) cI u_23.1 ++ wCrs (xa 40) (xa 41) (xa 42) (xa 43) (xa 44) (xa 45) cI u_23.2) H := hP
          have hD : va_D A (wXo xa ++ wTrp (xa 4) (xa 5) (xa 6) (xa 7) (xa 8) (xa 9) (xa 10) cI tr ++ wCrs (xa 34) (xa 35) (xa 36) (xa 37) (xa 38) (xa 39) cI u_23.1 ++ wCrs (xa 40) (xa 41) (xa 42) (xa 43) (xa 44) (xa 45) cI u_23.2) := hD
          have hr_38 := hw_38
          exact lf_i hx hb hr hlocks hQ (u_23.1, u_23.2) hP hD hS dX9_meet_41 ⟨(by first | with_reducible rfl | (simp only [xMe, xMeA, xMeB, xMeCk, b_6, if_neg c_10, if_pos c_15, if_neg c_27, ← hr_38, ← hu_23_1, ← hu_23_0, ← hr_3, ↓reduceIte, bI_t, bI_f, reduceCtorEq]; done) | (subst_vars; simp only [xMe, xMeA, xMeB, xMeCk, b_6, if_neg c_10, if_pos c_15, if_neg c_27, ↓reduceIte, bI_t, bI_f, reduceCtorEq]; done) | (simp [xMe, xMeA, xMeB, xMeCk, b_6, c_10, c_15, c_27, bI_t, bI_f]; done)), (by first | with_reducible rfl | (simp only [xMe, xMeA, xMeB, xMeCk, b_6, if_neg c_10, if_pos c_15, if_neg c_27, ← hr_38, ← hu_23_1, ← hu_23_0, ← hr_3, ↓reduceIte, bI_t, bI_f, reduceCtorEq]; done) | (subst_vars; simp only [xMe, xMeA, xMeB, xMeCk, b_6, if_neg c_10, if_pos c_15, if_neg c_27, ↓reduceIte, bI_t, bI_f, reduceCtorEq]; done) | (simp [xMe, xMeA, xMeB, xMeCk, b_6, c_10, c_15, c_27, bI_t, bI_f]; done)), (by first | with_reducible rfl | (simp only [xMe, xMeA, xMeB, xMeCk, b_6, if_neg c_10, if_pos c_15, if_neg c_27, ← hr_38, ← hu_23_1, ← hu_23_0, ← hr_3, ↓reduceIte, bI_t, bI_f, reduceCtorEq]; done) | (subst_vars; simp only [xMe, xMeA, xMeB, xMeCk, b_6, if_neg c_10, if_pos c_15, if_neg c_27, ↓reduceIte, bI_t, bI_f, reduceCtorEq]; done) | (simp [xMe, xMeA, xMeB, xMeCk, b_6, c_10, c_15, c_27, bI_t, bI_f]; done))⟩
        · have i_27 := i_eq c_27
          rw [(by decide : (0 : Int32).toInt = 0)] at i_27
          refine lv_aload_n hx hb dX9_meet_30 rfl (lv_at hl 0 rfl) ?_
          refine jn_i (W2 := fun _ => wXo xa ++ wTrp (xa 4) (xa 5) (xa 6) (xa 7) (xa 8) (xa 9) (xa 10) cI tr ++ wCrs (xa 34) (xa 35) (xa 36) (xa 37) (xa 38) (xa 39) cI u_23.1 ++ wCrs (xa 40) (xa 41) (xa 42) (xa 43) (xa 44) (xa 45) cI u_23.2) (va_runV (As := []) (rest := []) ⟨hx, hb, hml, hown, hts⟩ (c_X9_firstMeeting l D cI cJ cZ xa H.size u_23.1 u_23.2) (cwV 0 hts gX9_meet_X9_firstMeeting rfl rfl rfl (by decide +kernel) ⟨Nat.le_of_ble_eq_true rfl, Nat.le_of_ble_eq_true rfl⟩) (pr_V hP hD hK hN hE hS hA [0, 8, 9, 10, 11, 12, 13, 14, 15, 16, 17, 18, 19] (by decide) rfl (ci := 9) (q0 := 0) rfl rfl) rfl rfl hl.1 rfl (lv_room (Nat.le_of_ble_eq_true rfl)) dX9_meet_31 ⟨Nat.zero_le _, Nat.zero_le _⟩) hP hD hS hA [0, 8, 9, 10, 11, 12, 13, 14, 15, 16, 17, 18, 19] [1, 2, 3, 4, 5, 6, 7] [7, 0, 1, 2, 3, 4, 5, 6, 8, 9, 10, 11, 12, 13, 14, 15, 16, 17, 18, 19] rfl rfl (by decide) (by decide) (by decide) (fun _ => rfl) (fun r_31 u_31 H locs hw_31 hP hD hS => ?_)
          have hP : va_P D vwCl (wXo xa ++ wTrp (xa 4) (xa 5) (xa 6) (xa 7) (xa 8) (xa 9) (xa 10) cI tr ++ wCrs (xa 34) (xa 35) (xa 36) (xa 37) (xa 38) (xa 39) cI u_23.1 ++ wCrs (xa 40) (xa 41) (xa 42) (xa 43) (xa 44) (xa 45) cI u_23.2) H := hP
          have hD : va_D A (wXo xa ++ wTrp (xa 4) (xa 5) (xa 6) (xa 7) (xa 8) (xa 9) (xa 10) cI tr ++ wCrs (xa 34) (xa 35) (xa 36) (xa 37) (xa 38) (xa 39) cI u_23.1 ++ wCrs (xa 40) (xa 41) (xa 42) (xa 43) (xa 44) (xa 45) cI u_23.2) := hD
          have hr_31 := hw_31
          refine lv_goto (tgt := 41) hx hb dX9_meet_34 (by decide) ?_
          exact lf_i hx hb hr hlocks hQ (u_23.1, u_23.2) hP hD hS dX9_meet_41 ⟨(by first | with_reducible rfl | (simp only [xMe, xMeA, xMeB, xMeCk, b_6, if_neg c_10, if_pos c_15, if_pos c_27, ← hr_31, ← hu_23_1, ← hu_23_0, ← hr_3, ↓reduceIte, bI_t, bI_f, reduceCtorEq]; done) | (subst_vars; simp only [xMe, xMeA, xMeB, xMeCk, b_6, if_neg c_10, if_pos c_15, if_pos c_27, ↓reduceIte, bI_t, bI_f, reduceCtorEq]; done) | (simp [xMe, xMeA, xMeB, xMeCk, b_6, c_10, c_15, c_27, bI_t, bI_f]; done)), (by first | with_reducible rfl | (simp only [xMe, xMeA, xMeB, xMeCk, b_6, if_neg c_10, if_pos c_15, if_pos c_27, ← hr_31, ← hu_23_1, ← hu_23_0, ← hr_3, ↓reduceIte, bI_t, bI_f, reduceCtorEq]; done) | (subst_vars; simp only [xMe, xMeA, xMeB, xMeCk, b_6, if_neg c_10, if_pos c_15, if_pos c_27, ↓reduceIte, bI_t, bI_f, reduceCtorEq]; done) | (simp [xMe, xMeA, xMeB, xMeCk, b_6, c_10, c_15, c_27, bI_t, bI_f]; done)), (by first | with_reducible rfl | (simp only [xMe, xMeA, xMeB, xMeCk, b_6, if_neg c_10, if_pos c_15, if_pos c_27, ← hr_31, ← hu_23_1, ← hu_23_0, ← hr_3, ↓reduceIte, bI_t, bI_f, reduceCtorEq]; done) | (subst_vars; simp only [xMe, xMeA, xMeB, xMeCk, b_6, if_neg c_10, if_pos c_15, if_pos c_27, ↓reduceIte, bI_t, bI_f, reduceCtorEq]; done) | (simp [xMe, xMeA, xMeB, xMeCk, b_6, c_10, c_15, c_27, bI_t, bI_f]; done))⟩
      · have i_15 := i_nle c_15
        rw [(by decide : (1 : Int32).toInt = 1)] at i_15
        refine lv_iconst (v := (-1)) hx hb dX9_meet_18 (by decide) ?_
        exact lf_i hx hb hr hlocks hQ (c1, c2) hP hD hS dX9_meet_19 ⟨(by first | with_reducible rfl | (simp only [xMe, xMeA, xMeB, xMeCk, b_6, if_neg c_10, if_neg c_15, ← hr_3, ↓reduceIte, bI_t, bI_f, reduceCtorEq]; done) | (subst_vars; simp only [xMe, xMeA, xMeB, xMeCk, b_6, if_neg c_10, if_neg c_15, ↓reduceIte, bI_t, bI_f, reduceCtorEq]; done) | (simp [xMe, xMeA, xMeB, xMeCk, b_6, c_10, c_15, bI_t, bI_f]; done)), (by first | with_reducible rfl | (simp only [xMe, xMeA, xMeB, xMeCk, b_6, if_neg c_10, if_neg c_15, ← hr_3, ↓reduceIte, bI_t, bI_f, reduceCtorEq]; done) | (subst_vars; simp only [xMe, xMeA, xMeB, xMeCk, b_6, if_neg c_10, if_neg c_15, ↓reduceIte, bI_t, bI_f, reduceCtorEq]; done) | (simp [xMe, xMeA, xMeB, xMeCk, b_6, c_10, c_15, bI_t, bI_f]; done)), (by first | with_reducible rfl | (simp only [xMe, xMeA, xMeB, xMeCk, b_6, if_neg c_10, if_neg c_15, ← hr_3, ↓reduceIte, bI_t, bI_f, reduceCtorEq]; done) | (subst_vars; simp only [xMe, xMeA, xMeB, xMeCk, b_6, if_neg c_10, if_neg c_15, ↓reduceIte, bI_t, bI_f, reduceCtorEq]; done) | (simp [xMe, xMeA, xMeB, xMeCk, b_6, c_10, c_15, bI_t, bI_f]; done))⟩
abbrev rm_X9_sees : Room := { frames := 1, cells := 0, slots := 0, locals := 23 }
set_option maxHeartbeats 4000000 in
set_option maxRecDepth 100000 in
theorem c_X9_sees (l : Launch) (D : va_G) (cI cJ cZ : ClassId) (xa : Nat → Nat) (sz : Nat) (tr : Trp) (si : Sgt) (n : Int32) (x : Int32) (y : Int32) (hs0 : 0 ≤ si.2.2.2.toInt) : Met l yX9_sees wsX9_sees rm_X9_sees (va_Pc [.ref (xa 0), .int n, .int x, .int y] (PU D (tyL cI cJ cZ) (wXo xa ++ wTrp (xa 4) (xa 5) (xa 6) (xa 7) (xa 8) (xa 9) (xa 10) cI tr ++ wSgt (xa 22) (xa 23) (xa 24) (xa 25) cI si) sz)) (va_Qi (fun (rz : Int32) (uz : Sgt) => rz = xSe tr si n x y ∧ uz = xSeS tr si n x y) (fun uz => BU D (wXo xa ++ wTrp (xa 4) (xa 5) (xa 6) (xa 7) (xa 8) (xa 9) (xa 10) cI tr ++ wSgt (xa 22) (xa 23) (xa 24) (xa 25) cI uz) (va_A (wXo xa ++ wTrp (xa 4) (xa 5) (xa 6) (xa 7) (xa 8) (xa 9) (xa 10) cI tr ++ wSgt (xa 22) (xa 23) (xa 24) (xa 25) cI si) sz)) (va_A (wXo xa ++ wTrp (xa 4) (xa 5) (xa 6) (xa 7) (xa 8) (xa 9) (xa 10) cI tr ++ wSgt (xa 22) (xa 23) (xa 24) (xa 25) cI si) sz)) 0 0 (va_A (wXo xa ++ wTrp (xa 4) (xa 5) (xa 6) (xa 7) (xa 8) (xa 9) (xa 10) cI tr ++ wSgt (xa 22) (xa 23) (xa 24) (xa 25) cI si) sz) := by
  refine en (own := RX9) (Qc := fun A => va_Qi (fun (rz : Int32) (uz : Sgt) => rz = xSe tr si n x y ∧ uz = xSeS tr si n x y) (fun uz => BU D (wXo xa ++ wTrp (xa 4) (xa 5) (xa 6) (xa 7) (xa 8) (xa 9) (xa 10) cI tr ++ wSgt (xa 22) (xa 23) (xa 24) (xa 25) cI uz) A) A) (by decide) rfl (Nat.le_of_ble_eq_true rfl) rfl ?_
  intro p e s m args below meth c A Q H locs ls hx hb hr hml hown hts hlocks hname hA hN hE hK hQ hP hD hS hl
  have hl : lv_has ls 4 [(0, .ref (xa 0)), (1, .int n), (2, .int x), (3, .int y)] := hl
  have fl_26 := hts (.fieldLink RX9 26 "DanceStaffs" "troupe" "LDanceStaffs$Troupe;") (by decide +kernel)
  have hin_9 : ∀ w ∈ u_ws RX9 TX9 13, w ∈ wsX9_sees := by decide +kernel
  have hin_8 : ∀ w ∈ u_ws RX8 TX8 5, w ∈ wsX9_sees := by decide +kernel
  have fl_43 := hts (.fieldLink RX9 43 "DanceStaffs" "sightings" "LDanceStaffs$Sightings;") (by decide +kernel)
  have hin_4 : ∀ w ∈ u_ws RX4 TX4 4, w ∈ wsX9_sees := by decide +kernel
  refine lv_aload_n hx hb dX9_sees_0 rfl (lv_at hl 0 rfl) ?_
  refine va_get (D := D) (ci := 9) (v := .ref (xa 4)) (C := RX9) (T := TX9) (N := 13) hx hb hts hin_9 hown hK hP 0 rfl rfl 2 (by decide) fl_26 (fun _ h9 => h9) rfl dX9_sees_1 ?_
  refine va_getN (D := D) (ci := 8) (v := .int tr.2.2.2.1) (C := RX8) (T := TX8) (N := 5) hx hb hts hin_8 hown hK hP 1 rfl rfl 4 (by decide) (nw_fuse hN 27 rfl) (fun _ h9 => h9) rfl dX9_sees_4 ?_
  refine lv_if_eq (tgt := 25) hx hb dX9_sees_7 (by decide) (fun c_7 => ?_) (fun c_7 => ?_)
  · have i_7 := i_eq c_7
    rw [(by decide : (0 : Int32).toInt = 0)] at i_7
    refine lv_iconst (v := (-1)) hx hb dX9_sees_25 (by decide) ?_
    exact lf_i hx hb hr hlocks hQ si hP hD hS dX9_sees_26 ⟨(by first | with_reducible rfl | (simp only [xSe, xSeS, xSeCk, if_pos c_7, ↓reduceIte, bI_t, bI_f, reduceCtorEq]; done) | (subst_vars; simp only [xSe, xSeS, xSeCk, if_pos c_7, ↓reduceIte, bI_t, bI_f, reduceCtorEq]; done) | (simp [xSe, xSeS, xSeCk, c_7, bI_t, bI_f]; done)), (by first | with_reducible rfl | (simp only [xSe, xSeS, xSeCk, if_pos c_7, ↓reduceIte, bI_t, bI_f, reduceCtorEq]; done) | (subst_vars; simp only [xSe, xSeS, xSeCk, if_pos c_7, ↓reduceIte, bI_t, bI_f, reduceCtorEq]; done) | (simp [xSe, xSeS, xSeCk, c_7, bI_t, bI_f]; done))⟩
  · have i_7 := i_ne c_7
    rw [(by decide : (0 : Int32).toInt = 0)] at i_7
    refine lv_iload_n hx hb dX9_sees_10 rfl (lv_at hl 1 rfl) ?_
    refine st_i (va_runS (As := [.int n]) (rest := []) ⟨hx, hb, hml, hown, hts⟩ (c_X9_isMoment l D cI cJ cZ H.size n) (va_cwS 1 hts gX9_sees_X9_isMoment rfl rfl rfl (by decide +kernel) ⟨Nat.le_of_ble_eq_true rfl, Nat.le_of_ble_eq_true rfl⟩) (pr_S hP hD hK hN hE hS hA [] (by decide) rfl) rfl rfl hl.1 rfl (lv_room (Nat.le_of_ble_eq_true rfl)) dX9_sees_11 ⟨Nat.zero_le _, Nat.zero_le _⟩) hP hS hA (fun r_11 u_11 H locs hw_11 hP hS => ?_)
    have hr_11 := hw_11
    refine lv_if_eq (tgt := 25) hx hb dX9_sees_14 (by decide) (fun c_14 => ?_) (fun c_14 => ?_)
    · have b_14 : (isMom n) = false := bI_0 (hr_11.symm.trans c_14)
      refine lv_iconst (v := (-1)) hx hb dX9_sees_25 (by decide) ?_
      exact lf_i hx hb hr hlocks hQ si hP hD hS dX9_sees_26 ⟨(by first | with_reducible rfl | (simp only [xSe, xSeS, xSeCk, if_neg c_7, b_14, ← hr_11, ↓reduceIte, bI_t, bI_f, reduceCtorEq]; done) | (subst_vars; simp only [xSe, xSeS, xSeCk, if_neg c_7, b_14, ↓reduceIte, bI_t, bI_f, reduceCtorEq]; done) | (simp [xSe, xSeS, xSeCk, c_7, b_14, bI_t, bI_f]; done)), (by first | with_reducible rfl | (simp only [xSe, xSeS, xSeCk, if_neg c_7, b_14, ← hr_11, ↓reduceIte, bI_t, bI_f, reduceCtorEq]; done) | (subst_vars; simp only [xSe, xSeS, xSeCk, if_neg c_7, b_14, ↓reduceIte, bI_t, bI_f, reduceCtorEq]; done) | (simp [xSe, xSeS, xSeCk, c_7, b_14, bI_t, bI_f]; done))⟩
    · have b_14 : (isMom n) = true := bI_1 (fun q => c_14 (hr_11.trans q))
      refine lv_iload_n hx hb dX9_sees_17 rfl (lv_at hl 2 rfl) ?_
      refine lv_iload_n hx hb dX9_sees_18 rfl (lv_at hl 3 rfl) ?_
      refine st_i (va_runS (As := [.int x, .int y]) (rest := []) ⟨hx, hb, hml, hown, hts⟩ (c_X9_isOnFloor l D cI cJ cZ H.size x y) (va_cwS 2 hts gX9_sees_X9_isOnFloor rfl rfl rfl (by decide +kernel) ⟨Nat.le_of_ble_eq_true rfl, Nat.le_of_ble_eq_true rfl⟩) (pr_S hP hD hK hN hE hS hA [] (by decide) rfl) rfl rfl hl.1 rfl (lv_room (Nat.le_of_ble_eq_true rfl)) dX9_sees_19 ⟨Nat.zero_le _, Nat.zero_le _⟩) hP hS hA (fun r_19 u_19 H locs hw_19 hP hS => ?_)
      have hr_19 := hw_19
      refine lv_if_ne (tgt := 27) hx hb dX9_sees_22 (by decide) (fun c_22 => ?_) (fun c_22 => ?_)
      · have b_22 : (onFl x y) = true := bI_1 (fun q => c_22 (hr_19.trans q))
        refine lv_aload_n hx hb dX9_sees_27 rfl (lv_at hl 0 rfl) ?_
        refine va_get (D := D) (ci := 9) (v := .ref (xa 22)) (C := RX9) (T := TX9) (N := 13) hx hb hts hin_9 hown hK hP 0 rfl rfl 5 (by decide) fl_43 (fun _ h9 => h9) rfl dX9_sees_28 ?_
        refine lv_iload_n hx hb dX9_sees_31 rfl (lv_at hl 1 rfl) ?_
        refine lv_iload_n hx hb dX9_sees_32 rfl (lv_at hl 2 rfl) ?_
        refine lv_iload_n hx hb dX9_sees_33 rfl (lv_at hl 3 rfl) ?_
        refine jn_i (W2 := fun u_34 => wXo xa ++ wTrp (xa 4) (xa 5) (xa 6) (xa 7) (xa 8) (xa 9) (xa 10) cI tr ++ wSgt (xa 22) (xa 23) (xa 24) (xa 25) cI u_34) (va_runV (As := [.int n, .int x, .int y]) (rest := []) ⟨hx, hb, hml, hown, hts⟩ (c_X4_add l D cI cJ cZ (xa 22) (xa 23) (xa 24) (xa 25) H.size si n x y (hs0)) (cwV 3 hts gX9_sees_X4_add rfl rfl rfl (by decide +kernel) ⟨Nat.le_of_ble_eq_true rfl, Nat.le_of_ble_eq_true rfl⟩) (pr_V hP hD hK hN hE hS hA [8, 9, 10, 11] (by decide) rfl (ci := 4) (q0 := 8) rfl rfl) rfl rfl hl.1 rfl (lv_room (Nat.le_of_ble_eq_true rfl)) dX9_sees_34 ⟨Nat.zero_le _, Nat.zero_le _⟩) hP hD hS hA [8, 9, 10, 11] [0, 1, 2, 3, 4, 5, 6, 7] [0, 1, 2, 3, 4, 5, 6, 7, 8, 9, 10, 11] rfl rfl (by decide) (by decide) (by decide) (fun _ => rfl) (fun r_34 u_34 H locs hw_34 hP hD hS => ?_)
        have hP : va_P D vwCl (wXo xa ++ wTrp (xa 4) (xa 5) (xa 6) (xa 7) (xa 8) (xa 9) (xa 10) cI tr ++ wSgt (xa 22) (xa 23) (xa 24) (xa 25) cI u_34) H := hP
        have hD : va_D A (wXo xa ++ wTrp (xa 4) (xa 5) (xa 6) (xa 7) (xa 8) (xa 9) (xa 10) cI tr ++ wSgt (xa 22) (xa 23) (xa 24) (xa 25) cI u_34) := hD
        obtain ⟨hr_34, hu_34⟩ := hw_34
        refine lv_if_eq (tgt := 50) hx hb dX9_sees_37 (by decide) (fun c_37 => ?_) (fun c_37 => ?_)
        · have b_37 : (gtAddB si) = false := bI_0 (hr_34.symm.trans c_37)
          refine lv_bipush (v := (-3)) hx hb dX9_sees_50 (by decide) ?_
          exact lf_i hx hb hr hlocks hQ u_34 hP hD hS dX9_sees_52 ⟨(by first | with_reducible rfl | (simp only [xSe, xSeS, xSeCk, if_neg c_7, b_14, b_22, b_37, ← hr_34, ← hu_34, ← hr_19, ← hr_11, ↓reduceIte, bI_t, bI_f, reduceCtorEq]; done) | (subst_vars; simp only [xSe, xSeS, xSeCk, if_neg c_7, b_14, b_22, b_37, ↓reduceIte, bI_t, bI_f, reduceCtorEq]; done) | (simp [xSe, xSeS, xSeCk, c_7, b_14, b_22, b_37, bI_t, bI_f]; done)), (by first | with_reducible rfl | (simp only [xSe, xSeS, xSeCk, if_neg c_7, b_14, b_22, b_37, ← hr_34, ← hu_34, ← hr_19, ← hr_11, ↓reduceIte, bI_t, bI_f, reduceCtorEq]; done) | (subst_vars; simp only [xSe, xSeS, xSeCk, if_neg c_7, b_14, b_22, b_37, ↓reduceIte, bI_t, bI_f, reduceCtorEq]; done) | (simp [xSe, xSeS, xSeCk, c_7, b_14, b_22, b_37, bI_t, bI_f]; done))⟩
        · have b_37 : (gtAddB si) = true := bI_1 (fun q => c_37 (hr_34.trans q))
          refine lv_aload_n hx hb dX9_sees_40 rfl (lv_at hl 0 rfl) ?_
          refine va_get (D := D) (ci := 9) (v := .ref (xa 22)) (C := RX9) (T := TX9) (N := 13) hx hb hts hin_9 hown hK hP 0 rfl rfl 5 (by decide) fl_43 (fun _ h9 => h9) rfl dX9_sees_41 ?_
          refine va_getN (D := D) (ci := 4) (v := .int u_34.2.2.2) (C := RX4) (T := TX4) (N := 4) hx hb hts hin_4 hown hK hP 8 rfl rfl 3 (by decide) (nw_fuse hN 26 rfl) (fun _ h9 => h9) rfl dX9_sees_44 ?_
          refine lv_goto (tgt := 52) hx hb dX9_sees_47 (by decide) ?_
          exact lf_i hx hb hr hlocks hQ u_34 hP hD hS dX9_sees_52 ⟨(by first | with_reducible rfl | (simp only [xSe, xSeS, xSeCk, if_neg c_7, b_14, b_22, b_37, ← hr_34, ← hu_34, ← hr_19, ← hr_11, ↓reduceIte, bI_t, bI_f, reduceCtorEq]; done) | (subst_vars; simp only [xSe, xSeS, xSeCk, if_neg c_7, b_14, b_22, b_37, ↓reduceIte, bI_t, bI_f, reduceCtorEq]; done) | (simp [xSe, xSeS, xSeCk, c_7, b_14, b_22, b_37, bI_t, bI_f]; done)), (by first | with_reducible rfl | (simp only [xSe, xSeS, xSeCk, if_neg c_7, b_14, b_22, b_37, ← hr_34, ← hu_34, ← hr_19, ← hr_11, ↓reduceIte, bI_t, bI_f, reduceCtorEq]; done) | (subst_vars; simp only [xSe, xSeS, xSeCk, if_neg c_7, b_14, b_22, b_37, ↓reduceIte, bI_t, bI_f, reduceCtorEq]; done) | (simp [xSe, xSeS, xSeCk, c_7, b_14, b_22, b_37, bI_t, bI_f]; done))⟩
      · have b_22 : (onFl x y) = false := bI_0 (hr_19.symm.trans c_22)
        refine lv_iconst (v := (-1)) hx hb dX9_sees_25 (by decide) ?_
        exact lf_i hx hb hr hlocks hQ si hP hD hS dX9_sees_26 ⟨(by first | with_reducible rfl | (simp only [xSe, xSeS, xSeCk, if_neg c_7, b_14, b_22, ← hr_19, ← hr_11, ↓reduceIte, bI_t, bI_f, reduceCtorEq]; done) | (subst_vars; simp only [xSe, xSeS, xSeCk, if_neg c_7, b_14, b_22, ↓reduceIte, bI_t, bI_f, reduceCtorEq]; done) | (simp [xSe, xSeS, xSeCk, c_7, b_14, b_22, bI_t, bI_f]; done)), (by first | with_reducible rfl | (simp only [xSe, xSeS, xSeCk, if_neg c_7, b_14, b_22, ← hr_19, ← hr_11, ↓reduceIte, bI_t, bI_f, reduceCtorEq]; done) | (subst_vars; simp only [xSe, xSeS, xSeCk, if_neg c_7, b_14, b_22, ↓reduceIte, bI_t, bI_f, reduceCtorEq]; done) | (simp [xSe, xSeS, xSeCk, c_7, b_14, b_22, bI_t, bI_f]; done))⟩
abbrev rm_X9_forget : Room := { frames := 1, cells := 0, slots := 0, locals := 20 }
set_option maxHeartbeats 4000000 in
set_option maxRecDepth 100000 in
theorem c_X9_forget (l : Launch) (D : va_G) (cI cJ cZ : ClassId) (xa : Nat → Nat) (sz : Nat) (si : Sgt) : Met l yX9_forget wsX9_forget rm_X9_forget (va_Pc [.ref (xa 0)] (PU D (tyL cI cJ cZ) (wXo xa ++ wSgt (xa 22) (xa 23) (xa 24) (xa 25) cI si) sz)) (va_Qi (fun (rz : Int32) (uz : Sgt) => rz = si.2.2.2 ∧ uz = (si.1, si.2.1, si.2.2.1, 0)) (fun uz => BU D (wXo xa ++ wSgt (xa 22) (xa 23) (xa 24) (xa 25) cI uz) (va_A (wXo xa ++ wSgt (xa 22) (xa 23) (xa 24) (xa 25) cI si) sz)) (va_A (wXo xa ++ wSgt (xa 22) (xa 23) (xa 24) (xa 25) cI si) sz)) 0 0 (va_A (wXo xa ++ wSgt (xa 22) (xa 23) (xa 24) (xa 25) cI si) sz) := by
  refine en (own := RX9) (Qc := fun A => va_Qi (fun (rz : Int32) (uz : Sgt) => rz = si.2.2.2 ∧ uz = (si.1, si.2.1, si.2.2.1, 0)) (fun uz => BU D (wXo xa ++ wSgt (xa 22) (xa 23) (xa 24) (xa 25) cI uz) A) A) (by decide) rfl (Nat.le_of_ble_eq_true rfl) rfl ?_
  intro p e s m args below meth c A Q H locs ls hx hb hr hml hown hts hlocks hname hA hN hE hK hQ hP hD hS hl
  have hl : lv_has ls 2 [(0, .ref (xa 0))] := hl
  have fl_43 := hts (.fieldLink RX9 43 "DanceStaffs" "sightings" "LDanceStaffs$Sightings;") (by decide +kernel)
  have hin_9 : ∀ w ∈ u_ws RX9 TX9 13, w ∈ wsX9_forget := by decide +kernel
  have hin_4 : ∀ w ∈ u_ws RX4 TX4 4, w ∈ wsX9_forget := by decide +kernel
  refine lv_aload_n hx hb dX9_forget_0 rfl (lv_at hl 0 rfl) ?_
  refine va_get (D := D) (ci := 9) (v := .ref (xa 22)) (C := RX9) (T := TX9) (N := 13) hx hb hts hin_9 hown hK hP 0 rfl rfl 5 (by decide) fl_43 (fun _ h9 => h9) rfl dX9_forget_1 ?_
  refine va_getN (D := D) (ci := 4) (v := .int si.2.2.2) (C := RX4) (T := TX4) (N := 4) hx hb hts hin_4 hown hK hP 1 rfl rfl 3 (by decide) (nw_fuse hN 26 rfl) (fun _ h9 => h9) rfl dX9_forget_4 ?_
  refine lv_istore_n (lv' := [(1, .int si.2.2.2), (0, .ref (xa 0))]) hx hb dX9_forget_7 rfl hl (by decide) rfl (fun ls hl => ?_)
  refine lv_aload_n hx hb dX9_forget_8 rfl (lv_at hl 1 rfl) ?_
  refine va_get (D := D) (ci := 9) (v := .ref (xa 22)) (C := RX9) (T := TX9) (N := 13) hx hb hts hin_9 hown hK hP 0 rfl rfl 5 (by decide) fl_43 (fun _ h9 => h9) rfl dX9_forget_9 ?_
  refine jn_v (W2 := fun u_12 => wXo xa ++ wSgt (xa 22) (xa 23) (xa 24) (xa 25) cI u_12) (va_runV (As := []) (rest := []) ⟨hx, hb, hml, hown, hts⟩ (c_X4_empty l D cI cJ cZ (xa 22) (xa 23) (xa 24) (xa 25) H.size si) (cwV 0 hts gX9_forget_X4_empty rfl rfl rfl (by decide +kernel) ⟨Nat.le_of_ble_eq_true rfl, Nat.le_of_ble_eq_true rfl⟩) (pr_V hP hD hK hN hE hS hA [1, 2, 3, 4] (by decide) rfl (ci := 4) (q0 := 1) rfl rfl) rfl rfl hl.1 rfl (lv_room (Nat.le_of_ble_eq_true rfl)) dX9_forget_12 ⟨Nat.zero_le _, Nat.zero_le _⟩) hP hD hS hA [1, 2, 3, 4] [0] [0, 1, 2, 3, 4] rfl rfl (by decide) (by decide) (by decide) (fun _ => rfl) (fun u_12 H locs hw_12 hP hD hS => ?_)
  have hP : va_P D vwCl (wXo xa ++ wSgt (xa 22) (xa 23) (xa 24) (xa 25) cI u_12) H := hP
  have hD : va_D A (wXo xa ++ wSgt (xa 22) (xa 23) (xa 24) (xa 25) cI u_12) := hD
  have hu_12 := hw_12
  refine lv_iload_n hx hb dX9_forget_15 rfl (lv_at hl 0 rfl) ?_
  exact lf_i hx hb hr hlocks hQ u_12 hP hD hS dX9_forget_16 ⟨(by first | rfl | exact hu_12), (by first | rfl | exact hu_12)⟩
