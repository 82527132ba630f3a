/-! the law, from its entry -/
set_option maxHeartbeats 4000000 in
set_option maxRecDepth 100000 in
theorem whole_start {p : Program} {e : Env} {s : State} {m : MethodId} {below : List Frame} {meth : Method} {c : Code} (l : Launch) (hflags : l.flags = flags0) {b L : Nat} {xs : Nat → Int32} (hL : L ≤ 3584) (C0 : lw_At p s m meth c b L xs) : W p l e room_1 s m #[Value.ref b] below meth c s.heap [] 0 0 (lw_Z below #[Value.ref b] s) (entryFrame m ([Value.ref b] : List Value).toArray 4) := by
  obtain ⟨hx, hb, hr, hml, hown, htb, hX, hbl, hlocks, hgv⟩ := id C0
  have hts : ∀ w ∈ wsL_law, w.before #[Value.ref b] s = true := fun w hw => htb w (wsL_law_in w hw)
  have hA : ∀ q : Nat, s.heap.size ≤ q → (fun q : Nat => s.heap.size ≤ q) q := fun _ h => h
  obtain ⟨D, cI, cJ, cZ, hK⟩ := law_K htb law_in
  have hN := law_N htb
  have hE := law_S htb hgv
  have hS : va_S (fun q : Nat => s.heap.size ≤ q) s.heap s.heap [] := va_S.rf
  have hP : va_P D vwCl [] s.heap := fun k q h => by simp at h
  have hD : va_D (fun q : Nat => s.heap.size ≤ q) [] := ⟨fun i j p q h => by simp at h, fun k q h => by simp at h⟩
  have hl := lv_entry ([.ref b]) (n := 4) (Nat.le_of_ble_eq_true rfl)
  rw [lg_entry_eq]
  generalize (lg_sl ([.ref b]) ++ List.replicate (4 - (lg_sl ([.ref b])).length) Slot.unset).toArray = ls at hl ⊢
  have hl : lv_has ls 4 [(0, .ref b)] := hl
  refine va_new (ci := 9) (fs := [.null, .null, .null, .null, .null, .null, .null, .null, .null, .null, .null, .null, .null]) (C := RX9) (T := TX9) (N := 13) hx hb htb (law_in 9 _ rfl) tyX9 tyX9_ok hown (htb (.classLink RL 7 RX9) (by decide +kernel)) (htb (.instantiable RX9 13) (by decide +kernel)) (htb (.initialized RX9) (by decide +kernel)) hK hP hD hS hA rfl (fun j hj => by rcases (show j = 0 ∨ j = 1 ∨ j = 2 ∨ j = 3 ∨ j = 4 ∨ j = 5 ∨ j = 6 ∨ j = 7 ∨ j = 8 ∨ j = 9 ∨ j = 10 ∨ j = 11 ∨ j = 12 by omega) with rfl | rfl | rfl | rfl | rfl | rfl | rfl | rfl | rfl | rfl | rfl | rfl | rfl <;> rfl) (Nat.le_of_ble_eq_true rfl) (Nat.le_of_ble_eq_true rfl) dL_law_0 (fun q0 H hP hD hS => ?_)
  have hP : va_P D vwCl ([] ++ [(q0, .inr (9, [.null, .null, .null, .null, .null, .null, .null, .null, .null, .null, .null, .null, .null]))]) H := hP
  refine lv_dup hx hb dL_law_3 rfl ?_
  refine jb_v (Rw := []) (W2 := fun xa => xW0 xa cI cJ) (va_runI (As := []) (rest := [.ref q0]) ⟨hx, hb, hml, hown, hts⟩ (c_X9_init l D cI cJ cZ q0 H.size) (cwI 0 hts gL_law_X9_init rfl rfl rfl (htb (.initialized RX9) (by decide +kernel)) (htb (.methodLink RL 9 yX9_init) (by decide +kernel)) (htb (.instanceMethod yX9_init) (by decide +kernel)) rfl (by decide +kernel) ⟨Nat.le_of_ble_eq_true rfl, Nat.le_of_ble_eq_true rfl⟩) (pr_SB (Rw := []) hP hD hK hN hE hS hA (List.Perm.refl _)) rfl rfl hl.1 rfl (lv_room (Nat.le_of_ble_eq_true rfl)) dL_law_4 ⟨Nat.le_of_ble_eq_true rfl, Nat.le_of_ble_eq_true rfl⟩) hP hD hS hA (List.Perm.refl _) (fun _ => List.Perm.refl _) (fun xa H locs hw hP9 hD9 hS9 => ?_)
  have hw : xa 0 = q0 := hw
  subst hw
  have hP := hP9
  have hD := hD9
  have hS := hS9
  have hP : va_P D vwCl (xW0 xa cI cJ) H := hP
  have hD : va_D (fun q : Nat => s.heap.size ≤ q) (xW0 xa cI cJ) := hD
  refine lv_astore_n (lv' := [(1, .ref (xa 0)), (0, .ref b)]) hx hb dL_law_7 rfl hl (by decide) rfl (fun ls hl => ?_)
  refine va_new (ci := 10) (fs := [.int 0, .null, .null, .null, .null, .int 0, .int 0, .null, .int 0, .null, .null, .null, .null, .int 0, .null, .int 0, .int 0, .int 0, .int 0, .int 0, .int 0, .null, .null, .null, .null, .int 0, .int 0, .int 0, .int 0, .null, .null, .null, .null, .int 0, .null, .null, .null]) (C := RX10) (T := TX10) (N := 37) hx hb htb (law_in 10 _ rfl) tyX10 tyX10_ok hown (htb (.classLink RL 10 RX10) (by decide +kernel)) (htb (.instantiable RX10 37) (by decide +kernel)) (htb (.initialized RX10) (by decide +kernel)) hK hP hD hS hA rfl (fun j hj => by rcases (show j = 0 ∨ j = 1 ∨ j = 2 ∨ j = 3 ∨ j = 4 ∨ j = 5 ∨ j = 6 ∨ j = 7 ∨ j = 8 ∨ j = 9 ∨ j = 10 ∨ j = 11 ∨ j = 12 ∨ j = 13 ∨ j = 14 ∨ j = 15 ∨ j = 16 ∨ j = 17 ∨ j = 18 ∨ j = 19 ∨ j = 20 ∨ j = 21 ∨ j = 22 ∨ j = 23 ∨ j = 24 ∨ j = 25 ∨ j = 26 ∨ j = 27 ∨ j = 28 ∨ j = 29 ∨ j = 30 ∨ j = 31 ∨ j = 32 ∨ j = 33 ∨ j = 34 ∨ j = 35 ∨ j = 36 by omega) with rfl | rfl | rfl | rfl | rfl | rfl | rfl | rfl | rfl | rfl | rfl | rfl | rfl | rfl | rfl | rfl | rfl | rfl | rfl | rfl | rfl | rfl | rfl | rfl | rfl | rfl | rfl | rfl | rfl | rfl | rfl | rfl | rfl | rfl | rfl | rfl | rfl <;> rfl) (Nat.le_of_ble_eq_true rfl) (Nat.le_of_ble_eq_true rfl) dL_law_8 (fun q1 H hP hD hS => ?_)
  refine lv_dup hx hb dL_law_11 rfl ?_
  refine jb_v (Rw := xW0 xa cI cJ) (W2 := fun a => xW0 xa cI cJ ++ wM a cI cZ (fun _ => 0, fun _ => fun _ => 0)) (va_runI (As := []) (rest := [.ref q1]) ⟨hx, hb, hml, hown, hts⟩ (c_X10_init l D cI cJ cZ q1 H.size) (cwI 0 hts gL_law_X10_init rfl rfl rfl (htb (.initialized RX10) (by decide +kernel)) (htb (.methodLink RL 12 yX10_init) (by decide +kernel)) (htb (.instanceMethod yX10_init) (by decide +kernel)) rfl (by decide +kernel) ⟨Nat.le_of_ble_eq_true rfl, Nat.le_of_ble_eq_true rfl⟩) (pr_SB (Rw := xW0 xa cI cJ) hP hD hK hN hE hS hA (List.Perm.refl _)) rfl rfl hl.1 rfl (lv_room (Nat.le_of_ble_eq_true rfl)) dL_law_12 ⟨Nat.le_of_ble_eq_true rfl, Nat.le_of_ble_eq_true rfl⟩) hP hD hS hA (List.Perm.refl _) (fun _ => List.Perm.refl _) (fun a H locs hw hP9 hD9 hS9 => ?_)
  have hw : a 0 = q1 := hw
  subst hw
  have hP := hP9
  have hD := hD9
  have hS := hS9
  refine lv_astore_n (lv' := [(2, .ref (a 0)), (1, .ref (xa 0)), (0, .ref b)]) hx hb dL_law_15 rfl hl (by decide) rfl (fun ls hl => ?_)
  refine lv_iconst (v := 0) hx hb dL_law_16 (by decide) ?_
  refine lv_istore_n (lv' := [(3, .int (nI 0)), (2, .ref (a 0)), (1, .ref (xa 0)), (0, .ref b)]) hx hb dL_law_17 rfl hl (by decide) rfl (fun ls hl => ?_)
  have eW : LW cI cJ cZ a xa xv0.1 xv0.2.1 xv0.2.2.1 xv0.2.2.2.1 xv0.2.2.2.2.1 xv0.2.2.2.2.2.1 xv0.2.2.2.2.2.2.1 xv0.2.2.2.2.2.2.2.1 xv0.2.2.2.2.2.2.2.2.1 xv0.2.2.2.2.2.2.2.2.2.1 xv0.2.2.2.2.2.2.2.2.2.2.1 xv0.2.2.2.2.2.2.2.2.2.2.2.1 xv0.2.2.2.2.2.2.2.2.2.2.2.2 (fun _ => 0, fun _ => fun _ => 0) = xW0 xa cI cJ ++ wM a cI cZ (fun _ => 0, fun _ => fun _ => 0) := fl15 _ _ _ _ _ _ _ _ _ _ _ _ _ _ _
  rw [← eW] at hP hD
  exact law_loop hL C0 hK hN hE (L + 1) 0 (Nat.zero_le L) (by omega) xa xv0.1 xv0.2.1 xv0.2.2.1 xv0.2.2.2.1 xv0.2.2.2.2.1 xv0.2.2.2.2.2.1 xv0.2.2.2.2.2.2.1 xv0.2.2.2.2.2.2.2.1 xv0.2.2.2.2.2.2.2.2.1 xv0.2.2.2.2.2.2.2.2.2.1 xv0.2.2.2.2.2.2.2.2.2.2.1 xv0.2.2.2.2.2.2.2.2.2.2.2.1 xv0.2.2.2.2.2.2.2.2.2.2.2.2 (fun _ => 0, fun _ => fun _ => 0) R_0 H locs hP hD hS ls (lv_sub hl [3, 2, 1, 0] rfl)
