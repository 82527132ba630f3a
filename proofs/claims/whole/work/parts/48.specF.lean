/-! standings by numbers: how far the wanted one is -/
def SOk (v : Stg) : Prop := (0 ≤ v.1.toInt ∧ v.1.toInt ≤ 6) ∧ (0 ≤ v.2.1.toInt ∧ v.2.1.toInt ≤ 6) ∧ (0 ≤ v.2.2.1.toInt ∧ v.2.2.1.toInt ≤ 7) ∧ (0 ≤ v.2.2.2.toInt ∧ v.2.2.2.toInt ≤ 2)
def TOk (x y w : Int32) : Prop := (0 ≤ x.toInt ∧ x.toInt ≤ 6) ∧ (0 ≤ y.toInt ∧ y.toInt ≤ 6) ∧ (0 ≤ w.toInt ∧ w.toInt ≤ 7)
def ldV (v : Stg) (g : Int32) : Bool := ldB v.1 v.2.1 v.2.2.1 v.2.2.2 g
def ldS (v : Stg) (g : Int32) : Stg := (ldX v.1 v.2.2.1 g, ldY v.2.1 v.2.2.1 g, ldL v.2.2.1 g, ldW v.2.2.2 g)
def idx (v : Stg) : Int32 := (((v.1 * 7) + v.2.1) * 8 + v.2.2.1) * 3 + v.2.2.2
def dcd (t : Int32) : Stg := (t / 24 / 7, t / 24 - t / 24 / 7 * 7, t / 3 - t / 3 / 8 * 8, t - t / 3 * 3)
theorem nI_ofI {x : Int32} (h : 0 ≤ x.toInt) : ∃ j : Nat, (j : Int) = x.toInt ∧ x = nI j := by
  obtain ⟨j, hj, rfl⟩ := nI_of (x := x) (fun q => by have := i_lt q; rw [li_0] at this; omega)
  exact ⟨j, by rw [nIT (by omega)], rfl⟩
theorem dcd_nI {t : Nat} (h : t < 1176) : dcd (nI t) = (nI (t / 24 / 7), nI (t / 24 % 7), nI (t / 3 % 8), nI (t % 3)) := by
  have e1 : nI t / 24 = nI (t / 24) := pk_div (d := 24) (by omega) (by decide) (by decide)
  have e2 : nI t / 3 = nI (t / 3) := pk_div (d := 3) (by omega) (by decide) (by decide)
  have e3 : nI (t / 24) / 7 = nI (t / 24 / 7) := pk_div (d := 7) (by omega) (by decide) (by decide)
  have e4 : nI (t / 24) - nI (t / 24) / 7 * 7 = nI (t / 24 % 7) := pk_rem (d := 7) (by omega) (by decide) (by decide)
  have e5 : nI (t / 3) - nI (t / 3) / 8 * 8 = nI (t / 3 % 8) := pk_rem (d := 8) (by omega) (by decide) (by decide)
  have e6 : nI t - nI t / 3 * 3 = nI (t % 3) := pk_rem (d := 3) (by omega) (by decide) (by decide)
  unfold dcd
  rw [e6, e1, e4, e3, e2, e5]
theorem dcd_ok {t : Nat} (h : t < 1176) : SOk (dcd (nI t)) := by
  rw [dcd_nI h]
  refine ⟨?_, ?_, ?_, ?_⟩
  · show 0 ≤ (nI (t / 24 / 7)).toInt ∧ (nI (t / 24 / 7)).toInt ≤ 6
    rw [nIT (by omega)]; omega
  · show 0 ≤ (nI (t / 24 % 7)).toInt ∧ (nI (t / 24 % 7)).toInt ≤ 6
    rw [nIT (by omega)]; omega
  · show 0 ≤ (nI (t / 3 % 8)).toInt ∧ (nI (t / 3 % 8)).toInt ≤ 7
    rw [nIT (by omega)]; omega
  · show 0 ≤ (nI (t % 3)).toInt ∧ (nI (t % 3)).toInt ≤ 2
    rw [nIT (by omega)]; omega
theorem idx_int {v : Stg} (h : SOk v) : (idx v).toInt = ((v.1.toInt * 7 + v.2.1.toInt) * 8 + v.2.2.1.toInt) * 3 + v.2.2.2.toInt := by
  obtain ⟨a, b, c, d⟩ := h
  have e1 : (v.1 * 7).toInt = v.1.toInt * 7 := by rw [ti_mul (by rw [li_7]; omega) (by rw [li_7]; omega), li_7]
  have e2 : (v.1 * 7 + v.2.1).toInt = v.1.toInt * 7 + v.2.1.toInt := by rw [ti_add (by rw [e1]; omega) (by rw [e1]; omega), e1]
  have e3 : ((v.1 * 7 + v.2.1) * 8).toInt = (v.1.toInt * 7 + v.2.1.toInt) * 8 := by rw [ti_mul (by rw [e2, li_8]; omega) (by rw [e2, li_8]; omega), e2, li_8]
  have e4 : ((v.1 * 7 + v.2.1) * 8 + v.2.2.1).toInt = (v.1.toInt * 7 + v.2.1.toInt) * 8 + v.2.2.1.toInt := by rw [ti_add (by rw [e3]; omega) (by rw [e3]; omega), e3]
  have e5 : (((v.1 * 7 + v.2.1) * 8 + v.2.2.1) * 3).toInt = ((v.1.toInt * 7 + v.2.1.toInt) * 8 + v.2.2.1.toInt) * 3 := by rw [ti_mul (by rw [e4, li_3]; omega) (by rw [e4, li_3]; omega), e4, li_3]
  unfold idx
  rw [ti_add (by rw [e5]; omega) (by rw [e5]; omega), e5]
theorem idx_nI {v : Stg} (h : SOk v) : ∃ j : Nat, j < 1176 ∧ idx v = nI j ∧ dcd (nI j) = v := by
  have e := idx_int h
  obtain ⟨a, b, c, d⟩ := h
  obtain ⟨j, hj, ej⟩ := nI_ofI (x := idx v) (by omega)
  have hj2 : j < 1176 := by omega
  refine ⟨j, hj2, ej, ?_⟩
  rw [dcd_nI hj2]
  obtain ⟨v1, v2, v3, v4⟩ := v
  show (nI (j / 24 / 7), nI (j / 24 % 7), nI (j / 3 % 8), nI (j % 3)) = (v1, v2, v3, v4)
  have f : (j : Int) = ((v1.toInt * 7 + v2.toInt) * 8 + v3.toInt) * 3 + v4.toInt := hj.trans e
  have a' : 0 ≤ v1.toInt ∧ v1.toInt ≤ 6 := a
  have b' : 0 ≤ v2.toInt ∧ v2.toInt ≤ 6 := b
  have c' : 0 ≤ v3.toInt ∧ v3.toInt ≤ 7 := c
  have d' : 0 ≤ v4.toInt ∧ v4.toInt ≤ 2 := d
  have g1 : nI (j / 24 / 7) = v1 := Int32.toInt_inj.mp (by rw [nIT (by omega)]; omega)
  have g2 : nI (j / 24 % 7) = v2 := Int32.toInt_inj.mp (by rw [nIT (by omega)]; omega)
  have g3 : nI (j / 3 % 8) = v3 := Int32.toInt_inj.mp (by rw [nIT (by omega)]; omega)
  have g4 : nI (j % 3) = v4 := Int32.toInt_inj.mp (by rw [nIT (by omega)]; omega)
  rw [g1, g2, g3, g4]
theorem dcd_idx {v : Stg} (h : SOk v) : dcd (idx v) = v := by
  obtain ⟨j, _, e, f⟩ := idx_nI h
  rw [e, f]
theorem idx_in {v : Stg} (h : SOk v) : vp_in (idx v) 1176 := by
  obtain ⟨j, hj, e, _⟩ := idx_nI h
  rw [e]
  exact vi_mk (by rw [nIT (by omega)]; omega) (by rw [nIT (by omega)]; omega)
theorem idx_lt {v : Stg} (h : SOk v) : (idx v).toNatClampNeg < 1176 ∧ dcd (nI (idx v).toNatClampNeg) = v := by
  obtain ⟨j, hj, e, f⟩ := idx_nI h
  rw [e, nI_clamp (by omega)]
  exact ⟨hj, f⟩
theorem stX_1 (k : Int32) : -1 ≤ (stX k).toInt ∧ (stX k).toInt ≤ 1 := by
  unfold stX
  split
  · decide
  · split
    · decide
    · decide
theorem ldK_in : ∀ s : Fin 24, 0 ≤ (ldK (nI (s.val + 2))).toInt ∧ (ldK (nI (s.val + 2))).toInt ≤ 2 := by decide +kernel
/-- the three kinds of signs -/
theorem sg_cases {s : Nat} (h : s < 32) : (s = 0 ∧ nI (s + 1) < 26 ∧ nI (s + 1) < 2 ∧ nI (s + 1) = 1) ∨ (1 ≤ s ∧ s ≤ 24 ∧ nI (s + 1) < 26 ∧ ¬ nI (s + 1) < 2) ∨ (25 ≤ s ∧ ¬ nI (s + 1) < 26) := by
  have a : nI (s + 1) < 26 ↔ s + 1 < 26 := nI_ltI (a := s + 1) (b := 26) (by omega) (by decide)
  have b : nI (s + 1) < 2 ↔ s + 1 < 2 := nI_ltI (a := s + 1) (b := 2) (by omega) (by decide)
  rw [a, b]
  by_cases h0 : s = 0
  · subst h0; exact Or.inl ⟨rfl, by decide, by decide, rfl⟩
  · by_cases h1 : s ≤ 24
    · exact Or.inr (Or.inl ⟨by omega, h1, by omega, by omega⟩)
    · exact Or.inr (Or.inr ⟨by omega, by omega⟩)
theorem ldG_in {x y w g : Int32} (h : ldG x y w g = true) : (0 ≤ (x + stX (ldD w g)).toInt ∧ (x + stX (ldD w g)).toInt ≤ 6) ∧ (0 ≤ (y + stY (ldD w g)).toInt ∧ (y + stY (ldD w g)).toInt ≤ 6) := by
  unfold ldG at h
  by_cases h1 : inR (x + stX (ldD w g)) 0 6 = true
  · rw [if_pos h1] at h
    by_cases h2 : inR (y + stY (ldD w g)) 0 6 = true
    · obtain ⟨a, b⟩ := inR_in h1
      obtain ⟨c, d⟩ := inR_in h2
      rw [li_0] at a c
      rw [li_6] at b d
      exact ⟨⟨a, b⟩, ⟨c, d⟩⟩
    · rw [if_neg h2] at h; exact absurd h (by decide)
  · rw [if_neg h1] at h; exact absurd h (by decide)
theorem trn_int {l : Int32} (hl : 0 ≤ l.toInt ∧ l.toInt ≤ 7) {s : Nat} (h1 : 25 ≤ s) (h2 : s < 32) : (l + nI (s + 1) - 26 + 1).toInt = l.toInt + (s : Int) - 24 := by
  have e0 : (nI (s + 1)).toInt = (s : Int) + 1 := by rw [nIT (by omega)]; omega
  have k : (26 : Int32).toInt = 26 := by decide
  have e1 : (l + nI (s + 1)).toInt = l.toInt + ((s : Int) + 1) := by rw [ti_add (by rw [e0]; omega) (by rw [e0]; omega), e0]
  have e2 : (l + nI (s + 1) - 26).toInt = l.toInt + ((s : Int) + 1) - 26 := by rw [ti_sub (by rw [e1, k]; omega) (by rw [e1, k]; omega), e1, k]
  rw [ti_add (by rw [e2, li_1]; omega) (by rw [e2, li_1]; omega), e2, li_1]; omega
theorem ldL_turn {l : Int32} (hl : 0 ≤ l.toInt ∧ l.toInt ≤ 7) {s : Nat} (h1 : 25 ≤ s) (h2 : s < 32) (h3 : ¬ nI (s + 1) < 26) : ldL l (nI (s + 1)) = nI ((l.toInt + (s : Int) - 24).toNat % 8) := by
  unfold ldL
  rw [if_neg h3]
  have e := trn_int hl h1 h2
  have r := rm_eq (x := l + nI (s + 1) - 26 + 1) (by omega) 8 (by decide) (by decide)
  rw [e] at r
  exact r
theorem ldS_ok {v : Stg} (hv : SOk v) {s : Nat} (hs : s < 32) (h : ldV v (nI (s + 1)) = true) : SOk (ldS v (nI (s + 1))) := by
  obtain ⟨a, b, c, d⟩ := hv
  unfold ldV ldB at h
  rcases sg_cases hs with ⟨s0, h1, h2, h3⟩ | ⟨s1, s2, h1, h2⟩ | ⟨s1, h1⟩
  · refine ⟨?_, ?_, ?_, ?_⟩
    · show 0 ≤ (ldX v.1 v.2.2.1 (nI (s + 1))).toInt ∧ (ldX v.1 v.2.2.1 (nI (s + 1))).toInt ≤ 6
      unfold ldX; rw [if_pos h1, if_pos h2]; exact a
    · show 0 ≤ (ldY v.2.1 v.2.2.1 (nI (s + 1))).toInt ∧ (ldY v.2.1 v.2.2.1 (nI (s + 1))).toInt ≤ 6
      unfold ldY; rw [if_pos h1, if_pos h2]; exact b
    · show 0 ≤ (ldL v.2.2.1 (nI (s + 1))).toInt ∧ (ldL v.2.2.1 (nI (s + 1))).toInt ≤ 7
      unfold ldL; rw [if_pos h1]; exact c
    · show 0 ≤ (ldW v.2.2.2 (nI (s + 1))).toInt ∧ (ldW v.2.2.2 (nI (s + 1))).toInt ≤ 2
      unfold ldW; rw [if_pos h1, if_pos h2, if_pos h3]; decide
  · rw [if_pos h1, if_neg h2] at h
    have hG : ldG v.1 v.2.1 v.2.2.1 (nI (s + 1)) = true := by
      by_cases q1 : 1 < ldK (nI (s + 1))
      · rw [if_pos q1] at h; exact h
      · rw [if_neg q1] at h
        by_cases q2 : v.2.2.2 = ldK (nI (s + 1))
        · rw [if_pos q2] at h; exact absurd h (by decide)
        · rw [if_neg q2] at h; exact h
    obtain ⟨e1, e2⟩ := ldG_in hG
    refine ⟨?_, ?_, ?_, ?_⟩
    · show 0 ≤ (ldX v.1 v.2.2.1 (nI (s + 1))).toInt ∧ (ldX v.1 v.2.2.1 (nI (s + 1))).toInt ≤ 6
      unfold ldX; rw [if_pos h1, if_neg h2]; exact e1
    · show 0 ≤ (ldY v.2.1 v.2.2.1 (nI (s + 1))).toInt ∧ (ldY v.2.1 v.2.2.1 (nI (s + 1))).toInt ≤ 6
      unfold ldY; rw [if_pos h1, if_neg h2]; exact e2
    · show 0 ≤ (ldL v.2.2.1 (nI (s + 1))).toInt ∧ (ldL v.2.2.1 (nI (s + 1))).toInt ≤ 7
      unfold ldL; rw [if_pos h1]; exact c
    · show 0 ≤ (ldW v.2.2.2 (nI (s + 1))).toInt ∧ (ldW v.2.2.2 (nI (s + 1))).toInt ≤ 2
      unfold ldW; rw [if_pos h1, if_neg h2]
      have k := ldK_in ⟨s - 1, by omega⟩
      rw [show (⟨s - 1, by omega⟩ : Fin 24).val + 2 = s + 1 from by show s - 1 + 2 = s + 1; omega] at k
      exact k
  · refine ⟨?_, ?_, ?_, ?_⟩
    · show 0 ≤ (ldX v.1 v.2.2.1 (nI (s + 1))).toInt ∧ (ldX v.1 v.2.2.1 (nI (s + 1))).toInt ≤ 6
      unfold ldX; rw [if_neg h1]; exact a
    · show 0 ≤ (ldY v.2.1 v.2.2.1 (nI (s + 1))).toInt ∧ (ldY v.2.1 v.2.2.1 (nI (s + 1))).toInt ≤ 6
      unfold ldY; rw [if_neg h1]; exact b
    · show 0 ≤ (ldL v.2.2.1 (nI (s + 1))).toInt ∧ (ldL v.2.2.1 (nI (s + 1))).toInt ≤ 7
      rw [ldL_turn c s1 hs h1, nIT (by omega)]; omega
    · show 0 ≤ (ldW v.2.2.2 (nI (s + 1))).toInt ∧ (ldW v.2.2.2 (nI (s + 1))).toInt ≤ 2
      unfold ldW; rw [if_neg h1]; exact d
theorem ab_int {x : Int32} (h : -1000 ≤ x.toInt ∧ x.toInt ≤ 1000) : (ab x).toInt = (x.toInt.natAbs : Int) := by
  unfold ab
  by_cases q : 0 ≤ x
  · have := i_le q; rw [li_0] at this; rw [if_pos q]; omega
  · have := i_nle q; rw [li_0] at this; rw [if_neg q, ti_sub (by rw [li_0]; omega) (by rw [li_0]; omega), li_0]; omega
theorem mx_int (x y : Int32) : (mx x y).toInt = max x.toInt y.toInt := by
  unfold mx
  by_cases q : x < y
  · have := i_lt q; rw [if_pos q]; omega
  · have := i_nlt q; rw [if_neg q]; omega
theorem sgTo_int {v : Stg} (hv : SOk v) {x y w : Int32} (ht : TOk x y w) : (sgTo v x y w).toInt = max ((x.toInt - v.1.toInt).natAbs : Int) ((y.toInt - v.2.1.toInt).natAbs : Int) + (if w = v.2.2.1 then 0 else 1) := by
  obtain ⟨a, b, c, d⟩ := hv
  obtain ⟨tx, ty, tw⟩ := ht
  have e1 : (x - v.1).toInt = x.toInt - v.1.toInt := ti_sub (by omega) (by omega)
  have e2 : (y - v.2.1).toInt = y.toInt - v.2.1.toInt := ti_sub (by omega) (by omega)
  have f1 := ab_int (x := x - v.1) (by omega)
  have f2 := ab_int (x := y - v.2.1) (by omega)
  have g := mx_int (ab (x - v.1)) (ab (y - v.2.1))
  rw [f1, f2, e1, e2] at g
  unfold sgTo
  by_cases q : w = v.2.2.1
  · rw [if_pos q, if_pos q, g]; omega
  · rw [if_neg q, if_neg q, ti_add (by rw [g, li_1]; omega) (by rw [g, li_1]; omega), g, li_1]
theorem sgTo_in {v : Stg} (hv : SOk v) {x y w : Int32} (ht : TOk x y w) : 0 ≤ (sgTo v x y w).toInt ∧ (sgTo v x y w).toInt ≤ 7 := by
  rw [sgTo_int hv ht]
  obtain ⟨a, b, c, d⟩ := hv
  obtain ⟨tx, ty, tw⟩ := ht
  split <;> omega
theorem ldX_int {v : Stg} (hv : SOk v) {s : Nat} : ((ldX v.1 v.2.2.1 (nI (s + 1))).toInt - v.1.toInt).natAbs ≤ 1 := by
  obtain ⟨a, b, c, d⟩ := hv
  unfold ldX
  have k := stX_1 (ldD v.2.2.1 (nI (s + 1)))
  split
  · split
    · omega
    · rw [ti_add (by omega) (by omega)]; omega
  · omega
theorem ldY_int {v : Stg} (hv : SOk v) {s : Nat} : ((ldY v.2.1 v.2.2.1 (nI (s + 1))).toInt - v.2.1.toInt).natAbs ≤ 1 := by
  obtain ⟨a, b, c, d⟩ := hv
  unfold ldY
  have k : -1 ≤ (stY (ldD v.2.2.1 (nI (s + 1)))).toInt ∧ (stY (ldD v.2.2.1 (nI (s + 1)))).toInt ≤ 1 := stX_1 (ldD v.2.2.1 (nI (s + 1)) + 2)
  split
  · split
    · omega
    · rw [ti_add (by omega) (by omega)]; omega
  · omega
/-- one sign brings it nearer by one at most -/
theorem st_L {v : Stg} (hv : SOk v) {x y w : Int32} (ht : TOk x y w) {s : Nat} (hs : s < 32) (h : ldV v (nI (s + 1)) = true) : (sgTo v x y w).toInt ≤ (sgTo (ldS v (nI (s + 1))) x y w).toInt + 1 := by
  have ho := ldS_ok hv hs h
  have ex := ldX_int hv (s := s)
  have ey := ldY_int hv (s := s)
  rw [sgTo_int hv ht, sgTo_int ho ht]
  show max ((x.toInt - v.1.toInt).natAbs : Int) ((y.toInt - v.2.1.toInt).natAbs : Int) + (if w = v.2.2.1 then 0 else 1) ≤ max ((x.toInt - (ldX v.1 v.2.2.1 (nI (s + 1))).toInt).natAbs : Int) ((y.toInt - (ldY v.2.1 v.2.2.1 (nI (s + 1))).toInt).natAbs : Int) + (if w = ldL v.2.2.1 (nI (s + 1)) then 0 else 1) + 1
  rcases sg_cases hs with ⟨s0, h1, h2, h3⟩ | ⟨s1, s2, h1, h2⟩ | ⟨s1, h1⟩
  · have e : ldL v.2.2.1 (nI (s + 1)) = v.2.2.1 := by unfold ldL; rw [if_pos h1]
    rw [e]; split <;> omega
  · have e : ldL v.2.2.1 (nI (s + 1)) = v.2.2.1 := by unfold ldL; rw [if_pos h1]
    rw [e]; split <;> omega
  · have e1 : ldX v.1 v.2.2.1 (nI (s + 1)) = v.1 := by unfold ldX; rw [if_neg h1]
    have e2 : ldY v.2.1 v.2.2.1 (nI (s + 1)) = v.2.1 := by unfold ldY; rw [if_neg h1]
    rw [e1, e2]; split <;> split <;> omega
theorem dirs : ∀ l : Fin 8, ∀ a b : Fin 3, ¬ (a = 1 ∧ b = 1) → ∃ d : Fin 8, (stX (ldD (nI l.val) (nI (d.val + 17 + 1)))).toInt = (a.val : Int) - 1 ∧ (stY (ldD (nI l.val) (nI (d.val + 17 + 1)))).toInt = (b.val : Int) - 1 := by decide +kernel
theorem leapK : ∀ d : Fin 8, 1 < ldK (nI (d.val + 17 + 1)) := by decide +kernel
theorem inR_mk {v : Int32} (h : 0 ≤ v.toInt ∧ v.toInt ≤ 6) : inR v 0 6 = true := by
  unfold inR
  rw [if_neg (fun q => by have := i_lt q; rw [li_0] at this; omega), if_neg (fun q => by have := i_lt q; rw [li_6] at this; omega)]
/-- there is a sign that brings it nearer -/
theorem st_E {v : Stg} (hv : SOk v) {x y w : Int32} (ht : TOk x y w) (hp : 0 < (sgTo v x y w).toInt) : ∃ s : Nat, s < 32 ∧ ldV v (nI (s + 1)) = true ∧ (sgTo (ldS v (nI (s + 1))) x y w).toInt + 1 = (sgTo v x y w).toInt := by
  have hv0 := hv
  have ht0 := ht
  obtain ⟨a, b, c, d⟩ := hv
  obtain ⟨tx, ty, tw⟩ := ht
  by_cases q : w = v.2.2.1
  · have hp2 := hp
    rw [sgTo_int hv0 ht0, if_pos q] at hp2
    obtain ⟨l, hl, el⟩ := nI_ofI c.1
    have hA : ∃ A : Fin 3, (A.val : Int) - 1 = (x.toInt - v.1.toInt).sign := by
      by_cases q1 : x.toInt - v.1.toInt = 0
      · exact ⟨1, by rw [q1]; rfl⟩
      · by_cases q2 : 0 < x.toInt - v.1.toInt
        · exact ⟨2, by rw [Int.sign_eq_one_of_pos q2]; rfl⟩
        · exact ⟨0, by rw [Int.sign_eq_neg_one_of_neg (by omega)]; rfl⟩
    have hB : ∃ A : Fin 3, (A.val : Int) - 1 = (y.toInt - v.2.1.toInt).sign := by
      by_cases q1 : y.toInt - v.2.1.toInt = 0
      · exact ⟨1, by rw [q1]; rfl⟩
      · by_cases q2 : 0 < y.toInt - v.2.1.toInt
        · exact ⟨2, by rw [Int.sign_eq_one_of_pos q2]; rfl⟩
        · exact ⟨0, by rw [Int.sign_eq_neg_one_of_neg (by omega)]; rfl⟩
    obtain ⟨A, eA⟩ := hA
    obtain ⟨B, eB⟩ := hB
    have sgx : ((x.toInt - v.1.toInt).sign = 1 ∧ 0 < x.toInt - v.1.toInt) ∨ ((x.toInt - v.1.toInt).sign = -1 ∧ x.toInt - v.1.toInt < 0) ∨ ((x.toInt - v.1.toInt).sign = 0 ∧ x.toInt - v.1.toInt = 0) := by
      by_cases q1 : x.toInt - v.1.toInt = 0
      · exact Or.inr (Or.inr ⟨by rw [q1]; rfl, q1⟩)
      · by_cases q2 : 0 < x.toInt - v.1.toInt
        · exact Or.inl ⟨Int.sign_eq_one_of_pos q2, q2⟩
        · exact Or.inr (Or.inl ⟨Int.sign_eq_neg_one_of_neg (by omega), by omega⟩)
    have sgy : ((y.toInt - v.2.1.toInt).sign = 1 ∧ 0 < y.toInt - v.2.1.toInt) ∨ ((y.toInt - v.2.1.toInt).sign = -1 ∧ y.toInt - v.2.1.toInt < 0) ∨ ((y.toInt - v.2.1.toInt).sign = 0 ∧ y.toInt - v.2.1.toInt = 0) := by
      by_cases q1 : y.toInt - v.2.1.toInt = 0
      · exact Or.inr (Or.inr ⟨by rw [q1]; rfl, q1⟩)
      · by_cases q2 : 0 < y.toInt - v.2.1.toInt
        · exact Or.inl ⟨Int.sign_eq_one_of_pos q2, q2⟩
        · exact Or.inr (Or.inl ⟨Int.sign_eq_neg_one_of_neg (by omega), by omega⟩)
    have hne : ¬ (A = 1 ∧ B = 1) := by
      intro ⟨q1, q2⟩
      rw [q1] at eA
      rw [q2] at eB
      have e1 : (x.toInt - v.1.toInt).sign = 0 := eA.symm
      have e2 : (y.toInt - v.2.1.toInt).sign = 0 := eB.symm
      have z1 := Int.sign_eq_zero_iff_zero.mp e1
      have z2 := Int.sign_eq_zero_iff_zero.mp e2
      omega
    obtain ⟨k, k1, k2⟩ := dirs ⟨l, by omega⟩ A B hne
    have k1' : (stX (ldD v.2.2.1 (nI (k.val + 17 + 1)))).toInt = (x.toInt - v.1.toInt).sign := by rw [← eA, el]; exact k1
    have k2' : (stY (ldD v.2.2.1 (nI (k.val + 17 + 1)))).toInt = (y.toInt - v.2.1.toInt).sign := by rw [← eB, el]; exact k2
    have hk := k.isLt
    have h1 : nI (k.val + 17 + 1) < 26 := (nI_ltI (a := k.val + 17 + 1) (b := 26) (by omega) (by decide)).mpr (by omega)
    have h2 : ¬ nI (k.val + 17 + 1) < 2 := fun q => by have := (nI_ltI (a := k.val + 17 + 1) (b := 2) (by omega) (by decide)).mp q; omega
    have ex : (v.1 + stX (ldD v.2.2.1 (nI (k.val + 17 + 1)))).toInt = v.1.toInt + (x.toInt - v.1.toInt).sign := by rw [ti_add (by rw [k1']; omega) (by rw [k1']; omega), k1']
    have ey : (v.2.1 + stY (ldD v.2.2.1 (nI (k.val + 17 + 1)))).toInt = v.2.1.toInt + (y.toInt - v.2.1.toInt).sign := by rw [ti_add (by rw [k2']; omega) (by rw [k2']; omega), k2']
    have hG : ldV v (nI (k.val + 17 + 1)) = true := by
      unfold ldV ldB
      rw [if_pos h1, if_neg h2, if_pos (leapK k)]
      unfold ldG
      rw [if_pos (inR_mk (by rw [ex]; omega)), if_pos (inR_mk (by rw [ey]; omega))]
    refine ⟨k.val + 17, by omega, hG, ?_⟩
    have ho := ldS_ok hv0 (s := k.val + 17) (by omega) hG
    rw [sgTo_int hv0 ht0, sgTo_int ho ht0]
    have eX : (ldS v (nI (k.val + 17 + 1))).1 = v.1 + stX (ldD v.2.2.1 (nI (k.val + 17 + 1))) := by show ldX v.1 v.2.2.1 (nI (k.val + 17 + 1)) = _; unfold ldX; rw [if_pos h1, if_neg h2]
    have eY : (ldS v (nI (k.val + 17 + 1))).2.1 = v.2.1 + stY (ldD v.2.2.1 (nI (k.val + 17 + 1))) := by show ldY v.2.1 v.2.2.1 (nI (k.val + 17 + 1)) = _; unfold ldY; rw [if_pos h1, if_neg h2]
    have eL : (ldS v (nI (k.val + 17 + 1))).2.2.1 = v.2.2.1 := by show ldL v.2.2.1 (nI (k.val + 17 + 1)) = _; unfold ldL; rw [if_pos h1]
    rw [eX, eY, eL, ex, ey, if_pos q]
    omega
  · have hwl : ¬ w.toInt = v.2.2.1.toInt := i_ne q
    have hj : ∃ j : Nat, 1 ≤ j ∧ j ≤ 7 ∧ ((v.2.2.1.toInt + (j : Int)) % 8 = w.toInt) := ⟨((w.toInt - v.2.2.1.toInt) % 8).toNat, by omega, by omega, by omega⟩
    obtain ⟨j, j1, j7, ej⟩ := hj
    have h1 : ¬ nI (j + 24 + 1) < 26 := fun q => by have := (nI_ltI (a := j + 24 + 1) (b := 26) (by omega) (by decide)).mp q; omega
    have hG : ldV v (nI (j + 24 + 1)) = true := by
      unfold ldV ldB
      rw [if_neg h1]
    refine ⟨j + 24, by omega, hG, ?_⟩
    have ho := ldS_ok hv0 (s := j + 24) (by omega) hG
    rw [sgTo_int hv0 ht0, sgTo_int ho ht0]
    have eX : (ldS v (nI (j + 24 + 1))).1 = v.1 := by show ldX v.1 v.2.2.1 (nI (j + 24 + 1)) = _; unfold ldX; rw [if_neg h1]
    have eY : (ldS v (nI (j + 24 + 1))).2.1 = v.2.1 := by show ldY v.2.1 v.2.2.1 (nI (j + 24 + 1)) = _; unfold ldY; rw [if_neg h1]
    have eL : (ldS v (nI (j + 24 + 1))).2.2.1 = w := by
      show ldL v.2.2.1 (nI (j + 24 + 1)) = w
      rw [ldL_turn c (by omega) (by omega) h1]
      exact Int32.toInt_inj.mp (by rw [nIT (by omega)]; omega)
    rw [eX, eY, eL, if_neg q, if_pos rfl]
    omega
