/-! class and reference: what is asked of courses -/
theorem dn_eq {t : Trp} {mn : Int32} (e : t.2.2.2.1 = mn) (h0 : 0 ≤ mn.toInt) (h3 : mn.toInt ≤ 3) (d : Int32) : isDn t d = inR d 0 (mn - 1) := by
  have k : (mn ≤ d) ↔ (mn - 1 < d) := by
    rw [Int32.le_iff_toInt_le, Int32.lt_iff_toInt_lt, ti_sub (by rw [li_1]; omega) (by rw [li_1]; omega), li_1]; omega
  unfold isDn inR
  rw [e]
  by_cases a : d < 0
  · rw [if_pos a, if_pos a]
  · rw [if_neg a, if_neg a]
    by_cases b : mn ≤ d
    · rw [if_pos b, if_pos (k.mp b)]
    · rw [if_neg b, if_neg (fun q => b (k.mpr q))]
theorem dn_n {mn d : Int32} (h : inR d 0 (mn - 1) = true) (h0 : 0 ≤ mn.toInt) (h3 : mn.toInt ≤ 3) : ∃ n : Nat, d = nI n ∧ (n : Int) < mn.toInt ∧ n < 3 := by
  obtain ⟨a, b⟩ := inR_in h
  rw [li_0] at a
  rw [ti_sub (by rw [li_1]; omega) (by rw [li_1]; omega), li_1] at b
  obtain ⟨n, hn, e⟩ := nI_ofI a
  exact ⟨n, e, by omega, by omega⟩
theorem mom_eq (n : Int32) : isMom n = inR n 0 10 := rfl
theorem mom_n {n : Int32} (h : inR n 0 10 = true) : ∃ j : Nat, n = nI j ∧ j ≤ 10 := by
  obtain ⟨a, b⟩ := inR_in h
  rw [li_0] at a
  rw [li_10] at b
  obtain ⟨j, hj, e⟩ := nI_ofI a
  exact ⟨j, e, by omega⟩
theorem xSign_eq {t : Trp} {mn : Int32} {bx bY bw nw : Fn} (h : TR t mn bx bY bw nw) (d b : Int32) : xSign t d b = ySg mn nw d b := by
  obtain ⟨t1, t2, t3, t4⟩ := h
  unfold xSign ySg
  rw [dn_eq t1 t2.1 t2.2]
  by_cases hd : inR d 0 (mn - 1) = true
  · obtain ⟨n, rfl, hn, n3⟩ := dn_n hd t2.1 t2.2
    rw [if_pos hd, if_pos hd]
    by_cases b0 : b < 0
    · rw [if_pos b0, if_neg (by unfold inR; rw [if_pos b0]; decide)]
    · rw [if_neg b0]
      by_cases b9 : b < 10
      · have h9 : inR b 0 9 = true := by
          unfold inR; rw [if_neg b0, if_neg (fun q => by have := i_lt q; have := i_lt b9; rw [li_10] at this; rw [(by decide : (9 : Int32).toInt = 9)] at *; omega)]
        rw [if_pos b9, if_pos h9]
        obtain ⟨m, hm, rfl⟩ := nI_ofI (x := b) (by have := i_nlt b0; rw [li_0] at this; exact this)
        have m9 : m < 10 := by have := i_lt b9; rw [li_10] at this; omega
        obtain ⟨s1, s2, s3⟩ := t3 n n3
        rw [c11 n3, c11b n3 m9, ← s1]
        by_cases q : (m : Int) < (t.2.2.2.2.2 n).toInt
        · have mle : ¬ t.2.2.2.2.2 n ≤ nI m := fun e => by have := i_le e; rw [nIT (by omega)] at this; omega
          rw [sAt_t n3 (by omega) q, if_neg mle, (s3 m q).1]
        · rw [sAt_f n3 (by omega) (by omega), if_pos (Int32.le_iff_toInt_le.mpr (by rw [nIT (by omega)]; omega))]
      · rw [if_neg b9, if_neg (by unfold inR; rw [if_neg b0, if_pos (Int32.lt_iff_toInt_lt.mpr (by have := i_nlt b9; rw [li_10] at this; rw [(by decide : (9 : Int32).toInt = 9)]; omega))]; decide)]
  · rw [if_neg hd, if_neg hd]
theorem CR.fx {c : Crs} {s : DS} (h : CR c s 10) : Fe 10 c.1 s.1 := fun j hj => congrArg (fun v : Stg => v.1) (h.1 j hj).1
theorem CR.fy {c : Crs} {s : DS} (h : CR c s 10) : Fe 10 c.2.1 s.2.1 := fun j hj => congrArg (fun v : Stg => v.2.1) (h.1 j hj).1
theorem CR.fw {c : Crs} {s : DS} (h : CR c s 10) : Fe 10 c.2.2.2.1 s.2.2.2.1 := fun j hj => congrArg (fun v : Stg => v.2.2.2) (h.1 j hj).1
theorem CR.br {c : Crs} {s : DS} (h : CR c s 10) (wk : Stg) {j : Nat} (hj : j ≤ 10) : cBring c wk (nI j) = yV s (nI j) := by
  unfold cBring yV
  rw [if_pos (isMom_t hj), cl (by omega)]
  exact (h.1 j hj).1
theorem CR.yv {c : Crs} {s : DS} (h : CR c s 10) {j : Nat} (hj : j ≤ 10) : SOk (yV s (nI j)) := by
  unfold yV
  rw [cl (by omega)]
  exact (h.1 j hj).2
theorem w4 {w : Int32} (h : inR w 0 3 = true) : w = 0 ∨ w = 1 ∨ w = 2 ∨ w = 3 := by
  obtain ⟨a, b⟩ := inR_in h
  rw [li_0] at a
  rw [li_3] at b
  rcases (show w.toInt = 0 ∨ w.toInt = 1 ∨ w.toInt = 2 ∨ w.toInt = 3 by omega) with q | q | q | q
  · exact Or.inl (Int32.toInt_inj.mp (by rw [q]; rfl))
  · exact Or.inr (Or.inl (Int32.toInt_inj.mp (by rw [q]; rfl)))
  · exact Or.inr (Or.inr (Or.inl (Int32.toInt_inj.mp (by rw [q]; rfl))))
  · exact Or.inr (Or.inr (Or.inr (Int32.toInt_inj.mp (by rw [q]; rfl))))
theorem xStand_eq {t : Trp} {mn : Int32} {bx bY bw nw : Fn} (h : TR t mn bx bY bw nw) (k : Crs) (wk : Stg) (d n w : Int32) : xStand t k wk d n w = yStand bx bY bw nw mn d n w := by
  have h0 := h
  obtain ⟨t1, t2, t3, t4⟩ := h
  unfold xStand yStand xStCk
  rw [dn_eq t1 t2.1 t2.2, mom_eq]
  by_cases hd : inR d 0 (mn - 1) = true
  · obtain ⟨e, rfl, he, e3⟩ := dn_n hd t2.1 t2.2
    rw [if_pos hd, if_pos hd]
    by_cases hm : inR n 0 10 = true
    · obtain ⟨j, rfl, hj⟩ := mom_n hm
      rw [if_pos hm, if_pos hm, if_pos rfl]
      have C := fol_dn h0 he (-9) k
      rw [C.br wk hj]
      by_cases hw : inR w 0 3 = true
      · rw [if_pos hw]
        rcases w4 hw with rfl | rfl | rfl | rfl <;> rfl
      · rw [if_neg hw, if_neg (fun q => hw (by rw [q]; decide)), if_neg (fun q => hw (by rw [q]; decide)), if_neg (fun q => hw (by rw [q]; decide)), if_neg (fun q => hw (by rw [q]; decide))]
    · rw [if_neg hm, if_neg hm, if_neg (by decide)]
  · rw [if_neg hd, if_neg hd, if_neg (by decide)]
/-! over the same rows -/
theorem shL_eq (k : Crs) (n : Nat) : shL k n = shY k.2.2.2.1 n := by
  induction n with
  | zero => rfl
  | succ n ih =>
    rw [shL, shY, ih]
    split
    · exact (Int32.add_zero _).symm
    · rfl
theorem cAt_eq (k : Crs) {n : Nat} (hn : n ≤ 10) (x y : Int32) : cAt k (nI n) x y = atY k.1 k.2.1 (nI n) x y := by
  unfold cAt atY
  rw [if_pos (isMom_t hn)]
theorem awL_eq (k : Crs) (n : Nat) (hn : n ≤ 10) : awL k n = awY k.1 k.2.1 n ∧ (awY k.1 k.2.1 n = 0 ∨ awY k.1 k.2.1 n = 1) := by
  induction n with
  | zero => exact ⟨rfl, Or.inl rfl⟩
  | succ n ih =>
    obtain ⟨a, b⟩ := ih (by omega)
    rw [awL, awY, cAt_eq k hn, a]
    rcases b with b | b
    · rw [b, if_pos rfl]
      split
      · exact ⟨rfl, Or.inl rfl⟩
      · exact ⟨rfl, Or.inr rfl⟩
    · rw [b, if_neg (show ¬ (1 : Int32) = 0 by decide)]
      split
      · exact ⟨rfl, Or.inr rfl⟩
      · exact ⟨rfl, Or.inr rfl⟩
theorem hoL_eq (k : Crs) (n : Nat) : ∀ j, j + n ≤ 10 → hoL k n j = hoY k.1 k.2.1 n j := by
  induction n with
  | zero => intro j _; rfl
  | succ n ih =>
    intro j hj
    rw [hoL, hoY, cAt_eq k (by omega), (awL_eq k j (by omega)).1, ih (j + 1) (by omega)]
theorem cMeet_eq (k o : Crs) {n : Nat} (hn : n ≤ 10) : cMeet k o (nI n) = atY k.1 k.2.1 (nI n) (o.1 (nI n).toNatClampNeg) (o.2.1 (nI n).toNatClampNeg) := by
  unfold cMeet
  rw [if_pos (isMom_t hn), cAt_eq o hn]
  unfold atY
  by_cases a : o.1 (nI n).toNatClampNeg = k.1 (nI n).toNatClampNeg
  · by_cases b : o.2.1 (nI n).toNatClampNeg = k.2.1 (nI n).toNatClampNeg
    · rw [if_pos a, if_pos b, if_pos rfl, if_pos a.symm, if_pos b.symm]
    · rw [if_pos a, if_neg b, if_neg (by decide), if_pos a.symm, if_neg (fun q => b q.symm)]
  · rw [if_neg a, if_neg (by decide), if_neg (fun q => a q.symm)]
theorem fmL_eq (k o : Crs) (n : Nat) : ∀ i, i + n ≤ 11 → fmL k o n i = mtL k.1 k.2.1 o.1 o.2.1 n i := by
  induction n with
  | zero => intro i _; rfl
  | succ n ih =>
    intro i hi
    rw [fmL, mtL, cMeet_eq k o (by omega), ih (i + 1) (by omega)]
/-! crossings -/
theorem atY_t {f g : Fn} {n x y : Int32} : atY f g n x y = true ↔ f (n).toNatClampNeg = x ∧ g (n).toNatClampNeg = y := by
  unfold atY
  by_cases a : f (n).toNatClampNeg = x
  · by_cases b : g (n).toNatClampNeg = y
    · simp [a, b]
    · simp [a, b]
  · simp [a]
theorem crMv_0 (a b : Int32) : crMv a b = 0 ↔ a = 0 ∧ b = 0 := by
  unfold crMv
  by_cases p : a = 0
  · by_cases q : b = 0
    · simp [p, q]
    · simp [p, q]
  · simp [p]
theorem crK_0 (a b c d : Int32) : crK a b c d = 0 ↔ a = 0 ∨ b = 0 ∨ c = 0 ∨ d = 0 := by
  unfold crK
  by_cases p : a = 0
  · simp [p]
  · by_cases q : b = 0
    · simp [p, q]
    · by_cases r : c = 0
      · simp [p, q, r]
      · by_cases s : d = 0
        · simp [p, q, r, s]
        · simp [p, q, r, s]
theorem sub0 {a b : Int32} (ha : 0 ≤ a.toInt ∧ a.toInt ≤ 6) (hb : 0 ≤ b.toInt ∧ b.toInt ≤ 6) : a - b = 0 ↔ a.toInt = b.toInt := by
  rw [← Int32.toInt_inj, ti_sub (by omega) (by omega), li_0]; omega
theorem add2 {a b c d : Int32} (ha : 0 ≤ a.toInt ∧ a.toInt ≤ 6) (hb : 0 ≤ b.toInt ∧ b.toInt ≤ 6) (hc : 0 ≤ c.toInt ∧ c.toInt ≤ 6) (hd : 0 ≤ d.toInt ∧ d.toInt ≤ 6) : a + b = c + d ↔ a.toInt + b.toInt = c.toInt + d.toInt := by
  rw [← Int32.toInt_inj, ti_add (by omega) (by omega), ti_add (by omega) (by omega)]
theorem cross_int {x0 x1 y0 y1 X0 X1 Y0 Y1 : Int} (hx : (x1 - x0).natAbs ≤ 1) (hy : (y1 - y0).natAbs ≤ 1) (hX : (X1 - X0).natAbs ≤ 1) (hY : (Y1 - Y0).natAbs ≤ 1) :
    ((¬ (x1 = x0 ∧ y1 = y0) ∧ (x1 = X0 ∧ y1 = Y0) ∧ (x0 = X1 ∧ y0 = Y1)) ∨ (¬ (x1 = x0 ∨ y1 = y0 ∨ X1 = X0 ∨ Y1 = Y0) ∧ ¬ ¬ (x1 + x0 = X1 + X0 ∧ y1 + y0 = Y1 + Y0) ∧ ¬ (x0 = X0 ∧ y0 = Y0))) ↔ ¬ (x0 = X0 ∧ y0 = Y0) ∧ x0 + x1 = X0 + X1 ∧ y0 + y1 = Y0 + Y1 := by
  constructor
  · rintro (⟨a, ⟨b1, b2⟩, c1, c2⟩ | ⟨a, b, c⟩)
    · exact ⟨fun q => a ⟨by omega, by omega⟩, by omega, by omega⟩
    · obtain ⟨b1, b2⟩ := Classical.not_not.mp b
      exact ⟨c, by omega, by omega⟩
  · rintro ⟨a, b, c⟩
    by_cases p : x0 = X0
    · have q : ¬ y0 = Y0 := fun z => a ⟨p, z⟩
      by_cases r : x1 = x0
      · exact Or.inl ⟨fun z => q (by omega), ⟨by omega, by omega⟩, by omega, by omega⟩
      · exact Or.inr ⟨fun z => by omega, Classical.not_not.mpr ⟨by omega, by omega⟩, a⟩
    · by_cases q : y0 = Y0
      · by_cases r : y1 = y0
        · exact Or.inl ⟨fun z => p (by omega), ⟨by omega, by omega⟩, by omega, by omega⟩
        · exact Or.inr ⟨fun z => by omega, Classical.not_not.mpr ⟨by omega, by omega⟩, a⟩
      · exact Or.inl ⟨fun z => p (by omega), ⟨by omega, by omega⟩, by omega, by omega⟩
def nr (f g : Fn) : Prop := (∀ j, j ≤ 10 → (0 ≤ (f j).toInt ∧ (f j).toInt ≤ 6) ∧ (0 ≤ (g j).toInt ∧ (g j).toInt ≤ 6)) ∧ (∀ j, j < 10 → ((f (j + 1)).toInt - (f j).toInt).natAbs ≤ 1 ∧ ((g (j + 1)).toInt - (g j).toInt).natAbs ≤ 1)
theorem crY_t {f g p q : Fn} (h1 : nr f g) (h2 : nr p q) {j : Nat} (hj : j < 10) : crY f g p q (nI (j + 1)) = true ↔ ¬ ((f j).toInt = (p j).toInt ∧ (g j).toInt = (q j).toInt) ∧ (f j).toInt + (f (j + 1)).toInt = (p j).toInt + (p (j + 1)).toInt ∧ (g j).toInt + (g (j + 1)).toInt = (q j).toInt + (q (j + 1)).toInt := by
  have m1 : (nI (j + 1) - 1).toNatClampNeg = j := by rw [show nI (j + 1) - 1 = nI j from nI_pred j, cl (by omega)]
  have m2 : (nI (j + 1)).toNatClampNeg = j + 1 := cl (by omega)
  obtain ⟨f0, g0⟩ := h1.1 j (by omega)
  obtain ⟨f1, g1⟩ := h1.1 (j + 1) (by omega)
  obtain ⟨p0, q0⟩ := h2.1 j (by omega)
  obtain ⟨p1, q1⟩ := h2.1 (j + 1) (by omega)
  obtain ⟨nf, ng⟩ := h1.2 j hj
  obtain ⟨np, nq⟩ := h2.2 j hj
  have tA : crA f g p q (nI (j + 1)) = true ↔ ¬ ((f (j + 1)).toInt = (f j).toInt ∧ (g (j + 1)).toInt = (g j).toInt) ∧ ((f (j + 1)).toInt = (p j).toInt ∧ (g (j + 1)).toInt = (q j).toInt) ∧ ((f j).toInt = (p (j + 1)).toInt ∧ (g j).toInt = (q (j + 1)).toInt) := by
    unfold crA
    rw [m1, m2]
    have a1 : atY f g (nI (j + 1)) (p j) (q j) = true ↔ (f (j + 1)).toInt = (p j).toInt ∧ (g (j + 1)).toInt = (q j).toInt := by rw [atY_t, m2, ← Int32.toInt_inj, ← Int32.toInt_inj]
    have a2 : atY f g (nI (j + 1) - 1) (p (j + 1)) (q (j + 1)) = true ↔ (f j).toInt = (p (j + 1)).toInt ∧ (g j).toInt = (q (j + 1)).toInt := by rw [atY_t, m1, ← Int32.toInt_inj, ← Int32.toInt_inj]
    have a3 := crMv_0 (f (j + 1) - f j) (g (j + 1) - g j)
    rw [sub0 f1 f0, sub0 g1 g0] at a3
    rw [← a1, ← a2, ← a3]
    by_cases z : crMv (f (j + 1) - f j) (g (j + 1) - g j) = 0
    · simp [z]
    · by_cases z1 : atY f g (nI (j + 1)) (p j) (q j) = true
      · by_cases z2 : atY f g (nI (j + 1) - 1) (p (j + 1)) (q (j + 1)) = true
        · simp [z, z1, z2]
        · simp [z, z1, z2]
      · simp [z, z1]
  have tK := crK_0 (f (j + 1) - f j) (g (j + 1) - g j) (p (j + 1) - p j) (q (j + 1) - q j)
  rw [sub0 f1 f0, sub0 g1 g0, sub0 p1 p0, sub0 q1 q0] at tK
  have tM : crM f g p q (nI (j + 1)) = 0 ↔ ¬ ((f (j + 1)).toInt + (f j).toInt = (p (j + 1)).toInt + (p j).toInt ∧ (g (j + 1)).toInt + (g j).toInt = (q (j + 1)).toInt + (q j).toInt) := by
    unfold crM
    rw [m1, m2, ← add2 f1 f0 p1 p0, ← add2 g1 g0 q1 q0]
    by_cases z1 : f (j + 1) + f j = p (j + 1) + p j
    · by_cases z2 : g (j + 1) + g j = q (j + 1) + q j
      · simp [z1, z2]
      · simp [z1, z2]
    · simp [z1]
  have tN : atY f g (nI (j + 1) - 1) (p j) (q j) = true ↔ (f j).toInt = (p j).toInt ∧ (g j).toInt = (q j).toInt := by rw [atY_t, m1, ← Int32.toInt_inj, ← Int32.toInt_inj]
  have tY : crY f g p q (nI (j + 1)) = true ↔ crA f g p q (nI (j + 1)) = true ∨ (¬ crK (f (j + 1) - f j) (g (j + 1) - g j) (p (j + 1) - p j) (q (j + 1) - q j) = 0 ∧ ¬ crM f g p q (nI (j + 1)) = 0 ∧ ¬ atY f g (nI (j + 1) - 1) (p j) (q j) = true) := by
    unfold crY
    rw [m1, m2]
    by_cases z1 : crA f g p q (nI (j + 1)) = true
    · simp [z1]
    · by_cases z2 : crK (f (j + 1) - f j) (g (j + 1) - g j) (p (j + 1) - p j) (q (j + 1) - q j) = 0
      · simp [z1, z2]
      · by_cases z3 : crM f g p q (nI (j + 1)) = 0
        · simp [z1, z2, z3]
        · by_cases z4 : atY f g (nI (j + 1) - 1) (p j) (q j) = true
          · simp [z1, z2, z3, z4]
          · simp [z1, z2, z3, z4]
  rw [tY, tA, tK, tM, tN]
  exact cross_int nf ng np nq
theorem cCross_t {c o : Crs} (h1 : nr c.1 c.2.1) (h2 : nr o.1 o.2.1) {j : Nat} (hj : j < 10) : cCross c o (nI (j + 1)) = true ↔ ¬ ((c.1 j).toInt = (o.1 j).toInt ∧ (c.2.1 j).toInt = (o.2.1 j).toInt) ∧ (c.1 j).toInt + (c.1 (j + 1)).toInt = (o.1 j).toInt + (o.1 (j + 1)).toInt ∧ (c.2.1 j).toInt + (c.2.1 (j + 1)).toInt = (o.2.1 j).toInt + (o.2.1 (j + 1)).toInt := by
  have m0 : nI (j + 1) - 1 = nI j := nI_pred j
  have m1 : (nI j).toNatClampNeg = j := cl (by omega)
  have m2 : (nI (j + 1)).toNatClampNeg = j + 1 := cl (by omega)
  obtain ⟨f0, g0⟩ := h1.1 j (by omega)
  obtain ⟨f1, g1⟩ := h1.1 (j + 1) (by omega)
  obtain ⟨p0, q0⟩ := h2.1 j (by omega)
  obtain ⟨p1, q1⟩ := h2.1 (j + 1) (by omega)
  have tm : cMeet c o (nI j) = true ↔ (c.1 j).toInt = (o.1 j).toInt ∧ (c.2.1 j).toInt = (o.2.1 j).toInt := by rw [cMeet_eq c o (by omega), atY_t, m1, ← Int32.toInt_inj, ← Int32.toInt_inj]
  unfold cCross
  rw [if_neg (fun q => by have := i_lt q; rw [nIT (by omega), li_1] at this; omega), if_neg (fun q => by have := i_lt q; rw [nIT (by omega), li_10] at this; omega), m0, m1, m2]
  rw [← add2 f0 f1 p0 p1, ← add2 g0 g1 q0 q1, ← tm]
  by_cases z : cMeet c o (nI j) = true
  · simp [z]
  · by_cases z1 : c.1 j + c.1 (j + 1) = o.1 j + o.1 (j + 1)
    · by_cases z2 : c.2.1 j + c.2.1 (j + 1) = o.2.1 j + o.2.1 (j + 1)
      · simp [z, z1, z2]
      · simp [z, z1, z2]
    · simp [z, z1]
theorem CR.nr {c : Crs} {s : DS} (h : CR c s 10) : nr c.1 c.2.1 := by
  refine ⟨fun j hj => ?_, fun j hj => ?_⟩
  · obtain ⟨a, b, _, _⟩ := (h.1 j hj).2
    rw [h.fx j hj, h.fy j hj]; exact ⟨a, b⟩
  · rw [h.fx j (by omega), h.fy j (by omega), h.fx (j + 1) (by omega), h.fy (j + 1) (by omega)]
    exact h.2.1 j hj
theorem fcL_eq {k o : Crs} (h1 : nr k.1 k.2.1) (h2 : nr o.1 o.2.1) (n : Nat) : ∀ j, j + n ≤ 10 → fcL k o n j = ctL k.1 k.2.1 o.1 o.2.1 n j := by
  induction n with
  | zero => intro j _; rfl
  | succ n ih =>
    intro j hj
    rw [fcL, ctL, ih (j + 1) (by omega), show cCross k o (nI (j + 1)) = crY k.1 k.2.1 o.1 o.2.1 (nI (j + 1)) from Bool.eq_iff_iff.mpr ((cCross_t h1 h2 (by omega)).trans (crY_t h1 h2 (by omega)).symm)]
/-- the same two, the other way round -/
theorem fmL_sw (k o : Crs) (n : Nat) : ∀ i, i + n ≤ 11 → fmL k o n i = fmL o k n i := by
  induction n with
  | zero => intro i _; rfl
  | succ n ih =>
    intro i hi
    have e : cMeet k o (nI i) = cMeet o k (nI i) := by
      rw [cMeet_eq k o (by omega), cMeet_eq o k (by omega)]
      exact Bool.eq_iff_iff.mpr (by rw [atY_t, atY_t]; exact ⟨fun h => ⟨h.1.symm, h.2.symm⟩, fun h => ⟨h.1.symm, h.2.symm⟩⟩)
    rw [fmL, fmL, e, ih (i + 1) (by omega)]
theorem fcL_sw {k o : Crs} (h1 : nr k.1 k.2.1) (h2 : nr o.1 o.2.1) (n : Nat) : ∀ j, j + n ≤ 10 → fcL k o n j = fcL o k n j := by
  induction n with
  | zero => intro j _; rfl
  | succ n ih =>
    intro j hj
    have e : cCross k o (nI (j + 1)) = cCross o k (nI (j + 1)) := Bool.eq_iff_iff.mpr (by
      rw [cCross_t h1 h2 (by omega), cCross_t h2 h1 (by omega)]
      omega)
    rw [fcL, fcL, e, ih (j + 1) (by omega)]
theorem fMeet_eq {k o : Crs} {s u : DS} (hk : CR k s 10) (ho : CR o u 10) : fMeet k o = meF s.1 s.2.1 u.1 u.2.1 0 := by
  unfold fMeet meF
  rw [if_pos rfl, fmL_eq k o 11 0 (by omega)]
  exact mtL_eq hk.fx hk.fy ho.fx ho.fy 11 0 (by omega)
theorem fCross_eq {k o : Crs} {s u : DS} (hk : CR k s 10) (ho : CR o u 10) {w : Int32} (hw : ¬ w = 0) : fCross k o = meF s.1 s.2.1 u.1 u.2.1 w := by
  unfold fCross meF
  rw [if_neg hw, fcL_eq hk.nr ho.nr 10 0 (by omega)]
  exact ctL_eq hk.fx hk.fy ho.fx ho.fy 10 0 (by omega)
theorem ar2_eq {t : Trp} {mn : Int32} (e : t.2.2.2.1 = mn) (h0 : 0 ≤ mn.toInt) (h3 : mn.toInt ≤ 3) (d o : Int32) : ar2 t d o = (if inR d 0 (mn - 1) = true then (if inR o 0 (mn - 1) = true then (if d = o then false else true) else false) else false) := by
  unfold ar2
  rw [dn_eq e h0 h3, dn_eq e h0 h3]
theorem xMe_eq {t : Trp} {mn : Int32} {bx bY bw nw : Fn} (h : TR t mn bx bY bw nw) (k1 k2 : Crs) (d o w : Int32) : xMe t k1 k2 d o w = yMeet bx bY bw nw mn d o w := by
  have h0 := h
  obtain ⟨t1, t2, t3, t4⟩ := h
  unfold xMe yMeet xMeCk
  rw [ar2_eq t1 t2.1 t2.2]
  by_cases hd : inR d 0 (mn - 1) = true
  · by_cases ho : inR o 0 (mn - 1) = true
    · by_cases q : d = o
      · simp [hd, ho, q]
      · rw [if_pos hd, if_pos ho, if_neg q, if_pos rfl, if_pos hd, if_pos ho, if_neg q]
        have ew : (if w < 0 then false else if w ≤ 1 then true else false) = inR w 0 1 := by
          unfold inR
          by_cases a : w < 0
          · rw [if_pos a, if_pos a]
          · rw [if_neg a, if_neg a]
            by_cases b : w ≤ 1
            · rw [if_pos b, if_neg (fun q => by have := i_lt q; have := i_le b; omega)]
            · rw [if_neg b, if_pos (Int32.lt_iff_toInt_lt.mpr (i_nle b))]
        rw [ew]
        by_cases hw : inR w 0 1 = true
        · rw [if_pos hw, if_pos hw]
          obtain ⟨e, rfl, he, e3⟩ := dn_n hd t2.1 t2.2
          obtain ⟨g, rfl, hg, g3⟩ := dn_n ho t2.1 t2.2
          have A := fol_dn h0 he (-9) k1
          have B := fol_dn h0 hg (-9) k2
          by_cases w0 : w = 0
          · rw [if_pos w0, w0]; exact fMeet_eq A B
          · rw [if_neg w0]; exact fCross_eq A B w0
        · rw [if_neg hw, if_neg hw]
    · simp [hd, ho]
  · simp [hd]
/-! the fewest signs -/
theorem nr_fs {v : Stg} (hv : SOk v) {x y w : Int32} (ht : TOk x y w) {s : Nat} (hs : s < 32) : nrB v x y w (sgTo v x y w) (nI (s + 1)) = fsB v x y w (nI (s + 1)) := by
  obtain ⟨t1, t2, t3⟩ := tk_ld hv (k := s + 1) (by omega)
  unfold nrB fsB
  rw [t1]
  by_cases q : ldV v (nI (s + 1)) = true
  · rw [if_pos q, if_pos q, t2 q]
    have ho := ldS_ok hv hs q
    have a := sgTo_in hv ht
    have b := sgTo_in ho ht
    have c := st_L hv ht hs q
    by_cases z : sgTo v x y w ≤ sgTo (ldS v (nI (s + 1))) x y w
    · rw [if_pos z, if_neg (fun e => by have := i_le z; have := i_eq e; rw [ti_sub (by rw [li_1]; omega) (by rw [li_1]; omega), li_1] at this; omega)]
    · rw [if_neg z, if_pos (Int32.toInt_inj.mp (by have := i_nle z; rw [ti_sub (by rw [li_1]; omega) (by rw [li_1]; omega), li_1]; omega))]
  · rw [if_neg q, if_neg q]
theorem nrL_fs {v : Stg} (hv : SOk v) {x y w : Int32} (ht : TOk x y w) (n : Nat) : ∀ j, j + n ≤ 32 → (∃ s : Nat, j ≤ s ∧ s < j + n ∧ fsB v x y w (nI (s + 1)) = true) → nrL v x y w (sgTo v x y w) n j = fsL v x y w n j ∧ ∃ s : Nat, s < 32 ∧ fsL v x y w n j = nI (s + 1) ∧ fsB v x y w (nI (s + 1)) = true := by
  induction n with
  | zero => intro j _ h; obtain ⟨s, h1, h2, _⟩ := h; omega
  | succ n ih =>
    intro j hj h
    rw [nrL, fsL, nr_fs hv ht (by omega)]
    by_cases q : fsB v x y w (nI (j + 1)) = true
    · rw [if_pos q, if_pos q]; exact ⟨rfl, j, by omega, rfl, q⟩
    · rw [if_neg q, if_neg q]
      obtain ⟨s, h1, h2, h3⟩ := h
      have : ¬ s = j := fun e => q (by rw [← e]; exact h3)
      exact ih (j + 1) (by omega) ⟨s, by omega, by omega, h3⟩
theorem nr_fs1 {v : Stg} (hv : SOk v) {x y w : Int32} (ht : TOk x y w) (hp : ¬ sgTo v x y w = 0) : nrR v x y w = fs1 v x y w ∧ nrS v x y w = ldS v (fs1 v x y w) ∧ SOk (ldS v (fs1 v x y w)) ∧ (sgTo (ldS v (fs1 v x y w)) x y w).toInt = (sgTo v x y w).toInt - 1 := by
  obtain ⟨s, s0, s1, s2⟩ := fs_ex hv ht hp
  obtain ⟨a, s', b1, b2, b3⟩ := nrL_fs hv ht 32 0 (by omega) ⟨s, s0, by omega, s2⟩
  have b2' : fs1 v x y w = nI (s' + 1) := b2
  have a' : nrR v x y w = fs1 v x y w := a
  unfold fsB at b3
  by_cases q : ldV v (nI (s' + 1)) = true
  · rw [if_pos q] at b3
    by_cases z : sgTo (ldS v (nI (s' + 1))) x y w = sgTo v x y w - 1
    · refine ⟨a', ?_, ?_, ?_⟩
      · unfold nrS
        rw [a', b2', if_neg (fun e => by have := i_eq e; rw [nIT (by omega), li_m9] at this; omega)]
        exact (tk_ld hv (k := s' + 1) (by omega)).2.1 q
      · rw [b2']; exact ldS_ok hv b1 q
      · rw [b2']; exact fs_less hv ht z
    · rw [if_neg z] at b3; exact absurd b3 (by decide)
  · rw [if_neg q] at b3; exact absurd b3 (by decide)
theorem swL_sh (v : Stg) (x y w : Int32) (n : Nat) : (swL v x y w (n + 1)).2 = (swL (nrS v x y w) x y w n).2 ∧ (1 ≤ n → (swL v x y w (n + 1)).1 = (swL (nrS v x y w) x y w n).1) := by
  induction n with
  | zero => exact ⟨rfl, fun h => absurd h (by omega)⟩
  | succ n ih =>
    have e1 : swL v x y w (n + 1 + 1) = (nrR (swL v x y w (n + 1)).2 x y w, nrS (swL v x y w (n + 1)).2 x y w) := rfl
    have e2 : swL (nrS v x y w) x y w (n + 1) = (nrR (swL (nrS v x y w) x y w n).2 x y w, nrS (swL (nrS v x y w) x y w n).2 x y w) := rfl
    rw [e1, e2, ih.1]
    exact ⟨rfl, fun _ => rfl⟩
theorem fwL_eq {x y w : Int32} (ht : TOk x y w) {k : Nat} (hk : k < 2147483648) (n : Nat) : ∀ (i : Nat) (v : Stg) (g : Int32), i + n ≤ 100 → SOk v → (sgTo v x y w).toInt < (n : Int) → fwL x y w (nI k) n (nI i) v g = (if k < i then g else if (sgTo v x y w).toInt ≤ ((k - i : Nat) : Int) then -9 else (swL v x y w (k - i + 1)).1) := by
  induction n with
  | zero => intro i v g _ hv h; have := sgTo_in hv ht; omega
  | succ n ih =>
    intro i v g hi hv h
    rw [fwL]
    by_cases q : k < i
    · rw [if_pos (nI_lt q (by omega)), if_pos q]
    · rw [if_neg (fun z => q ((nI_ltI (by omega) (by omega)).mp z)), if_neg q]
      by_cases z : sgTo v x y w = 0
      · rw [if_pos z, if_pos (by rw [z, li_0]; omega)]
      · rw [if_neg z]
        obtain ⟨a1, a2, a3, a4⟩ := nr_fs1 hv ht z
        have b := sgTo_in hv ht
        have zz := i_ne z
        rw [li_0] at zz
        rw [nI_1, ih (i + 1) (ldS v (fs1 v x y w)) (fs1 v x y w) (by omega) a3 (by omega), a4]
        by_cases q1 : k < i + 1
        · have e : k - i = 0 := by omega
          rw [if_pos q1, e, if_neg (by omega)]
          show fs1 v x y w = nrR v x y w
          exact a1.symm
        · rw [if_neg q1]
          by_cases q2 : (sgTo v x y w).toInt ≤ ((k - i : Nat) : Int)
          · rw [if_pos q2, if_pos (by omega)]
          · rw [if_neg q2, if_neg (by omega)]
            have e : k - i + 1 = (k - (i + 1) + 1) + 1 := by omega
            rw [e, (swL_sh v x y w (k - (i + 1) + 1)).2 (by omega), a2]
theorem fwCk_eq {t : Trp} {mn : Int32} (e : t.2.2.2.1 = mn) (h0 : 0 ≤ mn.toInt) (h3 : mn.toInt ≤ 3) (d n x y w k : Int32) : xFwCk t d n x y w k = yFwCk mn d n x y w k := by
  have k8 : ∀ z : Int32, (if z < 0 then false else if 8 ≤ z then false else (if -1 ≤ k then true else false)) = (if inR z 0 7 = true then (if -1 ≤ k then true else false) else false) := fun z => by
    unfold inR
    by_cases a : z < 0
    · simp [a]
    · by_cases b : (8 : Int32) ≤ z
      · have c : (7 : Int32) < z := Int32.lt_iff_toInt_lt.mpr (by have := i_le b; rw [li_8] at this; rw [li_7]; omega)
        simp [a, b, c]
      · have c : ¬ (7 : Int32) < z := fun q => b (Int32.le_iff_toInt_le.mpr (by have := i_lt q; rw [li_7] at this; rw [li_8]; omega))
        simp [a, b, c]
  unfold xFwCk yFwCk
  rw [dn_eq e h0 h3, mom_eq, fl_ld, k8]
  by_cases p1 : inR d 0 (mn - 1) = true
  · by_cases p2 : inR n 0 10 = true
    · by_cases p3 : inR x 0 6 = true
      · by_cases p4 : inR y 0 6 = true
        · rw [if_pos p1, if_pos p2, if_pos p3, if_pos p4, if_pos rfl, if_pos p1, if_pos p2, if_pos p3, if_pos p4]
        · rw [if_pos p1, if_pos p2, if_pos p3, if_neg p4, if_neg (by decide), if_pos p1, if_pos p2, if_pos p3, if_neg p4]
      · rw [if_pos p1, if_pos p2, if_neg p3, if_neg (by decide), if_pos p1, if_pos p2, if_neg p3]
    · rw [if_pos p1, if_neg p2, if_pos p1, if_neg p2]
  · rw [if_neg p1, if_neg p1]
theorem fwCk_in {mn d n x y w k : Int32} (h : yFwCk mn d n x y w k = true) : inR d 0 (mn - 1) = true ∧ inR n 0 10 = true ∧ TOk x y w ∧ -1 ≤ k.toInt := by
  unfold yFwCk at h
  by_cases p1 : inR d 0 (mn - 1) = true
  · by_cases p2 : inR n 0 10 = true
    · by_cases p3 : inR x 0 6 = true
      · by_cases p4 : inR y 0 6 = true
        · by_cases p5 : inR w 0 7 = true
          · by_cases p6 : (-1 : Int32) ≤ k
            · obtain ⟨x1, x2⟩ := inR_in p3
              obtain ⟨y1, y2⟩ := inR_in p4
              obtain ⟨w1, w2⟩ := inR_in p5
              rw [li_0] at x1 y1 w1
              rw [li_6] at x2 y2
              rw [li_7] at w2
              have := i_le p6
              rw [li_m1] at this
              exact ⟨p1, p2, ⟨⟨x1, x2⟩, ⟨y1, y2⟩, ⟨w1, w2⟩⟩, this⟩
            · simp [p1, p2, p3, p4, p5, p6] at h
          · simp [p1, p2, p3, p4, p5] at h
        · simp [p1, p2, p3, p4] at h
      · simp [p1, p2, p3] at h
    · simp [p1, p2] at h
  · simp [p1] at h
theorem xFw_eq {t : Trp} {mn : Int32} {bx bY bw nw : Fn} (h : TR t mn bx bY bw nw) (k1 : Crs) (wk : Stg) (d n x y w k : Int32) : xFw t k1 wk d n x y w k = yFew bx bY bw nw mn d n x y w k := by
  have h0 := h
  obtain ⟨t1, t2, t3, t4⟩ := h
  unfold xFw yFew
  rw [fwCk_eq t1 t2.1 t2.2]
  by_cases hc : yFwCk mn d n x y w k = true
  · rw [if_pos hc, if_pos hc]
    obtain ⟨hd, hn, ht, hk⟩ := fwCk_in hc
    obtain ⟨e, rfl, he, e3⟩ := dn_n hd t2.1 t2.2
    obtain ⟨j, rfl, hj⟩ := mom_n hn
    have C := fol_dn h0 he (-9) k1
    rw [C.br wk hj]
    have hv := C.yv hj
    by_cases k0 : (0 : Int32) ≤ k
    · have k0' := i_le k0
      rw [li_0] at k0'
      obtain ⟨q, hq, rfl⟩ := nI_ofI k0'
      have hq2 : q < 2147483648 := by
        have := Int32.toInt_lt (nI q)
        omega
      have s8 := sgTo_in hv ht
      rw [if_pos k0, if_neg (fun z => by have := i_eq z; rw [li_m1] at this; omega)]
      rw [show fwL x y w (nI q) 9 0 (yV (dnC bx bY bw nw (nI e) (-9)) (nI j)) (-9) = _ from fwL_eq ht hq2 9 0 (yV (dnC bx bY bw nw (nI e) (-9)) (nI j)) (-9) (by omega) hv (by omega)]
      have q0 : ¬ q < 0 := by omega
      rw [if_neg q0, Nat.sub_zero, cl hq2]
      by_cases z : sgTo (yV (dnC bx bY bw nw (nI e) (-9)) (nI j)) x y w ≤ nI q
      · have := i_le z
        rw [nIT hq2] at this
        rw [if_pos z, if_pos this]
      · have := i_nle z
        rw [nIT hq2] at this
        rw [if_neg z, if_neg (by omega)]
    · have := i_nle k0
      rw [li_0] at this
      have em : k = -1 := Int32.toInt_inj.mp (by rw [li_m1]; omega)
      rw [if_neg k0, if_pos em]
  · rw [if_neg hc, if_neg hc]
theorem xFw_k {t : Trp} {mn : Int32} {bx bY bw nw : Fn} (h : TR t mn bx bY bw nw) (k1 : Crs) (wk : Stg) (d n x y w k : Int32) (hc : xFwCk t d n x y w k = true) (hk : ¬ sgTo (cBring (fol t d (-9) k1) wk n) x y w ≤ k) : k.toInt ≤ 1000 := by
  have h0 := h
  obtain ⟨t1, t2, t3, t4⟩ := h
  rw [fwCk_eq t1 t2.1 t2.2] at hc
  obtain ⟨hd, hn, ht, _⟩ := fwCk_in hc
  obtain ⟨e, rfl, he, e3⟩ := dn_n hd t2.1 t2.2
  obtain ⟨j, rfl, hj⟩ := mom_n hn
  have C := fol_dn h0 he (-9) k1
  rw [C.br wk hj] at hk
  have := sgTo_in (C.yv hj) ht
  have := i_nle hk
  omega
