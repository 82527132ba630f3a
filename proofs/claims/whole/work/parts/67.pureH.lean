/-! images -/
theorem cpI_at {u w : Stf} {d L : Nat} (hd : d < 3) (hL : L ≤ 10) (hu : u.2 d = nI L) (hw : w.2 d = nI L) (n : Nat) (hn : n ≤ L) : (cpI u w (nI d) n).2 = u.2 ∧ ∀ e b : Nat, e < 3 → b < 10 → (cpI u w (nI d) n).1 (10 * e + b) = if e = d ∧ b < n then w.1 (10 * d + b) else u.1 (10 * e + b) := by
  induction n with
  | zero => exact ⟨rfl, fun e b _ _ => by rw [if_neg (show ¬ (e = d ∧ b < 0) by omega)]; rfl⟩
  | succ n ih =>
    obtain ⟨i1, i2⟩ := ih (by omega)
    have h1 : (n : Int) < ((cpI u w (nI d) n).2 d).toInt := by rw [i1, hu, nIT (by omega)]; omega
    have h2 : (n : Int) < (w.2 d).toInt := by rw [hw, nIT (by omega)]; omega
    rw [cpI, sAt_t hd (by omega) h2, sRep_t hd (by omega) h1]
    refine ⟨i1, fun e b he hb => ?_⟩
    show upd (cpI u w (nI d) n).1 (10 * d + n) (w.1 (10 * d + n)) (10 * e + b) = _
    rw [upd]
    by_cases q : e = d ∧ b = n
    · obtain ⟨q1, q2⟩ := q
      rw [if_pos (show 10 * e + b = 10 * d + n by omega), if_pos (show e = d ∧ b < n + 1 from ⟨q1, by omega⟩), q2]
    · rw [if_neg (show ¬ 10 * e + b = 10 * d + n by omega), i2 e b he hb]
      by_cases z : e = d ∧ b < n
      · rw [if_pos z, if_pos (show e = d ∧ b < n + 1 from ⟨z.1, by omega⟩)]
      · rw [if_neg z, if_neg (show ¬ (e = d ∧ b < n + 1) by omega)]
theorem cpO_at {v w : Stf} (hw : StfOk w) (n : Nat) (hn : n ≤ 3) : ∀ e : Nat, e < n → (cpO v w n).2 e = w.2 e ∧ ∀ b : Nat, b < 10 → (b : Int) < (w.2 e).toInt → (cpO v w n).1 (10 * e + b) = w.1 (10 * e + b) := by
  induction n with
  | zero => intro e he; omega
  | succ n ih =>
    intro e he
    have hwn := hw n (by omega)
    obtain ⟨L, eL, fL⟩ := nI_ofI hwn.1
    have x1 : sSet (cpO v w n) (nI n) (sLen w (nI n)) = ((cpO v w n).1, upd (cpO v w n).2 n (nI L)) := by
      rw [sLen_n (by omega), fL]
      exact sSet_t (by omega) (by rw [nIT (by omega)]; omega) (by rw [nIT (by omega)]; omega)
    have x2 : sLen ((cpO v w n).1, upd (cpO v w n).2 n (nI L)) (nI n) = nI L := by
      rw [sLen_n (by omega)]; show upd (cpO v w n).2 n (nI L) n = _; rw [upd, if_pos rfl]
    rw [cpO, x1, x2, cl (by omega)]
    obtain ⟨c1, c2⟩ := cpI_at (u := ((cpO v w n).1, upd (cpO v w n).2 n (nI L))) (w := w) (d := n) (L := L) (by omega) (by omega) (by show upd (cpO v w n).2 n (nI L) n = _; rw [upd, if_pos rfl]) fL L (Nat.le_refl L)
    rw [c1]
    by_cases q : e = n
    · subst q
      refine ⟨by show upd (cpO v w e).2 e (nI L) e = _; rw [upd, if_pos rfl, fL], fun b hb hbl => ?_⟩
      rw [c2 e b (by omega) hb, if_pos (show e = e ∧ b < L from ⟨rfl, by omega⟩)]
    · obtain ⟨i1, i2⟩ := ih (by omega) e (by omega)
      refine ⟨by show upd (cpO v w n).2 n (nI L) e = _; rw [upd, if_neg q]; exact i1, fun b hb hbl => ?_⟩
      rw [c2 e b (by omega) hb, if_neg (show ¬ (e = n ∧ b < L) from fun z => q z.1)]
      exact i2 b hb hbl
theorem cpO_SE {v w : Stf} (hw : StfOk w) : SE w (cpO v w 3) := fun e he => cpO_at hw 3 (Nat.le_refl _) e he
def IR (mn : Int32) (im : Img) (kb : Int32) (row : Fn) : Prop := im.1 = kb ∧ StfOk im.2 ∧ (¬ kb = 0 → SM mn im.2 row)
theorem im_eq (k : Int32) : imCk k = inR k 0 1 := by
  unfold imCk inR
  by_cases a : k < 0
  · rw [if_pos a, if_pos a]
  · rw [if_neg a, if_neg a]
    by_cases b : k < 2
    · rw [if_pos b, if_neg (fun q => by have := i_lt q; have := i_lt b; rw [li_2] at this; rw [li_1] at *; omega)]
    · rw [if_neg b, if_pos (Int32.lt_iff_toInt_lt.mpr (by have := i_nlt b; rw [li_2] at this; rw [li_1]; omega))]
theorem k01 {k : Int32} (h : inR k 0 1 = true) : k = 0 ∨ k = 1 := by
  obtain ⟨a, b⟩ := inR_in h
  rw [li_0] at a
  rw [li_1] at b
  rcases (show k.toInt = 0 ∨ k.toInt = 1 by omega) with q | q
  · exact Or.inl (Int32.toInt_inj.mp (by rw [q]; rfl))
  · exact Or.inr (Int32.toInt_inj.mp (by rw [q]; rfl))
theorem kpL_at {f nw : Fn} {a : Nat} (ha : a < 10) (n : Nat) (hn : n ≤ 33) : ∀ i j : Nat, i < 10 → j < 33 → kpL f nw (nI a) n (33 * i + j) = if i = a ∧ j < n then nw j else f (33 * i + j) := by
  induction n with
  | zero => intro i j _ _; rw [if_neg (show ¬ (i = a ∧ j < 0) by omega)]; rfl
  | succ n ih =>
    intro i j hi hj
    have ei : (33 * nI a + nI n).toNatClampNeg = 33 * a + n := by
      have e := i33 (k := nI a) (by rw [nIT (by omega)]; omega) (by rw [nIT (by omega)]; omega) n (by omega)
      rw [nIT (by omega)] at e
      exact ixT (by rw [e]; omega)
    rw [kpL, ei, cl (by omega), upd]
    by_cases q : i = a ∧ j = n
    · rw [if_pos (show 33 * i + j = 33 * a + n by omega), if_pos (show i = a ∧ j < n + 1 from ⟨q.1, by omega⟩), q.2]
    · rw [if_neg (show ¬ 33 * i + j = 33 * a + n by omega), ih (by omega) i j hi hj]
      by_cases z : i = a ∧ j < n
      · rw [if_pos z, if_pos (show i = a ∧ j < n + 1 from ⟨z.1, by omega⟩)]
      · rw [if_neg z, if_neg (show ¬ (i = a ∧ j < n + 1) by omega)]
theorem IR.row {mn : Int32} {im : Img} {kb : Int32} {f g : Fn} (h : IR mn im kb f) (e : ∀ j, j < 33 → g j = f j) : IR mn im kb g := ⟨h.1, h.2.1, fun q => (h.2.2 q).row e⟩
