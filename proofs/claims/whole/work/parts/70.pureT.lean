/-! a dancer's text, a whole text: class and reference -/
def DR (p : Trp) (z : Int32 × Fn × Fn × Fn × Fn) : Prop := ∃ d : Nat, d ≤ 3 ∧ p.2.2.2.1 = nI d ∧ z.1 = nI d ∧ SR p.2.2.2.2 z.2.2.2.2 ∧ (∀ e : Nat, e < 3 → d ≤ e → z.2.2.2.2 (11 * e) = 0) ∧ ∀ e : Nat, e < d → p.1 e = z.2.1 e ∧ p.2.1 e = z.2.2.1 e ∧ p.2.2.1 e = z.2.2.2.1 e ∧ SOk (z.2.1 e, z.2.2.1 e, z.2.2.2.1 e, 2)
def IMo (n : Int32) (d : Nat) (X : Bool × Rdr × Trp) (M : Bool × RS) : Prop :=
  X.1 = M.1 ∧ (X.1 = true → (DR X.2.2 M.2.2 ∧ X.2.2.2.2.2.1 = nI (d + 1)) ∧ ∃ y : Nat, (y : Int) ≤ n.toInt ∧ X.2.1.1 = nI y ∧ M.2.1.1 = nI y) ∧ (X.1 = false → X.2.1.2.1 = M.2.1.2.2.2.2 ∧ ∃ y : Nat, (y : Int) ≤ n.toInt ∧ X.2.1.2.1 = nI y)
theorem imF {n : Int32} {d : Nat} {r : Rdr} {p : Trp} {q : PS} {z : Int32 × Fn × Fn × Fn × Fn} (e : r.2.1 = q.2.2.2.2 ∧ ∃ y : Nat, (y : Int) ≤ n.toInt ∧ r.2.1 = nI y) : IMo n d (false, r, p) (false, q, z) := ⟨rfl, fun w => absurd (show false = true from w) (by decide), fun _ => e⟩
theorem tpAdd_n {p : Trp} {d : Nat} (hd : d < 3) (hp : p.2.2.2.1 = nI d) (x y l : Int32) : tpAdd p x y l = (upd p.1 d x, upd p.2.1 d y, upd p.2.2.1 d l, nI (d + 1), p.2.2.2.2) := by
  unfold tpAdd
  rw [hp, if_pos (Int32.lt_iff_toInt_lt.mpr (by rw [nIT (by omega), li_3]; omega)), cl (by omega), nI_1]
theorem it_DR {n : Int32} {d : Nat} (hd : d < 3) {p p' : Trp} {X Y L F F' : Fn} {x y l : Int32} (h : DR p (nI d, X, Y, L, F)) (hp : p.2.2.2.1 = nI d) (hx : 0 ≤ x.toInt ∧ x.toInt ≤ 6) (hy : 0 ≤ y.toInt ∧ y.toInt ≤ 6) (hl : 0 ≤ l.toInt ∧ l.toInt ≤ 7) (s1 : SR p'.2.2.2.2 F') (s2 : SD d p.2.2.2.2 p'.2.2.2.2) (e1 : p'.1 = upd p.1 d x) (e2 : p'.2.1 = upd p.2.1 d y) (e3 : p'.2.2.1 = upd p.2.2.1 d l) (e4 : p'.2.2.2.1 = nI (d + 1)) : DR p' (nI d + 1, upd X d x, upd Y d y, upd L d l, F') := by
  obtain ⟨d', h1, h2, h3, h4, h5, h6⟩ := h
  have ed : d' = d := (nI_eq (by omega) (by omega)).mp (h2.symm.trans hp)
  subst ed
  refine ⟨d' + 1, by omega, e4, nI_1 d', s1, fun e he hde => ?_, fun e he => ?_⟩
  · show F' (11 * e) = 0
    rw [← (s1 e he).1, (s2 e he (by omega)).1, (h4 e he).1]
    exact h5 e he (by omega)
  · show p'.1 e = upd X d' x e ∧ p'.2.1 e = upd Y d' y e ∧ p'.2.2.1 e = upd L d' l e ∧ SOk (upd X d' x e, upd Y d' y e, upd L d' l e, 2)
    rw [e1, e2, e3]
    unfold upd
    by_cases q : e = d'
    · simp only [if_pos q]
      exact ⟨trivial, trivial, trivial, hx, hy, hl, by show 0 ≤ (2 : Int32).toInt ∧ (2 : Int32).toInt ≤ 2; decide⟩
    · simp only [if_neg q]
      exact h6 e (by omega)
theorem mdE_n {n : Int32} {f : Fn} (h : LT n f) {d : Nat} (hd : d < 3) {p : Trp} {X Y L F : Fn} (hDR : DR p (nI d, X, Y, L, F)) (hp : p.2.2.2.1 = nI d) {x : Nat} (hx : (x : Int) ≤ n.toInt) {r : Rdr} {s : PS} (er : r.1 = nI x) (es : s.1 = nI x) {v1 v2 v3 : Int32} (h1 : 0 ≤ v1.toInt ∧ v1.toInt ≤ 6) (h2 : 0 ≤ v2.toInt ∧ v2.toInt ≤ 6) (h3 : 0 ≤ v3.toInt ∧ v3.toInt ≤ 7) :
    IMo n d (itL (n, f) (nI d) 10 (rAdv (n, f) r) (tpAdd p v1 v2 v3)) (mdE n f s (nI d) (upd X d v1) (upd Y d v2) (upd L d v3) F) := by
  obtain ⟨d', g1, g2, g3, g4, g5, g6⟩ := hDR
  have ed : d' = d := (nI_eq (by omega) (by omega)).mp (g2.symm.trans hp)
  subst ed
  have hDR : DR p (nI d', X, Y, L, F) := ⟨d', g1, g2, g3, g4, g5, g6⟩
  obtain ⟨A, _⟩ := adv_at h hx r s er es
  have f0 : F (11 * d') = 0 := g5 d' hd (Nat.le_refl _)
  have eF : ∀ j, j < 33 → upd F (11 * nI d').toNatClampNeg 0 j = F j := fun j _ => by
    rw [c11 hd, upd]
    split
    · rename_i q; rw [q, f0]
    · rfl
  have eT := tpAdd_n hd hp v1 v2 v3
  have hS : SR (tpAdd p v1 v2 v3).2.2.2.2 (upd F (11 * nI d').toNatClampNeg 0) := by rw [eT]; exact g4.row eF
  have hl : ((tpAdd p v1 v2 v3).2.2.2.2.2 d').toInt = 10 - ((10 : Nat) : Int) := by
    rw [eT]
    show (p.2.2.2.2.2 d').toInt = _
    have q : p.2.2.2.2.2 d' = F (11 * d') := (g4 d' hd).1
    rw [q, f0]; decide
  have I := it_n h hd 10 (rAdv (n, f) r) (tpAdd p v1 v2 v3) (pNext n f s, upd F (11 * nI d').toNatClampNeg 0) A hS hl
  unfold mdE
  generalize itL (n, f) (nI d') 10 (rAdv (n, f) r) (tpAdd p v1 v2 v3) = XI at I ⊢
  generalize mdL n f (nI d') (10 + 1) (pNext n f s, upd F (11 * nI d').toNatClampNeg 0) = MI at I ⊢
  obtain ⟨i1, i2, i3⟩ := I
  refine ⟨i1, fun w => ?_, i3⟩
  obtain ⟨j1, j2, ⟨j3, j4, j5, j6⟩, j7⟩ := i2 w
  have wm : MI.1 = true := i1.symm.trans w
  refine ⟨⟨?_, by rw [j6, eT]⟩, j7⟩
  show DR XI.2.2 ((if MI.1 = true then nI d' + 1 else nI d'), upd X d' v1, upd Y d' v2, upd L d' v3, MI.2.2)
  rw [if_pos wm]
  rw [eT] at j2 j3 j4 j5 j6
  exact it_DR (n := n) hd hDR hp h1 h2 h3 j1 j2 j3 j4 j5 j6
theorem im_n {n : Int32} {f : Fn} (h : LT n f) {d : Nat} (hd : d < 3) {p : Trp} {X Y L F : Fn} (hDR : DR p (nI d, X, Y, L, F)) (hp : p.2.2.2.1 = nI d) {r : Rdr} {s : PS} (hA : AR n r (pNext n f s)) : IMo n d (itm (n, f) r p) (mdT n f s (nI d) X Y L F) := by
  have hA0 := hA
  obtain ⟨y, y1, a1, a2, a3, a4⟩ := hA
  have l100 : r.2.2 = 100 ↔ (pNext n f s).2.2.1 = 100 := tk_let a3 (by decide) (by decide) (by decide) (by decide) (by decide) (by decide)
  unfold itm mdT
  by_cases q : (pNext n f s).2.2.1 = 100
  · have n3 : ¬ nI d = 3 := fun w => by have := i_eq w; rw [nIT (by omega), li_3] at this; omega
    obtain ⟨x, x1, x2, x3⟩ := hA0.pos (by rw [q]; decide) (by rw [q]; decide)
    rw [if_pos q, if_pos (l100.mpr q), if_neg n3]
    generalize pNext n f s = S1 at x3
    obtain ⟨t1, u1⟩ := num_n h x1 x2 x3 (lo := 0) (hi := 6) (by decide) (by decide)
    unfold mdU
    by_cases b1 : pNumB n f 0 6 S1 = true
    · obtain ⟨c1, c2, c3, w1, w2, w3, w4⟩ := t1 b1
      rw [if_pos b1, if_neg c3, c1]
      generalize pNumS n f 0 6 S1 = S2 at c1 c2 w4 ⊢
      obtain ⟨t2, u2⟩ := num_n h w2 w3 w4 (lo := 0) (hi := 6) (by decide) (by decide)
      unfold mdV
      by_cases b2 : pNumB n f 0 6 S2 = true
      · obtain ⟨d1, d2, d3, w5, w6, w7, w8⟩ := t2 b2
        rw [if_pos b2, if_neg d3, d1]
        generalize pNumS n f 0 6 S2 = S3 at d1 d2 w8 ⊢
        obtain ⟨t3, u3⟩ := num_n h w6 w7 w8 (lo := 0) (hi := 7) (by decide) (by decide)
        unfold mdW
        by_cases b3 : pNumB n f 0 7 S3 = true
        · obtain ⟨e1, e2, e3, w9, w10, w11, w12⟩ := t3 b3
          rw [if_pos b3, if_neg e3, e1, hp]
          generalize pNumS n f 0 7 S3 = S4 at e1 e2 w12 ⊢
          rw [li_0, li_6] at c2 d2
          rw [li_0, li_7] at e2
          rw [cl (n := d) (by omega)]
          exact mdE_n h hd hDR hp w10 w11 w12 c2 d2 e2
        · obtain ⟨e1, e2⟩ := u3 (Bool.eq_false_iff.mpr b3)
          rw [if_neg b3, if_pos e1]
          exact imF e2
      · obtain ⟨e1, e2⟩ := u2 (Bool.eq_false_iff.mpr b2)
        rw [if_neg b2, if_pos e1]
        exact imF e2
    · obtain ⟨e1, e2⟩ := u1 (Bool.eq_false_iff.mpr b1)
      rw [if_neg b1, if_pos e1]
      exact imF e2
  · rw [if_neg q, if_neg (fun w => q (l100.mp w))]
    exact imF ⟨show r.2.1 = (pNext n f s).2.1 by rw [a1, a2], y, y1, a1⟩
/-- loaded at x, where the reference stands -/
def LH (n : Int32) (f : Fn) (r : Rdr) (x : Nat) : Prop := (x : Int) ≤ n.toInt ∧ ((x : Int) = n.toInt ∨ ¬ f x = 32) ∧ ∃ r0 : Rdr, r0.1 = nI x ∧ r = rAdv (n, f) r0
theorem LH.ar {n : Int32} {f : Fn} (h : LT n f) {r : Rdr} {x : Nat} (hL : LH n f r x) (s : PS) (es : s.1 = nI x) : AR n r (pNext n f s) := by
  obtain ⟨h1, h2, r0, h3, h4⟩ := hL
  rw [h4]
  exact (adv_at h h1 r0 s h3 es).1
theorem LH.at {n : Int32} {f : Fn} (h : LT n f) {r : Rdr} {x : Nat} (hL : LH n f r x) : r.2.1 = nI x ∧ (r.2.2 = -9 ↔ (x : Int) = n.toInt) := by
  obtain ⟨h1, h2, r0, h3, h4⟩ := hL
  have hn := h.1
  have e := (bl_id h h1 h2).1
  have eA : rAdv (n, f) r0 = (nI x + 1, nI x, rTok (n, f) (nI x)) := by unfold rAdv; rw [h3, e]
  rw [h4, eA]
  refine ⟨rfl, ?_⟩
  show rTok (n, f) (nI x) = -9 ↔ _
  by_cases q : (x : Int) = n.toInt
  · refine ⟨fun _ => q, fun _ => ?_⟩
    unfold rTok
    rw [tL_out (by omega) (by omega), if_neg (by decide)]
  · refine ⟨fun w => ?_, fun w => absurd w q⟩
    exfalso
    have lt : (x : Int) < n.toInt := by omega
    obtain ⟨r1, r2⟩ := h.2 x lt
    unfold rTok at w
    rw [tL_in lt h] at w
    have n9 : ¬ f x = -9 := fun z => by have := i_eq z; rw [li_m9] at this; omega
    split at w
    · split at w
      · exact absurd w (by decide)
      · exact n9 w
    · exact n9 w
theorem LH.nx {n : Int32} {f : Fn} (h : LT n f) {r1 : Rdr} {y : Nat} (hy : (y : Int) ≤ n.toInt) (e1 : r1.1 = nI y) : ∃ x : Nat, yBl n f (nI y) = nI x ∧ LH n f (rAdv (n, f) r1) x := by
  obtain ⟨x, x1, x2, x3, x4⟩ := bl_n h hy
  refine ⟨x, x3, x1, x4, (nI x, 0, 0), rfl, ?_⟩
  unfold rAdv
  rw [e1, x2, show ((nI x, 0, 0) : Rdr).1 = nI x from rfl, (bl_id h x1 x4).1]
def RDo (X : Int32 × Rdr × Trp) (M : Bool × RS) : Prop := (M.1 = true → X.1 = M.2.2.1 ∧ DR X.2.2 M.2.2) ∧ (M.1 = false → X.1 = -10 - M.2.1.2.2.2.2 ∧ X.1.toInt < 0)
theorem f10 {x : Nat} (hx : x ≤ 1000) : (-10 - nI x).toInt < 0 := by
  have k : (-10 : Int32).toInt = -10 := by decide
  rw [ti_sub (by rw [k, nIT (by omega)]; omega) (by rw [k, nIT (by omega)]; omega), k, nIT (by omega)]; omega
theorem rd_n {n : Int32} {f : Fn} (h : LT n f) (k : Nat) : ∀ (r : Rdr) (p : Trp) (z : RS) (x : Nat), k ≤ 3 → LH n f r x → z.1.1 = nI x → p.2.2.2.1 = nI (3 - k) → DR p z.2 → RDo (rdL (n, f) k r p) (daL n f (k + 1) z) := by
  have hn := h.1
  induction k with
  | zero =>
    intro r p z x _ hL hz hp hD
    obtain ⟨a1, a2⟩ := hL.at h
    rw [rdL, daL]
    by_cases q : (x : Int) = n.toInt
    · have le : n ≤ z.1.1 := Int32.le_iff_toInt_le.mpr (by rw [hz, nIT (by omega)]; omega)
      rw [if_pos le]
      refine ⟨fun _ => ⟨?_, hD⟩, fun w => absurd (show true = false from w) (by decide)⟩
      show rdF r p = z.2.1
      unfold rdF
      obtain ⟨d, _, g1, g2, _⟩ := hD
      rw [if_pos (a2.mpr q), g1, g2]
    · have le : ¬ n ≤ z.1.1 := fun w => by have := i_le w; rw [hz, nIT (by have := hL.1; omega)] at this; have := hL.1; omega
      have z3 : z.2.1 = 3 := by
        obtain ⟨d, _, g1, g2, _⟩ := hD
        rw [g2, ← g1, hp]; rfl
      have ar := hL.ar h z.1 hz
      obtain ⟨y, y1, b1, b2, _⟩ := ar
      have em : mdTz n f z = (false, pFail (pNext n f z.1), z.2) := by
        unfold mdTz mdT
        rw [z3, if_pos rfl]
        split
        · rw [← z3]
        · rw [← z3]
      rw [if_neg le, em, if_neg (show ¬ false = true by decide)]
      refine ⟨fun w => absurd (show false = true from w) (by decide), fun _ => ?_⟩
      show rdF r p = -10 - (pNext n f z.1).2.1 ∧ (rdF r p).toInt < 0
      unfold rdF
      rw [if_neg (fun w => q (a2.mp w)), b2, ← b1, a1]
      exact ⟨rfl, f10 (by have := hL.1; omega)⟩
  | succ k ih =>
    intro r p z x hk hL hz hp hD
    obtain ⟨a1, a2⟩ := hL.at h
    rw [rdL, daL]
    by_cases q : (x : Int) = n.toInt
    · have le : n ≤ z.1.1 := Int32.le_iff_toInt_le.mpr (by rw [hz, nIT (by omega)]; omega)
      rw [if_pos le, if_pos (a2.mpr q)]
      refine ⟨fun _ => ⟨?_, hD⟩, fun w => absurd (show true = false from w) (by decide)⟩
      show rdF r p = z.2.1
      unfold rdF
      obtain ⟨d, _, g1, g2, _⟩ := hD
      rw [if_pos (a2.mpr q), g1, g2]
    · have hx := hL.1
      have le : ¬ n ≤ z.1.1 := fun w => by have := i_le w; rw [hz, nIT (by omega)] at this; omega
      rw [if_neg le, if_neg (fun w => q (a2.mp w))]
      have ez : z.2.1 = nI (3 - (k + 1)) := by
        obtain ⟨d, _, g1, g2, _⟩ := hD
        rw [g2, ← g1, hp]
      have hD' : DR p (nI (3 - (k + 1)), z.2.2.1, z.2.2.2.1, z.2.2.2.2.1, z.2.2.2.2.2) := by rw [← ez]; exact hD
      have I := im_n h (d := 3 - (k + 1)) (by omega) hD' hp (hL.ar h z.1 hz)
      have em : mdTz n f z = mdT n f z.1 (nI (3 - (k + 1))) z.2.2.1 z.2.2.2.1 z.2.2.2.2.1 z.2.2.2.2.2 := by unfold mdTz; rw [ez]
      rw [em]
      generalize itm (n, f) r p = XI at I ⊢
      generalize mdT n f z.1 (nI (3 - (k + 1))) z.2.2.1 z.2.2.2.1 z.2.2.2.2.1 z.2.2.2.2.2 = MI at I ⊢
      obtain ⟨i1, i2, i3⟩ := I
      by_cases b : MI.1 = true
      · have bx : XI.1 = true := i1.trans b
        rw [if_pos b, if_pos bx]
        obtain ⟨⟨j1, j0⟩, y, y1, y2, y3⟩ := i2 bx
        obtain ⟨x', x1, x2⟩ := LH.nx h y1 y2
        refine ih (rAdv (n, f) XI.2.1) XI.2.2 (rBl n f MI.2) x' (by omega) x2 ?_ ?_ j1
        · show yBl n f MI.2.1.1 = nI x'
          rw [y3, x1]
        · rw [j0, show 3 - (k + 1) + 1 = 3 - k by omega]
      · have bf : XI.1 = false := by rw [i1]; exact Bool.eq_false_iff.mpr b
        rw [if_neg b, if_neg (by rw [bf]; decide)]
        refine ⟨fun w => absurd (show false = true from w) (by decide), fun _ => ?_⟩
        obtain ⟨e1, y, y1, e2⟩ := i3 bf
        show -10 - XI.2.1.2.1 = -10 - MI.2.1.2.2.2.2 ∧ (-10 - XI.2.1.2.1).toInt < 0
        rw [← e1]
        exact ⟨rfl, by rw [e2]; exact f10 (by omega)⟩
theorem dn_0 {n : Int32} {f : Fn} (h : LT n f) (r : Rdr) (p : Trp) (t2 t3 t4 t5 : Int32) (X Y L F : Fn) : RDo (rdT (n, f) r p) (daZ n f t2 t3 t4 t5 X Y L F) := by
  have hn := h.1
  obtain ⟨x, x1, x2⟩ := LH.nx h (r1 := (0, r.2.1, r.2.2)) (y := 0) (by omega) rfl
  unfold rdT daZ
  refine rd_n h 3 _ (tpEmp p) _ x (by omega) x2 x1 rfl ?_
  have zl : ∀ e, e < 3 → zeroL p.2.2.2.2.2 3 e = 0 := fun e he => by
    rcases (show e = 0 ∨ e = 1 ∨ e = 2 by omega) with rfl | rfl | rfl <;> rfl
  refine ⟨0, by omega, rfl, rfl, fun e he => ?_, fun e he _ => zrL_at F 33 (by omega) (11 * e) (by omega), fun e he => absurd he (by omega)⟩
  have e1 : (tpEmp p).2.2.2.2.2 e = 0 := zl e he
  refine ⟨?_, ?_, fun b hb => ?_⟩
  · rw [e1]; exact (zrL_at F 33 (by omega) (11 * e) (by omega)).symm
  · rw [e1]; decide
  · rw [e1, li_0] at hb; omega
