/-! a sign, a dancer, a whole text -/
theorem AR.pos {n : Int32} {r : Rdr} {s : PS} (h : AR n r s) (h1 : ¬ s.2.2.1 = -1) (h2 : ¬ s.2.2.1 = -2) : ∃ y : Nat, (y : Int) ≤ n.toInt ∧ r.1 = nI y ∧ s.1 = nI y := by
  obtain ⟨y, y1, a1, a2, a3, a4⟩ := h
  rcases a4 with b | b | ⟨b1, b2, b3⟩
  · exact absurd b h1
  · exact absurd b h2
  · exact ⟨y + 1, b3, b1, b2⟩
/-- what a sign's reading leaves on both sides -/
def SGo (n : Int32) (f F : Fn) (rm : Int32) (r : Rdr) (s : PS) : Prop :=
  (rsB n f F rm s.2.2.1 s = true → ¬ rSgn (n, f) r = -9 ∧ rSgn (n, f) r = rsG n f s.2.2.1 s ∧ (0 ≤ (rSgn (n, f) r).toInt ∧ (rSgn (n, f) r).toInt ≤ 32) ∧ ∃ y : Nat, (y : Int) ≤ n.toInt ∧ (rSgS (n, f) r).1 = nI y ∧ (rsS n f F rm s.2.2.1 s).1 = nI y) ∧
  (rsB n f F rm s.2.2.1 s = false → rSgn (n, f) r = -9 ∧ (rSgS (n, f) r).2.1 = (rsS n f F rm s.2.2.1 s).2.2.2.2 ∧ ∃ y : Nat, (y : Int) ≤ n.toInt ∧ (rSgS (n, f) r).2.1 = nI y)
theorem sg_num {n : Int32} {f F : Fn} (h : LT n f) {rm : Int32} (hF : ¬ F (11 * rm).toNatClampNeg = 10) {r : Rdr} {s : PS} {x : Nat} (hx : (x : Int) ≤ n.toInt) (er : r.1 = nI x) (es : s.1 = nI x) {g : Int32} (h46 : ¬ r.2.2 = 46) (h99 : ¬ r.2.2 = 99) (hfs : fsOf r.2.2 = g) (hsg : sgOf s.2.2.1 = g) (hg : g = 2 ∨ g = 10 ∨ g = 18 ∨ g = 26) : SGo n f F rm r s := by
  have g9 : ¬ g = -9 := by rcases hg with rfl | rfl | rfl | rfl <;> decide
  have g1 : ¬ g ≤ 1 := by rcases hg with rfl | rfl | rfl | rfl <;> decide
  have gl : 0 ≤ (rLo g).toInt := by rcases hg with rfl | rfl | rfl | rfl <;> decide
  obtain ⟨nT, nF⟩ := num_n h hx er es (lo := rLo g) (hi := 7) gl (by decide)
  unfold SGo rsB rsS rSgn rSgS rsG
  rw [hsg, hfs, if_neg hF, if_neg g9, if_neg g1, if_neg hF, if_neg g9, if_neg g1, if_neg h46, if_neg h99, if_neg g9, if_neg h46, if_neg h99, if_neg g9, if_neg g1]
  refine ⟨fun q => ?_, fun q => ?_⟩
  · obtain ⟨a1, a2, a3, a4⟩ := nT q
    rw [if_neg a3, a1]
    generalize hv : pNumS n f (rLo g) 7 s = V at a1 a2 a4 ⊢
    rw [li_7] at a2
    rcases hg with rfl | rfl | rfl | rfl
    · have e0 : rLo 2 = 0 := by decide
      rw [e0] at hv a2 ⊢
      rw [if_neg (by decide), hv]
      have e : (2 + V.2.2.2.1 : Int32).toInt = 2 + V.2.2.2.1.toInt := by rw [ti_add (by rw [li_2]; rw [li_0] at a2; omega) (by rw [li_2]; omega), li_2]
      rw [li_0] at a2
      rw [Int32.sub_zero]
      exact ⟨fun z => by have := i_eq z; rw [li_m9, e] at this; omega, rfl, by rw [e]; omega, a4⟩
    · have e0 : rLo 10 = 0 := by decide
      rw [e0] at hv a2 ⊢
      rw [if_neg (by decide), hv]
      rw [li_0] at a2
      have e : (10 + V.2.2.2.1 : Int32).toInt = 10 + V.2.2.2.1.toInt := by rw [ti_add (by rw [li_10]; omega) (by rw [li_10]; omega), li_10]
      rw [Int32.sub_zero]
      exact ⟨fun z => by have := i_eq z; rw [li_m9, e] at this; omega, rfl, by rw [e]; omega, a4⟩
    · have e0 : rLo 18 = 0 := by decide
      rw [e0] at hv a2 ⊢
      rw [if_neg (by decide), hv]
      rw [li_0] at a2
      have k : (18 : Int32).toInt = 18 := by decide
      have e : (18 + V.2.2.2.1 : Int32).toInt = 18 + V.2.2.2.1.toInt := by rw [ti_add (by rw [k]; omega) (by rw [k]; omega), k]
      rw [Int32.sub_zero]
      exact ⟨fun z => by have := i_eq z; rw [li_m9, e] at this; omega, rfl, by rw [e]; omega, a4⟩
    · have e0 : rLo 26 = 1 := by decide
      rw [e0] at hv a2 ⊢
      rw [if_pos rfl, hv]
      rw [li_1] at a2
      have k : (26 : Int32).toInt = 26 := by decide
      have e : (26 + V.2.2.2.1 : Int32).toInt = 26 + V.2.2.2.1.toInt := by rw [ti_add (by rw [k]; omega) (by rw [k]; omega), k]
      have e2 : (26 + V.2.2.2.1 - 1 : Int32).toInt = 26 + V.2.2.2.1.toInt - 1 := by rw [ti_sub (by rw [e, li_1]; omega) (by rw [e, li_1]; omega), e, li_1]
      have e3 : (V.2.2.2.1 - 1).toInt = V.2.2.2.1.toInt - 1 := by rw [ti_sub (by rw [li_1]; omega) (by rw [li_1]; omega), li_1]
      have e4 : (26 + (V.2.2.2.1 - 1) : Int32).toInt = 26 + (V.2.2.2.1.toInt - 1) := by rw [ti_add (by rw [k, e3]; omega) (by rw [k, e3]; omega), k, e3]
      exact ⟨fun z => by have := i_eq z; rw [li_m9, e2] at this; omega, Int32.toInt_inj.mp (by rw [e2, e4]; omega), by rw [e2]; omega, a4⟩
  · obtain ⟨a1, a2⟩ := nF q
    rw [if_pos a1]
    exact ⟨rfl, a2⟩
theorem sg_n {n : Int32} {f F : Fn} (h : LT n f) {rm : Int32} (hF : ¬ F (11 * rm).toNatClampNeg = 10) {r : Rdr} {s : PS} (hA : AR n r s) : SGo n f F rm r s := by
  have hA0 := hA
  obtain ⟨y, y1, a1, a2, a3, a4⟩ := hA
  have L : ∀ c : Int32, isTok c = true → isDg c = false → ¬ c = -9 → ¬ c = 0 → ¬ c = -1 → ¬ c = -2 → (r.2.2 = c ↔ s.2.2.1 = c) := fun c x1 x2 x3 x4 x5 x6 => tk_let a3 x1 x2 x3 x4 x5 x6
  have l46 := L 46 (by decide) (by decide) (by decide) (by decide) (by decide) (by decide)
  have l99 := L 99 (by decide) (by decide) (by decide) (by decide) (by decide) (by decide)
  have l108 := L 108 (by decide) (by decide) (by decide) (by decide) (by decide) (by decide)
  have l114 := L 114 (by decide) (by decide) (by decide) (by decide) (by decide) (by decide)
  have l106 := L 106 (by decide) (by decide) (by decide) (by decide) (by decide) (by decide)
  have l116 := L 116 (by decide) (by decide) (by decide) (by decide) (by decide) (by decide)
  have P : ¬ s.2.2.1 = -1 → ¬ s.2.2.1 = -2 → ∃ y : Nat, (y : Int) ≤ n.toInt ∧ r.1 = nI y ∧ s.1 = nI y := hA0.pos
  by_cases q46 : s.2.2.1 = 46
  · obtain ⟨x, x1, x2, x3⟩ := P (by rw [q46]; decide) (by rw [q46]; decide)
    unfold SGo rsB rsS rSgn rSgS rsG
    rw [if_pos (l46.mpr q46), if_pos (l46.mpr q46), if_neg hF, if_neg hF, q46]
    exact ⟨fun _ => ⟨by decide, rfl, by decide, x, x1, x2, x3⟩, fun z => absurd (show true = false from z) (by decide)⟩
  · by_cases q99 : s.2.2.1 = 99
    · obtain ⟨x, x1, x2, x3⟩ := P (by rw [q99]; decide) (by rw [q99]; decide)
      have n46 : ¬ r.2.2 = 46 := fun z => q46 (l46.mp z)
      unfold SGo rsB rsS rSgn rSgS rsG
      rw [if_neg n46, if_neg n46, if_pos (l99.mpr q99), if_pos (l99.mpr q99), if_neg hF, if_neg hF, q99]
      exact ⟨fun _ => ⟨by decide, rfl, by decide, x, x1, x2, x3⟩, fun z => absurd (show true = false from z) (by decide)⟩
    · have n46 : ¬ r.2.2 = 46 := fun z => q46 (l46.mp z)
      have n99 : ¬ r.2.2 = 99 := fun z => q99 (l99.mp z)
      by_cases q108 : s.2.2.1 = 108
      · obtain ⟨x, x1, x2, x3⟩ := P (by rw [q108]; decide) (by rw [q108]; decide)
        exact sg_num h hF x1 x2 x3 (g := 2) n46 n99 (by rw [l108.mpr q108]; decide) (by rw [q108]; decide) (Or.inl rfl)
      · by_cases q114 : s.2.2.1 = 114
        · obtain ⟨x, x1, x2, x3⟩ := P (by rw [q114]; decide) (by rw [q114]; decide)
          exact sg_num h hF x1 x2 x3 (g := 10) n46 n99 (by rw [l114.mpr q114]; decide) (by rw [q114]; decide) (Or.inr (Or.inl rfl))
        · by_cases q106 : s.2.2.1 = 106
          · obtain ⟨x, x1, x2, x3⟩ := P (by rw [q106]; decide) (by rw [q106]; decide)
            exact sg_num h hF x1 x2 x3 (g := 18) n46 n99 (by rw [l106.mpr q106]; decide) (by rw [q106]; decide) (Or.inr (Or.inr (Or.inl rfl)))
          · by_cases q116 : s.2.2.1 = 116
            · obtain ⟨x, x1, x2, x3⟩ := P (by rw [q116]; decide) (by rw [q116]; decide)
              exact sg_num h hF x1 x2 x3 (g := 26) n46 n99 (by rw [l116.mpr q116]; decide) (by rw [q116]; decide) (Or.inr (Or.inr (Or.inr rfl)))
            · have eg : sgOf s.2.2.1 = -9 := by unfold sgOf; rw [if_neg q46, if_neg q99, if_neg q108, if_neg q114, if_neg q106, if_neg q116]
              have ef : fsOf r.2.2 = -9 := by
                unfold fsOf
                rw [if_neg (fun z => q106 (l106.mp z)), if_neg (fun z => q108 (l108.mp z)), if_neg (fun z => q114 (l114.mp z)), if_neg (fun z => q116 (l116.mp z))]
              unfold SGo rsB rsS rSgn rSgS
              rw [if_neg n46, if_neg n46, if_neg n99, if_neg n99, if_pos ef, if_pos ef, if_neg hF, if_neg hF, if_pos eg, if_pos eg]
              exact ⟨fun z => absurd z (by decide), fun _ => ⟨rfl, by show r.2.1 = s.2.1; rw [a1, a2], y, y1, a1⟩⟩
theorem rsF_ad {n : Int32} {f F : Fn} {rm k : Int32} {s : PS} (h : rsB n f F rm k s = true) : rsF n f F rm k s = yAdF F rm (rsG n f k s) := by
  unfold rsF
  rw [if_pos h]
  rfl
/-- what a dancer's signs leave on both sides -/
def ITo (n : Int32) (d : Nat) (p : Trp) (X : Bool × Rdr × Trp) (M : Bool × PS × Fn) : Prop :=
  X.1 = M.1 ∧ (X.1 = true → SR X.2.2.2.2.2.2 M.2.2 ∧ SD d p.2.2.2.2 X.2.2.2.2.2.2 ∧ (X.2.2.1 = p.1 ∧ X.2.2.2.1 = p.2.1 ∧ X.2.2.2.2.1 = p.2.2.1 ∧ X.2.2.2.2.2.1 = p.2.2.2.1) ∧ ∃ y : Nat, (y : Int) ≤ n.toInt ∧ X.2.1.1 = nI y ∧ M.2.1.1 = nI y) ∧ (X.1 = false → X.2.1.2.1 = M.2.1.2.2.2.2 ∧ ∃ y : Nat, (y : Int) ≤ n.toInt ∧ X.2.1.2.1 = nI y)
theorem SD.tr {d : Nat} {u v w : Stf} (a : SD d u v) (b : SD d v w) : SD d u w := fun e he hne => by
  obtain ⟨a1, a2⟩ := a e he hne
  obtain ⟨b1, b2⟩ := b e he hne
  exact ⟨b1.trans a1, fun c hc => (b2 c hc).trans (a2 c hc)⟩
theorem it_n {n : Int32} {f : Fn} (h : LT n f) {d : Nat} (hd : d < 3) (k : Nat) : ∀ (r : Rdr) (p : Trp) (z : PS × Fn), AR n r z.1 → SR p.2.2.2.2 z.2 → (p.2.2.2.2.2 d).toInt = 10 - (k : Int) → ITo n d p (itL (n, f) (nI d) k r p) (mdL n f (nI d) (k + 1) z) := by
  induction k with
  | zero =>
    intro r p z hA hS hl
    have hA0 := hA
    obtain ⟨y, y1, a1, a2, a3, a4⟩ := hA
    have l59 : r.2.2 = 59 ↔ z.1.2.2.1 = 59 := tk_let a3 (by decide) (by decide) (by decide) (by decide) (by decide) (by decide)
    rw [itL, mdL]
    by_cases q : z.1.2.2.1 = 59
    · rw [if_pos q, if_pos (l59.mpr q)]
      obtain ⟨x, x1, x2, x3⟩ := hA0.pos (by rw [q]; decide) (by rw [q]; decide)
      exact ⟨rfl, fun _ => ⟨hS, SD.rf _ _, ⟨rfl, rfl, rfl, rfl⟩, x, x1, x2, x3⟩, fun w => absurd (show true = false from w) (by decide)⟩
    · rw [if_neg q, if_neg (fun w => q (l59.mp w))]
      have e10 : z.2 (11 * nI d).toNatClampNeg = 10 := by
        rw [c11 hd, ← (hS d hd).1]
        exact Int32.toInt_inj.mp (by rw [hl]; decide)
      have eb : rsB n f z.2 (nI d) z.1.2.2.1 z.1 = false := by unfold rsB; rw [if_pos e10]
      rw [if_neg (by rw [eb]; decide)]
      refine ⟨rfl, fun w => absurd (show false = true from w) (by decide), fun _ => ⟨?_, y, y1, a1⟩⟩
      show r.2.1 = (rsS n f z.2 (nI d) z.1.2.2.1 z.1).2.2.2.2
      unfold rsS
      rw [if_pos e10]
      show r.2.1 = z.1.2.1
      rw [a1, a2]
  | succ k ih =>
    intro r p z hA hS hl
    have hA0 := hA
    obtain ⟨y, y1, a1, a2, a3, a4⟩ := hA
    have l59 : r.2.2 = 59 ↔ z.1.2.2.1 = 59 := tk_let a3 (by decide) (by decide) (by decide) (by decide) (by decide) (by decide)
    rw [itL, mdL]
    by_cases q : z.1.2.2.1 = 59
    · rw [if_pos q, if_pos (l59.mpr q)]
      obtain ⟨x, x1, x2, x3⟩ := hA0.pos (by rw [q]; decide) (by rw [q]; decide)
      exact ⟨rfl, fun _ => ⟨hS, SD.rf _ _, ⟨rfl, rfl, rfl, rfl⟩, x, x1, x2, x3⟩, fun w => absurd (show true = false from w) (by decide)⟩
    · rw [if_neg q, if_neg (fun w => q (l59.mp w))]
      have e10 : ¬ z.2 (11 * nI d).toNatClampNeg = 10 := by
        rw [c11 hd, ← (hS d hd).1]
        intro w
        have := i_eq w
        rw [hl, li_10] at this
        omega
      obtain ⟨gT, gF⟩ := sg_n (F := z.2) (rm := nI d) h e10 hA0
      by_cases b : rsB n f z.2 (nI d) z.1.2.2.1 z.1 = true
      · obtain ⟨g1, g2, g3, x, x1, x2, x3⟩ := gT b
        rw [if_pos b, if_neg g1, rsF_ad b, ← g2]
        obtain ⟨s1, s2, s3, s4⟩ := ad_SR hS hd (by omega) g3.1 g3.2
        obtain ⟨A2, _⟩ := adv_at h x1 (rSgS (n, f) r) (rsS n f z.2 (nI d) z.1.2.2.1 z.1) x2 x3
        have hl2 : ((tpSt p (sAdd p.2.2.2.2 (nI d) (rSgn (n, f) r))).2.2.2.2.2 d).toInt = 10 - (k : Int) := by
          show ((sAdd p.2.2.2.2 (nI d) (rSgn (n, f) r)).2 d).toInt = _
          rw [← sLen_n hd, s3, s4]; omega
        obtain ⟨i1, i2, i3⟩ := ih (rAdv (n, f) (rSgS (n, f) r)) (tpSt p (sAdd p.2.2.2.2 (nI d) (rSgn (n, f) r))) (pNext n f (rsS n f z.2 (nI d) z.1.2.2.1 z.1), yAdF z.2 (nI d) (rSgn (n, f) r)) A2 s1 hl2
        refine ⟨i1, fun w => ?_, i3⟩
        obtain ⟨j1, j2, j3, j4⟩ := i2 w
        exact ⟨j1, s2.tr j2, j3, j4⟩
      · have bf : rsB n f z.2 (nI d) z.1.2.2.1 z.1 = false := Bool.eq_false_iff.mpr b
        obtain ⟨g1, g2⟩ := gF bf
        rw [if_neg b, if_pos g1]
        exact ⟨rfl, fun w => absurd (show false = true from w) (by decide), fun _ => g2⟩
