/-! canons -/
theorem nI_sb {a b : Nat} (h : b ≤ a) (ha : a < 2147483648) : nI a - nI b = nI (a - b) := Int32.toInt_inj.mp (by
  rw [ti_sub (by rw [nIT (by omega), nIT (by omega)]; omega) (by rw [nIT (by omega), nIT (by omega)]; omega), nIT (by omega), nIT (by omega), nIT (by omega)]; omega)
theorem canL_at {v : Stf} {d o rr N Lo : Nat} (hd : d < 3) (ho : o < 3) (hne : ¬ d = o) (hN : N ≤ 10) (hL : (v.2 o).toInt = (Lo : Int)) (hNL : N ≤ Lo + rr) (hr : rr ≤ 10) (n : Nat) (hn : n ≤ N) :
    (canL (v.1, upd v.2 d (nI N)) (nI d) (nI o) (nI rr) n).2 = upd v.2 d (nI N) ∧ ∀ e b : Nat, e < 3 → b < 10 → (canL (v.1, upd v.2 d (nI N)) (nI d) (nI o) (nI rr) n).1 (10 * e + b) = if e = d ∧ b < n then (if rr ≤ b then v.1 (10 * o + (b - rr)) else 0) else v.1 (10 * e + b) := by
  induction n with
  | zero => exact ⟨rfl, fun e b _ _ => by rw [if_neg (show ¬ (e = d ∧ b < 0) by omega)]; rfl⟩
  | succ n ih =>
    obtain ⟨i1, i2⟩ := ih (by omega)
    have hb : (n : Int) < ((canL (v.1, upd v.2 d (nI N)) (nI d) (nI o) (nI rr) n).2 d).toInt := by rw [i1, upd, if_pos rfl, nIT (by omega)]; omega
    rw [canL, sRep_t hd (by omega) hb]
    refine ⟨i1, fun e b he h10 => ?_⟩
    show upd (canL (v.1, upd v.2 d (nI N)) (nI d) (nI o) (nI rr) n).1 (10 * d + n) _ (10 * e + b) = _
    rw [upd]
    by_cases q : e = d ∧ b = n
    · obtain ⟨q1, q2⟩ := q
      rw [if_pos (show 10 * e + b = 10 * d + n by omega), if_pos (show e = d ∧ b < n + 1 from ⟨q1, by omega⟩), q2]
      by_cases r : rr ≤ n
      · rw [if_pos (show nI rr ≤ nI n from nI_le r (by omega)), if_pos r, nI_sb r (by omega)]
        have ho2 : ((n - rr : Nat) : Int) < ((canL (v.1, upd v.2 d (nI N)) (nI d) (nI o) (nI rr) n).2 o).toInt := by rw [i1, upd, if_neg (fun q => hne q.symm), hL]; omega
        rw [sAt_t ho (by omega) ho2, i2 o (n - rr) ho (by omega), if_neg (show ¬ (o = d ∧ n - rr < n) from fun q => hne q.1.symm)]
      · rw [if_neg (show ¬ nI rr ≤ nI n from fun q => r ((nI_leI (by omega) (by omega)).mp q)), if_neg r]
    · rw [if_neg (show ¬ 10 * e + b = 10 * d + n by omega), i2 e b he h10]
      by_cases q2 : e = d ∧ b < n
      · rw [if_pos q2, if_pos (show e = d ∧ b < n + 1 from ⟨q2.1, by omega⟩)]
      · rw [if_neg q2, if_neg (show ¬ (e = d ∧ b < n + 1) by omega)]
theorem caL_at {f : Fn} {d o rr N : Nat} (hd : d < 3) (ho : o < 3) (hne : ¬ d = o) (hN : N ≤ 10) (hr : rr ≤ 10) (n : Nat) (hn : n ≤ 10) :
    (∀ e : Nat, e < 3 → caL f (nI d) (nI o) (nI rr) (nI N) n (11 * e) = f (11 * e)) ∧ ∀ e b : Nat, e < 3 → b < 10 → caL f (nI d) (nI o) (nI rr) (nI N) n (11 * e + 1 + b) = if e = d ∧ b < n then (if b < rr then 0 else if b < N then f (11 * o + 1 + (b - rr)) else 0) else f (11 * e + 1 + b) := by
  induction n with
  | zero => exact ⟨fun _ _ => rfl, fun e b _ _ => by rw [if_neg (show ¬ (e = d ∧ b < 0) by omega)]; rfl⟩
  | succ n ih =>
    obtain ⟨i1, i2⟩ := ih (by omega)
    rw [caL, c11b hd (by omega)]
    refine ⟨fun e he => by rw [upd, if_neg (show ¬ 11 * e = 11 * d + 1 + n by omega)]; exact i1 e he, fun e b he h10 => ?_⟩
    rw [upd]
    by_cases q : e = d ∧ b = n
    · obtain ⟨q1, q2⟩ := q
      rw [if_pos (show 11 * e + 1 + b = 11 * d + 1 + n by omega), if_pos (show e = d ∧ b < n + 1 from ⟨q1, by omega⟩), q2]
      by_cases r : n < rr
      · rw [if_pos (show nI n < nI rr from nI_lt r (by omega)), if_pos r]
      · rw [if_neg (show ¬ nI n < nI rr from fun q => r ((nI_ltI (by omega) (by omega)).mp q)), if_neg r]
        by_cases s : n < N
        · rw [if_pos (show nI n < nI N from nI_lt s (by omega)), if_pos s, nI_sb (by omega) (by omega), c11b ho (by omega), i2 o (n - rr) ho (by omega), if_neg (show ¬ (o = d ∧ n - rr < n) from fun q => hne q.1.symm)]
        · rw [if_neg (show ¬ nI n < nI N from fun q => s ((nI_ltI (by omega) (by omega)).mp q)), if_neg s]
    · rw [if_neg (show ¬ 11 * e + 1 + b = 11 * d + 1 + n by omega), i2 e b he h10]
      by_cases q2 : e = d ∧ b < n
      · rw [if_pos q2, if_pos (show e = d ∧ b < n + 1 from ⟨q2.1, by omega⟩)]
      · rw [if_neg q2, if_neg (show ¬ (e = d ∧ b < n + 1) by omega)]
theorem can_SR {v : Stf} {f : Fn} (h : SR v f) {d o rr : Nat} (hd : d < 3) (ho : o < 3) (hne : ¬ d = o) (hr : rr ≤ 4) : SR (canon v (nI d) (nI o) (nI rr)) (yCaF f (nI d) (nI o) (nI rr)) ∧ SD d v (canon v (nI d) (nI o) (nI rr)) ∧ sLen (canon v (nI d) (nI o) (nI rr)) (nI d) = caN f (nI o) (nI rr) := by
  obtain ⟨o1, o2, o3⟩ := h o ho
  obtain ⟨Lo, eL, fL⟩ := nI_ofI o2.1
  obtain ⟨N, eN⟩ : ∃ N, N = min 10 (Lo + rr) := ⟨_, rfl⟩
  have L10 : Lo ≤ 10 := by omega
  have x1 : mn 10 (nI rr + sLen v (nI o)) = nI N := by
    unfold mn
    rw [sLen_n ho, fL, nI_add]
    by_cases q : rr + Lo < 10
    · rw [if_pos (show nI (rr + Lo) < 10 from nI_lt (b := 10) q (by omega)), show N = rr + Lo by omega]
    · rw [if_neg (show ¬ nI (rr + Lo) < 10 from fun z => q ((nI_ltI (b := 10) (by omega) (by omega)).mp z)), show N = 10 by omega]; rfl
  have x2 : caN f (nI o) (nI rr) = nI N := by
    unfold caN
    rw [c11 ho, ← o1, fL, nI_add]
    by_cases q : Lo + rr ≤ 10
    · rw [if_pos (show nI (Lo + rr) ≤ 10 from nI_le (b := 10) q (by omega)), show N = Lo + rr by omega]
    · rw [if_neg (show ¬ nI (Lo + rr) ≤ 10 from fun z => q ((nI_leI (b := 10) (by omega) (by omega)).mp z)), show N = 10 by omega]; rfl
  have x3 : sSet v (nI d) (nI N) = (v.1, upd v.2 d (nI N)) := sSet_t hd (by rw [nIT (by omega)]; omega) (by rw [nIT (by omega)]; omega)
  have x4 : sLen (v.1, upd v.2 d (nI N)) (nI d) = nI N := by
    rw [sLen_n hd]; show upd v.2 d (nI N) d = _; rw [upd, if_pos rfl]
  have x5 : canon v (nI d) (nI o) (nI rr) = canL (v.1, upd v.2 d (nI N)) (nI d) (nI o) (nI rr) N := by
    unfold canon; rw [x1, x3, x4, cl (by omega)]
  obtain ⟨c1, c2⟩ := canL_at (v := v) hd ho hne (by omega) eL.symm (rr := rr) (N := N) (by omega) (by omega) N (Nat.le_refl N)
  obtain ⟨m1, m2⟩ := caL_at (f := f) hd ho hne (N := N) (rr := rr) (by omega) (by omega) 10 (Nat.le_refl _)
  have hD : SD d v (canL (v.1, upd v.2 d (nI N)) (nI d) (nI o) (nI rr) N) := fun e he hq => by
    refine ⟨by rw [c1, upd, if_neg hq], fun b hb => ?_⟩
    rw [c2 e b he hb, if_neg (show ¬ (e = d ∧ b < N) from fun z => hq z.1)]
  have eF : yCaF f (nI d) (nI o) (nI rr) = upd (caL f (nI d) (nI o) (nI rr) (nI N) 10) (11 * d) (nI N) := by
    unfold yCaF; rw [x2, c11 hd]
  refine ⟨?_, ?_, ?_⟩
  · rw [x5, eF]
    refine SR_len h hd hD (fun e he hq => ?_) ?_ ?_ (fun b hb => ?_)
    · refine ⟨by rw [upd, if_neg (show ¬ 11 * e = 11 * d by omega)]; exact m1 e he, fun b hb => ?_⟩
      rw [upd, if_neg (show ¬ 11 * e + 1 + b = 11 * d by omega), m2 e b he hb, if_neg (show ¬ (e = d ∧ b < 10) from fun z => hq z.1)]
    · rw [c1, upd, if_pos rfl, upd, if_pos rfl]
    · rw [c1, upd, if_pos rfl, nIT (by omega)]; omega
    · rw [c1, upd, if_pos rfl, nIT (by omega)] at hb
      rw [c2 d b hd (by omega), if_pos (show d = d ∧ b < N from ⟨rfl, by omega⟩), upd, if_neg (show ¬ 11 * d + 1 + b = 11 * d by omega), m2 d b hd (by omega), if_pos (show d = d ∧ b < 10 from ⟨rfl, by omega⟩)]
      by_cases q : rr ≤ b
      · rw [if_pos q, if_neg (show ¬ b < rr by omega), if_pos (show b < N by omega)]
        exact o3 (b - rr) (by omega)
      · rw [if_neg q, if_pos (show b < rr by omega)]
        exact ⟨rfl, by decide, by decide⟩
  · rw [x5]; exact hD
  · rw [x5, sLen_n hd, c1, upd, if_pos rfl, x2]
/-! what was done -/
def SM (mn : Int32) (v : Stf) (f : Fn) : Prop := SR v f ∧ ZR mn f
def SE (v w : Stf) : Prop := ∀ d : Nat, d < 3 → w.2 d = v.2 d ∧ ∀ b : Nat, b < 10 → (b : Int) < (v.2 d).toInt → w.1 (10 * d + b) = v.1 (10 * d + b)
theorem SE.tr {u v w : Stf} (a : SE u v) (b : SE v w) : SE u w := fun d hd => by
  obtain ⟨a1, a2⟩ := a d hd
  obtain ⟨b1, b2⟩ := b d hd
  exact ⟨b1.trans a1, fun c c10 hc => (b2 c c10 (by rw [a1]; exact hc)).trans (a2 c c10 hc)⟩
theorem SR.se {v w : Stf} {f : Fn} (h : SR v f) (e : SE v w) : SR w f := fun d hd => by
  obtain ⟨h1, h2, h3⟩ := h d hd
  obtain ⟨a, b⟩ := e d hd
  refine ⟨by rw [a]; exact h1, by rw [a]; exact h2, fun c hc => ?_⟩
  rw [a] at hc
  rw [b c (by omega) hc]; exact h3 c hc
theorem SM.se {mn : Int32} {v w : Stf} {f : Fn} (h : SM mn v f) (e : SE v w) : SM mn w f := ⟨h.1.se e, h.2⟩
theorem SR.row {v : Stf} {f g : Fn} (h : SR v f) (e : ∀ j, j < 33 → g j = f j) : SR v g := fun d hd => by
  obtain ⟨h1, h2, h3⟩ := h d hd
  refine ⟨by rw [e _ (by omega)]; exact h1, h2, fun c hc => ?_⟩
  rw [e _ (by omega)]; exact h3 c hc
theorem SM.row {mn : Int32} {v : Stf} {f g : Fn} (h : SM mn v f) (e : ∀ j, j < 33 → g j = f j) : SM mn v g := ⟨h.1.row e, fun d hd hm => by rw [e _ (by omega)]; exact h.2 d hd hm⟩
/-- the staffs with a slot of the history put back -/
def rvS (hi : His) (w : Stf) (sl : Nat) : Stf := revL (sSet w (hi.2.2.1 sl) (hi.2.1 sl)) hi.1 (nI sl) (hi.2.2.1 sl) 10
def slOk (hi : His) (sl : Nat) : Prop := (0 ≤ (hi.2.2.1 sl).toInt ∧ (hi.2.2.1 sl).toInt < 3) ∧ (0 ≤ (hi.2.1 sl).toInt ∧ (hi.2.1 sl).toInt ≤ 10)
theorem revL_at {w : Stf} {g : Fn} {sl d L : Nat} (hs : sl < 10) (hd : d < 3) (hL : L ≤ 10) (n : Nat) (hn : n ≤ 10) : (revL (w.1, upd w.2 d (nI L)) g (nI sl) (nI d) n).2 = upd w.2 d (nI L) ∧ ∀ e b : Nat, e < 3 → b < 10 → (revL (w.1, upd w.2 d (nI L)) g (nI sl) (nI d) n).1 (10 * e + b) = if e = d ∧ b < n ∧ b < L then g (10 * sl + b) else w.1 (10 * e + b) := by
  induction n with
  | zero => exact ⟨rfl, fun e b _ _ => by rw [if_neg (show ¬ (e = d ∧ b < 0 ∧ b < L) by omega)]; rfl⟩
  | succ n ih =>
    obtain ⟨i1, i2⟩ := ih (by omega)
    have el : ((revL (w.1, upd w.2 d (nI L)) g (nI sl) (nI d) n).2 d).toInt = (L : Int) := by rw [i1, upd, if_pos rfl, nIT (by omega)]
    have ei : (nI sl * 10 + nI n).toNatClampNeg = 10 * sl + n := by
      have f1 : (nI sl).toInt = (sl : Int) := nIT (by omega)
      have f2 : (nI n).toInt = (n : Int) := nIT (by omega)
      have e1 : (nI sl * 10).toInt = (sl : Int) * 10 := by rw [ti_mul (by rw [f1, li_10]; omega) (by rw [f1, li_10]; omega), f1, li_10]
      exact ixT (by rw [ti_add (by rw [e1, f2]; omega) (by rw [e1, f2]; omega), e1, f2]; omega)
    rw [revL, ei]
    by_cases q : n < L
    · rw [sRep_t hd (by omega) (by rw [el]; omega)]
      refine ⟨i1, fun e b he hb => ?_⟩
      show upd (revL (w.1, upd w.2 d (nI L)) g (nI sl) (nI d) n).1 (10 * d + n) (g (10 * sl + n)) (10 * e + b) = _
      rw [upd]
      by_cases z : e = d ∧ b = n
      · obtain ⟨z1, z2⟩ := z
        rw [if_pos (show 10 * e + b = 10 * d + n by omega), if_pos (show e = d ∧ b < n + 1 ∧ b < L from ⟨z1, by omega, by omega⟩), z2]
      · rw [if_neg (show ¬ 10 * e + b = 10 * d + n by omega), i2 e b he hb]
        by_cases z2 : e = d ∧ b < n ∧ b < L
        · rw [if_pos z2, if_pos (show e = d ∧ b < n + 1 ∧ b < L from ⟨z2.1, by omega, z2.2.2⟩)]
        · rw [if_neg z2, if_neg (show ¬ (e = d ∧ b < n + 1 ∧ b < L) by omega)]
    · rw [sRep_f hd (by omega) (by rw [el]; omega)]
      refine ⟨i1, fun e b he hb => ?_⟩
      rw [i2 e b he hb]
      by_cases z2 : e = d ∧ b < n ∧ b < L
      · rw [if_pos z2, if_pos (show e = d ∧ b < n + 1 ∧ b < L from ⟨z2.1, by omega, z2.2.2⟩)]
      · rw [if_neg z2, if_neg (show ¬ (e = d ∧ b < n + 1 ∧ b < L) by omega)]
theorem rvS_at {hi : His} {w : Stf} {sl : Nat} (hs : sl < 10) (ho : slOk hi sl) : ∃ d L : Nat, d < 3 ∧ L ≤ 10 ∧ hi.2.2.1 sl = nI d ∧ hi.2.1 sl = nI L ∧ (rvS hi w sl).2 = upd w.2 d (nI L) ∧ ∀ e b : Nat, e < 3 → b < 10 → (rvS hi w sl).1 (10 * e + b) = if e = d ∧ b < L then hi.1 (10 * sl + b) else w.1 (10 * e + b) := by
  obtain ⟨⟨a1, a2⟩, ⟨b1, b2⟩⟩ := ho
  obtain ⟨d, hd, ed⟩ := nI_ofI a1
  obtain ⟨L, hL, eL⟩ := nI_ofI b1
  refine ⟨d, L, by omega, by omega, ed, eL, ?_⟩
  unfold rvS
  rw [ed, eL, sSet_t (by omega) (by rw [nIT (by omega)]; omega) (by rw [nIT (by omega)]; omega)]
  obtain ⟨c1, c2⟩ := revL_at (w := w) (g := hi.1) hs (show d < 3 by omega) (show L ≤ 10 by omega) 10 (Nat.le_refl _)
  refine ⟨c1, fun e b he hb => ?_⟩
  rw [c2 e b he hb]
  by_cases q : e = d ∧ b < L
  · rw [if_pos q, if_pos (show e = d ∧ b < 10 ∧ b < L from ⟨q.1, hb, q.2⟩)]
  · rw [if_neg q, if_neg (show ¬ (e = d ∧ b < 10 ∧ b < L) by omega)]
theorem rvS_se {hi : His} {v w : Stf} {sl : Nat} (hs : sl < 10) (ho : slOk hi sl) (e : SE v w) : SE (rvS hi v sl) (rvS hi w sl) := by
  obtain ⟨d, L, hd, hL, d1, d2, d3, d4⟩ := rvS_at (w := v) hs ho
  obtain ⟨d', L', hd', hL', e1, e2, e3, e4⟩ := rvS_at (w := w) hs ho
  have k1 : d' = d := (nI_eq (by omega) (by omega)).mp (e1.symm.trans d1)
  have k2 : L' = L := (nI_eq (by omega) (by omega)).mp (e2.symm.trans d2)
  subst k1; subst k2
  intro x hx
  obtain ⟨a, b⟩ := e x hx
  rw [d3, e3]
  refine ⟨?_, fun c c10 hc => ?_⟩
  · rw [upd, upd]; split
    · rfl
    · exact a
  · rw [upd] at hc
    by_cases q : x = d'
    · rw [if_pos q, nIT (by omega)] at hc
      rw [d4 x c hx c10, e4 x c hx c10, if_pos (show x = d' ∧ c < L' from ⟨q, by omega⟩), if_pos (show x = d' ∧ c < L' from ⟨q, by omega⟩)]
    · rw [if_neg q] at hc
      rw [d4 x c hx c10, e4 x c hx c10, if_neg (show ¬ (x = d' ∧ c < L') from fun z => q z.1), if_neg (show ¬ (x = d' ∧ c < L') from fun z => q z.1)]
      exact b c c10 hc
def hO (hi : His) : Nat := hi.2.2.2.1.toNatClampNeg
def hN (hi : His) : Nat := hi.2.2.2.2.toNatClampNeg
/-- the staffs k steps back -/
def hvL (hi : His) (v : Stf) : Nat → Stf
  | 0 => v
  | k + 1 => rvS hi (hvL hi v k) ((hO hi + (hN hi - (k + 1))) % 10)
def rowM (us : Fn) (a : Nat) : Fn := fun j => us (33 * a + j)
def HR (hi : His) (v : Stf) (mn um ua : Int32) (us : Fn) : Prop := hi.2.2.2.2 = um ∧ HisOk hi ∧ (0 ≤ ua.toInt ∧ ua.toInt < 10) ∧ ∀ k : Nat, 1 ≤ k → k ≤ hN hi → slOk hi ((hO hi + (hN hi - k)) % 10) ∧ SM mn (hvL hi v k) (rowM us ((ua.toNatClampNeg + 10 - k) % 10))
theorem hs_n {hi : His} (h : HisOk hi) : hi.2.2.2.1 = nI (hO hi) ∧ hi.2.2.2.2 = nI (hN hi) ∧ hO hi < 10 ∧ hN hi ≤ 10 ∧ hSlot hi = nI ((hO hi + hN hi) % 10) := by
  obtain ⟨a, b, c, d⟩ := h
  have e1 : (hO hi : Int) = hi.2.2.2.1.toInt := clampT a
  have e2 : (hN hi : Int) = hi.2.2.2.2.toInt := clampT c
  have f1 : hi.2.2.2.1 = nI (hO hi) := Int32.toInt_inj.mp (by rw [nIT (by omega), e1])
  have f2 : hi.2.2.2.2 = nI (hN hi) := Int32.toInt_inj.mp (by rw [nIT (by omega), e2])
  refine ⟨f1, f2, by omega, by omega, ?_⟩
  unfold hSlot
  rw [f1, f2, nI_add]
  exact pk_rem (d := 10) (by omega) (by decide) (by decide)
theorem hBack_n {hi : His} (h : HisOk hi) (w : Stf) (h0 : ¬ hi.2.2.2.2 = 0) : 1 ≤ hN hi ∧ hBack hi w = hvL hi w 1 := by
  obtain ⟨f1, f2, l1, l2, _⟩ := hs_n h
  have n1 : 1 ≤ hN hi := by
    apply Classical.byContradiction
    intro q
    exact h0 (by rw [f2, show hN hi = 0 by omega]; rfl)
  have f3 : hi.2.2.2.2 - 1 = nI (hN hi - 1) := by rw [f2]; exact nI_sb n1 (by omega)
  have hp : HisOk (hPop hi) := ⟨h.1, h.2.1, by show 0 ≤ (hi.2.2.2.2 - 1).toInt; rw [f3, nIT (by omega)]; omega, by show (hi.2.2.2.2 - 1).toInt ≤ 10; rw [f3, nIT (by omega)]; omega⟩
  obtain ⟨g1, g2, m1, m2, g3⟩ := hs_n hp
  have eO : hO (hPop hi) = hO hi := rfl
  have eN : hN (hPop hi) = hN hi - 1 := by show (hi.2.2.2.2 - 1).toNatClampNeg = _; rw [f3, cl (by omega)]
  rw [eO, eN] at g3
  refine ⟨n1, ?_⟩
  unfold hBack
  rw [if_neg h0, g3, cl (by omega)]
  rfl
theorem rmL_at {us nw : Fn} {a : Nat} (ha : a < 10) (n : Nat) (hn : n ≤ 33) : ∀ i j : Nat, i < 10 → j < 33 → rmL us nw (nI a) n (33 * i + j) = if i = a ∧ j < n then nw j else us (33 * i + j) := by
  induction n with
  | zero => intro i j _ _; rw [if_neg (show ¬ (i = a ∧ j < 0) by omega)]; rfl
  | succ n ih =>
    intro i j hi hj
    have ei : (33 * nI a + nI n).toNatClampNeg = 33 * a + n := by
      have e := i33 (k := nI a) (by rw [nIT (by omega)]; omega) (by rw [nIT (by omega)]; omega) n (by omega)
      rw [nIT (by omega)] at e
      exact ixT (by rw [e]; omega)
    rw [rmL, ei, cl (by omega), upd]
    by_cases q : i = a ∧ j = n
    · rw [if_pos (show 33 * i + j = 33 * a + n by omega), if_pos (show i = a ∧ j < n + 1 from ⟨q.1, by omega⟩), q.2]
    · rw [if_neg (show ¬ 33 * i + j = 33 * a + n by omega), ih (by omega) i j hi hj]
      by_cases z : i = a ∧ j < n
      · rw [if_pos z, if_pos (show i = a ∧ j < n + 1 from ⟨z.1, by omega⟩)]
      · rw [if_neg z, if_neg (show ¬ (i = a ∧ j < n + 1) by omega)]
theorem remL_at {g : Fn} {sl d : Nat} {w : Stf} (hs : sl < 10) (n : Nat) (hn : n ≤ 10) : ∀ i b : Nat, i < 10 → b < 10 → remL g (nI sl) w (nI d) n (10 * i + b) = if i = sl ∧ b < n then sAt w (nI d) (nI b) else g (10 * i + b) := by
  induction n with
  | zero => intro i b _ _; rw [if_neg (show ¬ (i = sl ∧ b < 0) by omega)]; rfl
  | succ n ih =>
    intro i b hi hb
    have ei : (nI sl * 10 + nI n).toNatClampNeg = 10 * sl + n := by
      have f1 : (nI sl).toInt = (sl : Int) := nIT (by omega)
      have f2 : (nI n).toInt = (n : Int) := nIT (by omega)
      have e1 : (nI sl * 10).toInt = (sl : Int) * 10 := by rw [ti_mul (by rw [f1, li_10]; omega) (by rw [f1, li_10]; omega), f1, li_10]
      exact ixT (by rw [ti_add (by rw [e1, f2]; omega) (by rw [e1, f2]; omega), e1, f2]; omega)
    rw [remL, ei, upd]
    by_cases q : i = sl ∧ b = n
    · rw [if_pos (show 10 * i + b = 10 * sl + n by omega), if_pos (show i = sl ∧ b < n + 1 from ⟨q.1, by omega⟩), q.2]
    · rw [if_neg (show ¬ 10 * i + b = 10 * sl + n by omega), ih (by omega) i b hi hb]
      by_cases z : i = sl ∧ b < n
      · rw [if_pos z, if_pos (show i = sl ∧ b < n + 1 from ⟨z.1, by omega⟩)]
      · rw [if_neg z, if_neg (show ¬ (i = sl ∧ b < n + 1) by omega)]
/-- a staff is remembered, then changed -/
theorem HR_rem {hi : His} {v v' : Stf} {mn um ua : Int32} {us nw : Fn} (h : HR hi v mn um ua us) (hc : SM mn v nw) {d : Nat} (hd : d < 3) (hD : SD d v v') : HR (hRem hi v (nI d)) v' mn (yUm um) (yUa ua) (rmL us nw ua 33) := by
  obtain ⟨h1, h2, h3, h4⟩ := h
  obtain ⟨f1, f2, l1, l2, f3⟩ := hs_n h2
  obtain ⟨a, ha, ea⟩ := nI_ofI h3.1
  have a10 : a < 10 := by omega
  have ca : ua.toNatClampNeg = a := by rw [ea, cl (by omega)]
  rw [ca] at h4
  obtain ⟨Z, eZ⟩ : ∃ Z, Z = (hO hi + hN hi) % 10 := ⟨_, rfl⟩
  have Z10 : Z < 10 := by omega
  rw [← eZ] at f3
  have gO : hOld hi = nI (if hN hi = 10 then (hO hi + 1) % 10 else hO hi) := by
    unfold hOld
    rw [f2, f1]
    by_cases q : hN hi = 10
    · rw [if_pos q, if_pos (by rw [q]; decide), nI_1]; exact pk_rem (d := 10) (by omega) (by decide) (by decide)
    · rw [if_neg q, if_neg (fun z => by have := i_le z; rw [nIT (by omega), li_10] at this; omega)]
  have gS : hSz hi = nI (if hN hi = 10 then 10 else hN hi + 1) := by
    unfold hSz
    rw [f2]
    by_cases q : hN hi = 10
    · rw [if_pos q, if_pos (by rw [q]; decide), q]
    · rw [if_neg q, if_neg (fun z => by have := i_le z; rw [nIT (by omega), li_10] at this; omega), nI_1]
  obtain ⟨O', eO'⟩ : ∃ O', O' = (if hN hi = 10 then (hO hi + 1) % 10 else hO hi) := ⟨_, rfl⟩
  obtain ⟨N', eN'⟩ : ∃ N', N' = (if hN hi = 10 then 10 else hN hi + 1) := ⟨_, rfl⟩
  rw [← eO'] at gO
  rw [← eN'] at gS
  have bO : O' < 10 := by rw [eO']; split <;> omega
  have bN : N' ≤ 10 ∧ 1 ≤ N' := by rw [eN']; split <;> omega
  have rel : (O' + N') % 10 = (Z + 1) % 10 ∧ N' ≤ hN hi + 1 := by rw [eO', eN', eZ]; split <;> omega
  obtain ⟨H, eH⟩ : ∃ H, H = hRem hi v (nI d) := ⟨_, rfl⟩
  have H1 : H.1 = remL hi.1 (nI Z) v (nI d) 10 := by rw [eH]; show remL hi.1 (hSlot hi) v (nI d) 10 = _; rw [f3]
  have H2 : H.2.1 = upd hi.2.1 Z (sLen v (nI d)) := by rw [eH]; show upd hi.2.1 (hSlot hi).toNatClampNeg _ = _; rw [f3, cl (by omega)]
  have H3 : H.2.2.1 = upd hi.2.2.1 Z (nI d) := by rw [eH]; show upd hi.2.2.1 (hSlot hi).toNatClampNeg _ = _; rw [f3, cl (by omega)]
  have H4 : H.2.2.2.1 = nI O' := by rw [eH]; exact gO
  have H5 : H.2.2.2.2 = nI N' := by rw [eH]; exact gS
  have HO : hO H = O' := by unfold hO; rw [H4, cl (by omega)]
  have HN : hN H = N' := by unfold hN; rw [H5, cl (by omega)]
  rw [← eH]
  obtain ⟨c1, c2, c3⟩ := hc.1 d hd
  have hL := sLen_n (v := v) hd
  have slZ : slOk H Z := ⟨by rw [H3, upd, if_pos rfl, nIT (by omega)]; omega, by rw [H2, upd, if_pos rfl, hL]; exact c2⟩
  have slo : ∀ k, 1 ≤ k → k ≤ 9 → k ≤ hN hi → ∃ s, s = (hO hi + (hN hi - k)) % 10 ∧ s < 10 ∧ ¬ s = Z ∧ slOk H s ∧ ∀ w : Stf, SE (rvS hi w s) (rvS H w s) := by
    intro k k1 k9 kN
    refine ⟨_, rfl, by omega, by omega, ?_, ?_⟩
    · obtain ⟨⟨q1, q2⟩, _⟩ := h4 k k1 kN
      refine ⟨by rw [H3, upd, if_neg (by omega)]; exact q1, by rw [H2, upd, if_neg (by omega)]; exact q2⟩
    · intro w
      obtain ⟨ok, _⟩ := h4 k k1 kN
      obtain ⟨s, es⟩ : ∃ s, s = (hO hi + (hN hi - k)) % 10 := ⟨_, rfl⟩
      rw [← es] at ok ⊢
      have sne : ¬ s = Z := by omega
      have okH : slOk H s := ⟨by rw [H3, upd, if_neg sne]; exact ok.1, by rw [H2, upd, if_neg sne]; exact ok.2⟩
      obtain ⟨x, L, x3, L10, x1, x2, x4, x5⟩ := rvS_at (w := w) (show s < 10 by omega) ok
      obtain ⟨y, M, y3, M10, y1, y2, y4, y5⟩ := rvS_at (w := w) (show s < 10 by omega) okH
      rw [H3, upd, if_neg sne] at y1
      rw [H2, upd, if_neg sne] at y2
      have k1 : y = x := (nI_eq (by omega) (by omega)).mp (y1.symm.trans x1)
      have k2 : M = L := (nI_eq (by omega) (by omega)).mp (y2.symm.trans x2)
      subst k1; subst k2
      intro e he
      rw [x4, y4]
      refine ⟨rfl, fun c c10 hc => ?_⟩
      rw [x5 e c he c10, y5 e c he c10, H1, remL_at Z10 10 (Nat.le_refl _) s c (by omega) c10, if_neg (show ¬ (s = Z ∧ c < 10) from fun z => sne z.1)]
  have A : SE v (hvL H v' 1) := by
    show SE v (rvS H v' ((hO H + (hN H - 1)) % 10))
    rw [HO, HN, show (O' + (N' - 1)) % 10 = Z by omega]
    obtain ⟨y, M, y3, M10, y1, y2, y4, y5⟩ := rvS_at (w := v') Z10 slZ
    rw [H3, upd, if_pos rfl] at y1
    rw [H2, upd, if_pos rfl, hL] at y2
    have k1 : d = y := (nI_eq (by omega) (by omega)).mp y1
    subst k1
    intro e he
    rw [y4]
    by_cases q : e = d
    · subst q
      refine ⟨by rw [upd, if_pos rfl, ← y2], fun c c10 hc => ?_⟩
      have hcM : c < M := by rw [y2, nIT (by omega)] at hc; omega
      rw [y5 e c he c10, if_pos ⟨rfl, hcM⟩, H1, remL_at Z10 10 (Nat.le_refl _) Z c Z10 c10, if_pos ⟨rfl, c10⟩, sAt_t hd (by omega) hc]
    · obtain ⟨g1, g2⟩ := hD e he q
      refine ⟨by rw [upd, if_neg q]; exact g1, fun c c10 hc => ?_⟩
      rw [y5 e c he c10, if_neg (fun z => q z.1)]; exact g2 c c10
  have B : ∀ k, k + 1 ≤ N' → SE (hvL hi v k) (hvL H v' (k + 1)) := by
    intro k
    induction k with
    | zero => intro _; exact A
    | succ k ih =>
      intro hk
      have i1 := ih (by omega)
      obtain ⟨s, es, s10, sne, sok, sse⟩ := slo (k + 1) (by omega) (by omega) (by omega)
      show SE (rvS hi (hvL hi v k) ((hO hi + (hN hi - (k + 1))) % 10)) (rvS H (hvL H v' (k + 1)) ((hO H + (hN H - (k + 1 + 1))) % 10))
      have e2 : (hO H + (hN H - (k + 1 + 1))) % 10 = s := by
        rw [HO, HN, es, eO', eN']
        rw [eN'] at hk
        by_cases q : hN hi = 10
        · rw [if_pos q, if_pos q]; rw [if_pos q] at hk; omega
        · rw [if_neg q, if_neg q]; rw [if_neg q] at hk; congr 1; omega
      rw [e2, ← es]
      exact (sse _).tr (rvS_se s10 sok i1)
  have eU : yUa ua = nI ((a + 1) % 10) := by
    unfold yUa
    rw [ea, nI_1]; exact pk_rem (d := 10) (by omega) (by decide) (by decide)
  refine ⟨?_, ⟨?_, ?_, ?_, ?_⟩, ?_, fun k' k1 k2 => ?_⟩
  · rw [H5, ← h1, f2, eN']
    unfold yUm
    by_cases q : hN hi = 10
    · rw [if_pos q, if_pos (by rw [q]; decide), q]; rfl
    · rw [if_neg q, if_neg (fun z => by have := i_le z; rw [nIT (by omega), li_10] at this; omega), nI_1]
  · rw [H4, nIT (by omega)]; omega
  · rw [H4, nIT (by omega)]; omega
  · rw [H5, nIT (by omega)]; omega
  · rw [H5, nIT (by omega)]; omega
  · rw [eU, nIT (by omega)]; omega
  · rw [HN] at k2
    obtain ⟨k, rfl⟩ : ∃ k, k' = k + 1 := ⟨k' - 1, by omega⟩
    rw [eU, cl (by omega)]
    by_cases q0 : k = 0
    · subst q0
      refine ⟨?_, ?_⟩
      · rw [HO, HN, show (O' + (N' - (0 + 1))) % 10 = Z by omega]; exact slZ
      · have r1 := hc.se (B 0 (by omega))
        refine r1.row (fun j hj => ?_)
        rw [show ((a + 1) % 10 + 10 - (0 + 1)) % 10 = a by omega]
        show rmL us nw ua 33 (33 * a + j) = nw j
        rw [ea, rmL_at a10 33 (Nat.le_refl _) a j a10 hj, if_pos ⟨rfl, hj⟩]
    · obtain ⟨s, es, s10, sne, sok, _⟩ := slo k (by omega) (by omega) (by omega)
      refine ⟨?_, ?_⟩
      · have e2 : (hO H + (hN H - (k + 1))) % 10 = s := by
          rw [HO, HN, es, eO', eN']
          rw [eN'] at k2
          by_cases q : hN hi = 10
          · rw [if_pos q, if_pos q]; rw [if_pos q] at k2; omega
          · rw [if_neg q, if_neg q]; rw [if_neg q] at k2; congr 1; omega
        rw [e2]; exact sok
      · have r1 := (h4 k (by omega) (by omega)).2.se (B k (by omega))
        refine r1.row (fun j hj => ?_)
        rw [show ((a + 1) % 10 + 10 - (k + 1)) % 10 = (a + 10 - k) % 10 by omega]
        show rmL us nw ua 33 (33 * ((a + 10 - k) % 10) + j) = us (33 * ((a + 10 - k) % 10) + j)
        rw [ea, rmL_at a10 33 (Nat.le_refl _) _ j (by omega) hj, if_neg (by omega)]
theorem unL_at {f us : Fn} {a : Nat} (ha : a < 10) (n : Nat) (hn : n ≤ 33) : ∀ j : Nat, j < 33 → unL f us (nI a) n j = if j < n then us (33 * a + j) else f j := by
  induction n with
  | zero => intro j _; rw [if_neg (show ¬ j < 0 by omega)]; rfl
  | succ n ih =>
    intro j hj
    have ei : (33 * nI a + nI n).toNatClampNeg = 33 * a + n := by
      have e := i33 (k := nI a) (by rw [nIT (by omega)]; omega) (by rw [nIT (by omega)]; omega) n (by omega)
      rw [nIT (by omega)] at e
      exact ixT (by rw [e]; omega)
    rw [unL, ei, cl (by omega), upd]
    by_cases q : j = n
    · rw [if_pos q, if_pos (show j < n + 1 by omega), q]
    · rw [if_neg q, ih (by omega) j hj]
      by_cases z : j < n
      · rw [if_pos z, if_pos (show j < n + 1 by omega)]
      · rw [if_neg z, if_neg (show ¬ j < n + 1 by omega)]
/-- one step back -/
theorem HR_un {hi : His} {v : Stf} {mn um ua : Int32} {us nw : Fn} (h : HR hi v mn um ua us) (h0 : ¬ um = 0) : HR (hPop hi) (hBack hi v) mn (um - 1) (yUb ua) us ∧ SM mn (hBack hi v) (unL nw us (yUb ua) 33) := by
  obtain ⟨h1, h2, h3, h4⟩ := h
  obtain ⟨f1, f2, l1, l2, f3⟩ := hs_n h2
  obtain ⟨n1, eB⟩ := hBack_n h2 v (by rw [h1]; exact h0)
  obtain ⟨a, ha, ea⟩ := nI_ofI h3.1
  have a10 : a < 10 := by omega
  have ca : ua.toNatClampNeg = a := by rw [ea, cl (by omega)]
  rw [ca] at h4
  have eU : yUb ua = nI ((a + 9) % 10) := by
    unfold yUb
    rw [ea, show (10 : Int32) = nI 10 from rfl, nI_add, show nI (a + 10) - 1 = nI (a + 9) from nI_pred (a + 9)]
    exact pk_rem (d := 10) (by omega) (by decide) (by decide)
  have eP : hi.2.2.2.2 - 1 = nI (hN hi - 1) := by rw [f2]; exact nI_sb n1 (by omega)
  have pO : hO (hPop hi) = hO hi := rfl
  have pN : hN (hPop hi) = hN hi - 1 := by show (hi.2.2.2.2 - 1).toNatClampNeg = _; rw [eP, cl (by omega)]
  have key : ∀ k, hvL (hPop hi) (hvL hi v 1) k = hvL hi v (k + 1) := by
    intro k
    induction k with
    | zero => rfl
    | succ k ih =>
      show rvS (hPop hi) (hvL (hPop hi) (hvL hi v 1) k) ((hO (hPop hi) + (hN (hPop hi) - (k + 1))) % 10) = rvS hi (hvL hi v (k + 1)) ((hO hi + (hN hi - (k + 1 + 1))) % 10)
      rw [ih, pO, pN, show hN hi - 1 - (k + 1) = hN hi - (k + 1 + 1) by omega]
      rfl
  refine ⟨⟨?_, ⟨h2.1, h2.2.1, ?_, ?_⟩, ?_, fun k k1 k2 => ?_⟩, ?_⟩
  · show hi.2.2.2.2 - 1 = um - 1
    rw [h1]
  · show 0 ≤ (hi.2.2.2.2 - 1).toInt
    rw [eP, nIT (by omega)]; omega
  · show (hi.2.2.2.2 - 1).toInt ≤ 10
    rw [eP, nIT (by omega)]; omega
  · rw [eU, nIT (by omega)]; omega
  · rw [pN] at k2
    obtain ⟨q1, q2⟩ := h4 (k + 1) (by omega) (by omega)
    rw [eB, key k, pO, pN, eU, cl (by omega), show hN hi - 1 - k = hN hi - (k + 1) by omega, show ((a + 9) % 10 + 10 - k) % 10 = (a + 10 - (k + 1)) % 10 by omega]
    exact ⟨q1, q2⟩
  · obtain ⟨q1, q2⟩ := h4 1 (by omega) (by omega)
    rw [eB]
    refine q2.row (fun j hj => ?_)
    rw [eU, unL_at (by omega) 33 (Nat.le_refl _) j hj, if_pos hj, show (a + 9) % 10 = (a + 10 - 1) % 10 by omega]
    rfl
