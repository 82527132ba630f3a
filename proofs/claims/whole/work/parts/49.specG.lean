/-! how far all standings are: passes until none is nearer -/
def fz (x y w : Int32) (t : Nat) : Int := (sgTo (dcd (nI t)) x y w).toInt
def jx (t s : Nat) : Nat := (idx (ldS (dcd (nI t)) (nI (s + 1)))).toNatClampNeg
theorem jx_ok {t s : Nat} (ht : t < 1176) (hs : s < 32) (h : ldV (dcd (nI t)) (nI (s + 1)) = true) : jx t s < 1176 ∧ dcd (nI (jx t s)) = ldS (dcd (nI t)) (nI (s + 1)) := idx_lt (ldS_ok (dcd_ok ht) hs h)
theorem fz_in {x y w : Int32} (hT : TOk x y w) {t : Nat} (ht : t < 1176) : 0 ≤ fz x y w t ∧ fz x y w t ≤ 7 := sgTo_in (dcd_ok ht) hT
theorem fz_L {x y w : Int32} (hT : TOk x y w) {t s : Nat} (ht : t < 1176) (hs : s < 32) (h : ldV (dcd (nI t)) (nI (s + 1)) = true) : fz x y w t ≤ fz x y w (jx t s) + 1 := by
  unfold fz
  rw [(jx_ok ht hs h).2]
  exact st_L (dcd_ok ht) hT hs h
theorem fz_E {x y w : Int32} (hT : TOk x y w) {t : Nat} (ht : t < 1176) (hp : 0 < fz x y w t) : ∃ s : Nat, s < 32 ∧ ldV (dcd (nI t)) (nI (s + 1)) = true ∧ fz x y w (jx t s) + 1 = fz x y w t := by
  obtain ⟨s, hs, h, e⟩ := st_E (dcd_ok ht) hT hp
  refine ⟨s, hs, h, ?_⟩
  unfold fz
  rw [(jx_ok ht hs h).2]
  exact e
def stp (i : Nat) (g : Int32) (z : Int32 × Fn) : Int32 × Fn := if ldV (dcd (nI i)) g = true then ((if z.1 = 0 then (if z.2 (nI i).toNatClampNeg ≤ z.2 (idx (ldS (dcd (nI i)) g)).toNatClampNeg + 1 then 0 else 1) else 1), upd z.2 (nI i).toNatClampNeg (if z.2 (nI i).toNatClampNeg ≤ z.2 (idx (ldS (dcd (nI i)) g)).toNatClampNeg + 1 then z.2 (nI i).toNatClampNeg else z.2 (idx (ldS (dcd (nI i)) g)).toNatClampNeg + 1)) else z
def rwL (i : Nat) (z : Int32 × Fn) : Nat → Int32 × Fn
  | 0 => z
  | k + 1 => stp i (nI (k + 1)) (rwL i z k)
def psL (f : Fn) : Nat → Int32 × Fn
  | 0 => (0, f)
  | i + 1 => rwL i (psL f i) 32
def whl : Nat → Fn → Fn
  | 0, f => f
  | n + 1, f => if (psL f 1176).1 = 0 then (psL f 1176).2 else whl n (psL f 1176).2
def inL (f : Fn) (x y w : Int32) : Nat → Fn
  | 0 => f
  | n + 1 => upd (inL f x y w n) (nI n).toNatClampNeg (if nI n / 3 = ((((x * 7) + y) * 8 + w) * 3 + 0) / 3 then 0 else 1176)
/-- what a pass that began with f keeps, behind the numbers ahead of i and the signs ahead of k -/
def PI (x y w : Int32) (f : Fn) (z : Int32 × Fn) (i k : Nat) : Prop :=
  (∀ t, t < 1176 → fz x y w t ≤ (z.2 t).toInt ∧ (z.2 t).toInt ≤ (f t).toInt) ∧
  (∀ t s, t < 1176 → s < 32 → (t < i ∨ (t = i ∧ s < k)) → ldV (dcd (nI t)) (nI (s + 1)) = true → (z.2 t).toInt ≤ (f (jx t s)).toInt + 1) ∧
  (z.1 = 0 → ∀ t, t < 1176 → z.2 t = f t) ∧
  ((∀ t, t < 1176 → (f t).toInt = fz x y w t) → z.1 = 0)
theorem PI_stp {x y w : Int32} (hT : TOk x y w) {f : Fn} (hf : ∀ t, t < 1176 → (f t).toInt ≤ 1176) {z : Int32 × Fn} {i k : Nat} (hi : i < 1176) (hk : k < 32) (h : PI x y w f z i k) : PI x y w f (stp i (nI (k + 1)) z) i (k + 1) := by
  obtain ⟨p1, p2, p3, p4⟩ := h
  unfold stp
  rw [nI_clamp (by omega)]
  by_cases hb : ldV (dcd (nI i)) (nI (k + 1)) = true
  · rw [if_pos hb]
    obtain ⟨hj, _⟩ := jx_ok hi hk hb
    have hL := fz_L hT hi hk hb
    change (idx (ldS (dcd (nI i)) (nI (k + 1)))).toNatClampNeg < 1176 at hj
    obtain ⟨j, ej⟩ : ∃ j, j = (idx (ldS (dcd (nI i)) (nI (k + 1)))).toNatClampNeg := ⟨_, rfl⟩
    rw [← ej] at hj
    have ej2 : jx i k = j := ej.symm
    rw [ej2] at hL
    rw [← ej]
    have b1 := p1 j hj
    have b2 := hf j hj
    have b3 := fz_in hT hj
    have eb : (z.2 j + 1).toInt = (z.2 j).toInt + 1 := by rw [ti_add (by rw [li_1]; omega) (by rw [li_1]; omega), li_1]
    have b4 := p1 i hi
    by_cases hc : z.2 i ≤ z.2 j + 1
    · have hc2 := i_le hc
      rw [eb] at hc2
      rw [if_pos hc, if_pos hc]
      have eu : upd z.2 i (z.2 i) = z.2 := by funext t; unfold upd; split; · rename_i q; rw [q]
                                              · rfl
      rw [eu]
      refine ⟨p1, ?_, ?_, ?_⟩
      · intro t s ht hs hts hl
        by_cases q : t = i ∧ s = k
        · obtain ⟨q1, q2⟩ := q
          subst q1; subst q2
          show (z.2 t).toInt ≤ (f (jx t s)).toInt + 1
          rw [ej2]; omega
        · exact p2 t s ht hs (by omega) hl
      · intro hm
        by_cases q : z.1 = 0
        · exact p3 q
        · exact absurd (show (if z.1 = 0 then (0 : Int32) else 1) = 0 from hm) (by rw [if_neg q]; decide)
      · intro hx
        show (if z.1 = 0 then (0 : Int32) else 1) = 0
        rw [if_pos (p4 hx)]
    · have hc2 := i_nle hc
      rw [eb] at hc2
      rw [if_neg hc, if_neg hc]
      refine ⟨?_, ?_, ?_, ?_⟩
      · intro t ht
        show fz x y w t ≤ (upd z.2 i (z.2 j + 1) t).toInt ∧ (upd z.2 i (z.2 j + 1) t).toInt ≤ (f t).toInt
        unfold upd
        by_cases q : t = i
        · rw [if_pos q, q, eb]; omega
        · rw [if_neg q]; exact p1 t ht
      · intro t s ht hs hts hl
        show (upd z.2 i (z.2 j + 1) t).toInt ≤ (f (jx t s)).toInt + 1
        unfold upd
        by_cases q : t = i
        · rw [if_pos q, eb]
          by_cases q2 : s = k
          · rw [q, q2, ej2]; omega
          · have := p2 t s ht hs (by omega) hl
            rw [q] at this ⊢; omega
        · rw [if_neg q]; exact p2 t s ht hs (by omega) hl
      · intro hm
        exact absurd (show (if z.1 = 0 then (1 : Int32) else 1) = 0 from hm) (by split <;> decide)
      · intro hx
        exfalso
        have z0 := p4 hx
        have e1 := p3 z0 i hi
        have e2 := p3 z0 j hj
        have f1 := hx i hi
        have f2 := hx j hj
        rw [e1, e2] at hc2
        omega
  · rw [if_neg hb]
    refine ⟨p1, ?_, p3, p4⟩
    intro t s ht hs hts hl
    by_cases q : t = i ∧ s = k
    · obtain ⟨q1, q2⟩ := q
      rw [q1, q2] at hl
      exact absurd hl hb
    · exact p2 t s ht hs (by omega) hl
theorem PI_row {x y w : Int32} (hT : TOk x y w) {f : Fn} (hf : ∀ t, t < 1176 → (f t).toInt ≤ 1176) {z : Int32 × Fn} {i : Nat} (hi : i < 1176) (h : PI x y w f z i 0) (k : Nat) (hk : k ≤ 32) : PI x y w f (rwL i z k) i k := by
  induction k with
  | zero => exact h
  | succ k ih => rw [rwL]; exact PI_stp hT hf hi (by omega) (ih (by omega))
theorem PI_pass {x y w : Int32} (hT : TOk x y w) {f : Fn} (hf : ∀ t, t < 1176 → (f t).toInt ≤ 1176) (hl : ∀ t, t < 1176 → fz x y w t ≤ (f t).toInt) (i : Nat) (hi : i ≤ 1176) : PI x y w f (psL f i) i 0 := by
  induction i with
  | zero =>
    refine ⟨fun t ht => ⟨hl t ht, Int.le_refl _⟩, fun t s _ _ h => ?_, fun _ t _ => rfl, fun _ => rfl⟩
    omega
  | succ i ih =>
    rw [psL]
    obtain ⟨a, b, c, d⟩ := PI_row hT hf (by omega) (ih (by omega)) 32 (Nat.le_refl 32)
    exact ⟨a, fun t s ht hs h => b t s ht hs (by omega), c, d⟩
def Gd (x y w : Int32) (p : Nat) (f : Fn) : Prop := ∀ t, t < 1176 → fz x y w t ≤ (f t).toInt ∧ (f t).toInt ≤ 1176 ∧ (fz x y w t ≤ (p : Int) → (f t).toInt = fz x y w t)
theorem gd_pi {x y w : Int32} (hT : TOk x y w) {p : Nat} {f : Fn} (h : Gd x y w p f) : PI x y w f (psL f 1176) 1176 0 := PI_pass hT (fun t ht => (h t ht).2.1) (fun t ht => (h t ht).1) 1176 (Nat.le_refl _)
theorem gd_s {x y w : Int32} (hT : TOk x y w) {p : Nat} {f : Fn} (h : Gd x y w p f) : Gd x y w (p + 1) (psL f 1176).2 := by
  obtain ⟨a, b, c, d⟩ := gd_pi hT h
  intro t ht
  have a1 := a t ht
  have h1 := h t ht
  refine ⟨a1.1, by omega, fun hp => ?_⟩
  by_cases q : fz x y w t ≤ (p : Int)
  · have := h1.2.2 q; omega
  · obtain ⟨s, hs, hb, e⟩ := fz_E hT ht (by have := fz_in hT ht; omega)
    obtain ⟨hj, _⟩ := jx_ok ht hs hb
    have b1 := b t s ht hs (Or.inl ht) hb
    have h2 := (h (jx t s) hj).2.2 (by omega)
    omega
theorem gd_more {x y w : Int32} (hT : TOk x y w) {p : Nat} {f : Fn} (h : Gd x y w p f) (hp : 7 ≤ p) : (psL f 1176).1 = 0 := by
  obtain ⟨a, b, c, d⟩ := gd_pi hT h
  exact d (fun t ht => (h t ht).2.2 (by have := fz_in hT ht; omega))
theorem gd_fix {x y w : Int32} (hT : TOk x y w) {p : Nat} {f : Fn} (h : Gd x y w p f) (hm : (psL f 1176).1 = 0) (n : Nat) : ∀ t, t < 1176 → fz x y w t ≤ (n : Int) → ((psL f 1176).2 t).toInt = fz x y w t := by
  obtain ⟨a, b, c, d⟩ := gd_pi hT h
  have e := c hm
  induction n with
  | zero =>
    intro t ht h0
    rw [e t ht]
    exact (h t ht).2.2 (by omega)
  | succ n ih =>
    intro t ht hn
    by_cases q : fz x y w t ≤ (n : Int)
    · exact ih t ht q
    · obtain ⟨s, hs, hb, es⟩ := fz_E hT ht (by have := fz_in hT ht; omega)
      obtain ⟨hj, _⟩ := jx_ok ht hs hb
      have b1 := b t s ht hs (Or.inl ht) hb
      have i1 := ih (jx t s) hj (by omega)
      rw [e (jx t s) hj] at i1
      have a1 := a t ht
      omega
theorem whl_ok {x y w : Int32} (hT : TOk x y w) (n : Nat) : ∀ (p : Nat) (f : Fn), Gd x y w p f → 7 ≤ p + n → ∀ t, t < 1176 → (whl n f t).toInt = fz x y w t := by
  induction n with
  | zero =>
    intro p f h hp t ht
    exact (h t ht).2.2 (by have := fz_in hT ht; omega)
  | succ n ih =>
    intro p f h hp t ht
    rw [whl]
    by_cases hm : (psL f 1176).1 = 0
    · rw [if_pos hm]
      exact gd_fix hT h hm 7 t ht (fz_in hT ht).2
    · rw [if_neg hm]
      exact ih (p + 1) _ (gd_s hT h) (by omega) t ht
theorem inL_at (f : Fn) (x y w : Int32) (n : Nat) (hn : n ≤ 1176) : ∀ t, t < n → inL f x y w n t = (if nI t / 3 = ((((x * 7) + y) * 8 + w) * 3 + 0) / 3 then 0 else 1176) := by
  induction n with
  | zero => intro t ht; omega
  | succ n ih =>
    intro t ht
    rw [inL, nI_clamp (by omega), upd]
    by_cases q : t = n
    · rw [if_pos q, q]
    · rw [if_neg q]; exact ih (by omega) t (by omega)
theorem gd_0 {x y w : Int32} (hT : TOk x y w) (f : Fn) : Gd x y w 0 (inL f x y w 1176) := by
  intro t ht
  rw [inL_at f x y w 1176 (Nat.le_refl _) t ht]
  have hok := dcd_ok ht
  have hin := fz_in hT ht
  have hv : SOk (x, y, w, 0) := ⟨hT.1, hT.2.1, hT.2.2, by show 0 ≤ (0 : Int32).toInt ∧ (0 : Int32).toInt ≤ 2; decide⟩
  obtain ⟨j, hj, ej, dj⟩ := idx_nI hv
  have ij := idx_int hv
  have e3 : ((((x * 7) + y) * 8 + w) * 3 + 0) / 3 = nI (j / 3) := by
    show idx (x, y, w, 0) / 3 = nI (j / 3)
    rw [ej]; exact pk_div (d := 3) (by omega) (by decide) (by decide)
  have e4 : nI t / 3 = nI (t / 3) := pk_div (d := 3) (by omega) (by decide) (by decide)
  rw [e3, e4]
  have hij : (j : Int) = ((x.toInt * 7 + y.toInt) * 8 + w.toInt) * 3 + (0 : Int32).toInt := by rw [← nIT (n := j) (by omega), ← ej]; exact ij
  rw [li_0] at hij
  have hf : fz x y w t = max ((x.toInt - (nI (t / 24 / 7)).toInt).natAbs : Int) ((y.toInt - (nI (t / 24 % 7)).toInt).natAbs : Int) + (if w = nI (t / 3 % 8) then 0 else 1) := by
    unfold fz
    rw [sgTo_int hok hT, dcd_nI ht]
  rw [nIT (by omega), nIT (by omega)] at hf
  obtain ⟨tx, ty, tw⟩ := hT
  by_cases q : nI (t / 3) = nI (j / 3)
  · rw [if_pos q]
    have q2 := (nI_eq (by omega) (by omega)).mp q
    have hw : w = nI (t / 3 % 8) := Int32.toInt_inj.mp (by rw [nIT (by omega)]; omega)
    rw [if_pos hw] at hf
    have h0 : fz x y w t = 0 := by omega
    rw [h0, li_0]; omega
  · rw [if_neg q]
    have k : (1176 : Int32).toInt = 1176 := by decide
    rw [k]
    refine ⟨by omega, by omega, fun h0 => ?_⟩
    exfalso
    by_cases hw : w = nI (t / 3 % 8)
    · rw [if_pos hw] at hf
      have hw2 := i_eq hw
      rw [nIT (by omega)] at hw2
      exact q (by rw [show t / 3 = j / 3 by omega])
    · rw [if_neg hw] at hf; omega
theorem far_ok {x y w : Int32} (hT : TOk x y w) (f : Fn) {v : Stg} (hv : SOk v) : whl 9 (inL f x y w 1176) (idx v).toNatClampNeg = sgTo v x y w := by
  obtain ⟨h1, h2⟩ := idx_lt hv
  have e := whl_ok hT 9 0 _ (gd_0 hT f) (by omega) _ h1
  unfold fz at e
  rw [h2] at e
  exact Int32.toInt_inj.mp e
