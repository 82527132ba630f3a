/-! counts of places, bits (fb_, fa_: from the kit's COUNTS and NUMBERS to paste) -/
def fb_ct (p : Nat → Bool) : Nat → Nat
  | 0 => 0
  | n + 1 => fb_ct p n + (if p n then 1 else 0)
theorem fb_ct_succ (p : Nat → Bool) (n : Nat) : fb_ct p (n + 1) = fb_ct p n + (if p n then 1 else 0) := rfl
theorem fb_ct_cong {p q : Nat → Bool} : ∀ {n : Nat}, (∀ k, k < n → p k = q k) → fb_ct p n = fb_ct q n
  | 0, _ => rfl
  | n + 1, h => by
    rw [fb_ct_succ, fb_ct_succ, fb_ct_cong (fun k hk => h k (by omega)), h n (by omega)]
theorem fb_ct_out (p : Nat → Bool) (b : Bool) {i n : Nat} (h : n ≤ i) : fb_ct (fun k => if k = i then b else p k) n = fb_ct p n :=
  fb_ct_cong fun k hk => if_neg (by omega)
theorem fb_ct_upd (p : Nat → Bool) (b : Bool) {i : Nat} : ∀ {n : Nat}, i < n → fb_ct (fun k => if k = i then b else p k) n + (if p i then 1 else 0) = fb_ct p n + (if b then 1 else 0)
  | 0, h => absurd h (Nat.not_lt_zero i)
  | n + 1, h => by
    rw [fb_ct_succ, fb_ct_succ]
    rcases Nat.lt_or_ge i n with q | q
    · have := fb_ct_upd p b q
      have e : (if n = i then b else p n) = p n := if_neg (by omega)
      rw [e]
      omega
    · have e : i = n := by omega
      subst e
      rw [fb_ct_out p b (Nat.le_refl _)]
      simp only [if_true]
      omega
theorem fb_ct_zero {p : Nat → Bool} : ∀ {n : Nat}, fb_ct p n = 0 ↔ ∀ k, k < n → p k = false
  | 0 => ⟨fun _ k hk => absurd hk (Nat.not_lt_zero k), fun _ => rfl⟩
  | n + 1 => by
    have h := fb_ct_zero (p := p) (n := n)
    rw [fb_ct_succ]
    constructor
    · intro e k hk
      have e1 : fb_ct p n = 0 := by omega
      rcases Nat.lt_or_ge k n with q | q
      · exact h.mp e1 k q
      · have ek : k = n := by omega
        subst ek
        cases hp : p k
        · rfl
        · simp [hp] at e
    · intro a
      rw [h.mpr (fun k hk => a k (by omega)), a n (by omega)]
      rfl
theorem fb_ct_pos {p : Nat → Bool} {n : Nat} : 0 < fb_ct p n ↔ ∃ k, k < n ∧ p k = true := by
  constructor
  · intro h
    refine Classical.byContradiction fun hx => ?_
    have := fb_ct_zero.mpr (fun k hk => by
      cases hp : p k
      · rfl
      · exact absurd ⟨k, hk, hp⟩ hx : ∀ k, k < n → p k = false)
    omega
  · rintro ⟨k, hk, hp⟩
    rcases Nat.eq_zero_or_pos (fb_ct p n) with e | e
    · have := fb_ct_zero.mp e k hk
      rw [this] at hp
      cases hp
    · exact e
theorem fb_andL (a b : Nat) : lN a &&& lN b = lN (a &&& b) := by
  apply Int64.toBitVec_inj.1
  show BitVec.ofNat 64 a &&& BitVec.ofNat 64 b = BitVec.ofNat 64 (a &&& b)
  apply BitVec.eq_of_getLsbD_eq
  intro i hi
  simp [hi]
theorem fb_orL (a b : Nat) : lN a ||| lN b = lN (a ||| b) := by
  apply Int64.toBitVec_inj.1
  show BitVec.ofNat 64 a ||| BitVec.ofNat 64 b = BitVec.ofNat 64 (a ||| b)
  apply BitVec.eq_of_getLsbD_eq
  intro i hi
  simp [hi]
theorem fb_bit_set (n j i : Nat) : (n ||| 2 ^ j).testBit i = (n.testBit i || decide (i = j)) := by
  rw [Nat.testBit_or]
  by_cases h : j = i
  · subst h; simp
  · have h2 : ¬ i = j := fun e => h e.symm
    first | (simp [Nat.testBit_two_pow, h, h2]; done) | (simp [Nat.testBit_two_pow_of_ne h, h2]; done)
theorem fa_or (a b : Nat) : nI a ||| nI b = nI (a ||| b) := by
  apply Int32.toBitVec_inj.1
  show BitVec.ofNat 32 a ||| BitVec.ofNat 32 b = BitVec.ofNat 32 (a ||| b)
  apply BitVec.eq_of_getLsbD_eq
  intro i hi
  simp [hi]
/-! digits -/
def ds (k : Nat) (f : Nat → Nat) : Nat → Nat
  | 0 => 0
  | n + 1 => 2 ^ k * ds k (fun j => f (j + 1)) n + f 0
theorem land_st {k a b c d : Nat} (ha : a < 2 ^ k) (hc : c < 2 ^ k) : (2 ^ k * b + a) &&& (2 ^ k * d + c) = 2 ^ k * (b &&& d) + (a &&& c) := by
  apply Nat.eq_of_testBit_eq
  intro j
  rw [Nat.testBit_and, Nat.testBit_two_pow_mul_add _ ha, Nat.testBit_two_pow_mul_add _ hc, Nat.testBit_two_pow_mul_add _ (Nat.and_lt_two_pow _ hc)]
  split
  · rw [Nat.testBit_and]
  · rw [Nat.testBit_and]
theorem ds_cong {k : Nat} {f g : Nat → Nat} (n : Nat) (h : ∀ j, j < n → f j = g j) : ds k f n = ds k g n := by
  induction n generalizing f g with
  | zero => rfl
  | succ n ih => rw [ds, ds, h 0 (by omega), ih (fun j hj => h (j + 1) (by omega))]
theorem ds_add (k : Nat) (f g : Nat → Nat) (n : Nat) : ds k f n + ds k g n = ds k (fun j => f j + g j) n := by
  induction n generalizing f g with
  | zero => rfl
  | succ n ih =>
    rw [ds, ds, ds, ← ih]
    rw [Nat.mul_add]; omega
theorem ds_two (k : Nat) (f : Nat → Nat) (n : Nat) : ds k f (n + n) = ds (k + k) (fun j => 2 ^ k * f (j + j + 1) + f (j + j)) n := by
  induction n generalizing f with
  | zero => rfl
  | succ n ih =>
    rw [show n + 1 + (n + 1) = (n + n) + 1 + 1 by omega, ds, ds, ds, ih (fun j => f (j + 1 + 1))]
    have e : ds (k + k) (fun j => 2 ^ k * f (j + j + 1 + 1 + 1) + f (j + j + 1 + 1)) n = ds (k + k) (fun j => 2 ^ k * f (j + 1 + (j + 1) + 1) + f (j + 1 + (j + 1))) n := ds_cong n (fun j _ => by rw [show j + j + 1 + 1 + 1 = j + 1 + (j + 1) + 1 by omega, show j + j + 1 + 1 = j + 1 + (j + 1) by omega])
    rw [e, Nat.pow_add]
    generalize ds (k + k) (fun j => 2 ^ k * f (j + 1 + (j + 1) + 1) + f (j + 1 + (j + 1))) n = X
    show 2 ^ k * (2 ^ k * X + f 1) + f 0 = 2 ^ k * 2 ^ k * X + (2 ^ k * f 1 + f 0)
    rw [Nat.mul_add, Nat.mul_assoc]; omega
theorem low_k {k a b : Nat} (h : b < 2 ^ k) : (2 ^ k * a + b) &&& (2 ^ k - 1) = b := by
  rw [Nat.and_two_pow_sub_one_eq_mod, Nat.mul_add_mod]; exact Nat.mod_eq_of_lt h
theorem div_k {k a b : Nat} (h : b < 2 ^ k) : (2 ^ k * a + b) / 2 ^ k = a := by
  rw [Nat.mul_add_div (Nat.two_pow_pos k), Nat.div_eq_of_lt h]; omega
/-- the lower halves of the digits, the upper ones -/
theorem ds_lo {k : Nat} (l h : Nat → Nat) (n : Nat) (hl : ∀ j, l j < 2 ^ k) (hh : ∀ j, h j < 2 ^ k) : ds (k + k) (fun j => 2 ^ k * h j + l j) n &&& ds (k + k) (fun _ => 2 ^ k - 1) n = ds (k + k) l n := by
  induction n generalizing l h with
  | zero => rw [ds, ds, ds]; simp
  | succ n ih =>
    have b : 2 ^ k * h 0 + l 0 < 2 ^ (k + k) := by
      rw [Nat.pow_add]
      have := Nat.mul_le_mul_left (2 ^ k) (show h 0 + 1 ≤ 2 ^ k from hh 0)
      have := hl 0
      rw [Nat.mul_add] at *; omega
    have c : 2 ^ k - 1 < 2 ^ (k + k) := by
      have := Nat.pow_le_pow_right (n := 2) (by decide) (show k ≤ k + k by omega)
      have := Nat.two_pow_pos k
      omega
    rw [ds, ds, ds, land_st b c, ih (fun j => l (j + 1)) (fun j => h (j + 1)) (fun j => hl (j + 1)) (fun j => hh (j + 1)), low_k (hl 0)]
theorem ds_hi {k : Nat} (l h : Nat → Nat) (n : Nat) (hl : ∀ j, l j < 2 ^ k) (hh : ∀ j, h j < 2 ^ k) : (ds (k + k) (fun j => 2 ^ k * h j + l j) n / 2 ^ k) &&& ds (k + k) (fun _ => 2 ^ k - 1) n = ds (k + k) h n := by
  induction n generalizing l h with
  | zero => rw [ds, ds, ds]; simp
  | succ n ih =>
    have ih2 := ih (fun j => l (j + 1)) (fun j => h (j + 1)) (fun j => hl (j + 1)) (fun j => hh (j + 1))
    have c : 2 ^ k - 1 < 2 ^ (k + k) := by
      have := Nat.pow_le_pow_right (n := 2) (by decide) (show k ≤ k + k by omega)
      have := Nat.two_pow_pos k
      omega
    rw [ds, ds, ds]
    generalize ds (k + k) (fun j => 2 ^ k * h (j + 1) + l (j + 1)) n = y at ih2 ⊢
    have e : (2 ^ (k + k) * y + (2 ^ k * h 0 + l 0)) / 2 ^ k = 2 ^ (k + k) * (y / 2 ^ k) + (2 ^ k * (y % 2 ^ k) + h 0) := by
      have a1 : 2 ^ (k + k) * y + (2 ^ k * h 0 + l 0) = 2 ^ k * (2 ^ k * y + h 0) + l 0 := by rw [Nat.pow_add, Nat.mul_add, Nat.mul_assoc]; omega
      rw [a1, div_k (hl 0)]
      have a2 := Nat.div_add_mod y (2 ^ k)
      have a3 : 2 ^ k * y = 2 ^ k * (2 ^ k * (y / 2 ^ k) + y % 2 ^ k) := by rw [a2]
      rw [a3, Nat.mul_add, Nat.pow_add, Nat.mul_assoc]; omega
    have b : 2 ^ k * (y % 2 ^ k) + h 0 < 2 ^ (k + k) := by
      rw [Nat.pow_add]
      have := Nat.mul_le_mul_left (2 ^ k) (show y % 2 ^ k + 1 ≤ 2 ^ k from Nat.mod_lt _ (Nat.two_pow_pos k))
      have := hh 0
      rw [Nat.mul_add] at *; omega
    rw [e, land_st b c, ih2, low_k (hh 0)]
theorem bits_ds (n : Nat) : ∀ m, m < 2 ^ n → m = ds 1 (fun i => if m.testBit i then 1 else 0) n := by
  induction n with
  | zero => intro m h; rw [ds]; simp at h; exact h
  | succ n ih =>
    intro m h
    have h2 : m / 2 < 2 ^ n := by rw [Nat.pow_succ] at h; omega
    have e := ih (m / 2) h2
    rw [ds]
    have e2 : ds 1 (fun j => if m.testBit (j + 1) then 1 else 0) n = m / 2 := by
      conv => rhs; rw [e]
      exact ds_cong n (fun j _ => by rw [Nat.testBit_succ])
    rw [e2]
    have e3 : (if m.testBit 0 then 1 else 0) = m % 2 := by
      rw [Nat.testBit_zero]
      by_cases q : m % 2 = 1
      · simp [q]
      · simp [show m % 2 = 0 by omega]
    rw [e3]
    omega
