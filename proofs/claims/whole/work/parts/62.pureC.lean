/-! counts of places, bits (fb_, fa_: from the kit's COUNTS and NUMBERS to paste) -/
def fb_ct (p : Nat → Bool) : Nat → Nat
  | 0 => 0
  | n + 1 => fb_ct p n + (if p n then 1 else 0)
theorem fb_ct_succ (p : Nat → Bool) (n : Nat) : fb_ct p (n + 1) = fb_ct p n + (if p n then 1 else 0) := rfl
theorem fb_ct_cong {p q : Nat → Bool} : ∀ {n : Nat}, (∀ k, k < n → p k = q k) → fb_ct p n = fb_ct q n
  | 0, _ => rfl
  | n + 1, h => by
    rw [fb_ct_succ, fb_ct_succ, fb_ct_cong (fun k hk => h k (by omega)), h n (by omega)]
theorem fb_ct_out (p : Nat → Bool) (b : Bool) {i n : Nat} (h : n ≤ i) : fb_ct (fun k => if k = i then b else p k) n = fb_ct p n :=
  fb_ct_cong fun k hk => if_neg (by omega)
theorem fb_ct_upd (p : Nat → Bool) (b : Bool) {i : Nat} : ∀ {n : Nat}, i < n → fb_ct (fun k => if k = i then b else p k) n + (if p i then 1 else 0) = fb_ct p n + (if b then 1 else 0)
  | 0, h => absurd h (Nat.not_lt_zero i)
  | n + 1, h => by
    rw [fb_ct_succ, fb_ct_succ]
    rcases Nat.lt_or_ge i n with q | q
    · have := fb_ct_upd p b q
      have e : (if n = i then b else p n) = p n := if_neg (by omega)
      rw [e]
      omega
    · have e : i = n := by omega
      subst e
      rw [fb_ct_out p b (Nat.le_refl _)]
      simp only [if_true]
      omega
theorem fb_ct_zero {p : Nat → Bool} : ∀ {n : Nat}, fb_ct p n = 0 ↔ ∀ k, k < n → p k = false
  | 0 => ⟨fun _ k hk => absurd hk (Nat.not_lt_zero k), fun _ => rfl⟩
  | n + 1 => by
    have h := fb_ct_zero (p := p) (n := n)
    rw [fb_ct_succ]
    constructor
    · intro e k hk
      have e1 : fb_ct p n = 0 := by omega
      rcases Nat.lt_or_ge k n with q | q
      · exact h.mp e1 k q
      · have ek : k = n := by omega
        subst ek
        cases hp : p k
        · rfl
        · simp [hp] at e
    · intro a
      rw [h.mpr (fun k hk => a k (by omega)), a n (by omega)]
      rfl
theorem fb_ct_pos {p : Nat → Bool} {n : Nat} : 0 < fb_ct p n ↔ ∃ k, k < n ∧ p k = true := by
  constructor
  · intro h
    refine Classical.byContradiction fun hx => ?_
    have := fb_ct_zero.mpr (fun k hk => by
      cases hp : p k
      · rfl
      · exact absurd ⟨k, hk, hp⟩ hx : ∀ k, k < n → p k = false)
    omega
  · rintro ⟨k, hk, hp⟩
    rcases Nat.eq_zero_or_pos (fb_ct p n) with e | e
    · have := fb_ct_zero.mp e k hk
      rw [this] at hp
      cases hp
    · exact e
theorem fb_andL (a b : Nat) : lN a &&& lN b = lN (a &&& b) := by
  apply Int64.toBitVec_inj.1
  show BitVec.ofNat 64 a &&& BitVec.ofNat 64 b = BitVec.ofNat 64 (a &&& b)
  apply BitVec.eq_of_getLsbD_eq
  intro i hi
  simp [hi]
theorem fb_orL (a b : Nat) : lN a ||| lN b = lN (a ||| b) := by
  apply Int64.toBitVec_inj.1
  show BitVec.ofNat 64 a ||| BitVec.ofNat 64 b = BitVec.ofNat 64 (a ||| b)
  apply BitVec.eq_of_getLsbD_eq
  intro i hi
  simp [hi]
theorem fb_bit_set (n j i : Nat) : (n ||| 2 ^ j).testBit i = (n.testBit i || decide (i = j)) := by
  rw [Nat.testBit_or]
  by_cases h : j = i
  · subst h; simp
  · have h2 : ¬ i = j := fun e => h e.symm
    first | (simp [Nat.testBit_two_pow, h, h2]; done) | (simp [Nat.testBit_two_pow_of_ne h, h2]; done)
theorem fa_or (a b : Nat) : nI a ||| nI b = nI (a ||| b) := by
  apply Int32.toBitVec_inj.1
  show BitVec.ofNat 32 a ||| BitVec.ofNat 32 b = BitVec.ofNat 32 (a ||| b)
  apply BitVec.eq_of_getLsbD_eq
  intro i hi
  simp [hi]
/-! digits -/
def ds (k : Nat) (f : Nat → Nat) : Nat → Nat
  | 0 => 0
  | n + 1 => 2 ^ k * ds k (fun j => f (j + 1)) n + f 0
theorem land_st {k a b c d : Nat} (ha : a < 2 ^ k) (hc : c < 2 ^ k) : (2 ^ k * b + a) &&& (2 ^ k * d + c) = 2 ^ k * (b &&& d) + (a &&& c) := by
  apply Nat.eq_of_testBit_eq
  intro j
  rw [Nat.testBit_and, Nat.testBit_two_pow_mul_add _ ha, Nat.testBit_two_pow_mul_add _ hc, Nat.testBit_two_pow_mul_add _ (Nat.and_lt_two_pow _ hc)]
  split
  · rw [Nat.testBit_and]
  · rw [Nat.testBit_and]
theorem ds_cong {k : Nat} {f g : Nat → Nat} (n : Nat) (h : ∀ j, j < n → f j = g j) : ds k f n = ds k g n := by
  induction n generalizing f g with
  | zero => rfl
  | succ n ih => rw [ds, ds, h 0 (by omega), ih (fun j hj => h (j + 1) (by omega))]
theorem ds_add (k : Nat) (f g : Nat → Nat) (n : Nat) : ds k f n + ds k g n = ds k (fun j => f j + g j) n := by
  induction n generalizing f g with
  | zero => rfl
  | succ n ih =>
    rw [ds, ds, ds, ← ih]
    rw [Nat.mul_add]; omega
theorem ds_two (k : Nat) (f : Nat → Nat) (n : Nat) : ds k f (n + n) = ds (k + k) (fun j => 2 ^ k * f (j + j + 1) + f (j + j)) n := by
  induction n generalizing f with
  | zero => rfl
  | succ n ih =>
    rw [show n + 1 + (n + 1) = (n + n) + 1 + 1 by omega, ds, ds, ds, ih (fun j => f (j + 1 + 1))]
    have e : ds (k + k) (fun j => 2 ^ k * f (j + j + 1 + 1 + 1) + f (j + j + 1 + 1)) n = ds (k + k) (fun j => 2 ^ k * f (j + 1 + (j + 1) + 1) + f (j + 1 + (j + 1))) n := ds_cong n (fun j _ => by rw [show j + j + 1 + 1 + 1 = j + 1 + (j + 1) + 1 by omega, show j + j + 1 + 1 = j + 1 + (j + 1) by omega])
    rw [e, Nat.pow_add]
    generalize ds (k + k) (fun j => 2 ^ k * f (j + 1 + (j + 1) + 1) + f (j + 1 + (j + 1))) n = X
    show 2 ^ k * (2 ^ k * X + f (0 + 1)) + f 0 = 2 ^ k * 2 ^ k * X + (2 ^ k * f (0 + 0 + 1) + f (0 + 0))
    rw [Nat.mul_add, Nat.mul_assoc]; omega
theorem low_k {k a b : Nat} (h : b < 2 ^ k) : (2 ^ k * a + b) &&& (2 ^ k - 1) = b := by
  rw [Nat.and_two_pow_sub_one_eq_mod, Nat.mul_add_mod]; exact Nat.mod_eq_of_lt h
theorem div_k {k a b : Nat} (h : b < 2 ^ k) : (2 ^ k * a + b) / 2 ^ k = a := by
  rw [Nat.mul_add_div (Nat.two_pow_pos k), Nat.div_eq_of_lt h]; omega
/-- the lower halves of the digits, the upper ones -/
theorem ds_lo {k : Nat} (l h : Nat → Nat) (n : Nat) (hl : ∀ j, l j < 2 ^ k) (hh : ∀ j, h j < 2 ^ k) : ds (k + k) (fun j => 2 ^ k * h j + l j) n &&& ds (k + k) (fun _ => 2 ^ k - 1) n = ds (k + k) l n := by
  induction n generalizing l h with
  | zero => rfl
  | succ n ih =>
    have b : 2 ^ k * h 0 + l 0 < 2 ^ (k + k) := by
      rw [Nat.pow_add]
      have := Nat.mul_le_mul_left (2 ^ k) (show h 0 + 1 ≤ 2 ^ k from hh 0)
      have := hl 0
      rw [Nat.mul_add] at *; omega
    have c : 2 ^ k - 1 < 2 ^ (k + k) := by
      have := Nat.pow_le_pow_right (n := 2) (by decide) (show k ≤ k + k by omega)
      have := Nat.two_pow_pos k
      omega
    rw [ds, ds, ds, land_st b c, ih (fun j => l (j + 1)) (fun j => h (j + 1)) (fun j => hl (j + 1)) (fun j => hh (j + 1)), low_k (hl 0)]
theorem ds_hi {k : Nat} (l h : Nat → Nat) (n : Nat) (hl : ∀ j, l j < 2 ^ k) (hh : ∀ j, h j < 2 ^ k) : (ds (k + k) (fun j => 2 ^ k * h j + l j) n / 2 ^ k) &&& ds (k + k) (fun _ => 2 ^ k - 1) n = ds (k + k) h n := by
  induction n generalizing l h with
  | zero => rw [ds, ds, ds]; simp
  | succ n ih =>
    have ih2 := ih (fun j => l (j + 1)) (fun j => h (j + 1)) (fun j => hl (j + 1)) (fun j => hh (j + 1))
    have c : 2 ^ k - 1 < 2 ^ (k + k) := by
      have := Nat.pow_le_pow_right (n := 2) (by decide) (show k ≤ k + k by omega)
      have := Nat.two_pow_pos k
      omega
    rw [ds, ds, ds]
    generalize ds (k + k) (fun j => 2 ^ k * h (j + 1) + l (j + 1)) n = y at ih2 ⊢
    have e : (2 ^ (k + k) * y + (2 ^ k * h 0 + l 0)) / 2 ^ k = 2 ^ (k + k) * (y / 2 ^ k) + (2 ^ k * (y % 2 ^ k) + h 0) := by
      have a1 : 2 ^ (k + k) * y + (2 ^ k * h 0 + l 0) = 2 ^ k * (2 ^ k * y + h 0) + l 0 := by rw [Nat.pow_add, Nat.mul_add, Nat.mul_assoc]; omega
      rw [a1, div_k (hl 0)]
      have a2 := Nat.div_add_mod y (2 ^ k)
      have a3 : 2 ^ k * y = 2 ^ k * (2 ^ k * (y / 2 ^ k) + y % 2 ^ k) := by rw [a2]
      rw [a3, Nat.mul_add, Nat.pow_add, Nat.mul_assoc]; omega
    have b : 2 ^ k * (y % 2 ^ k) + h 0 < 2 ^ (k + k) := by
      rw [Nat.pow_add]
      have := Nat.mul_le_mul_left (2 ^ k) (show y % 2 ^ k + 1 ≤ 2 ^ k from Nat.mod_lt _ (Nat.two_pow_pos k))
      have := hh 0
      rw [Nat.mul_add] at *; omega
    rw [e, land_st b c, ih2, low_k (hh 0)]
theorem bits_ds (n : Nat) : ∀ m, m < 2 ^ n → m = ds 1 (fun i => if m.testBit i then 1 else 0) n := by
  induction n with
  | zero => intro m h; rw [ds]; simp at h; exact h
  | succ n ih =>
    intro m h
    have h2 : m / 2 < 2 ^ n := by rw [Nat.pow_succ] at h; omega
    have e := ih (m / 2) h2
    rw [ds]
    have e2 : ds 1 (fun j => if m.testBit (j + 1) then 1 else 0) n = m / 2 := by
      conv => rhs; rw [e]
      exact ds_cong n (fun j _ => by rw [Nat.testBit_succ])
    rw [e2]
    have e3 : (if m.testBit 0 then 1 else 0) = m % 2 := by
      rw [Nat.testBit_zero]
      by_cases q : m % 2 = 1
      · simp [q]
      · simp [show m % 2 = 0 by omega]
    rw [e3]
    omega
theorem uL_n {n k : Nat} {c : UInt64} (h : n < 2 ^ 64) (hc : c.toNat % 64 = k) : ((lN n).toUInt64 >>> c).toInt64 = lN (n / 2 ^ k) := by
  have e : (UInt64.ofNat n >>> c) = UInt64.ofNat (n / 2 ^ k) := by
    apply UInt64.toNat_inj.mp
    rw [UInt64.toNat_shiftRight, UInt64.toNat_ofNat', UInt64.toNat_ofNat', hc, Nat.mod_eq_of_lt h, Nat.shiftRight_eq_div_pow, Nat.mod_eq_of_lt (Nat.lt_of_le_of_lt (Nat.div_le_self _ _) h)]
  show (UInt64.ofNat n >>> c).toInt64 = lN (n / 2 ^ k)
  rw [e]
  rfl
theorem uL_1 {n : Nat} (h : n < 2 ^ 64) : uL (lN n) 1 = lN (n / 2 ^ 1) := uL_n h (by decide +kernel)
theorem uL_2 {n : Nat} (h : n < 2 ^ 64) : uL (lN n) 2 = lN (n / 2 ^ 2) := uL_n h (by decide +kernel)
theorem uL_4 {n : Nat} (h : n < 2 ^ 64) : uL (lN n) 4 = lN (n / 2 ^ 4) := uL_n h (by decide +kernel)
theorem uL_8 {n : Nat} (h : n < 2 ^ 64) : uL (lN n) 8 = lN (n / 2 ^ 8) := uL_n h (by decide +kernel)
theorem uL_16 {n : Nat} (h : n < 2 ^ 64) : uL (lN n) 16 = lN (n / 2 ^ 16) := uL_n h (by decide +kernel)
theorem uL_32 {n : Nat} (h : n < 2 ^ 64) : uL (lN n) 32 = lN (n / 2 ^ 32) := uL_n h (by decide +kernel)
theorem ds_mod {k : Nat} (l h : Nat → Nat) (n : Nat) (hl : ∀ j, l j < 2 ^ k) : ds (k + k) (fun j => 2 ^ k * h j + l j) n % 2 ^ k ≤ l 0 := by
  cases n with
  | zero => rw [ds]; simp
  | succ n =>
    rw [ds, Nat.pow_add]
    have e : 2 ^ k * 2 ^ k * ds (k + k) (fun j => 2 ^ k * h (j + 1) + l (j + 1)) n + (2 ^ k * h 0 + l 0) = 2 ^ k * (2 ^ k * ds (k + k) (fun j => 2 ^ k * h (j + 1) + l (j + 1)) n + h 0) + l 0 := by rw [Nat.mul_add, Nat.mul_assoc]; omega
    rw [e, Nat.mul_add_mod, Nat.mod_eq_of_lt (hl 0)]
    exact Nat.le_refl _
theorem ds_sum {k : Nat} (l h : Nat → Nat) (n : Nat) (hl : ∀ j, l j < 2 ^ k) (hh : ∀ i j, l i + h j < 2 ^ k) : (ds (k + k) (fun j => 2 ^ k * h j + l j) n + ds (k + k) (fun j => 2 ^ k * h j + l j) n / 2 ^ k) &&& ds (k + k) (fun _ => 2 ^ k - 1) n = ds (k + k) (fun j => l j + h j) n := by
  induction n generalizing l h with
  | zero => rw [ds, ds, ds]; simp
  | succ n ih =>
    have ih2 := ih (fun j => l (j + 1)) (fun j => h (j + 1)) (fun j => hl (j + 1)) (fun i j => hh (i + 1) (j + 1))
    have md := ds_mod (fun j => l (j + 1)) (fun j => h (j + 1)) n (fun j => hl (j + 1))
    have c : 2 ^ k - 1 < 2 ^ (k + k) := by
      have := Nat.pow_le_pow_right (n := 2) (by decide) (show k ≤ k + k by omega)
      have := Nat.two_pow_pos k
      omega
    rw [ds, ds, ds]
    generalize ds (k + k) (fun j => 2 ^ k * h (j + 1) + l (j + 1)) n = y at ih2 md ⊢
    have e : (2 ^ (k + k) * y + (2 ^ k * h 0 + l 0)) / 2 ^ k = 2 ^ (k + k) * (y / 2 ^ k) + (2 ^ k * (y % 2 ^ k) + h 0) := by
      have a1 : 2 ^ (k + k) * y + (2 ^ k * h 0 + l 0) = 2 ^ k * (2 ^ k * y + h 0) + l 0 := by rw [Nat.pow_add, Nat.mul_add, Nat.mul_assoc]; omega
      rw [a1, div_k (hl 0)]
      have a2 := Nat.div_add_mod y (2 ^ k)
      have a3 : 2 ^ k * y = 2 ^ k * (2 ^ k * (y / 2 ^ k) + y % 2 ^ k) := by rw [a2]
      rw [a3, Nat.mul_add, Nat.pow_add, Nat.mul_assoc]; omega
    have h1 : h 0 + y % 2 ^ k < 2 ^ k := by
      have := hh 1 0
      have : y % 2 ^ k ≤ l 1 := md
      omega
    have h0 := hh 0 0
    have b : 2 ^ k * (h 0 + y % 2 ^ k) + (l 0 + h 0) < 2 ^ (k + k) := by
      rw [Nat.pow_add]
      have := Nat.mul_le_mul_left (2 ^ k) (show h 0 + y % 2 ^ k + 1 ≤ 2 ^ k from h1)
      rw [Nat.mul_add] at this; omega
    have e2 : 2 ^ (k + k) * y + (2 ^ k * h 0 + l 0) + (2 ^ (k + k) * y + (2 ^ k * h 0 + l 0)) / 2 ^ k = 2 ^ (k + k) * (y + y / 2 ^ k) + (2 ^ k * (h 0 + y % 2 ^ k) + (l 0 + h 0)) := by
      rw [e, Nat.mul_add, Nat.mul_add]; omega
    rw [e2, land_st b c, ih2, low_k h0]
theorem ds_lt {k : Nat} (f : Nat → Nat) (n : Nat) (hf : ∀ j, f j < 2 ^ k) : ds k f n < 2 ^ (k * n) := by
  induction n generalizing f with
  | zero => rw [ds]; exact Nat.two_pow_pos _
  | succ n ih =>
    have h := ih (fun j => f (j + 1)) (fun j => hf (j + 1))
    have := hf 0
    rw [ds, Nat.mul_succ, Nat.add_comm (k * n) k, Nat.pow_add]
    have := Nat.mul_le_mul_left (2 ^ k) (show ds k (fun j => f (j + 1)) n + 1 ≤ 2 ^ (k * n) from h)
    rw [Nat.mul_add] at this; omega
def sm (f : Nat → Nat) : Nat → Nat
  | 0 => 0
  | n + 1 => sm f n + f n
theorem sm_two (f : Nat → Nat) (n : Nat) : sm (fun j => f (j + j) + f (j + j + 1)) n = sm f (n + n) := by
  induction n with
  | zero => rfl
  | succ n ih => rw [show n + 1 + (n + 1) = n + n + 1 + 1 by omega, sm, sm, sm, ih]; omega
theorem sm_ct (p : Nat → Bool) (n : Nat) : sm (fun i => if p i then 1 else 0) n = fb_ct p n := by
  induction n with
  | zero => rfl
  | succ n ih => rw [sm, fb_ct, ih]
theorem cst1 : 6148914691236517205 = ds (1 + 1) (fun _ => 2 ^ 1 - 1) 32 := by decide +kernel
theorem cst2 : 3689348814741910323 = ds (2 + 2) (fun _ => 2 ^ 2 - 1) 16 := by decide +kernel
theorem cst3 : 1085102592571150095 = ds (4 + 4) (fun _ => 2 ^ 4 - 1) 8 := by decide +kernel
theorem pop_1 (b : Nat → Nat) (hb : ∀ i, b i ≤ 1) : ds 1 b 64 - (ds 1 b 64 / 2 ^ 1 &&& 6148914691236517205) = ds 2 (fun j => b (j + j) + b (j + j + 1)) 32 ∧ (ds 1 b 64 / 2 ^ 1 &&& 6148914691236517205) ≤ ds 1 b 64 := by
  have e := ds_two 1 b 32
  have hh := ds_hi (k := 1) (fun j => b (j + j)) (fun j => b (j + j + 1)) 32 (fun j => by have := hb (j + j); omega) (fun j => by have := hb (j + j + 1); omega)
  rw [cst1]
  show ds 1 b (32 + 32) - (ds 1 b (32 + 32) / 2 ^ 1 &&& ds (1 + 1) (fun _ => 2 ^ 1 - 1) 32) = ds 2 (fun j => b (j + j) + b (j + j + 1)) 32 ∧ _ ≤ ds 1 b (32 + 32)
  rw [e, hh]
  have a := ds_add (1 + 1) (fun j => b (j + j + 1)) (fun j => b (j + j) + b (j + j + 1)) 32
  have c : ds (1 + 1) (fun j => b (j + j + 1) + (b (j + j) + b (j + j + 1))) 32 = ds (1 + 1) (fun j => 2 ^ 1 * b (j + j + 1) + b (j + j)) 32 := ds_cong 32 (fun j _ => by omega)
  rw [c] at a
  rw [← a]
  exact ⟨by omega, by omega⟩
theorem pop_2 (f : Nat → Nat) (hf : ∀ i, f i ≤ 2) : (ds 2 f 32 &&& 3689348814741910323) + (ds 2 f 32 / 2 ^ 2 &&& 3689348814741910323) = ds 4 (fun j => f (j + j) + f (j + j + 1)) 16 := by
  have e := ds_two 2 f 16
  have l1 : ∀ j, (fun j => f (j + j)) j < 2 ^ 2 := fun j => by have := hf (j + j); show f (j + j) < 4; omega
  have l2 : ∀ j, (fun j => f (j + j + 1)) j < 2 ^ 2 := fun j => by have := hf (j + j + 1); show f (j + j + 1) < 4; omega
  have h1 := ds_lo (k := 2) (fun j => f (j + j)) (fun j => f (j + j + 1)) 16 l1 l2
  have h2 := ds_hi (k := 2) (fun j => f (j + j)) (fun j => f (j + j + 1)) 16 l1 l2
  rw [cst2]
  show (ds 2 f (16 + 16) &&& ds (2 + 2) (fun _ => 2 ^ 2 - 1) 16) + (ds 2 f (16 + 16) / 2 ^ 2 &&& ds (2 + 2) (fun _ => 2 ^ 2 - 1) 16) = _
  rw [e, h1, h2]
  exact ds_add (2 + 2) (fun j => f (j + j)) (fun j => f (j + j + 1)) 16
theorem pop_3 (f : Nat → Nat) (hf : ∀ i, f i ≤ 4) : (ds 4 f 16 + ds 4 f 16 / 2 ^ 4) &&& 1085102592571150095 = ds 8 (fun j => f (j + j) + f (j + j + 1)) 8 := by
  have e := ds_two 4 f 8
  have l1 : ∀ j, (fun j => f (j + j)) j < 2 ^ 4 := fun j => by have := hf (j + j); show f (j + j) < 16; omega
  have l2 : ∀ i j, (fun j => f (j + j)) i + (fun j => f (j + j + 1)) j < 2 ^ 4 := fun i j => by have := hf (i + i); have := hf (j + j + 1); show f (i + i) + f (j + j + 1) < 16; omega
  have h1 := ds_sum (k := 4) (fun j => f (j + j)) (fun j => f (j + j + 1)) 8 l1 l2
  rw [cst3]
  show (ds 4 f (8 + 8) + ds 4 f (8 + 8) / 2 ^ 4) &&& ds (4 + 4) (fun _ => 2 ^ 4 - 1) 8 = _
  rw [e]
  exact h1
theorem pop_4 {y p0 p1 p2 p3 p4 p5 p6 p7 : Nat} (h0 : p0 ≤ 8) (h1 : p1 ≤ 8) (h2 : p2 ≤ 8) (h3 : p3 ≤ 8) (h4 : p4 ≤ 8) (h5 : p5 ≤ 8) (h6 : p6 ≤ 8) (h7 : p7 ≤ 8) (hy : y = 256 * (256 * (256 * (256 * (256 * (256 * (256 * p7 + p6) + p5) + p4) + p3) + p2) + p1) + p0) :
    y < 2 ^ 64 ∧ y + y / 256 < 2 ^ 64 ∧ (y + y / 256) + (y + y / 256) / 65536 < 2 ^ 64 ∧ (((y + y / 256) + (y + y / 256) / 65536) + ((y + y / 256) + (y + y / 256) / 65536) / 4294967296) % 128 = p0 + p1 + p2 + p3 + p4 + p5 + p6 + p7 := by
  have e1 : y / 256 = 256 * (256 * (256 * (256 * (256 * (256 * p7 + p6) + p5) + p4) + p3) + p2) + p1 := by omega
  have z1 : y + y / 256 = 256 * (256 * (256 * (256 * (256 * (256 * (256 * p7 + (p6 + p7)) + (p5 + p6)) + (p4 + p5)) + (p3 + p4)) + (p2 + p3)) + (p1 + p2)) + (p0 + p1) := by omega
  have e2 : (y + y / 256) / 65536 = 256 * (256 * (256 * (256 * (256 * p7 + (p6 + p7)) + (p5 + p6)) + (p4 + p5)) + (p3 + p4)) + (p2 + p3) := by omega
  have z2 : (y + y / 256) + (y + y / 256) / 65536 = 256 * (256 * (256 * (256 * (256 * (256 * (256 * p7 + (p6 + p7)) + (p5 + p6 + p7)) + (p4 + p5 + p6 + p7)) + (p3 + p4 + p5 + p6)) + (p2 + p3 + p4 + p5)) + (p1 + p2 + p3 + p4)) + (p0 + p1 + p2 + p3) := by omega
  have e3 : ((y + y / 256) + (y + y / 256) / 65536) / 4294967296 = 256 * (256 * (256 * p7 + (p6 + p7)) + (p5 + p6 + p7)) + (p4 + p5 + p6 + p7) := by omega
  refine ⟨by omega, by omega, by omega, ?_⟩
  rw [e3, z2]
  omega
theorem bcL_n {m : Nat} (hm : m < 2 ^ 64) : bcL (lN m) = nI (fb_ct m.testBit 64) := by
  obtain ⟨b, eb⟩ : ∃ b : Nat → Nat, b = fun i => if m.testBit i then 1 else 0 := ⟨_, rfl⟩
  have hb : ∀ i, b i ≤ 1 := fun i => by rw [eb]; show (if m.testBit i then 1 else 0) ≤ 1; split <;> omega
  have em : m = ds 1 b 64 := by rw [eb]; exact bits_ds 64 m hm
  obtain ⟨q1, q1'⟩ := pop_1 b hb
  rw [← em] at q1 q1'
  obtain ⟨f, ef⟩ : ∃ f : Nat → Nat, f = fun j => b (j + j) + b (j + j + 1) := ⟨_, rfl⟩
  have hf : ∀ i, f i ≤ 2 := fun i => by rw [ef]; have := hb (i + i); have := hb (i + i + 1); show b (i + i) + b (i + i + 1) ≤ 2; omega
  rw [← ef] at q1
  have q2 := pop_2 f hf
  obtain ⟨g, eg⟩ : ∃ g : Nat → Nat, g = fun j => f (j + j) + f (j + j + 1) := ⟨_, rfl⟩
  have hg : ∀ i, g i ≤ 4 := fun i => by rw [eg]; have := hf (i + i); have := hf (i + i + 1); show f (i + i) + f (i + i + 1) ≤ 4; omega
  rw [← eg] at q2
  have q3 := pop_3 g hg
  obtain ⟨p, ep⟩ : ∃ p : Nat → Nat, p = fun j => g (j + j) + g (j + j + 1) := ⟨_, rfl⟩
  have hp : ∀ i, p i ≤ 8 := fun i => by rw [ep]; have := hg (i + i); have := hg (i + i + 1); show g (i + i) + g (i + i + 1) ≤ 8; omega
  rw [← ep] at q3
  obtain ⟨x1, ex1⟩ : ∃ x1, x1 = ds 2 f 32 := ⟨_, rfl⟩
  obtain ⟨x2, ex2⟩ : ∃ x2, x2 = ds 4 g 16 := ⟨_, rfl⟩
  obtain ⟨x3, ex3⟩ : ∃ x3, x3 = ds 8 p 8 := ⟨_, rfl⟩
  have l1 : x1 < 2 ^ 64 := by rw [ex1]; exact ds_lt f 32 (fun j => by have := hf j; omega)
  have l2 : x2 < 2 ^ 64 := by rw [ex2]; exact ds_lt g 16 (fun j => by have := hg j; omega)
  rw [← ex1] at q1 q2
  rw [← ex2] at q2 q3
  rw [← ex3] at q3
  have y1 : bl1 (lN m) = lN x1 := by
    unfold bl1
    rw [uL_1 hm, show (6148914691236517205 : Int64) = lN 6148914691236517205 from rfl, fb_andL, lN_sub q1', q1]
  have y2 : bl2 (lN x1) = lN x2 := by
    unfold bl2
    rw [uL_2 l1, show (3689348814741910323 : Int64) = lN 3689348814741910323 from rfl, fb_andL, fb_andL, lN_add, q2]
  have y3 : bl3 (lN x2) = lN x3 := by
    unfold bl3
    rw [uL_4 l2, lN_add, show (1085102592571150095 : Int64) = lN 1085102592571150095 from rfl, fb_andL, q3]
  have hx3 : x3 = 256 * (256 * (256 * (256 * (256 * (256 * (256 * p 7 + p 6) + p 5) + p 4) + p 3) + p 2) + p 1) + p 0 := by
    rw [ex3]; simp only [ds]; omega
  obtain ⟨r0, r1, r2, r3⟩ := pop_4 (hp 0) (hp 1) (hp 2) (hp 3) (hp 4) (hp 5) (hp 6) (hp 7) hx3
  have y4 : bl4 (lN m) = lN (x3 + x3 / 256) := by
    unfold bl4
    rw [y1, y2, y3, uL_8 r0, lN_add]; rfl
  have y5 : bl5 (lN m) = lN ((x3 + x3 / 256) + (x3 + x3 / 256) / 65536) := by
    unfold bl5
    rw [y4, uL_16 r1, lN_add]; rfl
  have y6 : bl6 (lN m) = lN (((x3 + x3 / 256) + (x3 + x3 / 256) / 65536) + ((x3 + x3 / 256) + (x3 + x3 / 256) / 65536) / 4294967296) := by
    unfold bl6
    rw [y5, uL_32 r2, lN_add]; rfl
  have es : fb_ct m.testBit 64 = p 0 + p 1 + p 2 + p 3 + p 4 + p 5 + p 6 + p 7 := by
    rw [← sm_ct m.testBit 64, ← eb]
    have s1 := sm_two b 32
    have s2 := sm_two f 16
    have s3 := sm_two g 8
    rw [← ef] at s1
    rw [← eg] at s2
    rw [← ep] at s3
    have s4 : sm p 8 = p 0 + p 1 + p 2 + p 3 + p 4 + p 5 + p 6 + p 7 := by simp only [sm]; omega
    rw [show 64 = 32 + 32 from rfl, ← s1, show 32 = 16 + 16 from rfl, ← s2, show 16 = 8 + 8 from rfl, ← s3, s4]
  unfold bcL
  rw [y6, lN_i, pk_and _ 7 (by decide +kernel), es, ← r3]
  generalize ((x3 + x3 / 256) + (x3 + x3 / 256) / 65536) + ((x3 + x3 / 256) + (x3 + x3 / 256) / 65536) / 4294967296 = z
  have ez : (nI z).toBitVec.toNat = z % 2 ^ 32 := BitVec.toNat_ofNat _ _
  rw [ez]
  congr 1
  omega
theorem pop_set (m q : Nat) (hq : q < 64) : fb_ct (m ||| 2 ^ q).testBit 64 = fb_ct m.testBit 64 + (if m.testBit q then 0 else 1) := by
  have e : fb_ct (m ||| 2 ^ q).testBit 64 = fb_ct (fun k => if k = q then true else m.testBit k) 64 := fb_ct_cong (fun k _ => by
    rw [fb_bit_set]
    by_cases h : k = q
    · simp [h]
    · simp [h])
  have u := fb_ct_upd m.testBit true hq
  rw [e]
  by_cases h : m.testBit q
  · rw [if_pos h] at u ⊢
    simp only [if_true] at u ⊢
    omega
  · rw [if_neg h] at u ⊢
    simp only [if_true] at u ⊢
    omega
