/-! sums of digits -/
theorem ds_mod {k : Nat} (l h : Nat → Nat) (n : Nat) (hl : ∀ j, l j < 2 ^ k) : ds (k + k) (fun j => 2 ^ k * h j + l j) n % 2 ^ k ≤ l 0 := by
  cases n with
  | zero => rw [ds]; simp
  | succ n =>
    rw [ds, Nat.pow_add]
    have e : 2 ^ k * 2 ^ k * ds (k + k) (fun j => 2 ^ k * h (j + 1) + l (j + 1)) n + (2 ^ k * h 0 + l 0) = 2 ^ k * (2 ^ k * ds (k + k) (fun j => 2 ^ k * h (j + 1) + l (j + 1)) n + h 0) + l 0 := by rw [Nat.mul_add, Nat.mul_assoc]; omega
    rw [e, Nat.mul_add_mod, Nat.mod_eq_of_lt (hl 0)]
    exact Nat.le_refl _
theorem ds_sum {k : Nat} (l h : Nat → Nat) (n : Nat) (hl : ∀ j, l j < 2 ^ k) (hh : ∀ i j, l i + h j < 2 ^ k) : (ds (k + k) (fun j => 2 ^ k * h j + l j) n + ds (k + k) (fun j => 2 ^ k * h j + l j) n / 2 ^ k) &&& ds (k + k) (fun _ => 2 ^ k - 1) n = ds (k + k) (fun j => l j + h j) n := by
  induction n generalizing l h with
  | zero => rw [ds, ds, ds]; simp
  | succ n ih =>
    have ih2 := ih (fun j => l (j + 1)) (fun j => h (j + 1)) (fun j => hl (j + 1)) (fun i j => hh (i + 1) (j + 1))
    have md := ds_mod (fun j => l (j + 1)) (fun j => h (j + 1)) n (fun j => hl (j + 1))
    have c : 2 ^ k - 1 < 2 ^ (k + k) := by
      have := Nat.pow_le_pow_right (n := 2) (by decide) (show k ≤ k + k by omega)
      have := Nat.two_pow_pos k
      omega
    rw [ds, ds, ds]
    generalize ds (k + k) (fun j => 2 ^ k * h (j + 1) + l (j + 1)) n = y at ih2 md ⊢
    have e : (2 ^ (k + k) * y + (2 ^ k * h 0 + l 0)) / 2 ^ k = 2 ^ (k + k) * (y / 2 ^ k) + (2 ^ k * (y % 2 ^ k) + h 0) := by
      have a1 : 2 ^ (k + k) * y + (2 ^ k * h 0 + l 0) = 2 ^ k * (2 ^ k * y + h 0) + l 0 := by rw [Nat.pow_add, Nat.mul_add, Nat.mul_assoc]; omega
      rw [a1, div_k (hl 0)]
      have a2 := Nat.div_add_mod y (2 ^ k)
      have a3 : 2 ^ k * y = 2 ^ k * (2 ^ k * (y / 2 ^ k) + y % 2 ^ k) := by rw [a2]
      rw [a3, Nat.mul_add, Nat.pow_add, Nat.mul_assoc]; omega
    have h1 : h 0 + y % 2 ^ k < 2 ^ k := by
      have := hh 1 0
      have : y % 2 ^ k ≤ l 1 := md
      omega
    have h0 := hh 0 0
    have b : 2 ^ k * (h 0 + y % 2 ^ k) + (l 0 + h 0) < 2 ^ (k + k) := by
      rw [Nat.pow_add]
      have := Nat.mul_le_mul_left (2 ^ k) (show h 0 + y % 2 ^ k + 1 ≤ 2 ^ k from h1)
      rw [Nat.mul_add] at this; omega
    have e2 : 2 ^ (k + k) * y + (2 ^ k * h 0 + l 0) + (2 ^ (k + k) * y + (2 ^ k * h 0 + l 0)) / 2 ^ k = 2 ^ (k + k) * (y + y / 2 ^ k) + (2 ^ k * (h 0 + y % 2 ^ k) + (l 0 + h 0)) := by
      rw [e, Nat.mul_add, Nat.mul_add]; omega
    rw [e2, land_st b c, ih2, low_k h0]
theorem ds_lt {k : Nat} (f : Nat → Nat) (n : Nat) (hf : ∀ j, f j < 2 ^ k) : ds k f n < 2 ^ (k * n) := by
  induction n generalizing f with
  | zero => rw [ds]; exact Nat.two_pow_pos _
  | succ n ih =>
    have h := ih (fun j => f (j + 1)) (fun j => hf (j + 1))
    have := hf 0
    rw [ds, Nat.mul_succ, Nat.add_comm (k * n) k, Nat.pow_add]
    have := Nat.mul_le_mul_left (2 ^ k) (show ds k (fun j => f (j + 1)) n + 1 ≤ 2 ^ (k * n) from h)
    rw [Nat.mul_add] at this; omega
def sm (f : Nat → Nat) : Nat → Nat
  | 0 => 0
  | n + 1 => sm f n + f n
theorem sm_two (f : Nat → Nat) (n : Nat) : sm (fun j => f (j + j) + f (j + j + 1)) n = sm f (n + n) := by
  induction n with
  | zero => rfl
  | succ n ih => rw [show n + 1 + (n + 1) = n + n + 1 + 1 by omega, sm, sm, sm, ih]; omega
theorem sm_ct (p : Nat → Bool) (n : Nat) : sm (fun i => if p i then 1 else 0) n = fb_ct p n := by
  induction n with
  | zero => rfl
  | succ n ih => rw [sm, fb_ct, ih]
