/-! the masks -/
theorem cst1 : 6148914691236517205 = ds (1 + 1) (fun _ => 2 ^ 1 - 1) 32 := by decide +kernel
theorem cst2 : 3689348814741910323 = ds (2 + 2) (fun _ => 2 ^ 2 - 1) 16 := by decide +kernel
theorem cst3 : 1085102592571150095 = ds (4 + 4) (fun _ => 2 ^ 4 - 1) 8 := by decide +kernel
theorem pop_1 (b : Nat → Nat) (hb : ∀ i, b i ≤ 1) : ds 1 b 64 - (ds 1 b 64 / 2 ^ 1 &&& 6148914691236517205) = ds 2 (fun j => b (j + j) + b (j + j + 1)) 32 ∧ (ds 1 b 64 / 2 ^ 1 &&& 6148914691236517205) ≤ ds 1 b 64 := by
  have e := ds_two 1 b 32
  have hh := ds_hi (k := 1) (fun j => b (j + j)) (fun j => b (j + j + 1)) 32 (fun j => by have := hb (j + j); omega) (fun j => by have := hb (j + j + 1); omega)
  rw [cst1]
  show ds 1 b (32 + 32) - (ds 1 b (32 + 32) / 2 ^ 1 &&& ds (1 + 1) (fun _ => 2 ^ 1 - 1) 32) = ds 2 (fun j => b (j + j) + b (j + j + 1)) 32 ∧ _ ≤ ds 1 b (32 + 32)
  rw [e, hh]
  have a := ds_add (1 + 1) (fun j => b (j + j + 1)) (fun j => b (j + j) + b (j + j + 1)) 32
  have c : ds (1 + 1) (fun j => b (j + j + 1) + (b (j + j) + b (j + j + 1))) 32 = ds (1 + 1) (fun j => 2 ^ 1 * b (j + j + 1) + b (j + j)) 32 := ds_cong 32 (fun j _ => by omega)
  rw [c] at a
  rw [← a]
  refine ⟨?_, Nat.le_add_right _ _⟩
  show (ds (1 + 1) (fun j => b (j + j + 1)) 32 + ds (1 + 1) (fun j => b (j + j) + b (j + j + 1)) 32) - ds (1 + 1) (fun j => b (j + j + 1)) 32 = ds (1 + 1) (fun j => b (j + j) + b (j + j + 1)) 32
  generalize ds (1 + 1) (fun j => b (j + j + 1)) 32 = A
  generalize ds (1 + 1) (fun j => b (j + j) + b (j + j + 1)) 32 = B
  omega
theorem pop_2 (f : Nat → Nat) (hf : ∀ i, f i ≤ 2) : (ds 2 f 32 &&& 3689348814741910323) + (ds 2 f 32 / 2 ^ 2 &&& 3689348814741910323) = ds 4 (fun j => f (j + j) + f (j + j + 1)) 16 := by
  have e := ds_two 2 f 16
  have l1 : ∀ j, (fun j => f (j + j)) j < 2 ^ 2 := fun j => by have := hf (j + j); show f (j + j) < 4; omega
  have l2 : ∀ j, (fun j => f (j + j + 1)) j < 2 ^ 2 := fun j => by have := hf (j + j + 1); show f (j + j + 1) < 4; omega
  have h1 := ds_lo (k := 2) (fun j => f (j + j)) (fun j => f (j + j + 1)) 16 l1 l2
  have h2 := ds_hi (k := 2) (fun j => f (j + j)) (fun j => f (j + j + 1)) 16 l1 l2
  rw [cst2]
  show (ds 2 f (16 + 16) &&& ds (2 + 2) (fun _ => 2 ^ 2 - 1) 16) + (ds 2 f (16 + 16) / 2 ^ 2 &&& ds (2 + 2) (fun _ => 2 ^ 2 - 1) 16) = _
  rw [e, h1, h2]
  exact ds_add (2 + 2) (fun j => f (j + j)) (fun j => f (j + j + 1)) 16
theorem pop_3 (f : Nat → Nat) (hf : ∀ i, f i ≤ 4) : (ds 4 f 16 + ds 4 f 16 / 2 ^ 4) &&& 1085102592571150095 = ds 8 (fun j => f (j + j) + f (j + j + 1)) 8 := by
  have e := ds_two 4 f 8
  have l1 : ∀ j, (fun j => f (j + j)) j < 2 ^ 4 := fun j => by have := hf (j + j); show f (j + j) < 16; omega
  have l2 : ∀ i j, (fun j => f (j + j)) i + (fun j => f (j + j + 1)) j < 2 ^ 4 := fun i j => by have := hf (i + i); have := hf (j + j + 1); show f (i + i) + f (j + j + 1) < 16; omega
  have h1 := ds_sum (k := 4) (fun j => f (j + j)) (fun j => f (j + j + 1)) 8 l1 l2
  rw [cst3]
  show (ds 4 f (8 + 8) + ds 4 f (8 + 8) / 2 ^ 4) &&& ds (4 + 4) (fun _ => 2 ^ 4 - 1) 8 = _
  rw [e]
  exact h1
