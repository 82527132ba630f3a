/-! how many bits -/
theorem md7 (z : Nat) : z % 2 ^ 32 % 2 ^ 7 = z % 128 := by omega
theorem sm8 (p : Nat → Nat) : sm p 8 = p 0 + p 1 + p 2 + p 3 + p 4 + p 5 + p 6 + p 7 := by
  show ((((((((0 + p 0) + p 1) + p 2) + p 3) + p 4) + p 5) + p 6) + p 7) = _
  omega
theorem ds8 (p : Nat → Nat) : ds 8 p 8 = 256 * (256 * (256 * (256 * (256 * (256 * (256 * p 7 + p 6) + p 5) + p 4) + p 3) + p 2) + p 1) + p 0 :=
  congrArg (fun z => 2 ^ 8 * (2 ^ 8 * (2 ^ 8 * (2 ^ 8 * (2 ^ 8 * (2 ^ 8 * (2 ^ 8 * z + p 6) + p 5) + p 4) + p 3) + p 2) + p 1) + p 0) (show 2 ^ 8 * 0 + p 7 = p 7 by omega)
theorem le1 (c : Bool) : (if c = true then 1 else 0) ≤ 1 := by cases c <;> decide
theorem a1 {a b : Nat} (h : a ≤ 1) (h2 : b ≤ 1) : a + b ≤ 2 := by omega
theorem a2 {a b : Nat} (h : a ≤ 2) (h2 : b ≤ 2) : a + b ≤ 4 := by omega
theorem a4 {a b : Nat} (h : a ≤ 4) (h2 : b ≤ 4) : a + b ≤ 8 := by omega
theorem lt22 {a : Nat} (h : a ≤ 2) : a < 2 ^ 2 := by omega
theorem lt24 {a : Nat} (h : a ≤ 4) : a < 2 ^ 4 := by omega
theorem bcL_n {m : Nat} (hm : m < 2 ^ 64) : bcL (lN m) = nI (fb_ct m.testBit 64) := by
  obtain ⟨b, eb⟩ : ∃ b : Nat → Nat, b = fun i => if m.testBit i then 1 else 0 := ⟨_, rfl⟩
  have hb : ∀ i, b i ≤ 1 := fun i => by rw [eb]; exact le1 (m.testBit i)
  have em : m = ds 1 b 64 := by rw [eb]; exact bits_ds 64 m hm
  obtain ⟨q1, q1'⟩ := pop_1 b hb
  rw [← em] at q1 q1'
  obtain ⟨f, ef⟩ : ∃ f : Nat → Nat, f = fun j => b (j + j) + b (j + j + 1) := ⟨_, rfl⟩
  have hf : ∀ i, f i ≤ 2 := fun i => by rw [ef]; exact a1 (hb (i + i)) (hb (i + i + 1))
  rw [← ef] at q1
  have q2 := pop_2 f hf
  obtain ⟨g, eg⟩ : ∃ g : Nat → Nat, g = fun j => f (j + j) + f (j + j + 1) := ⟨_, rfl⟩
  have hg : ∀ i, g i ≤ 4 := fun i => by rw [eg]; exact a2 (hf (i + i)) (hf (i + i + 1))
  rw [← eg] at q2
  have q3 := pop_3 g hg
  obtain ⟨p, ep⟩ : ∃ p : Nat → Nat, p = fun j => g (j + j) + g (j + j + 1) := ⟨_, rfl⟩
  have hp : ∀ i, p i ≤ 8 := fun i => by rw [ep]; exact a4 (hg (i + i)) (hg (i + i + 1))
  rw [← ep] at q3
  obtain ⟨x1, ex1⟩ : ∃ x1, x1 = ds 2 f 32 := ⟨_, rfl⟩
  obtain ⟨x2, ex2⟩ : ∃ x2, x2 = ds 4 g 16 := ⟨_, rfl⟩
  obtain ⟨x3, ex3⟩ : ∃ x3, x3 = ds 8 p 8 := ⟨_, rfl⟩
  have l1 : x1 < 2 ^ 64 := by rw [ex1]; exact ds_lt f 32 (fun j => lt22 (hf j))
  have l2 : x2 < 2 ^ 64 := by rw [ex2]; exact ds_lt g 16 (fun j => lt24 (hg j))
  rw [← ex1] at q1 q2
  rw [← ex2] at q2 q3
  rw [← ex3] at q3
  have y1 : bl1 (lN m) = lN x1 := by
    unfold bl1
    rw [uL_1 hm, show (6148914691236517205 : Int64) = lN 6148914691236517205 from rfl, fb_andL, lN_sub q1', q1]
  have y2 : bl2 (lN x1) = lN x2 := by
    unfold bl2
    rw [uL_2 l1, show (3689348814741910323 : Int64) = lN 3689348814741910323 from rfl, fb_andL, fb_andL, lN_add, q2]
  have y3 : bl3 (lN x2) = lN x3 := by
    unfold bl3
    rw [uL_4 l2, lN_add, show (1085102592571150095 : Int64) = lN 1085102592571150095 from rfl, fb_andL, q3]
  have hx3 : x3 = 256 * (256 * (256 * (256 * (256 * (256 * (256 * p 7 + p 6) + p 5) + p 4) + p 3) + p 2) + p 1) + p 0 := by
    rw [ex3]; exact ds8 p
  obtain ⟨r0, r1, r2, r3⟩ := pop_4 (hp 0) (hp 1) (hp 2) (hp 3) (hp 4) (hp 5) (hp 6) (hp 7) hx3
  have y4 : bl4 (lN m) = lN (x3 + x3 / 256) := by
    unfold bl4
    rw [y1, y2, y3, uL_8 r0, lN_add]
  have y5 : bl5 (lN m) = lN ((x3 + x3 / 256) + (x3 + x3 / 256) / 65536) := by
    unfold bl5
    rw [y4, uL_16 r1, lN_add]
  have y6 : bl6 (lN m) = lN (((x3 + x3 / 256) + (x3 + x3 / 256) / 65536) + ((x3 + x3 / 256) + (x3 + x3 / 256) / 65536) / 4294967296) := by
    unfold bl6
    rw [y5, uL_32 r2, lN_add]
  have es : fb_ct m.testBit 64 = p 0 + p 1 + p 2 + p 3 + p 4 + p 5 + p 6 + p 7 := by
    rw [← sm_ct m.testBit 64, ← eb]
    have s1 := sm_two b 32
    have s2 := sm_two f 16
    have s3 := sm_two g 8
    rw [← ef] at s1
    rw [← eg] at s2
    rw [← ep] at s3
    have s4 := sm8 p
    rw [show 64 = 32 + 32 from rfl, ← s1, show 32 = 16 + 16 from rfl, ← s2, show 16 = 8 + 8 from rfl, ← s3, s4]
  unfold bcL
  rw [y6, lN_i, pk_and _ 7 (by decide +kernel), es, ← r3]
  generalize ((x3 + x3 / 256) + (x3 + x3 / 256) / 65536) + ((x3 + x3 / 256) + (x3 + x3 / 256) / 65536) / 4294967296 = z
  have ez : (nI z).toBitVec.toNat = z % 2 ^ 32 := BitVec.toNat_ofNat _ _
  rw [ez, md7]
theorem pop_set (m q : Nat) (hq : q < 64) : fb_ct (m ||| 2 ^ q).testBit 64 = fb_ct m.testBit 64 + (if m.testBit q then 0 else 1) := by
  have e : fb_ct (m ||| 2 ^ q).testBit 64 = fb_ct (fun k => if k = q then true else m.testBit k) 64 := fb_ct_cong (fun k _ => by
    rw [fb_bit_set]
    by_cases h : k = q
    · simp [h]
    · simp [h])
  have u := fb_ct_upd m.testBit true hq
  rw [e]
  by_cases h : m.testBit q
  · rw [if_pos h] at u ⊢
    simp only [if_true] at u ⊢
    omega
  · rw [if_neg h] at u ⊢
    simp only [if_true] at u ⊢
    omega
