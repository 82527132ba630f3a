/-! Math.floorMod; the history's slots by it -/
def fmod (x y : Int32) : Int32 := if 0 ≤ x ^^^ y then x - x / y * y else if x - x / y * y = 0 then x - x / y * y else x - x / y * y + y
theorem fm_l : ∀ k ∈ List.range 21, (0 : Int32) ≤ nI k ^^^ 10 := by decide +kernel
theorem fm_x {x : Int32} (h0 : 0 ≤ x.toInt) (h1 : x.toInt ≤ 20) : (0 : Int32) ≤ x ^^^ 10 := by
  have ex : x = nI x.toInt.toNat := Int32.toInt_inj.mp (by rw [nIT (by omega)]; omega)
  rw [ex]
  exact fm_l _ (List.mem_range.mpr (by omega))
theorem fm_10 {x : Int32} (h0 : 0 ≤ x.toInt) (h1 : x.toInt ≤ 20) : fmod x 10 = x - x / 10 * 10 := by
  unfold fmod
  exact if_pos (fm_x h0 h1)
theorem hs_pre {v : His} (h : HisOk v) : 0 ≤ (v.2.2.2.1 + v.2.2.2.2).toInt ∧ (v.2.2.2.1 + v.2.2.2.2).toInt ≤ 20 := by
  obtain ⟨a, b, c, d⟩ := h
  rw [ti_add (by omega) (by omega)]
  omega
theorem hs_one {v : His} (h : HisOk v) : 0 ≤ (v.2.2.2.1 + 1).toInt ∧ (v.2.2.2.1 + 1).toInt ≤ 20 := by
  obtain ⟨a, b, c, d⟩ := h
  rw [ti_add (by rw [li_1]; omega) (by rw [li_1]; omega), li_1]
  omega
