/-! what the small classes' methods answer and do: the words of their contracts -/
def tLetter (t : Txt) (i : Int32) : Int32 := if i < 0 then -9 else if t.1 ≤ i then -9 else t.2 (i).toNatClampNeg
def tAppB (t : Txt) : Bool := if t.1 < 100 then true else false
def tApp (t : Txt) (k : Int32) : Txt := if t.1 < 100 then (t.1 + 1, upd t.2 (t.1).toNatClampNeg k) else t
def isStf (d : Int32) : Bool := if d < 0 then false else if 3 ≤ d then false else true
def sLen (v : Stf) (d : Int32) : Int32 := if isStf d = true then v.2 (d).toNatClampNeg else 0
def sHas (v : Stf) (d b : Int32) : Bool := if isStf d = true then (if b < 0 then false else if v.2 (d).toNatClampNeg ≤ b then false else true) else false
def sAt (v : Stf) (d b : Int32) : Int32 := if sHas v d b = true then v.1 (d * 10 + b).toNatClampNeg else -9
def sRep (v : Stf) (d b k : Int32) : Stf := if sHas v d b = true then (upd v.1 (d * 10 + b).toNatClampNeg k, v.2) else v
def sSet (v : Stf) (d n : Int32) : Stf := if isStf d = true then (if n < 0 then v else if 10 < n then v else (v.1, upd v.2 (d).toNatClampNeg n)) else v
def StfOk (v : Stf) : Prop := ∀ d : Nat, d < 3 → 0 ≤ (v.2 d).toInt ∧ (v.2 d).toInt ≤ 10
theorem isStf_in {d : Int32} (h : isStf d = true) : 0 ≤ d.toInt ∧ d.toInt < 3 := by
  unfold isStf at h
  by_cases h1 : d < 0
  · simp [h1] at h
  · by_cases h2 : (3 : Int32) ≤ d
    · simp [h1, h2] at h
    · have a1 := i_nlt h1
      have a2 := i_nle h2
      rw [li_0] at a1
      rw [li_3] at a2
      exact ⟨a1, a2⟩
theorem clamp_lt {d : Int32} {n : Nat} (h : d.toInt < n) (hn : 0 < n) : d.toNatClampNeg < n := by
  have : d.toNatClampNeg = d.toInt.toNat := rfl
  omega
theorem sHas_in {v : Stf} {d b : Int32} (hok : StfOk v) (h : sHas v d b = true) : 0 ≤ d.toInt ∧ d.toInt < 3 ∧ 0 ≤ b.toInt ∧ b.toInt < 10 := by
  unfold sHas at h
  by_cases h0 : isStf d = true
  · rw [if_pos h0] at h
    obtain ⟨a1, a2⟩ := isStf_in h0
    by_cases h1 : b < 0
    · simp [h1] at h
    · by_cases h2 : v.2 d.toNatClampNeg ≤ b
      · simp [h1, h2] at h
      · have a3 := i_nlt h1
        have a4 := i_nle h2
        have a5 := hok d.toNatClampNeg (clamp_lt a2 (by decide))
        rw [li_0] at a3
        omega
  · rw [if_neg h0] at h
    cases h
