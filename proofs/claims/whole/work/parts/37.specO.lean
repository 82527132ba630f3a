/-! the reference's reader -/
abbrev PS : Type := Int32 × Int32 × Int32 × Int32 × Int32
theorem skP_in (n : Int32) (f : Fn) (hn : n.toInt ≤ 100) (g : Nat) (x : Int32) (h0 : 0 ≤ x.toInt) (h1 : x.toInt ≤ n.toInt) : 0 ≤ (skP n f g x).toInt ∧ (skP n f g x).toInt ≤ n.toInt := by
  induction g generalizing x with
  | zero => exact ⟨h0, h1⟩
  | succ g ih =>
    rw [skP]
    by_cases h2 : n ≤ x
    · rw [if_pos h2]; exact ⟨h0, h1⟩
    · rw [if_neg h2]
      have a := i_nle h2
      by_cases h3 : f (x).toNatClampNeg = 32
      · rw [if_pos h3]
        have e : (x + 1).toInt = x.toInt + 1 := by rw [ti_add (by rw [li_1]; omega) (by rw [li_1]; omega), li_1]
        exact ih (x + 1) (by rw [e]; omega) (by rw [e]; omega)
      · rw [if_neg h3]; exact ⟨h0, h1⟩
theorem yBl_in {n : Int32} (f : Fn) (hn : n.toInt ≤ 100) {x : Int32} (h0 : 0 ≤ x.toInt) (h1 : x.toInt ≤ n.toInt) : 0 ≤ (yBl n f x).toInt ∧ (yBl n f x).toInt ≤ n.toInt := skP_in n f hn 101 x h0 h1
theorem yFig_lt {n : Int32} {f : Fn} {x : Int32} (h : yFig n f x = true) : x.toInt < n.toInt := by
  unfold yFig at h
  by_cases h1 : n ≤ x
  · simp [h1] at h
  · exact i_nle h1
theorem dgP_in (n : Int32) (f : Fn) (hn : n.toInt ≤ 100) (g : Nat) (x : Int32) (h0 : 0 ≤ x.toInt) (h1 : x.toInt ≤ n.toInt) : 0 ≤ (dgP n f g x).toInt ∧ (dgP n f g x).toInt ≤ n.toInt := by
  induction g generalizing x with
  | zero => exact ⟨h0, h1⟩
  | succ g ih =>
    rw [dgP]
    by_cases h2 : yFig n f x = true
    · rw [if_pos h2]
      have a := yFig_lt h2
      have e : (x + 1).toInt = x.toInt + 1 := by rw [ti_add (by rw [li_1]; omega) (by rw [li_1]; omega), li_1]
      exact ih (x + 1) (by rw [e]; omega) (by rw [e]; omega)
    · rw [if_neg h2]; exact ⟨h0, h1⟩
def pNext (n : Int32) (f : Fn) (s : PS) : PS := if yBl n f s.1 = n then (yBl n f s.1, yBl n f s.1, -1, s.2.2.2.1, s.2.2.2.2) else if yFig n f (yBl n f s.1) = true then (yDg n f (yBl n f s.1), yBl n f s.1, (if yDg n f (yBl n f s.1) - yBl n f s.1 ≤ 1 then 0 else -2), f (yBl n f s.1).toNatClampNeg - 48, s.2.2.2.2) else (yBl n f s.1 + 1, yBl n f s.1, (if isTok (f (yBl n f s.1).toNatClampNeg) = true then f (yBl n f s.1).toNatClampNeg else -2), s.2.2.2.1, s.2.2.2.2)
def PsOk (n : Int32) (s : PS) : Prop := 0 ≤ s.1.toInt ∧ s.1.toInt ≤ n.toInt
theorem pNext_ok {n : Int32} (f : Fn) (hn : n.toInt ≤ 100) {s : PS} (h : PsOk n s) : PsOk n (pNext n f s) := by
  obtain ⟨a, b⟩ := yBl_in f hn h.1 h.2
  unfold pNext
  by_cases h1 : yBl n f s.1 = n
  · rw [if_pos h1]; exact ⟨a, b⟩
  · rw [if_neg h1]
    by_cases h2 : yFig n f (yBl n f s.1) = true
    · rw [if_pos h2]; exact dgP_in n f hn 101 _ a b
    · rw [if_neg h2]
      have c := i_ne h1
      have e : (yBl n f s.1 + 1).toInt = (yBl n f s.1).toInt + 1 := by rw [ti_add (by rw [li_1]; omega) (by rw [li_1]; omega), li_1]
      show 0 ≤ (yBl n f s.1 + 1).toInt ∧ (yBl n f s.1 + 1).toInt ≤ n.toInt
      rw [e]; omega
def pFail (s : PS) : PS := (s.1, s.2.1, s.2.2.1, s.2.2.2.1, s.2.1)
def pNumB (n : Int32) (f : Fn) (lo hi : Int32) (s : PS) : Bool := if (pNext n f s).2.2.1 = 0 then inR (pNext n f s).2.2.2.1 lo hi else false
def pNumS (n : Int32) (f : Fn) (lo hi : Int32) (s : PS) : PS := if pNumB n f lo hi s = true then pNext n f s else pFail (pNext n f s)
theorem pNumS_ok {n : Int32} (f : Fn) (hn : n.toInt ≤ 100) (lo hi : Int32) {s : PS} (h : PsOk n s) : PsOk n (pNumS n f lo hi s) := by
  unfold pNumS
  split
  · exact pNext_ok f hn h
  · exact pNext_ok f hn h
