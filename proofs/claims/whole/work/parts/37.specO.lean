/-! the reference's reader -/
abbrev PS : Type := Int32 × Int32 × Int32 × Int32 × Int32
theorem skP_in (n : Int32) (f : Fn) (hn : n.toInt ≤ 100) (g : Nat) (x : Int32) (h0 : 0 ≤ x.toInt) (h1 : x.toInt ≤ n.toInt) : 0 ≤ (skP n f g x).toInt ∧ (skP n f g x).toInt ≤ n.toInt := by
  induction g generalizing x with
  | zero => exact ⟨h0, h1⟩
  | succ g ih =>
    rw [skP]
    by_cases h2 : n ≤ x
    · rw [if_pos h2]; exact ⟨h0, h1⟩
    · rw [if_neg h2]
      have a := i_nle h2
      by_cases h3 : f (x).toNatClampNeg = 32
      · rw [if_pos h3]
        have e : (x + 1).toInt = x.toInt + 1 := by rw [ti_add (by rw [li_1]; omega) (by rw [li_1]; omega), li_1]
        exact ih (x + 1) (by rw [e]; omega) (by rw [e]; omega)
      · rw [if_neg h3]; exact ⟨h0, h1⟩
theorem yBl_in {n : Int32} (f : Fn) (hn : n.toInt ≤ 100) {x : Int32} (h0 : 0 ≤ x.toInt) (h1 : x.toInt ≤ n.toInt) : 0 ≤ (yBl n f x).toInt ∧ (yBl n f x).toInt ≤ n.toInt := skP_in n f hn 101 x h0 h1
theorem yFig_lt {n : Int32} {f : Fn} {x : Int32} (h : yFig n f x = true) : x.toInt < n.toInt := by
  unfold yFig at h
  by_cases h1 : n ≤ x
  · simp [h1] at h
  · exact i_nle h1
theorem dgP_in (n : Int32) (f : Fn) (hn : n.toInt ≤ 100) (g : Nat) (x : Int32) (h0 : 0 ≤ x.toInt) (h1 : x.toInt ≤ n.toInt) : 0 ≤ (dgP n f g x).toInt ∧ (dgP n f g x).toInt ≤ n.toInt := by
  induction g generalizing x with
  | zero => exact ⟨h0, h1⟩
  | succ g ih =>
    rw [dgP]
    by_cases h2 : yFig n f x = true
    · rw [if_pos h2]
      have a := yFig_lt h2
      have e : (x + 1).toInt = x.toInt + 1 := by rw [ti_add (by rw [li_1]; omega) (by rw [li_1]; omega), li_1]
      exact ih (x + 1) (by rw [e]; omega) (by rw [e]; omega)
    · rw [if_neg h2]; exact ⟨h0, h1⟩
def pNext (n : Int32) (f : Fn) (s : PS) : PS := if yBl n f s.1 = n then (yBl n f s.1, yBl n f s.1, -1, s.2.2.2.1, s.2.2.2.2) else if yFig n f (yBl n f s.1) = true then (yDg n f (yBl n f s.1), yBl n f s.1, (if yDg n f (yBl n f s.1) - yBl n f s.1 ≤ 1 then 0 else -2), f (yBl n f s.1).toNatClampNeg - 48, s.2.2.2.2) else (yBl n f s.1 + 1, yBl n f s.1, (if isTok (f (yBl n f s.1).toNatClampNeg) = true then f (yBl n f s.1).toNatClampNeg else -2), s.2.2.2.1, s.2.2.2.2)
def PsOk (n : Int32) (s : PS) : Prop := 0 ≤ s.1.toInt ∧ s.1.toInt ≤ n.toInt
theorem pNext_ok {n : Int32} (f : Fn) (hn : n.toInt ≤ 100) {s : PS} (h : PsOk n s) : PsOk n (pNext n f s) := by
  obtain ⟨a, b⟩ := yBl_in f hn h.1 h.2
  unfold pNext
  by_cases h1 : yBl n f s.1 = n
  · rw [if_pos h1]; exact ⟨a, b⟩
  · rw [if_neg h1]
    by_cases h2 : yFig n f (yBl n f s.1) = true
    · rw [if_pos h2]; exact dgP_in n f hn 101 _ a b
    · rw [if_neg h2]
      have c := i_ne h1
      have e : (yBl n f s.1 + 1).toInt = (yBl n f s.1).toInt + 1 := by rw [ti_add (by rw [li_1]; omega) (by rw [li_1]; omega), li_1]
      show 0 ≤ (yBl n f s.1 + 1).toInt ∧ (yBl n f s.1 + 1).toInt ≤ n.toInt
      rw [e]; omega
def pFail (s : PS) : PS := (s.1, s.2.1, s.2.2.1, s.2.2.2.1, s.2.1)
def pNumB (n : Int32) (f : Fn) (lo hi : Int32) (s : PS) : Bool := if (pNext n f s).2.2.1 = 0 then inR (pNext n f s).2.2.2.1 lo hi else false
def pNumS (n : Int32) (f : Fn) (lo hi : Int32) (s : PS) : PS := if pNumB n f lo hi s = true then pNext n f s else pFail (pNext n f s)
theorem pNumS_ok {n : Int32} (f : Fn) (hn : n.toInt ≤ 100) (lo hi : Int32) {s : PS} (h : PsOk n s) : PsOk n (pNumS n f lo hi s) := by
  unfold pNumS
  split
  · exact pNext_ok f hn h
  · exact pNext_ok f hn h
def sgOf (k : Int32) : Int32 := if k = 46 then 0 else if k = 99 then 1 else if k = 108 then 2 else if k = 114 then 10 else if k = 106 then 18 else if k = 116 then 26 else -9
def rsB (n : Int32) (f F : Fn) (rm k : Int32) (s : PS) : Bool := if F (11 * rm).toNatClampNeg = 10 then false else if sgOf k = -9 then false else if sgOf k ≤ 1 then true else pNumB n f (rLo (sgOf k)) 7 s
def rsG (n : Int32) (f : Fn) (k : Int32) (s : PS) : Int32 := if sgOf k ≤ 1 then sgOf k else if sgOf k = 26 then sgOf k + ((pNumS n f 1 7 s).2.2.2.1 - 1) else sgOf k + (pNumS n f 0 7 s).2.2.2.1
def rsS (n : Int32) (f F : Fn) (rm k : Int32) (s : PS) : PS := if F (11 * rm).toNatClampNeg = 10 then pFail s else if sgOf k = -9 then pFail s else if sgOf k ≤ 1 then s else pNumS n f (rLo (sgOf k)) 7 s
def rsF (n : Int32) (f F : Fn) (rm k : Int32) (s : PS) : Fn := if rsB n f F rm k s = true then upd (upd F (11 * rm).toNatClampNeg (F (11 * rm).toNatClampNeg + 1)) (11 * rm + upd F (11 * rm).toNatClampNeg (F (11 * rm).toNatClampNeg + 1) (11 * rm).toNatClampNeg).toNatClampNeg (rsG n f k s) else F
theorem inAdd {F : Fn} {d : Int32} (h0 : 0 ≤ d.toInt) (h3 : d.toInt < 3) (hF : 0 ≤ (F (11 * d).toNatClampNeg).toInt) (hF9 : (F (11 * d).toNatClampNeg).toInt < 10) : vp_in (11 * d + upd F (11 * d).toNatClampNeg (F (11 * d).toNatClampNeg + 1) (11 * d).toNatClampNeg) 33 := by
  have e1 := i11 h0 h3
  have e2 : (upd F (11 * d).toNatClampNeg (F (11 * d).toNatClampNeg + 1) (11 * d).toNatClampNeg).toInt = (F (11 * d).toNatClampNeg).toInt + 1 := by rw [upd, if_pos rfl, ti_add (by rw [li_1]; omega) (by rw [li_1]; omega), li_1]
  have e3 := ti_add (a := 11 * d) (b := upd F (11 * d).toNatClampNeg (F (11 * d).toNatClampNeg + 1) (11 * d).toNatClampNeg) (by rw [e1, e2]; omega) (by rw [e1, e2]; omega)
  exact vi_mk (by rw [e3, e1, e2]; omega) (by rw [e3, e1, e2]; omega)
