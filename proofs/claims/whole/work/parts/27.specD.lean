/-! the reader -/
def isDg (k : Int32) : Bool := if k < 48 then false else if 57 < k then false else true
def skB (t : Txt) : Nat → Int32 → Int32
  | 0, x => x
  | n + 1, x => if t.1 ≤ x then x else if tLetter t x = 32 then skB t n (x + 1) else x
def rTok (t : Txt) (x : Int32) : Int32 := if isDg (tLetter t x) = true then (if isDg (tLetter t (x + 1)) = true then 256 else tLetter t x) else tLetter t x
def rAdv (t : Txt) (r : Rdr) : Rdr := (skB t 101 r.1 + 1, skB t 101 r.1, rTok t (skB t 101 r.1))
def RB (r : Rdr) (K : Int) : Prop := 0 ≤ r.1.toInt ∧ r.1.toInt ≤ K
theorem RB.mono {r : Rdr} {K L : Int} (h : RB r K) (hKL : K ≤ L) : RB r L := ⟨h.1, Int.le_trans h.2 hKL⟩
theorem skB_in {t : Txt} (ht : t.1.toInt ≤ 100) {K : Int} (hK : 100 ≤ K) (n : Nat) (x : Int32) (h0 : 0 ≤ x.toInt) (h1 : x.toInt ≤ K) : 0 ≤ (skB t n x).toInt ∧ (skB t n x).toInt ≤ K := by
  induction n generalizing x with
  | zero => exact ⟨h0, h1⟩
  | succ n ih =>
    rw [skB]
    by_cases h2 : t.1 ≤ x
    · rw [if_pos h2]; exact ⟨h0, h1⟩
    · rw [if_neg h2]
      have a := i_nle h2
      by_cases h3 : tLetter t x = 32
      · rw [if_pos h3]
        have e : (x + 1).toInt = x.toInt + 1 := by rw [ti_add (by rw [li_1]; omega) (by rw [li_1]; omega), li_1]
        exact ih (x + 1) (by rw [e]; omega) (by rw [e]; omega)
      · rw [if_neg h3]; exact ⟨h0, h1⟩
theorem RB.adv {t : Txt} (ht : t.1.toInt ≤ 100) {r : Rdr} {K : Int} (h : RB r K) (hK : 100 ≤ K) (hK2 : K ≤ 1000000) : RB (rAdv t r) (K + 1) := by
  obtain ⟨a, b⟩ := skB_in ht hK 101 r.1 h.1 h.2
  have e : (skB t 101 r.1 + 1).toInt = (skB t 101 r.1).toInt + 1 := by rw [ti_add (by rw [li_1]; omega) (by rw [li_1]; omega), li_1]
  show 0 ≤ (skB t 101 r.1 + 1).toInt ∧ (skB t 101 r.1 + 1).toInt ≤ K + 1
  rw [e]
  omega
def rNum (t : Txt) (r : Rdr) (lo hi : Int32) : Int32 := if isDg (rAdv t r).2.2 = true then (if (rAdv t r).2.2 - 48 < lo then -9 else if hi < (rAdv t r).2.2 - 48 then -9 else (rAdv t r).2.2 - 48) else -9
def fsOf (k : Int32) : Int32 := if k = 106 then 18 else if k = 108 then 2 else if k = 114 then 10 else if k = 116 then 26 else -9
def rLo (f : Int32) : Int32 := if f = 26 then 1 else 0
def rSgn (t : Txt) (r : Rdr) : Int32 := if r.2.2 = 46 then 0 else if r.2.2 = 99 then 1 else if fsOf r.2.2 = -9 then -9 else if rNum t r (rLo (fsOf r.2.2)) 7 = -9 then -9 else fsOf r.2.2 + rNum t r (rLo (fsOf r.2.2)) 7 - rLo (fsOf r.2.2)
def rSgS (t : Txt) (r : Rdr) : Rdr := if r.2.2 = 46 then r else if r.2.2 = 99 then r else if fsOf r.2.2 = -9 then r else rAdv t r
theorem RB.sgn {t : Txt} (ht : t.1.toInt ≤ 100) {r : Rdr} {K : Int} (h : RB r K) (hK : 100 ≤ K) (hK2 : K ≤ 1000000) : RB (rSgS t r) (K + 1) := by
  unfold rSgS
  by_cases h1 : r.2.2 = 46
  · rw [if_pos h1]; exact h.mono (by omega)
  · rw [if_neg h1]
    by_cases h2 : r.2.2 = 99
    · rw [if_pos h2]; exact h.mono (by omega)
    · rw [if_neg h2]
      by_cases h3 : fsOf r.2.2 = -9
      · rw [if_pos h3]; exact h.mono (by omega)
      · rw [if_neg h3]; exact h.adv ht hK hK2
def tpSt (p : Trp) (v : Stf) : Trp := (p.1, p.2.1, p.2.2.1, p.2.2.2.1, v)
def itL (t : Txt) (d : Int32) : Nat → Rdr → Trp → Bool × Rdr × Trp
  | 0, r, p => if r.2.2 = 59 then (true, r, p) else (false, r, p)
  | n + 1, r, p => if r.2.2 = 59 then (true, r, p) else if rSgn t r = -9 then (false, rSgS t r, p) else itL t d n (rAdv t (rSgS t r)) (tpSt p (sAdd p.2.2.2.2 d (rSgn t r)))
def itm (t : Txt) (r : Rdr) (p : Trp) : Bool × Rdr × Trp := if r.2.2 = 100 then (if rNum t r 0 6 = -9 then (false, rAdv t r, p) else if rNum t (rAdv t r) 0 6 = -9 then (false, rAdv t (rAdv t r), p) else if rNum t (rAdv t (rAdv t r)) 0 7 = -9 then (false, rAdv t (rAdv t (rAdv t r)), p) else itL t p.2.2.2.1 10 (rAdv t (rAdv t (rAdv t (rAdv t r)))) (tpAdd p (rNum t r 0 6) (rNum t (rAdv t r) 0 6) (rNum t (rAdv t (rAdv t r)) 0 7))) else (false, r, p)
def TrpOk (p : Trp) : Prop := 0 ≤ p.2.2.2.1.toInt ∧ p.2.2.2.1.toInt ≤ 3 ∧ StfOk p.2.2.2.2
theorem sAdd_ok {v : Stf} (hok : StfOk v) (d k : Int32) : StfOk (sAdd v d k) := by
  unfold sAdd
  by_cases h1 : isStf d = true
  · rw [if_pos h1]
    by_cases h2 : v.2 (d).toNatClampNeg < 10
    · rw [if_pos h2]
      have a := i_lt h2
      rw [li_10] at a
      obtain ⟨b1, b2⟩ := isStf_in h1
      exact StfOk_2 (sRep_2 _ _ _ _) (StfOk_inc hok a b1 b2)
    · rw [if_neg h2]; exact hok
  · rw [if_neg h1]; exact hok
theorem tpAdd_ok {p : Trp} (h : TrpOk p) (x y l : Int32) : TrpOk (tpAdd p x y l) := by
  unfold tpAdd
  by_cases h1 : p.2.2.2.1 < 3
  · rw [if_pos h1]
    have a := i_lt h1
    rw [li_3] at a
    have e : (p.2.2.2.1 + 1).toInt = p.2.2.2.1.toInt + 1 := by
      have := h.1
      rw [ti_add (by rw [li_1]; omega) (by rw [li_1]; omega), li_1]
    refine ⟨?_, ?_, h.2.2⟩
    · show 0 ≤ (p.2.2.2.1 + 1).toInt
      have := h.1
      rw [e]; omega
    · show (p.2.2.2.1 + 1).toInt ≤ 3
      rw [e]; omega
  · rw [if_neg h1]; exact h
theorem itL_ok {t : Txt} (ht : t.1.toInt ≤ 100) (d : Int32) (n : Nat) : ∀ (r : Rdr) (p : Trp) (K : Int), TrpOk p → RB r K → 100 ≤ K → K + 2 * n ≤ 1000000 → TrpOk (itL t d n r p).2.2 ∧ RB (itL t d n r p).2.1 (K + 2 * n + 1) := by
  induction n with
  | zero =>
    intro r p K h1 h2 h3 h4
    rw [itL]
    by_cases h : r.2.2 = 59
    · rw [if_pos h]; exact ⟨h1, h2.mono (by omega)⟩
    · rw [if_neg h]; exact ⟨h1, h2.mono (by omega)⟩
  | succ n ih =>
    intro r p K h1 h2 h3 h4
    rw [itL]
    by_cases h : r.2.2 = 59
    · rw [if_pos h]; exact ⟨h1, h2.mono (by omega)⟩
    · rw [if_neg h]
      by_cases hh : rSgn t r = -9
      · rw [if_pos hh]
        exact ⟨h1, (h2.sgn ht h3 (by omega)).mono (by omega)⟩
      · rw [if_neg hh]
        have b := ((h2.sgn ht h3 (by omega)).adv ht (by omega) (by omega))
        obtain ⟨q1, q2⟩ := ih (rAdv t (rSgS t r)) (tpSt p (sAdd p.2.2.2.2 d (rSgn t r))) (K + 1 + 1) ⟨h1.1, h1.2.1, sAdd_ok h1.2.2 _ _⟩ b (by omega) (by omega)
        exact ⟨q1, q2.mono (by omega)⟩
theorem itm_ok {t : Txt} (ht : t.1.toInt ≤ 100) {r : Rdr} {p : Trp} {K : Int} (h1 : TrpOk p) (h2 : RB r K) (h3 : 100 ≤ K) (h4 : K ≤ 900000) : TrpOk (itm t r p).2.2 ∧ RB (itm t r p).2.1 (K + 25) := by
  have b1 := h2.adv ht h3 (by omega)
  have b2 := b1.adv ht (by omega) (by omega)
  have b3 := b2.adv ht (by omega) (by omega)
  have b4 := b3.adv ht (by omega) (by omega)
  unfold itm
  by_cases c0 : r.2.2 = 100
  · rw [if_pos c0]
    by_cases c1 : rNum t r 0 6 = -9
    · rw [if_pos c1]; exact ⟨h1, b1.mono (by omega)⟩
    · rw [if_neg c1]
      by_cases c2 : rNum t (rAdv t r) 0 6 = -9
      · rw [if_pos c2]; exact ⟨h1, b2.mono (by omega)⟩
      · rw [if_neg c2]
        by_cases c3 : rNum t (rAdv t (rAdv t r)) 0 7 = -9
        · rw [if_pos c3]; exact ⟨h1, b3.mono (by omega)⟩
        · rw [if_neg c3]
          obtain ⟨q1, q2⟩ := itL_ok ht p.2.2.2.1 10 _ _ _ (tpAdd_ok h1 (rNum t r 0 6) (rNum t (rAdv t r) 0 6) (rNum t (rAdv t (rAdv t r)) 0 7)) b4 (by omega) (by omega)
          exact ⟨q1, q2.mono (by omega)⟩
  · rw [if_neg c0]; exact ⟨h1, h2.mono (by omega)⟩
def rdF (r : Rdr) (p : Trp) : Int32 := if r.2.2 = -9 then p.2.2.2.1 else -10 - r.2.1
def rdL (t : Txt) : Nat → Rdr → Trp → Int32 × Rdr × Trp
  | 0, r, p => (rdF r p, r, p)
  | n + 1, r, p => if r.2.2 = -9 then (rdF r p, r, p) else if (itm t r p).1 = true then rdL t n (rAdv t (itm t r p).2.1) (itm t r p).2.2 else (-10 - (itm t r p).2.1.2.1, (itm t r p).2.1, (itm t r p).2.2)
def tpEmp (p : Trp) : Trp := (p.1, p.2.1, p.2.2.1, 0, (p.2.2.2.2.1, zeroL p.2.2.2.2.2 3))
theorem tpEmp_ok (p : Trp) : TrpOk (tpEmp p) := by
  refine ⟨by show 0 ≤ (0 : Int32).toInt; decide, by show (0 : Int32).toInt ≤ 3; decide, ?_⟩
  intro d hd
  have e : zeroL p.2.2.2.2.2 3 d = 0 := by
    rcases (show d = 0 ∨ d = 1 ∨ d = 2 by omega) with rfl | rfl | rfl <;> rfl
  show 0 ≤ (zeroL p.2.2.2.2.2 3 d).toInt ∧ (zeroL p.2.2.2.2.2 3 d).toInt ≤ 10
  rw [e]
  decide
def rdT (t : Txt) (r : Rdr) (p : Trp) : Int32 × Rdr × Trp := rdL t 3 (rAdv t (0, r.2.1, r.2.2)) (tpEmp p)
