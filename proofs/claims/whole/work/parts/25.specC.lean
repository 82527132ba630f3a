/-! loops of the small classes: what stands behind i rounds, as a function of i -/
theorem clampT {x : Int32} (h : 0 ≤ x.toInt) : (x.toNatClampNeg : Int) = x.toInt := by
  have : x.toNatClampNeg = x.toInt.toNat := rfl
  omega
theorem nIT {n : Nat} (h : n < 2147483648) : (nI n).toInt = (n : Int) := nI_toInt h
theorem sRep_2 (v : Stf) (d b k : Int32) : (sRep v d b k).2 = v.2 := by
  unfold sRep; split <;> rfl
theorem StfOk_2 {v w : Stf} (e : w.2 = v.2) (h : StfOk v) : StfOk w := fun d hd => by rw [e]; exact h d hd
theorem sLen_2 {v w : Stf} (e : w.2 = v.2) (d : Int32) : sLen w d = sLen v d := by unfold sLen; rw [e]
theorem sLen_in {v : Stf} (h : StfOk v) (d : Int32) : 0 ≤ (sLen v d).toInt ∧ (sLen v d).toInt ≤ 10 := by
  unfold sLen
  by_cases h0 : isStf d = true
  · rw [if_pos h0]
    obtain ⟨a1, a2⟩ := isStf_in h0
    exact h _ (clamp_lt a2 (by decide))
  · rw [if_neg h0, li_0]
    omega
theorem StfOk_inc {v : Stf} {d : Int32} (hok : StfOk v) (h : (v.2 (d).toNatClampNeg).toInt < 10) (h0 : 0 ≤ d.toInt) (h3 : d.toInt < 3) : StfOk (v.1, upd v.2 (d).toNatClampNeg (v.2 (d).toNatClampNeg + 1)) := by
  intro j hj
  have a := hok j hj
  have b := hok d.toNatClampNeg (clamp_lt h3 (by decide))
  show 0 ≤ (upd v.2 d.toNatClampNeg (v.2 d.toNatClampNeg + 1) j).toInt ∧ (upd v.2 d.toNatClampNeg (v.2 d.toNatClampNeg + 1) j).toInt ≤ 10
  unfold upd
  by_cases e : j = d.toNatClampNeg
  · rw [if_pos e, ti_add (by rw [li_1]; omega) (by rw [li_1]; omega), li_1]
    omega
  · rw [if_neg e]
    exact a
theorem sSet_ok {v : Stf} (hok : StfOk v) (d n : Int32) : StfOk (sSet v d n) := by
  unfold sSet
  by_cases h0 : isStf d = true
  · rw [if_pos h0]
    by_cases h1 : n < 0
    · rw [if_pos h1]; exact hok
    · rw [if_neg h1]
      by_cases h2 : (10 : Int32) < n
      · rw [if_pos h2]; exact hok
      · rw [if_neg h2]
        have a1 := i_nlt h1
        have a2 := i_nlt h2
        rw [li_0] at a1
        rw [li_10] at a2
        intro j hj
        show 0 ≤ (upd v.2 d.toNatClampNeg n j).toInt ∧ (upd v.2 d.toNatClampNeg n j).toInt ≤ 10
        unfold upd
        by_cases e : j = d.toNatClampNeg
        · rw [if_pos e]; omega
        · rw [if_neg e]; exact hok j hj
  · rw [if_neg h0]; exact hok
def sAdd (v : Stf) (d k : Int32) : Stf := if isStf d = true then (if v.2 (d).toNatClampNeg < 10 then sRep (v.1, upd v.2 (d).toNatClampNeg (v.2 (d).toNatClampNeg + 1)) d ((upd v.2 (d).toNatClampNeg (v.2 (d).toNatClampNeg + 1)) (d).toNatClampNeg - 1) k else v) else v
def mir (k : Int32) : Int32 := if 2 ≤ k then (if k < 26 then (if 10 ≤ k then (if 18 ≤ k then 18 + (8 - dirOf k - (8 - dirOf k) / 8 * 8) else 2 + (8 - dirOf k - (8 - dirOf k) / 8 * 8)) else 10 + (8 - dirOf k - (8 - dirOf k) / 8 * 8)) else 58 - k) else k
def mirL (v : Stf) (d : Int32) : Nat → Stf
  | 0 => v
  | n + 1 => sRep (mirL v d n) d (nI n) (mir (sAt (mirL v d n) d (nI n)))
theorem mirL_2 (v : Stf) (d : Int32) (n : Nat) : (mirL v d n).2 = v.2 := by
  induction n with
  | zero => rfl
  | succ n ih => rw [mirL, sRep_2, ih]
def canL (v : Stf) (d o r : Int32) : Nat → Stf
  | 0 => v
  | n + 1 => sRep (canL v d o r n) d (nI n) (if r ≤ nI n then sAt (canL v d o r n) o (nI n - r) else 0)
theorem canL_2 (v : Stf) (d o r : Int32) (n : Nat) : (canL v d o r n).2 = v.2 := by
  induction n with
  | zero => rfl
  | succ n ih => rw [canL, sRep_2, ih]
def canon (v : Stf) (d o r : Int32) : Stf := canL (sSet v d (mn 10 (r + sLen v o))) d o r (sLen (sSet v d (mn 10 (r + sLen v o))) d).toNatClampNeg
def cpI (v w : Stf) (d : Int32) : Nat → Stf
  | 0 => v
  | n + 1 => sRep (cpI v w d n) d (nI n) (sAt w d (nI n))
theorem cpI_2 (v w : Stf) (d : Int32) (n : Nat) : (cpI v w d n).2 = v.2 := by
  induction n with
  | zero => rfl
  | succ n ih => rw [cpI, sRep_2, ih]
def cpO (v w : Stf) : Nat → Stf
  | 0 => v
  | n + 1 => cpI (sSet (cpO v w n) (nI n) (sLen w (nI n))) w (nI n) (sLen (sSet (cpO v w n) (nI n) (sLen w (nI n))) (nI n)).toNatClampNeg
theorem cpO_ok {v : Stf} (hok : StfOk v) (w : Stf) (n : Nat) : StfOk (cpO v w n) := by
  induction n with
  | zero => exact hok
  | succ n ih => rw [cpO]; exact StfOk_2 (cpI_2 _ _ _ _) (sSet_ok ih _ _)
/-- the rest by a small number of a number that isn't below 0 -/
theorem rm_eq {x : Int32} (h : 0 ≤ x.toInt) (k : Nat) (h0 : 0 < k) (hk : k < 2 ^ 31) : x - x / nI k * nI k = nI (x.toInt.toNat % k) := by
  obtain ⟨j, hj, rfl⟩ := nI_of (x := x) (fun q => by have := i_lt q; rw [li_0] at this; omega)
  rw [pk_rem hj h0 hk, nIT (by omega)]
  rfl
theorem rm_in {x : Int32} (h : 0 ≤ x.toInt) (k : Nat) (h0 : 0 < k) (hk : k < 2 ^ 31) : 0 ≤ (x - x / nI k * nI k).toInt ∧ (x - x / nI k * nI k).toInt < k := by
  have hm : x.toInt.toNat % k < k := Nat.mod_lt _ h0
  rw [rm_eq h k h0 hk, nIT (by omega)]
  omega
theorem rm10 {x : Int32} (h : 0 ≤ x.toInt) : 0 ≤ (x - x / 10 * 10).toInt ∧ (x - x / 10 * 10).toInt < 10 := rm_in h 10 (by decide) (by decide)
def HisOk (v : His) : Prop := 0 ≤ v.2.2.2.1.toInt ∧ v.2.2.2.1.toInt < 10 ∧ 0 ≤ v.2.2.2.2.toInt ∧ v.2.2.2.2.toInt ≤ 10
def hSlot (v : His) : Int32 := v.2.2.2.1 + v.2.2.2.2 - (v.2.2.2.1 + v.2.2.2.2) / 10 * 10
theorem hSlot_in {v : His} (h : HisOk v) : 0 ≤ (hSlot v).toInt ∧ (hSlot v).toInt < 10 := by
  obtain ⟨a, b, c, d⟩ := h
  exact rm10 (by rw [ti_add (by omega) (by omega)]; omega)
def remL (f : Fn) (sl : Int32) (w : Stf) (d : Int32) : Nat → Fn
  | 0 => f
  | n + 1 => upd (remL f sl w d n) (sl * 10 + nI n).toNatClampNeg (sAt w d (nI n))
def hOld (v : His) : Int32 := if 10 ≤ v.2.2.2.2 then v.2.2.2.1 + 1 - (v.2.2.2.1 + 1) / 10 * 10 else v.2.2.2.1
def hSz (v : His) : Int32 := if 10 ≤ v.2.2.2.2 then v.2.2.2.2 else v.2.2.2.2 + 1
def hRem (v : His) (w : Stf) (d : Int32) : His := (remL v.1 (hSlot v) w d 10, upd v.2.1 (hSlot v).toNatClampNeg (sLen w d), upd v.2.2.1 (hSlot v).toNatClampNeg d, hOld v, hSz v)
def revL (w : Stf) (f : Fn) (sl d : Int32) : Nat → Stf
  | 0 => w
  | n + 1 => sRep (revL w f sl d n) d (nI n) (f (sl * 10 + nI n).toNatClampNeg)
theorem revL_2 (w : Stf) (f : Fn) (sl d : Int32) (n : Nat) : (revL w f sl d n).2 = w.2 := by
  induction n with
  | zero => rfl
  | succ n ih => rw [revL, sRep_2, ih]
/-- the history with its latest taken off -/
def hPop (v : His) : His := (v.1, v.2.1, v.2.2.1, v.2.2.2.1, v.2.2.2.2 - 1)
def hBack (v : His) (w : Stf) : Stf := if v.2.2.2.2 = 0 then w else revL (sSet w (v.2.2.1 (hSlot (hPop v)).toNatClampNeg) (v.2.1 (hSlot (hPop v)).toNatClampNeg)) v.1 (hSlot (hPop v)) (v.2.2.1 (hSlot (hPop v)).toNatClampNeg) 10
def hPopd (v : His) : His := if v.2.2.2.2 = 0 then v else hPop v
def agL (v : Sgt) (k : Crs) : Nat → Nat → Bool
  | 0, _ => true
  | n + 1, i => if cAt k (v.1 (nI i).toNatClampNeg) (v.2.1 (nI i).toNatClampNeg) (v.2.2.1 (nI i).toNatClampNeg) = true then agL v k n (i + 1) else false
def agr (v : Sgt) (k : Crs) : Bool := agL v k (v.2.2.2).toNatClampNeg 0
def fTake (k : Crs) (sg : Int32) (i : Nat) : Crs := if tkB k.2.2.2.2.2 sg = true then (k.1, k.2.1, k.2.2.1, k.2.2.2.1, k.2.2.2.2.1, tkS k.2.2.2.2.2 sg) else (k.1, k.2.1, k.2.2.1, k.2.2.2.1, nI i, tkS k.2.2.2.2.2 sg)
def fMid (t : Trp) (d rb : Int32) (k : Crs) (i : Nat) : Crs := if sAt t.2.2.2.2 d (nI i) = -9 then k else if nI i = rb then k else if k.2.2.2.2.1 = -9 then fTake k (sAt t.2.2.2.2 d (nI i)) i else k
def folL (t : Trp) (d rb : Int32) (k : Crs) : Nat → Crs
  | 0 => k
  | n + 1 => cNote (fMid t d rb (folL t d rb k n) n) (nI n + 1)
def fol (t : Trp) (d rb : Int32) (k : Crs) : Crs := folL t d rb (cNote (k.1, k.2.1, k.2.2.1, k.2.2.2.1, -9, tpBeg t k.2.2.2.2.2 d) 0) 10
def spL (k : Crs) : Nat → Int64
  | 0 => 0
  | n + 1 => spL k n ||| cBit k (nI n)
def shL (k : Crs) : Nat → Int32
  | 0 => 0
  | n + 1 => if k.2.2.2.1 (nI (n + 1)).toNatClampNeg = k.2.2.2.1 (nI (n + 1) - 1).toNatClampNeg then shL k n else shL k n + 1
/-- whether it has been elsewhere ahead of n + 1 -/
def awL (k : Crs) : Nat → Int32
  | 0 => 0
  | n + 1 => awL k n ||| (if cAt k (nI (n + 1)) (k.1 (0 : Int32).toNatClampNeg) (k.2.1 (0 : Int32).toNatClampNeg) = true then 0 else 1)
def hoL (k : Crs) : Nat → Nat → Int32
  | 0, _ => -9
  | n + 1, j => if cAt k (nI (j + 1)) (k.1 (0 : Int32).toNatClampNeg) (k.2.1 (0 : Int32).toNatClampNeg) = true then (if awL k j = 0 then hoL k n (j + 1) else nI (j + 1)) else hoL k n (j + 1)
def hom (k : Crs) : Int32 := hoL k 10 0
def uS (x : Int32) (k : Int32) : Int32 := (x.toUInt32 >>> (k.toUInt32 &&& Int32.toUInt32 31)).toInt32
def uL (x : Int64) (k : Int32) : Int64 := (x.toUInt64 >>> (k.toInt64.toUInt64 &&& Int64.toUInt64 63)).toInt64
def bc1 (x : Int32) : Int32 := x - (uS x 1 &&& 1431655765)
def bc2 (x : Int32) : Int32 := (x &&& 858993459) + (uS x 2 &&& 858993459)
def bc3 (x : Int32) : Int32 := (x + uS x 4) &&& 252645135
def bcI (x : Int32) : Int32 := (((bc3 (bc2 (bc1 x))) + uS (bc3 (bc2 (bc1 x))) 8) + uS ((bc3 (bc2 (bc1 x))) + uS (bc3 (bc2 (bc1 x))) 8) 16) &&& 63
def bl1 (x : Int64) : Int64 := x - (uL x 1 &&& 6148914691236517205)
def bl2 (x : Int64) : Int64 := (x &&& 3689348814741910323) + (uL x 2 &&& 3689348814741910323)
def bl3 (x : Int64) : Int64 := (x + uL x 4) &&& 1085102592571150095
def bl4 (x : Int64) : Int64 := bl3 (bl2 (bl1 x)) + uL (bl3 (bl2 (bl1 x))) 8
def bl5 (x : Int64) : Int64 := bl4 x + uL (bl4 x) 16
def bl6 (x : Int64) : Int64 := bl5 x + uL (bl5 x) 32
def bcL (x : Int64) : Int32 := (bl6 x).toInt32 &&& 127
