/-! what the standings, courses, troupes, histories, images, sightings do -/
def dirOf (k : Int32) : Int32 := (k - 2) - (k - 2) / 8 * 8
def onFl (x y : Int32) : Bool := if x < 0 then false else if 7 ≤ x then false else if y < 0 then false else if 7 ≤ y then false else true
def isMom (n : Int32) : Bool := if n < 0 then false else if 10 < n then false else true
def isSgn (n : Int32) : Bool := if n < 0 then false else if 32 < n then false else true
theorem isMom_in {n : Int32} (h : isMom n = true) : 0 ≤ n.toInt ∧ n.toInt < 11 := by
  unfold isMom at h
  by_cases h1 : n < 0
  · simp [h1] at h
  · by_cases h2 : (10 : Int32) < n
    · simp [h1, h2] at h
    · have a1 := i_nlt h1
      have a2 := i_nlt h2
      rw [li_0] at a1
      rw [li_10] at a2
      omega
def gX (v : Stg) (b : Int32) : Int32 := v.1 + xdv ((v.2.2.1 + b) &&& 7).toNatClampNeg
def gY (v : Stg) (b : Int32) : Int32 := v.2.1 + ydv ((v.2.2.1 + b) &&& 7).toNatClampNeg
def goB (v : Stg) (b : Int32) : Bool := onFl (gX v b) (gY v b)
def goS (v : Stg) (b w : Int32) : Stg := if goB v b = true then (gX v b, gY v b, v.2.2.1, w) else v
def legOf (k : Int32) : Int32 := if 10 ≤ k then 1 else 0
def trn (l k : Int32) : Int32 := l + k - 26 + 1 - (l + k - 26 + 1) / 8 * 8
def tkB (v : Stg) (k : Int32) : Bool := if k = 0 then true else if k = 1 then true else if k < 26 then (if k < 18 then (if v.2.2.2 = legOf k then false else goB v (dirOf k)) else goB v (dirOf k)) else true
def tkS (v : Stg) (k : Int32) : Stg := if k = 0 then v else if k = 1 then (v.1, v.2.1, v.2.2.1, 2) else if k < 26 then (if k < 18 then (if v.2.2.2 = legOf k then v else goS v (dirOf k) (legOf k)) else goS v (dirOf k) 2) else (v.1, v.2.1, trn v.2.2.1 k, v.2.2.2)
def ab (x : Int32) : Int32 := if 0 ≤ x then x else 0 - x
def mx (x y : Int32) : Int32 := if x < y then y else x
def mn (x y : Int32) : Int32 := if y < x then y else x
def sgTo (v : Stg) (x y l : Int32) : Int32 := if l = v.2.2.1 then mx (ab (x - v.1)) (ab (y - v.2.1)) else mx (ab (x - v.1)) (ab (y - v.2.1)) + 1
def tpAdd (t : Trp) (x y l : Int32) : Trp := if t.2.2.2.1 < 3 then (upd t.1 (t.2.2.2.1).toNatClampNeg x, upd t.2.1 (t.2.2.2.1).toNatClampNeg y, upd t.2.2.1 (t.2.2.2.1).toNatClampNeg l, t.2.2.2.1 + 1, t.2.2.2.2) else t
def tpBeg (t : Trp) (g : Stg) (d : Int32) : Stg := if d < 0 then g else if d < t.2.2.2.1 then (t.1 (d).toNatClampNeg, t.2.1 (d).toNatClampNeg, t.2.2.1 (d).toNatClampNeg, 2) else g
def zeroL (f : Fn) : Nat → Fn
  | 0 => f
  | n + 1 => upd (zeroL f n) (nI n).toNatClampNeg 0
def cNote (c : Crs) (n : Int32) : Crs := if isMom n = true then (upd c.1 (n).toNatClampNeg c.2.2.2.2.2.1, upd c.2.1 (n).toNatClampNeg c.2.2.2.2.2.2.1, upd c.2.2.1 (n).toNatClampNeg c.2.2.2.2.2.2.2.1, upd c.2.2.2.1 (n).toNatClampNeg c.2.2.2.2.2.2.2.2, c.2.2.2.2) else c
def cBring (c : Crs) (g : Stg) (n : Int32) : Stg := if isMom n = true then (c.1 (n).toNatClampNeg, c.2.1 (n).toNatClampNeg, c.2.2.1 (n).toNatClampNeg, c.2.2.2.1 (n).toNatClampNeg) else g
def cAt (c : Crs) (n x y : Int32) : Bool := if isMom n = true then (if c.1 (n).toNatClampNeg = x then (if c.2.1 (n).toNatClampNeg = y then true else false) else false) else false
def cBit (c : Crs) (n : Int32) : Int64 := if isMom n = true then (1 : Int64) <<< ((c.2.1 (n).toNatClampNeg * 7 + c.1 (n).toNatClampNeg).toInt64 &&& 63) else 0
def cMeet (c o : Crs) (n : Int32) : Bool := if isMom n = true then (if cAt o n (c.1 (n).toNatClampNeg) (c.2.1 (n).toNatClampNeg) = true then true else false) else false
def cCross (c o : Crs) (n : Int32) : Bool := if n < 1 then false else if 10 < n then false else if cMeet c o (n - 1) = true then false else if c.1 (n - 1).toNatClampNeg + c.1 (n).toNatClampNeg = o.1 (n - 1).toNatClampNeg + o.1 (n).toNatClampNeg then (if c.2.1 (n - 1).toNatClampNeg + c.2.1 (n).toNatClampNeg = o.2.1 (n - 1).toNatClampNeg + o.2.1 (n).toNatClampNeg then true else false) else false
def gtAdd (v : Sgt) (n x y : Int32) : Sgt := if v.2.2.2 < 6 then (upd v.1 (v.2.2.2).toNatClampNeg n, upd v.2.1 (v.2.2.2).toNatClampNeg x, upd v.2.2.1 (v.2.2.2).toNatClampNeg y, v.2.2.2 + 1) else v
def gtAddB (v : Sgt) : Bool := if v.2.2.2 < 6 then true else false
theorem and7_in (x : Int32) : vp_in (x &&& 7) 8 := pk_andIn x 3 (by decide) (by decide)
