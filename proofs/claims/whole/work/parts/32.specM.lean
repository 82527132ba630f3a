/-! the reference: what its methods answer, and what they put into its parts -/
/-- an array of the reference's becomes another -/
def mF (m : MS) (k : Nat) (f : Fn) : MS := (m.1, va_up m.2 k f)
theorem mS_c {m n : MS} {k : Nat} {v w : Int32} (h : m = n) (e : v = w) : mS m k v = mS n k w := by rw [h, e]
theorem mF_c {m n : MS} {k : Nat} {f g : Fn} (h : m = n) (e : f = g) : mF m k f = mF n k g := by rw [h, e]
def inR (v lo hi : Int32) : Bool := if v < lo then false else if hi < v then false else true
theorem inR_in {v lo hi : Int32} (h : inR v lo hi = true) : lo.toInt ≤ v.toInt ∧ v.toInt ≤ hi.toInt := by
  unfold inR at h
  by_cases h1 : v < lo
  · simp [h1] at h
  · by_cases h2 : hi < v
    · simp [h1, h2] at h
    · exact ⟨i_nlt h1, i_nlt h2⟩
def hasB (g k : Int32) : Bool := if (g >>> (k &&& 31)) &&& 1 = 1 then true else false
def isTok (k : Int32) : Bool := if k = 100 then true else if k = 99 then true else if k = 108 then true else if k = 114 then true else if k = 106 then true else if k = 116 then true else if k = 46 then true else if k = 59 then true else false
def stX (k : Int32) : Int32 := if (k - k / 8 * 8) - (k - k / 8 * 8) / 4 * 4 = 0 then 0 else if 4 ≤ k - k / 8 * 8 then -1 else 1
def stY (k : Int32) : Int32 := stX (k + 2)
/-- text: how many, what -/
def yTy (n : Int32) (k : Int32) : Int32 := if inR k 0 255 = true then (if n = 100 then -3 else n + 1) else -1
def yTyN (n : Int32) (k : Int32) : Int32 := if inR k 0 255 = true then (if n = 100 then n else n + 1) else n
def yTyF (n : Int32) (f : Fn) (k : Int32) : Fn := if inR k 0 255 = true then (if n = 100 then f else upd f (n).toNatClampNeg k) else f
def yFig (n : Int32) (f : Fn) (x : Int32) : Bool := if n ≤ x then false else if inR (f (x).toNatClampNeg) 48 57 = true then true else false
def skP (n : Int32) (f : Fn) : Nat → Int32 → Int32
  | 0, x => x
  | g + 1, x => if n ≤ x then x else if f (x).toNatClampNeg = 32 then skP n f g (x + 1) else x
def dgP (n : Int32) (f : Fn) : Nat → Int32 → Int32
  | 0, x => x
  | g + 1, x => if yFig n f x = true then dgP n f g (x + 1) else x
def yBl (n : Int32) (f : Fn) (x : Int32) : Int32 := skP n f 101 x
def yDg (n : Int32) (f : Fn) (x : Int32) : Int32 := dgP n f 101 x
/-- where a sign leads -/
def ldK (g : Int32) : Int32 := (g - 2) / 8
def ldD (w g : Int32) : Int32 := w + (g - 2 - (g - 2) / 8 * 8)
def ldX (x w g : Int32) : Int32 := if g < 26 then (if g < 2 then x else x + stX (ldD w g)) else x
def ldY (y w g : Int32) : Int32 := if g < 26 then (if g < 2 then y else y + stY (ldD w g)) else y
def ldL (w g : Int32) : Int32 := if g < 26 then w else w + g - 26 + 1 - (w + g - 26 + 1) / 8 * 8
def ldW (z g : Int32) : Int32 := if g < 26 then (if g < 2 then (if g = 1 then 2 else z) else ldK g) else z
def ldG (x y w g : Int32) : Bool := if inR (x + stX (ldD w g)) 0 6 = true then (if inR (y + stY (ldD w g)) 0 6 = true then true else false) else false
def ldB (x y w z g : Int32) : Bool := if g < 26 then (if g < 2 then true else if 1 < ldK g then ldG x y w g else if z = ldK g then false else ldG x y w g) else true
abbrev DS : Type := Fn × Fn × Fn × Fn × Int32 × Stg
def dnG (sz : Int32) (sg : Fn) (but bk : Int32) (i : Nat) : Int32 := if sz ≤ nI i then 0 else if nI i = but then 0 else if bk = -9 then sg i else 0
def dnP (s : DS) (i : Nat) (g : Int32) : DS := if ldB (s.1 (nI i).toNatClampNeg) (s.2.1 (nI i).toNatClampNeg) (s.2.2.1 (nI i).toNatClampNeg) (s.2.2.2.1 (nI i).toNatClampNeg) g = true
  then (upd s.1 (nI i + 1).toNatClampNeg (ldX (s.1 (nI i).toNatClampNeg) (s.2.2.1 (nI i).toNatClampNeg) g), upd s.2.1 (nI i + 1).toNatClampNeg (ldY (s.2.1 (nI i).toNatClampNeg) (s.2.2.1 (nI i).toNatClampNeg) g), upd s.2.2.1 (nI i + 1).toNatClampNeg (ldL (s.2.2.1 (nI i).toNatClampNeg) g), upd s.2.2.2.1 (nI i + 1).toNatClampNeg (ldW (s.2.2.2.1 (nI i).toNatClampNeg) g), s.2.2.2.2.1, (ldX (s.1 (nI i).toNatClampNeg) (s.2.2.1 (nI i).toNatClampNeg) g, ldY (s.2.1 (nI i).toNatClampNeg) (s.2.2.1 (nI i).toNatClampNeg) g, ldL (s.2.2.1 (nI i).toNatClampNeg) g, ldW (s.2.2.2.1 (nI i).toNatClampNeg) g))
  else (upd s.1 (nI i + 1).toNatClampNeg (s.1 (nI i).toNatClampNeg), upd s.2.1 (nI i + 1).toNatClampNeg (s.2.1 (nI i).toNatClampNeg), upd s.2.2.1 (nI i + 1).toNatClampNeg (s.2.2.1 (nI i).toNatClampNeg), upd s.2.2.2.1 (nI i + 1).toNatClampNeg (s.2.2.2.1 (nI i).toNatClampNeg), nI i, (ldX (s.1 (nI i).toNatClampNeg) (s.2.2.1 (nI i).toNatClampNeg) g, ldY (s.2.1 (nI i).toNatClampNeg) (s.2.2.1 (nI i).toNatClampNeg) g, ldL (s.2.2.1 (nI i).toNatClampNeg) g, ldW (s.2.2.2.1 (nI i).toNatClampNeg) g))
def dnL (sz : Int32) (sg : Fn) (but : Int32) (s : DS) : Nat → DS
  | 0 => s
  | n + 1 => dnP (dnL sz sg but s n) n (dnG sz sg but (dnL sz sg but s n).2.2.2.2.1 n)
/-- a dancer's standings: begun at (x, y, w), over the rows as they were -/
def dn0 (x y w : Int32) (f g h z : Fn) (t : Stg) : DS := (upd f (0 : Int32).toNatClampNeg x, upd g (0 : Int32).toNatClampNeg y, upd h (0 : Int32).toNatClampNeg w, upd z (0 : Int32).toNatClampNeg 2, -9, t)
def dnSg (nw : Fn) (d : Int32) : Fn := fun i => nw (11 * d + 1 + nI i).toNatClampNeg
def dnT (bx bY bw nw : Fn) (f g h z : Fn) (t : Stg) (d but : Int32) : DS := dnL (nw (11 * d).toNatClampNeg) (dnSg nw d) but (dn0 (bx (d).toNatClampNeg) (bY (d).toNatClampNeg) (bw (d).toNatClampNeg) f g h z t) 10
def dnI (mm : MS) (d but : Int32) (i : Nat) : DS := dnL (mm.2 4 (11 * d).toNatClampNeg) (dnSg (mm.2 4) d) but (dn0 (mm.2 1 (d).toNatClampNeg) (mm.2 2 (d).toNatClampNeg) (mm.2 3 (d).toNatClampNeg) (mm.2 29) (mm.2 30) (mm.2 31) (mm.2 32) (mm.1 25, mm.1 26, mm.1 27, mm.1 28)) i
theorem dnI_s (mm : MS) (d but : Int32) (i : Nat) : dnI mm d but (i + 1) = dnP (dnI mm d but i) i (dnG (mm.2 4 (11 * d).toNatClampNeg) (dnSg (mm.2 4) d) but (dnI mm d but i).2.2.2.2.1 i) := rfl
