/-! the reference: signs, changes, undoing, images, what was seen -/
theorem dn_in {mn d : Int32} (h : inR d 0 (mn - 1) = true) (h0 : 0 ≤ mn.toInt) (h3 : mn.toInt ≤ 3) : 0 ≤ d.toInt ∧ d.toInt < 3 := by
  obtain ⟨a, b⟩ := inR_in h
  rw [li_0] at a
  rw [ti_sub (by rw [li_1]; omega) (by rw [li_1]; omega), li_1] at b
  omega
theorem i11 {d : Int32} (h0 : 0 ≤ d.toInt) (h3 : d.toInt < 3) : (11 * d).toInt = 11 * d.toInt := by
  rw [ti_mul (by rw [li_11]; omega) (by rw [li_11]; omega), li_11]
theorem ixT {x : Int32} {k : Nat} (h : x.toInt = (k : Int)) : x.toNatClampNeg = k := by
  have : x.toNatClampNeg = x.toInt.toNat := rfl
  omega
theorem i11b {d b : Int32} (h0 : 0 ≤ d.toInt) (h3 : d.toInt < 3) (hb : 0 ≤ b.toInt) (hb9 : b.toInt < 10) : (11 * d + 1 + b).toInt = 11 * d.toInt + 1 + b.toInt := by
  have e1 := i11 h0 h3
  have e2 : (11 * d + 1).toInt = 11 * d.toInt + 1 := by rw [ti_add (by rw [e1, li_1]; omega) (by rw [e1, li_1]; omega), e1, li_1]
  rw [ti_add (by rw [e2]; omega) (by rw [e2]; omega), e2]
/-- the staffs' row: their lengths are within 0 .. 10 -/
def NwOk (f : Fn) : Prop := ∀ d : Nat, d < 3 → 0 ≤ (f (11 * d)).toInt ∧ (f (11 * d)).toInt ≤ 10
theorem NwOk.at {f : Fn} (h : NwOk f) {d : Int32} (h0 : 0 ≤ d.toInt) (h3 : d.toInt < 3) : 0 ≤ (f (11 * d).toNatClampNeg).toInt ∧ (f (11 * d).toNatClampNeg).toInt ≤ 10 := by
  have e := i11 h0 h3
  have hc := clampT h0
  rw [show (11 * d).toNatClampNeg = 11 * d.toNatClampNeg from ixT (by rw [e]; omega)]
  exact h _ (by omega)
def ySg (mn : Int32) (nw : Fn) (d b : Int32) : Int32 := if inR d 0 (mn - 1) = true then (if inR b 0 9 = true then (if nw (11 * d).toNatClampNeg ≤ b then -9 else nw (11 * d + 1 + b).toNatClampNeg) else -1) else -1
def rmL (f nw : Fn) (k : Int32) : Nat → Fn
  | 0 => f
  | n + 1 => upd (rmL f nw k n) (33 * k + nI n).toNatClampNeg (nw (nI n).toNatClampNeg)
def yUm (u : Int32) : Int32 := if 10 ≤ u then u + 0 else u + 1
def yUa (u : Int32) : Int32 := u + 1 - (u + 1) / 10 * 10
def mirY (k : Int32) : Int32 := if k < 26 then (if 2 ≤ k then (if (k - 2) / 8 = 0 then 10 + (8 - (k - 2 - (k - 2) / 8 * 8) - (8 - (k - 2 - (k - 2) / 8 * 8)) / 8 * 8) else if (k - 2) / 8 = 1 then 2 + (8 - (k - 2 - (k - 2) / 8 * 8) - (8 - (k - 2 - (k - 2) / 8 * 8)) / 8 * 8) else 18 + (8 - (k - 2 - (k - 2) / 8 * 8) - (8 - (k - 2 - (k - 2) / 8 * 8)) / 8 * 8)) else k) else 33 - (k - 26 + 1)
def miL (f : Fn) (d : Int32) : Nat → Fn
  | 0 => f
  | n + 1 => upd (miL f d n) (11 * d + 1 + nI n).toNatClampNeg (mirY (miL f d n (11 * d + 1 + nI n).toNatClampNeg))
theorem miL_sz (f : Fn) {d : Int32} (h0 : 0 ≤ d.toInt) (h3 : d.toInt < 3) (n : Nat) (hn : n ≤ 10) : miL f d n (11 * d).toNatClampNeg = f (11 * d).toNatClampNeg := by
  induction n with
  | zero => rfl
  | succ n ih =>
    rw [miL, upd, if_neg ?_, ih (by omega)]
    have e1 := i11 h0 h3
    have e2 := i11b h0 h3 (b := nI n) (by rw [nIT (by omega)]; omega) (by rw [nIT (by omega)]; omega)
    rw [nIT (by omega)] at e2
    have a : (11 * d).toNatClampNeg = (11 * d).toInt.toNat := rfl
    have b : (11 * d + 1 + nI n).toNatClampNeg = (11 * d + 1 + nI n).toInt.toNat := rfl
    omega
def caL (f : Fn) (d o r sz : Int32) : Nat → Fn
  | 0 => f
  | n + 1 => upd (caL f d o r sz n) (11 * d + 1 + nI n).toNatClampNeg (if nI n < r then 0 else if nI n < sz then caL f d o r sz n (11 * o + 1 + (nI n - r)).toNatClampNeg else 0)
def caN (f : Fn) (o r : Int32) : Int32 := if f (11 * o).toNatClampNeg + r ≤ 10 then f (11 * o).toNatClampNeg + r else 10
def yCaCk (mn d o r : Int32) : Bool := if inR d 0 (mn - 1) = true then (if inR o 0 (mn - 1) = true then (if d = o then false else inR r 0 4) else false) else false
def yCaF (f : Fn) (d o r : Int32) : Fn := upd (caL f d o r (caN f o r) 10) (11 * d).toNatClampNeg (caN f o r)
def yChCk (mn : Int32) (f : Fn) (d b g : Int32) : Bool := if inR d 0 (mn - 1) = true then (if inR b 0 (f (11 * d).toNatClampNeg - 1) = true then inR g 0 32 else false) else false
def yChG (mn : Int32) (f : Fn) (d b g : Int32) : Bool := if yChCk mn f d b g = true then (if f (11 * d + 1 + b).toNatClampNeg = g then false else true) else false
def yCh (mn : Int32) (f : Fn) (d b g : Int32) : Int32 := if yChCk mn f d b g = true then (if f (11 * d + 1 + b).toNatClampNeg = g then -2 else f (11 * d + 1 + b).toNatClampNeg) else -1
def yAdCk (mn d g : Int32) : Bool := if inR d 0 (mn - 1) = true then inR g 0 32 else false
def yAdG (mn : Int32) (f : Fn) (d g : Int32) : Bool := if yAdCk mn d g = true then (if f (11 * d).toNatClampNeg = 10 then false else true) else false
def adU (f : Fn) (d : Int32) : Fn := upd f (11 * d).toNatClampNeg (f (11 * d).toNatClampNeg + 1)
def yAdF (f : Fn) (d g : Int32) : Fn := upd (adU f d) (11 * d + adU f d (11 * d).toNatClampNeg).toNatClampNeg g
def yAd (mn : Int32) (f : Fn) (d g : Int32) : Int32 := if yAdCk mn d g = true then (if f (11 * d).toNatClampNeg = 10 then -3 else yAdF f d g (11 * d).toNatClampNeg) else -1
def yUb (u : Int32) : Int32 := u + 10 - 1 - (u + 10 - 1) / 10 * 10
def unL (f us : Fn) (k : Int32) : Nat → Fn
  | 0 => f
  | n + 1 => upd (unL f us k n) (nI n).toNatClampNeg (us (33 * k + nI n).toNatClampNeg)
def kpL (f nw : Fn) (k : Int32) : Nat → Fn
  | 0 => f
  | n + 1 => upd (kpL f nw k n) (33 * k + nI n).toNatClampNeg (nw (nI n).toNatClampNeg)
def ySeCk (mn n x y : Int32) : Bool := if mn = 0 then false else if inR n 0 10 = true then (if inR x 0 6 = true then inR y 0 6 else false) else false
def ySeG (mn k n x y : Int32) : Bool := if ySeCk mn n x y = true then (if k = 6 then false else true) else false
def ySe (mn k n x y : Int32) : Int32 := if ySeCk mn n x y = true then (if k = 6 then -3 else k + 1) else -1
theorem i33 {k : Int32} (h0 : 0 ≤ k.toInt) (h9 : k.toInt < 10) (n : Nat) (hn : n < 33) : (33 * k + nI n).toInt = 33 * k.toInt + n := by
  have e1 : (33 * k).toInt = 33 * k.toInt := by rw [ti_mul (by rw [li_33]; omega) (by rw [li_33]; omega), li_33]
  rw [ti_add (by rw [e1, nIT (by omega)]; omega) (by rw [e1, nIT (by omega)]; omega), e1, nIT (by omega)]
theorem in33 {k : Int32} (h0 : 0 ≤ k.toInt) {m : Nat} (hm : m ≤ 10) (h9 : k.toInt < m) (n : Nat) (hn : n < 33) {N : Nat} (hN : N = 33 * m) : vp_in (33 * k + nI n) N := by
  have e := i33 h0 (by omega) n hn
  exact vi_mk (by rw [e]; omega) (by rw [e]; omega)
theorem in11b {d b : Int32} (h0 : 0 ≤ d.toInt) (h3 : d.toInt < 3) (hb : 0 ≤ b.toInt) (hb9 : b.toInt < 10) : vp_in (11 * d + 1 + b) 33 := by
  have e := i11b h0 h3 hb hb9
  exact vi_mk (by rw [e]; omega) (by rw [e]; omega)
theorem in11 {d : Int32} (h0 : 0 ≤ d.toInt) (h3 : d.toInt < 3) : vp_in (11 * d) 33 := by
  have e := i11 h0 h3
  exact vi_mk (by rw [e]; omega) (by rw [e]; omega)
theorem nIb {n : Nat} (h : n < 10) : 0 ≤ (nI n).toInt ∧ (nI n).toInt < 10 := by rw [nIT (by omega)]; omega
