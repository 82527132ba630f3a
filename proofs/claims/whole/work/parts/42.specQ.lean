/-! the reference: what is asked of standings -/
theorem dnT_c {bx bY bw nw f g h z : Fn} {t : Stg} {d but : Int32} {q : DS} (e : q = dnT bx bY bw nw f g h z t d but) : DsEq 10 q (dnC bx bY bw nw d but) := by
  rw [e]; exact dnT_eq bx bY bw nw f g h z t d but
def Fe (n : Nat) (f g : Fn) : Prop := ∀ j, j ≤ n → f j = g j
theorem DsEq.x {n : Nat} {s t : DS} (h : DsEq n s t) : Fe n s.1 t.1 := fun j hj => (h.1 j hj).1
theorem DsEq.y {n : Nat} {s t : DS} (h : DsEq n s t) : Fe n s.2.1 t.2.1 := fun j hj => (h.1 j hj).2.1
theorem DsEq.l {n : Nat} {s t : DS} (h : DsEq n s t) : Fe n s.2.2.1 t.2.2.1 := fun j hj => (h.1 j hj).2.2.1
theorem DsEq.w {n : Nat} {s t : DS} (h : DsEq n s t) : Fe n s.2.2.2.1 t.2.2.2.1 := fun j hj => (h.1 j hj).2.2.2
theorem Fe.trans {n : Nat} {f g h : Fn} (a : Fe n f g) (b : Fe n g h) : Fe n f h := fun j hj => (a j hj).trans (b j hj)
theorem Fe.nI {f g : Fn} (h : Fe 10 f g) {n : Nat} (hn : n ≤ 10) : f (nI n).toNatClampNeg = g (nI n).toNatClampNeg := by
  rw [nI_clamp (by omega)]; exact h n hn
theorem Fe.at {f g : Fn} (h : Fe 10 f g) {n : Int32} (hn : n.toInt ≤ 10) : f (n).toNatClampNeg = g (n).toNatClampNeg := by
  have : n.toNatClampNeg = n.toInt.toNat := rfl
  exact h _ (by omega)
theorem Fe.z {f g : Fn} (h : Fe 10 f g) : f (0 : Int32).toNatClampNeg = g (0 : Int32).toNatClampNeg := h 0 (by omega)
theorem atY_eq {f g p q : Fn} (hf : Fe 10 f p) (hg : Fe 10 g q) {n : Int32} (hn : n.toInt ≤ 10) (x y : Int32) : atY f g n x y = atY p q n x y := by
  unfold atY; rw [hf.at hn, hg.at hn]
theorem shY_eq {f g : Fn} (h : Fe 10 f g) (n : Nat) (hn : n ≤ 10) : shY f n = shY g n := by
  induction n with
  | zero => rfl
  | succ n ih =>
    rw [shY, shY, ih (by omega), h.nI hn, show nI (n + 1) - 1 = nI n from nI_pred n, h.nI (n := n) (by omega)]
theorem anY_eq {f g p q : Fn} (hf : Fe 10 f p) (hg : Fe 10 g q) (n : Nat) (hn : n ≤ 10) (k : Nat) (hk : k ≤ n) : anY f g n k = anY p q n k := by
  induction k with
  | zero => rfl
  | succ k ih =>
    rw [anY, anY, ih (by omega), hf.nI hn, hg.nI hn, atY_eq hf hg (by rw [nIT (by omega)]; omega)]
theorem spY_eq {f g p q : Fn} (hf : Fe 10 f p) (hg : Fe 10 g q) (n : Nat) (hn : n ≤ 11) : spY f g n = spY p q n := by
  induction n with
  | zero => rfl
  | succ n ih => rw [spY, spY, ih (by omega), anY_eq hf hg n (by omega) n (Nat.le_refl n)]
theorem awY_eq {f g p q : Fn} (hf : Fe 10 f p) (hg : Fe 10 g q) (n : Nat) (hn : n ≤ 10) : awY f g n = awY p q n := by
  induction n with
  | zero => rfl
  | succ n ih => rw [awY, awY, ih (by omega), hf.z, hg.z, atY_eq hf hg (by rw [nIT (by omega)]; omega)]
theorem hoY_eq {f g p q : Fn} (hf : Fe 10 f p) (hg : Fe 10 g q) (n : Nat) : ∀ j, j + n ≤ 10 → hoY f g n j = hoY p q n j := by
  induction n with
  | zero => intro j _; rfl
  | succ n ih =>
    intro j hj
    rw [hoY, hoY, ih (j + 1) (by omega), awY_eq hf hg j (by omega), hf.z, hg.z, atY_eq hf hg (by rw [nIT (by omega)]; omega)]
theorem homY_eq {f g p q : Fn} (hf : Fe 10 f p) (hg : Fe 10 g q) : homY f g = homY p q := hoY_eq hf hg 10 0 (by omega)
def yStD (s : DS) (n w : Int32) : Int32 := if w = 0 then s.1 (n).toNatClampNeg else if w = 1 then s.2.1 (n).toNatClampNeg else if w = 2 then s.2.2.1 (n).toNatClampNeg else s.2.2.2.1 (n).toNatClampNeg
def yStand (bx bY bw nw : Fn) (mn d n w : Int32) : Int32 := if inR d 0 (mn - 1) = true then (if inR n 0 10 = true then (if inR w 0 3 = true then yStD (dnC bx bY bw nw d (-9)) n w else -1) else -1) else -1
def yStfD (s : DS) (sz w : Int32) : Int32 := if w = 0 then sz else if w = 1 then s.2.2.2.2.1 else if w = 2 then spY s.1 s.2.1 11 else if w = 3 then shY s.2.2.2.1 10 else homY s.1 s.2.1
def yStaff (bx bY bw nw : Fn) (mn d w : Int32) : Int32 := if inR d 0 (mn - 1) = true then (if inR w 0 4 = true then yStfD (dnC bx bY bw nw d (-9)) (nw (11 * d).toNatClampNeg) w else -1) else -1
/-! crossings, meetings: f, g the one's places, p, q the other's -/
def crMv (ax ay : Int32) : Int32 := if ax = 0 then (if ay = 0 then 0 else 1) else 1
def crA (f g p q : Fn) (n : Int32) : Bool := if crMv (f (n).toNatClampNeg - f (n - 1).toNatClampNeg) (g (n).toNatClampNeg - g (n - 1).toNatClampNeg) = 0 then false else if atY f g n (p (n - 1).toNatClampNeg) (q (n - 1).toNatClampNeg) = true then (if atY f g (n - 1) (p (n).toNatClampNeg) (q (n).toNatClampNeg) = true then true else false) else false
def crK (ax ay bx bY : Int32) : Int32 := if ax = 0 then 0 else if ay = 0 then 0 else if bx = 0 then 0 else if bY = 0 then 0 else 1
def crM (f g p q : Fn) (n : Int32) : Int32 := if f (n).toNatClampNeg + f (n - 1).toNatClampNeg = p (n).toNatClampNeg + p (n - 1).toNatClampNeg then (if g (n).toNatClampNeg + g (n - 1).toNatClampNeg = q (n).toNatClampNeg + q (n - 1).toNatClampNeg then 1 else 0) else 0
def crY (f g p q : Fn) (n : Int32) : Bool := if crA f g p q n = true then true else if crK (f (n).toNatClampNeg - f (n - 1).toNatClampNeg) (g (n).toNatClampNeg - g (n - 1).toNatClampNeg) (p (n).toNatClampNeg - p (n - 1).toNatClampNeg) (q (n).toNatClampNeg - q (n - 1).toNatClampNeg) = 0 then false else if crM f g p q n = 0 then false else if atY f g (n - 1) (p (n - 1).toNatClampNeg) (q (n - 1).toNatClampNeg) = true then false else true
def cpY (f g : Fn) : Nat → Fn
  | 0 => f
  | n + 1 => upd (cpY f g n) (nI n).toNatClampNeg (g (nI n).toNatClampNeg)
theorem cpY_at (f g : Fn) (n : Nat) (hn : n ≤ 1000) : ∀ j, j < n → cpY f g n j = g j := by
  induction n with
  | zero => intro j hj; omega
  | succ n ih =>
    intro j hj
    rw [cpY, nI_clamp (by omega), upd]
    by_cases h : j = n
    · rw [if_pos h, h]
    · rw [if_neg h]; exact ih (by omega) j (by omega)
theorem cpY_fe (f g : Fn) : Fe 10 (cpY f g 11) g := fun j hj => cpY_at f g 11 (by omega) j (by omega)
def mtL (f g p q : Fn) : Nat → Nat → Int32
  | 0, _ => -9
  | n + 1, i => if atY f g (nI i) (p (nI i).toNatClampNeg) (q (nI i).toNatClampNeg) = true then nI i else mtL f g p q n (i + 1)
def ctL (f g p q : Fn) : Nat → Nat → Int32
  | 0, _ => -9
  | n + 1, j => if crY f g p q (nI (j + 1)) = true then nI (j + 1) else ctL f g p q n (j + 1)
def meF (f g p q : Fn) (w : Int32) : Int32 := if w = 0 then mtL f g p q 11 0 else ctL f g p q 10 0
def meY (bx bY bw nw : Fn) (d o w : Int32) : Int32 := meF (dnC bx bY bw nw d (-9)).1 (dnC bx bY bw nw d (-9)).2.1 (dnC bx bY bw nw o (-9)).1 (dnC bx bY bw nw o (-9)).2.1 w
theorem mtL_eq {f g p q f2 g2 p2 q2 : Fn} (hf : Fe 10 f f2) (hg : Fe 10 g g2) (hp : Fe 10 p p2) (hq : Fe 10 q q2) (n : Nat) : ∀ i, i + n ≤ 11 → mtL f g p q n i = mtL f2 g2 p2 q2 n i := by
  induction n with
  | zero => intro i _; rfl
  | succ n ih =>
    intro i hi
    rw [mtL, mtL, ih (i + 1) (by omega), hp.nI (n := i) (by omega), hq.nI (n := i) (by omega), atY_eq hf hg (by rw [nIT (by omega)]; omega)]
theorem crY_eq {f g p q f2 g2 p2 q2 : Fn} (hf : Fe 10 f f2) (hg : Fe 10 g g2) (hp : Fe 10 p p2) (hq : Fe 10 q q2) {n : Int32} (h1 : 1 ≤ n.toInt) (h2 : n.toInt ≤ 10) : crY f g p q n = crY f2 g2 p2 q2 n := by
  have e : (n - 1).toInt = n.toInt - 1 := by rw [ti_sub (by rw [li_1]; omega) (by rw [li_1]; omega), li_1]
  have h3 : (n - 1).toInt ≤ 10 := by omega
  unfold crY crA crM
  rw [hf.at h2, hf.at h3, hg.at h2, hg.at h3, hp.at h2, hp.at h3, hq.at h2, hq.at h3, atY_eq hf hg h2, atY_eq hf hg h3, atY_eq hf hg h3]
theorem ctL_eq {f g p q f2 g2 p2 q2 : Fn} (hf : Fe 10 f f2) (hg : Fe 10 g g2) (hp : Fe 10 p p2) (hq : Fe 10 q q2) (n : Nat) : ∀ i, i + n ≤ 10 → ctL f g p q n i = ctL f2 g2 p2 q2 n i := by
  induction n with
  | zero => intro i _; rfl
  | succ n ih =>
    intro i hi
    rw [ctL, ctL, ih (i + 1) (by omega), crY_eq hf hg hp hq (by rw [nIT (by omega)]; omega) (by rw [nIT (by omega)]; omega)]
theorem me_0 {bx bY bw nw f g p q : Fn} {d o : Int32} (hf : Fe 10 f (dnC bx bY bw nw d (-9)).1) (hg : Fe 10 g (dnC bx bY bw nw d (-9)).2.1) (hp : Fe 10 p (dnC bx bY bw nw o (-9)).1) (hq : Fe 10 q (dnC bx bY bw nw o (-9)).2.1) : mtL f g p q 11 0 = meY bx bY bw nw d o 0 := by
  unfold meY meF
  rw [if_pos rfl]; exact mtL_eq hf hg hp hq 11 0 (by omega)
theorem me_1 {bx bY bw nw f g p q : Fn} {d o : Int32} (hf : Fe 10 f (dnC bx bY bw nw d (-9)).1) (hg : Fe 10 g (dnC bx bY bw nw d (-9)).2.1) (hp : Fe 10 p (dnC bx bY bw nw o (-9)).1) (hq : Fe 10 q (dnC bx bY bw nw o (-9)).2.1) : ctL f g p q 10 0 = meY bx bY bw nw d o 1 := by
  unfold meY meF
  rw [if_neg (by decide)]; exact ctL_eq hf hg hp hq 10 0 (by omega)
def yMeet (bx bY bw nw : Fn) (mn d o w : Int32) : Int32 := if inR d 0 (mn - 1) = true then (if inR o 0 (mn - 1) = true then (if d = o then -1 else if inR w 0 1 = true then meY bx bY bw nw d o w else -1) else -1) else -1
/-! what was seen, the signs that could be it, where to look -/
def seL (f g sb sp : Fn) : Nat → Int32
  | 0 => 1
  | k + 1 => if seL f g sb sp k = 0 then 0 else if 7 * f (sb (nI k).toNatClampNeg).toNatClampNeg + g (sb (nI k).toNatClampNeg).toNatClampNeg = sp (nI k).toNatClampNeg then 1 else 0
theorem seL_eq {f g p q : Fn} (hf : Fe 10 f p) (hg : Fe 10 g q) (sb sp : Fn) (k : Nat) (hk : k ≤ 6) (hb : ∀ j, j < k → (sb j).toInt ≤ 10) : seL f g sb sp k = seL p q sb sp k := by
  induction k with
  | zero => rfl
  | succ k ih =>
    have h := hb k (by omega)
    rw [seL, seL, ih (by omega) (fun j hj => hb j (by omega)), nI_clamp (by omega), hf.at h, hg.at h]
def unY (bx bY bw nw sb sp : Fn) (sn : Nat) : Nat → Int32
  | 0 => 0
  | n + 1 => unY bx bY bw nw sb sp sn n ||| (if seL (dnC bx bY bw nw 0 (nI n)).1 (dnC bx bY bw nw 0 (nI n)).2.1 sb sp sn = 0 then 0 else ((1 : Int32) <<< (nI n &&& 31)))
def yUns (bx bY bw nw sb sp : Fn) (sn : Int32) : Int32 := unY bx bY bw nw sb sp (sn).toNatClampNeg (nw (11 * 0 : Int32).toNatClampNeg).toNatClampNeg
def ulB (bx bY bw nw : Fn) (set n : Int32) (pl : Nat) : Nat → Int32
  | 0 => 0
  | b + 1 => if hasB set (nI b) = true then (if ulB bx bY bw nw set n pl b = 0 then (if 7 * (dnC bx bY bw nw 0 (nI b)).1 (n).toNatClampNeg + (dnC bx bY bw nw 0 (nI b)).2.1 (n).toNatClampNeg = nI pl then 1 else 0) else 1) else ulB bx bY bw nw set n pl b
def ulL (bx bY bw nw : Fn) (set n : Int32) : Nat → Int32
  | 0 => 0
  | k + 1 => ulL bx bY bw nw set n k + (if ulB bx bY bw nw set n k 10 = 0 then 0 else 1)
def loL (bx bY bw nw : Fn) (set : Int32) : Nat → Int32 × Int32
  | 0 => (-9, 0)
  | j + 1 => (if ulL bx bY bw nw set (nI (j + 1)) 49 ≤ (loL bx bY bw nw set j).2 then (loL bx bY bw nw set j).1 else nI (j + 1), if ulL bx bY bw nw set (nI (j + 1)) 49 ≤ (loL bx bY bw nw set j).2 then (loL bx bY bw nw set j).2 else ulL bx bY bw nw set (nI (j + 1)) 49)
def yLook (bx bY bw nw : Fn) (set : Int32) : Int32 := if set &&& (set - 1) = 0 then -9 else (loL bx bY bw nw set 10).1
/-! all staffs -/
def oaS (bx bY bw nw : Fn) (w : Int32) (n : Nat) : Int32 := if w = 1 then nw (11 * nI n).toNatClampNeg else if w = 2 then (if (dnC bx bY bw nw (nI n) (-9)).2.2.2.2.1 = -9 then 0 else 1) else 0
def oaI (bx bY bw nw : Fn) (n : Nat) (acc : Int32) : Nat → Int32
  | 0 => acc
  | k + 1 => oaI bx bY bw nw n acc k + (if meY bx bY bw nw (nI n) (nI k) 0 = -9 then (if meY bx bY bw nw (nI n) (nI k) 1 = -9 then 0 else 1) else 1)
def oaL (bx bY bw nw : Fn) (w : Int32) : Nat → Int32
  | 0 => 0
  | n + 1 => if w = 3 then oaI bx bY bw nw n (oaL bx bY bw nw w n + oaS bx bY bw nw w n) n else oaL bx bY bw nw w n + oaS bx bY bw nw w n
def yCount (bx bY bw nw : Fn) (mn sn ln un w : Int32) : Int32 := if w = 0 then mn else if w = 1 then oaL bx bY bw nw w (mn).toNatClampNeg else if w = 2 then oaL bx bY bw nw w (mn).toNatClampNeg else if w = 3 then oaL bx bY bw nw w (mn).toNatClampNeg else if w = 4 then sn else if w = 5 then ln else if w = 6 then un else -1
