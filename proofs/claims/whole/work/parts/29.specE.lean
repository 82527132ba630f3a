/-! the class itself -/
def isDn (tr : Trp) (d : Int32) : Bool := if d < 0 then false else if tr.2.2.2.1 ≤ d then false else true
def ar2 (tr : Trp) (d o : Int32) : Bool := if isDn tr d = true then (if isDn tr o = true then (if d = o then false else true) else false) else false
def fmL (k o : Crs) : Nat → Nat → Int32
  | 0, _ => -9
  | n + 1, i => if cMeet k o (nI i) = true then nI i else fmL k o n (i + 1)
def fMeet (k o : Crs) : Int32 := fmL k o 11 0
def fcL (k o : Crs) : Nat → Nat → Int32
  | 0, _ => -9
  | n + 1, j => if cCross k o (nI (j + 1)) = true then nI (j + 1) else fcL k o n (j + 1)
def fCross (k o : Crs) : Int32 := fcL k o 10 0
def twC (k o : Crs) (a : Int32) : Int32 := if fMeet k o = -9 then (if fCross k o = -9 then a else a + 1) else a + 1
def twS (tr : Trp) (d e : Nat) (s : Int32 × Crs × Crs) : Int32 × Crs × Crs := (twC (fol tr (nI d) (-9) s.2.1) (fol tr (nI e) (-9) s.2.2) s.1, fol tr (nI d) (-9) s.2.1, fol tr (nI e) (-9) s.2.2)
def twI (tr : Trp) (d : Nat) (s : Int32 × Crs × Crs) : Nat → Int32 × Crs × Crs
  | 0 => s
  | n + 1 => twS tr d (d + 1 + n) (twI tr d s n)
def twO (tr : Trp) (s : Int32 × Crs × Crs) : Nat → Int32 × Crs × Crs
  | 0 => s
  | n + 1 => twI tr n (twO tr s n) ((tr.2.2.2.1).toNatClampNeg - (n + 1))
def soL (tr : Trp) : Nat → Int32
  | 0 => 0
  | n + 1 => soL tr n + sLen tr.2.2.2.2 (nI n)
def bkL (tr : Trp) (k : Crs) : Nat → Int32 × Crs
  | 0 => (0, k)
  | n + 1 => (if (fol tr (nI n) (-9) (bkL tr k n).2).2.2.2.2.1 = -9 then (bkL tr k n).1 else (bkL tr k n).1 + 1, fol tr (nI n) (-9) (bkL tr k n).2)
def nrB (wk : Stg) (x y w left k : Int32) : Bool := if tkB wk k = true then (if left ≤ sgTo (tkS wk k) x y w then false else true) else false
def nrL (wk : Stg) (x y w left : Int32) : Nat → Nat → Int32
  | 0, _ => -9
  | n + 1, j => if nrB wk x y w left (nI (j + 1)) = true then nI (j + 1) else nrL wk x y w left n (j + 1)
def nrR (wk : Stg) (x y w : Int32) : Int32 := nrL wk x y w (sgTo wk x y w) 32 0
def nrS (wk : Stg) (x y w : Int32) : Stg := if nrR wk x y w = -9 then wk else tkS wk (nrR wk x y w)
def swL (wk : Stg) (x y w : Int32) : Nat → Int32 × Stg
  | 0 => (-9, wk)
  | n + 1 => (nrR (swL wk x y w n).2 x y w, nrS (swL wk x y w n).2 x y w)
def pbL (tr : Trp) (si : Sgt) (k : Crs) : Nat → Int32 × Crs
  | 0 => (0, k)
  | n + 1 => (if agr si (fol tr 0 (nI n) (pbL tr si k n).2) = true then (pbL tr si k n).1 ||| ((1 : Int32) <<< (nI n &&& 31)) else (pbL tr si k n).1, fol tr 0 (nI n) (pbL tr si k n).2)
def pbT (tr : Trp) (si : Sgt) (k : Crs) : Int32 × Crs := pbL tr si k (sLen tr.2.2.2.2 0).toNatClampNeg
def zLL (f : Lfn) : Nat → Lfn
  | 0 => f
  | n + 1 => vp_updL (zLL f n) (nI n).toNatClampNeg 0
def gpI (k : Crs) (f : Lfn) : Nat → Lfn
  | 0 => f
  | n + 1 => vp_updL (gpI k f n) (nI n).toNatClampNeg (gpI k f n (nI n).toNatClampNeg ||| cBit k (nI n))
def gpL (tr : Trp) (bs : Int32) (k : Crs) (f : Lfn) : Nat → Crs × Lfn
  | 0 => (k, zLL f 11)
  | n + 1 => if bs &&& ((1 : Int32) <<< (nI n &&& 31)) = 0 then gpL tr bs k f n else (fol tr 0 (nI n) (gpL tr bs k f n).1, gpI (fol tr 0 (nI n) (gpL tr bs k f n).1) (gpL tr bs k f n).2 11)
def bsL (f : Lfn) : Nat → Int32
  | 0 => 1
  | n + 1 => if bcL (f (nI (n + 2)).toNatClampNeg) ≤ bcL (f (bsL f n).toNatClampNeg) then bsL f n else nI (n + 2)
theorem bsL_in (f : Lfn) (n : Nat) (h : n ≤ 9) : 0 ≤ (bsL f n).toInt ∧ (bsL f n).toInt < 11 := by
  induction n with
  | zero => show 0 ≤ (1 : Int32).toInt ∧ (1 : Int32).toInt < 11; decide
  | succ n ih =>
    rw [bsL]
    split
    · exact ih (by omega)
    · rw [nIT (by omega)]; omega
def xLook (tr : Trp) (si : Sgt) (k : Crs) (f : Lfn) : Int32 := if 2 ≤ bcI (pbT tr si k).1 then bsL (gpL tr (pbT tr si k).1 (pbT tr si k).2 f 10).2 9 else -9
def xLookC (tr : Trp) (si : Sgt) (k : Crs) (f : Lfn) : Crs := if 2 ≤ bcI (pbT tr si k).1 then (gpL tr (pbT tr si k).1 (pbT tr si k).2 f 10).1 else (pbT tr si k).2
def xLookF (tr : Trp) (si : Sgt) (k : Crs) (f : Lfn) : Lfn := if 2 ≤ bcI (pbT tr si k).1 then (gpL tr (pbT tr si k).1 (pbT tr si k).2 f 10).2 else f
def xType (tx : Txt) (c : Int32) : Int32 := if c < 0 then -1 else if c ≤ 255 then (if tAppB tx = true then (tApp tx c).1 else -3) else -1
def xTypeS (tx : Txt) (c : Int32) : Txt := if c < 0 then tx else if c ≤ 255 then tApp tx c else tx
def xSign (tr : Trp) (d b : Int32) : Int32 := if isDn tr d = true then (if b < 0 then -1 else if b < 10 then sAt tr.2.2.2.2 d b else -1) else -1
def xStCk (tr : Trp) (d n : Int32) : Bool := if isDn tr d = true then (if isMom n = true then true else false) else false
def xStand (tr : Trp) (k : Crs) (wk : Stg) (d n w : Int32) : Int32 := if xStCk tr d n = true then (if w = 0 then (cBring (fol tr d (-9) k) wk n).1 else if w = 1 then (cBring (fol tr d (-9) k) wk n).2.1 else if w = 2 then (cBring (fol tr d (-9) k) wk n).2.2.1 else if w = 3 then (cBring (fol tr d (-9) k) wk n).2.2.2 else -1) else -1
def xStandK (tr : Trp) (k : Crs) (d n : Int32) : Crs := if xStCk tr d n = true then fol tr d (-9) k else k
def xStandW (tr : Trp) (k : Crs) (wk : Stg) (d n : Int32) : Stg := if xStCk tr d n = true then cBring (fol tr d (-9) k) wk n else wk
def xStaff (tr : Trp) (k : Crs) (d w : Int32) : Int32 := if isDn tr d = true then (if w = 0 then sLen tr.2.2.2.2 d else if w = 1 then (fol tr d (-9) k).2.2.2.2.1 else if w = 2 then bcL (spL (fol tr d (-9) k) 11) else if w = 3 then shL (fol tr d (-9) k) 10 else if w = 4 then hom (fol tr d (-9) k) else -1) else -1
def xStaffK (tr : Trp) (k : Crs) (d : Int32) : Crs := if isDn tr d = true then fol tr d (-9) k else k
def xMirT (tr : Trp) (d : Int32) : Trp := if isDn tr d = true then tpSt tr (mirL tr.2.2.2.2 d (sLen tr.2.2.2.2 d).toNatClampNeg) else tr
def xMirH (tr : Trp) (hi : His) (d : Int32) : His := if isDn tr d = true then hRem hi tr.2.2.2.2 d else hi
def xMir (tr : Trp) (d : Int32) : Int32 := if isDn tr d = true then sLen (mirL tr.2.2.2.2 d (sLen tr.2.2.2.2 d).toNatClampNeg) d else -1
def xCanCk (tr : Trp) (d o n : Int32) : Bool := if ar2 tr d o = true then (if n < 0 then false else if n ≤ 4 then true else false) else false
def xCan (tr : Trp) (d o n : Int32) : Int32 := if xCanCk tr d o n = true then sLen (canon tr.2.2.2.2 d o n) d else -1
def xCanT (tr : Trp) (d o n : Int32) : Trp := if xCanCk tr d o n = true then tpSt tr (canon tr.2.2.2.2 d o n) else tr
def xCanH (tr : Trp) (hi : His) (d o n : Int32) : His := if xCanCk tr d o n = true then hRem hi tr.2.2.2.2 d else hi
def xChCk (tr : Trp) (d b g : Int32) : Bool := if isDn tr d = true then (if isSgn g = true then (if sAt tr.2.2.2.2 d b = -9 then false else if sAt tr.2.2.2.2 d b = g then false else true) else false) else false
def xCh (tr : Trp) (d b g : Int32) : Int32 := if isDn tr d = true then (if isSgn g = true then (if sAt tr.2.2.2.2 d b = -9 then -1 else if sAt tr.2.2.2.2 d b = g then -2 else sAt tr.2.2.2.2 d b) else -1) else -1
def xChT (tr : Trp) (d b g : Int32) : Trp := if xChCk tr d b g = true then tpSt tr (sRep tr.2.2.2.2 d b g) else tr
def xChH (tr : Trp) (hi : His) (d b g : Int32) : His := if xChCk tr d b g = true then hRem hi tr.2.2.2.2 d else hi
def xAdCk (tr : Trp) (d g : Int32) : Bool := if isDn tr d = true then (if isSgn g = true then (if sLen tr.2.2.2.2 d < 10 then true else false) else false) else false
def xAd (tr : Trp) (d g : Int32) : Int32 := if isDn tr d = true then (if isSgn g = true then (if sLen tr.2.2.2.2 d < 10 then sLen (sAdd tr.2.2.2.2 d g) d else -3) else -1) else -1
def xAdT (tr : Trp) (d g : Int32) : Trp := if xAdCk tr d g = true then tpSt tr (sAdd tr.2.2.2.2 d g) else tr
def xAdH (tr : Trp) (hi : His) (d g : Int32) : His := if xAdCk tr d g = true then hRem hi tr.2.2.2.2 d else hi
def xUn (hi : His) : Int32 := if hi.2.2.2.2 = 0 then -2 else (hPopd hi).2.2.2.2
def xUnT (tr : Trp) (hi : His) : Trp := if hi.2.2.2.2 = 0 then tr else tpSt tr (hBack hi tr.2.2.2.2)
def xMeCk (tr : Trp) (d o w : Int32) : Bool := if ar2 tr d o = true then (if w < 0 then false else if w ≤ 1 then true else false) else false
def xMe (tr : Trp) (k1 k2 : Crs) (d o w : Int32) : Int32 := if xMeCk tr d o w = true then (if w = 0 then fMeet (fol tr d (-9) k1) (fol tr o (-9) k2) else fCross (fol tr d (-9) k1) (fol tr o (-9) k2)) else -1
def xMeA (tr : Trp) (k1 : Crs) (d o w : Int32) : Crs := if xMeCk tr d o w = true then fol tr d (-9) k1 else k1
def xMeB (tr : Trp) (k2 : Crs) (d o w : Int32) : Crs := if xMeCk tr d o w = true then fol tr o (-9) k2 else k2
def xFwCk (tr : Trp) (d n x y w k : Int32) : Bool := if isDn tr d = true then (if isMom n = true then (if onFl x y = true then (if w < 0 then false else if 8 ≤ w then false else if -1 ≤ k then true else false) else false) else false) else false
def xFw (tr : Trp) (c1 : Crs) (wk : Stg) (d n x y w k : Int32) : Int32 := if xFwCk tr d n x y w k = true then (if k = -1 then sgTo (cBring (fol tr d (-9) c1) wk n) x y w else if sgTo (cBring (fol tr d (-9) c1) wk n) x y w ≤ k then -9 else (swL (cBring (fol tr d (-9) c1) wk n) x y w ((k).toNatClampNeg + 1)).1) else -1
def xFwK (tr : Trp) (c1 : Crs) (d n x y w k : Int32) : Crs := if xFwCk tr d n x y w k = true then fol tr d (-9) c1 else c1
def xSeCk (tr : Trp) (n x y : Int32) : Bool := if tr.2.2.2.1 = 0 then false else if isMom n = true then (if onFl x y = true then true else false) else false
def xSe (tr : Trp) (si : Sgt) (n x y : Int32) : Int32 := if xSeCk tr n x y = true then (if gtAddB si = true then (gtAdd si n x y).2.2.2 else -3) else -1
def xSeS (tr : Trp) (si : Sgt) (n x y : Int32) : Sgt := if xSeCk tr n x y = true then gtAdd si n x y else si
def imCk (k : Int32) : Bool := if k < 0 then false else if k < 2 then true else false
def xKp (tr : Trp) (k : Int32) : Int32 := if imCk k = true then tr.2.2.2.1 else -1
def xKp1 (tr : Trp) (i1 : Img) (k : Int32) : Img := if imCk k = true then (if k = 0 then (1, cpO i1.2 tr.2.2.2.2 3) else i1) else i1
def xKp2 (tr : Trp) (i2 : Img) (k : Int32) : Img := if imCk k = true then (if k = 0 then i2 else (1, cpO i2.2 tr.2.2.2.2 3)) else i2
def imOf (i1 i2 : Img) (k : Int32) : Img := if k = 0 then i1 else i2
def xBk (tr : Trp) (i1 i2 : Img) (k : Int32) : Int32 := if imCk k = true then (if (imOf i1 i2 k).1 = 0 then -2 else tr.2.2.2.1) else -1
def xBkT (tr : Trp) (i1 i2 : Img) (k : Int32) : Trp := if imCk k = true then (if (imOf i1 i2 k).1 = 0 then tr else tpSt tr (cpO tr.2.2.2.2 (imOf i1 i2 k).2 3)) else tr
def xBkH (hi : His) (i1 i2 : Img) (k : Int32) : His := if imCk k = true then (if (imOf i1 i2 k).1 = 0 then hi else (hi.1, hi.2.1, hi.2.2.1, hi.2.2.2.1, 0)) else hi
def xCt (tx : Txt) (tr : Trp) (hi : His) (si : Sgt) (k1 k2 : Crs) (w : Int32) : Int32 := if w = 0 then tr.2.2.2.1 else if w = 1 then soL tr (tr.2.2.2.1).toNatClampNeg else if w = 2 then (bkL tr k1 (tr.2.2.2.1).toNatClampNeg).1 else if w = 3 then (twO tr (0, k1, k2) (tr.2.2.2.1).toNatClampNeg).1 else if w = 4 then si.2.2.2 else if w = 5 then tx.1 else if w = 6 then hi.2.2.2.2 else -1
def xCtA (tr : Trp) (k1 k2 : Crs) (w : Int32) : Crs := if w = 2 then (bkL tr k1 (tr.2.2.2.1).toNatClampNeg).2 else if w = 3 then (twO tr (0, k1, k2) (tr.2.2.2.1).toNatClampNeg).2.1 else k1
def xCtB (tr : Trp) (k1 k2 : Crs) (w : Int32) : Crs := if w = 3 then (twO tr (0, k1, k2) (tr.2.2.2.1).toNatClampNeg).2.2 else k2
def imgA (xa : Nat → Nat) (k : Int32) : Nat := if k = 0 then xa 26 else xa 30
/-- the two troupes change places -/
def xsw (xa : Nat → Nat) : Nat → Nat := fun k => if 4 ≤ k ∧ k ≤ 10 then xa (k + 7) else if 11 ≤ k ∧ k ≤ 17 then xa (k - 7) else xa k
section CallR
variable {p : Program} {l : Launch} {e : Env} {R : Room} {s : State} {m : MethodId} {args : Array Value} {below : List Frame} {meth : Method} {c : Code} {H : Heap} {locs : List Loc} {cells slots : Nat} {Q : State → Prop}
variable {pc : Nat} {ls : Array Slot} {rest st0 : List Value} {a : Array Value} {A : Nat → Prop} {D : va_G} {ws Wc : va_W}
theorem jn_r {W1 : va_W} {ad : Nat} (hr : va_Run p l e R s m args below meth c H locs cells slots 0 0 (F0 m pc ls st0) rest (va_Qr (fun (_ : Unit) => True) (fun _ q t => q = ad ∧ BU D W1 (va_A Wc H.size) t) (va_A Wc H.size) a) (va_A Wc H.size)) (hP : va_P D vwCl ws H) (hD : va_D A ws) (hS : va_S A s.heap H locs) (hA : ∀ q, s.heap.size ≤ q → A q) (isC isR pm : List Nat) (hC : isC.map (fun i => ws[i]?) = Wc.map some) (hR : isR.map (fun i => ws[i]?) = (isR.filterMap (fun i => ws[i]?)).map some) (hn : va_nd isR = true) (hdis : ∀ i ∈ isR, i ∉ isC) (hpn : va_nd pm = true) (hp : pm.map (fun i => (isR.filterMap (fun i => ws[i]?) ++ W1)[i]?) = ws.map some)
    (kk : ∀ (H1 : Heap) (locs1 : List Loc), va_P D vwCl ws H1 → va_S A s.heap H1 locs1 → W p l e R s m args below meth c H1 locs1 cells slots Q (F0 m (pc + 3) ls (.ref ad :: rest))) : W p l e R s m args below meth c H locs cells slots Q (F0 m pc ls st0) := by
  have hF := va_free (wc := Wc) hD hS hA isC hC
  refine va_callr hr hS (fun q _ h => hF q h) hF (fun u ra t H1 locs1 ht hvm hw hB hz1 hk1 hS1 => ?_)
  obtain ⟨rfl, hP1, hD1⟩ := hB
  rw [ht] at hP1
  obtain ⟨h1, h2⟩ := jn_P hP hD hS hA isC isR pm hC hR hn hdis hpn hp hk1 hP1 hD1
  exact kk H1 locs1 h1 hS1
end CallR
theorem lf_r {p : Program} {l : Launch} {e : Env} {R : Room} {s : State} {m : MethodId} {args : Array Value} {below : List Frame} {meth : Method} {c : Code} {H : Heap} {locs : List Loc} {Q : State → Prop} {pc : Nat} {ls : Array Slot} {A : Nat → Prop} {D : va_G} {cc : ByteArray} {W1 : va_W} {v ad : Nat} {nm : String} (hx : p.tables.exec = Jvm.exec) (hb : c.code = cc) (hr : meth.sig.returnType = some (.object nm)) (hlocks : meth.locks = false) (hQ : Q = MQ below (va_Qr (fun (_ : Unit) => True) (fun _ q t => q = ad ∧ BU D W1 A t) A) args s 0 0 A) (hP : va_P D vwCl W1 H) (hD : va_D A W1) (hS : va_S A s.heap H locs) (hdg : decode cc pc = .ok (.areturn, 1)) (he : v = ad) : W p l e R s m args below meth c H locs 0 0 Q (F0 m pc ls [.ref v]) := by
  rw [hQ]
  exact W.aret hx hb hr (Or.inl ⟨nm, rfl⟩) (Or.inr ⟨v, rfl⟩) (fun t ht hW => ⟨⟨(), v, rfl, trivial, he, by rw [ht]; exact hP, hD⟩, hS.F ht⟩) hS.2.2 hdg hlocks
