/-! BASE: states as tuples, worlds as lists of cells, one form of contract for every method, calls and ends in one row each -/
abbrev Fn : Type := Nat → Int32
abbrev Stg : Type := Int32 × Int32 × Int32 × Int32
abbrev Txt : Type := Int32 × Fn
abbrev Rdr : Type := Int32 × Int32 × Int32
abbrev Stf : Type := Fn × Fn
abbrev Trp : Type := Fn × Fn × Fn × Int32 × Stf
abbrev His : Type := Fn × Fn × Fn × Int32 × Int32
abbrev Img : Type := Int32 × Stf
abbrev Sgt : Type := Fn × Fn × Fn × Int32
abbrev Crs : Type := Fn × Fn × Fn × Fn × Int32 × Stg
abbrev Lfn : Type := Nat → Int64
abbrev MS : Type := (Nat → Int32) × (Nat → Nat → Int32)
/-- a scalar of the reference's object is set -/
def mS (m : MS) (k : Nat) (v : Int32) : MS := (upd m.1 k v, m.2)
/-- a place of an array of the reference's is set -/
def mA (m : MS) (k j : Nat) (v : Int32) : MS := (m.1, va_up m.2 k (upd (m.2 k) j v))
def bI (b : Bool) : Int32 := if b = true then 1 else 0
theorem bI_t : bI true = 1 := rfl
theorem bI_f : bI false = 0 := rfl
theorem bI_0 {b : Bool} (h : bI b = 0) : b = false := by cases b with
  | true => exact absurd h (by decide)
  | false => rfl
theorem bI_1 {b : Bool} (h : ¬ bI b = 0) : b = true := by cases b with
  | true => rfl
  | false => exact absurd rfl h
theorem bI_n (b : Bool) : narrow .boolean (.int (bI b)) = .int (bI b) := by cases b <;> rfl
abbrev arI (a : Nat) (cI : ClassId) (n : Nat) (f : Fn) : Nat × va_E := (a, .inl (cI, n, .inl f))
abbrev wTxt (a0 a1 : Nat) (cI : ClassId) (v : Txt) : va_W := [(a0, .inr (7, [.ref a1, .int v.1])), (a1, .inl (cI, 100, .inl v.2))]
abbrev wRdr (a0 : Nat) (v : Rdr) : va_W := [(a0, .inr (3, [.int v.1, .int v.2.1, .int v.2.2]))]
abbrev wStf (a0 a1 a2 : Nat) (cI : ClassId) (v : Stf) : va_W := [(a0, .inr (5, [.ref a1, .ref a2])), (a1, .inl (cI, 30, .inl v.1)), (a2, .inl (cI, 3, .inl v.2))]
abbrev wStg (a0 : Nat) (v : Stg) : va_W := [(a0, .inr (6, [.int v.1, .int v.2.1, .int v.2.2.1, .int v.2.2.2]))]
abbrev wTrp (a0 a1 a2 a3 a4 a5 a6 : Nat) (cI : ClassId) (v : Trp) : va_W := [(a0, .inr (8, [.ref a1, .ref a2, .ref a3, .ref a4, .int v.2.2.2.1])), (a1, .inl (cI, 3, .inl v.1)), (a2, .inl (cI, 3, .inl v.2.1)), (a3, .inl (cI, 3, .inl v.2.2.1)), (a4, .inr (5, [.ref a5, .ref a6])), (a5, .inl (cI, 30, .inl v.2.2.2.2.1)), (a6, .inl (cI, 3, .inl v.2.2.2.2.2))]
abbrev wHis (a0 a1 a2 a3 : Nat) (cI : ClassId) (v : His) : va_W := [(a0, .inr (1, [.ref a1, .ref a2, .ref a3, .int v.2.2.2.1, .int v.2.2.2.2])), (a1, .inl (cI, 100, .inl v.1)), (a2, .inl (cI, 10, .inl v.2.1)), (a3, .inl (cI, 10, .inl v.2.2.1))]
abbrev wImg (a0 a1 a2 a3 : Nat) (cI : ClassId) (v : Img) : va_W := [(a0, .inr (2, [.ref a1, .int v.1])), (a1, .inr (5, [.ref a2, .ref a3])), (a2, .inl (cI, 30, .inl v.2.1)), (a3, .inl (cI, 3, .inl v.2.2))]
abbrev wSgt (a0 a1 a2 a3 : Nat) (cI : ClassId) (v : Sgt) : va_W := [(a0, .inr (4, [.ref a1, .ref a2, .ref a3, .int v.2.2.2])), (a1, .inl (cI, 6, .inl v.1)), (a2, .inl (cI, 6, .inl v.2.1)), (a3, .inl (cI, 6, .inl v.2.2.1))]
abbrev wCrs (a0 a1 a2 a3 a4 a5 : Nat) (cI : ClassId) (v : Crs) : va_W := [(a0, .inr (0, [.ref a1, .ref a2, .ref a3, .ref a4, .ref a5, .int v.2.2.2.2.1])), (a1, .inl (cI, 11, .inl v.1)), (a2, .inl (cI, 11, .inl v.2.1)), (a3, .inl (cI, 11, .inl v.2.2.1)), (a4, .inl (cI, 11, .inl v.2.2.2.1)), (a5, .inr (6, [.int v.2.2.2.2.2.1, .int v.2.2.2.2.2.2.1, .int v.2.2.2.2.2.2.2.1, .int v.2.2.2.2.2.2.2.2]))]
abbrev wLon (a0 : Nat) (cJ : ClassId) (v : Lfn) : va_W := [(a0, .inl (cJ, 11, .inr (.inl v)))]
/-- the object of DanceStaffs itself: its cells' addresses by their places: 0 itself, 1-2 text, 3 reader, 4-10 troupe, 11-17 draft, 18-21 history, 22-25 sightings, 26-29 and 30-33 images, 34-39 and 40-45 courses, 46 walker, 47 trial, 48 placesBehind -/
abbrev wXo (xa : Nat → Nat) : va_W := [(xa 0, .inr (9, [.ref (xa 1), .ref (xa 3), .ref (xa 4), .ref (xa 11), .ref (xa 18), .ref (xa 22), .ref (xa 26), .ref (xa 30), .ref (xa 34), .ref (xa 40), .ref (xa 46), .ref (xa 47), .ref (xa 48)]))]
abbrev mFs (a : Nat → Nat) (m : MS) : List Value := [.int (m.1 0), .ref (a 1), .ref (a 2), .ref (a 3), .ref (a 4), .int (m.1 5), .int (m.1 6), .ref (a 7), .int (m.1 8), .ref (a 9), .ref (a 10), .ref (a 11), .ref (a 12), .int (m.1 13), .ref (a 14), .int (m.1 15), .int (m.1 16), .int (m.1 17), .int (m.1 18), .int (m.1 19), .int (m.1 20), .ref (a 21), .ref (a 22), .ref (a 23), .ref (a 24), .int (m.1 25), .int (m.1 26), .int (m.1 27), .int (m.1 28), .ref (a 29), .ref (a 30), .ref (a 31), .ref (a 32), .int (m.1 33), .ref (a 34), .ref (a 35), .ref (a 36)]
/-- the reference's object, a 0, and its arrays, each at the address and under the number of its field -/
abbrev wM (a : Nat → Nat) (cI cZ : ClassId) (m : MS) : va_W := [(a 0, .inr (10, mFs a m)), (a 1, .inl (cI, 3, .inl (m.2 1))), (a 2, .inl (cI, 3, .inl (m.2 2))), (a 3, .inl (cI, 3, .inl (m.2 3))), (a 4, .inl (cI, 33, .inl (m.2 4))), (a 7, .inl (cI, 330, .inl (m.2 7))), (a 9, .inl (cI, 6, .inl (m.2 9))), (a 10, .inl (cI, 6, .inl (m.2 10))), (a 11, .inl (cZ, 2, .inl (m.2 11))), (a 12, .inl (cI, 66, .inl (m.2 12))), (a 14, .inl (cI, 100, .inl (m.2 14))), (a 21, .inl (cI, 3, .inl (m.2 21))), (a 22, .inl (cI, 3, .inl (m.2 22))), (a 23, .inl (cI, 3, .inl (m.2 23))), (a 24, .inl (cI, 33, .inl (m.2 24))), (a 29, .inl (cI, 11, .inl (m.2 29))), (a 30, .inl (cI, 11, .inl (m.2 30))), (a 31, .inl (cI, 11, .inl (m.2 31))), (a 32, .inl (cI, 11, .inl (m.2 32))), (a 34, .inl (cI, 11, .inl (m.2 34))), (a 35, .inl (cI, 11, .inl (m.2 35))), (a 36, .inl (cI, 1176, .inl (m.2 36)))]
/-- the two static tables -/
def xdv (j : Nat) : Int32 := if j = 0 then 0 else if j < 4 then 1 else if j = 4 then 0 else -1
def ydv (j : Nat) : Int32 := if j < 2 then 1 else if j = 2 then 0 else if j < 6 then -1 else if j = 6 then 0 else 1
/-- the words on private members of nest mates: they are carried, not listed -/
def nestL : List Cond := [.methodLinkNest RX8 23 yX5_init "DanceStaffs", .methodLinkNest RX6 43 yX9_isOnFloor "DanceStaffs", .methodLinkNest RX6 28 yX9_directionOf "DanceStaffs", .methodLinkNest RX5 50 yX9_directionOf "DanceStaffs", .methodLinkNest RX2 9 yX5_init "DanceStaffs", .methodLinkNest RX0 59 yX9_isMoment "DanceStaffs", .methodLinkNest RX0 26 yX6_init "DanceStaffs", .methodLinkNest RX9 9 yX7_init "DanceStaffs", .methodLinkNest RX9 69 yX6_init "DanceStaffs", .methodLinkNest RX9 59 yX0_init "DanceStaffs", .methodLinkNest RX9 49 yX2_init "DanceStaffs", .methodLinkNest RX9 42 yX4_init "DanceStaffs", .methodLinkNest RX9 35 yX1_init "DanceStaffs", .methodLinkNest RX9 25 yX8_init "DanceStaffs", .methodLinkNest RX9 18 yX3_init "DanceStaffs",
  .fieldLinkNest RX6 40 "DanceStaffs" "Y_BY_DIRECTION" "[I" "DanceStaffs", .fieldLinkNest RX6 36 "DanceStaffs" "X_BY_DIRECTION" "[I" "DanceStaffs", .fieldLinkNest RX3 49 "DanceStaffs$Troupe" "staffs" "LDanceStaffs$Staffs;" "DanceStaffs", .fieldLinkNest RX3 34 "DanceStaffs$Troupe" "size" "I" "DanceStaffs", .fieldLinkNest RX0 70 "DanceStaffs$Standing" "weight" "I" "DanceStaffs", .fieldLinkNest RX0 68 "DanceStaffs$Standing" "looks" "I" "DanceStaffs", .fieldLinkNest RX0 65 "DanceStaffs$Standing" "y" "I" "DanceStaffs", .fieldLinkNest RX0 62 "DanceStaffs$Standing" "x" "I" "DanceStaffs", .fieldLinkNest RX0 45 "DanceStaffs$Troupe" "staffs" "LDanceStaffs$Staffs;" "DanceStaffs", .fieldLinkNest RX9 239 "DanceStaffs$Image" "staffs" "LDanceStaffs$Staffs;" "DanceStaffs", .fieldLinkNest RX9 235 "DanceStaffs$Image" "isTaken" "Z" "DanceStaffs", .fieldLinkNest RX9 211 "DanceStaffs$Sightings" "size" "I" "DanceStaffs", .fieldLinkNest RX9 206 "DanceStaffs$Troupe" "size" "I" "DanceStaffs", .fieldLinkNest RX9 179 "DanceStaffs$History" "size" "I" "DanceStaffs", .fieldLinkNest RX9 142 "DanceStaffs$Course" "broken" "I" "DanceStaffs", .fieldLinkNest RX9 135 "DanceStaffs$Standing" "weight" "I" "DanceStaffs", .fieldLinkNest RX9 132 "DanceStaffs$Standing" "looks" "I" "DanceStaffs", .fieldLinkNest RX9 129 "DanceStaffs$Standing" "y" "I" "DanceStaffs", .fieldLinkNest RX9 125 "DanceStaffs$Standing" "x" "I" "DanceStaffs", .fieldLinkNest RX9 104 "DanceStaffs$Troupe" "staffs" "LDanceStaffs$Staffs;" "DanceStaffs"]
def isNestW (w : Cond) : Bool := match w with
  | .methodLinkNest _ _ _ _ => true
  | .fieldLinkNest _ _ _ _ _ _ => true
  | _ => false
theorem nw_warm {w : Cond} (hw : isNestW w = true) {s U : State} (hW : s.WarmedH U.vm) (hZ : va_Nw w s) : va_Nw w U := by
  cases w <;> first | exact va_Nw.warmM hW hZ | exact va_Nw.warmF hW hZ | exact absurd hw (by decide) | exact absurd hw (by simp [isNestW])
theorem nw_same {w : Cond} (hw : isNestW w = true) {s U : State} (h : s.vm = U.vm) (hZ : va_Nw w s) : va_Nw w U := by
  cases w <;> first | exact va_Nw.same rfl h hZ | exact absurd hw (by simp [isNestW])
theorem nestL_ok : ∀ w ∈ nestL, isNestW w = true := by
  have h : nestL.all isNestW = true := rfl
  exact List.all_eq_true.mp h
def EnvN (U : State) : Prop := ∀ w ∈ nestL, va_Nw w U
theorem EnvN.warm {s U : State} (hW : s.WarmedH U.vm) (h : EnvN s) : EnvN U := fun w hw => nw_warm (nestL_ok w hw) hW (h w hw)
theorem EnvN.same {s U : State} (e : s.vm = U.vm) (h : EnvN s) : EnvN U := fun w hw => nw_same (nestL_ok w hw) e (h w hw)
theorem EnvN.at {s : State} {args : Array Value} (h : EnvN s) (i : Nat) {w : Cond} (hi : nestL[i]? = some w) : va_Nw w s := h w (List.mem_of_getElem? hi)
theorem nw_fuse {a : String} {i : Nat} {b n d h : String} {s : State} {args : Array Value} (hN : EnvN s) (k : Nat) (hk : nestL[k]? = some (.fieldLinkNest a i b n d h)) : (Cond.fieldLinkNest a i b n d h).before args s = true := va_Nw.use rfl (hN _ (List.mem_of_getElem? hk))
theorem nw_m {a : String} {i : Nat} {y : MethodName} {h : String} {s : State} (hN : EnvN s) (k : Nat) (hk : nestL[k]? = some (.methodLinkNest a i y h)) : va_Nw (.methodLinkNest a i y h) s := hN _ (List.mem_of_getElem? hk)
def EnvS (A : Nat → Prop) (U : State) (H : Heap) : Prop := ∃ tX tY : Nat, va_Z "DanceStaffs" "X_BY_DIRECTION" "[I" (.ref tX) A U H ∧ va_T .int tX 8 (fun j => .int (xdv j)) A U H ∧ va_Z "DanceStaffs" "Y_BY_DIRECTION" "[I" (.ref tY) A U H ∧ va_T .int tY 8 (fun j => .int (ydv j)) A U H
theorem EnvS.go {A B : Nat → Prop} {s U : State} {H0 H : Heap} (h : EnvS A s H0) (hk : ∀ a : Nat, a < H0.size → ¬ A a → H[a]? = H0[a]?) (hAB : ∀ q, B q → A q) (hvm : s.vm.Alike U.vm) : EnvS B U H := by
  obtain ⟨tX, tY, h1, h2, h3, h4⟩ := h
  exact ⟨tX, tY, ((h1.kept hk).narrow hAB).moved hvm, ((h2.kept hk).narrow hAB).moved hvm, ((h3.kept hk).narrow hAB).moved hvm, ((h4.kept hk).narrow hAB).moved hvm⟩
abbrev tyL (cI cJ cZ : ClassId) : List (ClassId × FieldType) := [(cI, .int), (cJ, .long), (cZ, .boolean)]
/-- a method's start: its world, the tables, the nest words, the static tables -/
def PU (D : va_G) (tys : List (ClassId × FieldType)) (W : va_W) (sz : Nat) (U : State) : Prop := U.heap.size = sz ∧ va_P D vwCl W U.heap ∧ va_K D vwCl tys U ∧ va_D (fun _ => True) W ∧ EnvN U ∧ EnvS (va_A W sz) U U.heap
/-- a world behind a method -/
def BU (D : va_G) (W : va_W) (A : Nat → Prop) (t : State) : Prop := va_P D vwCl W t.heap ∧ va_D A W
theorem PU_blind {D : va_G} {tys : List (ClassId × FieldType)} {W : va_W} {sz : Nat} {av : List Value} : FrameBlind (va_Pc av (PU D tys W sz)) := by
  intro a U g mk q
  obtain ⟨e, h1, h2, h3, h4, h5, h6⟩ := q
  exact ⟨e, h1, h2, va_K.moved (u := U) (U := U.calling g mk a) (Vm.Alike.refl U.vm) h3, h4, EnvN.same (s := U) (U := U.calling g mk a) rfl h5, EnvS.go (s := U) (U := U.calling g mk a) h6 (fun _ _ _ => rfl) (fun _ h => h) (Vm.Alike.refl U.vm)⟩
theorem map_some_fm {α : Type} {ws w : List α} {is : List Nat} (h : is.map (fun i => ws[i]?) = w.map some) : is.filterMap (fun i => ws[i]?) = w := by
  induction is generalizing w with
  | nil => cases w with
    | nil => rfl
    | cons b t => simp at h
  | cons i t ih => cases w with
    | nil => simp at h
    | cons b u =>
      simp only [List.map_cons, List.cons.injEq] at h
      rw [List.filterMap_cons, h.1]
      simp only [ih h.2]
section Calls
variable {p : Program} {l : Launch} {e : Env} {R : Room} {s : State} {m : MethodId} {args : Array Value} {below : List Frame} {meth : Method} {c : Code} {H : Heap} {locs : List Loc} {cells slots : Nat} {Q : State → Prop}
variable {pc : Nat} {ls : Array Slot} {rest st0 : List Value} {a : Array Value} {A : Nat → Prop} {D : va_G} {tys : List (ClassId × FieldType)} {ws Wc : va_W} {av : List Value} {C : String} {b : Nat} {S : Type}
theorem PU_pre (hP : va_P D vwCl ws H) (hD : va_D A ws) (hK : va_K D vwCl tys s) (hN : EnvN s) (hE : EnvS A s s.heap) (hS : va_S A s.heap H locs) (hA : ∀ q, s.heap.size ≤ q → A q) (isC : List Nat) (hn : va_nd isC = true) (hC : isC.map (fun i => ws[i]?) = Wc.map some) : ∀ U : State, U.heap = H → s.WarmedH U.vm → va_Pc av (PU D tys Wc H.size) av.toArray U := by
  intro U hU hW
  have hPc := hP.sub isC (map_some_fm hC)
  have hDc := hD.sub isC hn hC
  have hF := va_free (wc := Wc) hD hS hA isC hC
  refine ⟨rfl, by rw [hU], by rw [hU]; exact hPc, va_K.moved hW.alike hK, hDc.weaken (fun _ _ _ _ => trivial), hN.warm hW, ?_⟩
  rw [hU]
  exact hE.go (fun q h1 h2 => hS.2.1 q h1 h2) hF hW.alike
theorem pr_S (hP : va_P D vwCl ws H) (hD : va_D A ws) (hK : va_K D vwCl tys s) (hN : EnvN s) (hE : EnvS A s s.heap) (hS : va_S A s.heap H locs) (hA : ∀ q, s.heap.size ≤ q → A q) (isC : List Nat) (hn : va_nd isC = true) (hC : isC.map (fun i => ws[i]?) = Wc.map some) : PreS s H (va_Pc av (PU D tys Wc H.size)) av := ⟨PU_blind, PU_pre hP hD hK hN hE hS hA isC hn hC⟩
theorem pr_V (hP : va_P D vwCl ws H) (hD : va_D A ws) (hK : va_K D vwCl tys s) (hN : EnvN s) (hE : EnvS A s s.heap) (hS : va_S A s.heap H locs) (hA : ∀ q, s.heap.size ≤ q → A q) (isC : List Nat) (hn : va_nd isC = true) (hC : isC.map (fun i => ws[i]?) = Wc.map some) {ci q0 : Nat} {q : vw_C} {fs : List Value} (hc : vwCl[ci]? = some q) (he : ws[q0]? = some (b, .inr (ci, fs))) : PreV s H q.1 b (va_Pc (.ref b :: av) (PU D tys Wc H.size)) av := ⟨PU_blind, va_recv hK hP hc he, PU_pre hP hD hK hN hE hS hA isC hn hC⟩
/-- behind a call: the callee's cells as it left them, the others as they were, in the caller's own order -/
theorem jn_P {W1 W2 : va_W} {H1 : Heap} (hP : va_P D vwCl ws H) (hD : va_D A ws) (hS : va_S A s.heap H locs) (hA : ∀ q, s.heap.size ≤ q → A q) (isC isR pm : List Nat) (hC : isC.map (fun i => ws[i]?) = Wc.map some) (hR : isR.map (fun i => ws[i]?) = (isR.filterMap (fun i => ws[i]?)).map some) (hn : va_nd isR = true) (hdis : ∀ i ∈ isR, i ∉ isC) (hpn : va_nd pm = true) (hp : pm.map (fun i => (isR.filterMap (fun i => ws[i]?) ++ W1)[i]?) = W2.map some)
    (hk : ∀ q : Nat, q < H.size → ¬ va_A Wc H.size q → H1[q]? = H[q]?) (hP1 : va_P D vwCl W1 H1) (hD1 : va_D (va_A Wc H.size) W1) : va_P D vwCl W2 H1 ∧ va_D A W2 := by
  have hF := va_free (wc := Wc) hD hS hA isC hC
  obtain ⟨h1, h2⟩ := va_join (w1 := W1) hP hD isC isR hC hR hn hdis hk hF hP1 hD1
  exact ⟨h1.sub pm (map_some_fm hp), h2.sub pm hpn hp⟩
theorem jn_i {post : Int32 → S → Prop} {W1 W2 : S → va_W} (hr : va_Run p l e R s m args below meth c H locs cells slots 0 0 (F0 m pc ls st0) rest (va_Qi post (fun u => BU D (W1 u) (va_A Wc H.size)) (va_A Wc H.size) a) (va_A Wc H.size)) (hP : va_P D vwCl ws H) (hD : va_D A ws) (hS : va_S A s.heap H locs) (hA : ∀ q, s.heap.size ≤ q → A q) (isC isR pm : List Nat) (hC : isC.map (fun i => ws[i]?) = Wc.map some) (hR : isR.map (fun i => ws[i]?) = (isR.filterMap (fun i => ws[i]?)).map some) (hn : va_nd isR = true) (hdis : ∀ i ∈ isR, i ∉ isC) (hpn : va_nd pm = true) (hp : ∀ u, pm.map (fun i => (isR.filterMap (fun i => ws[i]?) ++ W1 u)[i]?) = (W2 u).map some)
    (kk : ∀ (r : Int32) (u : S) (H1 : Heap) (locs1 : List Loc), post r u → va_P D vwCl (W2 u) H1 → va_D A (W2 u) → va_S A s.heap H1 locs1 → W p l e R s m args below meth c H1 locs1 cells slots Q (F0 m (pc + 3) ls (.int r :: rest))) : W p l e R s m args below meth c H locs cells slots Q (F0 m pc ls st0) := by
  have hF := va_free (wc := Wc) hD hS hA isC hC
  refine va_calli hr hS (fun q _ h => hF q h) hF (fun r u t H1 locs1 ht hvm hw hB hz1 hk1 hS1 => ?_)
  obtain ⟨hP1, hD1⟩ := hB
  rw [ht] at hP1
  obtain ⟨h1, h2⟩ := jn_P hP hD hS hA isC isR pm hC hR hn hdis hpn (hp u) hk1 hP1 hD1
  exact kk r u H1 locs1 hw h1 h2 hS1
theorem jn_l {post : Int64 → S → Prop} {W1 W2 : S → va_W} (hr : va_Run p l e R s m args below meth c H locs cells slots 0 0 (F0 m pc ls st0) rest (va_Ql post (fun u => BU D (W1 u) (va_A Wc H.size)) (va_A Wc H.size) a) (va_A Wc H.size)) (hP : va_P D vwCl ws H) (hD : va_D A ws) (hS : va_S A s.heap H locs) (hA : ∀ q, s.heap.size ≤ q → A q) (isC isR pm : List Nat) (hC : isC.map (fun i => ws[i]?) = Wc.map some) (hR : isR.map (fun i => ws[i]?) = (isR.filterMap (fun i => ws[i]?)).map some) (hn : va_nd isR = true) (hdis : ∀ i ∈ isR, i ∉ isC) (hpn : va_nd pm = true) (hp : ∀ u, pm.map (fun i => (isR.filterMap (fun i => ws[i]?) ++ W1 u)[i]?) = (W2 u).map some)
    (kk : ∀ (r : Int64) (u : S) (H1 : Heap) (locs1 : List Loc), post r u → va_P D vwCl (W2 u) H1 → va_D A (W2 u) → va_S A s.heap H1 locs1 → W p l e R s m args below meth c H1 locs1 cells slots Q (F0 m (pc + 3) ls (.long r :: rest))) : W p l e R s m args below meth c H locs cells slots Q (F0 m pc ls st0) := by
  have hF := va_free (wc := Wc) hD hS hA isC hC
  refine va_calll hr hS (fun q _ h => hF q h) hF (fun r u t H1 locs1 ht hvm hw hB hz1 hk1 hS1 => ?_)
  obtain ⟨hP1, hD1⟩ := hB
  rw [ht] at hP1
  obtain ⟨h1, h2⟩ := jn_P hP hD hS hA isC isR pm hC hR hn hdis hpn (hp u) hk1 hP1 hD1
  exact kk r u H1 locs1 hw h1 h2 hS1
theorem jn_v {post : S → Prop} {W1 W2 : S → va_W} (hr : va_Run p l e R s m args below meth c H locs cells slots 0 0 (F0 m pc ls st0) rest (va_Qv post (fun u => BU D (W1 u) (va_A Wc H.size)) (va_A Wc H.size) a) (va_A Wc H.size)) (hP : va_P D vwCl ws H) (hD : va_D A ws) (hS : va_S A s.heap H locs) (hA : ∀ q, s.heap.size ≤ q → A q) (isC isR pm : List Nat) (hC : isC.map (fun i => ws[i]?) = Wc.map some) (hR : isR.map (fun i => ws[i]?) = (isR.filterMap (fun i => ws[i]?)).map some) (hn : va_nd isR = true) (hdis : ∀ i ∈ isR, i ∉ isC) (hpn : va_nd pm = true) (hp : ∀ u, pm.map (fun i => (isR.filterMap (fun i => ws[i]?) ++ W1 u)[i]?) = (W2 u).map some)
    (kk : ∀ (u : S) (H1 : Heap) (locs1 : List Loc), post u → va_P D vwCl (W2 u) H1 → va_D A (W2 u) → va_S A s.heap H1 locs1 → W p l e R s m args below meth c H1 locs1 cells slots Q (F0 m (pc + 3) ls rest)) : W p l e R s m args below meth c H locs cells slots Q (F0 m pc ls st0) := by
  have hF := va_free (wc := Wc) hD hS hA isC hC
  refine va_callv hr hS (fun q _ h => hF q h) hF (fun u t H1 locs1 ht hvm hw hB hz1 hk1 hS1 => ?_)
  obtain ⟨hP1, hD1⟩ := hB
  rw [ht] at hP1
  obtain ⟨h1, h2⟩ := jn_P hP hD hS hA isC isR pm hC hR hn hdis hpn (hp u) hk1 hP1 hD1
  exact kk u H1 locs1 hw h1 h2 hS1
/-- a call that needs no cell: the world stays -/
theorem st_i {post : Int32 → S → Prop} {W1 : S → va_W} (hr : va_Run p l e R s m args below meth c H locs cells slots 0 0 (F0 m pc ls st0) rest (va_Qi post (fun u => BU D (W1 u) (va_A [] H.size)) (va_A [] H.size) a) (va_A [] H.size)) (hP : va_P D vwCl ws H) (hS : va_S A s.heap H locs) (hA : ∀ q, s.heap.size ≤ q → A q)
    (kk : ∀ (r : Int32) (u : S) (H1 : Heap) (locs1 : List Loc), post r u → va_P D vwCl ws H1 → va_S A s.heap H1 locs1 → W p l e R s m args below meth c H1 locs1 cells slots Q (F0 m (pc + 3) ls (.int r :: rest))) : W p l e R s m args below meth c H locs cells slots Q (F0 m pc ls st0) := by
  have hF : ∀ q, va_A [] H.size q → A q := fun q h => by
    rcases h with ⟨k, e, h⟩ | h
    · simp at h
    · exact hA q (Nat.le_trans hS.1 h)
  refine va_calli hr hS (fun q _ h => hF q h) hF (fun r u t H1 locs1 ht hvm hw hB hz1 hk1 hS1 => ?_)
  refine kk r u H1 locs1 hw (hP.kept fun k q hq => hk1 q.1 (hP k q hq).lt fun h => ?_) hS1
  rcases h with ⟨k, e, h⟩ | h
  · simp at h
  · exact absurd (hP k q hq).lt (Nat.not_lt.mpr h)
/-- a call whose world is the caller's whole -/
theorem sw_i {post : Int32 → S → Prop} {W1 : S → va_W} (hr : va_Run p l e R s m args below meth c H locs cells slots 0 0 (F0 m pc ls st0) rest (va_Qi post (fun u => BU D (W1 u) (va_A ws H.size)) (va_A ws H.size) a) (va_A ws H.size)) (hD : va_D A ws) (hS : va_S A s.heap H locs) (hA : ∀ q, s.heap.size ≤ q → A q)
    (kk : ∀ (r : Int32) (u : S) (H1 : Heap) (locs1 : List Loc), post r u → va_P D vwCl (W1 u) H1 → va_D A (W1 u) → va_S A s.heap H1 locs1 → W p l e R s m args below meth c H1 locs1 cells slots Q (F0 m (pc + 3) ls (.int r :: rest))) : W p l e R s m args below meth c H locs cells slots Q (F0 m pc ls st0) := by
  have hF : ∀ q, va_A ws H.size q → A q := fun q h => by
    rcases h with ⟨k, e, h⟩ | h
    · exact hD.2 k _ h
    · exact hA q (Nat.le_trans hS.1 h)
  refine va_calli hr hS (fun q _ h => hF q h) hF (fun r u t H1 locs1 ht hvm hw hB hz1 hk1 hS1 => ?_)
  obtain ⟨hP1, hD1⟩ := hB
  rw [ht] at hP1
  exact kk r u H1 locs1 hw hP1 (hD1.weaken fun _ _ _ h => hF _ h) hS1
theorem sw_v {post : S → Prop} {W1 : S → va_W} (hr : va_Run p l e R s m args below meth c H locs cells slots 0 0 (F0 m pc ls st0) rest (va_Qv post (fun u => BU D (W1 u) (va_A ws H.size)) (va_A ws H.size) a) (va_A ws H.size)) (hD : va_D A ws) (hS : va_S A s.heap H locs) (hA : ∀ q, s.heap.size ≤ q → A q)
    (kk : ∀ (u : S) (H1 : Heap) (locs1 : List Loc), post u → va_P D vwCl (W1 u) H1 → va_D A (W1 u) → va_S A s.heap H1 locs1 → W p l e R s m args below meth c H1 locs1 cells slots Q (F0 m (pc + 3) ls rest)) : W p l e R s m args below meth c H locs cells slots Q (F0 m pc ls st0) := by
  have hF : ∀ q, va_A ws H.size q → A q := fun q h => by
    rcases h with ⟨k, e, h⟩ | h
    · exact hD.2 k _ h
    · exact hA q (Nat.le_trans hS.1 h)
  refine va_callv hr hS (fun q _ h => hF q h) hF (fun u t H1 locs1 ht hvm hw hB hz1 hk1 hS1 => ?_)
  obtain ⟨hP1, hD1⟩ := hB
  rw [ht] at hP1
  exact kk u H1 locs1 hw hP1 (hD1.weaken fun _ _ _ h => hF _ h) hS1
end Calls
/-- a contract out of a walk: the walk is told what it may use, and by 'fin' where it may end -/
theorem en {l : Launch} {y : MethodName} {wd wd' : List Cond} {rm : Room} {D : va_G} {tys : List (ClassId × FieldType)} {W0 : va_W} {sz : Nat} {av : List Value} {Qc : (Nat → Prop) → Array Value → State → Outcome → State → Prop} {cc : ByteArray} {maxL : Nat} {ret : Option FieldType} {own : String}
    (hy : plainName y.cls = true) (hw : wd = Cond.code y cc maxL ret :: wd') (hn : (lg_sl av).length ≤ maxL) (ho : y.cls = own)
    (body : ∀ (p : Program) (e : Env) (s : State) (m : MethodId) (args : Array Value) (below : List Frame) (meth : Method) (c : Code) (A : Nat → Prop) (Q : State → Prop) (H : Heap) (locs : List Loc) (ls : Array Slot), p.tables.exec = Jvm.exec → c.code = cc → meth.sig.returnType = ret → c.maxLocals = maxL → s.vm.findClass own = some m.cls → (∀ w ∈ wd, w.before args s = true) → meth.locks = false → (meth.name = y.name) → (∀ q : Nat, s.heap.size ≤ q → A q) → EnvN s → EnvS A s s.heap → va_K D vwCl tys s → Q = MQ below (Qc A) args s 0 0 A → va_P D vwCl W0 H → va_D A W0 → va_S A s.heap H locs → lv_has ls maxL (lv_args 0 av) →
      W p l e rm s m args below meth c H locs 0 0 Q (F0 m 0 ls [])) : Met l y wd rm (va_Pc av (PU D tys W0 sz)) (Qc (va_A W0 sz)) 0 0 (va_A W0 sz) := by
  refine Met.ofW (cc := cc) (maxL := maxL) (ret := ret) hy hw ?_
  intro p e s m args below meth c s₁ B hml hv
  obtain ⟨rfl, hsz, hP, hK, hD0, hN, hE⟩ := hv
  subst hsz
  rw [lg_entry_eq]
  exact body p e s m av.toArray below meth c (va_A W0 s.heap.size) _ s.heap [] _ B.exec B.bytes B.returns hml (by rw [← ho]; exact findClass_of_methodNamed B.named) (atoms_spec (ws := wd) B.pre) B.notSynchronized (name_of_methodNamed B.named B.method).1 (fun q h => Or.inr h) hN hE hK rfl hP (hD0.self) va_S.rf (lv_entry av hn)
section Ends
variable {p : Program} {l : Launch} {e : Env} {R : Room} {s : State} {m : MethodId} {args : Array Value} {below : List Frame} {meth : Method} {c : Code} {H : Heap} {locs : List Loc} {Q : State → Prop}
variable {pc : Nat} {ls : Array Slot} {A : Nat → Prop} {D : va_G} {S : Type} {cc : ByteArray}
theorem lf_i {post : Int32 → S → Prop} {W1 : S → va_W} {v : Int32} (hx : p.tables.exec = Jvm.exec) (hb : c.code = cc) (hr : meth.sig.returnType = some .int) (hlocks : meth.locks = false) (hQ : Q = MQ below (va_Qi post (fun u => BU D (W1 u) A) A) args s 0 0 A) (u0 : S) (hP : va_P D vwCl (W1 u0) H) (hD : va_D A (W1 u0)) (hS : va_S A s.heap H locs) (hdg : decode cc pc = .ok (.ireturn, 1)) (hpost : post v u0) : W p l e R s m args below meth c H locs 0 0 Q (F0 m pc ls [.int v]) := by
  rw [hQ]
  exact W.iret hx hb hr (fun t ht hW => ⟨⟨v, u0, rfl, hpost, by rw [ht]; exact hP, hD⟩, hS.F ht⟩) hS.2.2 hdg hlocks
theorem lf_z {post : Int32 → S → Prop} {W1 : S → va_W} {v : Int32} (hx : p.tables.exec = Jvm.exec) (hb : c.code = cc) (hr : meth.sig.returnType = some .boolean) (hlocks : meth.locks = false) (hQ : Q = MQ below (va_Qi post (fun u => BU D (W1 u) A) A) args s 0 0 A) (u0 : S) (hP : va_P D vwCl (W1 u0) H) (hD : va_D A (W1 u0)) (hS : va_S A s.heap H locs) (hdg : decode cc pc = .ok (.ireturn, 1)) (hn : narrow .boolean (.int v) = .int v) (hpost : post v u0) : W p l e R s m args below meth c H locs 0 0 Q (F0 m pc ls [.int v]) := by
  rw [hQ]
  exact W.zret hx hb hr hn (fun t ht hW => ⟨⟨v, u0, rfl, hpost, by rw [ht]; exact hP, hD⟩, hS.F ht⟩) hS.2.2 hdg hlocks
theorem lf_l {post : Int64 → S → Prop} {W1 : S → va_W} {v : Int64} (hx : p.tables.exec = Jvm.exec) (hb : c.code = cc) (hr : meth.sig.returnType = some .long) (hlocks : meth.locks = false) (hQ : Q = MQ below (va_Ql post (fun u => BU D (W1 u) A) A) args s 0 0 A) (u0 : S) (hP : va_P D vwCl (W1 u0) H) (hD : va_D A (W1 u0)) (hS : va_S A s.heap H locs) (hdg : decode cc pc = .ok (.lreturn, 1)) (hpost : post v u0) : W p l e R s m args below meth c H locs 0 0 Q (F0 m pc ls [.long v]) := by
  rw [hQ]
  exact W.lret hx hb hr (fun t ht hW => ⟨⟨v, u0, rfl, hpost, by rw [ht]; exact hP, hD⟩, hS.F ht⟩) hS.2.2 hdg hlocks
theorem lf_v {post : S → Prop} {W1 : S → va_W} (hx : p.tables.exec = Jvm.exec) (hb : c.code = cc) (hr : meth.sig.returnType = none) (hlocks : meth.locks = false) (hQ : Q = MQ below (va_Qv post (fun u => BU D (W1 u) A) A) args s 0 0 A) (u0 : S) (hP : va_P D vwCl (W1 u0) H) (hD : va_D A (W1 u0)) (hS : va_S A s.heap H locs) (hdg : decode cc pc = .ok (.return_, 1)) (hpost : post u0) : W p l e R s m args below meth c H locs 0 0 Q (F0 m pc ls []) := by
  rw [hQ]
  exact W.vret hx hb hr (fun t ht hW => ⟨⟨u0, rfl, hpost, by rw [ht]; exact hP, hD⟩, hS.F ht⟩) hS.2.2 hdg hlocks
end Ends
/-! numbers -/
theorem i_le {a b : Int32} (h : a ≤ b) : a.toInt ≤ b.toInt := Int32.le_iff_toInt_le.mp h
theorem i_lt {a b : Int32} (h : a < b) : a.toInt < b.toInt := Int32.lt_iff_toInt_lt.mp h
theorem i_nle {a b : Int32} (h : ¬ a ≤ b) : b.toInt < a.toInt := by
  have := mt Int32.le_iff_toInt_le.mpr h
  omega
theorem i_nlt {a b : Int32} (h : ¬ a < b) : b.toInt ≤ a.toInt := by
  have := mt Int32.lt_iff_toInt_lt.mpr h
  omega
theorem i_eq {a b : Int32} (h : a = b) : a.toInt = b.toInt := by rw [h]
theorem i_ne {a b : Int32} (h : ¬ a = b) : ¬ a.toInt = b.toInt := fun q => h (Int32.toInt_inj.mp q)
theorem ti_add {a b : Int32} (h1 : -2147483648 ≤ a.toInt + b.toInt) (h2 : a.toInt + b.toInt ≤ 2147483647) : (a + b).toInt = a.toInt + b.toInt := by
  rw [Int32.toInt_add]; exact Int.bmod_eq_of_le (by omega) (by omega)
theorem ti_sub {a b : Int32} (h1 : -2147483648 ≤ a.toInt - b.toInt) (h2 : a.toInt - b.toInt ≤ 2147483647) : (a - b).toInt = a.toInt - b.toInt := by
  rw [Int32.toInt_sub]; exact Int.bmod_eq_of_le (by omega) (by omega)
theorem ti_mul {a b : Int32} (h1 : -2147483648 ≤ a.toInt * b.toInt) (h2 : a.toInt * b.toInt ≤ 2147483647) : (a * b).toInt = a.toInt * b.toInt := by
  rw [Int32.toInt_mul]; exact Int.bmod_eq_of_le (by omega) (by omega)
theorem vi_mk {x : Int32} {n : Nat} (h0 : 0 ≤ x.toInt) (h1 : x.toInt < n) : vp_in x n := vp_in_iff.mpr ⟨h0, h1⟩
theorem li_m9 : (-9 : Int32).toInt = -9 := by decide
theorem li_m1 : (-1 : Int32).toInt = -1 := by decide
theorem li_0 : (0 : Int32).toInt = 0 := by decide
theorem li_1 : (1 : Int32).toInt = 1 := by decide
theorem li_2 : (2 : Int32).toInt = 2 := by decide
theorem li_3 : (3 : Int32).toInt = 3 := by decide
theorem li_4 : (4 : Int32).toInt = 4 := by decide
theorem li_6 : (6 : Int32).toInt = 6 := by decide
theorem li_7 : (7 : Int32).toInt = 7 := by decide
theorem li_8 : (8 : Int32).toInt = 8 := by decide
theorem li_10 : (10 : Int32).toInt = 10 := by decide
theorem li_11 : (11 : Int32).toInt = 11 := by decide
theorem li_33 : (33 : Int32).toInt = 33 := by decide
