/-! the reference's reader: a dancer's text, a whole text -/
abbrev RS : Type := PS × Int32 × Fn × Fn × Fn × Fn
theorem rm11 {d : Nat} (h : d < 3) {rm : Int32} (h0 : 0 ≤ rm.toInt) (h3 : rm.toInt < 3) : (11 * d = (11 * rm).toNatClampNeg ↔ (d : Int) = rm.toInt) ∧ (11 * rm).toNatClampNeg = 11 * rm.toNatClampNeg := by
  have e := i11 h0 h3
  have hc := clampT h0
  have hc2 := clampT (x := 11 * rm) (by rw [e]; omega)
  rw [e] at hc2
  constructor
  · constructor
    · intro q; omega
    · intro q; omega
  · omega
theorem rsF_at {n : Int32} {f F : Fn} {rm k : Int32} {s : PS} (h0 : 0 ≤ rm.toInt) (h3 : rm.toInt < 3) (hF : NwOk F) (hb : rsB n f F rm k s = true) : (F (11 * rm).toNatClampNeg).toInt < 10 ∧ ∀ d : Nat, d < 3 → (rsF n f F rm k s (11 * d)).toInt = (F (11 * d)).toInt + (if (d : Int) = rm.toInt then 1 else 0) := by
  have hl := hF.at h0 h3
  have hne : (F (11 * rm).toNatClampNeg).toInt < 10 := by
    have : ¬ F (11 * rm).toNatClampNeg = 10 := by
      intro q; unfold rsB at hb; rw [if_pos q] at hb; exact absurd hb (by decide)
    have := i_ne this; rw [li_10] at this; omega
  refine ⟨hne, fun d hd => ?_⟩
  have e1 := i11 h0 h3
  have e2 : (upd F (11 * rm).toNatClampNeg (F (11 * rm).toNatClampNeg + 1) (11 * rm).toNatClampNeg).toInt = (F (11 * rm).toNatClampNeg).toInt + 1 := by rw [upd, if_pos rfl, ti_add (by rw [li_1]; omega) (by rw [li_1]; omega), li_1]
  have e3 := ti_add (a := 11 * rm) (b := upd F (11 * rm).toNatClampNeg (F (11 * rm).toNatClampNeg + 1) (11 * rm).toNatClampNeg) (by rw [e1, e2]; omega) (by rw [e1, e2]; omega)
  have hc2 := clampT (x := 11 * rm + upd F (11 * rm).toNatClampNeg (F (11 * rm).toNatClampNeg + 1) (11 * rm).toNatClampNeg) (by rw [e3, e1, e2]; omega)
  rw [e3, e1, e2] at hc2
  unfold rsF
  rw [if_pos hb]
  rw [upd, if_neg (by omega)]
  by_cases hd2 : (d : Int) = rm.toInt
  · have hd3 := ((rm11 hd h0 h3).1).mpr hd2
    rw [if_pos hd2, hd3, e2]
  · rw [if_neg hd2, upd, if_neg (fun q => hd2 (((rm11 hd h0 h3).1).mp q))]; omega
theorem rsF_ok {n : Int32} {f F : Fn} {rm k : Int32} {s : PS} (h0 : 0 ≤ rm.toInt) (h3 : rm.toInt < 3) (hF : NwOk F) : NwOk (rsF n f F rm k s) := by
  by_cases hb : rsB n f F rm k s = true
  · obtain ⟨a, b⟩ := rsF_at h0 h3 hF hb
    intro d hd
    have c := hF d hd
    have e := b d hd
    by_cases hd2 : (d : Int) = rm.toInt
    · have hd3 := ((rm11 hd h0 h3).1).mpr hd2
      rw [if_pos hd2] at e
      rw [← hd3] at a
      omega
    · rw [if_neg hd2] at e; omega
  · unfold rsF; rw [if_neg hb]; exact hF
theorem rsS_ok {n : Int32} {f F : Fn} (hn : n.toInt ≤ 100) {rm k : Int32} {s : PS} (h : PsOk n s) : PsOk n (rsS n f F rm k s) := by
  unfold rsS
  split
  · exact h
  · split
    · exact h
    · split
      · exact h
      · exact pNumS_ok f hn _ _ h
def mdL (n : Int32) (f : Fn) (rm : Int32) : Nat → PS × Fn → Bool × PS × Fn
  | 0, z => (false, z)
  | g + 1, z => if z.1.2.2.1 = 59 then (true, z) else if rsB n f z.2 rm z.1.2.2.1 z.1 = true then mdL n f rm g (pNext n f (rsS n f z.2 rm z.1.2.2.1 z.1), rsF n f z.2 rm z.1.2.2.1 z.1) else (false, rsS n f z.2 rm z.1.2.2.1 z.1, rsF n f z.2 rm z.1.2.2.1 z.1)
theorem mdL_ok {n : Int32} {f : Fn} (hn : n.toInt ≤ 100) {rm : Int32} (h0 : 0 ≤ rm.toInt) (h3 : rm.toInt < 3) (g : Nat) (z : PS × Fn) (hz : PsOk n z.1) (hF : NwOk z.2) : PsOk n (mdL n f rm g z).2.1 ∧ NwOk (mdL n f rm g z).2.2 := by
  induction g generalizing z with
  | zero => exact ⟨hz, hF⟩
  | succ g ih =>
    rw [mdL]
    split
    · exact ⟨hz, hF⟩
    · split
      · exact ih _ (pNext_ok f hn (rsS_ok hn hz)) (rsF_ok h0 h3 hF)
      · exact ⟨rsS_ok hn hz, rsF_ok h0 h3 hF⟩
def mdE (n : Int32) (f : Fn) (s : PS) (rm : Int32) (X Y L F : Fn) : Bool × RS := ((mdL n f rm 11 (pNext n f s, upd F (11 * rm).toNatClampNeg 0)).1, (mdL n f rm 11 (pNext n f s, upd F (11 * rm).toNatClampNeg 0)).2.1, (if (mdL n f rm 11 (pNext n f s, upd F (11 * rm).toNatClampNeg 0)).1 = true then rm + 1 else rm), X, Y, L, (mdL n f rm 11 (pNext n f s, upd F (11 * rm).toNatClampNeg 0)).2.2)
def mdW (n : Int32) (f : Fn) (s : PS) (rm : Int32) (X Y L F : Fn) : Bool × RS := if pNumB n f 0 7 s = true then mdE n f (pNumS n f 0 7 s) rm X Y (upd L (rm).toNatClampNeg (pNumS n f 0 7 s).2.2.2.1) F else (false, pNumS n f 0 7 s, rm, X, Y, L, F)
def mdV (n : Int32) (f : Fn) (s : PS) (rm : Int32) (X Y L F : Fn) : Bool × RS := if pNumB n f 0 6 s = true then mdW n f (pNumS n f 0 6 s) rm X (upd Y (rm).toNatClampNeg (pNumS n f 0 6 s).2.2.2.1) L F else (false, pNumS n f 0 6 s, rm, X, Y, L, F)
def mdU (n : Int32) (f : Fn) (s : PS) (rm : Int32) (X Y L F : Fn) : Bool × RS := if pNumB n f 0 6 s = true then mdV n f (pNumS n f 0 6 s) rm (upd X (rm).toNatClampNeg (pNumS n f 0 6 s).2.2.2.1) Y L F else (false, pNumS n f 0 6 s, rm, X, Y, L, F)
def mdT (n : Int32) (f : Fn) (s : PS) (rm : Int32) (X Y L F : Fn) : Bool × RS := if (pNext n f s).2.2.1 = 100 then (if rm = 3 then (false, pFail (pNext n f s), rm, X, Y, L, F) else mdU n f (pNext n f s) rm X Y L F) else (false, pFail (pNext n f s), rm, X, Y, L, F)
/-- what a dancer's text leaves -/
def RsOk (n : Int32) (z : RS) : Prop := PsOk n z.1 ∧ 0 ≤ z.2.1.toInt ∧ z.2.1.toInt ≤ 3 ∧ NwOk z.2.2.2.2.2
theorem nw0_ok {F : Fn} (hF : NwOk F) {rm : Int32} : NwOk (upd F (11 * rm).toNatClampNeg 0) := by
  intro d hd
  rw [upd]
  split
  · decide
  · exact hF d hd
/-- what a reading keeps: where it is, how many, the lengths; and one dancer more where it went well -/
def TrOk (n rm : Int32) (q : Bool × RS) : Prop := RsOk n q.2 ∧ (q.1 = true → q.2.2.1.toInt = rm.toInt + 1)
theorem trF {n rm : Int32} {p : PS} {X Y L F : Fn} (hp : PsOk n p) (h0 : 0 ≤ rm.toInt) (h3 : rm.toInt ≤ 3) (hF : NwOk F) : TrOk n rm (false, p, rm, X, Y, L, F) := ⟨⟨hp, h0, h3, hF⟩, fun q => absurd (show false = true from q) (by decide)⟩
theorem trE {n rm : Int32} {X Y L : Fn} {k : Bool × PS × Fn} (h0 : 0 ≤ rm.toInt) (h3 : rm.toInt < 3) (hk : PsOk n k.2.1 ∧ NwOk k.2.2) : TrOk n rm (k.1, k.2.1, (if k.1 = true then rm + 1 else rm), X, Y, L, k.2.2) := by
  have er : (rm + 1).toInt = rm.toInt + 1 := by rw [ti_add (by rw [li_1]; omega) (by rw [li_1]; omega), li_1]
  obtain ⟨b, p, F⟩ := k
  cases b with
  | true => exact ⟨⟨hk.1, by show 0 ≤ (rm + 1).toInt; omega, by show (rm + 1).toInt ≤ 3; omega, hk.2⟩, fun _ => er⟩
  | false => exact ⟨⟨hk.1, h0, by show rm.toInt ≤ 3; omega, hk.2⟩, fun q => absurd (show false = true from q) (by decide)⟩
theorem mdE_ok {n : Int32} {f : Fn} (hn : n.toInt ≤ 100) {s : PS} {rm : Int32} {X Y L F : Fn} (hs : PsOk n s) (h0 : 0 ≤ rm.toInt) (h3 : rm.toInt < 3) (hF : NwOk F) : TrOk n rm (mdE n f s rm X Y L F) := by
  have p1 := pNext_ok f hn hs
  unfold mdE
  generalize pNext n f s = u at p1 ⊢
  exact trE h0 h3 (mdL_ok hn h0 h3 11 (u, upd F (11 * rm).toNatClampNeg 0) p1 (nw0_ok hF))
theorem mdW_ok {n : Int32} {f : Fn} (hn : n.toInt ≤ 100) {s : PS} {rm : Int32} {X Y L F : Fn} (hs : PsOk n s) (h0 : 0 ≤ rm.toInt) (h3 : rm.toInt < 3) (hF : NwOk F) : TrOk n rm (mdW n f s rm X Y L F) := by
  have p1 := pNumS_ok f hn 0 7 hs
  unfold mdW
  generalize pNumS n f 0 7 s = u at p1 ⊢
  split
  · exact mdE_ok hn p1 h0 h3 hF
  · exact trF p1 h0 (by omega) hF
theorem mdV_ok {n : Int32} {f : Fn} (hn : n.toInt ≤ 100) {s : PS} {rm : Int32} {X Y L F : Fn} (hs : PsOk n s) (h0 : 0 ≤ rm.toInt) (h3 : rm.toInt < 3) (hF : NwOk F) : TrOk n rm (mdV n f s rm X Y L F) := by
  have p1 := pNumS_ok f hn 0 6 hs
  unfold mdV
  generalize pNumS n f 0 6 s = u at p1 ⊢
  split
  · exact mdW_ok hn p1 h0 h3 hF
  · exact trF p1 h0 (by omega) hF
theorem mdU_ok {n : Int32} {f : Fn} (hn : n.toInt ≤ 100) {s : PS} {rm : Int32} {X Y L F : Fn} (hs : PsOk n s) (h0 : 0 ≤ rm.toInt) (h3 : rm.toInt < 3) (hF : NwOk F) : TrOk n rm (mdU n f s rm X Y L F) := by
  have p1 := pNumS_ok f hn 0 6 hs
  unfold mdU
  generalize pNumS n f 0 6 s = u at p1 ⊢
  split
  · exact mdV_ok hn p1 h0 h3 hF
  · exact trF p1 h0 (by omega) hF
theorem mdT_ok {n : Int32} {f : Fn} (hn : n.toInt ≤ 100) {s : PS} {rm : Int32} {X Y L F : Fn} (hs : PsOk n s) (h0 : 0 ≤ rm.toInt) (h3 : rm.toInt ≤ 3) (hF : NwOk F) : TrOk n rm (mdT n f s rm X Y L F) := by
  have p1 := pNext_ok f hn hs
  unfold mdT
  generalize pNext n f s = u at p1 ⊢
  split
  · split
    · exact trF (show PsOk n (pFail u) from p1) h0 h3 hF
    · have hne : ¬ rm = 3 := by assumption
      have h4 : rm.toInt < 3 := by have := i_ne hne; rw [li_3] at this; omega
      exact mdU_ok hn p1 h0 h4 hF
  · exact trF (show PsOk n (pFail u) from p1) h0 h3 hF
def zrL (F : Fn) : Nat → Fn
  | 0 => F
  | n + 1 => upd (zrL F n) (nI n).toNatClampNeg 0
theorem zrL_at (F : Fn) (n : Nat) (hn : n ≤ 1000) : ∀ j, j < n → zrL F n j = 0 := by
  induction n with
  | zero => intro j hj; omega
  | succ n ih =>
    intro j hj
    rw [zrL, nI_clamp (by omega), upd]
    by_cases h : j = n
    · rw [if_pos h]
    · rw [if_neg h]; exact ih (by omega) j (by omega)
theorem zrL_ok (F : Fn) : NwOk (zrL F 33) := by
  intro d hd
  rw [zrL_at F 33 (by omega) (11 * d) (by omega)]; decide
def rBl (n : Int32) (f : Fn) (z : RS) : RS := ((yBl n f z.1.1, z.1.2), z.2)
theorem rBl_ok {n : Int32} {f : Fn} (hn : n.toInt ≤ 100) {z : RS} (h : RsOk n z) : RsOk n (rBl n f z) := ⟨yBl_in f hn h.1.1 h.1.2, h.2⟩
def mdTz (n : Int32) (f : Fn) (z : RS) : Bool × RS := mdT n f z.1 z.2.1 z.2.2.1 z.2.2.2.1 z.2.2.2.2.1 z.2.2.2.2.2
def daL (n : Int32) (f : Fn) : Nat → RS → Bool × RS
  | 0, z => (false, z)
  | g + 1, z => if n ≤ z.1.1 then (true, z) else if (mdTz n f z).1 = true then daL n f g (rBl n f (mdTz n f z).2) else (false, (mdTz n f z).2)
def daZ (n : Int32) (f : Fn) (t2 t3 t4 t5 : Int32) (X Y L F : Fn) : Bool × RS := daL n f 4 ((yBl n f 0, t2, t3, t4, t5), 0, X, Y, L, zrL F 33)
def nwL (f F : Fn) (mn : Int32) : Nat → Fn
  | 0 => f
  | k + 1 => upd (nwL f F mn k) (nI k).toNatClampNeg (if 11 * mn ≤ nI k then 0 else F (nI k).toNatClampNeg)
