/-! class and reference: staffs, standings, courses -/
theorem nn0 {n : Nat} (h : n < 2147483648) : ¬ nI n < 0 := fun q => by have := i_lt q; rw [nIT h, li_0] at this; omega
theorem c10 {d b : Nat} (hd : d < 3) (hb : b < 100) : (nI d * 10 + nI b).toNatClampNeg = 10 * d + b := by
  have f1 : (nI d).toInt = (d : Int) := nIT (by omega)
  have f2 : (nI b).toInt = (b : Int) := nIT (by omega)
  have e1 : (nI d * 10).toInt = (d : Int) * 10 := by rw [ti_mul (by rw [f1, li_10]; omega) (by rw [f1, li_10]; omega), f1, li_10]
  have e2 : (nI d * 10 + nI b).toInt = (d : Int) * 10 + b := by rw [ti_add (by rw [e1, f2]; omega) (by rw [e1, f2]; omega), e1, f2]
  exact ixT (by rw [e2]; omega)
theorem nb3 {d : Nat} (hd : d < 3) : 0 ≤ (nI d).toInt ∧ (nI d).toInt < 3 := by rw [nIT (by omega)]; omega
theorem c11 {d : Nat} (hd : d < 3) : (11 * nI d).toNatClampNeg = 11 * d := by
  have e := i11 (nb3 hd).1 (nb3 hd).2
  rw [nIT (by omega)] at e
  exact ixT (by rw [e]; omega)
theorem c11b {d b : Nat} (hd : d < 3) (hb : b < 10) : (11 * nI d + 1 + nI b).toNatClampNeg = 11 * d + 1 + b := by
  have f1 : (nI d).toInt = (d : Int) := nIT (by omega)
  have f2 : (nI b).toInt = (b : Int) := nIT (by omega)
  have e := i11b (d := nI d) (b := nI b) (by rw [f1]; omega) (by rw [f1]; omega) (by rw [f2]; omega) (by rw [f2]; omega)
  rw [f1, f2] at e
  exact ixT (by rw [e]; omega)
theorem isStf_t {d : Nat} (hd : d < 3) : isStf (nI d) = true := by
  unfold isStf
  rw [if_neg (nn0 (by omega)), if_neg (fun q => by have := i_le q; rw [nIT (by omega), li_3] at this; omega)]
theorem cl {n : Nat} (h : n < 2147483648) : (nI n).toNatClampNeg = n := nI_clamp h
theorem sLen_n {v : Stf} {d : Nat} (hd : d < 3) : sLen v (nI d) = v.2 d := by
  unfold sLen; rw [if_pos (isStf_t hd), cl (by omega)]
theorem sHas_t {v : Stf} {d b : Nat} (hd : d < 3) (hb : b < 1000) (h : (b : Int) < (v.2 d).toInt) : sHas v (nI d) (nI b) = true := by
  unfold sHas
  rw [if_pos (isStf_t hd), if_neg (nn0 (by omega)), cl (by omega), if_neg (fun q => by have := i_le q; rw [nIT (by omega)] at this; omega)]
theorem sHas_f {v : Stf} {d b : Nat} (hd : d < 3) (hb : b < 1000) (h : (v.2 d).toInt ≤ (b : Int)) : sHas v (nI d) (nI b) = false := by
  unfold sHas
  rw [if_pos (isStf_t hd), if_neg (nn0 (by omega)), cl (by omega), if_pos (Int32.le_iff_toInt_le.mpr (by rw [nIT (by omega)]; exact h))]
theorem sAt_t {v : Stf} {d b : Nat} (hd : d < 3) (hb : b < 100) (h : (b : Int) < (v.2 d).toInt) : sAt v (nI d) (nI b) = v.1 (10 * d + b) := by
  unfold sAt; rw [if_pos (sHas_t hd (by omega) h), c10 hd hb]
theorem sAt_f {v : Stf} {d b : Nat} (hd : d < 3) (hb : b < 1000) (h : (v.2 d).toInt ≤ (b : Int)) : sAt v (nI d) (nI b) = -9 := by
  unfold sAt; rw [if_neg (by rw [sHas_f hd hb h]; decide)]
theorem sRep_t {v : Stf} {d b : Nat} {k : Int32} (hd : d < 3) (hb : b < 100) (h : (b : Int) < (v.2 d).toInt) : sRep v (nI d) (nI b) k = (upd v.1 (10 * d + b) k, v.2) := by
  unfold sRep; rw [if_pos (sHas_t hd (by omega) h), c10 hd hb]
theorem sRep_f {v : Stf} {d b : Nat} {k : Int32} (hd : d < 3) (hb : b < 1000) (h : (v.2 d).toInt ≤ (b : Int)) : sRep v (nI d) (nI b) k = v := by
  unfold sRep; rw [if_neg (by rw [sHas_f hd hb h]; decide)]
theorem sSet_t {v : Stf} {d : Nat} {n : Int32} (hd : d < 3) (h0 : 0 ≤ n.toInt) (h1 : n.toInt ≤ 10) : sSet v (nI d) n = (v.1, upd v.2 d n) := by
  unfold sSet
  rw [if_pos (isStf_t hd), if_neg (fun q => by have := i_lt q; rw [li_0] at this; omega), if_neg (fun q => by have := i_lt q; rw [li_10] at this; omega), cl (by omega)]
/-- the class's staffs and the reference's row tell the same -/
def SR (v : Stf) (f : Fn) : Prop := ∀ d : Nat, d < 3 → v.2 d = f (11 * d) ∧ (0 ≤ (v.2 d).toInt ∧ (v.2 d).toInt ≤ 10) ∧ ∀ b : Nat, (b : Int) < (v.2 d).toInt → v.1 (10 * d + b) = f (11 * d + 1 + b) ∧ 0 ≤ (v.1 (10 * d + b)).toInt ∧ (v.1 (10 * d + b)).toInt ≤ 32
theorem SR.stf {v : Stf} {f : Fn} (h : SR v f) : StfOk v := fun d hd => (h d hd).2.1
theorem SR.nw {v : Stf} {f : Fn} (h : SR v f) : NwOk f := fun d hd => by rw [← (h d hd).1]; exact (h d hd).2.1
/-! a sign, by the class and by the reference -/
theorem tabs : ∀ q : Fin 15, xdv (nI q.val &&& 7).toNatClampNeg = stX (nI q.val) ∧ ydv (nI q.val &&& 7).toNatClampNeg = stY (nI q.val) := by decide +kernel
theorem dirK : ∀ k : Fin 24, dirOf (nI (k.val + 2)) = nI (k.val % 8) ∧ (nI (k.val + 2) < 18 → legOf (nI (k.val + 2)) = ldK (nI (k.val + 2)) ∧ ¬ 1 < ldK (nI (k.val + 2))) ∧ (¬ nI (k.val + 2) < 18 → ldK (nI (k.val + 2)) = 2 ∧ 1 < ldK (nI (k.val + 2))) := by decide +kernel
theorem fl_ld (x y : Int32) : onFl x y = (if inR x 0 6 = true then (if inR y 0 6 = true then true else false) else false) := by
  have k : ∀ z : Int32, (7 : Int32) ≤ z ↔ (6 : Int32) < z := fun z => by
    rw [Int32.le_iff_toInt_le, Int32.lt_iff_toInt_lt, li_7, li_6]; omega
  unfold onFl inR
  by_cases a : x < 0
  · simp [a]
  · by_cases b : (6 : Int32) < x
    · simp [a, b, k]
    · by_cases c : y < 0
      · simp [a, b, c, k]
      · by_cases d : (6 : Int32) < y
        · simp [a, b, c, d, k]
        · simp [a, b, c, d, k]
theorem go_ld {v : Stg} (hv : SOk v) {s : Nat} (h1 : 1 ≤ s) (h2 : s ≤ 24) : gX v (dirOf (nI (s + 1))) = v.1 + stX (ldD v.2.2.1 (nI (s + 1))) ∧ gY v (dirOf (nI (s + 1))) = v.2.1 + stY (ldD v.2.2.1 (nI (s + 1))) := by
  obtain ⟨a, b, c, d⟩ := hv
  obtain ⟨l, hl, el⟩ := nI_ofI c.1
  have e := (dirK ⟨s - 1, by omega⟩).1
  have es : (⟨s - 1, by omega⟩ : Fin 24).val + 2 = s + 1 := by show s - 1 + 2 = s + 1; omega
  rw [es] at e
  have e' : dirOf (nI (s + 1)) = nI ((s - 1) % 8) := e
  have eD : ldD v.2.2.1 (nI (s + 1)) = nI (l + (s - 1) % 8) := by
    show v.2.2.1 + dirOf (nI (s + 1)) = _
    rw [e', el, nI_add]
  have t := tabs ⟨l + (s - 1) % 8, by omega⟩
  rw [eD]
  unfold gX gY
  rw [e', el, nI_add]
  exact ⟨by rw [t.1], by rw [t.2]⟩
theorem goB_ld {v : Stg} (hv : SOk v) {s : Nat} (h1 : 1 ≤ s) (h2 : s ≤ 24) : goB v (dirOf (nI (s + 1))) = ldG v.1 v.2.1 v.2.2.1 (nI (s + 1)) := by
  obtain ⟨e1, e2⟩ := go_ld hv h1 h2
  unfold goB ldG
  rw [fl_ld, e1, e2]
theorem tk_ld {v : Stg} (hv : SOk v) {k : Nat} (hk : k ≤ 32) : tkB v (nI k) = ldV v (nI k) ∧ (ldV v (nI k) = true → tkS v (nI k) = ldS v (nI k)) ∧ (ldV v (nI k) = false → tkS v (nI k) = v) := by
  by_cases k0 : k = 0
  · subst k0
    refine ⟨rfl, fun _ => rfl, fun h => absurd (show true = false from h) (by decide)⟩
  · obtain ⟨s, rfl⟩ : ∃ s, k = s + 1 := ⟨k - 1, by omega⟩
    have n0 : ¬ nI (s + 1) = 0 := fun q => by have := i_eq q; rw [nIT (by omega), li_0] at this; omega
    unfold tkB tkS ldV ldB
    rw [if_neg n0, if_neg n0]
    rcases sg_cases (s := s) (by omega) with ⟨s0, h1, h2, h3⟩ | ⟨s1, s2, h1, h2⟩ | ⟨s1, h1⟩
    · rw [if_pos h3, if_pos h3, if_pos h1, if_pos h2]
      refine ⟨rfl, fun _ => ?_, fun h => absurd h (by decide)⟩
      unfold ldS ldX ldY ldL ldW
      rw [if_pos h1, if_pos h1, if_pos h1, if_pos h1, if_pos h2, if_pos h2, if_pos h2, if_pos h3]
    · have n1 : ¬ nI (s + 1) = 1 := fun q => by have := i_eq q; rw [nIT (by omega), li_1] at this; omega
      have t := (dirK ⟨s - 1, by omega⟩).2
      rw [show (⟨s - 1, by omega⟩ : Fin 24).val + 2 = s + 1 from by show s - 1 + 2 = s + 1; omega] at t
      rw [if_neg n1, if_neg n1, if_pos h1, if_pos h1, if_pos h1, if_neg h2]
      have eg := goB_ld hv s1 s2
      obtain ⟨ex, ey⟩ := go_ld hv s1 s2
      have eS : ldS v (nI (s + 1)) = (v.1 + stX (ldD v.2.2.1 (nI (s + 1))), v.2.1 + stY (ldD v.2.2.1 (nI (s + 1))), v.2.2.1, ldK (nI (s + 1))) := by
        unfold ldS ldX ldY ldL ldW
        rw [if_pos h1, if_pos h1, if_pos h1, if_pos h1, if_neg h2, if_neg h2, if_neg h2]
      by_cases q : nI (s + 1) < 18
      · obtain ⟨el, ek⟩ := t.1 q
        rw [if_pos q, if_pos q, if_neg ek, el]
        by_cases z : v.2.2.2 = ldK (nI (s + 1))
        · rw [if_pos z, if_pos z, if_pos z]
          exact ⟨rfl, fun h => absurd h (by decide), fun _ => rfl⟩
        · rw [if_neg z, if_neg z, if_neg z, eg]
          refine ⟨rfl, fun h => ?_, fun h => ?_⟩
          · unfold goS; rw [eg, if_pos h, eS, ex, ey]
          · unfold goS; rw [eg, if_neg (by rw [h]; decide)]
      · obtain ⟨el, ek⟩ := t.2 q
        rw [if_neg q, if_neg q, if_pos ek, eg]
        refine ⟨rfl, fun h => ?_, fun h => ?_⟩
        · unfold goS; rw [eg, if_pos h, eS, ex, ey, el]
        · unfold goS; rw [eg, if_neg (by rw [h]; decide)]
    · have n1 : ¬ nI (s + 1) = 1 := fun q => by have := i_eq q; rw [nIT (by omega), li_1] at this; omega
      rw [if_neg n1, if_neg n1, if_neg h1, if_neg h1, if_neg h1]
      refine ⟨rfl, fun _ => ?_, fun h => absurd h (by decide)⟩
      unfold ldS ldX ldY ldL ldW trn
      rw [if_neg h1, if_neg h1, if_neg h1, if_neg h1]
/-! courses -/
theorem isMom_t {n : Nat} (h : n ≤ 10) : isMom (nI n) = true := by
  unfold isMom
  rw [if_neg (nn0 (by omega)), if_neg (fun q => by have := i_lt q; rw [nIT (by omega), li_10] at this; omega)]
def sV (s : DS) (j : Nat) : Stg := (s.1 j, s.2.1 j, s.2.2.1 j, s.2.2.2.1 j)
def cV (c : Crs) (j : Nat) : Stg := (c.1 j, c.2.1 j, c.2.2.1 j, c.2.2.2.1 j)
/-- a course and the reference's standings are the same up to n -/
def CR (c : Crs) (s : DS) (n : Nat) : Prop := (∀ j, j ≤ n → cV c j = sV s j ∧ SOk (sV s j)) ∧ (∀ j, j < n → ((s.1 (j + 1)).toInt - (s.1 j).toInt).natAbs ≤ 1 ∧ ((s.2.1 (j + 1)).toInt - (s.2.1 j).toInt).natAbs ≤ 1) ∧ c.2.2.2.2.1 = s.2.2.2.2.1 ∧ c.2.2.2.2.2 = sV s n
theorem cNote_t {c : Crs} {n : Nat} (h : n ≤ 10) : cNote c (nI n) = (upd c.1 n c.2.2.2.2.2.1, upd c.2.1 n c.2.2.2.2.2.2.1, upd c.2.2.1 n c.2.2.2.2.2.2.2.1, upd c.2.2.2.1 n c.2.2.2.2.2.2.2.2, c.2.2.2.2) := by
  unfold cNote; rw [if_pos (isMom_t h), cl (by omega)]
/-- one beat: the course notes v, the reference writes the same -/
theorem CR_step {c c' : Crs} {s s' : DS} {n : Nat} (hn : n < 10) (h : CR c s n) {v : Stg} (hv : SOk v) (hx : (v.1.toInt - (s.1 n).toInt).natAbs ≤ 1) (hy : (v.2.1.toInt - (s.2.1 n).toInt).natAbs ≤ 1)
    (e1 : c'.1 = c.1) (e2 : c'.2.1 = c.2.1) (e3 : c'.2.2.1 = c.2.2.1) (e4 : c'.2.2.2.1 = c.2.2.2.1) (e5 : c'.2.2.2.2.2 = v) (f1 : s'.1 = upd s.1 (n + 1) v.1) (f2 : s'.2.1 = upd s.2.1 (n + 1) v.2.1) (f3 : s'.2.2.1 = upd s.2.2.1 (n + 1) v.2.2.1) (f4 : s'.2.2.2.1 = upd s.2.2.2.1 (n + 1) v.2.2.2) (eb : c'.2.2.2.2.1 = s'.2.2.2.2.1) : CR (cNote c' (nI n + 1)) s' (n + 1) := by
  rw [show nI n + 1 = nI (n + 1) from nI_1 n, cNote_t (by omega)]
  obtain ⟨h1, h2, h3, h4⟩ := h
  have eV : sV s' (n + 1) = v := by
    unfold sV; rw [f1, f2, f3, f4]; simp [upd]
  have eJ : ∀ j, j ≤ n → sV s' j = sV s j := fun j hj => by
    have : ¬ j = n + 1 := by omega
    unfold sV; rw [f1, f2, f3, f4]; simp [upd, this]
  refine ⟨fun j hj => ?_, fun j hj => ?_, eb, ?_⟩
  · by_cases q : j = n + 1
    · subst q
      rw [eV]
      refine ⟨?_, hv⟩
      unfold cV
      rw [e5]; simp [upd]
    · rw [eJ j (by omega)]
      obtain ⟨a, b⟩ := h1 j (by omega)
      refine ⟨?_, b⟩
      rw [← a]
      unfold cV
      rw [e1, e2, e3, e4]; simp [upd, q]
  · by_cases q : j = n
    · subst q
      have g1 : s'.1 (j + 1) = v.1 := by rw [f1]; simp [upd]
      have g2 : s'.1 j = s.1 j := by rw [f1]; simp [upd]
      have g3 : s'.2.1 (j + 1) = v.2.1 := by rw [f2]; simp [upd]
      have g4 : s'.2.1 j = s.2.1 j := by rw [f2]; simp [upd]
      rw [g1, g2, g3, g4]; exact ⟨hx, hy⟩
    · have a1 : ¬ j + 1 = n + 1 := by omega
      have a2 : ¬ j = n + 1 := by omega
      have g1 : s'.1 (j + 1) = s.1 (j + 1) := by rw [f1]; simp [upd, q]
      have g2 : s'.1 j = s.1 j := by rw [f1]; simp [upd, a2]
      have g3 : s'.2.1 (j + 1) = s.2.1 (j + 1) := by rw [f2]; simp [upd, q]
      have g4 : s'.2.1 j = s.2.1 j := by rw [f2]; simp [upd, a2]
      rw [g1, g2, g3, g4]; exact h2 j (by omega)
  · show c'.2.2.2.2.2 = sV s' (n + 1)
    rw [e5, eV]
theorem ld0 (v : Stg) : ldV v 0 = true ∧ ldS v 0 = v := ⟨rfl, rfl⟩
theorem nat0 (x : Int32) : (x.toInt - x.toInt).natAbs ≤ 1 := by omega
theorem dnP_t {s : DS} {n : Nat} {g : Int32} (hn : n < 1000) (h : ldV (sV s n) g = true) : (dnP s n g).1 = upd s.1 (n + 1) (ldS (sV s n) g).1 ∧ (dnP s n g).2.1 = upd s.2.1 (n + 1) (ldS (sV s n) g).2.1 ∧ (dnP s n g).2.2.1 = upd s.2.2.1 (n + 1) (ldS (sV s n) g).2.2.1 ∧ (dnP s n g).2.2.2.1 = upd s.2.2.2.1 (n + 1) (ldS (sV s n) g).2.2.2 ∧ (dnP s n g).2.2.2.2.1 = s.2.2.2.2.1 := by
  have h' : ldB (s.1 n) (s.2.1 n) (s.2.2.1 n) (s.2.2.2.1 n) g = true := h
  unfold dnP
  rw [nI_1, cl (by omega), cl (by omega), if_pos h']
  exact ⟨rfl, rfl, rfl, rfl, rfl⟩
theorem dnP_f {s : DS} {n : Nat} {g : Int32} (hn : n < 1000) (h : ldV (sV s n) g = false) : (dnP s n g).1 = upd s.1 (n + 1) (s.1 n) ∧ (dnP s n g).2.1 = upd s.2.1 (n + 1) (s.2.1 n) ∧ (dnP s n g).2.2.1 = upd s.2.2.1 (n + 1) (s.2.2.1 n) ∧ (dnP s n g).2.2.2.1 = upd s.2.2.2.1 (n + 1) (s.2.2.2.1 n) ∧ (dnP s n g).2.2.2.2.1 = nI n := by
  have h' : ¬ ldB (s.1 n) (s.2.1 n) (s.2.2.1 n) (s.2.2.2.1 n) g = true := fun q => by rw [show ldB (s.1 n) (s.2.1 n) (s.2.2.1 n) (s.2.2.2.1 n) g = false from h] at q; exact absurd q (by decide)
  unfold dnP
  rw [nI_1, cl (by omega), cl (by omega), if_neg h']
  exact ⟨rfl, rfl, rfl, rfl, rfl⟩
/-- a beat at which nothing is danced -/
theorem CR_rest {c : Crs} {s : DS} {n : Nat} (hn : n < 10) (h : CR c s n) : CR (cNote c (nI n + 1)) (dnP s n 0) (n + 1) := by
  obtain ⟨p1, p2, p3, p4, p5⟩ := dnP_t (s := s) (n := n) (g := 0) (by omega) (ld0 _).1
  rw [(ld0 (sV s n)).2] at p1 p2 p3 p4
  exact CR_step hn h (h.1 n (Nat.le_refl n)).2 (nat0 _) (nat0 _) rfl rfl rfl rfl h.2.2.2 p1 p2 p3 p4 (h.2.2.1.trans p5.symm)
theorem ld_near {v : Stg} (hv : SOk v) {k : Nat} (hk : k ≤ 32) : ((ldS v (nI k)).1.toInt - v.1.toInt).natAbs ≤ 1 ∧ ((ldS v (nI k)).2.1.toInt - v.2.1.toInt).natAbs ≤ 1 ∧ (ldV v (nI k) = true → SOk (ldS v (nI k))) := by
  by_cases k0 : k = 0
  · subst k0
    exact ⟨nat0 _, nat0 _, fun _ => hv⟩
  · obtain ⟨s, rfl⟩ : ∃ s, k = s + 1 := ⟨k - 1, by omega⟩
    exact ⟨ldX_int hv, ldY_int hv, fun h => ldS_ok hv (by omega) h⟩
theorem CR_take {c : Crs} {s : DS} {n k : Nat} (hn : n < 10) (hk : k ≤ 32) (h : CR c s n) : CR (cNote (fTake c (nI k) n) (nI n + 1)) (dnP s n (nI k)) (n + 1) := by
  have hv := (h.1 n (Nat.le_refl n)).2
  obtain ⟨t1, t2, t3⟩ := tk_ld hv hk
  obtain ⟨n1, n2, n3⟩ := ld_near hv hk
  unfold fTake
  rw [h.2.2.2, t1]
  by_cases q : ldV (sV s n) (nI k) = true
  · rw [if_pos q, t2 q]
    obtain ⟨p1, p2, p3, p4, p5⟩ := dnP_t (s := s) (n := n) (g := nI k) (by omega) q
    exact CR_step hn h (n3 q) n1 n2 rfl rfl rfl rfl rfl p1 p2 p3 p4 (h.2.2.1.trans p5.symm)
  · have q2 : ldV (sV s n) (nI k) = false := Bool.eq_false_iff.mpr q
    rw [if_neg q, t3 q2]
    obtain ⟨p1, p2, p3, p4, p5⟩ := dnP_f (s := s) (n := n) (g := nI k) (by omega) q2
    exact CR_step (v := sV s n) hn h hv (nat0 _) (nat0 _) rfl rfl rfl rfl rfl p1 p2 p3 p4 p5.symm
/-- the troupe and the reference's beginnings and row tell the same -/
def TR (t : Trp) (mn : Int32) (bx bY bw nw : Fn) : Prop := t.2.2.2.1 = mn ∧ (0 ≤ mn.toInt ∧ mn.toInt ≤ 3) ∧ SR t.2.2.2.2 nw ∧ ∀ d : Nat, (d : Int) < mn.toInt → t.1 d = bx d ∧ t.2.1 d = bY d ∧ t.2.2.1 d = bw d ∧ SOk (bx d, bY d, bw d, 2)
theorem fol_dn {t : Trp} {mn : Int32} {bx bY bw nw : Fn} (h : TR t mn bx bY bw nw) {d : Nat} (hd : (d : Int) < mn.toInt) (rb : Int32) (k : Crs) : CR (fol t (nI d) rb k) (dnC bx bY bw nw (nI d) rb) 10 := by
  obtain ⟨t1, t2, t3, t4⟩ := h
  obtain ⟨b1, b2, b3, b4⟩ := t4 d hd
  have d3 : d < 3 := by omega
  obtain ⟨s1, s2, s3⟩ := t3 d d3
  have hb : tpBeg t k.2.2.2.2.2 (nI d) = (bx d, bY d, bw d, 2) := by
    unfold tpBeg
    rw [if_neg (nn0 (by omega)), if_pos (Int32.lt_iff_toInt_lt.mpr (by rw [nIT (by omega), t1]; exact hd)), cl (by omega), b1, b2, b3]
  unfold fol dnC dnT
  rw [hb, c11 d3, cl (n := d) (by omega)]
  have key : ∀ n, n ≤ 10 → CR (folL t (nI d) rb (cNote (k.1, k.2.1, k.2.2.1, k.2.2.2.1, -9, (bx d, bY d, bw d, 2)) 0) n) (dnL (nw (11 * d)) (dnSg nw (nI d)) rb (dn0 (bx d) (bY d) (bw d) (fun _ => 0) (fun _ => 0) (fun _ => 0) (fun _ => 0) (0, 0, 0, 0)) n) n := by
    intro n
    induction n with
    | zero =>
      intro _
      rw [folL, dnL]
      rw [show (0 : Int32) = nI 0 from rfl, cNote_t (by omega)]
      refine ⟨fun j hj => ?_, fun j hj => absurd hj (by omega), rfl, rfl⟩
      have j0 : j = 0 := by omega
      subst j0
      exact ⟨rfl, b4⟩
    | succ n ih =>
      intro hn
      have h0 := ih (by omega)
      rw [folL, dnL]
      generalize folL t (nI d) rb (cNote (k.1, k.2.1, k.2.2.1, k.2.2.2.1, -9, (bx d, bY d, bw d, 2)) 0) n = c0 at h0 ⊢
      generalize dnL (nw (11 * d)) (dnSg nw (nI d)) rb (dn0 (bx d) (bY d) (bw d) (fun _ => 0) (fun _ => 0) (fun _ => 0) (fun _ => 0) (0, 0, 0, 0)) n = s0 at h0 ⊢
      unfold fMid dnG
      rw [← s1]
      by_cases q : (n : Int) < (t.2.2.2.2.2 d).toInt
      · obtain ⟨g1, g2, g3⟩ := s3 n q
        rw [sAt_t d3 (by omega) q]
        have m9 : ¬ t.2.2.2.2.1 (10 * d + n) = -9 := fun e => by have := i_eq e; rw [li_m9] at this; omega
        have mle : ¬ t.2.2.2.2.2 d ≤ nI n := fun e => by have := i_le e; rw [nIT (by omega)] at this; omega
        rw [if_neg m9, if_neg mle]
        by_cases q2 : nI n = rb
        · rw [if_pos q2, if_pos q2]; exact CR_rest (by omega) h0
        · rw [if_neg q2, if_neg q2, h0.2.2.1]
          by_cases q3 : s0.2.2.2.2.1 = -9
          · rw [if_pos q3, if_pos q3]
            have eg : dnSg nw (nI d) n = t.2.2.2.2.1 (10 * d + n) := by
              show nw (11 * nI d + 1 + nI n).toNatClampNeg = _
              rw [c11b d3 (by omega), g1]
            obtain ⟨k2, hk2, ek2⟩ := nI_ofI g2
            rw [eg, ek2]
            exact CR_take (by omega) (by omega) h0
          · rw [if_neg q3, if_neg q3]; exact CR_rest (by omega) h0
      · rw [sAt_f d3 (by omega) (by omega), if_pos rfl, if_pos (Int32.le_iff_toInt_le.mpr (by rw [nIT (by omega)]; omega))]
        exact CR_rest (by omega) h0
  exact key 10 (Nat.le_refl 10)
