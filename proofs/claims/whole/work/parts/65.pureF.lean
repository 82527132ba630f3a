/-! all staffs -/
theorem so_eq {t : Trp} {mn : Int32} {bx bY bw nw : Fn} (h : TR t mn bx bY bw nw) (n : Nat) (hn : n ≤ 3) : soL t n = oaL bx bY bw nw 1 n := by
  induction n with
  | zero => rfl
  | succ n ih =>
    rw [soL, oaL, ih (by omega), if_neg (by decide), sLen_n (by omega), (h.2.2.1 n (by omega)).1]
    show _ = _ + (if (1 : Int32) = 1 then nw (11 * nI n).toNatClampNeg else _)
    rw [if_pos rfl, c11 (by omega)]
theorem bk_eq {t : Trp} {mn : Int32} {bx bY bw nw : Fn} (h : TR t mn bx bY bw nw) (k : Crs) (n : Nat) (hn : (n : Int) ≤ mn.toInt) : (bkL t k n).1 = oaL bx bY bw nw 2 n := by
  induction n with
  | zero => rfl
  | succ n ih =>
    have C := fol_dn h (d := n) (by omega) (-9) (bkL t k n).2
    have n3 : ¬ (2 : Int32) = 3 := by decide
    rw [bkL, oaL, if_neg n3]
    show (if (fol t (nI n) (-9) (bkL t k n).2).2.2.2.2.1 = -9 then (bkL t k n).1 else (bkL t k n).1 + 1) = _ + (if (2 : Int32) = 1 then _ else if (2 : Int32) = 2 then (if (dnC bx bY bw nw (nI n) (-9)).2.2.2.2.1 = -9 then 0 else 1) else 0)
    have n1 : ¬ (2 : Int32) = 1 := by decide
    rw [if_neg n1, if_pos rfl, C.2.2.1, ih (by omega)]
    split
    · exact (Int32.add_zero _).symm
    · rfl
def MT (bx bY bw nw : Fn) (d e : Nat) : Int32 := if meY bx bY bw nw (nI d) (nI e) 0 = -9 then (if meY bx bY bw nw (nI d) (nI e) 1 = -9 then 0 else 1) else 1
theorem tw_1 {t : Trp} {mn : Int32} {bx bY bw nw : Fn} (h : TR t mn bx bY bw nw) {d e : Nat} (hd : (d : Int) < mn.toInt) (he : (e : Int) < mn.toInt) (k1 k2 : Crs) (a : Int32) : twC (fol t (nI d) (-9) k1) (fol t (nI e) (-9) k2) a = a + MT bx bY bw nw e d := by
  have A := fol_dn h hd (-9) k1
  have B := fol_dn h he (-9) k2
  have e1 : fMeet (fol t (nI d) (-9) k1) (fol t (nI e) (-9) k2) = meY bx bY bw nw (nI e) (nI d) 0 := by
    rw [show fMeet (fol t (nI d) (-9) k1) (fol t (nI e) (-9) k2) = fMeet (fol t (nI e) (-9) k2) (fol t (nI d) (-9) k1) from fmL_sw _ _ 11 0 (by omega)]
    exact fMeet_eq B A
  have e2 : fCross (fol t (nI d) (-9) k1) (fol t (nI e) (-9) k2) = meY bx bY bw nw (nI e) (nI d) 1 := by
    rw [show fCross (fol t (nI d) (-9) k1) (fol t (nI e) (-9) k2) = fCross (fol t (nI e) (-9) k2) (fol t (nI d) (-9) k1) from fcL_sw A.nr B.nr 10 0 (by omega)]
    exact fCross_eq B A (by decide)
  unfold twC MT
  rw [e1, e2]
  split
  · split
    · exact (Int32.add_zero _).symm
    · rfl
  · rfl
theorem oa3 (bx bY bw nw : Fn) (n : Nat) : oaL bx bY bw nw 3 (n + 1) = oaI bx bY bw nw n (oaL bx bY bw nw 3 n + 0) n := by
  rw [oaL, if_pos rfl]; rfl
theorem oaI_s (bx bY bw nw : Fn) (n : Nat) (a : Int32) (k : Nat) : oaI bx bY bw nw n a (k + 1) = oaI bx bY bw nw n a k + MT bx bY bw nw n k := rfl
theorem tw_eq {t : Trp} {mn : Int32} {bx bY bw nw : Fn} (h : TR t mn bx bY bw nw) (k1 k2 : Crs) : (twO t (0, k1, k2) (mn).toNatClampNeg).1 = oaL bx bY bw nw 3 (mn).toNatClampNeg := by
  obtain ⟨t1, t2, t3, t4⟩ := h
  have h0 : TR t mn bx bY bw nw := ⟨t1, t2, t3, t4⟩
  have hc := clampT t2.1
  have key : ∀ q : Nat, (q : Int) = mn.toInt → q ≤ 3 → (twO t (0, k1, k2) q).1 = oaL bx bY bw nw 3 q := by
    intro q hq h3
    have es : t.2.2.2.1.toNatClampNeg = q := by rw [t1]; omega
    have I0 : ∀ (d : Nat) (s : Int32 × Crs × Crs), twI t d s 0 = s := fun _ _ => rfl
    have I1 : ∀ (d n : Nat) (s : Int32 × Crs × Crs), (d : Int) < mn.toInt → ((d + 1 + n : Nat) : Int) < mn.toInt → (twI t d s (n + 1)).1 = (twI t d s n).1 + MT bx bY bw nw (d + 1 + n) d := fun d n s h1 h2 => by
      rw [twI]
      exact tw_1 h0 h1 h2 _ _ _
    have O0 : twO t (0, k1, k2) 0 = (0, k1, k2) := rfl
    have O1 : ∀ n, twO t (0, k1, k2) (n + 1) = twI t n (twO t (0, k1, k2) n) (q - (n + 1)) := fun n => by rw [twO, es]
    rcases (show q = 0 ∨ q = 1 ∨ q = 2 ∨ q = 3 by omega) with rfl | rfl | rfl | rfl
    · rfl
    · rw [oa3, oaI, O1 0, show 1 - (0 + 1) = 0 from rfl, I0, O0, Int32.add_zero]
      rfl
    · rw [oa3, oaI_s, oaI, oa3, oaI, O1 1, show 2 - (1 + 1) = 0 from rfl, I0, O1 0, show 2 - (0 + 1) = 0 + 1 from rfl, I1 0 0 _ (by omega) (by omega), I0, O0, Int32.add_zero, Int32.add_zero]
      rfl
    · rw [oa3, oaI_s, oaI_s, oaI, oa3, oaI_s, oaI, oa3, oaI, O1 2, show 3 - (2 + 1) = 0 from rfl, I0, O1 1, show 3 - (1 + 1) = 0 + 1 from rfl, I1 1 0 _ (by omega) (by omega), I0, O1 0, show 3 - (0 + 1) = 1 + 1 from rfl, I1 0 1 _ (by omega) (by omega), I1 0 0 _ (by omega) (by omega), I0, O0, Int32.add_zero, Int32.add_zero, Int32.add_zero]
      rfl
  exact key _ hc (by omega)
theorem xCt_eq {tx : Txt} {t : Trp} {hi : His} {si : Sgt} {mn sn ln un : Int32} {bx bY bw nw : Fn} (h : TR t mn bx bY bw nw) (e1 : si.2.2.2 = sn) (e2 : tx.1 = ln) (e3 : hi.2.2.2.2 = un) (k1 k2 : Crs) (w : Int32) : xCt tx t hi si k1 k2 w = yCount bx bY bw nw mn sn ln un w := by
  have t1 := h.1
  have t2 := h.2.1
  have hc := clampT t2.1
  unfold xCt yCount
  rw [t1, e1, e2, e3]
  by_cases w0 : w = 0
  · rw [if_pos w0, if_pos w0]
  · rw [if_neg w0, if_neg w0]
    by_cases w1 : w = 1
    · rw [if_pos w1, if_pos w1, w1]; exact so_eq h _ (by omega)
    · rw [if_neg w1, if_neg w1]
      by_cases w2 : w = 2
      · rw [if_pos w2, if_pos w2, w2]; exact bk_eq h k1 _ (by omega)
      · rw [if_neg w2, if_neg w2]
        by_cases w3 : w = 3
        · rw [if_pos w3, if_pos w3, w3]; exact tw_eq h k1 k2
        · rw [if_neg w3, if_neg w3]
/-! staffs that change -/
theorem SR_set {v : Stf} {f : Fn} (h : SR v f) {d b : Nat} (hd : d < 3) (hb : (b : Int) < (v.2 d).toInt) {k : Int32} (k0 : 0 ≤ k.toInt) (k1 : k.toInt ≤ 32) : SR (upd v.1 (10 * d + b) k, v.2) (upd f (11 * d + 1 + b) k) := by
  have hb10 : b < 10 := by have := (h d hd).2.1; omega
  intro e he
  obtain ⟨h1, h2, h3⟩ := h e he
  refine ⟨?_, h2, fun c hc => ?_⟩
  · show v.2 e = upd f (11 * d + 1 + b) k (11 * e)
    rw [upd, if_neg (by omega)]; exact h1
  · have hc' : (c : Int) < (v.2 e).toInt := hc
    have c10 : c < 10 := by omega
    show upd v.1 (10 * d + b) k (10 * e + c) = upd f (11 * d + 1 + b) k (11 * e + 1 + c) ∧ 0 ≤ (upd v.1 (10 * d + b) k (10 * e + c)).toInt ∧ (upd v.1 (10 * d + b) k (10 * e + c)).toInt ≤ 32
    rw [upd, upd]
    by_cases q : e = d ∧ c = b
    · obtain ⟨q1, q2⟩ := q
      rw [if_pos (by rw [q1, q2]), if_pos (by rw [q1, q2])]
      exact ⟨rfl, k0, k1⟩
    · rw [if_neg (by omega), if_neg (by omega)]
      exact h3 c hc'
/-- a change of one staff alone -/
def SD (d : Nat) (v w : Stf) : Prop := ∀ e : Nat, e < 3 → ¬ e = d → w.2 e = v.2 e ∧ ∀ b : Nat, b < 10 → w.1 (10 * e + b) = v.1 (10 * e + b)
theorem SD.rf (d : Nat) (v : Stf) : SD d v v := fun _ _ _ => ⟨rfl, fun _ _ => rfl⟩
theorem SD.set {d : Nat} {v w : Stf} (h : SD d v w) (hd : d < 3) {b : Nat} (hb : b < 10) (k : Int32) : SD d v (upd w.1 (10 * d + b) k, w.2) := fun e he hne => by
  obtain ⟨a, c⟩ := h e he hne
  refine ⟨a, fun j hj => ?_⟩
  show upd w.1 (10 * d + b) k (10 * e + j) = _
  rw [upd, if_neg (by omega)]; exact c j hj
theorem SD.len {d : Nat} {v w : Stf} (h : SD d v w) (n : Int32) : SD d v (w.1, upd w.2 d n) := fun e he hne => by
  obtain ⟨a, c⟩ := h e he hne
  refine ⟨?_, c⟩
  show upd w.2 d n e = _
  rw [upd, if_neg hne]; exact a
theorem mir_eq : ∀ k : Fin 33, mir (nI k.val) = mirY (nI k.val) ∧ 0 ≤ (mirY (nI k.val)).toInt ∧ (mirY (nI k.val)).toInt ≤ 32 := by decide +kernel
theorem mir_n {k : Int32} (h0 : 0 ≤ k.toInt) (h1 : k.toInt ≤ 32) : mir k = mirY k ∧ 0 ≤ (mirY k).toInt ∧ (mirY k).toInt ≤ 32 := by
  obtain ⟨j, hj, rfl⟩ := nI_ofI h0
  exact mir_eq ⟨j, by omega⟩
theorem mir_SR {v : Stf} {f : Fn} (h : SR v f) {d : Nat} (hd : d < 3) (n : Nat) (hn : (n : Int) ≤ (v.2 d).toInt) : SR (mirL v (nI d) n) (miL f (nI d) n) ∧ SD d v (mirL v (nI d) n) ∧ (mirL v (nI d) n).2 = v.2 := by
  induction n with
  | zero => exact ⟨h, SD.rf d v, rfl⟩
  | succ n ih =>
    obtain ⟨i1, i2, i3⟩ := ih (by omega)
    have n10 : n < 10 := by have := (h d hd).2.1; omega
    have hb : (n : Int) < ((mirL v (nI d) n).2 d).toInt := by rw [i3]; omega
    obtain ⟨g1, g2, g3⟩ := (i1 d hd).2.2 n hb
    obtain ⟨m1, m2, m3⟩ := mir_n g2 g3
    rw [mirL, miL, sAt_t hd (by omega) hb, sRep_t hd (by omega) hb, c11b hd n10, ← g1, m1]
    exact ⟨SR_set i1 hd hb m2 m3, i2.set hd n10 _, i3⟩
/-- another length, the signs below it told -/
theorem SR_len {v : Stf} {f : Fn} (h : SR v f) {d : Nat} (hd : d < 3) {w : Stf} {g : Fn} (hD : SD d v w) (hg : ∀ e : Nat, e < 3 → ¬ e = d → g (11 * e) = f (11 * e) ∧ ∀ b : Nat, b < 10 → g (11 * e + 1 + b) = f (11 * e + 1 + b)) (e0 : w.2 d = g (11 * d)) (e1 : 0 ≤ (w.2 d).toInt ∧ (w.2 d).toInt ≤ 10) (e2 : ∀ b : Nat, (b : Int) < (w.2 d).toInt → w.1 (10 * d + b) = g (11 * d + 1 + b) ∧ 0 ≤ (w.1 (10 * d + b)).toInt ∧ (w.1 (10 * d + b)).toInt ≤ 32) : SR w g := by
  intro e he
  by_cases q : e = d
  · subst q; exact ⟨e0, e1, e2⟩
  · obtain ⟨h1, h2, h3⟩ := h e he
    obtain ⟨a, b⟩ := hD e he q
    obtain ⟨g1, g2⟩ := hg e he q
    refine ⟨by rw [a, g1]; exact h1, by rw [a]; exact h2, fun c hc => ?_⟩
    rw [a] at hc
    rw [b c (by omega), g2 c (by omega)]
    exact h3 c hc
theorem ad_SR {v : Stf} {f : Fn} (h : SR v f) {d : Nat} (hd : d < 3) (hl : (v.2 d).toInt < 10) {k : Int32} (k0 : 0 ≤ k.toInt) (k1 : k.toInt ≤ 32) : SR (sAdd v (nI d) k) (yAdF f (nI d) k) ∧ SD d v (sAdd v (nI d) k) ∧ sLen (sAdd v (nI d) k) (nI d) = yAdF f (nI d) k (11 * d) ∧ (yAdF f (nI d) k (11 * d)).toInt = (v.2 d).toInt + 1 := by
  obtain ⟨h1, h2, h3⟩ := h d hd
  obtain ⟨L, eL, fL⟩ := nI_ofI h2.1
  have L10 : L < 10 := by omega
  have e1 : v.2 d + 1 = nI (L + 1) := by rw [fL, nI_1]
  have eA : sAdd v (nI d) k = (upd v.1 (10 * d + L) k, upd v.2 d (nI (L + 1))) := by
    unfold sAdd
    rw [if_pos (isStf_t hd), cl (by omega), if_pos (Int32.lt_iff_toInt_lt.mpr (by rw [li_10]; exact hl)), e1]
    have e2 : upd v.2 d (nI (L + 1)) d - 1 = nI L := by
      rw [upd, if_pos rfl]; exact nI_pred L
    rw [e2]
    exact sRep_t (v := (v.1, upd v.2 d (nI (L + 1)))) hd (by omega) (by show (L : Int) < (upd v.2 d (nI (L + 1)) d).toInt; rw [upd, if_pos rfl, nIT (by omega)]; omega)
  have eF : yAdF f (nI d) k = upd (upd f (11 * d) (nI (L + 1))) (11 * d + 1 + L) k := by
    unfold yAdF adU
    rw [c11 hd, ← h1, e1]
    have e3 : (11 * nI d + upd f (11 * d) (nI (L + 1)) (11 * d)).toNatClampNeg = 11 * d + 1 + L := by
      rw [upd, if_pos rfl]
      have a := i11 (nb3 hd).1 (nb3 hd).2
      rw [nIT (by omega)] at a
      have b : (11 * nI d + nI (L + 1)).toInt = 11 * (d : Int) + ((L : Int) + 1) := by
        rw [ti_add (by rw [a, nIT (by omega)]; omega) (by rw [a, nIT (by omega)]; omega), a, nIT (by omega)]; omega
      exact ixT (by rw [b]; omega)
    rw [e3]
  have eL1 : yAdF f (nI d) k (11 * d) = nI (L + 1) := by
    rw [eF, upd, if_neg (by omega), upd, if_pos rfl]
  rw [eL1]
  refine ⟨?_, ?_, ?_, by rw [nIT (by omega)]; omega⟩
  · rw [eA, eF]
    refine SR_len h hd ?_ (fun e he hne => ?_) ?_ ?_ (fun b hb => ?_)
    · exact ((SD.rf d v).set hd L10 k).len (nI (L + 1))
    · refine ⟨by rw [upd, if_neg (by omega), upd, if_neg (by omega)], fun b hb => by rw [upd, if_neg (by omega), upd, if_neg (by omega)]⟩
    · show upd v.2 d (nI (L + 1)) d = upd (upd f (11 * d) (nI (L + 1))) (11 * d + 1 + L) k (11 * d)
      rw [upd, if_pos rfl, upd, if_neg (by omega), upd, if_pos rfl]
    · show 0 ≤ (upd v.2 d (nI (L + 1)) d).toInt ∧ (upd v.2 d (nI (L + 1)) d).toInt ≤ 10
      rw [upd, if_pos rfl, nIT (by omega)]; omega
    · have hb' : (b : Int) < (upd v.2 d (nI (L + 1)) d).toInt := hb
      rw [upd, if_pos rfl, nIT (by omega)] at hb'
      show upd v.1 (10 * d + L) k (10 * d + b) = upd (upd f (11 * d) (nI (L + 1))) (11 * d + 1 + L) k (11 * d + 1 + b) ∧ 0 ≤ (upd v.1 (10 * d + L) k (10 * d + b)).toInt ∧ (upd v.1 (10 * d + L) k (10 * d + b)).toInt ≤ 32
      rw [upd, upd]
      by_cases q : b = L
      · rw [if_pos (by omega), if_pos (by omega)]; exact ⟨rfl, k0, k1⟩
      · rw [if_neg (by omega), if_neg (by omega), upd, if_neg (by omega)]
        exact h3 b (by omega)
  · rw [eA]; exact ((SD.rf d v).set hd L10 k).len (nI (L + 1))
  · rw [eA, sLen_n hd]
    show upd v.2 d (nI (L + 1)) d = _
    rw [upd, if_pos rfl]
