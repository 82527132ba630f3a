/-! places: the class's bits and the reference's counts -/
def pX (f : Fn) (n : Nat) : Nat := (f n).toInt.toNat
theorem pX_n {f : Fn} {n : Nat} (h : 0 ≤ (f n).toInt ∧ (f n).toInt ≤ 6) : pX f n ≤ 6 ∧ f n = nI (pX f n) ∧ (pX f n : Int) = (f n).toInt := by
  unfold pX
  refine ⟨by omega, Int32.toInt_inj.mp ?_, by omega⟩
  rw [nIT (by omega)]; omega
def plc (f g : Fn) (n : Nat) : Nat := 7 * pX g n + pX f n
theorem bitq : ∀ q : Fin 49, (1 : Int64) <<< ((nI q.val).toInt64 &&& 63) = lN (2 ^ q.val) := by decide +kernel
theorem cBit_n {k : Crs} {n : Nat} (hn : n ≤ 10) (h : (0 ≤ (k.1 n).toInt ∧ (k.1 n).toInt ≤ 6) ∧ (0 ≤ (k.2.1 n).toInt ∧ (k.2.1 n).toInt ≤ 6)) : cBit k (nI n) = lN (2 ^ plc k.1 k.2.1 n) ∧ plc k.1 k.2.1 n < 49 := by
  obtain ⟨a1, a2, a3⟩ := pX_n h.1
  obtain ⟨b1, b2, b3⟩ := pX_n h.2
  have lt : plc k.1 k.2.1 n < 49 := by unfold plc; omega
  refine ⟨?_, lt⟩
  have e1 : (k.2.1 n * 7).toInt = (k.2.1 n).toInt * 7 := by rw [ti_mul (by rw [li_7]; omega) (by rw [li_7]; omega), li_7]
  have e : k.2.1 n * 7 + k.1 n = nI (plc k.1 k.2.1 n) := Int32.toInt_inj.mp (by
    rw [ti_add (by rw [e1]; omega) (by rw [e1]; omega), e1, nIT (by omega)]
    unfold plc; omega)
  unfold cBit
  rw [if_pos (isMom_t hn), cl (by omega), e]
  exact bitq ⟨plc k.1 k.2.1 n, lt⟩
def spS (q : Nat → Nat) : Nat → Nat
  | 0 => 0
  | n + 1 => spS q n ||| 2 ^ q n
theorem spS_lt (q : Nat → Nat) (n : Nat) (h : ∀ j, j < n → q j < 49) : spS q n < 2 ^ 64 := by
  induction n with
  | zero => rw [spS]; decide
  | succ n ih =>
    rw [spS]
    exact Nat.or_lt_two_pow (ih (fun j hj => h j (by omega))) (Nat.pow_lt_pow_right (by decide) (by have := h n (by omega); omega))
theorem spS_bit (q : Nat → Nat) (n p : Nat) : (spS q n).testBit p = true ↔ ∃ j, j < n ∧ q j = p := by
  induction n with
  | zero => rw [spS]; simp
  | succ n ih =>
    rw [spS, fb_bit_set, Bool.or_eq_true, ih, decide_eq_true_iff]
    constructor
    · rintro (⟨j, h1, h2⟩ | h)
      · exact ⟨j, by omega, h2⟩
      · exact ⟨n, by omega, h.symm⟩
    · rintro ⟨j, h1, h2⟩
      by_cases e : j = n
      · exact Or.inr (by rw [← h2, e])
      · exact Or.inl ⟨j, by omega, h2⟩
theorem spL_n {k : Crs} (h : nr k.1 k.2.1) (n : Nat) (hn : n ≤ 11) : spL k n = lN (spS (plc k.1 k.2.1) n) := by
  induction n with
  | zero => rfl
  | succ n ih => rw [spL, spS, ih (by omega), (cBit_n (by omega) (h.1 n (by omega))).1, fb_orL]
theorem plc_eq {f g : Fn} (h : nr f g) {i j : Nat} (hi : i ≤ 10) (hj : j ≤ 10) : plc f g i = plc f g j ↔ f i = f j ∧ g i = g j := by
  obtain ⟨a1, a2, a3⟩ := pX_n (h.1 i hi).1
  obtain ⟨b1, b2, b3⟩ := pX_n (h.1 i hi).2
  obtain ⟨c1, c2, c3⟩ := pX_n (h.1 j hj).1
  obtain ⟨d1, d2, d3⟩ := pX_n (h.1 j hj).2
  constructor
  · intro e
    unfold plc at e
    rw [a2, b2, c2, d2]
    have e1 : pX f i = pX f j := by omega
    have e2 : pX g i = pX g j := by omega
    rw [e1, e2]
    exact ⟨rfl, rfl⟩
  · intro ⟨e1, e2⟩
    unfold plc pX
    rw [e1, e2]
theorem anY_0 {f g : Fn} (n : Nat) (hn : n ≤ 10) (k : Nat) (hk : k ≤ n) : (anY f g n k = 0 ∨ anY f g n k = 1) ∧ (anY f g n k = 0 ↔ ∃ j, j < k ∧ f j = f n ∧ g j = g n) := by
  induction k with
  | zero => exact ⟨Or.inr rfl, ⟨fun h => absurd (show (1 : Int32) = 0 from h) (by decide), fun ⟨j, h, _⟩ => absurd h (by omega)⟩⟩
  | succ k ih =>
    obtain ⟨i1, i2⟩ := ih (by omega)
    have ea : atY f g (nI k) (f (nI n).toNatClampNeg) (g (nI n).toNatClampNeg) = true ↔ f k = f n ∧ g k = g n := by rw [atY_t, cl (by omega), cl (by omega)]
    rw [anY]
    by_cases z : anY f g n k = 0
    · rw [if_pos z]
      obtain ⟨j, j1, j2⟩ := i2.mp z
      exact ⟨Or.inl rfl, ⟨fun _ => ⟨j, by omega, j2⟩, fun _ => rfl⟩⟩
    · rw [if_neg z]
      by_cases q : atY f g (nI k) (f (nI n).toNatClampNeg) (g (nI n).toNatClampNeg) = true
      · rw [if_pos q]
        exact ⟨Or.inl rfl, ⟨fun _ => ⟨k, by omega, ea.mp q⟩, fun _ => rfl⟩⟩
      · rw [if_neg q]
        refine ⟨Or.inr rfl, ⟨fun h => absurd h (by decide), fun ⟨j, j1, j2⟩ => ?_⟩⟩
        exfalso
        by_cases e : j = k
        · exact q (ea.mpr (by rw [← e]; exact j2))
        · exact z (i2.mpr ⟨j, by omega, j2⟩)
theorem spY_n {f g : Fn} (h : nr f g) (n : Nat) (hn : n ≤ 11) : spY f g n = nI (fb_ct (spS (plc f g) n).testBit 64) := by
  induction n with
  | zero =>
    rw [spY, spS, fb_ct_zero.mpr (fun k _ => Nat.zero_testBit k)]
    rfl
  | succ n ih =>
    have lt : plc f g n < 64 := by
      have := (pX_n (h.1 n (by omega)).1).1
      have := (pX_n (h.1 n (by omega)).2).1
      unfold plc; omega
    rw [spY, spS, pop_set _ _ lt, ih (by omega)]
    obtain ⟨a1, a2⟩ := anY_0 (f := f) (g := g) n (by omega) n (Nat.le_refl n)
    have e : (spS (plc f g) n).testBit (plc f g n) = true ↔ anY f g n n = 0 := by
      rw [spS_bit, a2]
      constructor
      · rintro ⟨j, j1, j2⟩; exact ⟨j, j1, (plc_eq h (by omega) (by omega)).mp j2⟩
      · rintro ⟨j, j1, j2⟩; exact ⟨j, j1, (plc_eq h (by omega) (by omega)).mpr j2⟩
    by_cases z : anY f g n n = 0
    · rw [if_pos z, if_pos (e.mpr z)]; exact Int32.add_zero _
    · rw [if_neg z, if_neg (fun q => z (e.mp q))]; exact nI_1 _
theorem span_eq {c : Crs} {s : DS} (h : CR c s 10) : bcL (spL c 11) = spY s.1 s.2.1 11 := by
  rw [spL_n h.nr 11 (Nat.le_refl _), bcL_n (spS_lt _ _ (fun j hj => (cBit_n (by omega) (h.nr.1 j (by omega))).2)), ← spY_n h.nr 11 (Nat.le_refl _)]
  exact spY_eq h.fx h.fy 11 (by decide)
theorem w5 {w : Int32} (h : inR w 0 4 = true) : w = 0 ∨ w = 1 ∨ w = 2 ∨ w = 3 ∨ w = 4 := by
  obtain ⟨a, b⟩ := inR_in h
  rw [li_0] at a
  rw [li_4] at b
  rcases (show w.toInt = 0 ∨ w.toInt = 1 ∨ w.toInt = 2 ∨ w.toInt = 3 ∨ w.toInt = 4 by omega) with q | q | q | q | q
  · exact Or.inl (Int32.toInt_inj.mp (by rw [q]; rfl))
  · exact Or.inr (Or.inl (Int32.toInt_inj.mp (by rw [q]; rfl)))
  · exact Or.inr (Or.inr (Or.inl (Int32.toInt_inj.mp (by rw [q]; rfl))))
  · exact Or.inr (Or.inr (Or.inr (Or.inl (Int32.toInt_inj.mp (by rw [q]; rfl)))))
  · exact Or.inr (Or.inr (Or.inr (Or.inr (Int32.toInt_inj.mp (by rw [q]; rfl)))))
theorem xStaff_eq {t : Trp} {mn : Int32} {bx bY bw nw : Fn} (h : TR t mn bx bY bw nw) (k : Crs) (d w : Int32) : xStaff t k d w = yStaff bx bY bw nw mn d w := by
  have h0 := h
  obtain ⟨t1, t2, t3, t4⟩ := h
  unfold xStaff yStaff
  rw [dn_eq t1 t2.1 t2.2]
  by_cases hd : inR d 0 (mn - 1) = true
  · obtain ⟨e, rfl, he, e3⟩ := dn_n hd t2.1 t2.2
    rw [if_pos hd, if_pos hd]
    have C := fol_dn h0 he (-9) k
    by_cases hw : inR w 0 4 = true
    · rw [if_pos hw]
      rcases w5 hw with rfl | rfl | rfl | rfl | rfl
      · rw [if_pos rfl]
        show _ = nw (11 * nI e).toNatClampNeg
        rw [sLen_n e3, c11 e3]; exact (t3 e e3).1
      · rw [if_neg (by decide), if_pos rfl]; exact C.2.2.1
      · rw [if_neg (by decide), if_neg (by decide), if_pos rfl]; exact span_eq C
      · rw [if_neg (by decide), if_neg (by decide), if_neg (by decide), if_pos rfl, shL_eq]; exact shY_eq C.fw 10 (by decide)
      · rw [if_neg (by decide), if_neg (by decide), if_neg (by decide), if_neg (by decide), if_pos rfl]
        show hoL _ 10 0 = homY _ _
        rw [hoL_eq _ 10 0 (by omega)]; exact homY_eq C.fx C.fy
    · rw [if_neg hw, if_neg (fun q => hw (by rw [q]; decide)), if_neg (fun q => hw (by rw [q]; decide)), if_neg (fun q => hw (by rw [q]; decide)), if_neg (fun q => hw (by rw [q]; decide)), if_neg (fun q => hw (by rw [q]; decide))]
  · rw [if_neg hd, if_neg hd]
/-! what was seen -/
def GR (v : Sgt) (sn : Int32) (sb sp : Fn) : Prop := v.2.2.2 = sn ∧ (0 ≤ sn.toInt ∧ sn.toInt ≤ 6) ∧ ∀ k : Nat, (k : Int) < sn.toInt → v.1 k = sb k ∧ (0 ≤ (sb k).toInt ∧ (sb k).toInt ≤ 10) ∧ (0 ≤ (v.2.1 k).toInt ∧ (v.2.1 k).toInt ≤ 6) ∧ (0 ≤ (v.2.2.1 k).toInt ∧ (v.2.2.1 k).toInt ≤ 6) ∧ (sp k).toInt = 7 * (v.2.1 k).toInt + (v.2.2.1 k).toInt
theorem see_1 {c : Crs} {s : DS} (hC : CR c s 10) {v : Sgt} {sn : Int32} {sb sp : Fn} (hG : GR v sn sb sp) {k : Nat} (hk : (k : Int) < sn.toInt) : cAt c (v.1 (nI k).toNatClampNeg) (v.2.1 (nI k).toNatClampNeg) (v.2.2.1 (nI k).toNatClampNeg) = true ↔ 7 * s.1 (sb (nI k).toNatClampNeg).toNatClampNeg + s.2.1 (sb (nI k).toNatClampNeg).toNatClampNeg = sp (nI k).toNatClampNeg := by
  obtain ⟨g1, g2, g3⟩ := hG
  obtain ⟨a, b, x, y, p⟩ := g3 k hk
  rw [cl (by omega), a]
  obtain ⟨n, hn, en⟩ := nI_ofI b.1
  have n10 : n ≤ 10 := by omega
  rw [en, cAt_eq c n10, atY_t, cl (by omega), hC.fx n n10, hC.fy n n10]
  obtain ⟨r1, r2, _, _⟩ := (hC.1 n n10).2
  have r1' : 0 ≤ (s.1 n).toInt ∧ (s.1 n).toInt ≤ 6 := r1
  have r2' : 0 ≤ (s.2.1 n).toInt ∧ (s.2.1 n).toInt ≤ 6 := r2
  have e1 : (7 * s.1 n).toInt = 7 * (s.1 n).toInt := by rw [ti_mul (by rw [li_7]; omega) (by rw [li_7]; omega), li_7]
  have e2 : (7 * s.1 n + s.2.1 n).toInt = 7 * (s.1 n).toInt + (s.2.1 n).toInt := by rw [ti_add (by rw [e1]; omega) (by rw [e1]; omega), e1]
  rw [← Int32.toInt_inj (x := s.1 n), ← Int32.toInt_inj (x := s.2.1 n), ← Int32.toInt_inj (x := 7 * s.1 n + s.2.1 n), e2, p]
  omega
theorem agL_t {v : Sgt} {k : Crs} (n : Nat) : ∀ i, agL v k n i = true ↔ ∀ j, i ≤ j → j < i + n → cAt k (v.1 (nI j).toNatClampNeg) (v.2.1 (nI j).toNatClampNeg) (v.2.2.1 (nI j).toNatClampNeg) = true := by
  induction n with
  | zero => intro i; exact ⟨fun _ j h1 h2 => absurd h2 (by omega), fun _ => rfl⟩
  | succ n ih =>
    intro i
    rw [agL]
    by_cases q : cAt k (v.1 (nI i).toNatClampNeg) (v.2.1 (nI i).toNatClampNeg) (v.2.2.1 (nI i).toNatClampNeg) = true
    · rw [if_pos q, ih (i + 1)]
      constructor
      · intro h j h1 h2
        by_cases e : j = i
        · rw [e]; exact q
        · exact h j (by omega) (by omega)
      · intro h j h1 h2; exact h j (by omega) (by omega)
    · rw [if_neg q]
      exact ⟨fun h => absurd h (by decide), fun h => absurd (h i (Nat.le_refl i) (by omega)) q⟩
theorem seL_t {f g sb sp : Fn} (n : Nat) : ¬ seL f g sb sp n = 0 ↔ ∀ j, j < n → 7 * f (sb (nI j).toNatClampNeg).toNatClampNeg + g (sb (nI j).toNatClampNeg).toNatClampNeg = sp (nI j).toNatClampNeg := by
  induction n with
  | zero => exact ⟨fun _ j h => absurd h (by omega), fun _ => by rw [seL]; decide⟩
  | succ n ih =>
    rw [seL]
    by_cases z : seL f g sb sp n = 0
    · rw [if_pos z]
      exact ⟨fun h => absurd rfl h, fun h => absurd z (ih.mpr (fun j hj => h j (by omega)))⟩
    · rw [if_neg z]
      by_cases q : 7 * f (sb (nI n).toNatClampNeg).toNatClampNeg + g (sb (nI n).toNatClampNeg).toNatClampNeg = sp (nI n).toNatClampNeg
      · rw [if_pos q]
        refine ⟨fun _ j hj => ?_, fun _ => by decide⟩
        by_cases e : j = n
        · rw [e]; exact q
        · exact ih.mp z j (by omega)
      · rw [if_neg q]
        exact ⟨fun h => absurd rfl h, fun h => absurd (h n (by omega)) q⟩
theorem agr_eq {c : Crs} {s : DS} (hC : CR c s 10) {v : Sgt} {sn : Int32} {sb sp : Fn} (hG : GR v sn sb sp) : agr v c = true ↔ ¬ seL s.1 s.2.1 sb sp (sn).toNatClampNeg = 0 := by
  have hcl := clampT hG.2.1.1
  unfold agr
  rw [agL_t, seL_t, hG.1]
  constructor
  · intro h j hj; exact (see_1 hC hG (by omega)).mp (h j (by omega) (by omega))
  · intro h j _ hj; exact (see_1 hC hG (by omega)).mpr (h j (by omega))
theorem bitI : ∀ b : Fin 10, (1 : Int32) <<< (nI b.val &&& 31) = nI (2 ^ b.val) := by decide +kernel
/-- the beats that could be it: the same set, as a number below 1024 -/
theorem pb_eq {t : Trp} {mn : Int32} {bx bY bw nw : Fn} (h : TR t mn bx bY bw nw) (h1 : 1 ≤ mn.toInt) {v : Sgt} {sn : Int32} {sb sp : Fn} (hG : GR v sn sb sp) (k : Crs) (n : Nat) (hn : n ≤ 10) : (pbL t v k n).1 = unY bx bY bw nw sb sp (sn).toNatClampNeg n ∧ ∃ S : Nat, S < 2 ^ n ∧ (pbL t v k n).1 = nI S := by
  induction n with
  | zero => exact ⟨rfl, 0, by decide, rfl⟩
  | succ n ih =>
    obtain ⟨i1, S, s1, s2⟩ := ih (by omega)
    have C := fol_dn h (d := 0) (by omega) (nI n) (pbL t v k n).2
    have C' : CR (fol t 0 (nI n) (pbL t v k n).2) (dnC bx bY bw nw 0 (nI n)) 10 := C
    have e := agr_eq C' hG
    have eb := bitI ⟨n, by omega⟩
    have eb' : (1 : Int32) <<< (nI n &&& 31) = nI (2 ^ n) := eb
    rw [pbL, unY]
    by_cases z : seL (dnC bx bY bw nw 0 (nI n)).1 (dnC bx bY bw nw 0 (nI n)).2.1 sb sp (sn).toNatClampNeg = 0
    · rw [if_pos z]
      have za : ¬ agr v (fol t 0 (nI n) (pbL t v k n).2) = true := fun q => e.mp q z
      refine ⟨?_, S, ?_, ?_⟩
      · show (if agr v (fol t 0 (nI n) (pbL t v k n).2) = true then _ else (pbL t v k n).1) = _
        rw [if_neg za, i1]; exact (Int32.or_zero).symm
      · rw [Nat.pow_succ]; omega
      · show (if agr v (fol t 0 (nI n) (pbL t v k n).2) = true then _ else (pbL t v k n).1) = _
        rw [if_neg za, s2]
    · rw [if_neg z]
      have za : agr v (fol t 0 (nI n) (pbL t v k n).2) = true := e.mpr z
      refine ⟨?_, S ||| 2 ^ n, ?_, ?_⟩
      · show (if agr v (fol t 0 (nI n) (pbL t v k n).2) = true then (pbL t v k n).1 ||| ((1 : Int32) <<< (nI n &&& 31)) else _) = _
        rw [if_pos za, i1]
      · exact Nat.or_lt_two_pow (by rw [Nat.pow_succ]; omega) (Nat.pow_lt_pow_right (by decide) (by omega))
      · show (if agr v (fol t 0 (nI n) (pbL t v k n).2) = true then (pbL t v k n).1 ||| ((1 : Int32) <<< (nI n &&& 31)) else _) = _
        rw [if_pos za, s2, eb', fa_or]
theorem len0_eq {t : Trp} {mn : Int32} {bx bY bw nw : Fn} (h : TR t mn bx bY bw nw) : sLen t.2.2.2.2 0 = nw 0 ∧ (0 ≤ (nw 0).toInt ∧ (nw 0).toInt ≤ 10) := by
  obtain ⟨s1, s2, s3⟩ := h.2.2.1 0 (by decide)
  have e : sLen t.2.2.2.2 (nI 0) = t.2.2.2.2.2 0 := sLen_n (by decide)
  have s1' : t.2.2.2.2.2 0 = nw 0 := s1
  exact ⟨e.trans s1', by rw [← s1']; exact s2⟩
