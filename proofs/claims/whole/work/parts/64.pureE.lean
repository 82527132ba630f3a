/-! which beat to look at; counts (fa_and, fb_bit_nat: from the kit's rows to paste) -/
theorem fa_and (a b : Nat) : nI a &&& nI b = nI (a &&& b) := by
  apply Int32.toBitVec_inj.1
  show BitVec.ofNat 32 a &&& BitVec.ofNat 32 b = BitVec.ofNat 32 (a &&& b)
  apply BitVec.eq_of_getLsbD_eq
  intro i hi
  simp [hi]
theorem fb_bit_nat (n j : Nat) : n &&& 2 ^ j = 0 ↔ n.testBit j = false := by
  constructor
  · intro h
    have h1 : (n &&& 2 ^ j).testBit j = false := by rw [h]; simp
    rw [Nat.testBit_and] at h1
    simpa using h1
  · intro h
    apply Nat.eq_of_testBit_eq
    intro i
    rw [Nat.testBit_and]
    by_cases hi : j = i
    · subst hi; simp [h]
    · first | (simp [Nat.testBit_two_pow, hi]; done) | (simp [Nat.testBit_two_pow_of_ne hi]; done)
theorem fb_ct_le (p : Nat → Bool) : ∀ n, fb_ct p n ≤ n
  | 0 => Nat.le_refl _
  | n + 1 => by
    have h := fb_ct_le p n
    rw [fb_ct_succ]
    split <;> omega
theorem ZR0 {t : Trp} {mn : Int32} {bx bY bw nw : Fn} (h : TR t mn bx bY bw nw) (hz : ∀ d : Nat, d < 3 → mn.toInt ≤ (d : Int) → nw (11 * d) = 0) (h0 : ¬ 1 ≤ mn.toInt) : nw 0 = 0 := hz 0 (by decide) (by omega)
def ZR (mn : Int32) (nw : Fn) : Prop := ∀ d : Nat, d < 3 → mn.toInt ≤ (d : Int) → nw (11 * d) = 0
theorem uns_eq {t : Trp} {mn : Int32} {bx bY bw nw : Fn} (h : TR t mn bx bY bw nw) (hz : ZR mn nw) {v : Sgt} {sn : Int32} {sb sp : Fn} (hG : GR v sn sb sp) (k : Crs) : (pbT t v k).1 = yUns bx bY bw nw sb sp sn ∧ ∃ S : Nat, S < 1024 ∧ (pbT t v k).1 = nI S ∧ (¬ S = 0 → 1 ≤ mn.toInt) := by
  obtain ⟨l1, l2⟩ := len0_eq h
  have e0 : nw (11 * 0 : Int32).toNatClampNeg = nw 0 := rfl
  unfold pbT yUns
  rw [l1, e0]
  by_cases q : 1 ≤ mn.toInt
  · have hc := clampT l2.1
    obtain ⟨a, S, s1, s2⟩ := pb_eq h q hG k (nw 0).toNatClampNeg (by omega)
    refine ⟨a, S, ?_, s2, fun _ => q⟩
    have := Nat.pow_le_pow_right (n := 2) (by decide) (show (nw 0).toNatClampNeg ≤ 10 by omega)
    have e : 2 ^ 10 = 1024 := by decide
    omega
  · rw [ZR0 h hz q]
    exact ⟨rfl, 0, by decide, rfl, fun z => absurd rfl z⟩
theorem bc2b : ∀ S : Fin 1024, (2 ≤ bcI (nI S.val)) ↔ ¬ (nI S.val &&& (nI S.val - 1) = 0) := by decide +kernel
def gS (S : Nat) (q : Nat → Nat) : Nat → Nat
  | 0 => 0
  | n + 1 => if S.testBit n = true then gS S q n ||| 2 ^ q n else gS S q n
theorem gS_lt (S : Nat) (q : Nat → Nat) (n : Nat) (h : ∀ j, j < n → q j < 49) : gS S q n < 2 ^ 64 := by
  induction n with
  | zero => rw [gS]; decide
  | succ n ih =>
    have a := ih (fun j hj => h j (by omega))
    rw [gS]
    split
    · exact Nat.or_lt_two_pow a (Nat.pow_lt_pow_right (by decide) (by have := h n (by omega); omega))
    · exact a
theorem zLL_at (f : Lfn) (n : Nat) (hn : n ≤ 1000) : ∀ j, j < n → zLL f n j = 0 := by
  induction n with
  | zero => intro j hj; omega
  | succ n ih =>
    intro j hj
    rw [zLL, cl (by omega), vp_updL]
    by_cases h : j = n
    · rw [if_pos h]
    · rw [if_neg h]; exact ih (by omega) j (by omega)
theorem gpI_at (k : Crs) (f : Lfn) (n : Nat) (hn : n ≤ 1000) : ∀ j, gpI k f n j = if j < n then f j ||| cBit k (nI j) else f j := by
  induction n with
  | zero => intro j; rw [if_neg (by omega)]; rfl
  | succ n ih =>
    intro j
    rw [gpI, cl (by omega), vp_updL]
    by_cases h : j = n
    · rw [if_pos h, if_pos (by omega), ih (by omega) n, if_neg (by omega), h]
    · rw [if_neg h, ih (by omega) j]
      by_cases q : j < n
      · rw [if_pos q, if_pos (by omega)]
      · rw [if_neg q, if_neg (by omega)]
theorem and_bit {S n : Nat} (hS : S < 1024) (hn : n < 10) : nI S &&& ((1 : Int32) <<< (nI n &&& 31)) = 0 ↔ S.testBit n = false := by
  have eb : (1 : Int32) <<< (nI n &&& 31) = nI (2 ^ n) := bitI ⟨n, hn⟩
  have l : S &&& 2 ^ n ≤ S := Nat.and_le_left
  rw [eb, fa_and, show (0 : Int32) = nI 0 from rfl, nI_eq (by omega) (by omega), fb_bit_nat]
theorem gp_n {t : Trp} {mn : Int32} {bx bY bw nw : Fn} (h : TR t mn bx bY bw nw) (h1 : 1 ≤ mn.toInt) {S : Nat} (hS : S < 1024) (k : Crs) (f : Lfn) (n : Nat) (hn : n ≤ 10) : ∀ m, m ≤ 10 → (gpL t (nI S) k f n).2 m = lN (gS S (fun b => plc (dnC bx bY bw nw 0 (nI b)).1 (dnC bx bY bw nw 0 (nI b)).2.1 m) n) := by
  induction n with
  | zero => intro m hm; exact zLL_at f 11 (by omega) m (by omega)
  | succ n ih =>
    intro m hm
    rw [gpL, gS]
    by_cases z : S.testBit n = true
    · rw [if_pos z, if_neg (fun q => by have := (and_bit hS (by omega)).mp q; rw [z] at this; exact absurd this (by decide))]
      show gpI _ _ 11 m = _
      have C : CR (fol t 0 (nI n) (gpL t (nI S) k f n).1) (dnC bx bY bw nw 0 (nI n)) 10 := fol_dn h (d := 0) (by omega) (nI n) (gpL t (nI S) k f n).1
      rw [gpI_at _ _ 11 (by omega) m, if_pos (by omega), ih (by omega) m hm, (cBit_n hm (C.nr.1 m hm)).1, fb_orL]
      have e : plc (fol t 0 (nI n) (gpL t (nI S) k f n).1).1 (fol t 0 (nI n) (gpL t (nI S) k f n).1).2.1 m = plc (dnC bx bY bw nw 0 (nI n)).1 (dnC bx bY bw nw 0 (nI n)).2.1 m := by
        unfold plc pX
        rw [C.fx m hm, C.fy m hm]
      rw [e]
    · rw [if_neg z, if_pos ((and_bit hS (by omega)).mpr (Bool.eq_false_iff.mpr z))]
      exact ih (by omega) m hm
def ulT (S : Nat) (P : Nat → Nat) (p : Nat) : Nat → Bool
  | 0 => false
  | b + 1 => if S.testBit b = true ∧ P b = p then true else ulT S P p b
theorem sh10 : ∀ b : Fin 10, ((nI b.val &&& 31).toBitVec.smod 32).toNat = b.val := by decide +kernel
theorem has_n {S b : Nat} (hS : S < 1024) (hb : b < 10) : hasB (nI S) (nI b) = S.testBit b := by
  unfold hasB
  rw [pk_shrN (by omega) _ b (sh10 ⟨b, hb⟩), show (1 : Int32) = nI (2 ^ 1 - 1) from rfl, fa_and, Nat.and_two_pow_sub_one_eq_mod, Nat.testBit_eq_decide_div_mod_eq]
  by_cases q : S / 2 ^ b % 2 = 1
  · rw [if_pos (by rw [show S / 2 ^ b % 2 ^ 1 = 1 from q])]
    exact (decide_eq_true q).symm
  · rw [if_neg (fun e => q ((nI_eq (a := S / 2 ^ b % 2 ^ 1) (b := 2 ^ 1 - 1) (by omega) (by omega)).mp e))]
    exact (decide_eq_false q).symm
theorem ul_st (z u : Bool) {w c : Prop} [Decidable w] [Decidable c] (e : c ↔ w) : (if z = true then (if (if u = true then (1 : Int32) else 0) = 0 then (if c then (1 : Int32) else 0) else 1) else (if u = true then 1 else 0)) = (if (if z = true ∧ w then true else u) = true then (1 : Int32) else 0) := by
  have n0 : ¬ (1 : Int32) = 0 := by decide
  by_cases w' : w
  · have c' := e.mpr w'
    cases z <;> cases u <;> simp [w', c', n0]
  · have c' : ¬ c := fun q => w' (e.mp q)
    cases z <;> cases u <;> simp [w', c', n0]
theorem ulB_n {t : Trp} {mn : Int32} {bx bY bw nw : Fn} (h : TR t mn bx bY bw nw) (h1 : 1 ≤ mn.toInt) {S : Nat} (hS : S < 1024) (k : Crs) {m : Nat} (hm : m ≤ 10) {p : Nat} (hp : p < 49) (n : Nat) (hn : n ≤ 10) : ulB bx bY bw nw (nI S) (nI m) p n = (if ulT S (fun b => 7 * pX (dnC bx bY bw nw 0 (nI b)).1 m + pX (dnC bx bY bw nw 0 (nI b)).2.1 m) p n = true then 1 else 0) := by
  induction n with
  | zero => rfl
  | succ n ih =>
    rw [ulB, ulT, has_n hS (by omega), ih (by omega)]
    have C : CR (fol t 0 (nI n) k) (dnC bx bY bw nw 0 (nI n)) 10 := fol_dn h (d := 0) (by omega) (nI n) k
    obtain ⟨r1, r2, _, _⟩ := (C.1 m hm).2
    have r1' : 0 ≤ ((dnC bx bY bw nw 0 (nI n)).1 m).toInt ∧ ((dnC bx bY bw nw 0 (nI n)).1 m).toInt ≤ 6 := r1
    have r2' : 0 ≤ ((dnC bx bY bw nw 0 (nI n)).2.1 m).toInt ∧ ((dnC bx bY bw nw 0 (nI n)).2.1 m).toInt ≤ 6 := r2
    obtain ⟨a1, a2, a3⟩ := pX_n r1'
    obtain ⟨b1, b2, b3⟩ := pX_n r2'
    have e1 : (7 * (dnC bx bY bw nw 0 (nI n)).1 m).toInt = 7 * ((dnC bx bY bw nw 0 (nI n)).1 m).toInt := by rw [ti_mul (by rw [li_7]; omega) (by rw [li_7]; omega), li_7]
    have e : 7 * (dnC bx bY bw nw 0 (nI n)).1 (nI m).toNatClampNeg + (dnC bx bY bw nw 0 (nI n)).2.1 (nI m).toNatClampNeg = nI p ↔ 7 * pX (dnC bx bY bw nw 0 (nI n)).1 m + pX (dnC bx bY bw nw 0 (nI n)).2.1 m = p := by
      rw [cl (by omega), ← Int32.toInt_inj, ti_add (by rw [e1]; omega) (by rw [e1]; omega), e1, nIT (by omega)]
      omega
    exact ul_st (S.testBit n) _ e
theorem ulL_n {t : Trp} {mn : Int32} {bx bY bw nw : Fn} (h : TR t mn bx bY bw nw) (h1 : 1 ≤ mn.toInt) {S : Nat} (hS : S < 1024) (k : Crs) {m : Nat} (hm : m ≤ 10) (n : Nat) (hn : n ≤ 49) : ulL bx bY bw nw (nI S) (nI m) n = nI (fb_ct (fun p => ulT S (fun b => 7 * pX (dnC bx bY bw nw 0 (nI b)).1 m + pX (dnC bx bY bw nw 0 (nI b)).2.1 m) p 10) n) := by
  induction n with
  | zero => rfl
  | succ n ih =>
    rw [ulL, fb_ct, ih (by omega), ulB_n h h1 hS k hm (by omega) 10 (Nat.le_refl _)]
    by_cases u : ulT S (fun b => 7 * pX (dnC bx bY bw nw 0 (nI b)).1 m + pX (dnC bx bY bw nw 0 (nI b)).2.1 m) n 10 = true
    · simp only [if_pos u]
      rw [if_neg (by decide)]; exact nI_1 _
    · simp only [if_neg u]
      rw [if_pos trivial]; exact Int32.add_zero _
theorem tr_bit {S : Nat} {X Y : Nat → Nat} (n : Nat) (hX : ∀ b, b < n → X b ≤ 6) (hY : ∀ b, b < n → Y b ≤ 6) : ∀ p, p < 49 → (gS S (fun b => 7 * Y b + X b) n).testBit (7 * (p % 7) + p / 7) = ulT S (fun b => 7 * X b + Y b) p n := by
  induction n with
  | zero => intro p _; rw [gS, ulT]; simp
  | succ n ih =>
    intro p hp
    have i := ih (fun b hb => hX b (by omega)) (fun b hb => hY b (by omega)) p hp
    have x := hX n (by omega)
    have y := hY n (by omega)
    rw [gS, ulT]
    by_cases z : S.testBit n = true
    · rw [if_pos z, fb_bit_set, i]
      by_cases w : 7 * X n + Y n = p
      · rw [if_pos ⟨z, w⟩, show decide (7 * (p % 7) + p / 7 = 7 * Y n + X n) = true from decide_eq_true (by omega)]; simp
      · rw [if_neg (fun q => w q.2), show decide (7 * (p % 7) + p / 7 = 7 * Y n + X n) = false from decide_eq_false (by omega)]; simp
    · rw [if_neg z, if_neg (fun q => z q.1)]; exact i
theorem cnt_eq {S : Nat} {X Y : Nat → Nat} (n : Nat) (hX : ∀ b, b < n → X b ≤ 6) (hY : ∀ b, b < n → Y b ≤ 6) : fb_ct (fun p => ulT S (fun b => 7 * X b + Y b) p n) 49 = fb_ct (gS S (fun b => 7 * Y b + X b) n).testBit 64 := by
  induction n with
  | zero =>
    have e1 : fb_ct (fun p => ulT S (fun b => 7 * X b + Y b) p 0) 49 = 0 := fb_ct_zero.mpr (fun k _ => rfl)
    have e2 : fb_ct (gS S (fun b => 7 * Y b + X b) 0).testBit 64 = 0 := fb_ct_zero.mpr (fun k _ => Nat.zero_testBit k)
    rw [e1, e2]
  | succ n ih =>
    have i := ih (fun b hb => hX b (by omega)) (fun b hb => hY b (by omega))
    have tb := tr_bit (S := S) n (fun b hb => hX b (by omega)) (fun b hb => hY b (by omega)) (7 * X n + Y n)
    have x := hX n (by omega)
    have y := hY n (by omega)
    rw [gS]
    by_cases z : S.testBit n = true
    · rw [if_pos z, pop_set _ _ (by omega), ← i]
      have e : fb_ct (fun p => ulT S (fun b => 7 * X b + Y b) p (n + 1)) 49 = fb_ct (fun p => if p = 7 * X n + Y n then true else ulT S (fun b => 7 * X b + Y b) p n) 49 := fb_ct_cong (fun p _ => by
        rw [ulT]
        by_cases w : 7 * X n + Y n = p
        · rw [if_pos ⟨z, w⟩, if_pos w.symm]
        · rw [if_neg (fun q => w q.2), if_neg (fun q => w q.symm)])
      have u := fb_ct_upd (fun p => ulT S (fun b => 7 * X b + Y b) p n) true (i := 7 * X n + Y n) (n := 49) (by omega)
      rw [e]
      have tb' := tb (by omega)
      rw [show 7 * ((7 * X n + Y n) % 7) + (7 * X n + Y n) / 7 = 7 * Y n + X n by omega] at tb'
      rw [tb']
      by_cases w : ulT S (fun b => 7 * X b + Y b) (7 * X n + Y n) n = true
      · simp only [if_pos w, if_true] at u ⊢; omega
      · simp only [if_neg w, if_true] at u ⊢; omega
    · rw [if_neg z, ← i]
      exact fb_ct_cong (fun p _ => by rw [ulT, if_neg (fun q => z q.1)])
theorem ul_bc {t : Trp} {mn : Int32} {bx bY bw nw : Fn} (h : TR t mn bx bY bw nw) (h1 : 1 ≤ mn.toInt) {S : Nat} (hS : S < 1024) (k : Crs) (f : Lfn) {m : Nat} (hm : m ≤ 10) : bcL ((gpL t (nI S) k f 10).2 m) = ulL bx bY bw nw (nI S) (nI m) 49 := by
  have hq : ∀ b, b < 10 → pX (dnC bx bY bw nw 0 (nI b)).1 m ≤ 6 ∧ pX (dnC bx bY bw nw 0 (nI b)).2.1 m ≤ 6 := fun b _ => by
    have C : CR (fol t 0 (nI b) k) (dnC bx bY bw nw 0 (nI b)) 10 := fol_dn h (d := 0) (by omega) (nI b) k
    obtain ⟨r1, r2, _, _⟩ := (C.1 m hm).2
    exact ⟨(pX_n (f := (dnC bx bY bw nw 0 (nI b)).1) r1).1, (pX_n (f := (dnC bx bY bw nw 0 (nI b)).2.1) r2).1⟩
  rw [gp_n h h1 hS k f 10 (Nat.le_refl _) m hm, bcL_n (gS_lt _ _ _ (fun b hb => by have := hq b hb; unfold plc; omega)), ulL_n h h1 hS k hm 49 (Nat.le_refl _)]
  rw [cnt_eq 10 (fun b hb => (hq b hb).1) (fun b hb => (hq b hb).2)]
  rfl
theorem ul_1 {t : Trp} {mn : Int32} {bx bY bw nw : Fn} (h : TR t mn bx bY bw nw) (h1 : 1 ≤ mn.toInt) {S : Nat} (hS : S < 1024) (k : Crs) {m : Nat} (hm : m ≤ 10) (h0 : ¬ S = 0) : ¬ ulL bx bY bw nw (nI S) (nI m) 49 ≤ 0 := by
  obtain ⟨b, hb⟩ : ∃ b, b < 10 ∧ S.testBit b = true := by
    apply Classical.byContradiction
    intro q
    apply h0
    apply Nat.eq_of_testBit_eq
    intro i
    rw [Nat.zero_testBit]
    by_cases l : i < 10
    · exact Bool.eq_false_iff.mpr (fun e => q ⟨i, l, e⟩)
    · exact Nat.testBit_lt_two_pow (Nat.lt_of_lt_of_le hS (Nat.pow_le_pow_right (n := 2) (by decide) (show 10 ≤ i by omega)))
  rw [ulL_n h h1 hS k hm 49 (Nat.le_refl _)]
  have C : CR (fol t 0 (nI b) k) (dnC bx bY bw nw 0 (nI b)) 10 := fol_dn h (d := 0) (by omega) (nI b) k
  obtain ⟨r1, r2, _, _⟩ := (C.1 m hm).2
  have a := (pX_n (f := (dnC bx bY bw nw 0 (nI b)).1) r1).1
  have c := (pX_n (f := (dnC bx bY bw nw 0 (nI b)).2.1) r2).1
  have key : ∀ (P : Nat → Nat) (n : Nat), b < n → ulT S P (P b) n = true := fun P n hn => by
    induction n with
    | zero => omega
    | succ n ih =>
      rw [ulT]
      by_cases e : b = n
      · rw [if_pos ⟨by rw [← e]; exact hb.2, by rw [e]⟩]
      · split
        · rfl
        · exact ih (by omega)
  have pos := (fb_ct_pos (p := fun p => ulT S (fun b => 7 * pX (dnC bx bY bw nw 0 (nI b)).1 m + pX (dnC bx bY bw nw 0 (nI b)).2.1 m) p 10) (n := 49)).mpr ⟨7 * pX (dnC bx bY bw nw 0 (nI b)).1 m + pX (dnC bx bY bw nw 0 (nI b)).2.1 m, by omega, key (fun b => 7 * pX (dnC bx bY bw nw 0 (nI b)).1 m + pX (dnC bx bY bw nw 0 (nI b)).2.1 m) 10 hb.1⟩
  have le := fb_ct_le (fun p => ulT S (fun b => 7 * pX (dnC bx bY bw nw 0 (nI b)).1 m + pX (dnC bx bY bw nw 0 (nI b)).2.1 m) p 10) 49
  intro q
  have := i_le q
  rw [nIT (by omega), li_0] at this
  omega
theorem lo_bs {t : Trp} {mn : Int32} {bx bY bw nw : Fn} (h : TR t mn bx bY bw nw) (h1 : 1 ≤ mn.toInt) {S : Nat} (hS : S < 1024) (h0 : ¬ S = 0) (k : Crs) (f : Lfn) (j : Nat) (hj : j ≤ 9) : loL bx bY bw nw (nI S) (j + 1) = (bsL (gpL t (nI S) k f 10).2 j, ulL bx bY bw nw (nI S) (bsL (gpL t (nI S) k f 10).2 j) 49) ∧ ∃ m, m ≤ 10 ∧ bsL (gpL t (nI S) k f 10).2 j = nI m := by
  induction j with
  | zero =>
    rw [loL]
    have u := ul_1 h h1 hS k (m := 1) (by omega) h0
    have e : loL bx bY bw nw (nI S) 0 = (-9, 0) := rfl
    rw [e]
    refine ⟨?_, 1, by omega, rfl⟩
    show ((if ulL bx bY bw nw (nI S) (nI 1) 49 ≤ 0 then (-9 : Int32) else nI 1), (if ulL bx bY bw nw (nI S) (nI 1) 49 ≤ 0 then (0 : Int32) else ulL bx bY bw nw (nI S) (nI 1) 49)) = _
    rw [if_neg u, if_neg u]
    rfl
  | succ j ih =>
    obtain ⟨i1, m, hm, em⟩ := ih (by omega)
    rw [loL, i1, bsL]
    rw [cl (n := j + 2) (by omega), ul_bc h h1 hS k f (m := j + 2) (by omega), em, cl (n := m) (by omega), ul_bc h h1 hS k f hm]
    show ((if ulL bx bY bw nw (nI S) (nI (j + 2)) 49 ≤ ulL bx bY bw nw (nI S) (nI m) 49 then nI m else nI (j + 2)), (if ulL bx bY bw nw (nI S) (nI (j + 2)) 49 ≤ ulL bx bY bw nw (nI S) (nI m) 49 then ulL bx bY bw nw (nI S) (nI m) 49 else ulL bx bY bw nw (nI S) (nI (j + 2)) 49)) = _ ∧ _
    by_cases z : ulL bx bY bw nw (nI S) (nI (j + 2)) 49 ≤ ulL bx bY bw nw (nI S) (nI m) 49
    · rw [if_pos z, if_pos z]; exact ⟨rfl, m, hm, rfl⟩
    · rw [if_neg z, if_neg z]; exact ⟨rfl, j + 2, by omega, rfl⟩
theorem xLook_eq {t : Trp} {mn : Int32} {bx bY bw nw : Fn} (h : TR t mn bx bY bw nw) (hz : ZR mn nw) {v : Sgt} {sn : Int32} {sb sp : Fn} (hG : GR v sn sb sp) (k : Crs) (f : Lfn) : xLook t v k f = yLook bx bY bw nw (yUns bx bY bw nw sb sp sn) := by
  obtain ⟨e, S, s1, s2, s3⟩ := uns_eq h hz hG k
  unfold xLook yLook
  rw [← e, s2]
  have b := bc2b ⟨S, s1⟩
  have b' : (2 ≤ bcI (nI S)) ↔ ¬ (nI S &&& (nI S - 1) = 0) := b
  by_cases z : nI S &&& (nI S - 1) = 0
  · rw [if_pos z, if_neg (fun q => b'.mp q z)]
  · rw [if_neg z, if_pos (b'.mpr z)]
    have S0 : ¬ S = 0 := fun q => z (by rw [q]; decide)
    obtain ⟨l, _⟩ := lo_bs h (s3 S0) s1 S0 (pbT t v k).2 f 9 (Nat.le_refl _)
    rw [l]
