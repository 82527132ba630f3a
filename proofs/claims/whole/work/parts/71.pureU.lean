/-! the relation of class and reference, kept by every call; equal answers -/
def RR (tx : Txt) (tr : Trp) (hi : His) (si : Sgt) (i1 i2 : Img) (m0 m5 m6 m8 m13 : Int32) (f1 f2 f3 f4 f7 f9 f10 f11 f12 f14 : Fn) : Prop :=
  (tx = (m13, f14) ∧ LT m13 f14) ∧ (TR tr m0 f1 f2 f3 f4 ∧ ZR m0 f4) ∧ HR hi tr.2.2.2.2 m0 m5 m6 f7 ∧ GR si m8 f9 f10 ∧ IR m0 i1 (f11 0) f12 ∧ IR m0 i2 (f11 1) (fun j => f12 (33 + j))
section Rel
variable {tx : Txt} {tr : Trp} {hi : His} {si : Sgt} {i1 i2 : Img} {m0 m5 m6 m8 m13 : Int32} {f1 f2 f3 f4 f7 f9 f10 f11 f12 f14 : Fn}
theorem RR.trp (h : RR tx tr hi si i1 i2 m0 m5 m6 m8 m13 f1 f2 f3 f4 f7 f9 f10 f11 f12 f14) : TrpOk tr := by
  obtain ⟨_, ⟨⟨t1, t2, t3, t4⟩, _⟩, _⟩ := h
  exact ⟨by rw [t1]; exact t2.1, by rw [t1]; exact t2.2, t3.stf⟩
theorem RR.his (h : RR tx tr hi si i1 i2 m0 m5 m6 m8 m13 f1 f2 f3 f4 f7 f9 f10 f11 f12 f14) : HisOk hi := h.2.2.1.2.1
theorem RR.mn (h : RR tx tr hi si i1 i2 m0 m5 m6 m8 m13 f1 f2 f3 f4 f7 f9 f10 f11 f12 f14) : 0 ≤ m0.toInt ∧ m0.toInt ≤ 3 := h.2.1.1.2.1
theorem RR.ua (h : RR tx tr hi si i1 i2 m0 m5 m6 m8 m13 f1 f2 f3 f4 f7 f9 f10 f11 f12 f14) : 0 ≤ m6.toInt ∧ m6.toInt < 10 := h.2.2.1.2.2.1
theorem RR.nw (h : RR tx tr hi si i1 i2 m0 m5 m6 m8 m13 f1 f2 f3 f4 f7 f9 f10 f11 f12 f14) : NwOk f4 := h.2.1.1.2.2.1.nw
theorem RR.sn (h : RR tx tr hi si i1 i2 m0 m5 m6 m8 m13 f1 f2 f3 f4 f7 f9 f10 f11 f12 f14) : 0 ≤ m8.toInt ∧ m8.toInt ≤ 6 := h.2.2.2.1.2.1
theorem RR.sx (h : RR tx tr hi si i1 i2 m0 m5 m6 m8 m13 f1 f2 f3 f4 f7 f9 f10 f11 f12 f14) : 0 ≤ si.2.2.2.toInt ∧ si.2.2.2.toInt ≤ 6 := by rw [h.2.2.2.1.1]; exact h.sn
theorem RR.tn (h : RR tx tr hi si i1 i2 m0 m5 m6 m8 m13 f1 f2 f3 f4 f7 f9 f10 f11 f12 f14) : 0 ≤ m13.toInt ∧ m13.toInt ≤ 100 := h.1.2.1
theorem RR.txl (h : RR tx tr hi si i1 i2 m0 m5 m6 m8 m13 f1 f2 f3 f4 f7 f9 f10 f11 f12 f14) : 0 ≤ tx.1.toInt ∧ tx.1.toInt ≤ 100 := by rw [h.1.1]; exact h.tn
theorem RR.sb (h : RR tx tr hi si i1 i2 m0 m5 m6 m8 m13 f1 f2 f3 f4 f7 f9 f10 f11 f12 f14) : ∀ j, j < m8.toNatClampNeg → 0 ≤ (f9 j).toInt ∧ (f9 j).toInt ≤ 10 := fun j hj => by
  have := clampT h.sn.1
  exact (h.2.2.2.1.2.2 j (by omega)).2.1
theorem RR.so (h : RR tx tr hi si i1 i2 m0 m5 m6 m8 m13 f1 f2 f3 f4 f7 f9 f10 f11 f12 f14) (k : Crs) (d q : Int32) (h1 : inR d 0 (m0 - 1) = true) (h2 : inR q 0 10 = true) : SOk (yV (dnC f1 f2 f3 f4 d (-9)) q) := by
  obtain ⟨n, rfl, hn, n3⟩ := dn_n h1 h.mn.1 h.mn.2
  obtain ⟨j, rfl, hj⟩ := mom_n h2
  exact (fol_dn h.2.1.1 hn (-9) k).yv hj
/-! text -/
theorem R_type (h : RR tx tr hi si i1 i2 m0 m5 m6 m8 m13 f1 f2 f3 f4 f7 f9 f10 f11 f12 f14) (k : Int32) : xType tx k = yTy m13 k ∧ RR (xTypeS tx k) tr hi si i1 i2 m0 m5 m6 m8 (yTyN m13 k) f1 f2 f3 f4 f7 f9 f10 f11 f12 (yTyF m13 f14 k) := by
  obtain ⟨⟨e, l1, l2⟩, rest⟩ := h
  have key : xType tx k = yTy m13 k ∧ xTypeS tx k = (yTyN m13 k, yTyF m13 f14 k) ∧ LT (yTyN m13 k) (yTyF m13 f14 k) := by
    subst e
    have e2 : (if k < 0 then (-1 : Int32) else if k ≤ 255 then (if tAppB (m13, f14) = true then (tApp (m13, f14) k).1 else -3) else -1) = (if inR k 0 255 = true then (if tAppB (m13, f14) = true then (tApp (m13, f14) k).1 else -3) else -1) ∧ (if k < 0 then (m13, f14) else if k ≤ 255 then tApp (m13, f14) k else (m13, f14)) = (if inR k 0 255 = true then tApp (m13, f14) k else (m13, f14)) := by
      unfold inR
      by_cases a : k < 0
      · simp [a]
      · by_cases b : k ≤ 255
        · have c : ¬ (255 : Int32) < k := fun q => by have := i_lt q; have := i_le b; omega
          simp [a, b, c]
        · have c : (255 : Int32) < k := Int32.lt_iff_toInt_lt.mpr (i_nle b)
          simp [a, b, c]
    unfold xType xTypeS yTy yTyN yTyF
    rw [e2.1, e2.2]
    by_cases q : inR k 0 255 = true
    · rw [if_pos q, if_pos q, if_pos q, if_pos q, if_pos q]
      obtain ⟨q1, q2⟩ := inR_in q
      rw [li_0] at q1
      rw [(by decide : (255 : Int32).toInt = 255)] at q2
      by_cases z : m13 = 100
      · have nb : tAppB (m13, f14) = false := by unfold tAppB; rw [if_neg (show ¬ m13 < 100 by rw [z]; decide)]
        have ns : tApp (m13, f14) k = (m13, f14) := by unfold tApp; rw [if_neg (show ¬ m13 < 100 by rw [z]; decide)]
        rw [if_pos z, if_pos z, if_pos z, nb, if_neg (by decide), ns]
        exact ⟨rfl, rfl, l1, l2⟩
      · have lt : m13.toInt < 100 := by have := i_ne z; rw [(by decide : (100 : Int32).toInt = 100)] at this; omega
        have lt2 : (m13, f14).1 < 100 := Int32.lt_iff_toInt_lt.mpr lt
        have nb : tAppB (m13, f14) = true := by unfold tAppB; rw [if_pos lt2]
        have ns : tApp (m13, f14) k = (m13 + 1, upd f14 (m13).toNatClampNeg k) := by unfold tApp; rw [if_pos lt2]
        have e1 : (m13 + 1).toInt = m13.toInt + 1 := by rw [ti_add (by rw [li_1]; omega) (by rw [li_1]; omega), li_1]
        rw [if_neg z, if_neg z, if_neg z, nb, if_pos rfl, ns]
        refine ⟨rfl, rfl, by omega, fun j hj => ?_⟩
        rw [e1] at hj
        have hc := clampT l1.1
        rw [upd]
        by_cases w : j = m13.toNatClampNeg
        · rw [if_pos w]; exact ⟨q1, q2⟩
        · rw [if_neg w]; exact l2 j (by omega)
    · rw [if_neg q, if_neg q, if_neg q, if_neg q, if_neg q]
      exact ⟨rfl, rfl, l1, l2⟩
  exact ⟨key.1, ⟨key.2.1, key.2.2⟩, rest⟩
theorem R_clear (h : RR tx tr hi si i1 i2 m0 m5 m6 m8 m13 f1 f2 f3 f4 f7 f9 f10 f11 f12 f14) : tx.1 = m13 ∧ RR (0, tx.2) tr hi si i1 i2 m0 m5 m6 m8 0 f1 f2 f3 f4 f7 f9 f10 f11 f12 f14 := by
  obtain ⟨⟨e, l1, l2⟩, rest⟩ := h
  refine ⟨by rw [e], ⟨by rw [e], ?_, fun j hj => ?_⟩, rest⟩
  · decide
  · rw [li_0] at hj; omega
/-! what is done -/
theorem R_ch (h : RR tx tr hi si i1 i2 m0 m5 m6 m8 m13 f1 f2 f3 f4 f7 f9 f10 f11 f12 f14) {d : Nat} (hd : (d : Int) < m0.toInt) (d3 : d < 3) {v' : Stf} {g4 : Fn} (s1 : SR v' g4) (s2 : SD d tr.2.2.2.2 v') : RR tx (tpSt tr v') (hRem hi tr.2.2.2.2 (nI d)) si i1 i2 m0 (yUm m5) (yUa m6) m8 m13 f1 f2 f3 g4 (rmL f7 f4 m6 33) f9 f10 f11 f12 f14 := by
  obtain ⟨a, ⟨⟨t1, t2, t3, t4⟩, z⟩, c, rest⟩ := h
  refine ⟨a, ⟨⟨t1, t2, s1, t4⟩, fun e he hm => ?_⟩, HR_rem c ⟨t3, z⟩ d3 s2, rest⟩
  rw [← (s1 e he).1, (s2 e he (by omega)).1, (t3 e he).1]
  exact z e he hm
theorem R_mir (h : RR tx tr hi si i1 i2 m0 m5 m6 m8 m13 f1 f2 f3 f4 f7 f9 f10 f11 f12 f14) (d : Int32) : xMir tr d = (if inR d 0 (m0 - 1) = true then f4 (11 * d).toNatClampNeg else -1) ∧ RR tx (xMirT tr d) (xMirH tr hi d) si i1 i2 m0 (if inR d 0 (m0 - 1) = true then yUm m5 else m5) (if inR d 0 (m0 - 1) = true then yUa m6 else m6) m8 m13 f1 f2 f3 (if inR d 0 (m0 - 1) = true then miL f4 d (f4 (11 * d).toNatClampNeg).toNatClampNeg else f4) (if inR d 0 (m0 - 1) = true then rmL f7 f4 m6 33 else f7) f9 f10 f11 f12 f14 := by
  have h0 := h
  obtain ⟨a, ⟨⟨t1, t2, t3, t4⟩, z⟩, rest⟩ := h
  unfold xMir xMirT xMirH
  rw [dn_eq t1 t2.1 t2.2]
  by_cases q : inR d 0 (m0 - 1) = true
  · simp only [if_pos q]
    obtain ⟨n, rfl, hn, n3⟩ := dn_n q t2.1 t2.2
    obtain ⟨s1, s2, s3⟩ := t3 n n3
    have hc := clampT s2.1
    rw [c11 n3, ← s1]
    rw [show sLen tr.2.2.2.2 (nI n) = tr.2.2.2.2.2 n from sLen_n n3]
    obtain ⟨m1, m2, m3⟩ := mir_SR t3 n3 (tr.2.2.2.2.2 n).toNatClampNeg (by omega)
    refine ⟨by rw [sLen_n n3, m3], R_ch h0 hn n3 m1 m2⟩
  · simp only [if_neg q]
    exact ⟨trivial, h0⟩
theorem R_can (h : RR tx tr hi si i1 i2 m0 m5 m6 m8 m13 f1 f2 f3 f4 f7 f9 f10 f11 f12 f14) (d o r : Int32) : xCan tr d o r = (if yCaCk m0 d o r = true then caN f4 o r else -1) ∧ RR tx (xCanT tr d o r) (xCanH tr hi d o r) si i1 i2 m0 (if yCaCk m0 d o r = true then yUm m5 else m5) (if yCaCk m0 d o r = true then yUa m6 else m6) m8 m13 f1 f2 f3 (if yCaCk m0 d o r = true then yCaF f4 d o r else f4) (if yCaCk m0 d o r = true then rmL f7 f4 m6 33 else f7) f9 f10 f11 f12 f14 := by
  have h0 := h
  obtain ⟨a, ⟨⟨t1, t2, t3, t4⟩, z⟩, rest⟩ := h
  have ec : xCanCk tr d o r = yCaCk m0 d o r := by
    unfold xCanCk yCaCk
    rw [ar2_eq t1 t2.1 t2.2]
    have er : (if r < 0 then false else if r ≤ 4 then true else false) = inR r 0 4 := by
      unfold inR
      by_cases a : r < 0
      · rw [if_pos a, if_pos a]
      · rw [if_neg a, if_neg a]
        by_cases b : r ≤ 4
        · rw [if_pos b, if_neg (fun q => by have := i_lt q; have := i_le b; omega)]
        · rw [if_neg b, if_pos (Int32.lt_iff_toInt_lt.mpr (i_nle b))]
    rw [er]
    by_cases p1 : inR d 0 (m0 - 1) = true
    · by_cases p2 : inR o 0 (m0 - 1) = true
      · by_cases p3 : d = o
        · simp [p1, p2, p3]
        · simp [p1, p2, p3]
      · simp [p1, p2]
    · simp [p1]
  unfold xCan xCanT xCanH
  rw [ec]
  by_cases q : yCaCk m0 d o r = true
  · simp only [if_pos q]
    have q2 := q
    unfold yCaCk at q2
    by_cases p1 : inR d 0 (m0 - 1) = true
    · by_cases p2 : inR o 0 (m0 - 1) = true
      · by_cases p3 : d = o
        · simp [p1, p2, p3] at q2
        · have p4 : inR r 0 4 = true := by
            rw [if_pos p1, if_pos p2, if_neg p3] at q2; exact q2
          obtain ⟨n, rfl, hn, n3⟩ := dn_n p1 t2.1 t2.2
          obtain ⟨m, rfl, hm, m3⟩ := dn_n p2 t2.1 t2.2
          obtain ⟨r1, r2⟩ := inR_in p4
          rw [li_0] at r1
          rw [li_4] at r2
          obtain ⟨rr, er, rfl⟩ := nI_ofI r1
          have ne : ¬ n = m := fun w => p3 (by rw [w])
          obtain ⟨c1, c2, c3⟩ := can_SR t3 n3 m3 ne (rr := rr) (by omega)
          exact ⟨c3, R_ch h0 hn n3 c1 c2⟩
      · simp [p1, p2] at q2
    · simp [p1] at q2
  · simp only [if_neg q]
    exact ⟨trivial, h0⟩
theorem at_ck {v : Stf} {f : Fn} (h : SR v f) {d : Nat} (hd : d < 3) (b : Int32) : (inR b 0 (f (11 * nI d).toNatClampNeg - 1) = true → sAt v (nI d) b = f (11 * nI d + 1 + b).toNatClampNeg ∧ ¬ sAt v (nI d) b = -9 ∧ ∃ j : Nat, b = nI j ∧ (j : Int) < (v.2 d).toInt ∧ j < 10) ∧ (¬ inR b 0 (f (11 * nI d).toNatClampNeg - 1) = true → sAt v (nI d) b = -9) := by
  obtain ⟨s1, s2, s3⟩ := h d hd
  rw [c11 hd, ← s1]
  have e1 : (v.2 d - 1).toInt = (v.2 d).toInt - 1 := by rw [ti_sub (by rw [li_1]; omega) (by rw [li_1]; omega), li_1]
  refine ⟨fun q => ?_, fun q => ?_⟩
  · obtain ⟨q1, q2⟩ := inR_in q
    rw [li_0] at q1
    rw [e1] at q2
    obtain ⟨j, ej, rfl⟩ := nI_ofI q1
    have jl : (j : Int) < (v.2 d).toInt := by omega
    obtain ⟨g1, g2, g3⟩ := s3 j jl
    rw [sAt_t hd (by omega) jl, c11b hd (by omega)]
    exact ⟨g1, fun w => by have := i_eq w; rw [li_m9] at this; omega, j, rfl, jl, by omega⟩
  · unfold sAt sHas
    rw [if_pos (isStf_t hd), cl (by omega)]
    unfold inR at q
    by_cases a : b < 0
    · rw [if_pos a, if_neg (by decide)]
    · rw [if_neg a] at q ⊢
      by_cases c : v.2 d ≤ b
      · rw [if_pos c, if_neg (by decide)]
      · have c2 : ¬ v.2 d - 1 < b := fun w => by have := i_lt w; have := i_nle c; omega
        rw [if_neg c2] at q
        exact absurd rfl q
theorem R_chg (h : RR tx tr hi si i1 i2 m0 m5 m6 m8 m13 f1 f2 f3 f4 f7 f9 f10 f11 f12 f14) (d b g : Int32) : xCh tr d b g = yCh m0 f4 d b g ∧ RR tx (xChT tr d b g) (xChH tr hi d b g) si i1 i2 m0 (if yChG m0 f4 d b g = true then yUm m5 else m5) (if yChG m0 f4 d b g = true then yUa m6 else m6) m8 m13 f1 f2 f3 (if yChG m0 f4 d b g = true then upd f4 (11 * d + 1 + b).toNatClampNeg g else f4) (if yChG m0 f4 d b g = true then rmL f7 f4 m6 33 else f7) f9 f10 f11 f12 f14 := by
  have h0 := h
  obtain ⟨a, ⟨⟨t1, t2, t3, t4⟩, z⟩, rest⟩ := h
  have eg : isSgn g = inR g 0 32 := rfl
  unfold xCh xChT xChH yCh yChG
  by_cases p1 : inR d 0 (m0 - 1) = true
  · obtain ⟨n, rfl, hn, n3⟩ := dn_n p1 t2.1 t2.2
    obtain ⟨k1, k2⟩ := at_ck t3 n3 b
    by_cases p3 : inR g 0 32 = true
    · by_cases p2 : inR b 0 (f4 (11 * nI n).toNatClampNeg - 1) = true
      · obtain ⟨e1, e2, j, rfl, j1, j10⟩ := k1 p2
        by_cases p4 : f4 (11 * nI n + 1 + nI j).toNatClampNeg = g
        · have cx : xChCk tr (nI n) (nI j) g = false := by unfold xChCk; rw [dn_eq t1 t2.1 t2.2, eg, if_pos p1, if_pos p3, if_neg e2, if_pos (by rw [e1]; exact p4)]
          have cy : yChCk m0 f4 (nI n) (nI j) g = true := by unfold yChCk; rw [if_pos p1, if_pos p2]; exact p3
          have e4 : sAt tr.2.2.2.2 (nI n) (nI j) = g := by rw [e1]; exact p4
          rw [cx, cy, dn_eq t1 t2.1 t2.2, eg, if_pos p1, if_pos p3, if_neg e2, if_pos e4]
          simp only [if_pos p4, ↓reduceIte, reduceCtorEq]
          exact ⟨trivial, h0⟩
        · have e3 : ¬ sAt tr.2.2.2.2 (nI n) (nI j) = g := by rw [e1]; exact p4
          have cx : xChCk tr (nI n) (nI j) g = true := by unfold xChCk; rw [dn_eq t1 t2.1 t2.2, eg, if_pos p1, if_pos p3, if_neg e2, if_neg e3]
          have cy : yChCk m0 f4 (nI n) (nI j) g = true := by unfold yChCk; rw [if_pos p1, if_pos p2]; exact p3
          obtain ⟨g1, g2⟩ := inR_in p3
          rw [li_0] at g1
          rw [(by decide : (32 : Int32).toInt = 32)] at g2
          rw [cx, cy, dn_eq t1 t2.1 t2.2, eg, if_pos p1, if_pos p3, if_neg e2, if_neg e3]
          simp only [if_neg p4, ↓reduceIte]
          refine ⟨e1, ?_⟩
          rw [sRep_t n3 (by omega) j1, c11b n3 j10]
          exact R_ch h0 hn n3 (SR_set t3 n3 j1 g1 g2) ((SD.rf n _).set n3 j10 g)
      · have e2 := k2 p2
        have cx : xChCk tr (nI n) b g = false := by unfold xChCk; rw [dn_eq t1 t2.1 t2.2, eg, if_pos p1, if_pos p3, if_pos e2]
        have cy : yChCk m0 f4 (nI n) b g = false := by unfold yChCk; rw [if_pos p1, if_neg p2]
        simp only [dn_eq t1 t2.1 t2.2, eg, cx, cy, if_pos p1, if_pos p3, if_pos e2, ↓reduceIte, reduceCtorEq]
        exact ⟨trivial, h0⟩
    · have cx : xChCk tr (nI n) b g = false := by unfold xChCk; rw [dn_eq t1 t2.1 t2.2, eg, if_pos p1, if_neg p3]
      have cy : yChCk m0 f4 (nI n) b g = false := by
        unfold yChCk; rw [if_pos p1]
        split
        · exact Bool.eq_false_iff.mpr p3
        · rfl
      simp only [dn_eq t1 t2.1 t2.2, eg, cx, cy, if_pos p1, if_neg p3, ↓reduceIte, reduceCtorEq]
      exact ⟨trivial, h0⟩
  · have cx : xChCk tr d b g = false := by unfold xChCk; rw [dn_eq t1 t2.1 t2.2, if_neg p1]
    have cy : yChCk m0 f4 d b g = false := by unfold yChCk; rw [if_neg p1]
    simp only [dn_eq t1 t2.1 t2.2, eg, cx, cy, if_neg p1, ↓reduceIte, reduceCtorEq]
    exact ⟨trivial, h0⟩
theorem R_add (h : RR tx tr hi si i1 i2 m0 m5 m6 m8 m13 f1 f2 f3 f4 f7 f9 f10 f11 f12 f14) (d g : Int32) : xAd tr d g = yAd m0 f4 d g ∧ RR tx (xAdT tr d g) (xAdH tr hi d g) si i1 i2 m0 (if yAdG m0 f4 d g = true then yUm m5 else m5) (if yAdG m0 f4 d g = true then yUa m6 else m6) m8 m13 f1 f2 f3 (if yAdG m0 f4 d g = true then yAdF f4 d g else f4) (if yAdG m0 f4 d g = true then rmL f7 f4 m6 33 else f7) f9 f10 f11 f12 f14 := by
  have h0 := h
  obtain ⟨a, ⟨⟨t1, t2, t3, t4⟩, z⟩, rest⟩ := h
  have eg : isSgn g = inR g 0 32 := rfl
  unfold xAd xAdT xAdH yAd yAdG
  by_cases p1 : inR d 0 (m0 - 1) = true
  · by_cases p3 : inR g 0 32 = true
    · obtain ⟨n, rfl, hn, n3⟩ := dn_n p1 t2.1 t2.2
      obtain ⟨s1, s2, s3⟩ := t3 n n3
      have cy : yAdCk m0 (nI n) g = true := by unfold yAdCk; rw [if_pos p1]; exact p3
      obtain ⟨g1, g2⟩ := inR_in p3
      rw [li_0] at g1
      rw [(by decide : (32 : Int32).toInt = 32)] at g2
      by_cases q : (tr.2.2.2.2.2 n).toInt < 10
      · have lt : sLen tr.2.2.2.2 (nI n) < 10 := by rw [sLen_n n3]; exact Int32.lt_iff_toInt_lt.mpr (by rw [li_10]; exact q)
        have ne : ¬ f4 (11 * nI n).toNatClampNeg = 10 := by rw [c11 n3, ← s1]; intro w; have := i_eq w; rw [li_10] at this; omega
        have cx : xAdCk tr (nI n) g = true := by unfold xAdCk; rw [dn_eq t1 t2.1 t2.2, eg, if_pos p1, if_pos p3, if_pos lt]
        obtain ⟨b1, b2, b3, b4⟩ := ad_SR t3 n3 q g1 g2
        rw [cx, cy, dn_eq t1 t2.1 t2.2, eg, if_pos p1, if_pos p3, if_pos lt]
        simp only [if_neg ne, ↓reduceIte]
        refine ⟨by rw [b3, c11 n3], R_ch h0 hn n3 b1 b2⟩
      · have lt : ¬ sLen tr.2.2.2.2 (nI n) < 10 := by rw [sLen_n n3]; intro w; have := i_lt w; rw [li_10] at this; omega
        have ne : f4 (11 * nI n).toNatClampNeg = 10 := by rw [c11 n3, ← s1]; exact Int32.toInt_inj.mp (by rw [li_10]; omega)
        have cx : xAdCk tr (nI n) g = false := by unfold xAdCk; rw [dn_eq t1 t2.1 t2.2, eg, if_pos p1, if_pos p3, if_neg lt]
        rw [cx, cy, dn_eq t1 t2.1 t2.2, eg, if_pos p1, if_pos p3, if_neg lt]
        simp only [if_pos ne, ↓reduceIte, reduceCtorEq]
        exact ⟨trivial, h0⟩
    · have cx : xAdCk tr d g = false := by unfold xAdCk; rw [dn_eq t1 t2.1 t2.2, eg, if_pos p1, if_neg p3]
      have cy : yAdCk m0 d g = false := by unfold yAdCk; rw [if_pos p1]; exact Bool.eq_false_iff.mpr p3
      simp only [dn_eq t1 t2.1 t2.2, eg, cx, cy, if_pos p1, if_neg p3, ↓reduceIte, reduceCtorEq]
      exact ⟨trivial, h0⟩
  · have cx : xAdCk tr d g = false := by unfold xAdCk; rw [dn_eq t1 t2.1 t2.2, if_neg p1]
    have cy : yAdCk m0 d g = false := by unfold yAdCk; rw [if_neg p1]
    simp only [dn_eq t1 t2.1 t2.2, eg, cx, cy, if_neg p1, ↓reduceIte, reduceCtorEq]
    exact ⟨trivial, h0⟩
theorem R_un (h : RR tx tr hi si i1 i2 m0 m5 m6 m8 m13 f1 f2 f3 f4 f7 f9 f10 f11 f12 f14) : xUn hi = (if m5 = 0 then -2 else m5 - 1) ∧ RR tx (xUnT tr hi) (hPopd hi) si i1 i2 m0 (if m5 = 0 then m5 else m5 - 1) (if m5 = 0 then m6 else yUb m6) m8 m13 f1 f2 f3 (if m5 = 0 then f4 else unL f4 f7 (yUb m6) 33) f7 f9 f10 f11 f12 f14 := by
  have h0 := h
  obtain ⟨a, ⟨⟨t1, t2, t3, t4⟩, z⟩, c, rest⟩ := h
  have e := c.1
  unfold xUn xUnT hPopd
  rw [e]
  by_cases q : m5 = 0
  · simp only [if_pos q]
    exact ⟨trivial, h0⟩
  · simp only [if_neg q]
    obtain ⟨u1, u2⟩ := HR_un (nw := f4) c q
    refine ⟨by show hi.2.2.2.2 - 1 = _; rw [e], a, ⟨⟨t1, t2, u2.1, t4⟩, u2.2⟩, u1, rest⟩
/-! what was seen -/
theorem R_see (h : RR tx tr hi si i1 i2 m0 m5 m6 m8 m13 f1 f2 f3 f4 f7 f9 f10 f11 f12 f14) (n x y : Int32) : xSe tr si n x y = ySe m0 m8 n x y ∧ RR tx tr hi (xSeS tr si n x y) i1 i2 m0 m5 m6 (if ySeG m0 m8 n x y = true then m8 + 1 else m8) m13 f1 f2 f3 f4 f7 (if ySeG m0 m8 n x y = true then upd f9 (m8).toNatClampNeg n else f9) (if ySeG m0 m8 n x y = true then upd f10 (m8).toNatClampNeg (7 * x + y) else f10) f11 f12 f14 := by
  have h0 := h
  obtain ⟨a, ⟨⟨t1, t2, t3, t4⟩, z⟩, c, ⟨g1, g2, g3⟩, rest⟩ := h
  have ec : xSeCk tr n x y = ySeCk m0 n x y := by
    unfold xSeCk ySeCk
    rw [t1, mom_eq, fl_ld]
    by_cases p1 : m0 = 0
    · rw [if_pos p1, if_pos p1]
    · rw [if_neg p1, if_neg p1]
      by_cases p2 : inR n 0 10 = true
      · by_cases p3 : inR x 0 6 = true
        · by_cases p4 : inR y 0 6 = true
          · simp [p2, p3, p4]
          · simp [p2, p3, p4]
        · simp [p2, p3]
      · simp [p2]
  unfold xSe xSeS ySe ySeG
  rw [ec]
  by_cases q : ySeCk m0 n x y = true
  · simp only [if_pos q]
    by_cases w : m8 = 6
    · have nl : ¬ si.2.2.2 < 6 := fun u => by have := i_lt u; rw [g1, w] at this; omega
      have nb : gtAddB si = false := by unfold gtAddB; rw [if_neg nl]
      have ns : gtAdd si n x y = si := by unfold gtAdd; rw [if_neg nl]
      simp only [if_pos w, nb, ns, ↓reduceIte, reduceCtorEq]
      exact ⟨trivial, h0⟩
    · have lt : m8.toInt < 6 := by have := i_ne w; rw [li_6] at this; omega
      have nl : si.2.2.2 < 6 := Int32.lt_iff_toInt_lt.mpr (by rw [g1, li_6]; exact lt)
      have nb : gtAddB si = true := by unfold gtAddB; rw [if_pos nl]
      have ns : gtAdd si n x y = (upd si.1 (m8).toNatClampNeg n, upd si.2.1 (m8).toNatClampNeg x, upd si.2.2.1 (m8).toNatClampNeg y, m8 + 1) := by unfold gtAdd; rw [if_pos nl, g1]
      simp only [if_neg w, nb, ns, ↓reduceIte]
      refine ⟨trivial, a, ⟨⟨t1, t2, t3, t4⟩, z⟩, c, ⟨rfl, ?_, fun k hk => ?_⟩, rest⟩
      · rw [ti_add (by rw [li_1]; omega) (by rw [li_1]; omega), li_1]; omega
      · rw [ti_add (by rw [li_1]; omega) (by rw [li_1]; omega), li_1] at hk
        have hc := clampT g2.1
        unfold ySeCk at q
        by_cases p1 : m0 = 0
        · rw [if_pos p1] at q; exact absurd q (by decide)
        · rw [if_neg p1] at q
          by_cases p2 : inR n 0 10 = true
          · rw [if_pos p2] at q
            by_cases p3 : inR x 0 6 = true
            · rw [if_pos p3] at q
              obtain ⟨n1, n2⟩ := inR_in p2
              obtain ⟨x1, x2⟩ := inR_in p3
              obtain ⟨y1, y2⟩ := inR_in q
              rw [li_0] at n1 x1 y1
              rw [li_10] at n2
              rw [li_6] at x2 y2
              show upd si.1 m8.toNatClampNeg n k = upd f9 m8.toNatClampNeg n k ∧ (0 ≤ (upd f9 m8.toNatClampNeg n k).toInt ∧ (upd f9 m8.toNatClampNeg n k).toInt ≤ 10) ∧ (0 ≤ (upd si.2.1 m8.toNatClampNeg x k).toInt ∧ (upd si.2.1 m8.toNatClampNeg x k).toInt ≤ 6) ∧ (0 ≤ (upd si.2.2.1 m8.toNatClampNeg y k).toInt ∧ (upd si.2.2.1 m8.toNatClampNeg y k).toInt ≤ 6) ∧ (upd f10 m8.toNatClampNeg (7 * x + y) k).toInt = 7 * (upd si.2.1 m8.toNatClampNeg x k).toInt + (upd si.2.2.1 m8.toNatClampNeg y k).toInt
              unfold upd
              by_cases u : k = m8.toNatClampNeg
              · simp only [if_pos u]
                have e1 : (7 * x).toInt = 7 * x.toInt := by rw [ti_mul (by rw [li_7]; omega) (by rw [li_7]; omega), li_7]
                refine ⟨trivial, ⟨n1, n2⟩, ⟨x1, x2⟩, ⟨y1, y2⟩, ?_⟩
                rw [ti_add (by rw [e1]; omega) (by rw [e1]; omega), e1]
              · simp only [if_neg u]
                exact g3 k (by omega)
            · rw [if_neg p3] at q; exact absurd q (by decide)
          · rw [if_neg p2] at q; exact absurd q (by decide)
  · simp only [if_neg q, ↓reduceIte, reduceCtorEq]
    exact ⟨trivial, h0⟩
theorem R_fgt (h : RR tx tr hi si i1 i2 m0 m5 m6 m8 m13 f1 f2 f3 f4 f7 f9 f10 f11 f12 f14) : si.2.2.2 = m8 ∧ RR tx tr hi (si.1, si.2.1, si.2.2.1, 0) i1 i2 m0 m5 m6 0 m13 f1 f2 f3 f4 f7 f9 f10 f11 f12 f14 := by
  obtain ⟨a, b, c, ⟨g1, g2, g3⟩, rest⟩ := h
  refine ⟨g1, a, b, c, ⟨rfl, by decide, fun k hk => ?_⟩, rest⟩
  rw [li_0] at hk; omega
/-! images -/
theorem R_kp (h : RR tx tr hi si i1 i2 m0 m5 m6 m8 m13 f1 f2 f3 f4 f7 f9 f10 f11 f12 f14) (k : Int32) : xKp tr k = (if inR k 0 1 = true then m0 else -1) ∧ RR tx tr hi si (xKp1 tr i1 k) (xKp2 tr i2 k) m0 m5 m6 m8 m13 f1 f2 f3 f4 f7 f9 f10 (if inR k 0 1 = true then upd f11 (k).toNatClampNeg 1 else f11) (if inR k 0 1 = true then kpL f12 f4 k 33 else f12) f14 := by
  have h0 := h
  obtain ⟨a, ⟨⟨t1, t2, t3, t4⟩, z⟩, c, g, r1, r2⟩ := h
  unfold xKp xKp1 xKp2
  rw [im_eq, t1]
  by_cases q : inR k 0 1 = true
  · simp only [if_pos q]
    refine ⟨trivial, a, ⟨⟨t1, t2, t3, t4⟩, z⟩, c, g, ?_⟩
    rcases k01 q with rfl | rfl
    · simp only [↓reduceIte]
      have e0 : (0 : Int32).toNatClampNeg = 0 := rfl
      rw [e0]
      refine ⟨⟨?_, cpO_ok r1.2.1 _ 3, fun _ => ?_⟩, ?_⟩
      · show (1 : Int32) = upd f11 0 1 0
        rw [upd, if_pos rfl]
      · refine ((show SM m0 tr.2.2.2.2 f4 from ⟨t3, z⟩).se (cpO_SE t3.stf)).row (fun j hj => ?_)
        have := kpL_at (f := f12) (nw := f4) (a := 0) (by omega) 33 (Nat.le_refl _) 0 j (by omega) hj
        rw [if_pos ⟨rfl, hj⟩, show 33 * 0 + j = j by omega] at this
        exact this
      · have e1 : upd f11 0 1 1 = f11 1 := by rw [upd, if_neg (by decide)]
        rw [e1]
        refine r2.row (fun j hj => ?_)
        have := kpL_at (f := f12) (nw := f4) (a := 0) (by omega) 33 (Nat.le_refl _) 1 j (by omega) hj
        rw [if_neg (by omega), show 33 * 1 + j = 33 + j by omega] at this
        exact this
    · have n0 : ¬ (1 : Int32) = 0 := by decide
      simp only [if_neg n0]
      have e0 : (1 : Int32).toNatClampNeg = 1 := rfl
      rw [e0]
      refine ⟨?_, ⟨?_, cpO_ok r2.2.1 _ 3, fun _ => ?_⟩⟩
      · have e1 : upd f11 1 1 0 = f11 0 := by rw [upd, if_neg (by decide)]
        rw [e1]
        refine r1.row (fun j hj => ?_)
        have := kpL_at (f := f12) (nw := f4) (a := 1) (by omega) 33 (Nat.le_refl _) 0 j (by omega) hj
        rw [if_neg (by omega), show 33 * 0 + j = j by omega] at this
        exact this
      · show (1 : Int32) = upd f11 1 1 1
        rw [upd, if_pos rfl]
      · refine ((show SM m0 tr.2.2.2.2 f4 from ⟨t3, z⟩).se (cpO_SE t3.stf)).row (fun j hj => ?_)
        have := kpL_at (f := f12) (nw := f4) (a := 1) (by omega) 33 (Nat.le_refl _) 1 j (by omega) hj
        rw [if_pos ⟨rfl, hj⟩, show 33 * 1 + j = 33 + j by omega] at this
        exact this
  · simp only [if_neg q]
    exact ⟨trivial, h0⟩
theorem R_bk1 (h : RR tx tr hi si i1 i2 m0 m5 m6 m8 m13 f1 f2 f3 f4 f7 f9 f10 f11 f12 f14) {im : Stf} {row g4 : Fn} (hI : SM m0 im row) (e : ∀ j, j < 33 → g4 j = row j) : RR tx (tpSt tr (cpO tr.2.2.2.2 im 3)) (hi.1, hi.2.1, hi.2.2.1, hi.2.2.2.1, 0) si i1 i2 m0 0 m6 m8 m13 f1 f2 f3 g4 f7 f9 f10 f11 f12 f14 := by
  obtain ⟨a, ⟨⟨t1, t2, t3, t4⟩, z⟩, c, rest⟩ := h
  have u := (hI.se (cpO_SE (v := tr.2.2.2.2) hI.1.stf)).row e
  refine ⟨a, ⟨⟨t1, t2, u.1, t4⟩, u.2⟩, ⟨rfl, ⟨c.2.1.1, c.2.1.2.1, show 0 ≤ (0 : Int32).toInt by decide, show (0 : Int32).toInt ≤ 10 by decide⟩, c.2.2.1, fun k k1 k2 => ?_⟩, rest⟩
  have : hN (hi.1, hi.2.1, hi.2.2.1, hi.2.2.2.1, 0) = 0 := rfl
  omega
theorem R_bk (h : RR tx tr hi si i1 i2 m0 m5 m6 m8 m13 f1 f2 f3 f4 f7 f9 f10 f11 f12 f14) (k : Int32) : xBk tr i1 i2 k = (if inR k 0 1 = true then (if f11 (k).toNatClampNeg = 0 then -2 else m0) else -1) ∧ RR tx (xBkT tr i1 i2 k) (xBkH hi i1 i2 k) si i1 i2 m0 (if inR k 0 1 = true then (if f11 (k).toNatClampNeg = 0 then m5 else 0) else m5) m6 m8 m13 f1 f2 f3 (if inR k 0 1 = true then (if f11 (k).toNatClampNeg = 0 then f4 else unL f4 f12 k 33) else f4) f7 f9 f10 f11 f12 f14 := by
  have h0 := h
  obtain ⟨a, ⟨⟨t1, t2, t3, t4⟩, z⟩, c, g, r1, r2⟩ := h
  unfold xBk xBkT xBkH
  rw [im_eq, t1]
  by_cases q : inR k 0 1 = true
  · simp only [if_pos q]
    rcases k01 q with rfl | rfl
    · have eo : imOf i1 i2 0 = i1 := if_pos rfl
      have e0 : (0 : Int32).toNatClampNeg = 0 := rfl
      rw [eo, e0, r1.1]
      by_cases w : f11 0 = 0
      · simp only [if_pos w]; exact ⟨trivial, h0⟩
      · simp only [if_neg w]
        refine ⟨trivial, R_bk1 h0 (r1.2.2 w) (fun j hj => ?_)⟩
        have := unL_at (f := f4) (us := f12) (a := 0) (by omega) 33 (Nat.le_refl _) j hj
        rw [if_pos hj, show 33 * 0 + j = j by omega] at this
        exact this
    · have eo : imOf i1 i2 1 = i2 := if_neg (by decide)
      have e0 : (1 : Int32).toNatClampNeg = 1 := rfl
      rw [eo, e0, r2.1]
      by_cases w : f11 1 = 0
      · simp only [if_pos w]; exact ⟨trivial, h0⟩
      · simp only [if_neg w]
        refine ⟨trivial, R_bk1 h0 (r2.2.2 w) (fun j hj => ?_)⟩
        have := unL_at (f := f4) (us := f12) (a := 1) (by omega) 33 (Nat.le_refl _) j hj
        rw [if_pos hj, show 33 * 1 + j = 33 + j by omega] at this
        exact this
  · simp only [if_neg q]
    exact ⟨trivial, h0⟩
end Rel
