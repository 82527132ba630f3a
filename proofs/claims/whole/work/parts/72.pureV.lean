/-- a text is danced: the troupe and its draft change places, or nothing but reader and draft change -/
def xsb (b : Bool) (xa : Nat → Nat) : Nat → Nat := fun k => if 4 ≤ k ∧ k ≤ 10 then cond b (xa (k + 7)) (xa k) else if 11 ≤ k ∧ k ≤ 17 then cond b (xa (k - 7)) (xa k) else xa k
abbrev DaU : Type := Bool × Txt × Rdr × Trp × Trp × His × Sgt × Img × Img
def xDaU (tx : Txt) (rd : Rdr) (tr dr : Trp) (hi : His) (si : Sgt) (i1 i2 : Img) : DaU := if 0 ≤ (rdT tx rd dr).1 then (true, (0, tx.2), (rdT tx rd dr).2.1, (rdT tx rd dr).2.2, tr, (hi.1, hi.2.1, hi.2.2.1, hi.2.2.2.1, 0), (si.1, si.2.1, si.2.2.1, 0), (0, i1.2), (0, i2.2)) else (false, tx, (rdT tx rd dr).2.1, tr, (rdT tx rd dr).2.2, hi, si, i1, i2)
theorem nwL_at {f F : Fn} {d : Nat} (hd : d ≤ 3) (n : Nat) (hn : n ≤ 33) : ∀ j : Nat, j < n → nwL f F (nI d) n j = if 11 * d ≤ j then 0 else F j := by
  have e11 : (11 * nI d).toInt = 11 * (d : Int) := by rw [ti_mul (by rw [li_11, nIT (by omega)]; omega) (by rw [li_11, nIT (by omega)]; omega), li_11, nIT (by omega)]
  induction n with
  | zero => intro j hj; omega
  | succ n ih =>
    intro j hj
    rw [nwL, cl (by omega), upd]
    by_cases q : j = n
    · rw [if_pos q, q]
      by_cases w : 11 * d ≤ n
      · rw [if_pos w, if_pos (Int32.le_iff_toInt_le.mpr (by rw [e11, nIT (by omega)]; omega))]
      · rw [if_neg w, if_neg (fun z => by have := i_le z; rw [e11, nIT (by omega)] at this; omega)]
    · rw [if_neg q]; exact ih (by omega) j (by omega)
theorem da_TR {p : Trp} {z : Int32 × Fn × Fn × Fn × Fn} (h : DR p z) (g1 g2 g3 g4 : Fn) : TR p z.1 (cpY g1 z.2.1 3) (cpY g2 z.2.2.1 3) (cpY g3 z.2.2.2.1 3) (nwL g4 z.2.2.2.2 z.1 33) ∧ ZR z.1 (nwL g4 z.2.2.2.2 z.1 33) ∧ 0 ≤ z.1.toInt := by
  obtain ⟨d, d3, e1, e2, s, s0, b⟩ := h
  rw [e2]
  have eN : (nI d).toInt = (d : Int) := nIT (by omega)
  have at33 := nwL_at (f := g4) (F := z.2.2.2.2) d3 33 (Nat.le_refl _)
  refine ⟨⟨e1, by rw [eN]; omega, fun e he => ?_, fun e he => ?_⟩, fun e he hm => ?_, by rw [eN]; omega⟩
  · obtain ⟨s1, s2, s3⟩ := s e he
    refine ⟨?_, s2, fun c hc => ?_⟩
    · rw [at33 (11 * e) (by omega)]
      by_cases q : 11 * d ≤ 11 * e
      · rw [if_pos q, s1]; exact s0 e he (by omega)
      · rw [if_neg q]; exact s1
    · rw [at33 (11 * e + 1 + c) (by omega)]
      by_cases q : 11 * d ≤ 11 * e + 1 + c
      · have le : d ≤ e := by omega
        rw [s1, s0 e he le, li_0] at hc
        omega
      · rw [if_neg q]; exact s3 c hc
  · rw [eN] at he
    obtain ⟨b1, b2, b3, b4⟩ := b e (by omega)
    rw [cpY_at _ _ 3 (by omega) e (by omega), cpY_at _ _ 3 (by omega) e (by omega), cpY_at _ _ 3 (by omega) e (by omega)]
    exact ⟨b1, b2, b3, b4⟩
  · rw [eN] at hm
    rw [at33 (11 * e) (by omega), if_pos (by omega)]
section Rel2
variable {tx : Txt} {tr : Trp} {hi : His} {si : Sgt} {i1 i2 : Img} {m0 m5 m6 m8 m13 : Int32} {f1 f2 f3 f4 f7 f9 f10 f11 f12 f14 : Fn}
theorem R_da (h : RR tx tr hi si i1 i2 m0 m5 m6 m8 m13 f1 f2 f3 f4 f7 f9 f10 f11 f12 f14) (rd : Rdr) (dr : Trp) {M : Bool × RS} (t2 t3 t4 t5 : Int32) (X Y L F : Fn) (eM : M = daZ m13 f14 t2 t3 t4 t5 X Y L F) {u : DaU} (eu : u = xDaU tx rd tr dr hi si i1 i2) :
    (rdT tx rd dr).1 = (if M.1 = true then M.2.2.1 else -10 - M.2.1.2.2.2.2) ∧ RR u.2.1 u.2.2.2.1 u.2.2.2.2.2.1 u.2.2.2.2.2.2.1 u.2.2.2.2.2.2.2.1 u.2.2.2.2.2.2.2.2 (if M.1 = true then M.2.2.1 else m0) (if M.1 = true then 0 else m5) m6 (if M.1 = true then 0 else m8) (if M.1 = true then 0 else m13) (if M.1 = true then cpY f1 M.2.2.2.1 3 else f1) (if M.1 = true then cpY f2 M.2.2.2.2.1 3 else f2) (if M.1 = true then cpY f3 M.2.2.2.2.2.1 3 else f3) (if M.1 = true then nwL f4 M.2.2.2.2.2.2 M.2.2.1 33 else f4) f7 f9 f10 (if M.1 = true then upd (upd f11 (0 : Int32).toNatClampNeg 0) (1 : Int32).toNatClampNeg 0 else f11) f12 f14 := by
  have h0 := h
  obtain ⟨⟨e, l⟩, b, c, g, r1, r2⟩ := h
  have D := dn_0 l rd dr t2 t3 t4 t5 X Y L F
  rw [← eM, ← e] at D
  unfold xDaU at eu
  generalize rdT tx rd dr = Z at D eu ⊢
  obtain ⟨D1, D2⟩ := D
  by_cases q : M.1 = true
  · obtain ⟨d1, d2⟩ := D1 q
    obtain ⟨T, Zr, nn⟩ := da_TR d2 f1 f2 f3 f4
    have pos : 0 ≤ Z.1 := Int32.le_iff_toInt_le.mpr (by rw [li_0, d1]; exact nn)
    rw [if_pos pos] at eu
    subst eu
    simp only [if_pos q]
    refine ⟨d1, ⟨?_, by decide, fun j hj => ?_⟩, ⟨T, Zr⟩, ⟨rfl, ⟨c.2.1.1, c.2.1.2.1, show 0 ≤ (0 : Int32).toInt by decide, show (0 : Int32).toInt ≤ 10 by decide⟩, c.2.2.1, fun k k1 k2 => ?_⟩, ⟨rfl, by decide, fun k hk => ?_⟩, ⟨?_, r1.2.1, fun w => ?_⟩, ⟨?_, r2.2.1, fun w => ?_⟩⟩
    · show ((0 : Int32), tx.2) = (0, f14)
      rw [e]
    · rw [li_0] at hj; omega
    · have : hN (hi.1, hi.2.1, hi.2.2.1, hi.2.2.2.1, 0) = 0 := rfl
      have k2' : k ≤ hN (hi.1, hi.2.1, hi.2.2.1, hi.2.2.2.1, 0) := k2
      omega
    · rw [li_0] at hk; omega
    · rfl
    · exact absurd rfl w
    · rfl
    · exact absurd rfl w
  · obtain ⟨d1, d2⟩ := D2 (Bool.eq_false_iff.mpr q)
    have neg : ¬ 0 ≤ Z.1 := fun w => by have := i_le w; rw [li_0] at this; omega
    rw [if_neg neg] at eu
    subst eu
    simp only [if_neg q]
    exact ⟨d1, h0⟩
end Rel2
/-- at the start -/
theorem R_0 : RR (0, fun _ => 0) (fun _ => 0, fun _ => 0, fun _ => 0, 0, fun _ => 0, fun _ => 0) (fun _ => 0, fun _ => 0, fun _ => 0, 0, 0) (fun _ => 0, fun _ => 0, fun _ => 0, 0) (0, fun _ => 0, fun _ => 0) (0, fun _ => 0, fun _ => 0) 0 0 0 0 0 (fun _ => 0) (fun _ => 0) (fun _ => 0) (fun _ => 0) (fun _ => 0) (fun _ => 0) (fun _ => 0) (fun _ => 0) (fun _ => 0) (fun _ => 0) := by
  have z0 : (0 : Int32).toInt = 0 := by decide
  have st : StfOk (fun _ => 0, fun _ => 0) := fun d _ => by show 0 ≤ (0 : Int32).toInt ∧ (0 : Int32).toInt ≤ 10; decide
  have sr : SR (fun _ => 0, fun _ => 0) (fun _ => 0) := fun d _ => ⟨rfl, by show 0 ≤ (0 : Int32).toInt ∧ (0 : Int32).toInt ≤ 10; decide, fun b hb => by
    have hb' : (b : Int) < (0 : Int32).toInt := hb
    omega⟩
  refine ⟨⟨rfl, by decide, fun j hj => by omega⟩, ⟨⟨rfl, by decide, sr, fun d hd => by omega⟩, fun d _ _ => rfl⟩, ⟨rfl, ⟨show 0 ≤ (0 : Int32).toInt by decide, show (0 : Int32).toInt < 10 by decide, show 0 ≤ (0 : Int32).toInt by decide, show (0 : Int32).toInt ≤ 10 by decide⟩, by decide, fun k k1 k2 => ?_⟩, ⟨rfl, by decide, fun k hk => by omega⟩, ⟨rfl, st, fun w => absurd rfl w⟩, ⟨rfl, st, fun w => absurd rfl w⟩⟩
  have : hN (fun _ => 0, fun _ => 0, fun _ => 0, 0, 0) = 0 := rfl
  omega
