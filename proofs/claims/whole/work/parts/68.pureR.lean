/-! both readers -/
def LT (n : Int32) (f : Fn) : Prop := (0 ≤ n.toInt ∧ n.toInt ≤ 100) ∧ ∀ j : Nat, (j : Int) < n.toInt → 0 ≤ (f j).toInt ∧ (f j).toInt ≤ 255
theorem tL_in {n : Int32} {f : Fn} {x : Nat} (hx : (x : Int) < n.toInt) (h : LT n f) : tLetter (n, f) (nI x) = f x := by
  have := h.1
  unfold tLetter
  rw [if_neg (nn0 (by omega)), if_neg (show ¬ n ≤ nI x from fun q => by have := i_le q; rw [nIT (by omega)] at this; omega), cl (by omega)]
theorem tL_out {n : Int32} {f : Fn} {x : Nat} (hx : n.toInt ≤ (x : Int)) (h8 : x < 1000000) : tLetter (n, f) (nI x) = -9 := by
  unfold tLetter
  rw [if_neg (nn0 (by omega)), if_pos (Int32.le_iff_toInt_le.mpr (by rw [nIT (by omega)]; exact hx))]
/-- blanks -/
theorem sk_n {n : Int32} {f : Fn} (h : LT n f) (g : Nat) : ∀ x : Nat, (x : Int) ≤ n.toInt → skB (n, f) g (nI x) = skP n f g (nI x) ∧ ∃ y : Nat, x ≤ y ∧ (y : Int) ≤ n.toInt ∧ skP n f g (nI x) = nI y ∧ (n.toInt - (x : Int) < (g : Int) → (y : Int) = n.toInt ∨ ¬ f y = 32) := by
  have hn := h.1
  induction g with
  | zero => intro x hx; exact ⟨rfl, x, Nat.le_refl x, hx, rfl, fun q => by omega⟩
  | succ g ih =>
    intro x hx
    rw [skB, skP]
    by_cases q : (x : Int) < n.toInt
    · have q1 : ¬ n ≤ nI x := fun z => by have := i_le z; rw [nIT (by omega)] at this; omega
      have e1 : tLetter (n, f) (nI x) = f x := tL_in q h
      rw [if_neg q1, if_neg q1, e1, cl (by omega)]
      by_cases z : f x = 32
      · rw [if_pos z, if_pos z, nI_1]
        obtain ⟨a, y, y1, y2, y3, y4⟩ := ih (x + 1) (by omega)
        exact ⟨a, y, by omega, y2, y3, fun w => y4 (by omega)⟩
      · rw [if_neg z, if_neg z]
        exact ⟨rfl, x, Nat.le_refl x, hx, rfl, fun _ => Or.inr z⟩
    · have q1 : n ≤ nI x := Int32.le_iff_toInt_le.mpr (by rw [nIT (by omega)]; omega)
      have q2 : (n, f).1 ≤ nI x := q1
      rw [if_pos q1, if_pos q2]
      exact ⟨rfl, x, Nat.le_refl x, hx, rfl, fun _ => Or.inl (by omega)⟩
/-- where the next token is: both skip to it, it is no blank -/
theorem bl_n {n : Int32} {f : Fn} (h : LT n f) {x : Nat} (hx : (x : Int) ≤ n.toInt) : ∃ y : Nat, (y : Int) ≤ n.toInt ∧ skB (n, f) 101 (nI x) = nI y ∧ yBl n f (nI x) = nI y ∧ ((y : Int) = n.toInt ∨ ¬ f y = 32) := by
  obtain ⟨a, y, y1, y2, y3, y4⟩ := sk_n h 101 x hx
  have := h.1
  exact ⟨y, y2, by rw [a, y3], y3, y4 (by omega)⟩
theorem bl_id {n : Int32} {f : Fn} (h : LT n f) {y : Nat} (hy : (y : Int) ≤ n.toInt) (hb : (y : Int) = n.toInt ∨ ¬ f y = 32) : skB (n, f) 101 (nI y) = nI y ∧ yBl n f (nI y) = nI y := by
  have := h.1
  unfold yBl
  rw [skB, skP]
  by_cases q : (y : Int) < n.toInt
  · have q1 : ¬ n ≤ nI y := fun z => by have := i_le z; rw [nIT (by omega)] at this; omega
    have e1 : tLetter (n, f) (nI y) = f y := tL_in q h
    have z : ¬ f y = 32 := by rcases hb with b | b; omega; exact b
    rw [if_neg q1, if_neg q1, e1, cl (by omega), if_neg z, if_neg z]
    exact ⟨rfl, rfl⟩
  · have q1 : n ≤ nI y := Int32.le_iff_toInt_le.mpr (by rw [nIT (by omega)]; omega)
    have q2 : (n, f).1 ≤ nI y := q1
    rw [if_pos q1, if_pos q2]
    exact ⟨rfl, rfl⟩
theorem fig_n {n : Int32} {f : Fn} (h : LT n f) {x : Nat} (hx : x < 1000) : yFig n f (nI x) = isDg (tLetter (n, f) (nI x)) := by
  by_cases q : (x : Int) < n.toInt
  · have := h.1
    have q1 : ¬ n ≤ nI x := fun z => by have := i_le z; rw [nIT (by omega)] at this; omega
    rw [tL_in q h]
    unfold yFig
    rw [if_neg q1, cl (by omega)]
    show (if isDg (f x) = true then true else false) = isDg (f x)
    cases isDg (f x) <;> rfl
  · have q1 : n ≤ nI x := Int32.le_iff_toInt_le.mpr (by rw [nIT (by omega)]; omega)
    rw [tL_out (by omega) (by omega)]
    unfold yFig
    rw [if_pos q1]
    rfl
/-- the class's token and the reference's -/
def TK (a b v : Int32) : Prop := (a = -9 ∧ b = -1) ∨ ((48 ≤ a.toInt ∧ a.toInt ≤ 57) ∧ b = 0 ∧ v = a - 48) ∨ (isTok a = true ∧ isDg a = false ∧ ¬ a = -9 ∧ b = a) ∨ (isTok a = false ∧ isDg a = false ∧ ¬ a = -9 ∧ b = -2)
/-- loaded alike: at the same place; where it goes on, it goes on from the same place -/
def AR (n : Int32) (r : Rdr) (s : PS) : Prop := ∃ y : Nat, (y : Int) ≤ n.toInt ∧ r.2.1 = nI y ∧ s.2.1 = nI y ∧ TK r.2.2 s.2.2.1 s.2.2.2.1 ∧ (s.2.2.1 = -1 ∨ s.2.2.1 = -2 ∨ (r.1 = nI (y + 1) ∧ s.1 = nI (y + 1) ∧ ((y + 1 : Nat) : Int) ≤ n.toInt))
theorem isDg_t {a : Int32} (h : isDg a = true) : 48 ≤ a.toInt ∧ a.toInt ≤ 57 := by
  have h' : inR a 48 57 = true := h
  obtain ⟨x, y⟩ := inR_in h'
  rw [(by decide : (48 : Int32).toInt = 48)] at x
  rw [(by decide : (57 : Int32).toInt = 57)] at y
  exact ⟨x, y⟩
theorem isDg_mk {a : Int32} (h : 48 ≤ a.toInt ∧ a.toInt ≤ 57) : isDg a = true := by
  unfold isDg
  rw [if_neg (fun q => by have := i_lt q; rw [(by decide : (48 : Int32).toInt = 48)] at this; omega), if_neg (fun q => by have := i_lt q; rw [(by decide : (57 : Int32).toInt = 57)] at this; omega)]
theorem adv_at {n : Int32} {f : Fn} (h : LT n f) {x : Nat} (hx : (x : Int) ≤ n.toInt) (r : Rdr) (s : PS) (er : r.1 = nI x) (es : s.1 = nI x) : AR n (rAdv (n, f) r) (pNext n f s) ∧ (pNext n f s).2.2.2.2 = s.2.2.2.2 := by
  have hn := h.1
  obtain ⟨y, y1, y2, y3, y4⟩ := bl_n h hx
  have eA : rAdv (n, f) r = (nI y + 1, nI y, rTok (n, f) (nI y)) := by unfold rAdv; rw [er, y2]
  unfold pNext
  rw [es, y3, eA]
  by_cases q : (y : Int) = n.toInt
  · have eN : nI y = n := Int32.toInt_inj.mp (by rw [nIT (by omega)]; exact q)
    rw [if_pos eN]
    refine ⟨⟨y, y1, rfl, rfl, Or.inl ⟨?_, rfl⟩, Or.inl rfl⟩, rfl⟩
    show rTok (n, f) (nI y) = -9
    unfold rTok
    rw [tL_out (by omega) (by omega), if_neg (by decide)]
  · have eN : ¬ nI y = n := fun z => q (by rw [← z, nIT (by omega)])
    have ylt : (y : Int) < n.toInt := by omega
    rw [if_neg eN, fig_n h (by omega)]
    have eL := tL_in ylt h
    have eR : rTok (n, f) (nI y) = if isDg (f y) = true then (if isDg (tLetter (n, f) (nI (y + 1))) = true then 256 else f y) else f y := by
      unfold rTok; rw [eL, nI_1]
    rw [eR, eL, cl (by omega)]
    obtain ⟨r0, r1⟩ := h.2 y ylt
    by_cases d : isDg (f y) = true
    · rw [if_pos d, if_pos d]
      obtain ⟨d0, d1⟩ := isDg_t d
      have e1 : yDg n f (nI y) = dgP n f 100 (nI (y + 1)) := by
        unfold yDg
        rw [dgP, fig_n h (by omega), eL, if_pos d, nI_1]
      by_cases d2 : isDg (tLetter (n, f) (nI (y + 1))) = true
      · rw [if_pos d2]
        have far : ∀ (g z : Nat), (z : Int) ≤ n.toInt → ∃ w : Nat, z ≤ w ∧ (w : Int) ≤ n.toInt ∧ dgP n f g (nI z) = nI w := by
          intro g
          induction g with
          | zero => intro z hz; exact ⟨z, Nat.le_refl z, hz, rfl⟩
          | succ g ih =>
            intro z hz
            rw [dgP]
            by_cases c : yFig n f (nI z) = true
            · rw [if_pos c, nI_1]
              have := yFig_lt c
              rw [nIT (by omega)] at this
              obtain ⟨w, w1, w2, w3⟩ := ih (z + 1) (by omega)
              exact ⟨w, by omega, w2, w3⟩
            · rw [if_neg c]; exact ⟨z, Nat.le_refl z, hz, rfl⟩
        have c2 : yFig n f (nI (y + 1)) = true := by rw [fig_n h (by omega)]; exact d2
        have l2 := yFig_lt c2
        rw [nIT (by omega)] at l2
        obtain ⟨w, w1, w2, w3⟩ := far 99 (y + 1 + 1) (by omega)
        have e2 : yDg n f (nI y) = nI w := by rw [e1, dgP, if_pos c2, nI_1, w3]
        have nle : ¬ yDg n f (nI y) - nI y ≤ 1 := by
          rw [e2, nI_sb (by omega) (by omega)]
          intro z
          have := i_le z
          rw [nIT (by omega), li_1] at this
          omega
        rw [if_neg nle]
        refine ⟨⟨y, y1, rfl, rfl, Or.inr (Or.inr (Or.inr ⟨by show isTok 256 = false; decide, by show isDg 256 = false; decide, by show ¬ (256 : Int32) = -9; decide, rfl⟩)), Or.inr (Or.inl rfl)⟩, rfl⟩
      · rw [if_neg d2]
        have c2 : ¬ yFig n f (nI (y + 1)) = true := by rw [fig_n h (by omega)]; exact d2
        have e2 : yDg n f (nI y) = nI (y + 1) := by rw [e1, dgP, if_neg c2]
        have le : yDg n f (nI y) - nI y ≤ 1 := by
          rw [e2, nI_sb (by omega) (by omega), show y + 1 - y = 1 by omega]; decide
        rw [if_pos le, e2]
        refine ⟨⟨y, y1, rfl, rfl, Or.inr (Or.inl ⟨⟨d0, d1⟩, rfl, rfl⟩), Or.inr (Or.inr ⟨nI_1 y, rfl, by omega⟩)⟩, rfl⟩
    · rw [if_neg d, if_neg d]
      have df : isDg (f y) = false := Bool.eq_false_iff.mpr d
      have ne9 : ¬ f y = -9 := fun z => by have := i_eq z; rw [li_m9] at this; omega
      by_cases k : isTok (f y) = true
      · rw [if_pos k]
        refine ⟨⟨y, y1, rfl, rfl, Or.inr (Or.inr (Or.inl ⟨k, df, ne9, rfl⟩)), Or.inr (Or.inr ⟨nI_1 y, nI_1 y, by omega⟩)⟩, rfl⟩
      · rw [if_neg k]
        refine ⟨⟨y, y1, rfl, rfl, Or.inr (Or.inr (Or.inr ⟨Bool.eq_false_iff.mpr k, df, ne9, rfl⟩)), Or.inr (Or.inl rfl)⟩, rfl⟩
/-- a token that is asked for by its letter -/
theorem tk_let {a b v c : Int32} (h : TK a b v) (hc : isTok c = true) (hd : isDg c = false) (h9 : ¬ c = -9) (n0 : ¬ c = 0) (n1 : ¬ c = -1) (n2 : ¬ c = -2) : a = c ↔ b = c := by
  rcases h with ⟨e1, e2⟩ | ⟨⟨l1, l2⟩, e2, _⟩ | ⟨k, d, e9, e2⟩ | ⟨k, d, e9, e2⟩
  · rw [e1, e2]
    exact ⟨fun q => absurd q.symm h9, fun q => absurd q.symm n1⟩
  · rw [e2]
    refine ⟨fun q => ?_, fun q => absurd q.symm n0⟩
    rw [q] at l1 l2
    exact absurd (isDg_mk ⟨l1, l2⟩) (by rw [hd]; decide)
  · rw [e2]
  · rw [e2]
    refine ⟨fun q => ?_, fun q => absurd q.symm n2⟩
    rw [q, hc] at k
    exact absurd k (by decide)
/-- a number -/
theorem num_n {n : Int32} {f : Fn} (h : LT n f) {x : Nat} (hx : (x : Int) ≤ n.toInt) {r : Rdr} {s : PS} (er : r.1 = nI x) (es : s.1 = nI x) {lo hi : Int32} (h0 : 0 ≤ lo.toInt) (hh : hi.toInt ≤ 9) :
    (pNumB n f lo hi s = true → rNum (n, f) r lo hi = (pNumS n f lo hi s).2.2.2.1 ∧ (lo.toInt ≤ ((pNumS n f lo hi s).2.2.2.1).toInt ∧ ((pNumS n f lo hi s).2.2.2.1).toInt ≤ hi.toInt) ∧ ¬ rNum (n, f) r lo hi = -9 ∧ ∃ y : Nat, (y : Int) ≤ n.toInt ∧ (rAdv (n, f) r).1 = nI y ∧ (pNumS n f lo hi s).1 = nI y) ∧
    (pNumB n f lo hi s = false → rNum (n, f) r lo hi = -9 ∧ (rAdv (n, f) r).2.1 = (pNumS n f lo hi s).2.2.2.2 ∧ ∃ y : Nat, (y : Int) ≤ n.toInt ∧ (rAdv (n, f) r).2.1 = nI y) := by
  obtain ⟨⟨y, y1, a1, a2, a3, a4⟩, _⟩ := adv_at h hx r s er es
  have hn := h.1
  unfold pNumS rNum pNumB
  generalize rAdv (n, f) r = R at a1 a3 a4 ⊢
  generalize pNext n f s = S at a2 a3 a4 ⊢
  rcases a3 with ⟨e1, e2⟩ | ⟨⟨l1, l2⟩, e2, e3⟩ | ⟨k, d, e9, e2⟩ | ⟨k, d, e9, e2⟩
  · rw [if_neg (show ¬ S.2.2.1 = 0 by rw [e2]; decide), if_neg (show ¬ false = true by decide), if_neg (show ¬ isDg R.2.2 = true by rw [e1]; decide)]
    exact ⟨fun q => absurd q (by decide), fun _ => ⟨rfl, by show R.2.1 = S.2.1; rw [a1, a2], y, y1, a1⟩⟩
  · rw [if_pos e2, if_pos (isDg_mk ⟨l1, l2⟩)]
    have ev : (R.2.2 - 48).toInt = R.2.2.toInt - 48 := by rw [ti_sub (by rw [(by decide : (48 : Int32).toInt = 48)]; omega) (by rw [(by decide : (48 : Int32).toInt = 48)]; omega), (by decide : (48 : Int32).toInt = 48)]
    rw [e3]
    by_cases q : inR (R.2.2 - 48) lo hi = true
    · obtain ⟨q1, q2⟩ := inR_in q
      rw [q, if_pos rfl, if_neg (fun z => by have := i_lt z; omega), if_neg (fun z => by have := i_lt z; omega)]
      refine ⟨fun _ => ⟨e3.symm, by rw [e3]; exact ⟨q1, q2⟩, fun z => ?_, ?_⟩, fun z => absurd z (by decide)⟩
      · have := i_eq z; rw [li_m9] at this; omega
      · rcases a4 with b | b | ⟨b1, b2, b3⟩
        · rw [e2] at b; exact absurd b (by decide)
        · rw [e2] at b; exact absurd b (by decide)
        · exact ⟨y + 1, b3, b1, b2⟩
    · have qf : inR (R.2.2 - 48) lo hi = false := Bool.eq_false_iff.mpr q
      rw [qf, if_neg (show ¬ false = true by decide)]
      refine ⟨fun z => absurd z (by decide), fun _ => ⟨?_, by show R.2.1 = S.2.1; rw [a1, a2], y, y1, a1⟩⟩
      unfold inR at qf
      by_cases c1 : R.2.2 - 48 < lo
      · rw [if_pos c1]
      · rw [if_neg c1] at qf ⊢
        by_cases c2 : hi < R.2.2 - 48
        · rw [if_pos c2]
        · rw [if_neg c2] at qf; exact absurd qf (by decide)
  · have nb : ¬ S.2.2.1 = 0 := fun z => by
      rw [e2] at z
      rw [z] at k
      exact absurd k (by decide)
    rw [if_neg nb, if_neg (show ¬ false = true by decide), if_neg (show ¬ isDg R.2.2 = true by rw [d]; decide)]
    exact ⟨fun q => absurd q (by decide), fun _ => ⟨rfl, by show R.2.1 = S.2.1; rw [a1, a2], y, y1, a1⟩⟩
  · rw [if_neg (show ¬ S.2.2.1 = 0 by rw [e2]; decide), if_neg (show ¬ false = true by decide), if_neg (show ¬ isDg R.2.2 = true by rw [d]; decide)]
    exact ⟨fun q => absurd q (by decide), fun _ => ⟨rfl, by show R.2.1 = S.2.1; rw [a1, a2], y, y1, a1⟩⟩
