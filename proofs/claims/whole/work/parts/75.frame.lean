/-! worlds by blocks: cut, call, join without looking into the blocks -/
section Blocks
variable {D : va_G} {cl : List vw_C} {A : Nat → Prop} {ws ws' R Wc W1 : va_W} {H H1 : Heap}
theorem P_mem : va_P D cl ws H ↔ ∀ q ∈ ws, va_at D cl q H := by
  constructor
  · intro h q hq
    obtain ⟨i, hi⟩ := List.mem_iff_getElem?.mp hq
    exact h i q hi
  · intro h k q hk
    exact h q (List.mem_of_getElem? hk)
theorem D_pw : va_D A ws ↔ ws.Pairwise (fun p q => p.1 ≠ q.1) ∧ ∀ q ∈ ws, A q.1 := by
  constructor
  · intro h
    refine ⟨List.pairwise_iff_getElem.mpr (fun i j hi hj hij e => ?_), fun q hq => ?_⟩
    · have := h.1 i j ws[i] ws[j] (List.getElem?_eq_getElem hi) (List.getElem?_eq_getElem hj) e
      omega
    · obtain ⟨i, hi⟩ := List.mem_iff_getElem?.mp hq
      exact h.2 i q hi
  · intro h
    refine ⟨fun i j p q hp hq e => ?_, fun k q hk => h.2 q (List.mem_of_getElem? hk)⟩
    obtain ⟨hi, ei⟩ := List.getElem?_eq_some_iff.mp hp
    obtain ⟨hj, ej⟩ := List.getElem?_eq_some_iff.mp hq
    apply Classical.byContradiction
    intro hne
    have pw := List.pairwise_iff_getElem.mp h.1
    rcases Nat.lt_or_gt_of_ne hne with l | l
    · exact pw i j hi hj l (by rw [ei, ej]; exact e)
    · exact pw j i hj hi l (by rw [ei, ej]; exact e.symm)
theorem P_pm (h : va_P D cl ws H) (p : ws.Perm ws') : va_P D cl ws' H := P_mem.mpr (fun q hq => P_mem.mp h q (p.mem_iff.mpr hq))
theorem D_pm (h : va_D A ws) (p : ws.Perm ws') : va_D A ws' := by
  obtain ⟨a, b⟩ := D_pw.mp h
  exact D_pw.mpr ⟨(p.pairwise_iff (fun q e => q e.symm)).mp a, fun q hq => b q (p.mem_iff.mpr hq)⟩
theorem P_r (h : va_P D cl (R ++ Wc) H) : va_P D cl Wc H := P_mem.mpr (fun q hq => P_mem.mp h q (List.mem_append.mpr (Or.inr hq)))
theorem D_r (h : va_D A (R ++ Wc)) : va_D A Wc := by
  obtain ⟨a, b⟩ := D_pw.mp h
  exact D_pw.mpr ⟨(List.pairwise_append.mp a).2.1, fun q hq => b q (List.mem_append.mpr (Or.inr hq))⟩
theorem D_l (h : va_D A (R ++ Wc)) : va_D A R := by
  obtain ⟨a, b⟩ := D_pw.mp h
  exact D_pw.mpr ⟨(List.pairwise_append.mp a).1, fun q hq => b q (List.mem_append.mpr (Or.inl hq))⟩
theorem fr_A {H0 : Heap} {locs : List Loc} (hD : va_D A (R ++ Wc)) (hS : va_S A H0 H locs) (hA : ∀ q, H0.size ≤ q → A q) : ∀ q, va_A Wc H.size q → A q := by
  intro q h
  rcases h with ⟨k, e, h⟩ | h
  · exact (D_r hD).2 k (q, e) h
  · exact hA q (Nat.le_trans hS.1 h)
theorem fr_P (hP : va_P D cl (R ++ Wc) H) (hD : va_D A (R ++ Wc)) (hk : ∀ q : Nat, q < H.size → ¬ va_A Wc H.size q → H1[q]? = H[q]?) (hF : ∀ q, va_A Wc H.size q → A q) (hP1 : va_P D cl W1 H1) (hD1 : va_D (va_A Wc H.size) W1) : va_P D cl (R ++ W1) H1 ∧ va_D A (R ++ W1) := by
  have out : ∀ q ∈ R, q.1 < H.size ∧ ¬ va_A Wc H.size q.1 := by
    intro q hq
    have l := (P_mem.mp hP q (List.mem_append.mpr (Or.inl hq))).lt
    refine ⟨l, fun h => ?_⟩
    rcases h with ⟨k, e, h⟩ | h
    · exact (List.pairwise_append.mp (D_pw.mp hD).1).2.2 q hq (q.1, e) (List.mem_of_getElem? h) rfl
    · omega
  refine ⟨P_mem.mpr (fun q hq => ?_), va_D.app (D_l hD) (hD1.weaken (fun _ q _ h => hF q.1 h)) (fun i j p q hp hq e => ?_)⟩
  · rcases List.mem_append.mp hq with h | h
    · obtain ⟨a, b⟩ := out q h
      exact (P_mem.mp hP q (List.mem_append.mpr (Or.inl h))).kept (hk q.1 a b)
    · exact P_mem.mp hP1 q h
  · have a := (out p (List.mem_of_getElem? hp)).2
    exact a (by rw [e]; exact hD1.2 j q hq)
end Blocks
theorem rg_all {α : Type} (l : List α) : (List.range l.length).filterMap (fun i => l[i]?) = l := by
  induction l with
  | nil => rfl
  | cons a t ih =>
    rw [List.length_cons, List.range_succ_eq_map, List.filterMap_cons]
    show a :: ((List.range t.length).map Nat.succ).filterMap (fun i => (a :: t)[i]?) = a :: t
    rw [List.filterMap_map]
    exact congrArg (fun z => a :: z) ih
theorem pm_bl (bs Rl Cl : List va_W) {Wc : va_W} (n : Nat) (hn : bs.length = n) (pm : List Nat) (h : pm.Perm (List.range n)) (e : pm.filterMap (fun i => bs[i]?) = Rl ++ Cl) (ec : Cl.flatten = Wc) : bs.flatten.Perm (Rl.flatten ++ Wc) := by
  subst hn
  have a := (h.filterMap (fun i => bs[i]?)).flatten
  rw [rg_all, e, List.flatten_append, ec] at a
  exact a.symm
theorem fl1 (a : va_W) : [a].flatten = a := by simp
theorem fl2 (a b : va_W) : [a, b].flatten = a ++ b := by simp
theorem fl3 (a b c : va_W) : [a, b, c].flatten = a ++ b ++ c := by simp
theorem fl4 (a b c d : va_W) : [a, b, c, d].flatten = a ++ b ++ c ++ d := by simp
theorem fl5 (a b c d e : va_W) : [a, b, c, d, e].flatten = a ++ b ++ c ++ d ++ e := by simp
theorem fl6 (a b c d e f : va_W) : [a, b, c, d, e, f].flatten = a ++ b ++ c ++ d ++ e ++ f := by simp
theorem fl7 (a b c d e f g : va_W) : [a, b, c, d, e, f, g].flatten = a ++ b ++ c ++ d ++ e ++ f ++ g := by simp
theorem fl8 (a b c d e f g h : va_W) : [a, b, c, d, e, f, g, h].flatten = a ++ b ++ c ++ d ++ e ++ f ++ g ++ h := by simp
theorem fl9 (a b c d e f g h i : va_W) : [a, b, c, d, e, f, g, h, i].flatten = a ++ b ++ c ++ d ++ e ++ f ++ g ++ h ++ i := by simp
section BCalls
variable {p : Program} {l : Launch} {e : Env} {R : Room} {s : State} {m : MethodId} {args : Array Value} {below : List Frame} {meth : Method} {c : Code} {H : Heap} {locs : List Loc} {cells slots mc ms : Nat} {Q : State → Prop}
variable {pc : Nat} {ls : Array Slot} {rest st0 : List Value} {a : Array Value} {A : Nat → Prop} {D : va_G} {tys : List (ClassId × FieldType)} {ws Rw Wc : va_W} {av : List Value} {C : String} {b : Nat} {S : Type}
theorem PU_preB (hP : va_P D vwCl ws H) (hD : va_D A ws) (hK : va_K D vwCl tys s) (hN : EnvN s) (hE : EnvS A s s.heap) (hS : va_S A s.heap H locs) (hA : ∀ q, s.heap.size ≤ q → A q) (hp : ws.Perm (Rw ++ Wc)) : ∀ U : State, U.heap = H → s.WarmedH U.vm → va_Pc av (PU D tys Wc H.size) av.toArray U := by
  intro U hU hW
  have hP2 := P_pm hP hp
  have hD2 := D_pm hD hp
  have hF := fr_A hD2 hS hA
  refine ⟨rfl, by rw [hU], by rw [hU]; exact P_r hP2, va_K.moved hW.alike hK, (D_r hD2).weaken (fun _ _ _ _ => trivial), hN.warm hW, ?_⟩
  rw [hU]
  exact hE.go (fun q h1 h2 => hS.2.1 q h1 h2) hF hW.alike
theorem pr_SB (hP : va_P D vwCl ws H) (hD : va_D A ws) (hK : va_K D vwCl tys s) (hN : EnvN s) (hE : EnvS A s s.heap) (hS : va_S A s.heap H locs) (hA : ∀ q, s.heap.size ≤ q → A q) (hp : ws.Perm (Rw ++ Wc)) : PreS s H (va_Pc av (PU D tys Wc H.size)) av := ⟨PU_blind, PU_preB hP hD hK hN hE hS hA hp⟩
theorem pr_VB (hP : va_P D vwCl ws H) (hD : va_D A ws) (hK : va_K D vwCl tys s) (hN : EnvN s) (hE : EnvS A s s.heap) (hS : va_S A s.heap H locs) (hA : ∀ q, s.heap.size ≤ q → A q) (hp : ws.Perm (Rw ++ Wc)) {ci : Nat} {q : vw_C} {fs : List Value} (hc : vwCl[ci]? = some q) {q0 : Nat} (he : Wc[q0]? = some (b, .inr (ci, fs))) : PreV s H q.1 b (va_Pc (.ref b :: av) (PU D tys Wc H.size)) av := ⟨PU_blind, va_recv hK (P_r (P_pm hP hp)) hc he, PU_preB hP hD hK hN hE hS hA hp⟩
theorem jb_i {post : Int32 → S → Prop} {W1 W2 : S → va_W} (hr : va_Run p l e R s m args below meth c H locs cells slots 0 0 (F0 m pc ls st0) rest (va_Qi post (fun u => BU D (W1 u) (va_A Wc H.size)) (va_A Wc H.size) a) (va_A Wc H.size)) (hP : va_P D vwCl ws H) (hD : va_D A ws) (hS : va_S A s.heap H locs) (hA : ∀ q, s.heap.size ≤ q → A q) (hp : ws.Perm (Rw ++ Wc)) (hq : ∀ u, (W2 u).Perm (Rw ++ W1 u))
    (kk : ∀ (r : Int32) (u : S) (H1 : Heap) (locs1 : List Loc), post r u → va_P D vwCl (W2 u) H1 → va_D A (W2 u) → va_S A s.heap H1 locs1 → W p l e R s m args below meth c H1 locs1 cells slots Q (F0 m (pc + 3) ls (.int r :: rest))) : W p l e R s m args below meth c H locs cells slots Q (F0 m pc ls st0) := by
  have hP2 := P_pm hP hp
  have hD2 := D_pm hD hp
  have hF := fr_A hD2 hS hA
  refine va_calli hr hS (fun q _ h => hF q h) hF (fun r u t H1 locs1 ht hvm hw hB hz1 hk1 hS1 => ?_)
  obtain ⟨hP1, hD1⟩ := hB
  rw [ht] at hP1
  obtain ⟨h1, h2⟩ := fr_P hP2 hD2 hk1 hF hP1 hD1
  exact kk r u H1 locs1 hw (P_pm h1 (hq u).symm) (D_pm h2 (hq u).symm) hS1
theorem jb_v {post : S → Prop} {W1 W2 : S → va_W} (hr : va_Run p l e R s m args below meth c H locs cells slots mc ms (F0 m pc ls st0) rest (va_Qv post (fun u => BU D (W1 u) (va_A Wc H.size)) (va_A Wc H.size) a) (va_A Wc H.size)) (hP : va_P D vwCl ws H) (hD : va_D A ws) (hS : va_S A s.heap H locs) (hA : ∀ q, s.heap.size ≤ q → A q) (hp : ws.Perm (Rw ++ Wc)) (hq : ∀ u, (W2 u).Perm (Rw ++ W1 u))
    (kk : ∀ (u : S) (H1 : Heap) (locs1 : List Loc), post u → va_P D vwCl (W2 u) H1 → va_D A (W2 u) → va_S A s.heap H1 locs1 → W p l e R s m args below meth c H1 locs1 (cells + mc) (slots + ms) Q (F0 m (pc + 3) ls rest)) : W p l e R s m args below meth c H locs cells slots Q (F0 m pc ls st0) := by
  have hP2 := P_pm hP hp
  have hD2 := D_pm hD hp
  have hF := fr_A hD2 hS hA
  refine va_callv hr hS (fun q _ h => hF q h) hF (fun u t H1 locs1 ht hvm hw hB hz1 hk1 hS1 => ?_)
  obtain ⟨hP1, hD1⟩ := hB
  rw [ht] at hP1
  obtain ⟨h1, h2⟩ := fr_P hP2 hD2 hk1 hF hP1 hD1
  exact kk u H1 locs1 hw (P_pm h1 (hq u).symm) (D_pm h2 (hq u).symm) hS1
end BCalls
