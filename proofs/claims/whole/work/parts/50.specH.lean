/-! the fewest signs, and which -/
def fsB (v : Stg) (x y w g : Int32) : Bool := if ldV v g = true then (if sgTo (ldS v g) x y w = sgTo v x y w - 1 then true else false) else false
def fsL (v : Stg) (x y w : Int32) : Nat → Nat → Int32
  | 0, j => nI (j + 1)
  | n + 1, j => if fsB v x y w (nI (j + 1)) = true then nI (j + 1) else fsL v x y w n (j + 1)
def fs1 (v : Stg) (x y w : Int32) : Int32 := fsL v x y w 32 0
def fwL (x y w k : Int32) : Nat → Int32 → Stg → Int32 → Int32
  | 0, _, _, g => g
  | n + 1, u, v, g => if k < u then g else if sgTo v x y w = 0 then -9 else fwL x y w k n (u + 1) (ldS v (fs1 v x y w)) (fs1 v x y w)
def yV (s : DS) (q : Int32) : Stg := (s.1 (q).toNatClampNeg, s.2.1 (q).toNatClampNeg, s.2.2.1 (q).toNatClampNeg, s.2.2.2.1 (q).toNatClampNeg)
def yFwCk (mn d q x y w k : Int32) : Bool := if inR d 0 (mn - 1) = true then (if inR q 0 10 = true then (if inR x 0 6 = true then (if inR y 0 6 = true then (if inR w 0 7 = true then (if -1 ≤ k then true else false) else false) else false) else false) else false) else false
def yFew (bx bY bw nw : Fn) (mn d q x y w k : Int32) : Int32 := if yFwCk mn d q x y w k = true then (if 0 ≤ k then fwL x y w k 9 0 (yV (dnC bx bY bw nw d (-9)) q) (-9) else sgTo (yV (dnC bx bY bw nw d (-9)) q) x y w) else -1
theorem fs_ex {v : Stg} (hv : SOk v) {x y w : Int32} (ht : TOk x y w) (hp : ¬ sgTo v x y w = 0) : ∃ s : Nat, 0 ≤ s ∧ s < 32 ∧ fsB v x y w (nI (s + 1)) = true := by
  have h0 := sgTo_in hv ht
  have h1 := i_ne hp
  rw [li_0] at h1
  obtain ⟨s, hs, h, e⟩ := st_E hv ht (by omega)
  refine ⟨s, by omega, hs, ?_⟩
  unfold fsB
  rw [if_pos h, if_pos (Int32.toInt_inj.mp (by rw [ti_sub (by rw [li_1]; omega) (by rw [li_1]; omega), li_1]; omega))]
theorem fs_less {v : Stg} (hv : SOk v) {x y w : Int32} (ht : TOk x y w) {u : Stg} (h : sgTo u x y w = sgTo v x y w - 1) : (sgTo u x y w).toInt = (sgTo v x y w).toInt - 1 := by
  have h0 := sgTo_in hv ht
  rw [h, ti_sub (by rw [li_1]; omega) (by rw [li_1]; omega), li_1]
