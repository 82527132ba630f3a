/-! the reference: standings, by rows that are written over whatever stood there -/
abbrev Scr : Type := DS × Fn × Fn × Fn
def DsEq (n : Nat) (s t : DS) : Prop := (∀ j, j ≤ n → s.1 j = t.1 j ∧ s.2.1 j = t.2.1 j ∧ s.2.2.1 j = t.2.2.1 j ∧ s.2.2.2.1 j = t.2.2.2.1 j) ∧ s.2.2.2.2.1 = t.2.2.2.2.1
theorem dnP_eq {s t : DS} {i : Nat} (hi : i < 10) (h : DsEq i s t) (g : Int32) : DsEq (i + 1) (dnP s i g) (dnP t i g) := by
  have c0 : (nI i).toNatClampNeg = i := nI_clamp (by omega)
  have c1 : (nI i + 1).toNatClampNeg = i + 1 := by rw [nI_1]; exact nI_clamp (by omega)
  obtain ⟨e1, e2, e3, e4⟩ := h.1 i (Nat.le_refl i)
  unfold dnP
  rw [c0, c1, e1, e2, e3, e4]
  split
  · refine ⟨fun j hj => ?_, h.2⟩
    by_cases hj1 : j = i + 1
    · subst hj1; simp [upd]
    · obtain ⟨f1, f2, f3, f4⟩ := h.1 j (by omega)
      simp [upd, hj1, f1, f2, f3, f4]
  · refine ⟨fun j hj => ?_, rfl⟩
    by_cases hj1 : j = i + 1
    · subst hj1; simp [upd]
    · obtain ⟨f1, f2, f3, f4⟩ := h.1 j (by omega)
      simp [upd, hj1, f1, f2, f3, f4]
theorem dnL_eq {sz : Int32} {sg : Fn} {but : Int32} {s t : DS} (h : DsEq 0 s t) (n : Nat) (hn : n ≤ 10) : DsEq n (dnL sz sg but s n) (dnL sz sg but t n) := by
  induction n with
  | zero => exact h
  | succ n ih =>
    have a := ih (by omega)
    rw [dnL, dnL, a.2]
    exact dnP_eq (by omega) a _
/-- the standings over rows of zeros -/
def dnC (bx bY bw nw : Fn) (d but : Int32) : DS := dnT bx bY bw nw (fun _ => 0) (fun _ => 0) (fun _ => 0) (fun _ => 0) (0, 0, 0, 0) d but
theorem dn0_eq (x y w : Int32) (f g h z f2 g2 h2 z2 : Fn) (t t2 : Stg) : DsEq 0 (dn0 x y w f g h z t) (dn0 x y w f2 g2 h2 z2 t2) := by
  refine ⟨fun j hj => ?_, rfl⟩
  have hj0 : j = 0 := by omega
  subst hj0
  exact ⟨rfl, rfl, rfl, rfl⟩
theorem dnT_eq (bx bY bw nw f g h z : Fn) (t : Stg) (d but : Int32) : DsEq 10 (dnT bx bY bw nw f g h z t d but) (dnC bx bY bw nw d but) := by
  have e := dnL_eq (sz := nw (11 * d).toNatClampNeg) (sg := dnSg nw d) (but := but) (dn0_eq (bx (d).toNatClampNeg) (bY (d).toNatClampNeg) (bw (d).toNatClampNeg) f g h z (fun _ => 0) (fun _ => 0) (fun _ => 0) (fun _ => 0) t (0, 0, 0, 0)) 10 (Nat.le_refl 10)
  unfold dnC
  unfold dnT
  exact e
def shY (f : Fn) : Nat → Int32
  | 0 => 0
  | n + 1 => shY f n + (if f (nI (n + 1)).toNatClampNeg = f (nI (n + 1) - 1).toNatClampNeg then 0 else 1)
def atY (f g : Fn) (n x y : Int32) : Bool := if f (n).toNatClampNeg = x then (if g (n).toNatClampNeg = y then true else false) else false
def awY (f g : Fn) : Nat → Int32
  | 0 => 0
  | n + 1 => if awY f g n = 0 then (if atY f g (nI (n + 1)) (f (0 : Int32).toNatClampNeg) (g (0 : Int32).toNatClampNeg) = true then 0 else 1) else 1
def hoY (f g : Fn) : Nat → Nat → Int32
  | 0, _ => -9
  | n + 1, j => if atY f g (nI (j + 1)) (f (0 : Int32).toNatClampNeg) (g (0 : Int32).toNatClampNeg) = true then (if awY f g j = 0 then hoY f g n (j + 1) else nI (j + 1)) else hoY f g n (j + 1)
def homY (f g : Fn) : Int32 := hoY f g 10 0
def anY (f g : Fn) (n : Nat) : Nat → Int32
  | 0 => 1
  | k + 1 => if anY f g n k = 0 then 0 else if atY f g (nI k) (f (nI n).toNatClampNeg) (g (nI n).toNatClampNeg) = true then 0 else 1
def spY (f g : Fn) : Nat → Int32
  | 0 => 0
  | n + 1 => spY f g n + (if anY f g n n = 0 then 0 else 1)
