/-! what holds of the start: nest words, the two static tables, classes, array classes -/
theorem nest_in : ∀ w ∈ nestL, w ∈ lw_tbl := by decide +kernel
theorem nest_on : ∀ w ∈ nestL, w.onTables = true := by decide +kernel
theorem law_N {s : State} {args : Array Value} (hts : ∀ w ∈ lw_tbl, w.before args s = true) : EnvN s := fun w hw => va_Nw.of (nest_on w hw) (hts w (nest_in w hw))
theorem law_S {s : State} {args : Array Value} (hts : ∀ w ∈ lw_tbl, w.before args s = true) (hgv : (Jvm.Cond.and given_1 narrow_1).before args s = true) : EnvS (fun q : Nat => s.heap.size ≤ q) s s.heap := by
  have F := flat_of_before _ hgv
  have hA : ∀ a : Nat, a < s.heap.size → ¬ (fun q : Nat => s.heap.size ≤ q) a := fun a h => Nat.not_le.mpr h
  have hini := hts (.initialized "DanceStaffs") (by decide +kernel)
  obtain ⟨tX, etX, TtX⟩ := va_Tof (tm := (.static "DanceStaffs" "X_BY_DIRECTION" "[I")) (ty := .int) (N := 8) (f := fun j => .int (xdv j)) (A := fun q : Nat => s.heap.size ≤ q) (by decide) (F (.arrayOf (.static "DanceStaffs" "X_BY_DIRECTION" "[I") .int) (by decide +kernel)) (va_eqt (F (.eq (.length (.static "DanceStaffs" "X_BY_DIRECTION" "[I")) (.int 8)) (by decide +kernel))) (fun j hj => by
    rcases (show j = 0 ∨ j = 1 ∨ j = 2 ∨ j = 3 ∨ j = 4 ∨ j = 5 ∨ j = 6 ∨ j = 7 by omega) with rfl | rfl | rfl | rfl | rfl | rfl | rfl | rfl
    · exact va_eqt (F (.eq (.elem (.static "DanceStaffs" "X_BY_DIRECTION" "[I") (.int 0)) (.int 0)) (by decide +kernel))
    · exact va_eqt (F (.eq (.elem (.static "DanceStaffs" "X_BY_DIRECTION" "[I") (.int 1)) (.int 1)) (by decide +kernel))
    · exact va_eqt (F (.eq (.elem (.static "DanceStaffs" "X_BY_DIRECTION" "[I") (.int 2)) (.int 1)) (by decide +kernel))
    · exact va_eqt (F (.eq (.elem (.static "DanceStaffs" "X_BY_DIRECTION" "[I") (.int 3)) (.int 1)) (by decide +kernel))
    · exact va_eqt (F (.eq (.elem (.static "DanceStaffs" "X_BY_DIRECTION" "[I") (.int 4)) (.int 0)) (by decide +kernel))
    · exact va_eqt (F (.eq (.elem (.static "DanceStaffs" "X_BY_DIRECTION" "[I") (.int 5)) (.int (-1))) (by decide +kernel))
    · exact va_eqt (F (.eq (.elem (.static "DanceStaffs" "X_BY_DIRECTION" "[I") (.int 6)) (.int (-1))) (by decide +kernel))
    · exact va_eqt (F (.eq (.elem (.static "DanceStaffs" "X_BY_DIRECTION" "[I") (.int 7)) (.int (-1))) (by decide +kernel))) hA
  obtain ⟨tY, etY, TtY⟩ := va_Tof (tm := (.static "DanceStaffs" "Y_BY_DIRECTION" "[I")) (ty := .int) (N := 8) (f := fun j => .int (ydv j)) (A := fun q : Nat => s.heap.size ≤ q) (by decide) (F (.arrayOf (.static "DanceStaffs" "Y_BY_DIRECTION" "[I") .int) (by decide +kernel)) (va_eqt (F (.eq (.length (.static "DanceStaffs" "Y_BY_DIRECTION" "[I")) (.int 8)) (by decide +kernel))) (fun j hj => by
    rcases (show j = 0 ∨ j = 1 ∨ j = 2 ∨ j = 3 ∨ j = 4 ∨ j = 5 ∨ j = 6 ∨ j = 7 by omega) with rfl | rfl | rfl | rfl | rfl | rfl | rfl | rfl
    · exact va_eqt (F (.eq (.elem (.static "DanceStaffs" "Y_BY_DIRECTION" "[I") (.int 0)) (.int 1)) (by decide +kernel))
    · exact va_eqt (F (.eq (.elem (.static "DanceStaffs" "Y_BY_DIRECTION" "[I") (.int 1)) (.int 1)) (by decide +kernel))
    · exact va_eqt (F (.eq (.elem (.static "DanceStaffs" "Y_BY_DIRECTION" "[I") (.int 2)) (.int 0)) (by decide +kernel))
    · exact va_eqt (F (.eq (.elem (.static "DanceStaffs" "Y_BY_DIRECTION" "[I") (.int 3)) (.int (-1))) (by decide +kernel))
    · exact va_eqt (F (.eq (.elem (.static "DanceStaffs" "Y_BY_DIRECTION" "[I") (.int 4)) (.int (-1))) (by decide +kernel))
    · exact va_eqt (F (.eq (.elem (.static "DanceStaffs" "Y_BY_DIRECTION" "[I") (.int 5)) (.int (-1))) (by decide +kernel))
    · exact va_eqt (F (.eq (.elem (.static "DanceStaffs" "Y_BY_DIRECTION" "[I") (.int 6)) (.int 0)) (by decide +kernel))
    · exact va_eqt (F (.eq (.elem (.static "DanceStaffs" "Y_BY_DIRECTION" "[I") (.int 7)) (.int 1)) (by decide +kernel))) hA
  exact ⟨tX, tY, va_Zref (hts (.laysStatic "DanceStaffs" "X_BY_DIRECTION" "[I") (by decide +kernel)) hini etX hA, TtX, va_Zref (hts (.laysStatic "DanceStaffs" "Y_BY_DIRECTION" "[I") (by decide +kernel)) hini etY hA, TtY⟩
theorem law_ar {s : State} {args : Array Value} {ty : FieldType} (h : (Cond.arrayClass ty).before args s = true) : ∃ cA : ClassId, ArrOfT s cA ty ∧ s.vm.findClass ("[" ++ ty.toString) = some cA := by
  obtain ⟨cA, kA, comp, h1, h2, h3⟩ := Cond.arrayClass_spec h
  exact ⟨cA, fun n z => ⟨fun k h => (by cases h), kA, h2, comp, h3⟩, h1⟩
theorem law_K {s : State} {args : Array Value} (hts : ∀ w ∈ lw_tbl, w.before args s = true) (hin : ∀ (k : Nat) (q : vw_C), vwCl[k]? = some q → ∀ w ∈ u_ws q.1 q.2.1 q.2.2, w ∈ lw_tbl) : ∃ (D : va_G) (cI cJ cZ : ClassId), va_K D vwCl (tyL cI cJ cZ) s := by
  obtain ⟨c0, iS0, hKn0⟩ := u_known (C := RX0) (T := TX0) (N := 6) (n := 6) hts (hin 0 _ rfl) (hts (.instantiable RX0 6) (by decide +kernel))
  obtain ⟨c1, iS1, hKn1⟩ := u_known (C := RX1) (T := TX1) (N := 5) (n := 5) hts (hin 1 _ rfl) (hts (.instantiable RX1 5) (by decide +kernel))
  obtain ⟨c2, iS2, hKn2⟩ := u_known (C := RX2) (T := TX2) (N := 2) (n := 2) hts (hin 2 _ rfl) (hts (.instantiable RX2 2) (by decide +kernel))
  obtain ⟨c3, iS3, hKn3⟩ := u_known (C := RX3) (T := TX3) (N := 3) (n := 3) hts (hin 3 _ rfl) (hts (.instantiable RX3 3) (by decide +kernel))
  obtain ⟨c4, iS4, hKn4⟩ := u_known (C := RX4) (T := TX4) (N := 4) (n := 4) hts (hin 4 _ rfl) (hts (.instantiable RX4 4) (by decide +kernel))
  obtain ⟨c5, iS5, hKn5⟩ := u_known (C := RX5) (T := TX5) (N := 2) (n := 2) hts (hin 5 _ rfl) (hts (.instantiable RX5 2) (by decide +kernel))
  obtain ⟨c6, iS6, hKn6⟩ := u_known (C := RX6) (T := TX6) (N := 4) (n := 4) hts (hin 6 _ rfl) (hts (.instantiable RX6 4) (by decide +kernel))
  obtain ⟨c7, iS7, hKn7⟩ := u_known (C := RX7) (T := TX7) (N := 2) (n := 2) hts (hin 7 _ rfl) (hts (.instantiable RX7 2) (by decide +kernel))
  obtain ⟨c8, iS8, hKn8⟩ := u_known (C := RX8) (T := TX8) (N := 5) (n := 5) hts (hin 8 _ rfl) (hts (.instantiable RX8 5) (by decide +kernel))
  obtain ⟨c9, iS9, hKn9⟩ := u_known (C := RX9) (T := TX9) (N := 13) (n := 13) hts (hin 9 _ rfl) (hts (.instantiable RX9 13) (by decide +kernel))
  obtain ⟨c10, iS10, hKn10⟩ := u_known (C := RX10) (T := TX10) (N := 37) (n := 37) hts (hin 10 _ rfl) (hts (.instantiable RX10 37) (by decide +kernel))
  obtain ⟨cI, aI, fI⟩ := law_ar (hts (.arrayClass .int) (by decide +kernel))
  obtain ⟨cJ, aJ, fJ⟩ := law_ar (hts (.arrayClass .long) (by decide +kernel))
  obtain ⟨cZ, aZ, fZ⟩ := law_ar (hts (.arrayClass .boolean) (by decide +kernel))
  refine ⟨(fun k => if k = 0 then c0 else if k = 1 then c1 else if k = 2 then c2 else if k = 3 then c3 else if k = 4 then c4 else if k = 5 then c5 else if k = 6 then c6 else if k = 7 then c7 else if k = 8 then c8 else if k = 9 then c9 else c10, fun k => if k = 0 then iS0 else if k = 1 then iS1 else if k = 2 then iS2 else if k = 3 then iS3 else if k = 4 then iS4 else if k = 5 then iS5 else if k = 6 then iS6 else if k = 7 then iS7 else if k = 8 then iS8 else if k = 9 then iS9 else iS10), cI, cJ, cZ, ?_, ?_⟩
  · intro k q hq
    match k, hq with
    | 0, hq => cases hq; exact hKn0
    | 1, hq => cases hq; exact hKn1
    | 2, hq => cases hq; exact hKn2
    | 3, hq => cases hq; exact hKn3
    | 4, hq => cases hq; exact hKn4
    | 5, hq => cases hq; exact hKn5
    | 6, hq => cases hq; exact hKn6
    | 7, hq => cases hq; exact hKn7
    | 8, hq => cases hq; exact hKn8
    | 9, hq => cases hq; exact hKn9
    | 10, hq => cases hq; exact hKn10
    | k + 11, hq => simp at hq
  · intro k q hq
    match k, hq with
    | 0, hq => cases hq; exact ⟨aI, fI⟩
    | 1, hq => cases hq; exact ⟨aJ, fJ⟩
    | 2, hq => cases hq; exact ⟨aZ, fZ⟩
    | k + 3, hq => simp at hq
theorem law_in : ∀ (k : Nat) (q : vw_C), vwCl[k]? = some q → ∀ w ∈ u_ws q.1 q.2.1 q.2.2, w ∈ lw_tbl := by
  intro k q hq
  match k, hq with
  | 0, hq => cases hq; exact wl_wsX00
  | 1, hq => cases hq; exact wl_wsX10
  | 2, hq => cases hq; exact wl_wsX20
  | 3, hq => cases hq; exact wl_wsX30
  | 4, hq => cases hq; exact wl_wsX40
  | 5, hq => cases hq; exact wl_wsX50
  | 6, hq => cases hq; exact wl_wsX60
  | 7, hq => cases hq; exact wl_wsX70
  | 8, hq => cases hq; exact wl_wsX80
  | 9, hq => cases hq; exact wl_wsX90
  | 10, hq => cases hq; exact wl_wsX100
  | k + 11, hq => simp at hq
