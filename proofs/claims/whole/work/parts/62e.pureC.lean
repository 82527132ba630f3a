/-! the last sum -/
theorem dvA (R s0 : Nat) (h : s0 < 256) : (256 * R + s0) / 256 = R := by
  rw [Nat.mul_add_div (by decide), Nat.div_eq_of_lt h]; omega
theorem dvB (R s1 s0 : Nat) (h1 : s1 < 256) (h : s0 < 256) : (256 * (256 * R + s1) + s0) / 65536 = R := by
  rw [show 256 * (256 * R + s1) + s0 = 65536 * R + (256 * s1 + s0) by omega, Nat.mul_add_div (by decide), Nat.div_eq_of_lt (by omega)]; omega
theorem dvC (R s3 s2 s1 s0 : Nat) (h3 : s3 < 256) (h2 : s2 < 256) (h1 : s1 < 256) (h : s0 < 256) : (256 * (256 * (256 * (256 * R + s3) + s2) + s1) + s0) / 4294967296 = R := by
  rw [show 256 * (256 * (256 * (256 * R + s3) + s2) + s1) + s0 = 4294967296 * R + (256 * (256 * (256 * s3 + s2) + s1) + s0) by omega, Nat.mul_add_div (by decide), Nat.div_eq_of_lt (by omega)]; omega
theorem bdA {R s : Nat} {m : Nat} (hR : R < m) (hs : s < 256) : 256 * R + s < 256 * m := by omega
theorem q1 {a : Nat} (h : a ≤ 8) : a < 256 := by omega
theorem q2 {a b : Nat} (h : a ≤ 8) (h1 : b ≤ 8) : a + b < 256 := by omega
theorem q3 {a b c : Nat} (h : a ≤ 8) (h1 : b ≤ 8) (h2 : c ≤ 8) : a + b + c < 256 := by omega
theorem q4 {a b c d : Nat} (h : a ≤ 8) (h1 : b ≤ 8) (h2 : c ≤ 8) (h3 : d ≤ 8) : a + b + c + d < 256 := by omega
theorem b64 : 256 * (256 * (256 * (256 * (256 * (256 * (256 * 256)))))) = 2 ^ 64 := by decide
theorem lz1 (p0 p1 p2 p3 p4 p5 p6 p7 : Nat) : 256 * (256 * (256 * (256 * (256 * (256 * (256 * p7 + p6) + p5) + p4) + p3) + p2) + p1) + p0 + (256 * (256 * (256 * (256 * (256 * (256 * p7 + p6) + p5) + p4) + p3) + p2) + p1) = 256 * (256 * (256 * (256 * (256 * (256 * (256 * p7 + (p6 + p7)) + (p5 + p6)) + (p4 + p5)) + (p3 + p4)) + (p2 + p3)) + (p1 + p2)) + (p0 + p1) := by omega
theorem lz2 (p0 p1 p2 p3 p4 p5 p6 p7 : Nat) : 256 * (256 * (256 * (256 * (256 * (256 * (256 * p7 + (p6 + p7)) + (p5 + p6)) + (p4 + p5)) + (p3 + p4)) + (p2 + p3)) + (p1 + p2)) + (p0 + p1) + (256 * (256 * (256 * (256 * (256 * p7 + (p6 + p7)) + (p5 + p6)) + (p4 + p5)) + (p3 + p4)) + (p2 + p3)) = 256 * (256 * (256 * (256 * (256 * (256 * (256 * p7 + (p6 + p7)) + (p5 + p6 + p7)) + (p4 + p5 + p6 + p7)) + (p3 + p4 + p5 + p6)) + (p2 + p3 + p4 + p5)) + (p1 + p2 + p3 + p4)) + (p0 + p1 + p2 + p3) := by omega
theorem lz3 {A B p0 p1 p2 p3 p4 p5 p6 p7 : Nat} (h0 : p0 ≤ 8) (h1 : p1 ≤ 8) (h2 : p2 ≤ 8) (h3 : p3 ≤ 8) (h4 : p4 ≤ 8) (h5 : p5 ≤ 8) (h6 : p6 ≤ 8) (h7 : p7 ≤ 8) : (256 * A + (p0 + p1 + p2 + p3) + (256 * B + (p4 + p5 + p6 + p7))) % 128 = p0 + p1 + p2 + p3 + p4 + p5 + p6 + p7 := by omega
theorem pop_4 {y p0 p1 p2 p3 p4 p5 p6 p7 : Nat} (h0 : p0 ≤ 8) (h1 : p1 ≤ 8) (h2 : p2 ≤ 8) (h3 : p3 ≤ 8) (h4 : p4 ≤ 8) (h5 : p5 ≤ 8) (h6 : p6 ≤ 8) (h7 : p7 ≤ 8) (hy : y = 256 * (256 * (256 * (256 * (256 * (256 * (256 * p7 + p6) + p5) + p4) + p3) + p2) + p1) + p0) :
    y < 2 ^ 64 ∧ y + y / 256 < 2 ^ 64 ∧ (y + y / 256) + (y + y / 256) / 65536 < 2 ^ 64 ∧ (((y + y / 256) + (y + y / 256) / 65536) + ((y + y / 256) + (y + y / 256) / 65536) / 4294967296) % 128 = p0 + p1 + p2 + p3 + p4 + p5 + p6 + p7 := by
  have e1 : y / 256 = 256 * (256 * (256 * (256 * (256 * (256 * p7 + p6) + p5) + p4) + p3) + p2) + p1 := by rw [hy]; exact dvA _ _ (q1 h0)
  have z1 : y + y / 256 = 256 * (256 * (256 * (256 * (256 * (256 * (256 * p7 + (p6 + p7)) + (p5 + p6)) + (p4 + p5)) + (p3 + p4)) + (p2 + p3)) + (p1 + p2)) + (p0 + p1) := by rw [e1, hy]; exact lz1 p0 p1 p2 p3 p4 p5 p6 p7
  have e2 : (y + y / 256) / 65536 = 256 * (256 * (256 * (256 * (256 * p7 + (p6 + p7)) + (p5 + p6)) + (p4 + p5)) + (p3 + p4)) + (p2 + p3) := by rw [z1]; exact dvB _ _ _ (q2 h1 h2) (q2 h0 h1)
  have z2 : (y + y / 256) + (y + y / 256) / 65536 = 256 * (256 * (256 * (256 * (256 * (256 * (256 * p7 + (p6 + p7)) + (p5 + p6 + p7)) + (p4 + p5 + p6 + p7)) + (p3 + p4 + p5 + p6)) + (p2 + p3 + p4 + p5)) + (p1 + p2 + p3 + p4)) + (p0 + p1 + p2 + p3) := by rw [e2, z1]; exact lz2 p0 p1 p2 p3 p4 p5 p6 p7
  have e3 : ((y + y / 256) + (y + y / 256) / 65536) / 4294967296 = 256 * (256 * (256 * p7 + (p6 + p7)) + (p5 + p6 + p7)) + (p4 + p5 + p6 + p7) := by rw [z2]; exact dvC _ _ _ _ _ (q4 h3 h4 h5 h6) (q4 h2 h3 h4 h5) (q4 h1 h2 h3 h4) (q4 h0 h1 h2 h3)
  refine ⟨?_, ?_, ?_, ?_⟩
  · rw [hy, ← b64]; exact bdA (bdA (bdA (bdA (bdA (bdA (bdA (q1 h7) (q1 h6)) (q1 h5)) (q1 h4)) (q1 h3)) (q1 h2)) (q1 h1)) (q1 h0)
  · rw [z1, ← b64]; exact bdA (bdA (bdA (bdA (bdA (bdA (bdA (q1 h7) (q2 h6 h7)) (q2 h5 h6)) (q2 h4 h5)) (q2 h3 h4)) (q2 h2 h3)) (q2 h1 h2)) (q2 h0 h1)
  · rw [z2, ← b64]; exact bdA (bdA (bdA (bdA (bdA (bdA (bdA (q1 h7) (q2 h6 h7)) (q3 h5 h6 h7)) (q4 h4 h5 h6 h7)) (q4 h3 h4 h5 h6)) (q4 h2 h3 h4 h5)) (q4 h1 h2 h3 h4)) (q4 h0 h1 h2 h3)
  · rw [e3, z2]
    exact lz3 h0 h1 h2 h3 h4 h5 h6 h7
