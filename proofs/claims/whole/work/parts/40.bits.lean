-- how many bits: the JDK's bitCount by bytes, over Nat
theorem pc_and {a b c d : Nat} (hb : b < 256) (hd : d < 256) : (256 * a + b) &&& (256 * c + d) = 256 * (a &&& c) + (b &&& d) := by
  apply Nat.eq_of_testBit_eq
  intro i
  have h2 : (b &&& d) < 2 ^ 8 := Nat.and_lt_two_pow _ (by omega)
  rw [Nat.testBit_and, show (256 : Nat) = 2 ^ 8 from rfl, Nat.testBit_two_pow_mul_add _ (by omega), Nat.testBit_two_pow_mul_add _ (by omega), Nat.testBit_two_pow_mul_add _ h2, Nat.testBit_and, Nat.testBit_and]
  by_cases h : i < 8 <;> simp [h]
def pc_y1 (b : Nat) : Nat := b - ((b / 2) &&& 85)
def pc_y2 (b : Nat) : Nat := (b &&& 51) + ((b / 4) &&& 51)
def pc_y3 (b : Nat) : Nat := (b + b / 16) &&& 15
def pc_w (b3 b2 b1 b0 : Nat) : Nat := 256 * (256 * (256 * b3 + b2) + b1) + b0
theorem pc_m1 : ∀ b, b < 256 → ∀ d, d < 2 → (b / 2 + 128 * d) &&& 85 = (b / 2) &&& 85 := by decide +kernel
theorem pc_l1 : ∀ b, b < 256 → ((b / 2) &&& 85) ≤ b := by decide +kernel
theorem pc_m2 : ∀ b, b < 256 → ∀ d, d < 4 → (b / 4 + 64 * d) &&& 51 = (b / 4) &&& 51 := by decide +kernel
theorem pc_l2 : ∀ b, b < 256 → pc_y1 b < 256 ∧ pc_y2 (pc_y1 b) < 128 ∧ pc_y2 (pc_y1 b) / 16 + 16 * 4 < 128 ∧ pc_y2 (pc_y1 b) % 16 ≤ 4 := by decide +kernel
theorem pc_m3 : ∀ b, b < 256 → ∀ d, d < 5 → (pc_y2 (pc_y1 b) + (pc_y2 (pc_y1 b) / 16 + 16 * d)) &&& 15 = pc_y3 (pc_y2 (pc_y1 b)) := by decide +kernel
theorem pc_l3 : ∀ b, b < 256 → pc_y3 (pc_y2 (pc_y1 b)) ≤ 8 := by decide +kernel
theorem pc_and4 {a3 a2 a1 a0 c3 c2 c1 c0 : Nat} (h2 : a2 < 256) (h1 : a1 < 256) (h0 : a0 < 256) (k2 : c2 < 256) (k1 : c1 < 256) (k0 : c0 < 256) : pc_w a3 a2 a1 a0 &&& pc_w c3 c2 c1 c0 = pc_w (a3 &&& c3) (a2 &&& c2) (a1 &&& c1) (a0 &&& c0) := by
  unfold pc_w
  rw [pc_and h0 k0, pc_and h1 k1, pc_and h2 k2]
theorem pc_s1 {b3 b2 b1 b0 : Nat} (h3 : b3 < 256) (h2 : b2 < 256) (h1 : b1 < 256) (h0 : b0 < 256) : pc_w b3 b2 b1 b0 - ((pc_w b3 b2 b1 b0 / 2) &&& 1431655765) = pc_w (pc_y1 b3) (pc_y1 b2) (pc_y1 b1) (pc_y1 b0) ∧ ((pc_w b3 b2 b1 b0 / 2) &&& 1431655765) ≤ pc_w b3 b2 b1 b0 := by
  have e : pc_w b3 b2 b1 b0 / 2 = pc_w (b3 / 2 + 128 * 0) (b2 / 2 + 128 * (b3 % 2)) (b1 / 2 + 128 * (b2 % 2)) (b0 / 2 + 128 * (b1 % 2)) := by unfold pc_w; omega
  rw [e, show (1431655765 : Nat) = pc_w 85 85 85 85 from rfl, pc_and4 (by omega) (by omega) (by omega) (by decide) (by decide) (by decide), pc_m1 b3 h3 0 (by decide), pc_m1 b2 h2 _ (by omega), pc_m1 b1 h1 _ (by omega), pc_m1 b0 h0 _ (by omega)]
  have l3 := pc_l1 b3 h3
  have l2 := pc_l1 b2 h2
  have l1 := pc_l1 b1 h1
  have l0 := pc_l1 b0 h0
  unfold pc_w pc_y1
  omega
theorem pc_s2 {b3 b2 b1 b0 : Nat} (h3 : b3 < 256) (h2 : b2 < 256) (h1 : b1 < 256) (h0 : b0 < 256) : (pc_w b3 b2 b1 b0 &&& 858993459) + ((pc_w b3 b2 b1 b0 / 4) &&& 858993459) = pc_w (pc_y2 b3) (pc_y2 b2) (pc_y2 b1) (pc_y2 b0) := by
  have e : pc_w b3 b2 b1 b0 / 4 = pc_w (b3 / 4 + 64 * 0) (b2 / 4 + 64 * (b3 % 4)) (b1 / 4 + 64 * (b2 % 4)) (b0 / 4 + 64 * (b1 % 4)) := by unfold pc_w; omega
  rw [e, show (858993459 : Nat) = pc_w 51 51 51 51 from rfl, pc_and4 h2 h1 h0 (by decide) (by decide) (by decide), pc_and4 (by omega) (by omega) (by omega) (by decide) (by decide) (by decide), pc_m2 b3 h3 0 (by decide), pc_m2 b2 h2 _ (by omega), pc_m2 b1 h1 _ (by omega), pc_m2 b0 h0 _ (by omega)]
  unfold pc_w pc_y2
  omega
theorem pc_s3 {b3 b2 b1 b0 : Nat} (h3 : b3 < 256) (h2 : b2 < 256) (h1 : b1 < 256) (h0 : b0 < 256) : (pc_w (pc_y2 (pc_y1 b3)) (pc_y2 (pc_y1 b2)) (pc_y2 (pc_y1 b1)) (pc_y2 (pc_y1 b0)) + pc_w (pc_y2 (pc_y1 b3)) (pc_y2 (pc_y1 b2)) (pc_y2 (pc_y1 b1)) (pc_y2 (pc_y1 b0)) / 16) &&& 252645135 = pc_w (pc_y3 (pc_y2 (pc_y1 b3))) (pc_y3 (pc_y2 (pc_y1 b2))) (pc_y3 (pc_y2 (pc_y1 b1))) (pc_y3 (pc_y2 (pc_y1 b0))) := by
  obtain ⟨-, l3, m3, n3⟩ := pc_l2 b3 h3
  obtain ⟨-, l2, m2, n2⟩ := pc_l2 b2 h2
  obtain ⟨-, l1, m1, n1⟩ := pc_l2 b1 h1
  obtain ⟨-, l0, m0, n0⟩ := pc_l2 b0 h0
  have q3 := pc_m3 b3 h3 0 (by decide)
  have q2 := pc_m3 b2 h2 (pc_y2 (pc_y1 b3) % 16) (by omega)
  have q1 := pc_m3 b1 h1 (pc_y2 (pc_y1 b2) % 16) (by omega)
  have q0 := pc_m3 b0 h0 (pc_y2 (pc_y1 b1) % 16) (by omega)
  generalize pc_y2 (pc_y1 b3) = g3 at *
  generalize pc_y2 (pc_y1 b2) = g2 at *
  generalize pc_y2 (pc_y1 b1) = g1 at *
  generalize pc_y2 (pc_y1 b0) = g0 at *
  have e : pc_w g3 g2 g1 g0 + pc_w g3 g2 g1 g0 / 16 = pc_w (g3 + (g3 / 16 + 16 * 0)) (g2 + (g2 / 16 + 16 * (g3 % 16))) (g1 + (g1 / 16 + 16 * (g2 % 16))) (g0 + (g0 / 16 + 16 * (g1 % 16))) := by unfold pc_w; omega
  rw [e, show (252645135 : Nat) = pc_w 15 15 15 15 from rfl, pc_and4 (by omega) (by omega) (by omega) (by decide) (by decide) (by decide), q3, q2, q1, q0]
def pc_f (b : Nat) : Nat := pc_y3 (pc_y2 (pc_y1 b))
/-- bitCount over Nat -/
def pc_n (x : Nat) : Nat :=
  let a := x - ((x / 2) &&& 1431655765)
  let b := (a &&& 858993459) + ((a / 4) &&& 858993459)
  let c := (b + b / 16) &&& 252645135
  let d := c + c / 256
  let e := d + d / 65536
  e % 64
theorem pc_bytes {b3 b2 b1 b0 : Nat} (h3 : b3 < 256) (h2 : b2 < 256) (h1 : b1 < 256) (h0 : b0 < 256) : pc_n (pc_w b3 b2 b1 b0) = pc_f b3 + pc_f b2 + pc_f b1 + pc_f b0 := by
  unfold pc_n
  simp only []
  rw [(pc_s1 h3 h2 h1 h0).1, pc_s2 (pc_l2 b3 h3).1 (pc_l2 b2 h2).1 (pc_l2 b1 h1).1 (pc_l2 b0 h0).1, pc_s3 h3 h2 h1 h0]
  have l3 := pc_l3 b3 h3
  have l2 := pc_l3 b2 h2
  have l1 := pc_l3 b1 h1
  have l0 := pc_l3 b0 h0
  unfold pc_f
  generalize pc_y3 (pc_y2 (pc_y1 b3)) = g3 at *
  generalize pc_y3 (pc_y2 (pc_y1 b2)) = g2 at *
  generalize pc_y3 (pc_y2 (pc_y1 b1)) = g1 at *
  generalize pc_y3 (pc_y2 (pc_y1 b0)) = g0 at *
  have e1 : pc_w g3 g2 g1 g0 / 256 = 256 * (256 * g3 + g2) + g1 := by unfold pc_w; omega
  rw [e1]
  have e2 : (pc_w g3 g2 g1 g0 + (256 * (256 * g3 + g2) + g1)) / 65536 = 256 * g3 + (g2 + g3) := by unfold pc_w; omega
  rw [e2]
  have e3 : pc_w g3 g2 g1 g0 + (256 * (256 * g3 + g2) + g1) + (256 * g3 + (g2 + g3)) = 64 * (262144 * g3 + 1024 * g2 + 4 * g1 + 1024 * g3 + 4 * g2 + 4 * g3) + (g3 + g2 + g1 + g0) := by unfold pc_w; omega
  rw [e3]
  omega
def pc_b8 (b : Nat) : Nat := b % 2 + b / 2 % 2 + b / 4 % 2 + b / 8 % 2 + b / 16 % 2 + b / 32 % 2 + b / 64 % 2 + b / 128 % 2
theorem pc_fb : ∀ b, b < 256 → pc_f b = pc_b8 b := by decide +kernel
