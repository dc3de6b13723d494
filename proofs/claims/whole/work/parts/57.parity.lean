theorem nx_and2 (a b : Nat) : nI a &&& nI b = nI (a &&& b) := by
  apply Int32.toBitVec_inj.1
  show BitVec.ofNat 32 a &&& BitVec.ofNat 32 b = BitVec.ofNat 32 (a &&& b)
  apply BitVec.eq_of_getLsbD_eq
  intro i hi
  simp [hi]
theorem nI_self (x : Int32) : x = nI x.toBitVec.toNat := by
  apply Int32.toBitVec_inj.1
  show x.toBitVec = BitVec.ofNat 32 x.toBitVec.toNat
  simp
theorem bc_1 {X : Nat} (h : X < 2 ^ 32) : pc_i1 (nI X) = nI (X - ((X / 2) &&& 1431655765)) := by
  unfold pc_i1
  rw [pk_ushrN h 1 1 (by decide)]
  show nI X - (nI (X / 2 ^ 1) &&& nI 1431655765) = _
  rw [nx_and2, pk_sub (Nat.le_trans Nat.and_le_left (Nat.div_le_self _ _))]
theorem bc_2 {X : Nat} (h : X < 2 ^ 32) : pc_i2 (nI X) = nI ((X &&& 858993459) + ((X / 4) &&& 858993459)) := by
  unfold pc_i2
  rw [pk_ushrN h 2 2 (by decide)]
  show (nI X &&& nI 858993459) + (nI (X / 2 ^ 2) &&& nI 858993459) = _
  rw [nx_and2, nx_and2, nI_add]
theorem bc_3 {X : Nat} (h : X < 2 ^ 32) : pc_i3 (nI X) = nI ((X + X / 16) &&& 252645135) := by
  unfold pc_i3
  rw [pk_ushrN h 4 4 (by decide)]
  show (nI X + nI (X / 2 ^ 4)) &&& nI 252645135 = _
  rw [nI_add, nx_and2]
theorem bc_4 {X : Nat} (h : X < 2 ^ 32) : pc_i4 (nI X) = nI (X + X / 256) := by
  unfold pc_i4
  rw [pk_ushrN h 8 8 (by decide), nI_add]
theorem bc_5 {X : Nat} (h : X < 2 ^ 32) : pc_i5 (nI X) = nI (X + X / 65536) := by
  unfold pc_i5
  rw [pk_ushrN h 16 16 (by decide), nI_add]
theorem bc_nat (x : Int32) : v_I_bitCount x = nI (pc_n x.toBitVec.toNat) := by
  have hX : x.toBitVec.toNat < 2 ^ 32 := x.toBitVec.isLt
  unfold v_I_bitCount
  rw [nI_self x]
  have e0 : (nI x.toBitVec.toNat).toBitVec.toNat = x.toBitVec.toNat := pk_tn hX
  rw [e0]
  generalize x.toBitVec.toNat = X at hX
  have b1 : X - ((X / 2) &&& 1431655765) < 2 ^ 32 := by omega
  rw [bc_1 hX]
  unfold pc_n
  generalize X - ((X / 2) &&& 1431655765) = a at b1
  simp only []
  have m1 : (a &&& 858993459) ≤ 858993459 := Nat.and_le_right
  have m2 : ((a / 4) &&& 858993459) ≤ 858993459 := Nat.and_le_right
  have b2 : (a &&& 858993459) + ((a / 4) &&& 858993459) < 2 ^ 32 := by omega
  rw [bc_2 b1]
  generalize (a &&& 858993459) + ((a / 4) &&& 858993459) = b at b2
  have b3 : ((b + b / 16) &&& 252645135) ≤ 252645135 := Nat.and_le_right
  rw [bc_3 b2]
  generalize (b + b / 16) &&& 252645135 = d at b3
  rw [bc_4 (by omega), bc_5 (by omega)]
  exact pk_andN (n := d + d / 256 + (d + d / 256) / 65536) (by omega) 6 (by decide)
def sb (X : Nat) : Nat → Nat → Nat
  | 0, _ => 0
  | k + 1, i => X / 2 ^ i % 2 + sb X k (i + 1)
theorem ones_sb (x : Int32) : ∀ (k i z : Nat), i + k ≤ 32 → lp_R_ones x k i (nI z) = nI (z + sb x.toBitVec.toNat k i) := by
  intro k
  induction k with
  | zero => intro i z _; simp [lp_R_ones, sb]
  | succ k ih =>
    intro i z hk
    simp only [lp_R_ones, sb]
    rw [b_one x (by omega)]
    have e : (if bt x i = true then (1 : Int32) else 0) = nI (x.toBitVec.toNat / 2 ^ i % 2) := by
      have hb : bt x i = decide (x.toBitVec.toNat / 2 ^ i % 2 = 1) := by
        show x.toBitVec.getLsbD i = _
        rw [← BitVec.testBit_toNat, Nat.testBit_eq_decide_div_mod_eq]
      rw [hb]
      by_cases h : x.toBitVec.toNat / 2 ^ i % 2 = 1
      · rw [if_pos (decide_eq_true h), h]; rfl
      · rw [if_neg (fun q => h (of_decide_eq_true q)), show x.toBitVec.toNat / 2 ^ i % 2 = 0 by omega]; rfl
    rw [e, nI_add, ih (i + 1) _ (by omega), Nat.add_assoc]
theorem sb_t0 (X : Nat) : X / 2 ^ 0 % 2 = X / 1 % 256 / 1 % 2 := by rw [show (2 : Nat) ^ 0 = 1 from rfl]; omega
theorem sb_t1 (X : Nat) : X / 2 ^ 1 % 2 = X / 1 % 256 / 2 % 2 := by rw [show (2 : Nat) ^ 1 = 2 from rfl]; omega
theorem sb_t2 (X : Nat) : X / 2 ^ 2 % 2 = X / 1 % 256 / 4 % 2 := by rw [show (2 : Nat) ^ 2 = 4 from rfl]; omega
theorem sb_t3 (X : Nat) : X / 2 ^ 3 % 2 = X / 1 % 256 / 8 % 2 := by rw [show (2 : Nat) ^ 3 = 8 from rfl]; omega
theorem sb_t4 (X : Nat) : X / 2 ^ 4 % 2 = X / 1 % 256 / 16 % 2 := by rw [show (2 : Nat) ^ 4 = 16 from rfl]; omega
theorem sb_t5 (X : Nat) : X / 2 ^ 5 % 2 = X / 1 % 256 / 32 % 2 := by rw [show (2 : Nat) ^ 5 = 32 from rfl]; omega
theorem sb_t6 (X : Nat) : X / 2 ^ 6 % 2 = X / 1 % 256 / 64 % 2 := by rw [show (2 : Nat) ^ 6 = 64 from rfl]; omega
theorem sb_t7 (X : Nat) : X / 2 ^ 7 % 2 = X / 1 % 256 / 128 % 2 := by rw [show (2 : Nat) ^ 7 = 128 from rfl]; omega
theorem sb_t8 (X : Nat) : X / 2 ^ 8 % 2 = X / 256 % 256 / 1 % 2 := by rw [show (2 : Nat) ^ 8 = 256 from rfl]; omega
theorem sb_t9 (X : Nat) : X / 2 ^ 9 % 2 = X / 256 % 256 / 2 % 2 := by rw [show (2 : Nat) ^ 9 = 512 from rfl]; omega
theorem sb_t10 (X : Nat) : X / 2 ^ 10 % 2 = X / 256 % 256 / 4 % 2 := by rw [show (2 : Nat) ^ 10 = 1024 from rfl]; omega
theorem sb_t11 (X : Nat) : X / 2 ^ 11 % 2 = X / 256 % 256 / 8 % 2 := by rw [show (2 : Nat) ^ 11 = 2048 from rfl]; omega
theorem sb_t12 (X : Nat) : X / 2 ^ 12 % 2 = X / 256 % 256 / 16 % 2 := by rw [show (2 : Nat) ^ 12 = 4096 from rfl]; omega
theorem sb_t13 (X : Nat) : X / 2 ^ 13 % 2 = X / 256 % 256 / 32 % 2 := by rw [show (2 : Nat) ^ 13 = 8192 from rfl]; omega
theorem sb_t14 (X : Nat) : X / 2 ^ 14 % 2 = X / 256 % 256 / 64 % 2 := by rw [show (2 : Nat) ^ 14 = 16384 from rfl]; omega
theorem sb_t15 (X : Nat) : X / 2 ^ 15 % 2 = X / 256 % 256 / 128 % 2 := by rw [show (2 : Nat) ^ 15 = 32768 from rfl]; omega
theorem sb_t16 (X : Nat) : X / 2 ^ 16 % 2 = X / 65536 % 256 / 1 % 2 := by rw [show (2 : Nat) ^ 16 = 65536 from rfl]; omega
theorem sb_t17 (X : Nat) : X / 2 ^ 17 % 2 = X / 65536 % 256 / 2 % 2 := by rw [show (2 : Nat) ^ 17 = 131072 from rfl]; omega
theorem sb_t18 (X : Nat) : X / 2 ^ 18 % 2 = X / 65536 % 256 / 4 % 2 := by rw [show (2 : Nat) ^ 18 = 262144 from rfl]; omega
theorem sb_t19 (X : Nat) : X / 2 ^ 19 % 2 = X / 65536 % 256 / 8 % 2 := by rw [show (2 : Nat) ^ 19 = 524288 from rfl]; omega
theorem sb_t20 (X : Nat) : X / 2 ^ 20 % 2 = X / 65536 % 256 / 16 % 2 := by rw [show (2 : Nat) ^ 20 = 1048576 from rfl]; omega
theorem sb_t21 (X : Nat) : X / 2 ^ 21 % 2 = X / 65536 % 256 / 32 % 2 := by rw [show (2 : Nat) ^ 21 = 2097152 from rfl]; omega
theorem sb_t22 (X : Nat) : X / 2 ^ 22 % 2 = X / 65536 % 256 / 64 % 2 := by rw [show (2 : Nat) ^ 22 = 4194304 from rfl]; omega
theorem sb_t23 (X : Nat) : X / 2 ^ 23 % 2 = X / 65536 % 256 / 128 % 2 := by rw [show (2 : Nat) ^ 23 = 8388608 from rfl]; omega
theorem sb_t24 (X : Nat) : X / 2 ^ 24 % 2 = X / 16777216 % 256 / 1 % 2 := by rw [show (2 : Nat) ^ 24 = 16777216 from rfl]; omega
theorem sb_t25 (X : Nat) : X / 2 ^ 25 % 2 = X / 16777216 % 256 / 2 % 2 := by rw [show (2 : Nat) ^ 25 = 33554432 from rfl]; omega
theorem sb_t26 (X : Nat) : X / 2 ^ 26 % 2 = X / 16777216 % 256 / 4 % 2 := by rw [show (2 : Nat) ^ 26 = 67108864 from rfl]; omega
theorem sb_t27 (X : Nat) : X / 2 ^ 27 % 2 = X / 16777216 % 256 / 8 % 2 := by rw [show (2 : Nat) ^ 27 = 134217728 from rfl]; omega
theorem sb_t28 (X : Nat) : X / 2 ^ 28 % 2 = X / 16777216 % 256 / 16 % 2 := by rw [show (2 : Nat) ^ 28 = 268435456 from rfl]; omega
theorem sb_t29 (X : Nat) : X / 2 ^ 29 % 2 = X / 16777216 % 256 / 32 % 2 := by rw [show (2 : Nat) ^ 29 = 536870912 from rfl]; omega
theorem sb_t30 (X : Nat) : X / 2 ^ 30 % 2 = X / 16777216 % 256 / 64 % 2 := by rw [show (2 : Nat) ^ 30 = 1073741824 from rfl]; omega
theorem sb_t31 (X : Nat) : X / 2 ^ 31 % 2 = X / 16777216 % 256 / 128 % 2 := by rw [show (2 : Nat) ^ 31 = 2147483648 from rfl]; omega
theorem sb_8 (X : Nat) (hX : X < 2 ^ 32) : sb X 32 0 = pc_b8 (X / 16777216 % 256) + pc_b8 (X / 65536 % 256) + pc_b8 (X / 256 % 256) + pc_b8 (X / 1 % 256) := by
  simp only [sb, Nat.zero_add, Nat.reduceAdd]
  rw [sb_t0, sb_t1, sb_t2, sb_t3, sb_t4, sb_t5, sb_t6, sb_t7, sb_t8, sb_t9, sb_t10, sb_t11, sb_t12, sb_t13, sb_t14, sb_t15, sb_t16, sb_t17, sb_t18, sb_t19, sb_t20, sb_t21, sb_t22, sb_t23, sb_t24, sb_t25, sb_t26, sb_t27, sb_t28, sb_t29, sb_t30, sb_t31]
  unfold pc_b8
  generalize X / 16777216 % 256 = d3
  generalize X / 65536 % 256 = d2
  generalize X / 256 % 256 = d1
  generalize X / 1 % 256 = d0
  simp only [Nat.div_one]
  omega
theorem pc_sb {X : Nat} (hX : X < 2 ^ 32) : pc_n X = sb X 32 0 := by
  rw [sb_8 X hX]
  have e : X = pc_w (X / 16777216 % 256) (X / 65536 % 256) (X / 256 % 256) (X / 1 % 256) := by unfold pc_w; omega
  have h := pc_bytes (b3 := X / 16777216 % 256) (b2 := X / 65536 % 256) (b1 := X / 256 % 256) (b0 := X / 1 % 256) (by omega) (by omega) (by omega) (by omega)
  rw [← e, pc_fb _ (by omega), pc_fb _ (by omega), pc_fb _ (by omega), pc_fb _ (by omega)] at h
  exact h
theorem par_both (x : Int32) : ∃ P : Nat, P < 64 ∧ v_I_bitCount x = nI P ∧ v_R_ones x = nI P := by
  refine ⟨pc_n x.toBitVec.toNat, ?_, bc_nat x, ?_⟩
  · unfold pc_n; exact Nat.mod_lt _ (by decide)
  · unfold v_R_ones
    have h := ones_sb x 32 0 0 (by omega)
    rw [Nat.zero_add, ← pc_sb x.toBitVec.isLt] at h
    exact h
theorem par_eq (x : Int32) : v_G_hasOddParity x = decide ((v_R_ones x - v_R_ones x / (2 : Int32) * (2 : Int32)) = (1 : Int32)) ∧ ((v_R_ones x - v_R_ones x / (2 : Int32) * (2 : Int32)) = 0 ↔ v_G_hasOddParity x = false) := by
  obtain ⟨P, hP, e1, e2⟩ := par_both x
  have h1 : nI P &&& (1 : Int32) = nI (P % 2) := pk_andN (n := P) (by omega) 1 (by decide)
  have h2 : nI P - nI P / (2 : Int32) * (2 : Int32) = nI (P % 2) := pk_rem (a := P) (d := 2) (by omega) (by decide) (by decide)
  unfold v_G_hasOddParity
  rw [e1, e2, h1, h2]
  rcases (by omega : P % 2 = 0 ∨ P % 2 = 1) with h | h <;> rw [h] <;> decide
theorem op_label (c r : gm_St) (wo : Int32) : v_G_label c wo = v_R_label r wo := by
  unfold v_G_label v_R_label
  obtain ⟨p1, p2⟩ := par_eq wo
  by_cases h : v_G_hasOddParity wo = true
  · rw [if_pos h, if_neg (fun q => by rw [p2.mp q] at h; cases h)]
    simp only [lp_G_label, lp_R_label, Nat.zero_add, Nat.reduceAdd]
    rw [b_one wo (n := 0) (by decide), b_one wo (n := 1) (by decide), b_one wo (n := 2) (by decide), b_one wo (n := 3) (by decide), b_one wo (n := 4) (by decide), b_one wo (n := 5) (by decide), b_one wo (n := 6) (by decide), b_one wo (n := 7) (by decide)]
    generalize bt wo 0 = a0
    generalize bt wo 1 = a1
    generalize bt wo 2 = a2
    generalize bt wo 3 = a3
    generalize bt wo 4 = a4
    generalize bt wo 5 = a5
    generalize bt wo 6 = a6
    generalize bt wo 7 = a7
    revert a0 a1 a2 a3 a4 a5 a6 a7
    decide +kernel
  · have hf : v_G_hasOddParity wo = false := by cases q : v_G_hasOddParity wo <;> simp_all
    rw [if_neg h, if_pos (p2.mpr hf)]
