/-! ===== Int32 by its bits: bt x i ===== -/
def bt (x : Int32) (i : Nat) : Bool := x.toBitVec.getLsbD i
theorem b_ext {x y : Int32} (h : ∀ i, i < 32 → bt x i = bt y i) : x = y := Int32.toBitVec_inj.mp (BitVec.eq_of_getLsbD_eq (fun i hi => h i hi))
theorem b_or (x y : Int32) (i : Nat) : bt (x ||| y) i = (bt x i || bt y i) := by unfold bt; rw [Int32.toBitVec_or, BitVec.getLsbD_or]
theorem b_and (x y : Int32) (i : Nat) : bt (x &&& y) i = (bt x i && bt y i) := by unfold bt; rw [Int32.toBitVec_and, BitVec.getLsbD_and]
theorem b_xor (x y : Int32) (i : Nat) : bt (x ^^^ y) i = (bt x i ^^ bt y i) := by unfold bt; rw [Int32.toBitVec_xor, BitVec.getLsbD_xor]
theorem b_big {x : Int32} {i : Nat} (h : 32 ≤ i) : bt x i = false := BitVec.getLsbD_of_ge _ _ h
theorem b_255 (i : Nat) : bt 255 i = decide (i < 8) := by
  rcases Nat.lt_or_ge i 32 with h | h
  · exact (by decide +kernel : ∀ i, i < 32 → bt 255 i = decide (i < 8)) i h
  · rw [b_big h, decide_eq_false (by omega)]
theorem b_65535 (i : Nat) : bt 65535 i = decide (i < 16) := by
  rcases Nat.lt_or_ge i 32 with h | h
  · exact (by decide +kernel : ∀ i, i < 32 → bt 65535 i = decide (i < 16)) i h
  · rw [b_big h, decide_eq_false (by omega)]
theorem b_m1 : ∀ i, i < 32 → bt (-1) i = true := by decide +kernel
theorem b_0 (i : Nat) : bt 0 i = false := BitVec.getLsbD_zero
theorem s_l : ∀ n, n < 32 → ((nI n &&& 31).toBitVec.smod 32).toNat = n := by decide +kernel
theorem s_u : ∀ n, n < 32 → (((nI n).toUInt32 &&& Int32.toUInt32 31).toBitVec % 32).toNat = n := by decide +kernel
theorem b_shl (n : Nat) (hn : n < 32) (x : Int32) {i : Nat} (hi : i < 32) : bt (x <<< (nI n &&& 31)) i = (decide (n ≤ i) && bt x (i - n)) := by
  unfold bt
  rw [Int32.toBitVec_shiftLeft]
  show (x.toBitVec <<< ((nI n &&& 31).toBitVec.smod 32).toNat).getLsbD i = _
  rw [s_l n hn, BitVec.getLsbD_shiftLeft]
  rcases Nat.lt_or_ge i n with h | h
  · simp [h, Nat.not_le.mpr h]
  · simp [hi, h, Nat.not_lt.mpr h]
theorem b_ushr (n : Nat) (hn : n < 32) (x : Int32) (i : Nat) : bt ((x.toUInt32 >>> ((nI n).toUInt32 &&& Int32.toUInt32 31)).toInt32) i = bt x (n + i) := by
  show (x.toUInt32 >>> ((nI n).toUInt32 &&& Int32.toUInt32 31)).toBitVec.getLsbD i = x.toUInt32.toBitVec.getLsbD (n + i)
  rw [UInt32.toBitVec_shiftRight]
  show (x.toUInt32.toBitVec >>> (((nI n).toUInt32 &&& Int32.toUInt32 31).toBitVec % 32).toNat).getLsbD i = _
  rw [s_u n hn, BitVec.getLsbD_ushiftRight]
theorem b_sshr (n : Nat) (hn : n < 32) (x : Int32) {i : Nat} (hi : i < 32) : bt (x >>> (nI n &&& 31)) i = if n + i < 32 then bt x (n + i) else bt x 31 := by
  unfold bt
  rw [Int32.toBitVec_shiftRight]
  show (x.toBitVec.sshiftRight ((nI n &&& 31).toBitVec.smod 32).toNat).getLsbD i = _
  rw [s_l n hn, BitVec.getLsbD_sshiftRight, BitVec.msb_eq_getLsbD_last]
  simp [hi]
theorem b_shl8 (x : Int32) {i : Nat} (hi : i < 32) : bt (x <<< ((8 : Int32) &&& 31)) i = (decide (8 ≤ i) && bt x (i - 8)) := b_shl 8 (by omega) x hi
theorem b_shl16 (x : Int32) {i : Nat} (hi : i < 32) : bt (x <<< ((16 : Int32) &&& 31)) i = (decide (16 ≤ i) && bt x (i - 16)) := b_shl 16 (by omega) x hi
theorem b_shl24 (x : Int32) {i : Nat} (hi : i < 32) : bt (x <<< ((24 : Int32) &&& 31)) i = (decide (24 ≤ i) && bt x (i - 24)) := b_shl 24 (by omega) x hi
theorem b_sshr8 (x : Int32) {i : Nat} (hi : i < 32) : bt (x >>> ((8 : Int32) &&& 31)) i = if 8 + i < 32 then bt x (8 + i) else bt x 31 := b_sshr 8 (by omega) x hi
theorem b_1 : ∀ i, i < 32 → bt 1 i = decide (i = 0) := by decide +kernel
theorem b_one (x : Int32) {n : Nat} (hn : n < 32) : ((x >>> (nI n &&& 31)) &&& (1 : Int32)) = (if bt x n = true then (1 : Int32) else 0) := by
  apply b_ext
  intro i hi
  rw [b_and, b_sshr n hn x hi, b_1 i hi]
  by_cases h : i = 0
  · subst h
    rw [if_pos (by omega), Nat.add_zero]
    cases bt x n <;> decide
  · rw [decide_eq_false h, Bool.and_false]
    split
    · rw [b_1 i hi, decide_eq_false h]
    · rw [b_0]
theorem b_one1 (x : Int32) {n : Nat} (hn : n < 32) : ((x >>> (nI n &&& 31)) &&& (1 : Int32)) = (1 : Int32) ↔ bt x n = true := by
  rw [b_one x hn]
  cases bt x n <;> decide
theorem b_bit {n : Nat} (hn : n < 32) {i : Nat} (hi : i < 32) : bt ((1 : Int32) <<< (nI n &&& 31)) i = decide (i = n) := by
  rw [b_shl n hn 1 hi]
  by_cases h : i = n
  · subst h
    rw [decide_eq_true (Nat.le_refl _), Nat.sub_self, decide_eq_true rfl]; decide
  · rw [decide_eq_false h]
    by_cases h2 : n ≤ i
    · rw [b_1 (i - n) (by omega), decide_eq_false (show ¬ i - n = 0 by omega), Bool.and_false]
    · rw [decide_eq_false h2, Bool.false_and]
/-- three channels as one number -/
def ck (a b d : Bool) : Int32 := (if a = true then 1 else 0) + (if b = true then 2 else 0) + (if d = true then 4 else 0)
theorem ck_bits : ∀ (a b d : Bool) (i : Fin 32), bt (ck a b d) i.val = (if i.val = 0 then a else if i.val = 1 then b else if i.val = 2 then d else false) := by decide +kernel
theorem b_7 : ∀ i, i < 32 → bt 7 i = decide (i < 3) := by decide +kernel
theorem nI_3 (s : Nat) : (3 : Int32) * nI s = nI (3 * s) := pk_mul 3 s
theorem ck_ch (ch : Int32) {s : Nat} (hs : s < 6) : ((ch >>> (((3 : Int32) * (nI s)) &&& 31)) &&& (7 : Int32)) = ck (bt ch (3 * s)) (bt ch (3 * s + 1)) (bt ch (3 * s + 2)) := by
  apply b_ext
  intro i hi
  rw [nI_3, b_and, b_sshr (3 * s) (by omega) ch hi, b_7 i hi, ck_bits _ _ _ ⟨i, hi⟩]
  simp only []
  by_cases h0 : i = 0
  · subst h0; rw [if_pos (by omega), if_pos rfl]; simp
  · rw [if_neg h0]
    by_cases h1 : i = 1
    · subst h1; rw [if_pos (by omega), if_pos rfl]; simp
    · rw [if_neg h1]
      by_cases h2 : i = 2
      · subst h2; rw [if_pos (by omega), if_pos rfl]; simp
      · rw [if_neg h2, decide_eq_false (by omega), Bool.and_false]
theorem ch_bit (u : gm_St) {s c : Nat} (hs : s < 6) (hc : c < 3) : v_R_channel u s c = bt (u.2.1 3 1) (3 * s + c) := by
  unfold v_R_channel
  rw [nI_3, nI_add]
  by_cases h : bt (u.2.1 3 1) (3 * s + c) = true
  · rw [if_pos ((b_one1 _ (by omega)).mpr h), h]
  · rw [if_neg (fun q => h ((b_one1 _ (by omega)).mp q))]
    cases hb : bt (u.2.1 3 1) (3 * s + c)
    · rfl
    · exact absurd hb h
