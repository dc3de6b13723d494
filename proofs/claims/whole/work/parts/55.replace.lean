theorem rn1_at (m : Nat) : ∀ (k i : Nat) (u : gm_St), (∀ j x, (lp_M_renew1 m k i u).1 j x = if (j < 2 ∧ 6 * m + i ≤ x ∧ x < 6 * m + i + k) then false else u.1 j x) ∧ (∀ j x, (lp_M_renew1 m k i u).2.1 j x = if (j = 0 ∧ 6 * m + i ≤ x ∧ x < 6 * m + i + k) then 7 else u.2.1 j x) ∧ (lp_M_renew1 m k i u).2.2 = u.2.2 := by
  intro k
  induction k with
  | zero => intro i u; exact ⟨fun j x => by rw [if_neg (by omega)]; rfl, fun j x => by rw [if_neg (by omega)]; rfl, rfl⟩
  | succ k ih =>
    intro i u
    simp only [lp_M_renew1]
    obtain ⟨h1, h2, h3⟩ := ih (i + 1) (s_S_reset u (6 * m + i))
    refine ⟨fun j x => ?_, fun j x => ?_, h3⟩
    · rw [h1]
      by_cases hr : j < 2 ∧ 6 * m + (i + 1) ≤ x ∧ x < 6 * m + (i + 1) + k
      · rw [if_pos hr, if_pos (by omega)]
      · rw [if_neg hr]
        by_cases he : j < 2 ∧ x = 6 * m + i
        · rw [if_pos (by omega)]
          obtain ⟨hj, rfl⟩ := he
          rcases (by omega : j = 0 ∨ j = 1) with rfl | rfl <;> simp [s_S_reset, gm_sB, gm_sG]
        · rw [if_neg (by omega)]
          by_cases hx : x = 6 * m + i
          · have h0 : ¬ j = 0 := by omega
            have h1 : ¬ j = 1 := by omega
            simp [s_S_reset, gm_sB, gm_sG, h0, h1]
          · simp [s_S_reset, gm_sB, gm_sG, hx]
    · rw [h2]
      by_cases hr : j = 0 ∧ 6 * m + (i + 1) ≤ x ∧ x < 6 * m + (i + 1) + k
      · rw [if_pos hr, if_pos (by omega)]
      · rw [if_neg hr]
        by_cases he : j = 0 ∧ x = 6 * m + i
        · rw [if_pos (by omega)]
          obtain ⟨rfl, rfl⟩ := he
          simp [s_S_reset, gm_sB, gm_sG]
        · rw [if_neg (by omega)]
          by_cases hx : x = 6 * m + i
          · have h0 : ¬ j = 0 := by omega
            simp [s_S_reset, gm_sB, gm_sG, h0]
          · simp [s_S_reset, gm_sB, gm_sG, hx]
theorem rn2_at (m : Nat) : ∀ (k i : Nat) (u : gm_St), (lp_M_renew2 m k i u).1 = u.1 ∧ (∀ j x, (lp_M_renew2 m k i u).2.1 j x = if (j = 1 + m ∧ i ≤ x ∧ x < i + k) then 0 else u.2.1 j x) ∧ (lp_M_renew2 m k i u).2.2 = u.2.2 := by
  intro k
  induction k with
  | zero => intro i u; exact ⟨rfl, fun j x => by rw [if_neg (by omega)]; rfl, rfl⟩
  | succ k ih =>
    intro i u
    simp only [lp_M_renew2]
    obtain ⟨h1, h2, h3⟩ := ih (i + 1) (gm_sG u (1 + m) i (0 : Int32))
    refine ⟨h1, fun j x => ?_, h3⟩
    rw [h2]
    by_cases hr : j = 1 + m ∧ i + 1 ≤ x ∧ x < i + 1 + k
    · rw [if_pos hr, if_pos (by omega)]
    · rw [if_neg hr]
      by_cases he : j = 1 + m ∧ x = i
      · rw [if_pos (by omega)]
        obtain ⟨rfl, rfl⟩ := he
        simp [gm_sG]
      · rw [if_neg (by omega)]
        by_cases hx : x = i
        · have h0 : ¬ j = 1 + m := by omega
          simp [gm_sG, h0]
        · simp [gm_sG, hx]
theorem rp1_at (m : Nat) : ∀ (k i : Nat) (u : gm_St), (∀ j x, (lp_R_rep1 m k i u).1 j x = if (j = 1 ∧ 18 * m + i ≤ x ∧ x < 18 * m + i + k) then false else u.1 j x) ∧ (lp_R_rep1 m k i u).2 = u.2 := by
  intro k
  induction k with
  | zero => intro i u; exact ⟨fun j x => by rw [if_neg (by omega)]; rfl, rfl⟩
  | succ k ih =>
    intro i u
    simp only [lp_R_rep1]
    obtain ⟨h1, h3⟩ := ih (i + 1) (gm_sB u 1 (18 * m + i) false)
    refine ⟨fun j x => ?_, h3⟩
    rw [h1]
    by_cases hr : j = 1 ∧ 18 * m + (i + 1) ≤ x ∧ x < 18 * m + (i + 1) + k
    · rw [if_pos hr, if_pos (by omega)]
    · rw [if_neg hr]
      by_cases he : j = 1 ∧ x = 18 * m + i
      · rw [if_pos (by omega)]
        obtain ⟨rfl, rfl⟩ := he
        simp [gm_sB]
      · rw [if_neg (by omega)]
        by_cases hx : x = 18 * m + i
        · have h0 : ¬ j = 1 := by omega
          simp [gm_sB, h0]
        · simp [gm_sB, hx]
theorem rp2_at (m : Nat) : ∀ (k i : Nat) (u : gm_St), (∀ j x, (lp_R_rep2 m k i u).1 j x = if ((j = 2 ∨ j = 3) ∧ 6 * m + i ≤ x ∧ x < 6 * m + i + k) then false else u.1 j x) ∧ (lp_R_rep2 m k i u).2 = u.2 := by
  intro k
  induction k with
  | zero => intro i u; exact ⟨fun j x => by rw [if_neg (by omega)]; rfl, rfl⟩
  | succ k ih =>
    intro i u
    simp only [lp_R_rep2]
    obtain ⟨h1, h3⟩ := ih (i + 1) (gm_sB (gm_sB u 2 (6 * m + i) false) 3 (6 * m + i) false)
    refine ⟨fun j x => ?_, h3⟩
    rw [h1]
    by_cases hr : (j = 2 ∨ j = 3) ∧ 6 * m + (i + 1) ≤ x ∧ x < 6 * m + (i + 1) + k
    · rw [if_pos hr, if_pos (by omega)]
    · rw [if_neg hr]
      by_cases he : (j = 2 ∨ j = 3) ∧ x = 6 * m + i
      · rw [if_pos (by omega)]
        obtain ⟨hj, rfl⟩ := he
        rcases hj with rfl | rfl <;> simp [gm_sB]
      · rw [if_neg (by omega)]
        by_cases hx : x = 6 * m + i
        · have h0 : ¬ j = 2 := by omega
          have h1 : ¬ j = 3 := by omega
          simp [gm_sB, h0, h1]
        · simp [gm_sB, hx]
theorem rp3_at (m : Nat) : ∀ (k i : Nat) (u : gm_St), (∀ j x, (lp_R_rep3 m k i u).1 j x = if (j = 4 ∧ 16 * m + i ≤ x ∧ x < 16 * m + i + k) then false else u.1 j x) ∧ (∀ j x, (lp_R_rep3 m k i u).2.1 j x = if (j = 0 ∧ 16 * m + i ≤ x ∧ x < 16 * m + i + k) then 0 else u.2.1 j x) ∧ (lp_R_rep3 m k i u).2.2 = u.2.2 := by
  intro k
  induction k with
  | zero => intro i u; exact ⟨fun j x => by rw [if_neg (by omega)]; rfl, fun j x => by rw [if_neg (by omega)]; rfl, rfl⟩
  | succ k ih =>
    intro i u
    simp only [lp_R_rep3]
    obtain ⟨h1, h2, h3⟩ := ih (i + 1) (gm_sG (gm_sB u 4 (16 * m + i) false) 0 (16 * m + i) (0 : Int32))
    refine ⟨fun j x => ?_, fun j x => ?_, h3⟩
    · rw [h1]
      by_cases hr : j = 4 ∧ 16 * m + (i + 1) ≤ x ∧ x < 16 * m + (i + 1) + k
      · rw [if_pos hr, if_pos (by omega)]
      · rw [if_neg hr]
        by_cases he : j = 4 ∧ x = 16 * m + i
        · rw [if_pos (by omega)]
          obtain ⟨rfl, rfl⟩ := he
          simp [gm_sB, gm_sG]
        · rw [if_neg (by omega)]
          by_cases hx : x = 16 * m + i
          · have h0 : ¬ j = 4 := by omega
            simp [gm_sB, gm_sG, h0]
          · simp [gm_sB, gm_sG, hx]
    · rw [h2]
      by_cases hr : j = 0 ∧ 16 * m + (i + 1) ≤ x ∧ x < 16 * m + (i + 1) + k
      · rw [if_pos hr, if_pos (by omega)]
      · rw [if_neg hr]
        by_cases he : j = 0 ∧ x = 16 * m + i
        · rw [if_pos (by omega)]
          obtain ⟨rfl, rfl⟩ := he
          simp [gm_sB, gm_sG]
        · rw [if_neg (by omega)]
          by_cases hx : x = 16 * m + i
          · have h0 : ¬ j = 0 := by omega
            simp [gm_sB, gm_sG, h0]
          · simp [gm_sB, gm_sG, hx]
theorem rp4_at (m : Nat) : ∀ (k i : Nat) (u : gm_St), (lp_R_rep4 m k i u).1 = u.1 ∧ (∀ j x, (lp_R_rep4 m k i u).2.1 j x = if (j = 2 ∧ 11 * m + i ≤ x ∧ x < 11 * m + i + k) then 0 else u.2.1 j x) ∧ (lp_R_rep4 m k i u).2.2 = u.2.2 := by
  intro k
  induction k with
  | zero => intro i u; exact ⟨rfl, fun j x => by rw [if_neg (by omega)]; rfl, rfl⟩
  | succ k ih =>
    intro i u
    simp only [lp_R_rep4]
    obtain ⟨h1, h2, h3⟩ := ih (i + 1) (gm_sG u 2 (11 * m + i) (0 : Int32))
    refine ⟨h1, fun j x => ?_, h3⟩
    rw [h2]
    by_cases hr : j = 2 ∧ 11 * m + (i + 1) ≤ x ∧ x < 11 * m + (i + 1) + k
    · rw [if_pos hr, if_pos (by omega)]
    · rw [if_neg hr]
      by_cases he : j = 2 ∧ x = 11 * m + i
      · rw [if_pos (by omega)]
        obtain ⟨rfl, rfl⟩ := he
        simp [gm_sG]
      · rw [if_neg (by omega)]
        by_cases hx : x = 11 * m + i
        · have h0 : ¬ j = 2 := by omega
          simp [gm_sG, h0]
        · simp [gm_sG, hx]
def rpS (r : gm_St) (m : Nat) : gm_St := lp_R_rep4 m 11 0 (lp_R_rep3 m 16 0 (lp_R_rep2 m 6 0 (lp_R_rep1 m 18 0 (gm_sG (gm_sB (gm_sB r 0 m false) 5 m false) 1 m (0 : Int32)))))
theorem rpS_B (r : gm_St) (m j x : Nat) : (rpS r m).1 j x = if (j = 4 ∧ 16 * m ≤ x ∧ x < 16 * m + 16) ∨ ((j = 2 ∨ j = 3) ∧ 6 * m ≤ x ∧ x < 6 * m + 6) ∨ (j = 1 ∧ 18 * m ≤ x ∧ x < 18 * m + 18) ∨ ((j = 0 ∨ j = 5) ∧ x = m) then false else r.1 j x := by
  unfold rpS
  rw [(rp4_at m 11 0 _).1, (rp3_at m 16 0 _).1, (rp2_at m 6 0 _).1, (rp1_at m 18 0 _).1]
  by_cases h4 : j = 4 ∧ 16 * m + 0 ≤ x ∧ x < 16 * m + 0 + 16
  · rw [if_pos h4, if_pos (by omega)]
  · rw [if_neg h4]
    by_cases h2 : (j = 2 ∨ j = 3) ∧ 6 * m + 0 ≤ x ∧ x < 6 * m + 0 + 6
    · rw [if_pos h2, if_pos (by omega)]
    · rw [if_neg h2]
      by_cases h1 : j = 1 ∧ 18 * m + 0 ≤ x ∧ x < 18 * m + 0 + 18
      · rw [if_pos h1, if_pos (by omega)]
      · rw [if_neg h1]
        by_cases h0 : (j = 0 ∨ j = 5) ∧ x = m
        · rw [if_pos (by omega)]
          obtain ⟨hj, rfl⟩ := h0
          rcases hj with rfl | rfl <;> simp [gm_sB, gm_sG]
        · rw [if_neg (by omega)]
          by_cases hx : x = m
          · have q0 : ¬ j = 0 := by omega
            have q5 : ¬ j = 5 := by omega
            simp [gm_sB, gm_sG, q0, q5]
          · simp [gm_sB, gm_sG, hx]
theorem rpS_G (r : gm_St) (m j x : Nat) : (rpS r m).2.1 j x = if (j = 2 ∧ 11 * m ≤ x ∧ x < 11 * m + 11) ∨ (j = 0 ∧ 16 * m ≤ x ∧ x < 16 * m + 16) ∨ (j = 1 ∧ x = m) then 0 else r.2.1 j x := by
  unfold rpS
  rw [(rp4_at m 11 0 _).2.1, (rp3_at m 16 0 _).2.1, (rp2_at m 6 0 _).2, (rp1_at m 18 0 _).2]
  by_cases h4 : j = 2 ∧ 11 * m + 0 ≤ x ∧ x < 11 * m + 0 + 11
  · rw [if_pos h4, if_pos (by omega)]
  · rw [if_neg h4]
    by_cases h2 : j = 0 ∧ 16 * m + 0 ≤ x ∧ x < 16 * m + 0 + 16
    · rw [if_pos h2, if_pos (by omega)]
    · rw [if_neg h2]
      by_cases h0 : j = 1 ∧ x = m
      · rw [if_pos (by omega)]
        obtain ⟨rfl, rfl⟩ := h0
        simp [gm_sG]
      · rw [if_neg (by omega)]
        by_cases hx : x = m
        · have q0 : ¬ j = 1 := by omega
          simp [gm_sB, gm_sG, q0]
        · simp [gm_sB, gm_sG, hx]
theorem rpS_N (r : gm_St) (m : Nat) : (rpS r m).2.2 = r.2.2 := by
  unfold rpS
  rw [(rp4_at m 11 0 _).2.2, (rp3_at m 16 0 _).2.2, (rp2_at m 6 0 _).2, (rp1_at m 18 0 _).2]
  rfl
theorem rnS_B (c : gm_St) (m j x : Nat) : (s_M_renew c m).1 j x = if (j = 2 ∧ x = m) then true else if ((j = 3 ∨ j = 4) ∧ x = m) ∨ (j < 2 ∧ 6 * m ≤ x ∧ x < 6 * m + 6) then false else c.1 j x := by
  unfold s_M_renew
  have e : ∀ u : gm_St, (gm_sG (gm_sG (gm_sG (gm_sB (gm_sB (gm_sB u 2 m true) 3 m false) 4 m false) 3 m (0 : Int32)) 4 m (0 : Int32)) 5 m (0 : Int32)).1 j x = if (j = 2 ∧ x = m) then true else if ((j = 3 ∨ j = 4) ∧ x = m) then false else u.1 j x := by
    intro u
    by_cases hx : x = m
    · subst hx
      by_cases h2 : j = 2
      · subst h2; simp [gm_sB, gm_sG]
      · by_cases h3 : j = 3
        · subst h3; simp [gm_sB, gm_sG]
        · by_cases h4 : j = 4
          · subst h4; simp [gm_sB, gm_sG]
          · simp [gm_sB, gm_sG, h2, h3, h4]
    · simp [gm_sB, gm_sG, hx]
  rw [e, (rn2_at m 16 0 _).1, (rn1_at m 6 0 c).1]
  by_cases h1 : j = 2 ∧ x = m
  · rw [if_pos h1, if_pos h1]
  · rw [if_neg h1, if_neg h1]
    by_cases h3 : (j = 3 ∨ j = 4) ∧ x = m
    · rw [if_pos h3, if_pos (Or.inl h3)]
    · rw [if_neg h3]
      by_cases h0 : j < 2 ∧ 6 * m + 0 ≤ x ∧ x < 6 * m + 0 + 6
      · rw [if_pos h0, if_pos (by omega)]
      · rw [if_neg h0, if_neg (by omega)]
theorem rnS_G (c : gm_St) (m j x : Nat) : (s_M_renew c m).2.1 j x = if (3 ≤ j ∧ j ≤ 5 ∧ x = m) ∨ (j = 1 + m ∧ x < 16 ∧ ¬ (3 ≤ j ∧ j ≤ 5 ∧ x = m)) then 0 else if (j = 0 ∧ 6 * m ≤ x ∧ x < 6 * m + 6) then 7 else c.2.1 j x := by
  unfold s_M_renew
  have e : ∀ u : gm_St, (gm_sG (gm_sG (gm_sG (gm_sB (gm_sB (gm_sB u 2 m true) 3 m false) 4 m false) 3 m (0 : Int32)) 4 m (0 : Int32)) 5 m (0 : Int32)).2.1 j x = if (3 ≤ j ∧ j ≤ 5 ∧ x = m) then 0 else u.2.1 j x := by
    intro u
    by_cases hx : x = m
    · subst hx
      by_cases h2 : j = 3
      · subst h2; simp [gm_sB, gm_sG]
      · by_cases h3 : j = 4
        · subst h3; simp [gm_sB, gm_sG]
        · by_cases h4 : j = 5
          · subst h4; simp [gm_sB, gm_sG]
          · rw [if_neg (by omega)]; simp [gm_sB, gm_sG, h2, h3, h4]
    · rw [if_neg (by omega)]; simp [gm_sB, gm_sG, hx]
  rw [e, (rn2_at m 16 0 _).2.1, (rn1_at m 6 0 c).2.1]
  by_cases h1 : 3 ≤ j ∧ j ≤ 5 ∧ x = m
  · rw [if_pos h1, if_pos (Or.inl h1)]
  · rw [if_neg h1]
    by_cases h3 : j = 1 + m ∧ 0 ≤ x ∧ x < 0 + 16
    · rw [if_pos h3, if_pos (by omega)]
    · rw [if_neg h3]
      by_cases h0 : j = 0 ∧ 6 * m + 0 ≤ x ∧ x < 6 * m + 0 + 6
      · rw [if_pos h0, if_neg (show ¬ ((3 ≤ j ∧ j ≤ 5 ∧ x = m) ∨ (j = 1 + m ∧ x < 16 ∧ ¬ (3 ≤ j ∧ j ≤ 5 ∧ x = m))) by omega), if_pos (by omega)]
      · rw [if_neg h0, if_neg (show ¬ ((3 ≤ j ∧ j ≤ 5 ∧ x = m) ∨ (j = 1 + m ∧ x < 16 ∧ ¬ (3 ≤ j ∧ j ≤ 5 ∧ x = m))) by omega), if_neg (by omega)]
theorem rnS_N (c : gm_St) (m : Nat) : (s_M_renew c m).2.2 = c.2.2 := by
  unfold s_M_renew
  show (lp_M_renew2 m 16 0 (lp_M_renew1 m 6 0 c)).2.2 = _
  rw [(rn2_at m 16 0 _).2.2, (rn1_at m 6 0 c).2.2]
theorem op_replace {c r : gm_St} {m : Nat} (hm : m < 2) (hR : gl_R c r) : gl_R (s_M_renew c m) (rpS r m) := by
  obtain ⟨hS, hMM, hd, ht, hL⟩ := hR
  have cB := rnS_B c m
  have cG := rnS_G c m
  have cN := rnS_N c m
  have rB := rpS_B r m
  have rG := rpS_G r m
  have rN := rpS_N r m
  generalize s_M_renew c m = c' at cB cG cN ⊢
  generalize rpS r m = r' at rB rG rN ⊢
  refine ⟨?_, ?_, ?_, ?_, ?_⟩
  · intro m' s' hm' hs'
    by_cases em : m' = m
    · subst em
      have q1 : r'.1 2 (6 * m' + s') = false := by rw [rB, if_pos (by omega)]
      have q2 : r'.1 3 (6 * m' + s') = false := by rw [rB, if_pos (by omega)]
      have q3 : r'.1 1 (18 * m' + 3 * s') = false := by rw [rB, if_pos (by omega)]
      have q4 : r'.1 1 (18 * m' + 3 * s' + 1) = false := by rw [rB, if_pos (by omega)]
      have q5 : r'.1 1 (18 * m' + 3 * s' + 2) = false := by rw [rB, if_pos (by omega)]
      have q6 : c'.1 0 (6 * m' + s') = false := by rw [cB, if_neg (by omega), if_pos (by omega)]
      have q7 : c'.1 1 (6 * m' + s') = false := by rw [cB, if_neg (by omega), if_pos (by omega)]
      have q8 : c'.2.1 0 (6 * m' + s') = 7 := by rw [cG, if_neg (by omega), if_pos (by omega)]
      rw [q1, q2, q3, q4, q5, q6, q7, q8]
      exact ⟨rfl, rfl, Or.inl ⟨rfl, rfl, rfl, rfl⟩⟩
    · rw [rB 2, rB 3, rB 1, rB 1, rB 1, cB 0, cB 1, cG 0]
      rw [if_neg (by omega), if_neg (by omega), if_neg (by omega), if_neg (by omega), if_neg (by omega), if_neg (by omega), if_neg (by omega), if_neg (by omega), if_neg (by omega), if_neg (by omega), if_neg (by omega)]
      exact hS m' s' hm' hs'
  · intro m' hm'
    by_cases em : m' = m
    · subst em
      have c2 : c'.1 2 m' = true := by rw [cB, if_pos (by omega)]
      have c3 : c'.1 3 m' = false := by rw [cB, if_neg (by omega), if_pos (by omega)]
      have c4 : c'.1 4 m' = false := by rw [cB, if_neg (by omega), if_pos (by omega)]
      have g1 : ∀ k, k < 16 → c'.2.1 (1 + m') k = 0 := fun k hk => by rw [cG, if_pos (by omega)]
      have g3 : c'.2.1 3 m' = 0 := by rw [cG, if_pos (by omega)]
      have g4 : c'.2.1 4 m' = 0 := by rw [cG, if_pos (by omega)]
      have g5 : c'.2.1 5 m' = 0 := by rw [cG, if_pos (by omega)]
      have p2 : ∀ j, j ≤ 10 → r'.2.1 2 (11 * m' + j) = 0 := fun j hj => by rw [rG, if_pos (by omega)]
      refine ⟨by rw [c2, rB, if_pos (by omega)]; rfl, ⟨by rw [c3, rB, if_pos (by omega)], by rw [g1 14 (by omega), rG, if_pos (by omega)], fun h => (by rw [c3] at h; cases h)⟩, fun h => (by rw [c2] at h; cases h), fun k k1 k2 k3 => by rw [g1 k k2, rG, if_pos (by omega)], fun _ => ⟨⟨0, by decide, g3, p2 0 (by omega)⟩, by rw [c4, p2 1 (by omega)]; exact (b_0 0).symm, 0, by omega, g4, fun j hj _ => by rw [p2 j (by omega)]; decide, fun h => absurd h (by omega)⟩, fun k hk => by rw [g5, b_0, rB, if_pos (by omega)], fun k hk => by rw [g5, b_0]⟩
    · refine gl_M_cong (hMM m' hm') ?_ ?_ ?_ ?_ ?_ ?_ ?_ ?_ ?_ ?_ ?_ ?_ ?_
      · rw [cB, if_neg (by omega), if_neg (by omega)]
      · rw [cB, if_neg (by omega), if_neg (by omega)]
      · rw [cB, if_neg (by omega), if_neg (by omega)]
      · intro k hk; rw [cG, if_neg (by omega), if_neg (by omega)]
      · rw [cG, if_neg (by omega), if_neg (by omega)]
      · rw [cG, if_neg (by omega), if_neg (by omega)]
      · rw [cG, if_neg (by omega), if_neg (by omega)]
      · rw [rB, if_neg (by omega)]
      · rw [rB, if_neg (by omega)]
      · intro k hk; rw [rB, if_neg (by omega)]
      · intro k hk; rw [rG, if_neg (by omega)]
      · rw [rG, if_neg (by omega)]
      · intro j hj; rw [rG, if_neg (by omega)]
  · rw [rB, if_neg (by omega), cB, if_neg (by omega), if_neg (by omega)]; exact hd
  · rw [rG, if_neg (by omega), cG, if_neg (by omega), if_neg (by omega)]; exact ht
  · rw [cN]
    obtain ⟨l1, l2, l3⟩ := hL
    have e : (lgr r').2 = (lgr r).2 := by unfold lgr; rw [rN]
    exact ⟨by rw [e]; exact l1, by rw [e]; exact l2, by rw [e]; exact l3⟩
