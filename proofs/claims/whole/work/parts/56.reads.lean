theorem isM_eq (x : Int32) : v_G_isModule x = v_R_isModule x := by
  rcases pk_ix x (n := 2) (by decide) with h | h | ⟨j, hj, rfl⟩
  · unfold v_G_isModule v_R_isModule
    rw [if_pos h, if_neg (fun q => by rw [q] at h; exact absurd h (by decide)), if_neg (fun q => by rw [q] at h; exact absurd h (by decide))]
  · have h2 : (2 : Int32) ≤ x := h
    have q1 : v_G_isModule x = false := by unfold v_G_isModule; rw [if_pos h2]; split <;> rfl
    have q2 : v_R_isModule x = false := by
      unfold v_R_isModule
      rw [if_neg (fun q => by rw [q] at h2; exact absurd h2 (by decide)), if_neg (fun q => by rw [q] at h2; exact absurd h2 (by decide))]
    rw [q1, q2]
  · rcases (by omega : j = 0 ∨ j = 1) with rfl | rfl <;> decide +kernel
theorem lt_le (y : Int32) (n : Nat) (hn : n + 1 < 2 ^ 31) : y < nI (n + 1) ↔ y ≤ nI n := by
  constructor
  · intro h
    rcases pk_ix y (n := n + 1) hn with q | q | ⟨j, hj, rfl⟩
    · exact Int32.le_of_lt (Int32.lt_of_lt_of_le q (nI_pos' (by omega)))
    · exact absurd h (Int32.not_lt.mpr q)
    · exact nI_le (by omega) (by omega)
  · intro h
    exact Int32.lt_of_le_of_lt h (nI_lt (Nat.lt_succ_self n) hn)
section RD
variable {c r : gm_St}
theorem op_works (x : Int32) (hR : gl_R c r) : v_G_works c x = v_R_works r x := by
  unfold v_G_works v_R_works
  rw [isM_eq]
  by_cases h : v_R_isModule x = true
  · obtain ⟨m, hm, rfl⟩ := gr_isME h
    rw [if_pos h, if_pos h, nI_clamp (by omega), (hR.2.1 m hm).1]
    cases c.1 2 m <;> rfl
  · rw [if_neg h, if_neg h]
theorem vOf_eq {m : Nat} (hm : m < 2) (hR : gl_R c r) : v_R_valvesOf r m = c.2.1 3 m := by
  obtain ⟨m0, _, mF, _, mV, _, _⟩ := hR.2.1 m hm
  unfold v_R_valvesOf
  rw [m0]
  cases hw : c.1 2 m
  · simp only [Bool.not_false, if_true]; exact (mF hw).2.2.symm
  · rw [if_neg (by decide)]
    obtain ⟨⟨v, hv, e1, e2⟩, _⟩ := mV hw
    rw [e1, e2]
theorem v32 {m : Nat} (hm : m < 2) (hR : gl_R c r) : ∃ v, v < 32 ∧ c.2.1 3 m = nI v := by
  obtain ⟨m0, _, mF, _, mV, _, _⟩ := hR.2.1 m hm
  cases hw : c.1 2 m
  · exact ⟨0, by decide, (mF hw).2.2⟩
  · obtain ⟨⟨v, hv, e1, e2⟩, _⟩ := mV hw
    exact ⟨v, hv, e1⟩
theorem z_or (x : Int32) : (0 : Int32) ||| x = x := by
  apply b_ext; intro i _; rw [b_or, b_0, Bool.false_or]
theorem op_valves (x : Int32) (hR : gl_R c r) : v_G_valves c x = v_R_valves r x := by
  unfold v_G_valves v_R_valves
  rw [isM_eq]
  by_cases h1 : x = -1
  · rw [if_pos h1, if_pos h1, vOf_eq (by decide) hR, vOf_eq (by decide) hR]
    unfold v_G_valvesOfEither
    simp only [lp_G_vE]
    rw [z_or]
  · rw [if_neg h1, if_neg h1]
    by_cases h : v_R_isModule x = true
    · obtain ⟨m, hm, rfl⟩ := gr_isME h
      rw [if_pos h, if_pos h, nI_clamp (by omega), vOf_eq hm hR]
    · rw [if_neg h, if_neg h]
theorem op_sensor (x y : Int32) (hR : gl_R c r) : v_G_sensor c x y = v_R_sensor r x y := by
  unfold v_G_sensor v_R_sensor
  rw [isM_eq]
  by_cases h : v_R_isModule x = true
  · obtain ⟨m, hm, rfl⟩ := gr_isME h
    rw [if_pos h, if_pos h, nI_clamp (by omega)]
    by_cases h0 : y < 0
    · rw [if_pos h0, if_pos h0]
    · rw [if_neg h0, if_neg h0]
      have e : y < (6 : Int32) ↔ y ≤ (5 : Int32) := lt_le y 5 (by decide)
      by_cases h6 : y < (6 : Int32)
      · rw [if_pos h6, if_pos (e.mp h6)]
        obtain ⟨s, hs, rfl⟩ := gm_ixE (lo := 0) (n := 6) h0 h6 (by decide) (by decide)
        rw [nI_clamp (by omega)]
        obtain ⟨s1, s2, s3⟩ := hR.1 m s hm hs.2
        unfold v_S_summary
        simp only [lp_R_sensor, Nat.add_zero, Nat.zero_add, Nat.reduceAdd]
        rw [s1, s2]
        generalize gm_b (if c.1 0 (6 * m + s) = true then true else false) + (if c.1 1 (6 * m + s) = true then (2 : Int32) else (0 : Int32)) = z
        rcases s3 with ⟨e, e0, e1, e2⟩ | ⟨e, e0, e1, e2⟩ | ⟨e, e0, e1, e2⟩ | ⟨e, e0, e1, e2⟩ <;> simp only [e, e0, e1, e2, Bool.false_eq_true, if_true, if_false, Int32.add_assoc] <;> congr 1 <;> decide
      · rw [if_neg h6, if_neg (fun q => h6 (e.mpr q))]
  · rw [if_neg h, if_neg h]
theorem op_running (x y : Int32) (hR : gl_R c r) : v_G_running c x y = v_R_running r x y := by
  unfold v_G_running v_R_running
  rw [isM_eq]
  by_cases h : v_R_isModule x = true
  · obtain ⟨m, hm, rfl⟩ := gr_isME h
    rw [if_pos h, if_pos h, nI_clamp (by omega)]
    by_cases h0 : y < 6
    · rw [if_pos h0, if_pos h0]
    · rw [if_neg h0, if_neg h0]
      have e : y < (16 : Int32) ↔ y ≤ (15 : Int32) := lt_le y 15 (by decide)
      by_cases h6 : y < (16 : Int32)
      · rw [if_pos h6, if_pos (e.mp h6)]
        obtain ⟨k, hk, rfl⟩ := gm_ixE (lo := 6) (n := 16) h0 h6 (by decide) (by decide)
        rw [nI_clamp (by omega)]
        obtain ⟨_, ⟨_, t2, _⟩, _, mH, _, _, _⟩ := hR.2.1 m hm
        by_cases h14 : k = 14
        · subst h14; rw [if_pos (show (nI 14) = (14 : Int32) from rfl)]; exact t2.symm
        · rw [if_neg (show ¬ (nI k) = (14 : Int32) from fun q => h14 ((nI_eq (a := k) (b := 14) (by omega) (by decide)).mp q))]
          exact (mH k hk.1 hk.2 h14).symm
      · rw [if_neg h6, if_neg (fun q => h6 (e.mpr q))]
  · rw [if_neg h, if_neg h]
theorem i_add_or {x y : Int32} (h : ∀ i, i < 32 → (bt x i && bt y i) = false) : x + y = x ||| y := by
  apply Int32.toBitVec_inj.1
  rw [Int32.toBitVec_add, Int32.toBitVec_or]
  apply BitVec.add_eq_or_of_and_eq_zero
  apply BitVec.eq_of_getLsbD_eq
  intro i hi
  rw [BitVec.getLsbD_and, BitVec.getLsbD_zero]
  exact h i hi
theorem anom_loop {m : Nat} {f : Int32} : ∀ (k i : Nat) (z : Int32), i + k = 16 → (∀ j, j < 16 → r.1 4 (16 * m + j) = bt f j) → (∀ j, bt z j = (decide (j < i) && bt f j)) → ∀ j, bt (lp_R_anom r m k i z) j = (decide (j < 16) && bt f j) := by
  intro k
  induction k with
  | zero => intro i z hk _ hz j; rw [show lp_R_anom r m 0 i z = z from rfl, hz j, show i = 16 by omega]
  | succ k ih =>
    intro i z hk hf hz j
    simp only [lp_R_anom]
    apply ih (i + 1) _ (by omega) hf
    intro t
    rw [hf i (by omega)]
    by_cases hb : bt f i = true
    · rw [if_pos hb, i_add_or (fun q hq => by rw [hz q, b_bit (by omega) hq]; by_cases e : q = i <;> simp [e]), b_or, hz t]
      rcases Nat.lt_or_ge t 32 with ht | ht
      · rw [b_bit (by omega) ht]
        by_cases e : t = i
        · subst e; simp [hb]
        · have q : decide (t < i + 1) = decide (t < i) := decide_eq_decide.mpr (by omega)
          rw [q, decide_eq_false e, Bool.or_false]
      · rw [b_big ht, b_big ht]; simp
    · rw [if_neg hb, hz t]
      have hb' : bt f i = false := by cases h : bt f i <;> simp_all
      by_cases e : t = i
      · subst e; simp [hb']
      · have q : decide (t < i + 1) = decide (t < i) := decide_eq_decide.mpr (by omega)
        rw [q]
theorem anom_eq {m : Nat} (hm : m < 2) (hR : gl_R c r) : lp_R_anom r m 16 0 (0 : Int32) = c.2.1 5 m := by
  obtain ⟨_, _, _, _, _, mb, mb2⟩ := hR.2.1 m hm
  apply b_ext
  intro i hi
  rw [anom_loop (f := c.2.1 5 m) 16 0 0 (by omega) mb (fun j => by rw [b_0]; simp) i]
  by_cases h : i < 16
  · rw [decide_eq_true h, Bool.true_and]
  · rw [decide_eq_false h, Bool.false_and, mb2 i (by omega)]
theorem op_anom (x : Int32) (hR : gl_R c r) : v_G_anomalies c x = v_R_anomalies r x := by
  unfold v_G_anomalies v_R_anomalies
  rw [isM_eq]
  by_cases h : v_R_isModule x = true
  · obtain ⟨m, hm, rfl⟩ := gr_isME h
    rw [if_pos h, if_pos h, nI_clamp (by omega), anom_eq hm hR]
  · rw [if_neg h, if_neg h]
theorem lights_v : ∀ a b : Fin 32, ((nI a.val ||| nI b.val) ≤ (1 : Int32) ↔ ((nI a.val &&& (30 : Int32)) = 0 ∧ (nI b.val &&& (30 : Int32)) = 0)) := by decide +kernel
theorem op_lights (hR : gl_R c r) : v_G_lights c = v_R_lights r := by
  have hv := op_valves (-1) hR
  unfold v_G_valves at hv
  rw [if_pos rfl] at hv
  unfold v_G_lights v_R_lights
  rw [← hv]
  have a0 := op_anom (nI 0) hR
  have a1 := op_anom (nI 1) hR
  have g0 : v_G_anomalies c (nI 0) = c.2.1 5 0 := rfl
  have g1 : v_G_anomalies c (nI 1) = c.2.1 5 1 := rfl
  obtain ⟨v0, h0, e0⟩ := v32 (m := 0) (by decide) hR
  obtain ⟨v1, h1, e1⟩ := v32 (m := 1) (by decide) hR
  have hE : v_G_valvesOfEither c = (nI v0 ||| nI v1) := by
    unfold v_G_valvesOfEither
    simp only [lp_G_vE]
    rw [z_or, e0, e1]
  have hl := lights_v ⟨v0, h0⟩ ⟨v1, h1⟩
  simp only [] at hl
  have s00 := (hR.1 0 0 (by decide) (by decide)).1
  have s01 := (hR.1 0 1 (by decide) (by decide)).1
  have s10 := (hR.1 1 0 (by decide) (by decide)).1
  have s11 := (hR.1 1 1 (by decide) (by decide)).1
  have m0 := (hR.2.1 0 (by decide)).1
  have m1 := (hR.2.1 1 (by decide)).1
  simp only [Nat.mul_zero, Nat.mul_one, Nat.add_zero, Nat.zero_add, Nat.reduceAdd] at s00 s01 s10 s11
  simp only [lp_G_lights, lp_R_lights, v_M_gearsAreExtended, v_M_isOn, Nat.mul_zero, Nat.mul_one, Nat.add_zero, Nat.zero_add, Nat.reduceAdd]
  rw [← a0, ← a1, g0, g1, hE, s00, s01, s10, s11, m0, m1, e0, e1]
  generalize c.1 2 0 = w0
  generalize c.1 2 1 = w1
  generalize c.1 0 0 = x00
  generalize c.1 0 1 = x01
  generalize c.1 0 6 = x10
  generalize c.1 0 7 = x11
  by_cases p0 : c.2.1 5 0 = 0 <;> by_cases p1 : c.2.1 5 1 = 0 <;> by_cases q0 : (nI v0 &&& (30 : Int32)) = 0 <;> by_cases q1 : (nI v1 &&& (30 : Int32)) = 0
  all_goals simp only [p0, p1, q0, q1, hl, if_true, if_false, and_self, and_true, and_false, false_and, true_and]
  all_goals (revert w0 w1 x00 x01 x10 x11; decide +kernel)
theorem op_entry (x : Int32) (hR : gl_R c r) (hw : r.2.2.1 0 ≤ 1073741824) : v_G_entry c x = v_R_entry r x := by
  obtain ⟨l1, l2, l3⟩ := hR.2.2.2.2
  have e1 : (lgr r).2.2 = r.2.2.1 0 := rfl
  have e2 : (lgr r).2.1 = r.2.2.2 := rfl
  rw [e1] at l1 l2
  rw [e2] at l3
  unfold v_G_entry v_R_entry
  by_cases h0 : x < 0
  · rw [if_pos h0, if_pos h0]
  · rw [if_neg h0, if_neg h0]
    have ek : (if (16 : Int32) ≤ (nI (r.2.2.1 0)) then (16 : Int32) else (nI (r.2.2.1 0))) = nI (c.2.2.1 0) := by
      rw [l2]
      by_cases h : 16 ≤ r.2.2.1 0
      · rw [if_pos (show (16 : Int32) ≤ nI (r.2.2.1 0) from nI_le (a := 16) h (by omega)), Nat.min_eq_right h]; rfl
      · rw [if_neg (show ¬ (16 : Int32) ≤ nI (r.2.2.1 0) from nI_ge (b := 16) (by omega) (by decide)), Nat.min_eq_left (by omega)]
    rw [ek]
    by_cases h1 : x < nI (c.2.2.1 0)
    · rw [if_pos h1, if_pos h1]
      obtain ⟨k, hk, rfl⟩ := gm_ixE (lo := 0) (n := c.2.2.1 0) h0 h1 (by omega) (by omega)
      rw [nI_clamp (by omega)]
      have e3 := l3 ((r.2.2.1 0 - 1 - k) % 16) (Nat.mod_lt _ (by decide))
      have idx : (c.2.2.1 1 + 16 - k) % 16 = ((r.2.2.1 0 - 1 - k) % 16 + 1) % 16 := by omega
      rw [← e3, idx]
    · rw [if_neg h1, if_neg h1]
end RD
