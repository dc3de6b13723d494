def gl_T (m : Nat) (c r : gm_St) : Prop := r.1 5 m = c.1 3 m ∧ r.2.1 1 m = c.2.1 (1 + m) 14 ∧ (c.1 3 m = true → ∃ j, j < 10 ∧ c.2.1 (1 + m) 14 = nI j)
/-- the wait for the switch, one tick -/
theorem wait_step {c r : gm_St} {m : Nat} (hm : m < 2) (hS : gl_S c r) (hT : gl_T m c r) : gl_T m (s_M_watchSwitch c m) (bd_R_watch m 14 r) ∧ (v_M_watchSwitch c m = 0 ∨ v_M_watchSwitch c m = 16384) ∧ lgr (bd_R_watch m 14 r) = (if v_M_watchSwitch c m = 16384 then lg_put (vlr r m) m 14 (lgr r) else lgr r) := by
  obtain ⟨t1, t2, t3⟩ := hT
  have s5 := (hS m 5 hm (by decide)).1
  have e14 : (nI 14) = (14 : Int32) := rfl
  unfold bd_R_watch
  rw [if_pos e14, t1]
  unfold s_M_watchSwitch v_M_watchSwitch
  by_cases hw : c.1 3 m = true
  · simp only [if_pos hw]
    obtain ⟨j, hj, ej⟩ := t3 hw
    unfold s_R_waiting
    rw [s5]
    have eo : v_M_isOn c m 5 = c.1 0 (6 * m + 5) := rfl
    rw [eo]
    by_cases ho : c.1 0 (6 * m + 5) = true
    · simp only [if_pos ho]
      refine ⟨⟨?_, ?_, ?_⟩, by first | exact Or.inl rfl | simp, ?_⟩
      · simp [gm_sG, gm_sB, s_M_endWait]
      · simp [gm_sG, gm_sB, s_M_endWait]
      · intro q; exact ⟨0, by decide, by simp [gm_sG, gm_sB, s_M_endWait]; rfl⟩
      · first | (rw [if_neg (by decide)]; rfl) | rfl | (simp; rfl)
    · simp only [if_neg ho]
      have ec : (gm_sG c (1 + m) 14 ((c.2.1 (1 + m) 14) + (1 : Int32))).2.1 (1 + m) 14 = nI (j + 1) := by
        rw [ej]; simp [gm_sG]; exact nI_1 j
      rw [ec, t2, ej, show nI j + (1 : Int32) = nI (j + 1) from nI_1 j]
      by_cases h9 : j = 9
      · subst h9
        have q1 : gm_lim 14 ≤ nI (9 + 1) := by decide +kernel
        have q2 : nI (9 + 1) = (10 : Int32) := by decide +kernel
        simp only [if_pos q1, if_pos q2]
        refine ⟨⟨?_, ?_, ?_⟩, by first | exact Or.inr rfl | simp, ?_⟩
        · rw [gets_B _ m 14 5 m (by decide)]; simp [gm_sG, gm_sB, s_M_endWait]
        · rw [gets_G]; simp [gm_sG, gm_sB, s_M_endWait]
        · intro q; exact ⟨0, by decide, by simp [gm_sG, gm_sB, s_M_endWait]; rfl⟩
        · first | (rw [gets_lg, if_pos trivial]; rfl) | (rw [gets_lg, if_pos rfl]; rfl) | (rw [gets_lg]; rfl)
      · have q1 : ¬ gm_lim 14 ≤ nI (j + 1) := nI_ge (a := j + 1) (b := 10) (by omega) (by decide)
        have q2 : ¬ nI (j + 1) = (10 : Int32) := fun q => by
          have := (nI_eq (a := j + 1) (b := 10) (by omega) (by decide)).mp q
          omega
        simp only [if_neg q1, if_neg q2]
        refine ⟨⟨?_, ?_, ?_⟩, by first | exact Or.inl rfl | simp, ?_⟩
        · simp [gm_sG, hw, t1]
        · simp [gm_sG]
        · intro q; exact ⟨j + 1, by omega, by simp [gm_sG]⟩
        · first | (rw [if_neg (by decide)]; rfl) | rfl | (simp; rfl)
  · simp only [if_neg hw]
    exact ⟨⟨t1, t2, t3⟩, by first | exact Or.inl rfl | simp, by first | (rw [if_neg (by decide)]; done) | simp⟩
theorem wait_cB {c : gm_St} {m j x : Nat} (h : j ≠ 3 ∨ x ≠ m) : (s_M_watchSwitch c m).1 j x = c.1 j x := by
  unfold s_M_watchSwitch s_M_endWait
  repeat' split
  all_goals first | rfl | (simp only [gm_sG, gm_sB]; rcases h with h | h <;> simp [h])
theorem wait_cG {c : gm_St} {m j x : Nat} (h : j ≠ 1 + m ∨ x ≠ 14) : (s_M_watchSwitch c m).2.1 j x = c.2.1 j x := by
  unfold s_M_watchSwitch s_M_endWait
  repeat' split
  all_goals first | rfl | (simp only [gm_sG, gm_sB]; rcases h with h | h <;> simp [h])
theorem wait_cN {c : gm_St} {m : Nat} : (s_M_watchSwitch c m).2.2 = c.2.2 := by
  unfold s_M_watchSwitch s_M_endWait
  repeat' split
  all_goals rfl
theorem wait_rB {r : gm_St} {m j x : Nat} (h4 : j ≠ 4) (h : j ≠ 5 ∨ x ≠ m) : (bd_R_watch m 14 r).1 j x = r.1 j x := by
  unfold bd_R_watch
  rw [if_pos (show (nI 14) = (14 : Int32) from rfl)]
  unfold s_R_waiting
  repeat' split
  all_goals first | rfl | (rw [gets_B _ m 14 j x h4]; simp only [gm_sG, gm_sB]; rcases h with h | h <;> simp [h]) | (simp only [gm_sG, gm_sB]; rcases h with h | h <;> simp [h])
theorem wait_rG {r : gm_St} {m j x : Nat} (h : j ≠ 1 ∨ x ≠ m) : (bd_R_watch m 14 r).2.1 j x = r.2.1 j x := by
  unfold bd_R_watch
  rw [if_pos (show (nI 14) = (14 : Int32) from rfl)]
  unfold s_R_waiting
  repeat' split
  all_goals first | rfl | (rw [gets_G]; simp only [gm_sG, gm_sB]; rcases h with h | h <;> simp [h]) | (simp only [gm_sG, gm_sB]; rcases h with h | h <;> simp [h])
