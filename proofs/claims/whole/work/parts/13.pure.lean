-- what the module's methods leave as it is: the numbers
section GMN
variable {u : gm_St} {m i : Nat} {ch wn : Int32} {dw : Bool}
theorem nN_vote : (s_S_vote u i ch).2.2.1 = u.2.2.1 := by
  unfold s_S_vote s_S_voteOfThree s_S_voteOfTwo
  repeat' split
  all_goals rfl
theorem nN_voteAll : ∀ (k i : Nat) (x : Int32) (u : gm_St), (lp_M_voteAll m ch k i x u).2.2.2.1 = u.2.2.1 := by
  intro k
  induction k with
  | zero => intro i x u; rfl
  | succ k ih => intro i x u; simp only [lp_M_voteAll]; rw [ih]; exact nN_vote
theorem nN_watchC : ∀ (k i : Nat) (x : Int32) (u : gm_St), (lp_M_watchC m k i x u).2.2.2.1 = u.2.2.1 := by
  intro k
  induction k with
  | zero => intro i x u; rfl
  | succ k ih =>
    intro i x u; simp only [lp_M_watchC]; rw [ih]
    repeat' split
    all_goals rfl
theorem nN_watchS : (s_M_watchSwitch u m).2.2.1 = u.2.2.1 := by
  unfold s_M_watchSwitch s_M_endWait
  repeat' split
  all_goals rfl
theorem nN_step : (s_M_step u m ch dw).2.2.1 = u.2.2.1 := by
  unfold s_M_step
  split
  · show (s_M_watchSwitch _ m).2.2.1 = _
    rw [nN_watchS]
    unfold s_M_watchConditions
    rw [nN_watchC]
    show (s_M_voteAll u m ch).2.2.1 = _
    exact nN_voteAll 6 0 0 u
  · rfl
end GMN
def gm_ok (u : gm_St) : Prop := u.2.2.1 1 < 16 ∧ u.2.2.1 0 ≤ 16
theorem gm_ok_step {u : gm_St} {m : Nat} {ch : Int32} {dw : Bool} (h : gm_ok u) : gm_ok (s_M_step u m ch dw) := by
  unfold gm_ok
  rw [nN_step]
  exact h
theorem gm_min {x : Int32} {n : Nat} (hx : x = nI n) (hn : n < 2 ^ 31) : (if (16 : Int32) < x then (16 : Int32) else x) = nI (min n 16) := by
  subst hx
  show (if nI 16 < nI n then nI 16 else nI n) = _
  by_cases h : 16 < n
  · rw [if_pos (nI_lt (a := 16) h hn), Nat.min_eq_right (by omega)]
  · rw [if_neg (nI_nlt (b := n) (a := 16) (by omega) (by decide)), Nat.min_eq_left (by omega)]
theorem gm_ring {x : Int32} {a b : Nat} (hx : x = nI b) (h : b ≤ a + 16) : (nI a - x) + (16 : Int32) = nI (a + 16 - b) := by
  subst hx
  rw [← pk_sub h, ← nI_add]
  show nI a - nI b + nI 16 = _
  rw [Int32.sub_eq_add_neg, Int32.sub_eq_add_neg, Int32.add_assoc, Int32.add_assoc, Int32.add_comm (-nI b)]
theorem gm_ixE {x : Int32} {lo n : Nat} (h0 : ¬ x < nI lo) (h1 : x < nI n) (hl : lo ≤ n) (hn : n < 2 ^ 31) : ∃ j : Nat, (lo ≤ j ∧ j < n) ∧ x = nI j := by
  rcases pk_ix x hn with h | h | ⟨j, hj, rfl⟩
  · exact absurd (Int32.lt_of_lt_of_le h (nI_pos' (n := lo) (by omega))) h0
  · exact absurd h1 (Int32.not_lt.mpr h)
  · refine ⟨j, ⟨?_, hj⟩, rfl⟩
    apply Nat.le_of_not_lt
    intro hc
    exact h0 (nI_lt hc (by omega))
theorem gm_ixL {x : Int32} {lo n : Nat} (h0 : ¬ x < nI lo) (h1 : x ≤ nI n) (hl : lo ≤ n) (hn : n + 1 < 2 ^ 31) : ∃ j : Nat, (lo ≤ j ∧ j ≤ n) ∧ x = nI j := by
  have h2 : x < nI (n + 1) := Int32.lt_of_le_of_lt h1 (nI_lt (Nat.lt_succ_self n) hn)
  obtain ⟨j, hj, e⟩ := gm_ixE h0 h2 (by omega) hn
  exact ⟨j, ⟨hj.1, by omega⟩, e⟩
theorem gm_ix {x : Int32} {lo n : Nat} (h0 : ¬ x < nI lo) (h1 : x < nI n) (hl : lo ≤ n) (hn : n < 2 ^ 31) : (lo ≤ x.toNatClampNeg ∧ x.toNatClampNeg < n) ∧ x = nI x.toNatClampNeg := by
  obtain ⟨j, hj, rfl⟩ := gm_ixE h0 h1 hl hn
  rw [nI_clamp (by omega)]
  exact ⟨hj, rfl⟩
