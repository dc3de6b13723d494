section VR
variable (r : gm_St) (m s : Nat)
def wRr : Bool × Bool × Bool × Bool × Bool := wR (r.1 2 (6 * m + s)) (r.1 3 (6 * m + s)) (r.1 1 (18 * m + 3 * s)) (r.1 1 (18 * m + 3 * s + 1)) (r.1 1 (18 * m + 3 * s + 2)) (bt (r.2.1 3 1) (3 * s)) (bt (r.2.1 3 1) (3 * s + 1)) (bt (r.2.1 3 1) (3 * s + 2))
def nR (w : Bool × Bool × Bool × Bool × Bool) : gm_St := gm_sB (gm_sB (gm_sB (gm_sB (gm_sB r 2 (6 * m + s) w.1) 3 (6 * m + s) w.2.1) 1 (18 * m + 3 * s) w.2.2.1) 1 (18 * m + 3 * s + 1) w.2.2.2.1) 1 (18 * m + 3 * s + 2) w.2.2.2.2
theorem vote_r (hs : s < 6) : s_R_vote r m s = (if r.1 3 (6 * m + s) = true then nR r m s (wRr r m s) else (if (wRr r m s).2.1 = true then s_R_gets (nR r m s (wRr r m s)) m s else nR r m s (wRr r m s))) := by
  unfold s_R_vote
  by_cases h1 : r.1 3 (6 * m + s) = true
  · rw [if_pos h1, if_pos h1]
    unfold nR wRr wR
    rw [if_pos h1]
    simp only []
    rw [gm_sB_self (u := r) (j := 2) rfl, gm_sB_self (u := r) (j := 3) rfl, gm_sB_self (u := r) (j := 1) rfl, gm_sB_self (u := r) (j := 1) rfl, gm_sB_self (u := r) (j := 1) rfl]
  · rw [if_neg h1, if_neg h1]
    rw [say_eq r m hs true, say_eq r m hs false]
    have hf : r.1 3 (6 * m + s) = false := by cases h : r.1 3 (6 * m + s) <;> simp_all
    unfold nR wRr wR
    rw [if_neg h1]
    by_cases h2 : sy (r.1 1 (18 * m + 3 * s)) (r.1 1 (18 * m + 3 * s + 1)) (r.1 1 (18 * m + 3 * s + 2)) (bt (r.2.1 3 1) (3 * s)) (bt (r.2.1 3 1) (3 * s + 1)) (bt (r.2.1 3 1) (3 * s + 2)) true = sy (r.1 1 (18 * m + 3 * s)) (r.1 1 (18 * m + 3 * s + 1)) (r.1 1 (18 * m + 3 * s + 2)) (bt (r.2.1 3 1) (3 * s)) (bt (r.2.1 3 1) (3 * s + 1)) (bt (r.2.1 3 1) (3 * s + 2)) false
    · rw [if_pos h2, if_pos h2]
      simp only [if_true]
      rw [gm_sB_self (u := r) (j := 2) rfl, gm_sB_self (u := gm_sB r 3 (6 * m + s) true) (j := 1) (by simp [gm_sB]), gm_sB_self (u := gm_sB r 3 (6 * m + s) true) (j := 1) (by simp [gm_sB]), gm_sB_self (u := gm_sB r 3 (6 * m + s) true) (j := 1) (by simp [gm_sB])]
    · rw [if_neg h2, if_neg h2]
      generalize hv : (if sy (r.1 1 (18 * m + 3 * s)) (r.1 1 (18 * m + 3 * s + 1)) (r.1 1 (18 * m + 3 * s + 2)) (bt (r.2.1 3 1) (3 * s)) (bt (r.2.1 3 1) (3 * s + 1)) (bt (r.2.1 3 1) (3 * s + 2)) true ≤ sy (r.1 1 (18 * m + 3 * s)) (r.1 1 (18 * m + 3 * s + 1)) (r.1 1 (18 * m + 3 * s + 2)) (bt (r.2.1 3 1) (3 * s)) (bt (r.2.1 3 1) (3 * s + 1)) (bt (r.2.1 3 1) (3 * s + 2)) false then false else true) = v
      simp only []
      by_cases h3 : sy (r.1 1 (18 * m + 3 * s)) (r.1 1 (18 * m + 3 * s + 1)) (r.1 1 (18 * m + 3 * s + 2)) (bt (r.2.1 3 1) (3 * s)) (bt (r.2.1 3 1) (3 * s + 1)) (bt (r.2.1 3 1) (3 * s + 2)) true + sy (r.1 1 (18 * m + 3 * s)) (r.1 1 (18 * m + 3 * s + 1)) (r.1 1 (18 * m + 3 * s + 2)) (bt (r.2.1 3 1) (3 * s)) (bt (r.2.1 3 1) (3 * s + 1)) (bt (r.2.1 3 1) (3 * s + 2)) false = (3 : Int32)
      · rw [if_pos h3, if_pos h3]
        simp only [Bool.false_eq_true, if_false]
        rw [gm_sB_self (u := gm_sB r 2 (6 * m + s) v) (j := 3) (by simp [gm_sB, hf])]
        simp only [lp_R_vote]
        rw [ch_bit _ hs (c := 0) (by decide), ch_bit _ hs (c := 0 + 1) (by decide), ch_bit _ hs (c := 0 + 1 + 1) (by decide)]
        simp only [gm_sB, Nat.add_zero, Nat.reduceAdd, Nat.reduceEqDiff, if_true, if_false, Nat.zero_add]
      · rw [if_neg h3, if_neg h3]
        simp only [Bool.false_eq_true, if_false]
        rw [gm_sB_self (u := gm_sB r 2 (6 * m + s) v) (j := 3) (by simp [gm_sB, hf]), gm_sB_self (u := gm_sB r 2 (6 * m + s) v) (j := 1) (by simp [gm_sB]), gm_sB_self (u := gm_sB r 2 (6 * m + s) v) (j := 1) (by simp [gm_sB]), gm_sB_self (u := gm_sB r 2 (6 * m + s) v) (j := 1) (by simp [gm_sB])]
end VR
/-- the sensors of program and reference -/
def gl_S (c r : gm_St) : Prop := ∀ m s, m < 2 → s < 6 → r.1 2 (6 * m + s) = c.1 0 (6 * m + s) ∧ r.1 3 (6 * m + s) = c.1 1 (6 * m + s) ∧ gl_val (c.2.1 0 (6 * m + s)) (r.1 1 (18 * m + 3 * s)) (r.1 1 (18 * m + 3 * s + 1)) (r.1 1 (18 * m + 3 * s + 2))
/-- the log of the reference -/
def lgr (r : gm_St) : lg_T := (r.1 4, r.2.2.2, r.2.2.1 0)
def vlr (r : gm_St) (m k : Nat) : Int64 := (((r.2.1 3 0).toInt64 * (32 : Int64)) + ((16 : Int64) * (nI m).toInt64)) + (nI k).toInt64
theorem gets_lg (r : gm_St) (m k : Nat) : lgr (s_R_gets r m k) = lg_put (vlr r m) m k (lgr r) := by
  unfold s_R_gets lg_put lgr
  by_cases h : r.1 4 (16 * m + k) = true
  · rw [if_pos h, if_pos h]
  · rw [if_neg h, if_neg h]
    simp [gm_sN, gm_sL, gm_sB, vlr]
theorem gets_B (r : gm_St) (m k j x : Nat) (hj : j ≠ 4) : (s_R_gets r m k).1 j x = r.1 j x := by
  unfold s_R_gets
  split
  · rfl
  · simp [gm_sN, gm_sL, gm_sB, hj]
theorem gets_G (r : gm_St) (m k : Nat) : (s_R_gets r m k).2.1 = r.2.1 := by
  unfold s_R_gets
  split <;> rfl
