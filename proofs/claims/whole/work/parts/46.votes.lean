theorem b_or1 (x : Int32) (b : Prop) [Decidable b] {s : Nat} (hs : s < 32) (j : Nat) : bt (if b then (x ||| ((1 : Int32) <<< ((nI s) &&& 31))) else x) j = (bt x j || (decide b && decide (j = s))) := by
  by_cases hb : b
  · rw [if_pos hb, decide_eq_true hb, Bool.true_and, b_or]
    rcases Nat.lt_or_ge j 32 with h | h
    · rw [b_bit hs h]
    · rw [b_big h, b_big h, decide_eq_false (by omega)]
  · rw [if_neg hb, decide_eq_false hb, Bool.false_and, Bool.or_false]
theorem votes_loop {m : Nat} {ch : Int32} (hm : m < 2) : ∀ (k s : Nat) (x : Int32) (c r : gm_St), s + k = 6 → gl_S c r → r.2.1 3 1 = ch → (∀ j, s ≤ j → bt x j = false) →
    gl_S (lp_M_voteAll m ch k s x c).2 (lp_R_step1 m k s r) ∧ (∀ j, 2 ≤ j → (lp_M_voteAll m ch k s x c).2.1 j = c.1 j) ∧ (∀ j, 1 ≤ j → (lp_M_voteAll m ch k s x c).2.2.1 j = c.2.1 j) ∧ (lp_M_voteAll m ch k s x c).2.2.2 = c.2.2 ∧ (∀ j, (j = 0 ∨ 5 ≤ j) → (lp_R_step1 m k s r).1 j = r.1 j) ∧ (lp_R_step1 m k s r).2.1 = r.2.1 ∧ lgr (lp_R_step1 m k s r) = lg_fold (vlr r m) m (bt (lp_M_voteAll m ch k s x c).1) k s (lgr r) ∧ (∀ j, j < s → bt (lp_M_voteAll m ch k s x c).1 j = bt x j) ∧ (∀ j, 6 ≤ j → bt (lp_M_voteAll m ch k s x c).1 j = false) := by
  intro k
  induction k with
  | zero =>
    intro s x c r hk hS hch hx
    refine ⟨hS, fun _ _ => rfl, fun _ _ => rfl, rfl, fun _ _ => rfl, rfl, rfl, fun _ _ => rfl, fun j hj => hx j (by omega)⟩
  | succ k ih =>
    intro s x c r hk hS hch hx
    simp only [lp_M_voteAll, lp_R_step1]
    have hs : s < 6 := by omega
    have v1 := vote_S hm hs hS hch
    have v2 := vote_L hm hs hS hch
    generalize hX : ((ch >>> (((3 : Int32) * (nI s)) &&& 31)) &&& (7 : Int32)) = X at v1 v2 ⊢
    have eG : (s_R_vote r m s).2.1 = r.2.1 := vote_rG hs
    have hx1 : ∀ j, bt (if v_S_vote c (6 * m + s) X = true then x ||| 1 <<< (nI s &&& 31) else x) j = (bt x j || (decide (v_S_vote c (6 * m + s) X = true) && decide (j = s))) := fun j => b_or1 x _ (by omega) j
    obtain ⟨i1, i2, i3, i4, i5, i6, i7, i8, i9⟩ := ih (s + 1) (if v_S_vote c (6 * m + s) X = true then x ||| 1 <<< (nI s &&& 31) else x) (s_S_vote c (6 * m + s) X) (s_R_vote r m s) (by omega) v1 (by rw [eG]; exact hch) (fun j hj => by rw [hx1 j, hx j (by omega), decide_eq_false (show ¬ j = s by omega), Bool.and_false]; rfl)
    refine ⟨i1, fun j hj => (i2 j hj).trans (vote_cK hj), fun j hj => (i3 j hj).trans (vote_cG hj), i4.trans vote_cN, fun j hj => (i5 j hj).trans (vote_rK hs hj), i6.trans eG, ?_, ?_, i9⟩
    · have ev : vlr (s_R_vote r m s) m = vlr r m := by funext q; unfold vlr; rw [eG]
      rw [i7, ev, v2]
      show _ = lg_fold (vlr r m) m _ k (s + 1) _
      have eb := (i8 s (Nat.lt_succ_self s)).trans (hx1 s)
      rw [hx s (Nat.le_refl _), decide_eq_true (rfl : s = s), Bool.and_true, Bool.false_or] at eb
      rw [eb]
      simp only [decide_eq_true_eq]
    · intro j hj
      rw [i8 j (by omega), hx1 j, decide_eq_false (show ¬ j = s by omega), Bool.and_false, Bool.or_false]
