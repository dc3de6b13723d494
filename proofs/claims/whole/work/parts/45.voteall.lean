section VS
variable {c r : gm_St} {m s : Nat} {ch : Int32}
theorem nR_2 {w : Bool × Bool × Bool × Bool × Bool} {x : Nat} : (nR r m s w).1 2 x = if x = 6 * m + s then w.1 else r.1 2 x := by simp [nR, gm_sB]
theorem nR_3 {w : Bool × Bool × Bool × Bool × Bool} {x : Nat} : (nR r m s w).1 3 x = if x = 6 * m + s then w.2.1 else r.1 3 x := by simp [nR, gm_sB]
theorem nR_1 {w : Bool × Bool × Bool × Bool × Bool} {x : Nat} : (nR r m s w).1 1 x = if x = 18 * m + 3 * s + 2 then w.2.2.2.2 else if x = 18 * m + 3 * s + 1 then w.2.2.2.1 else if x = 18 * m + 3 * s then w.2.2.1 else r.1 1 x := by simp [nR, gm_sB]
theorem vote_rB (hs : s < 6) {j x : Nat} (hj : j ≠ 4) : (s_R_vote r m s).1 j x = (nR r m s (wRr r m s)).1 j x := by
  rw [vote_r r m s hs]
  split
  · rfl
  · split
    · exact gets_B _ m s j x hj
    · rfl
theorem vote_rG (hs : s < 6) : (s_R_vote r m s).2.1 = r.2.1 := by
  rw [vote_r r m s hs]
  split
  · rfl
  · split
    · exact gets_G _ m s
    · rfl
theorem vote_rK (hs : s < 6) {j : Nat} (hj : j = 0 ∨ 5 ≤ j) : (s_R_vote r m s).1 j = r.1 j := by
  funext x
  rw [vote_rB hs (by omega)]
  have h1 : j ≠ 1 := by omega
  have h2 : j ≠ 2 := by omega
  have h3 : j ≠ 3 := by omega
  simp [nR, gm_sB, h1, h2, h3]
theorem vote_cK {i : Nat} {X : Int32} {j : Nat} (hj : 2 ≤ j) : (s_S_vote c i X).1 j = c.1 j := by
  funext x
  rw [vote_c]
  have h0 : j ≠ 0 := by omega
  have h1 : j ≠ 1 := by omega
  simp [gm_sB, gm_sG, h0, h1]
theorem vote_cG {i : Nat} {X : Int32} {j : Nat} (hj : 1 ≤ j) : (s_S_vote c i X).2.1 j = c.2.1 j := by
  funext x
  rw [vote_c]
  have h0 : j ≠ 0 := by omega
  simp [gm_sB, gm_sG, h0]
theorem vote_cN {i : Nat} {X : Int32} : (s_S_vote c i X).2.2 = c.2.2 := by
  rw [vote_c]; rfl
theorem vote_eq (hm : m < 2) (hs : s < 6) (hS : gl_S c r) : (wV (c.1 0 (6 * m + s)) (c.1 1 (6 * m + s)) (c.2.1 0 (6 * m + s)) (ck (bt (r.2.1 3 1) (3 * s)) (bt (r.2.1 3 1) (3 * s + 1)) (bt (r.2.1 3 1) (3 * s + 2)))).1 = (wRr r m s).1 ∧ (wV (c.1 0 (6 * m + s)) (c.1 1 (6 * m + s)) (c.2.1 0 (6 * m + s)) (ck (bt (r.2.1 3 1) (3 * s)) (bt (r.2.1 3 1) (3 * s + 1)) (bt (r.2.1 3 1) (3 * s + 2)))).2.1 = (wRr r m s).2.1 ∧ gl_val (wV (c.1 0 (6 * m + s)) (c.1 1 (6 * m + s)) (c.2.1 0 (6 * m + s)) (ck (bt (r.2.1 3 1) (3 * s)) (bt (r.2.1 3 1) (3 * s + 1)) (bt (r.2.1 3 1) (3 * s + 2)))).2.2 (wRr r m s).2.2.1 (wRr r m s).2.2.2.1 (wRr r m s).2.2.2.2 := by
  obtain ⟨h1, h2, h3⟩ := hS m s hm hs
  unfold wRr
  rw [h1, h2]
  generalize bt (r.2.1 3 1) (3 * s) = a0
  generalize bt (r.2.1 3 1) (3 * s + 1) = a1
  generalize bt (r.2.1 3 1) (3 * s + 2) = a2
  generalize c.1 0 (6 * m + s) = on
  generalize c.1 1 (6 * m + s) = br
  have key : ∀ q : Fin 4, _ := fun q => vote_fin on br a0 a1 a2 q
  have fin : ∀ {C : Int32} {R : Bool × Bool × Bool}, ((C = 7 ∧ R = (false, false, false)) ∨ (C = 6 ∧ R = (true, false, false)) ∨ (C = 5 ∧ R = (false, true, false)) ∨ (C = 3 ∧ R = (false, false, true))) → gl_val C R.1 R.2.1 R.2.2 := by
    intro C R h
    unfold gl_val
    rcases h with ⟨e, rfl⟩ | ⟨e, rfl⟩ | ⟨e, rfl⟩ | ⟨e, rfl⟩ <;> simp [e]
  rcases h3 with ⟨e, e0, e1, e2⟩ | ⟨e, e0, e1, e2⟩ | ⟨e, e0, e1, e2⟩ | ⟨e, e0, e1, e2⟩ <;> rw [e, e0, e1, e2]
  · obtain ⟨k1, k2, k3⟩ := key 0; exact ⟨k1, k2, fin k3⟩
  · obtain ⟨k1, k2, k3⟩ := key 1; exact ⟨k1, k2, fin k3⟩
  · obtain ⟨k1, k2, k3⟩ := key 2; exact ⟨k1, k2, fin k3⟩
  · obtain ⟨k1, k2, k3⟩ := key 3; exact ⟨k1, k2, fin k3⟩
theorem vote_S (hm : m < 2) (hs : s < 6) (hS : gl_S c r) (hch : r.2.1 3 1 = ch) : gl_S (s_S_vote c (6 * m + s) ((ch >>> (((3 : Int32) * (nI s)) &&& 31)) &&& (7 : Int32))) (s_R_vote r m s) := by
  subst hch
  obtain ⟨k1, k2, k3⟩ := vote_eq hm hs hS
  rw [ck_ch _ hs, vote_c]
  intro m' s' hm' hs'
  rw [vote_rB hs (by decide), vote_rB hs (by decide), vote_rB hs (by decide), vote_rB hs (by decide), vote_rB hs (by decide), nR_2, nR_3, nR_1, nR_1, nR_1]
  by_cases e : 6 * m' + s' = 6 * m + s
  · have em : m' = m := by omega
    have es : s' = s := by omega
    subst em; subst es
    simp only [if_true]
    rw [if_neg (show ¬ 18 * m' + 3 * s' = 18 * m' + 3 * s' + 2 by omega), if_neg (show ¬ 18 * m' + 3 * s' = 18 * m' + 3 * s' + 1 by omega), if_neg (show ¬ 18 * m' + 3 * s' + 1 = 18 * m' + 3 * s' + 2 by omega)]
    refine ⟨?_, ?_, ?_⟩
    · rw [← k1]; simp [gm_sB, gm_sG]
    · rw [← k2]; simp [gm_sB, gm_sG]
    · simpa [gm_sB, gm_sG] using k3
  · rw [if_neg e, if_neg e]
    rw [if_neg (by omega), if_neg (by omega), if_neg (by omega), if_neg (by omega), if_neg (by omega), if_neg (by omega), if_neg (by omega), if_neg (by omega), if_neg (by omega)]
    obtain ⟨g1, g2, g3⟩ := hS m' s' hm' hs'
    simp only [gm_sB, gm_sG, if_neg e]
    simp
    exact ⟨g1, g2, g3⟩
theorem vote_L (hm : m < 2) (hs : s < 6) (hS : gl_S c r) (hch : r.2.1 3 1 = ch) : lgr (s_R_vote r m s) = (if v_S_vote c (6 * m + s) ((ch >>> (((3 : Int32) * (nI s)) &&& 31)) &&& (7 : Int32)) = true then lg_put (vlr r m) m s (lgr r) else lgr r) := by
  subst hch
  obtain ⟨k1, k2, k3⟩ := vote_eq hm hs hS
  obtain ⟨h1, h2, h3⟩ := hS m s hm hs
  rw [ck_ch _ hs, vote_v, k2, vote_r r m s hs, h2]
  have eL : lgr (nR r m s (wRr r m s)) = lgr r := by simp [lgr, nR, gm_sB]
  by_cases hb : c.1 1 (6 * m + s) = true
  · simp only [if_pos hb]
    rw [if_neg (by decide)]; exact eL
  · simp only [if_neg hb]
    by_cases hw : (wRr r m s).2.1 = true
    · rw [if_pos hw, if_pos hw, gets_lg, eL]; rfl
    · rw [if_neg hw, if_neg hw]; exact eL
end VS
