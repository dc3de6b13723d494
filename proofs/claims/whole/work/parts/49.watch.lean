def gl_H (m : Nat) (c r : gm_St) : Prop := ∀ k, 6 ≤ k → k < 16 → k ≠ 14 → r.2.1 0 (16 * m + k) = c.2.1 (1 + m) k
theorem sw_fin : ∀ v : Fin 32, (if ((nI v.val) &&& (1 : Int32)) = 0 then false else true) = bt (nI v.val) 0 ∧ (if ((nI v.val) &&& (2 : Int32)) = 0 then false else true) = bt (nI v.val) 1 ∧ (if ((nI v.val) &&& (4 : Int32)) = 0 then false else true) = bt (nI v.val) 2 ∧ (if ((nI v.val) &&& (8 : Int32)) = 0 then false else true) = bt (nI v.val) 3 ∧ (if ((nI v.val) &&& (16 : Int32)) = 0 then false else true) = bt (nI v.val) 4 := by decide +kernel
theorem cond_eq {c r : gm_St} {m v i : Nat} (hm : m < 2) (hS : gl_S c r) (hv : v < 32) (e1 : c.2.1 3 m = nI v) (e2 : r.2.1 2 (11 * m) = nI v) (h6 : 6 ≤ i) (h16 : i < 16) (h14 : i ≠ 14) : v_R_condition r m i = v_M_conditionHolds c m i := by
  have s0 := (hS m 0 hm (by decide)).1
  have s1 := (hS m 1 hm (by decide)).1
  have s2 := (hS m 2 hm (by decide)).1
  have s3 := (hS m 3 hm (by decide)).1
  have s4 := (hS m 4 hm (by decide)).1
  have s5 := (hS m 5 hm (by decide)).1
  rw [Nat.add_zero] at s0
  obtain ⟨f0, f1, f2, f3, f4⟩ := sw_fin ⟨v, hv⟩
  simp only [] at f0 f1 f2 f3 f4
  have w0 : v_R_was r m (0 : Int32) 0 = v_M_isSwitchedOn c m (1 : Int32) := by rw [show v_R_was r m (0 : Int32) 0 = _ from was_bit r m (v := 0) 0 (by decide), Nat.add_zero, e2, ← f0]; unfold v_M_isSwitchedOn; rw [e1]
  have w1 : v_R_was r m (1 : Int32) 0 = v_M_isSwitchedOn c m (2 : Int32) := by rw [show v_R_was r m (1 : Int32) 0 = _ from was_bit r m (v := 1) 0 (by decide), Nat.add_zero, e2, ← f1]; unfold v_M_isSwitchedOn; rw [e1]
  have w2 : v_R_was r m (2 : Int32) 0 = v_M_isSwitchedOn c m (4 : Int32) := by rw [show v_R_was r m (2 : Int32) 0 = _ from was_bit r m (v := 2) 0 (by decide), Nat.add_zero, e2, ← f2]; unfold v_M_isSwitchedOn; rw [e1]
  have w3 : v_R_was r m (3 : Int32) 0 = v_M_isSwitchedOn c m (8 : Int32) := by rw [show v_R_was r m (3 : Int32) 0 = _ from was_bit r m (v := 3) 0 (by decide), Nat.add_zero, e2, ← f3]; unfold v_M_isSwitchedOn; rw [e1]
  have w4 : v_R_was r m (4 : Int32) 0 = v_M_isSwitchedOn c m (16 : Int32) := by rw [show v_R_was r m (4 : Int32) 0 = _ from was_bit r m (v := 4) 0 (by decide), Nat.add_zero, e2, ← f4]; unfold v_M_isSwitchedOn; rw [e1]
  unfold v_R_condition v_M_conditionHolds v_M_isOn
  rw [w0, w1, w2, w3, w4, s0, s1, s2, s3, s4, s5]
  rcases (by omega : i = 6 ∨ i = 7 ∨ i = 8 ∨ i = 9 ∨ i = 10 ∨ i = 11 ∨ i = 12 ∨ i = 13 ∨ i = 15) with rfl | rfl | rfl | rfl | rfl | rfl | rfl | rfl | rfl <;> rfl
theorem lim_eq {i : Nat} (h6 : 6 ≤ i) (h16 : i < 16) (h14 : i ≠ 14) : v_R_limit (nI i) = gm_lim i ∧ ¬ (nI i) = (14 : Int32) ∧ (0 : Int32) < gm_lim i := by
  rcases (by omega : i = 6 ∨ i = 7 ∨ i = 8 ∨ i = 9 ∨ i = 10 ∨ i = 11 ∨ i = 12 ∨ i = 13 ∨ i = 15) with rfl | rfl | rfl | rfl | rfl | rfl | rfl | rfl | rfl <;> decide +kernel
theorem min_eq2 (y lim : Int32) : (if y ≤ lim then y else lim) = (if lim < y then lim else y) ∧ (y < lim ↔ ¬ (if lim < y then lim else y) = lim) := by
  by_cases h : lim < y
  · rw [if_pos h, if_neg (Int32.not_le.mpr h)]
    exact ⟨rfl, fun q => absurd (Int32.lt_trans h q) Int32.lt_irrefl, fun q => absurd rfl q⟩
  · have hle : y ≤ lim := Int32.not_lt.mp h
    rw [if_neg h, if_pos hle]
    refine ⟨rfl, fun q e => ?_, fun q => ?_⟩
    · rw [e] at q; exact Int32.lt_irrefl q
    · apply Int32.not_le.mp
      intro q2
      exact q (Int32.le_antisymm hle q2)
def NN (c : gm_St) (m i : Nat) : Int32 := if (v_M_conditionHolds c m i) = true then (if (gm_lim i) < ((c.2.1 (1 + m) i) + (1 : Int32)) then (gm_lim i) else ((c.2.1 (1 + m) i) + (1 : Int32))) else (0 : Int32)
theorem wc_step {c : gm_St} {m k i : Nat} {x : Int32} (h14 : ¬ (nI i) = (14 : Int32)) : lp_M_watchC m (k + 1) i x c = lp_M_watchC m k (i + 1) (if NN c m i = gm_lim i then (x ||| ((1 : Int32) <<< ((nI i) &&& 31))) else x) (gm_sG c (1 + m) i (NN c m i)) := by
  simp only [lp_M_watchC]
  rw [if_neg h14, if_neg h14]
  have e : (gm_sG c (1 + m) i (NN c m i)).2.1 (1 + m) i = NN c m i := by simp [gm_sG]
  show lp_M_watchC m k (i + 1) (if (gm_sG c (1 + m) i (NN c m i)).2.1 (1 + m) i = gm_lim i then _ else x) (if (gm_sG c (1 + m) i (NN c m i)).2.1 (1 + m) i = gm_lim i then (gm_sG c (1 + m) i (NN c m i)) else (gm_sG c (1 + m) i (NN c m i))) = _
  rw [e]
  congr 1
  split <;> rfl
theorem wr_step {c r : gm_St} {m v i : Nat} (hm : m < 2) (hS : gl_S c r) (hv : v < 32) (e1 : c.2.1 3 m = nI v) (e2 : r.2.1 2 (11 * m) = nI v) (hH : gl_H m c r) (h6 : 6 ≤ i) (h16 : i < 16) (h14 : i ≠ 14) : bd_R_watch m i r = (if NN c m i = gm_lim i then s_R_gets (gm_sG r 0 (16 * m + i) (NN c m i)) m i else gm_sG r 0 (16 * m + i) (NN c m i)) := by
  obtain ⟨l1, l2, l3⟩ := lim_eq h6 h16 h14
  unfold bd_R_watch
  rw [if_neg l2, cond_eq hm hS hv e1 e2 h6 h16 h14, l1, hH i h6 h16 h14]
  unfold NN
  by_cases hc : v_M_conditionHolds c m i = true
  · simp only [if_pos hc]
    obtain ⟨q1, q2⟩ := min_eq2 (c.2.1 (1 + m) i + 1) (gm_lim i)
    rw [q1]
    by_cases hl : c.2.1 (1 + m) i + 1 < gm_lim i
    · rw [if_pos hl, if_neg (q2.mp hl)]
    · rw [if_neg hl]
      have : (if gm_lim i < c.2.1 (1 + m) i + 1 then gm_lim i else c.2.1 (1 + m) i + 1) = gm_lim i := Decidable.byContradiction (fun q => hl (q2.mpr q))
      rw [if_pos this]
  · simp only [if_neg hc]
    rw [if_pos l3, if_pos (Int32.le_of_lt l3), if_neg (fun q => by rw [← q] at l3; exact Int32.lt_irrefl l3)]
/-- what the watching of conditions leaves alone -/
def keW (m : Nat) (c c' r r' : gm_St) : Prop := c'.1 = c.1 ∧ (∀ j, j ≠ 1 + m → c'.2.1 j = c.2.1 j) ∧ c'.2.1 (1 + m) 14 = c.2.1 (1 + m) 14 ∧ c'.2.2 = c.2.2 ∧ (∀ j, j ≠ 4 → r'.1 j = r.1 j) ∧ (∀ j, j ≠ 0 → r'.2.1 j = r.2.1 j) ∧ (∀ x, (x < 16 * m ∨ 16 * m + 16 ≤ x) → r'.2.1 0 x = r.2.1 0 x)
theorem keW_S {m : Nat} {c c' r r' : gm_St} (h : keW m c c' r r') (hS : gl_S c r) : gl_S c' r' := by
  obtain ⟨h1, h2, h3, h4, h5, h6, h7⟩ := h
  intro m' s' hm' hs'
  rw [h1, h5 2 (by decide), h5 3 (by decide), h5 1 (by decide), h2 0 (by omega)]
  exact hS m' s' hm' hs'
theorem watch_loop {m v : Nat} (hm : m < 2) (hv : v < 32) : ∀ (k i : Nat) (x : Int32) (c r : gm_St), 6 ≤ i → i + k ≤ 16 → (∀ j, i ≤ j → j < i + k → j ≠ 14) → gl_S c r → c.2.1 3 m = nI v → r.2.1 2 (11 * m) = nI v → gl_H m c r → (∀ j, i ≤ j → bt x j = false) →
    keW m c (lp_M_watchC m k i x c).2 r (lp_R_watch m k i r) ∧ gl_H m (lp_M_watchC m k i x c).2 (lp_R_watch m k i r) ∧ lgr (lp_R_watch m k i r) = lg_fold (vlr r m) m (bt (lp_M_watchC m k i x c).1) k i (lgr r) ∧ (∀ j, j < i → bt (lp_M_watchC m k i x c).1 j = bt x j) ∧ (∀ j, i + k ≤ j → bt (lp_M_watchC m k i x c).1 j = false) := by
  intro k
  induction k with
  | zero =>
    intro i x c r h6 hk h14 hS e1 e2 hH hx
    exact ⟨⟨rfl, fun _ _ => rfl, rfl, rfl, fun _ _ => rfl, fun _ _ => rfl, fun _ _ => rfl⟩, hH, rfl, fun _ _ => rfl, fun j hj => hx j hj⟩
  | succ k ih =>
    intro i x c r h6 hk h14 hS e1 e2 hH hx
    have hi : i < 16 := by omega
    have hi14 : i ≠ 14 := h14 i (Nat.le_refl _) (by omega)
    obtain ⟨l1, l2, l3⟩ := lim_eq h6 hi hi14
    rw [wc_step l2]
    simp only [lp_R_watch]
    rw [wr_step hm hS hv e1 e2 hH h6 hi hi14]
    generalize hN : NN c m i = N
    have hx1 : ∀ j, bt (if N = gm_lim i then (x ||| ((1 : Int32) <<< ((nI i) &&& 31))) else x) j = (bt x j || (decide (N = gm_lim i) && decide (j = i))) := fun j => b_or1 x _ (by omega) j
    generalize hr1 : (if N = gm_lim i then s_R_gets (gm_sG r 0 (16 * m + i) N) m i else gm_sG r 0 (16 * m + i) N) = r1
    have rB : ∀ j, j ≠ 4 → r1.1 j = r.1 j := by
      intro j hj; funext y; rw [← hr1]
      split
      · rw [gets_B _ m i j y hj]; rfl
      · rfl
    have rG : r1.2.1 = (gm_sG r 0 (16 * m + i) N).2.1 := by
      rw [← hr1]
      split
      · exact gets_G _ m i
      · rfl
    have rG0 : ∀ j, j ≠ 0 → r1.2.1 j = r.2.1 j := by
      intro j hj; funext y; rw [rG]; simp [gm_sG, hj]
    have rL : lgr r1 = if N = gm_lim i then lg_put (vlr r m) m i (lgr r) else lgr r := by
      rw [← hr1]
      by_cases hb : N = gm_lim i
      · rw [if_pos hb, if_pos hb, gets_lg]; rfl
      · rw [if_neg hb, if_neg hb]; rfl
    have hk1 : keW m c (gm_sG c (1 + m) i N) r r1 := by
      refine ⟨rfl, fun j hj => ?_, ?_, rfl, rB, rG0, fun y hy => ?_⟩
      · funext y; simp [gm_sG, hj]
      · have e : ¬ 14 = i := fun q => hi14 q.symm
        simp [gm_sG, e]
      · rw [rG]
        have e : ¬ y = 16 * m + i := by omega
        simp [gm_sG, e]
    have hH1 : gl_H m (gm_sG c (1 + m) i N) r1 := by
      intro j j1 j2 j3
      rw [rG]
      by_cases e : j = i
      · subst e; simp [gm_sG]
      · have e' : ¬ 16 * m + j = 16 * m + i := by omega
        simp only [gm_sG, if_true, if_neg e, if_neg e']
        exact hH j j1 j2 j3
    obtain ⟨i1, i2, i3, i4, i5⟩ := ih (i + 1) (if N = gm_lim i then (x ||| ((1 : Int32) <<< ((nI i) &&& 31))) else x) (gm_sG c (1 + m) i N) r1 (by omega) (by omega) (fun j j1 j2 => h14 j (by omega) (by omega)) (keW_S hk1 hS) (by rw [hk1.2.1 3 (by omega)]; exact e1) (by rw [rG0 2 (by decide)]; exact e2) hH1 (fun j hj => by rw [hx1 j, hx j (by omega), decide_eq_false (show ¬ j = i by omega), Bool.and_false]; rfl)
    generalize lp_M_watchC m k (i + 1) (if N = gm_lim i then (x ||| ((1 : Int32) <<< ((nI i) &&& 31))) else x) (gm_sG c (1 + m) i N) = C at i1 i2 i3 i4 i5 ⊢
    generalize lp_R_watch m k (i + 1) r1 = R at i1 i2 i3 ⊢
    refine ⟨⟨i1.1.trans hk1.1, fun j hj => (i1.2.1 j hj).trans (hk1.2.1 j hj), i1.2.2.1.trans hk1.2.2.1, i1.2.2.2.1.trans hk1.2.2.2.1, fun j hj => (i1.2.2.2.2.1 j hj).trans (rB j hj), fun j hj => (i1.2.2.2.2.2.1 j hj).trans (rG0 j hj), fun y hy => (i1.2.2.2.2.2.2 y hy).trans (hk1.2.2.2.2.2.2 y hy)⟩, i2, ?_, ?_, fun j hj => i5 j (by omega)⟩
    · have ev : vlr r1 m = vlr r m := by funext q; unfold vlr; rw [rG0 3 (by decide)]
      rw [i3, ev, rL]
      show _ = lg_fold (vlr r m) m _ k (i + 1) _
      have eb := (i4 i (Nat.lt_succ_self i)).trans (hx1 i)
      rw [hx i (Nat.le_refl _), decide_eq_true (rfl : i = i), Bool.and_true, Bool.false_or] at eb
      rw [eb]
      simp only [decide_eq_true_eq]
    · intro j hj
      rw [i4 j (by omega), hx1 j, decide_eq_false (show ¬ j = i by omega), Bool.and_false, Bool.or_false]
