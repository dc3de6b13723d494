theorem write_0 (m : Nat) : ∀ (k i : Nat) (u : gm_St), i + k ≤ 16 → lp_G_write m 0 k i u = u := by
  intro k
  induction k with
  | zero => intro i u _; rfl
  | succ k ih =>
    intro i u h
    simp only [lp_G_write]
    rw [if_neg (fun q => by have := (b_one1 (0 : Int32) (show i < 32 by omega)).mp q; rw [b_0] at this; cases this)]
    exact ih (i + 1) u (by omega)
theorem step_any {c r : gm_St} {m : Nat} {ch : Int32} (hm : m < 2) (hR : gl_R c r) (hch : r.2.1 3 1 = ch) :
    gl_R (s_G_write (s_M_step c m ch (c.1 5 0)) m (v_M_step c m ch (c.1 5 0))) (bd_R_tick2 m r) ∧ (bd_R_tick2 m r).2.1 3 1 = ch := by
  have m0 := (hR.2.1 m hm).1
  unfold bd_R_tick2
  by_cases hw : c.1 2 m = true
  · have h := step_work hm hR hch (dw := c.1 5 0) rfl hw
    rw [hw] at m0
    rw [if_neg (by rw [m0]; decide)]
    exact ⟨h.1, h.2.1⟩
  · have hf : c.1 2 m = false := by cases h : c.1 2 m <;> simp_all
    rw [hf] at m0
    rw [if_pos (by rw [m0]; rfl)]
    unfold s_M_step v_M_step
    rw [if_neg hw, if_neg hw]
    unfold s_G_write
    rw [write_0 m 16 0 c (by omega)]
    exact ⟨hR, hch⟩
theorem tick2_rel {ch : Int32} : ∀ (k i : Nat) (c r : gm_St), i + k ≤ 2 → gl_R c r → r.2.1 3 1 = ch → gl_R (lp_G_tick2 ch k i c) (lp_R_tick2 k i r) ∧ (lp_R_tick2 k i r).2.1 3 1 = ch := by
  intro k
  induction k with
  | zero => intro i c r _ hR hch; exact ⟨hR, hch⟩
  | succ k ih =>
    intro i c r hk hR hch
    simp only [lp_G_tick2, lp_R_tick2]
    obtain ⟨h1, h2⟩ := step_any (m := i) (by omega) hR hch
    exact ih (i + 1) _ _ (by omega) h1 h2
theorem time_rel {c r : gm_St} (hR : gl_R c r) : gl_R (gm_sG c 6 2 ((c.2.1 6 2) + (1 : Int32))) (gm_sG r 3 0 ((r.2.1 3 0) + (1 : Int32))) := by
  obtain ⟨hS, hMM, hd, ht, hL⟩ := hR
  refine ⟨?_, ?_, hd, ?_, hL⟩
  · intro m s hm hs
    have := hS m s hm hs
    simpa [gm_sG] using this
  · intro m hm
    refine gl_M_cong (hMM m hm) rfl rfl rfl ?_ ?_ ?_ ?_ rfl rfl (fun _ _ => rfl) ?_ ?_ ?_
    · intro k _; have e : ¬ 1 + m = 6 := by omega
      simp [gm_sG, e]
    · simp [gm_sG]
    · simp [gm_sG]
    · simp [gm_sG]
    · intro k _; simp [gm_sG]
    · simp [gm_sG]
    · intro j _; simp [gm_sG]
  · simp [gm_sG, ht]
theorem tick_rel {ch : Int32} : ∀ (k i : Nat) (c r : gm_St), gl_R c r → r.2.1 3 1 = ch → gl_R (lp_G_tick ch k i c) (lp_R_tick k i r) := by
  intro k
  induction k with
  | zero => intro i c r hR _; exact hR
  | succ k ih =>
    intro i c r hR hch
    simp only [lp_G_tick, lp_R_tick]
    obtain ⟨h1, h2⟩ := tick2_rel (ch := ch) 2 0 _ _ (by omega) (time_rel hR) (by simp [gm_sG, hch])
    exact ih (i + 1) _ _ h1 h2
theorem chan_rel {c r : gm_St} (ch : Int32) (hR : gl_R c r) : gl_R c (gm_sG r 3 1 ch) := by
  obtain ⟨hS, hMM, hd, ht, hL⟩ := hR
  refine ⟨hS, ?_, hd, ?_, hL⟩
  · intro m hm
    refine gl_M_cong (hMM m hm) rfl rfl rfl (fun _ _ => rfl) rfl rfl rfl rfl rfl (fun _ _ => rfl) ?_ ?_ ?_
    · intro k _; simp [gm_sG]
    · simp [gm_sG]
    · intro j _; simp [gm_sG]
  · simp [gm_sG, ht]
theorem op_tick {c r : gm_St} (ch xn : Int32) (hR : gl_R c r) : v_G_tick c ch xn = v_R_tick r ch xn ∧ gl_R (s_G_tick c ch xn) (s_R_tick r ch xn) := by
  unfold v_G_tick v_R_tick s_G_tick s_R_tick
  by_cases h1 : xn < 1
  · simp only [if_pos h1]; exact ⟨trivial, hR⟩
  · simp only [if_neg h1]
    by_cases h2 : xn ≤ 100
    · simp only [if_pos h2]
      have h := tick_rel (ch := ch) xn.toNatClampNeg 0 c (gm_sG r 3 1 ch) (chan_rel ch hR) (by simp [gm_sG])
      exact ⟨h.2.2.2.1.symm, h⟩
    · simp only [if_neg h2]; exact ⟨trivial, hR⟩
theorem op_tick_N {r : gm_St} (ch xn : Int32) : (s_R_tick r ch xn).2.2.1 0 ≤ r.2.2.1 0 + 3200 := by
  unfold s_R_tick
  by_cases h1 : xn < 1
  · rw [if_pos h1]; omega
  · rw [if_neg h1]
    by_cases h2 : xn ≤ 100
    · rw [if_pos h2]
      obtain ⟨j, hj, rfl⟩ := gm_ixL (lo := 1) (n := 100) h1 h2 (by decide) (by decide)
      rw [nI_clamp (by omega)]
      have h := gr_lptick_N j 0 (gm_sG r 3 1 ch)
      have e : (gm_sG r 3 1 ch).2.2.1 0 = r.2.2.1 0 := rfl
      omega
    · rw [if_neg h2]; omega
theorem bw_rel {c r : gm_St} {m : Nat} (hm : m < 2) (hR : gl_R c r) : gl_R (s_M_beginWait c m) (if (r.1 0 m) = true then r else (gm_sG (gm_sB r 5 m true) 1 m (0 : Int32))) := by
  obtain ⟨hS, hMM, hd, ht, hL⟩ := hR
  obtain ⟨m0, ⟨t1, t2, t3⟩, mF, mH, mV, mb, mb2⟩ := hMM m hm
  have cB : ∀ j x, (j ≠ 3 ∨ x ≠ m) → (s_M_beginWait c m).1 j x = c.1 j x := fun j x h => by
    simp only [s_M_beginWait, gm_sG, gm_sB]; rcases h with h | h <;> simp [h]
  have cG : ∀ j x, (j ≠ 1 + m ∨ x ≠ 14) → (s_M_beginWait c m).2.1 j x = c.2.1 j x := fun j x h => by
    simp only [s_M_beginWait, gm_sG, gm_sB]; rcases h with h | h <;> simp [h]
  have c3 : (s_M_beginWait c m).1 3 m = c.1 2 m := by simp [s_M_beginWait, gm_sG, gm_sB]
  have c14 : (s_M_beginWait c m).2.1 (1 + m) 14 = 0 := by simp [s_M_beginWait, gm_sG, gm_sB]
  have cN : (s_M_beginWait c m).2.2 = c.2.2 := rfl
  generalize s_M_beginWait c m = c' at cB cG c3 c14 cN ⊢
  have rB : ∀ j x, (j ≠ 5 ∨ x ≠ m) → (if (r.1 0 m) = true then r else (gm_sG (gm_sB r 5 m true) 1 m (0 : Int32))).1 j x = r.1 j x := fun j x h => by
    split
    · rfl
    · simp only [gm_sG, gm_sB]; rcases h with h | h <;> simp [h]
  have rG : ∀ j x, (j ≠ 1 ∨ x ≠ m) → (if (r.1 0 m) = true then r else (gm_sG (gm_sB r 5 m true) 1 m (0 : Int32))).2.1 j x = r.2.1 j x := fun j x h => by
    split
    · rfl
    · simp only [gm_sG, gm_sB]; rcases h with h | h <;> simp [h]
  have r5 : (if (r.1 0 m) = true then r else (gm_sG (gm_sB r 5 m true) 1 m (0 : Int32))).1 5 m = c.1 2 m := by
    cases hw : c.1 2 m
    · rw [hw] at m0
      rw [if_pos (by rw [m0]; rfl), t1]; exact (mF hw).1
    · rw [hw] at m0
      rw [if_neg (by rw [m0]; decide)]; simp [gm_sG, gm_sB]
  have r1 : (if (r.1 0 m) = true then r else (gm_sG (gm_sB r 5 m true) 1 m (0 : Int32))).2.1 1 m = 0 := by
    cases hw : c.1 2 m
    · rw [hw] at m0
      rw [if_pos (by rw [m0]; rfl), t2]; exact (mF hw).2.1
    · rw [hw] at m0
      rw [if_neg (by rw [m0]; decide)]; simp [gm_sG, gm_sB]
  have rN : (if (r.1 0 m) = true then r else (gm_sG (gm_sB r 5 m true) 1 m (0 : Int32))).2.2 = r.2.2 := by split <;> rfl
  generalize (if (r.1 0 m) = true then r else (gm_sG (gm_sB r 5 m true) 1 m (0 : Int32))) = r' at rB rG r5 r1 rN ⊢
  refine ⟨?_, ?_, ?_, ?_, ?_⟩
  · intro m' s' hm' hs'
    rw [rB 2 _ (by omega), rB 3 _ (by omega), rB 1 _ (by omega), rB 1 _ (by omega), rB 1 _ (by omega), cB 0 _ (by omega), cB 1 _ (by omega), cG 0 _ (by omega)]
    exact hS m' s' hm' hs'
  · intro m' hm'
    by_cases em : m' = m
    · subst em
      refine ⟨?_, ⟨by rw [r5, c3], by rw [r1, c14], fun _ => ⟨0, by decide, c14⟩⟩, ?_, ?_, ?_, ?_, ?_⟩
      · rw [rB 0 _ (by omega), cB 2 _ (by omega)]; exact m0
      · intro h
        rw [cB 2 _ (by omega)] at h
        exact ⟨by rw [c3]; exact h, c14, by rw [cG 3 _ (by omega)]; exact (mF h).2.2⟩
      · intro k k1 k2 k3
        rw [rG 0 _ (by omega), cG (1 + m') k (Or.inr k3)]; exact mH k k1 k2 k3
      · intro h
        rw [cB 2 _ (by omega)] at h
        exact gl_V1_cong (mV h) (cB 4 _ (by omega)) (cG 3 _ (by omega)) (cG 4 _ (by omega)) (fun j _ => rG 2 _ (by omega))
      · intro k hk; rw [rB 4 _ (by omega), cG 5 _ (by omega)]; exact mb k hk
      · intro k hk; rw [cG 5 _ (by omega)]; exact mb2 k hk
    · exact gl_M_cong (hMM m' hm') (cB 2 _ (by omega)) (cB 3 _ (by omega)) (cB 4 _ (by omega)) (fun k _ => cG (1 + m') k (by omega)) (cG 3 _ (by omega)) (cG 4 _ (by omega)) (cG 5 _ (by omega)) (rB 0 _ (by omega)) (rB 5 _ (by omega)) (fun k _ => rB 4 _ (by omega)) (fun k _ => rG 0 _ (by omega)) (rG 1 _ (by omega)) (fun j _ => rG 2 _ (by omega))
  · rw [rB 6 _ (by omega), cB 5 _ (by omega)]; exact hd
  · rw [rG 3 _ (by omega), cG 6 _ (by omega)]; exact ht
  · have e : (lgr r').2 = (lgr r).2 := by unfold lgr; rw [rN]
    rw [cN]
    obtain ⟨l1, l2, l3⟩ := hL
    exact ⟨by rw [e]; exact l1, by rw [e]; exact l2, by rw [e]; exact l3⟩
theorem down_rel {c r : gm_St} (dw : Bool) (hR : gl_R c r) : gl_R (gm_sB c 5 0 dw) (gm_sB r 6 0 dw) := by
  obtain ⟨hS, hMM, hd, ht, hL⟩ := hR
  refine ⟨?_, ?_, ?_, ht, hL⟩
  · intro m s hm hs
    have := hS m s hm hs
    simpa [gm_sB] using this
  · intro m hm
    refine gl_M_cong (hMM m hm) ?_ ?_ ?_ (fun _ _ => rfl) rfl rfl rfl ?_ ?_ ?_ (fun _ _ => rfl) rfl (fun _ _ => rfl)
    · simp [gm_sB]
    · simp [gm_sB]
    · simp [gm_sB]
    · simp [gm_sB]
    · simp [gm_sB]
    · intro k _; simp [gm_sB]
  · simp [gm_sB]
theorem op_handle {c r : gm_St} (dw : Bool) (hR : gl_R c r) : v_G_handle c dw = v_R_handle r dw ∧ gl_R (s_G_handle c dw) (s_R_handle r dw) ∧ (s_R_handle r dw).2.2.1 = r.2.2.1 := by
  have hd := hR.2.2.1
  unfold v_G_handle v_R_handle s_G_handle s_R_handle
  rw [hd]
  by_cases h : dw = c.1 5 0
  · rw [if_pos h, if_pos h.symm, if_pos h, if_pos h.symm]
    exact ⟨rfl, hR, rfl⟩
  · rw [if_neg h, if_neg (fun q => h q.symm), if_neg h, if_neg (fun q => h q.symm)]
    refine ⟨rfl, bw_rel (m := 0 + 1) (by decide) (bw_rel (m := 0) (by decide) (down_rel dw hR)), ?_⟩
    simp only [lp_R_handle]
    repeat' split
    all_goals rfl
theorem op_fail {c r : gm_St} {m : Nat} (hm : m < 2) (hR : gl_R c r) : v_M_stop c m = (if (r.1 0 m) = true then false else true) ∧ gl_R (s_M_stop c m) (if (r.1 0 m) = true then r else (gm_sG (gm_sB (gm_sB r 0 m true) 5 m false) 1 m (0 : Int32))) := by
  obtain ⟨hS, hMM, hd, ht, hL⟩ := hR
  obtain ⟨m0, ⟨t1, t2, t3⟩, mF, mH, mV, mb, mb2⟩ := hMM m hm
  unfold v_M_stop s_M_stop
  rw [m0]
  cases hw : c.1 2 m
  · simp only [Bool.not_false, if_true, Bool.false_eq_true, if_false]
    exact ⟨trivial, hS, hMM, hd, ht, hL⟩
  · simp only [Bool.not_true, if_true, Bool.false_eq_true, if_false]
    refine ⟨trivial, ?_⟩
    have cB : ∀ j x, ((j ≠ 2 ∧ j ≠ 3) ∨ x ≠ m) → (s_M_endWait (gm_sG (gm_sB c 2 m false) 3 m (0 : Int32)) m).1 j x = c.1 j x := fun j x h => by
      simp only [s_M_endWait, gm_sG, gm_sB]; rcases h with ⟨h, h'⟩ | h
      · simp [h, h']
      · simp [h]
    have cG : ∀ j x, (j ≠ 1 + m ∨ x ≠ 14) → (j ≠ 3 ∨ x ≠ m) → (s_M_endWait (gm_sG (gm_sB c 2 m false) 3 m (0 : Int32)) m).2.1 j x = c.2.1 j x := fun j x h h2 => by
      simp only [s_M_endWait, gm_sG, gm_sB]; rcases h with h | h <;> rcases h2 with h2 | h2 <;> simp [h, h2]
    have c2 : (s_M_endWait (gm_sG (gm_sB c 2 m false) 3 m (0 : Int32)) m).1 2 m = false := by simp [s_M_endWait, gm_sG, gm_sB]
    have c3 : (s_M_endWait (gm_sG (gm_sB c 2 m false) 3 m (0 : Int32)) m).1 3 m = false := by simp [s_M_endWait, gm_sG, gm_sB]
    have c14 : (s_M_endWait (gm_sG (gm_sB c 2 m false) 3 m (0 : Int32)) m).2.1 (1 + m) 14 = 0 := by simp [s_M_endWait, gm_sG, gm_sB]
    have cv : (s_M_endWait (gm_sG (gm_sB c 2 m false) 3 m (0 : Int32)) m).2.1 3 m = 0 := by
      have e : ¬ 3 = 1 + m := by omega
      simp [s_M_endWait, gm_sG, gm_sB, e]
    have cN : (s_M_endWait (gm_sG (gm_sB c 2 m false) 3 m (0 : Int32)) m).2.2 = c.2.2 := rfl
    generalize s_M_endWait (gm_sG (gm_sB c 2 m false) 3 m (0 : Int32)) m = c' at cB cG c2 c3 c14 cv cN ⊢
    have rB : ∀ j x, ((j ≠ 0 ∧ j ≠ 5) ∨ x ≠ m) → (gm_sG (gm_sB (gm_sB r 0 m true) 5 m false) 1 m (0 : Int32)).1 j x = r.1 j x := fun j x h => by
      simp only [gm_sG, gm_sB]; rcases h with ⟨h, h'⟩ | h
      · simp [h, h']
      · simp [h]
    have rG : ∀ j x, (j ≠ 1 ∨ x ≠ m) → (gm_sG (gm_sB (gm_sB r 0 m true) 5 m false) 1 m (0 : Int32)).2.1 j x = r.2.1 j x := fun j x h => by
      simp only [gm_sG, gm_sB]; rcases h with h | h <;> simp [h]
    have r0 : (gm_sG (gm_sB (gm_sB r 0 m true) 5 m false) 1 m (0 : Int32)).1 0 m = true := by simp [gm_sG, gm_sB]
    have r5 : (gm_sG (gm_sB (gm_sB r 0 m true) 5 m false) 1 m (0 : Int32)).1 5 m = false := by simp [gm_sG, gm_sB]
    have r1 : (gm_sG (gm_sB (gm_sB r 0 m true) 5 m false) 1 m (0 : Int32)).2.1 1 m = 0 := by simp [gm_sG, gm_sB]
    have rL : lgr (gm_sG (gm_sB (gm_sB r 0 m true) 5 m false) 1 m (0 : Int32)) = lgr r := by simp [lgr, gm_sG, gm_sB]
    generalize gm_sG (gm_sB (gm_sB r 0 m true) 5 m false) 1 m (0 : Int32) = r' at rB rG r0 r5 r1 rL ⊢
    refine ⟨?_, ?_, ?_, ?_, ?_⟩
    · intro m' s' hm' hs'
      rw [rB 2 _ (by omega), rB 3 _ (by omega), rB 1 _ (by omega), rB 1 _ (by omega), rB 1 _ (by omega), cB 0 _ (by omega), cB 1 _ (by omega), cG 0 _ (by omega) (by omega)]
      exact hS m' s' hm' hs'
    · intro m' hm'
      by_cases em : m' = m
      · subst em
        refine ⟨by rw [r0, c2]; rfl, ⟨by rw [r5, c3], by rw [r1, c14], fun h => by rw [c3] at h; cases h⟩, fun _ => ⟨c3, c14, cv⟩, ?_, fun h => (by rw [c2] at h; cases h), ?_, ?_⟩
        · intro k k1 k2 k3
          rw [rG 0 _ (by omega), cG (1 + m') k (Or.inr k3) (by omega)]; exact mH k k1 k2 k3
        · intro k hk; rw [rB 4 _ (by omega), cG 5 _ (by omega) (by omega)]; exact mb k hk
        · intro k hk; rw [cG 5 _ (by omega) (by omega)]; exact mb2 k hk
      · exact gl_M_cong (hMM m' hm') (cB 2 _ (by omega)) (cB 3 _ (by omega)) (cB 4 _ (by omega)) (fun k _ => cG (1 + m') k (by omega) (by omega)) (cG 3 _ (by omega) (by omega)) (cG 4 _ (by omega) (by omega)) (cG 5 _ (by omega) (by omega)) (rB 0 _ (by omega)) (rB 5 _ (by omega)) (fun k _ => rB 4 _ (by omega)) (fun k _ => rG 0 _ (by omega)) (rG 1 _ (by omega)) (fun j _ => rG 2 _ (by omega))
    · rw [rB 6 _ (by omega), cB 5 _ (by omega)]; exact hd
    · rw [rG 3 _ (by omega), cG 6 _ (by omega) (by omega)]; exact ht
    · rw [cN, rL]; exact hL
