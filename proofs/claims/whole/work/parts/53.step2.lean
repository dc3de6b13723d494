set_option maxHeartbeats 2000000 in
theorem step_work {c r : gm_St} {m : Nat} {ch : Int32} {dw : Bool} (hm : m < 2) (hR : gl_R c r) (hch : r.2.1 3 1 = ch) (hdw : c.1 5 0 = dw) (hw : c.1 2 m = true) :
    gl_R (s_G_write (s_M_step c m ch dw) m (v_M_step c m ch dw)) (s_R_step r m) ∧ (s_R_step r m).2.1 3 1 = ch ∧ (s_G_write (s_M_step c m ch dw) m (v_M_step c m ch dw)).1 5 0 = dw := by
  obtain ⟨hS, hMM, hd, ht, hL⟩ := hR
  obtain ⟨m0, mT, mF, mH, mV, mb, mb2⟩ := hMM m hm
  obtain ⟨a1, a2, a3, a4, a5, a6, a7, a8, a9⟩ := votes_loop (ch := ch) hm 6 0 0 c r rfl hS hch (fun j _ => b_0 j)
  unfold s_M_step v_M_step
  simp only [if_pos hw]
  unfold s_M_voteAll v_M_voteAll s_R_step s_R_watch s_M_watchConditions v_M_watchConditions s_G_write
  generalize hC1 : lp_M_voteAll m ch 6 0 0 c = C1 at a1 a2 a3 a4 a7 a8 a9 ⊢
  generalize hr1 : lp_R_step1 m 6 0 r = r1 at a1 a5 a6 a7 ⊢
  -- valves
  have hd1 : r1.1 6 0 = dw := by rw [a5 6 (by omega), hd, hdw]
  have hV1 : gl_V1 m C1.2 r1 := gl_V1_cong (mV hw) (by rw [a2 4 (by omega)]) (by rw [a3 3 (by omega)]) (by rw [a3 4 (by omega)]) (fun j _ => by rw [a6])
  have v1 := valves_step hm a1 hd1 hV1
  rw [show gm_sG (lp_R_shift m 10 r1) 2 (11 * m) (v_R_valvesNow r1 m) = r2S r1 m from rfl]
  have cB2 : ∀ j x, (j ≠ 4 ∨ x ≠ m) → (s_M_switchValves C1.2 m (v_M_wantedValves C1.2 m dw)).1 j x = C1.2.1 j x := fun j x h => sw_B h
  have cG2 : ∀ j x, ((j ≠ 3 ∧ j ≠ 4) ∨ x ≠ m) → (s_M_switchValves C1.2 m (v_M_wantedValves C1.2 m dw)).2.1 j x = C1.2.2.1 j x := fun j x h => sw_G h
  have cN2 : (s_M_switchValves C1.2 m (v_M_wantedValves C1.2 m dw)).2.2 = C1.2.2.2 := rfl
  have rB2 : (r2S r1 m).1 = r1.1 := (shift_B m 10 r1).1
  have rN2 : (r2S r1 m).2.2 = r1.2.2 := (shift_B m 10 r1).2.1
  have rG2 : ∀ j, j ≠ 2 → (r2S r1 m).2.1 j = r1.2.1 j := fun j h => r2_G h
  have rO2 : ∀ x, (x < 11 * m ∨ 11 * m + 11 ≤ x) → (r2S r1 m).2.1 2 x = r1.2.1 2 x := fun x h => r2_o h
  generalize s_M_switchValves C1.2 m (v_M_wantedValves C1.2 m dw) = c2 at v1 cB2 cG2 cN2 ⊢
  generalize r2S r1 m = r2 at v1 rB2 rN2 rG2 rO2 ⊢
  have hv := v1
  obtain ⟨⟨v, hv32, e1, e2⟩, -, -⟩ := hv
  have S2 : gl_S c2 r2 := by
    intro m' s' hm' hs'
    rw [cB2 0 _ (by omega), cB2 1 _ (by omega), cG2 0 _ (by omega), rB2]
    exact a1 m' s' hm' hs'
  have G2 : ∀ k, c2.2.1 (1 + m) k = c.2.1 (1 + m) k := fun k => by rw [cG2 (1 + m) k (by omega), a3 (1 + m) (by omega)]
  have H2 : gl_H m c2 r2 := by
    intro k k1 k2 k3
    rw [G2 k, rG2 0 (by decide), a6]
    exact mH k k1 k2 k3
  have T2 : gl_T m c2 r2 := by
    obtain ⟨t1, t2, t3⟩ := mT
    have q3 : c2.1 3 m = c.1 3 m := by rw [cB2 3 m (by omega), a2 3 (by omega)]
    refine ⟨?_, ?_, fun h => ?_⟩
    · rw [q3, rB2, a5 5 (by omega)]; exact t1
    · rw [G2 14, rG2 1 (by decide), a6]; exact t2
    · rw [G2 14]; exact t3 (by rw [← q3]; exact h)
  -- watching
  rw [wc_split, wr_split]
  obtain ⟨b1, b2, b3, b4, b5⟩ := watch_loop hm hv32 8 6 0 c2 r2 (by omega) (by omega) (fun j j1 j2 => by omega) S2 e1 e2 H2 (fun j _ => b_0 j)
  have S8 := keW_S b1 S2
  generalize hC8 : lp_M_watchC m 8 6 0 c2 = C8 at b1 b2 b3 b4 b5 S8 ⊢
  generalize hr8 : lp_R_watch m 8 6 r2 = r8 at b1 b2 b3 S8 ⊢
  have rB14 : ∀ j x, j ≠ 4 → (j ≠ 5 ∨ x ≠ m) → (bd_R_watch m 14 r8).1 j x = r8.1 j x := fun j x h h' => wait_rB h h'
  have rG14 : ∀ j x, (j ≠ 1 ∨ x ≠ m) → (bd_R_watch m 14 r8).2.1 j x = r8.2.1 j x := fun j x h => wait_rG h
  have S14 : gl_S C8.2 (bd_R_watch m 14 r8) := by
    intro m' s' hm' hs'
    rw [rB14 2 _ (by decide) (by omega), rB14 3 _ (by decide) (by omega), rB14 1 _ (by decide) (by omega), rB14 1 _ (by decide) (by omega), rB14 1 _ (by decide) (by omega)]
    exact S8 m' s' hm' hs'
  have H14 : gl_H m C8.2 (bd_R_watch m 14 r8) := by
    intro k k1 k2 k3
    rw [rG14 0 _ (by omega)]
    exact b2 k k1 k2 k3
  have e18 : C8.2.2.1 3 m = nI v := by rw [b1.2.1 3 (by omega)]; exact e1
  have e28 : (bd_R_watch m 14 r8).2.1 2 (11 * m) = nI v := by rw [rG14 2 _ (by omega), b1.2.2.2.2.2.1 2 (by decide)]; exact e2
  obtain ⟨d1, d2, d3, d4, d5⟩ := watch_loop hm hv32 1 15 C8.1 C8.2 (bd_R_watch m 14 r8) (by omega) (by omega) (fun j j1 j2 => by omega) S14 e18 e28 H14 (fun j hj => b5 j (by omega))
  have S15 := keW_S d1 S14
  generalize hC15 : lp_M_watchC m 1 15 C8.1 C8.2 = C15 at d1 d2 d3 d4 d5 S15 ⊢
  have T15 : gl_T m C15.2 r8 := by
    obtain ⟨t1, t2, t3⟩ := T2
    have q3 : C15.2.1 3 m = c2.1 3 m := by rw [d1.1, b1.1]
    have q14 : C15.2.2.1 (1 + m) 14 = c2.2.1 (1 + m) 14 := by rw [d1.2.2.1, b1.2.2.1]
    refine ⟨?_, ?_, fun h => ?_⟩
    · rw [q3, b1.2.2.2.2.1 5 (by decide)]; exact t1
    · rw [q14, b1.2.2.2.2.2.1 1 (by decide)]; exact t2
    · rw [q14]; exact t3 (by rw [← q3]; exact h)
  have S15' : gl_S C15.2 r8 := by
    intro m' s' hm' hs'
    rw [d1.1, d1.2.1 0 (by omega)]
    exact S8 m' s' hm' hs'
  obtain ⟨w1, w2, w3⟩ := wait_step hm S15' T15
  have cB4 : ∀ j x, (j ≠ 3 ∨ x ≠ m) → (s_M_watchSwitch C15.2 m).1 j x = C15.2.1 j x := fun j x h => wait_cB h
  have cG4 : ∀ j x, (j ≠ 1 + m ∨ x ≠ 14) → (s_M_watchSwitch C15.2 m).2.1 j x = C15.2.2.1 j x := fun j x h => wait_cG h
  have cN4 : (s_M_watchSwitch C15.2 m).2.2 = C15.2.2.2 := wait_cN
  generalize s_M_watchSwitch C15.2 m = c4 at w1 cB4 cG4 cN4 ⊢
  generalize hx4 : v_M_watchSwitch C15.2 m = x4 at w2 w3 ⊢
  generalize hr14 : bd_R_watch m 14 r8 = r14 at rB14 rG14 S14 H14 e28 d1 d3 w1 w3 S15 d2 ⊢
  generalize hr15 : lp_R_watch m 1 15 r14 = r15 at d1 d2 d3 S15 ⊢
  -- the state behind all, by its parts
  have f0 : c4.2.1 5 m = c.2.1 5 m := by rw [cG4 5 m (by omega), d1.2.1 5 (by omega), b1.2.1 5 (by omega), cG2 5 m (by omega), a3 5 (by omega)]
  generalize hX : (C1.1 ||| C15.1) ||| x4 = X
  generalize hg : X &&& ((c4.2.1 5 m) ^^^ (-1 : Int32)) = gn
  have cFB : ∀ j x, 2 ≤ j → (j ≠ 3 ∨ x ≠ m) → (j ≠ 4 ∨ x ≠ m) → c4.1 j x = c.1 j x := by
    intro j x h2 h3 h4
    rw [cB4 j x h3, d1.1, b1.1, cB2 j x h4, a2 j h2]
  have cFG : ∀ j x, 1 ≤ j → j ≠ 1 + m → ((j ≠ 3 ∧ j ≠ 4) ∨ x ≠ m) → c4.2.1 j x = c.2.1 j x := by
    intro j x h1 h2 h3
    rw [cG4 j x (Or.inl h2), d1.2.1 j h2, b1.2.1 j h2, cG2 j x h3, a3 j h1]
  have cFN : c4.2.2 = c.2.2 := by rw [cN4, d1.2.2.2.1, b1.2.2.2.1, cN2, a4]
  have rFB : ∀ j x, (j = 0 ∨ 5 ≤ j) → (j ≠ 5 ∨ x ≠ m) → r15.1 j x = r.1 j x := by
    intro j x h0 h5
    rw [d1.2.2.2.2.1 j (by omega), rB14 j x (by omega) h5, b1.2.2.2.2.1 j (by omega), rB2, a5 j h0]
  have rFG : ∀ j x, j ≠ 0 → j ≠ 2 → (j ≠ 1 ∨ x ≠ m) → r15.2.1 j x = r.2.1 j x := by
    intro j x h0 h2 h1
    rw [d1.2.2.2.2.2.1 j h0, rG14 j x h1, b1.2.2.2.2.2.1 j h0, rG2 j h2, a6]
  have rF0 : ∀ x, (x < 16 * m ∨ 16 * m + 16 ≤ x) → r15.2.1 0 x = r.2.1 0 x := by
    intro x hx
    rw [d1.2.2.2.2.2.2 x hx, rG14 0 x (by omega), b1.2.2.2.2.2.2 x hx, rG2 0 (by decide), a6]
  have rF2 : ∀ x, (x < 11 * m ∨ 11 * m + 11 ≤ x) → r15.2.1 2 x = r.2.1 2 x := by
    intro x hx
    rw [d1.2.2.2.2.2.1 2 (by decide), rG14 2 x (by omega), b1.2.2.2.2.2.1 2 (by decide), rO2 x hx, a6]
  -- the log
  have V2 : vlr r2 m = vlr r m := by funext q; unfold vlr; rw [rG2 3 (by decide), a6]
  have V8 : vlr r8 m = vlr r m := by rw [← V2]; funext q; unfold vlr; rw [b1.2.2.2.2.2.1 3 (by decide)]
  have V14 : vlr r14 m = vlr r m := by rw [← V8]; funext q; unfold vlr; rw [rG14 3 0 (by omega)]
  have L2 : lgr r2 = lgr r1 := by unfold lgr; rw [rB2, rN2]
  have bX : ∀ j, bt X j = (bt C1.1 j || bt C15.1 j || (decide (x4 = 16384) && decide (j = 14))) := by
    intro j; rw [← hX, b_or, b_or, b_x4 w2 j]
  have LF : lgr r15 = lg_fold (vlr r m) m (bt X) 16 0 (lgr r) := by
    rw [show (16 : Nat) = 6 + (8 + (1 + 1)) from rfl, lg_app, lg_app, lg_app]
    have k1 : lg_fold (vlr r m) m (bt X) 6 0 (lgr r) = lgr r2 := by
      rw [L2, a7]
      apply lg_cong
      intro j j1 j2
      rw [bX j, d4 j (by omega), b4 j (by omega), b_0, decide_eq_false (show ¬ j = 14 by omega)]
      simp
    rw [k1]
    have k2 : lg_fold (vlr r m) m (bt X) 8 (0 + 6) (lgr r2) = lgr r8 := by
      rw [b3, V2]
      apply lg_cong
      intro j j1 j2
      rw [bX j, a9 j (by omega), d4 j (by omega), decide_eq_false (show ¬ j = 14 by omega)]
      simp
    rw [k2]
    have k3 : lg_fold (vlr r m) m (bt X) 1 (0 + 6 + 8) (lgr r8) = lgr r14 := by
      show lg_fold (vlr r m) m (bt X) 1 14 (lgr r8) = lgr r14
      rw [w3, V8]
      simp only [lg_fold]
      rw [bX 14, a9 14 (by omega), d4 14 (by omega), b5 14 (by omega)]
      simp
    rw [k3]
    show _ = lg_fold (vlr r m) m (bt X) 1 15 (lgr r14)
    rw [d3, V14]
    apply lg_cong
    intro j j1 j2
    obtain rfl : j = 15 := by omega
    rw [bX 15, a9 15 (by omega)]
    simp
  -- the records
  obtain ⟨z1, z2, z3⟩ := write_loop (gn := gn) hm (b := bt X) (vl := vlr r m) 16 0 (gm_sG c4 5 m ((c4.2.1 5 m) ||| gn)) (lgr r) rfl
    (fun j => by
      have e : (gm_sG c4 5 m ((c4.2.1 5 m) ||| gn)).2.1 6 2 = c.2.1 6 2 := by
        simp only [gm_sG]; simp; exact cFG 6 2 (by omega) (by omega) (by omega)
      rw [e, ← ht]; rfl)
    (by show lg_R (c4.2.2.1 1) (c4.2.2.1 0) c4.2.2.2 (lgr r); rw [cFN]; exact hL)
    (fun j j1 j2 => by
      rw [← hg, b_not X _ (by omega), f0, ← mb j j2]; rfl)
  rw [← LF] at z1
  generalize lp_G_write m gn 16 0 (gm_sG c4 5 m ((c4.2.1 5 m) ||| gn)) = cW at z1 z2 z3 ⊢
  have wB : ∀ j x, cW.1 j x = c4.1 j x := fun j x => by rw [z2]; rfl
  have wG : ∀ j x, (j ≠ 5 ∨ x ≠ m) → cW.2.1 j x = c4.2.1 j x := fun j x h => by
    rw [z3]; simp only [gm_sG]; rcases h with h | h <;> simp [h]
  have w5 : cW.2.1 5 m = (c4.2.1 5 m) ||| gn := by rw [z3]; simp [gm_sG]
  refine ⟨⟨?_, ?_, ?_, ?_, z1⟩, ?_, ?_⟩
  · intro m' s' hm' hs'
    rw [wB, wB, wG 0 _ (by omega), cB4 0 _ (by omega), cB4 1 _ (by omega), cG4 0 _ (by omega)]
    exact S15 m' s' hm' hs'
  · intro m' hm'
    have hadF : ∀ i, r15.1 4 i = (r.1 4 i || decide (16 * m + 0 ≤ i) && decide (i < 16 * m + 0 + 16) && bt X (i - 16 * m)) := by
      intro i
      have := lg_had (vl := vlr r m) (m := m) (b := bt X) 16 0 (lgr r) i
      rw [← LF] at this
      exact this
    by_cases em : m' = m
    · subst em
      refine ⟨?_, ⟨?_, ?_, ?_⟩, ?_, ?_, ?_, ?_, ?_⟩
      · rw [wB, cFB 2 _ (by omega) (by omega) (by omega), rFB 0 _ (by omega) (by omega)]; exact m0
      · rw [wB, d1.2.2.2.2.1 5 (by decide)]; exact w1.1
      · rw [wG (1 + m') 14 (by omega), d1.2.2.2.2.2.1 1 (by decide)]; exact w1.2.1
      · intro h
        rw [wG (1 + m') 14 (by omega)]
        exact w1.2.2 (by rw [← wB]; exact h)
      · intro h
        rw [wB, cFB 2 _ (by omega) (by omega) (by omega), hw] at h
        cases h
      · intro k k1 k2 k3
        rw [wG (1 + m') k (by omega), cG4 (1 + m') k (Or.inr k3)]
        exact d2 k k1 k2 k3
      · intro _
        refine gl_V1_cong v1 ?_ ?_ ?_ ?_
        · rw [wB, cB4 4 _ (by omega), d1.1, b1.1]
        · rw [wG 3 _ (by omega), cG4 3 _ (by omega), d1.2.1 3 (by omega), b1.2.1 3 (by omega)]
        · rw [wG 4 _ (by omega), cG4 4 _ (by omega), d1.2.1 4 (by omega), b1.2.1 4 (by omega)]
        · intro j hj
          rw [d1.2.2.2.2.2.1 2 (by decide), rG14 2 _ (by omega), b1.2.2.2.2.2.1 2 (by decide)]
      · intro k hk
        rw [hadF, w5, b_or, ← hg, b_not X _ (by omega), f0, mb k hk, decide_eq_true (show 16 * m' + 0 ≤ 16 * m' + k by omega), decide_eq_true (show 16 * m' + k < 16 * m' + 0 + 16 by omega), show 16 * m' + k - 16 * m' = k by omega]
        cases bt (c.2.1 5 m') k <;> cases bt X k <;> rfl
      · intro k hk
        rw [w5, b_or, f0, mb2 k hk]
        rcases Nat.lt_or_ge k 32 with h | h
        · rw [← hg, b_not X _ h, bX k, a9 k (by omega), d5 k (by omega), decide_eq_false (show ¬ k = 14 by omega)]
          simp
        · rw [b_big h]; rfl
    · refine gl_M_cong (hMM m' hm') ?_ ?_ ?_ ?_ ?_ ?_ ?_ ?_ ?_ ?_ ?_ ?_ ?_
      · rw [wB]; exact cFB 2 m' (by omega) (by omega) (by omega)
      · rw [wB]; exact cFB 3 m' (by omega) (by omega) (by omega)
      · rw [wB]; exact cFB 4 m' (by omega) (by omega) (by omega)
      · intro k hk
        rw [wG (1 + m') k (by omega)]; exact cFG (1 + m') k (by omega) (by omega) (by omega)
      · rw [wG 3 m' (by omega)]; exact cFG 3 m' (by omega) (by omega) (by omega)
      · rw [wG 4 m' (by omega)]; exact cFG 4 m' (by omega) (by omega) (by omega)
      · rw [wG 5 m' (by omega)]; exact cFG 5 m' (by omega) (by omega) (by omega)
      · exact rFB 0 m' (by omega) (by omega)
      · exact rFB 5 m' (by omega) (by omega)
      · intro k hk
        rw [hadF]
        have : (decide (16 * m + 0 ≤ 16 * m' + k) && decide (16 * m' + k < 16 * m + 0 + 16)) = false := by
          rcases (by omega : 16 * m' + k < 16 * m ∨ 16 * m + 16 ≤ 16 * m' + k) with h | h
          · rw [decide_eq_false (by omega)]; rfl
          · rw [decide_eq_false (show ¬ 16 * m' + k < 16 * m + 0 + 16 by omega), Bool.and_false]
        rw [this]; simp
      · intro k hk; exact rF0 _ (by omega)
      · exact rFG 1 m' (by decide) (by decide) (by omega)
      · intro j hj; exact rF2 _ (by omega)
  · rw [wB, cFB 5 0 (by omega) (by omega) (by omega), rFB 6 0 (by omega) (by omega)]; exact hd
  · rw [wG 6 2 (by omega), cFG 6 2 (by omega) (by omega) (by omega), rFG 3 0 (by decide) (by decide) (by omega)]; exact ht
  · rw [rFG 3 1 (by decide) (by decide) (by omega)]; exact hch
  · rw [wB, cFB 5 0 (by omega) (by omega) (by omega)]; exact hdw
