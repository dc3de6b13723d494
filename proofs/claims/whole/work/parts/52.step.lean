def gl_M (m : Nat) (c r : gm_St) : Prop := r.1 0 m = (!c.1 2 m) ∧ gl_T m c r ∧ (c.1 2 m = false → c.1 3 m = false ∧ c.2.1 (1 + m) 14 = 0 ∧ c.2.1 3 m = 0) ∧ gl_H m c r ∧ (c.1 2 m = true → gl_V1 m c r) ∧ (∀ k, k < 16 → r.1 4 (16 * m + k) = bt (c.2.1 5 m) k) ∧ (∀ k, 16 ≤ k → bt (c.2.1 5 m) k = false)
/-- program and reference: the same picture -/
def gl_R (c r : gm_St) : Prop := gl_S c r ∧ (∀ m, m < 2 → gl_M m c r) ∧ r.1 6 0 = c.1 5 0 ∧ r.2.1 3 0 = c.2.1 6 2 ∧ lg_R (c.2.2.1 1) (c.2.2.1 0) c.2.2.2 (lgr r)
theorem gl_V1_cong {m : Nat} {c r c' r' : gm_St} (h : gl_V1 m c r) (b4 : c'.1 4 m = c.1 4 m) (g3 : c'.2.1 3 m = c.2.1 3 m) (g4 : c'.2.1 4 m = c.2.1 4 m) (q2 : ∀ j, j ≤ 10 → r'.2.1 2 (11 * m + j) = r.2.1 2 (11 * m + j)) : gl_V1 m c' r' := by
  obtain ⟨⟨v, hv, e1, e2⟩, e3, g, hg, e4, h1, h2⟩ := h
  have q0 := q2 0 (by omega)
  rw [Nat.add_zero] at q0
  exact ⟨⟨v, hv, g3.trans e1, q0.trans e2⟩, by rw [b4, q2 1 (by omega)]; exact e3, g, hg, g4.trans e4, fun j hj hg2 => by rw [q2 j (by omega)]; exact h1 j hj hg2, fun h0 => by rw [q2 (10 - g) (by omega)]; exact h2 h0⟩
theorem gl_M_cong {m : Nat} {c r c' r' : gm_St} (h : gl_M m c r) (b2 : c'.1 2 m = c.1 2 m) (b3 : c'.1 3 m = c.1 3 m) (b4 : c'.1 4 m = c.1 4 m) (g1 : ∀ k, k < 16 → c'.2.1 (1 + m) k = c.2.1 (1 + m) k) (g3 : c'.2.1 3 m = c.2.1 3 m) (g4 : c'.2.1 4 m = c.2.1 4 m) (g5 : c'.2.1 5 m = c.2.1 5 m) (r0 : r'.1 0 m = r.1 0 m) (r5 : r'.1 5 m = r.1 5 m) (rh : ∀ k, k < 16 → r'.1 4 (16 * m + k) = r.1 4 (16 * m + k)) (q0 : ∀ k, k < 16 → r'.2.1 0 (16 * m + k) = r.2.1 0 (16 * m + k)) (q1 : r'.2.1 1 m = r.2.1 1 m) (q2 : ∀ j, j ≤ 10 → r'.2.1 2 (11 * m + j) = r.2.1 2 (11 * m + j)) : gl_M m c' r' := by
  obtain ⟨h0, ⟨t1, t2, t3⟩, hf, hH, hV, hb, hb2⟩ := h
  refine ⟨by rw [r0, b2]; exact h0, ⟨by rw [r5, b3]; exact t1, by rw [q1, g1 14 (by omega)]; exact t2, fun h => by rw [g1 14 (by omega)]; exact t3 (by rw [← b3]; exact h)⟩, fun h => ?_, fun k k1 k2 k3 => by rw [q0 k k2, g1 k k2]; exact hH k k1 k2 k3, fun h => gl_V1_cong (hV (by rw [← b2]; exact h)) b4 g3 g4 q2, fun k hk => by rw [rh k hk, g5]; exact hb k hk, fun k hk => by rw [g5]; exact hb2 k hk⟩
  rw [b3, g1 14 (by omega), g3]
  exact hf (by rw [← b2]; exact h)
theorem wc_app (m : Nat) : ∀ (k1 k2 i : Nat) (x : Int32) (c : gm_St), lp_M_watchC m (k1 + k2) i x c = lp_M_watchC m k2 (i + k1) (lp_M_watchC m k1 i x c).1 (lp_M_watchC m k1 i x c).2 := by
  intro k1
  induction k1 with
  | zero => intro k2 i x c; rw [Nat.zero_add]; rfl
  | succ k ih =>
    intro k2 i x c
    rw [Nat.succ_add]
    simp only [lp_M_watchC]
    rw [ih, show i + 1 + k = i + (k + 1) by omega]
theorem wc_split (m : Nat) (c : gm_St) : lp_M_watchC m 10 6 0 c = lp_M_watchC m 1 15 (lp_M_watchC m 8 6 0 c).1 (lp_M_watchC m 8 6 0 c).2 := by
  rw [show (10 : Nat) = 8 + 2 from rfl, wc_app m 8 2 6 0 c]
  generalize lp_M_watchC m 8 6 0 c = C
  show lp_M_watchC m (1 + 1) 14 C.1 C.2 = _
  rw [wc_app m 1 1 14 C.1 C.2]
  have e : lp_M_watchC m 1 14 C.1 C.2 = (C.1, C.2) := by
    simp only [lp_M_watchC]
    rw [if_pos (show (nI 14) = (14 : Int32) from rfl), if_pos (show (nI 14) = (14 : Int32) from rfl)]
  rw [e]
theorem wr_app (m : Nat) : ∀ (k1 k2 i : Nat) (r : gm_St), lp_R_watch m (k1 + k2) i r = lp_R_watch m k2 (i + k1) (lp_R_watch m k1 i r) := by
  intro k1
  induction k1 with
  | zero => intro k2 i r; rw [Nat.zero_add]; rfl
  | succ k ih =>
    intro k2 i r
    rw [Nat.succ_add]
    simp only [lp_R_watch]
    rw [ih, show i + 1 + k = i + (k + 1) by omega]
theorem wr_split (m : Nat) (r : gm_St) : lp_R_watch m 10 6 r = lp_R_watch m 1 15 (bd_R_watch m 14 (lp_R_watch m 8 6 r)) := by
  rw [show (10 : Nat) = 8 + 2 from rfl, wr_app m 8 2 6 r]
  generalize lp_R_watch m 8 6 r = R
  show lp_R_watch m (1 + 1) 14 R = _
  rw [wr_app m 1 1 14 R]
  have e : lp_R_watch m 1 14 R = bd_R_watch m 14 R := by simp only [lp_R_watch]
  rw [e]
theorem sw_B {u : gm_St} {m j x : Nat} {wn : Int32} (h : j ≠ 4 ∨ x ≠ m) : (s_M_switchValves u m wn).1 j x = u.1 j x := by
  rw [sw_eq]; simp only [gm_sG, gm_sB]; rcases h with h | h <;> simp [h]
theorem sw_G {u : gm_St} {m j x : Nat} {wn : Int32} (h : (j ≠ 3 ∧ j ≠ 4) ∨ x ≠ m) : (s_M_switchValves u m wn).2.1 j x = u.2.1 j x := by
  rw [sw_eq]; simp only [gm_sG, gm_sB]; rcases h with ⟨h, h'⟩ | h
  · simp [h, h']
  · simp [h]
theorem r2_G {r : gm_St} {m j : Nat} (h : j ≠ 2) : (r2S r m).2.1 j = r.2.1 j := by
  have e := (shift_B m 10 r).2.2 j h
  funext x
  unfold r2S
  simp only [gm_sG, if_neg h]
  rw [e]
theorem r2_o {r : gm_St} {m x : Nat} (h : x < 11 * m ∨ 11 * m + 11 ≤ x) : (r2S r m).2.1 2 x = r.2.1 2 x := by
  unfold r2S
  have e : ¬ x = 11 * m := by omega
  simp only [gm_sG, if_true, if_neg e]
  rw [shift_at, if_neg (by omega)]
theorem b_16384 : ∀ i, i < 32 → bt (16384 : Int32) i = decide (i = 14) := by decide +kernel
theorem b_x4 {x : Int32} (h : x = 0 ∨ x = 16384) (j : Nat) : bt x j = (decide (x = 16384) && decide (j = 14)) := by
  rcases h with rfl | rfl
  · rw [b_0]; rfl
  · rw [decide_eq_true rfl, Bool.true_and]
    rcases Nat.lt_or_ge j 32 with h | h
    · exact b_16384 j h
    · rw [b_big h, decide_eq_false (by omega)]
theorem b_not (x f : Int32) {j : Nat} (hj : j < 32) : bt (x &&& (f ^^^ (-1 : Int32))) j = (bt x j && !bt f j) := by
  rw [b_and, b_xor, b_m1 j hj, Bool.xor_true]
