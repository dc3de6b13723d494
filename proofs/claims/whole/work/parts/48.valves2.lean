def nxS (u : gm_St) (m : Nat) (wn : Int32) : Int32 := nxC (u.2.1 3 m) wn (u.1 4 m) (if (u.2.1 4 m) ≤ 0 then false else true)
def gsS (u : gm_St) (m : Nat) (wn : Int32) : Int32 := if ((nxS u m wn) &&& (30 : Int32)) = 0 then (if ((u.2.1 4 m) - (1 : Int32)) < (0 : Int32) then (0 : Int32) else ((u.2.1 4 m) - (1 : Int32))) else (10 : Int32)
theorem sw_eq (u : gm_St) (m : Nat) (wn : Int32) : s_M_switchValves u m wn = gm_sG (gm_sG (gm_sB u 4 m (if ((u.2.1 3 m) &&& (1 : Int32)) = 0 then false else true)) 3 m (nxS u m wn)) 4 m (gsS u m wn) := rfl
theorem shift_at (m : Nat) : ∀ (k : Nat) (u : gm_St) (x : Nat), (lp_R_shift m k u).2.1 2 x = if 11 * m < x ∧ x ≤ 11 * m + k then u.2.1 2 (x - 1) else u.2.1 2 x := by
  intro k
  induction k with
  | zero => intro u x; rw [if_neg (by omega)]; rfl
  | succ k ih =>
    intro u x
    simp only [lp_R_shift]
    rw [ih]
    by_cases h : 11 * m < x ∧ x ≤ 11 * m + k
    · rw [if_pos h, if_pos (by omega)]
      have e : ¬ x - 1 = 11 * m + (k + 1) := by omega
      simp [gm_sG, e]
    · rw [if_neg h]
      by_cases e : x = 11 * m + (k + 1)
      · subst e
        rw [if_pos (by omega)]
        simp [gm_sG]
      · rw [if_neg (by omega)]
        simp [gm_sG, e]
theorem shift_B (m : Nat) : ∀ (k : Nat) (u : gm_St), (lp_R_shift m k u).1 = u.1 ∧ (lp_R_shift m k u).2.2 = u.2.2 ∧ ∀ j, j ≠ 2 → (lp_R_shift m k u).2.1 j = u.2.1 j := by
  intro k
  induction k with
  | zero => intro u; exact ⟨rfl, rfl, fun _ _ => rfl⟩
  | succ k ih =>
    intro u
    simp only [lp_R_shift]
    obtain ⟨h1, h2, h3⟩ := ih (gm_sG u 2 (11 * m + (k + 1)) (u.2.1 2 (11 * m + k)))
    refine ⟨h1, h2, fun j hj => (h3 j hj).trans ?_⟩
    funext x
    simp [gm_sG, hj]
/-- valves of program and reference, module m (it works) -/
def gl_V1 (m : Nat) (c r : gm_St) : Prop := (∃ v, v < 32 ∧ c.2.1 3 m = nI v ∧ r.2.1 2 (11 * m) = nI v) ∧ c.1 4 m = bt (r.2.1 2 (11 * m + 1)) 0 ∧ ∃ g, g ≤ 10 ∧ c.2.1 4 m = nI g ∧ (∀ j, j < 10 → g + j < 10 → mv (r.2.1 2 (11 * m + j)) = false) ∧ (0 < g → mv (r.2.1 2 (11 * m + (10 - g))) = true)
def r2S (r : gm_St) (m : Nat) : gm_St := gm_sG (lp_R_shift m 10 r) 2 (11 * m) (v_R_valvesNow r m)
theorem r2_0 (r : gm_St) (m : Nat) : (r2S r m).2.1 2 (11 * m) = v_R_valvesNow r m := by simp [r2S, gm_sG]
theorem r2_s (r : gm_St) (m : Nat) {j : Nat} (hj : j < 10) : (r2S r m).2.1 2 (11 * m + (j + 1)) = r.2.1 2 (11 * m + j) := by
  unfold r2S
  have e : ¬ 11 * m + (j + 1) = 11 * m := by omega
  simp only [gm_sG, if_true, if_neg e]
  rw [shift_at, if_pos (by omega)]
  rfl
theorem nI_bv {x : Int32} (h : x.toBitVec.toNat < 32) : ∃ v, v < 32 ∧ x = nI v := by
  refine ⟨x.toBitVec.toNat, h, ?_⟩
  apply Int32.toBitVec_inj.1
  show x.toBitVec = BitVec.ofNat 32 x.toBitVec.toNat
  simp
theorem mv_30 : ∀ v : Fin 32, (((nI v.val) &&& (30 : Int32)) = 0 ↔ mv (nI v.val) = false) ∧ (if ((nI v.val) &&& (1 : Int32)) = 0 then false else true) = bt (nI v.val) 0 := by decide +kernel
theorem mvs_eq {m g : Nat} {r : gm_St} (hg : g ≤ 10) (h1 : ∀ j, j < 10 → g + j < 10 → mv (r.2.1 2 (11 * m + j)) = false) (h2 : 0 < g → mv (r.2.1 2 (11 * m + (10 - g))) = true) : mvs r m = (if (nI g) ≤ 0 then false else true) := by
  by_cases h : g = 0
  · subst h
    rw [if_pos (by decide)]
    cases hb : mvs r m
    · rfl
    · obtain ⟨j, _, j2, j3⟩ := (anyb_iff _ 10 0).mp hb
      rw [h1 j (by omega) (by omega)] at j3
      cases j3
  · rw [if_neg (nI_nle (by omega) (by omega))]
    exact (anyb_iff _ 10 0).mpr ⟨10 - g, by omega, by omega, h2 (by omega)⟩
theorem now_eq {c r : gm_St} {m : Nat} {dw : Bool} (hm : m < 2) (hS : gl_S c r) (hd : r.1 6 0 = dw) (hV : gl_V1 m c r) : v_R_valvesNow r m = nxS c m (v_M_wantedValves c m dw) ∧ (nxS c m (v_M_wantedValves c m dw)).toBitVec.toNat < 32 := by
  obtain ⟨⟨v, hv, e1, e2⟩, e3, g, hg, e4, h1, h2⟩ := hV
  have s0 := (hS m 0 hm (by decide)).1
  have s1 := (hS m 1 hm (by decide)).1
  have s2 := (hS m 2 hm (by decide)).1
  have s3 := (hS m 3 hm (by decide)).1
  have eR : v_R_right r m = rt dw (c.1 0 (6 * m + 0)) (c.1 0 (6 * m + 1)) := by
    rw [← s0, ← s1, ← hd]; rfl
  have eW : ∀ vn, v_R_wanted r m vn = wRf (rt dw (c.1 0 (6 * m + 0)) (c.1 0 (6 * m + 1))) (c.1 0 (6 * m + 3)) (c.1 0 (6 * m + 2)) dw vn := by
    intro vn
    unfold v_R_wanted wRf
    rw [eR, s2, s3, hd]
  have eC : v_M_wantedValves c m dw = wC (rt dw (c.1 0 (6 * m + 0)) (c.1 0 (6 * m + 1))) (c.1 0 (6 * m + 3)) (c.1 0 (6 * m + 2)) dw := rfl
  have hf := nx_fin ⟨v, hv⟩ (c.1 4 m) (mvs r m) (rt dw (c.1 0 (6 * m + 0)) (c.1 0 (6 * m + 1))) (c.1 0 (6 * m + 3)) (c.1 0 (6 * m + 2)) dw
  simp only [] at hf
  unfold nxS
  rw [eC, e1, e4, ← mvs_eq hg h1 h2]
  refine ⟨?_, hf.2⟩
  rw [hf.1]
  unfold v_R_valvesNow
  rw [vN_x, vN_g, eW, eW, eW, eW, e2, ← e3]
  rfl
theorem valves_step {c r : gm_St} {m : Nat} {dw : Bool} (hm : m < 2) (hS : gl_S c r) (hd : r.1 6 0 = dw) (hV : gl_V1 m c r) : gl_V1 m (s_M_switchValves c m (v_M_wantedValves c m dw)) (r2S r m) := by
  obtain ⟨hn, hn2⟩ := now_eq hm hS hd hV
  obtain ⟨⟨v, hv, e1, e2⟩, e3, g, hg, e4, h1, h2⟩ := hV
  obtain ⟨w, hw, ew⟩ := nI_bv hn2
  rw [sw_eq]
  generalize v_M_wantedValves c m dw = wn at hn hn2 ew ⊢
  have q30 := mv_30 ⟨w, hw⟩
  have qv := mv_30 ⟨v, hv⟩
  simp only [] at q30 qv
  refine ⟨⟨w, hw, ?_, ?_⟩, ?_, ?_⟩
  · simp [gm_sG, ew]
  · rw [r2_0, hn, ew]
  · rw [r2_s r m (j := 0) (by decide), Nat.add_zero, e2, ← qv.2, ← e1]
    simp [gm_sG, gm_sB]
  · have eg : (gm_sG (gm_sG (gm_sB c 4 m (if ((c.2.1 3 m) &&& (1 : Int32)) = 0 then false else true)) 3 m (nxS c m wn)) 4 m (gsS c m wn)).2.1 4 m = gsS c m wn := by simp [gm_sG]
    rw [eg]
    unfold gsS
    rw [ew, e4]
    by_cases hmv : mv (nI w) = false
    · rw [if_pos (q30.1.mpr hmv)]
      refine ⟨g - 1, by omega, ?_, ?_, ?_⟩
      · by_cases h0 : g = 0
        · subst h0; decide
        · obtain ⟨g', rfl⟩ : ∃ g', g = g' + 1 := ⟨g - 1, by omega⟩
          rw [nI_pred, if_neg (nI_pos (by omega))]; rfl
      · intro j hj hgj
        cases j with
        | zero => rw [Nat.add_zero, r2_0, hn, ew]; exact hmv
        | succ j => rw [r2_s r m (by omega)]; exact h1 j (by omega) (by omega)
      · intro h0
        have e10 : 10 - (g - 1) = (10 - g) + 1 := by omega
        rw [e10, r2_s r m (by omega)]
        exact h2 (by omega)
    · rw [if_neg (fun q => hmv (q30.1.mp q))]
      refine ⟨10, by omega, rfl, fun j hj hgj => by omega, fun _ => ?_⟩
      show mv ((r2S r m).2.1 2 (11 * m + 0)) = true
      rw [Nat.add_zero, r2_0, hn, ew]
      cases hb : mv (nI w)
      · exact absurd hb hmv
      · rfl
