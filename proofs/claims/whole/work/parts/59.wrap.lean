section WRP
variable {c r : gm_St}
theorem opx_fail (x : Int32) (hR : gl_R c r) : v_G_fail c x = v_R_fail r x ∧ gl_R (s_G_fail c x) (s_R_fail r x) ∧ (s_R_fail r x).2.2.1 = r.2.2.1 := by
  unfold v_G_fail v_R_fail s_G_fail s_R_fail
  rw [isM_eq]
  by_cases h : v_R_isModule x = true
  · obtain ⟨m, hm, rfl⟩ := gr_isME h
    simp only [if_pos h]
    rw [nI_clamp (by omega)]
    obtain ⟨h1, h2⟩ := op_fail hm hR
    refine ⟨?_, ?_, ?_⟩
    · rw [h1]; split <;> rfl
    · have e : (if v_M_stop c m = true then s_M_stop c m else s_M_stop c m) = s_M_stop c m := by split <;> rfl
      rw [e]; exact h2
    · split <;> rfl
  · simp only [if_neg h]; exact ⟨trivial, hR, trivial⟩
theorem opx_replace (x : Int32) (hR : gl_R c r) : v_G_replace c x = v_R_replace r x ∧ gl_R (s_G_replace c x) (s_R_replace r x) ∧ (s_R_replace r x).2.2.1 = r.2.2.1 := by
  unfold v_G_replace v_R_replace s_G_replace s_R_replace
  rw [isM_eq]
  by_cases h : v_R_isModule x = true
  · obtain ⟨m, hm, rfl⟩ := gr_isME h
    simp only [if_pos h]
    rw [nI_clamp (by omega)]
    exact ⟨trivial, op_replace hm hR, by have := rpS_N r m; unfold rpS at this; rw [this]⟩
  · simp only [if_neg h]; exact ⟨trivial, hR, trivial⟩
theorem op_time (hR : gl_R c r) : v_G_time c = v_R_time r := hR.2.2.2.1.symm
theorem ok_of (hR : gl_R c r) : gm_ok c := by
  obtain ⟨l1, l2, _⟩ := hR.2.2.2.2
  exact ⟨by rw [l1]; exact Nat.mod_lt _ (by decide), by rw [l2]; exact Nat.min_le_right _ _⟩
end WRP
def gm_u0 : gm_St := (fun j _ => decide (j = 2), fun j _ => if j = 0 then 7 else 0, fun _ => 0, fun _ => 0)
def gr_u0 : gm_St := (fun _ _ => false, fun _ _ => 0, fun _ => 0, fun _ => 0)
theorem rel_0 : gl_R gm_u0 gr_u0 := by
  refine ⟨fun m s _ _ => ⟨rfl, rfl, Or.inl ⟨rfl, rfl, rfl, rfl⟩⟩, fun m hm => ⟨rfl, ⟨rfl, ?_, fun h => (by cases h)⟩, fun h => (by cases h), fun k _ _ _ => ?_, fun _ => ⟨⟨0, by decide, rfl, rfl⟩, (b_0 0).symm, 0, by omega, rfl, fun j _ _ => (by show mv (0 : Int32) = false; decide), fun h => absurd h (by omega)⟩, fun k _ => (b_0 k).symm, fun k _ => b_0 k⟩, rfl, rfl, rfl, rfl, fun i _ => rfl⟩
  · show (0 : Int32) = if 1 + m = 0 then 7 else 0
    rw [if_neg (by omega)]
  · show (0 : Int32) = if 1 + m = 0 then 7 else 0
    rw [if_neg (by omega)]
