theorem rec_val : ∀ m : Fin 2, (nI m.val * (16 : Int32)).toInt64 = (16 : Int64) * (nI m.val).toInt64 := by decide +kernel
/-- the program writes its records as the log goes -/
theorem write_loop {m : Nat} {gn : Int32} (hm : m < 2) {b : Nat → Bool} {vl : Nat → Int64} : ∀ (k i : Nat) (u : gm_St) (g : lg_T), i + k = 16 → (∀ j, vl j = (((u.2.1 6 2).toInt64 * (32 : Int64)) + ((16 : Int64) * (nI m).toInt64)) + (nI j).toInt64) → lg_R (u.2.2.1 1) (u.2.2.1 0) u.2.2.2 g → (∀ j, i ≤ j → j < 16 → bt gn j = (b j && !g.1 (16 * m + j))) →
    lg_R ((lp_G_write m gn k i u).2.2.1 1) ((lp_G_write m gn k i u).2.2.1 0) (lp_G_write m gn k i u).2.2.2 (lg_fold vl m b k i g) ∧ (lp_G_write m gn k i u).1 = u.1 ∧ (lp_G_write m gn k i u).2.1 = u.2.1 := by
  intro k
  induction k with
  | zero => intro i u g _ _ hR _; exact ⟨hR, rfl, rfl⟩
  | succ k ih =>
    intro i u g hk hvl hR hb
    simp only [lp_G_write, lg_fold]
    have hbi := hb i (Nat.le_refl _) (by omega)
    by_cases hc : ((gn >>> ((nI i) &&& 31)) &&& (1 : Int32)) = (1 : Int32)
    · have hgi := (b_one1 gn (show i < 32 by omega)).mp hc
      rw [hgi] at hbi
      have hbt : b i = true := by cases h : b i <;> simp_all
      have hgf : g.1 (16 * m + i) = false := by cases h : g.1 (16 * m + i) <;> simp_all
      rw [if_pos hc, if_pos hbt]
      have hput := lg_R_put (vl := vl) (m := m) (k := i) hR hgf
      have ev : ((((u.2.1 6 2).toInt64 * (32 : Int64)) + ((nI m) * (16 : Int32)).toInt64) + (nI i).toInt64) = vl i := by
        rw [hvl i, ← rec_val ⟨m, hm⟩]
      refine ih (i + 1) _ (lg_put vl m i g) (by omega) hvl ?_ ?_
      · simp only [gm_sN, gm_sL]
        simp only [Nat.reduceEqDiff, if_true, if_false, Nat.zero_ne_one, Nat.one_ne_zero]
        rw [ev]
        exact hput
      · intro j j1 j2
        rw [hb j (by omega) j2]
        have e : (lg_put vl m i g).1 (16 * m + j) = g.1 (16 * m + j) := by
          unfold lg_put
          split
          · rfl
          · simp only []
            rw [if_neg (by omega)]
        rw [e]
    · have hgi : bt gn i = false := by
        cases h : bt gn i
        · rfl
        · exact absurd ((b_one1 gn (show i < 32 by omega)).mpr h) hc
      rw [hgi] at hbi
      rw [if_neg hc]
      by_cases hbt : b i = true
      · have hgt : g.1 (16 * m + i) = true := by cases h : g.1 (16 * m + i) <;> simp_all
        have e : lg_put vl m i g = g := by unfold lg_put; rw [if_pos hgt]
        rw [if_pos hbt, e]
        exact ih (i + 1) u g (by omega) hvl hR (fun j j1 j2 => hb j (by omega) j2)
      · rw [if_neg hbt]
        exact ih (i + 1) u g (by omega) hvl hR (fun j j1 j2 => hb j (by omega) j2)
