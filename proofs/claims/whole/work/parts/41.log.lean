-- the log of a module's anomalies: which it had, the records, how many were written
abbrev lg_T : Type := (Nat → Bool) × (Nat → Int64) × Nat
def lg_put (vl : Nat → Int64) (m k : Nat) (g : lg_T) : lg_T := if g.1 (16 * m + k) = true then g else ((fun i => if i = 16 * m + k then true else g.1 i), (fun i => if i = g.2.2 % 16 then vl k else g.2.1 i), g.2.2 + 1)
def lg_fold (vl : Nat → Int64) (m : Nat) (b : Nat → Bool) : Nat → Nat → lg_T → lg_T
  | 0, _, g => g
  | n + 1, k, g => lg_fold vl m b n (k + 1) (if b k = true then lg_put vl m k g else g)
theorem lg_app (vl : Nat → Int64) (m : Nat) (b : Nat → Bool) : ∀ (n1 n2 k : Nat) (g : lg_T), lg_fold vl m b (n1 + n2) k g = lg_fold vl m b n2 (k + n1) (lg_fold vl m b n1 k g) := by
  intro n1
  induction n1 with
  | zero => intro n2 k g; simp only [Nat.zero_add, Nat.add_zero, lg_fold]
  | succ n ih =>
    intro n2 k g
    rw [Nat.succ_add]
    simp only [lg_fold]
    rw [ih, show k + 1 + n = k + (n + 1) by omega]
/-- the fold looks at the flags in its range alone -/
theorem lg_cong {vl : Nat → Int64} {m : Nat} {b d : Nat → Bool} : ∀ (n k : Nat) (g : lg_T), (∀ j, k ≤ j → j < k + n → b j = d j) → lg_fold vl m b n k g = lg_fold vl m d n k g := by
  intro n
  induction n with
  | zero => intro k g _; rfl
  | succ n ih =>
    intro k g h
    simp only [lg_fold]
    rw [h k (Nat.le_refl _) (by omega), ih (k + 1) _ (fun j h1 h2 => h j (by omega) (by omega))]
/-- ring against ring: newest, how many are kept, the records -/
def lg_R (nw kp : Nat) (rc : Nat → Int64) (g : lg_T) : Prop := nw = g.2.2 % 16 ∧ kp = min g.2.2 16 ∧ ∀ i, i < 16 → rc ((i + 1) % 16) = g.2.1 i
theorem lg_R_put {nw kp m k : Nat} {rc vl : Nat → Int64} {g : lg_T} (h : lg_R nw kp rc g) (hn : g.1 (16 * m + k) = false) : lg_R ((nw + 1) % 16) (min (kp + 1) 16) (fun i => if i = (nw + 1) % 16 then vl k else rc i) (lg_put vl m k g) := by
  obtain ⟨h1, h2, h3⟩ := h
  unfold lg_put
  rw [if_neg (by rw [hn]; decide)]
  refine ⟨by simp only []; omega, by simp only []; omega, fun i hi => ?_⟩
  simp only []
  by_cases e : i = g.2.2 % 16
  · rw [if_pos e, if_pos (by omega)]
  · rw [if_neg e, if_neg (by omega)]
    exact h3 i hi
/-- which the module had behind the fold -/
theorem lg_had {vl : Nat → Int64} {m : Nat} {b : Nat → Bool} : ∀ (n k : Nat) (g : lg_T) (i : Nat), (lg_fold vl m b n k g).1 i = (g.1 i || decide (16 * m + k ≤ i) && decide (i < 16 * m + k + n) && b (i - 16 * m)) := by
  intro n
  induction n with
  | zero =>
    intro k g i
    have : (decide (16 * m + k ≤ i) && decide (i < 16 * m + k + 0)) = false := by
      by_cases h : 16 * m + k ≤ i
      · simp [h] <;> omega
      · simp [h]
    rw [this]; simp [lg_fold]
  | succ n ih =>
    intro k g i
    simp only [lg_fold]
    rw [ih]
    by_cases e : i = 16 * m + k
    · subst e
      have e1 : 16 * m + k - 16 * m = k := by omega
      rw [e1]
      cases hb : b k
      · simp
      · simp only [if_true, lg_put]
        by_cases hg : g.1 (16 * m + k) = true
        · simp [hg]
        · simp [hg]
    · have e2 : (if b k = true then lg_put vl m k g else g).1 i = g.1 i := by
        by_cases hb : b k = true
        · rw [if_pos hb]; unfold lg_put
          by_cases hg : g.1 (16 * m + k) = true
          · rw [if_pos hg]
          · rw [if_neg hg]; simp only []; rw [if_neg e]
        · rw [if_neg hb]
      rw [e2]
      have e3 : decide (16 * m + (k + 1) ≤ i) = decide (16 * m + k ≤ i) := by
        apply decide_eq_decide.mpr; omega
      have e4 : decide (i < 16 * m + (k + 1) + n) = decide (i < 16 * m + k + (n + 1)) := by
        apply decide_eq_decide.mpr; omega
      rw [e3, e4]
theorem lg_cnt {vl : Nat → Int64} {m : Nat} {b : Nat → Bool} : ∀ (n k : Nat) (g : lg_T), g.2.2 ≤ (lg_fold vl m b n k g).2.2 ∧ (lg_fold vl m b n k g).2.2 ≤ g.2.2 + n := by
  intro n
  induction n with
  | zero => intro k g; exact ⟨Nat.le_refl _, Nat.le_refl _⟩
  | succ n ih =>
    intro k g
    simp only [lg_fold]
    have h := ih (k + 1) (if b k = true then lg_put vl m k g else g)
    have h2 : g.2.2 ≤ (if b k = true then lg_put vl m k g else g).2.2 ∧ (if b k = true then lg_put vl m k g else g).2.2 ≤ g.2.2 + 1 := by
      by_cases hb : b k = true
      · rw [if_pos hb]; unfold lg_put
        by_cases hg : g.1 (16 * m + k) = true
        · rw [if_pos hg]; omega
        · rw [if_neg hg]; simp only []; omega
      · rw [if_neg hb]; omega
    omega
