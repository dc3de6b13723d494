def addb (z : Int32) (n : Nat) (b : Bool) : Int32 := if b = true then z + ((1 : Int32) <<< ((nI n) &&& 31)) else z
theorem addb_bits {z : Int32} {n : Nat} {b : Bool} (hn : n < 32) (hz : bt z n = false) (j : Nat) : bt (addb z n b) j = (bt z j || (b && decide (j = n))) := by
  unfold addb
  cases b
  · rw [if_neg (by decide)]; simp
  · rw [if_pos rfl, i_add_or (fun q hq => by
      rw [b_bit hn hq]
      by_cases e : q = n
      · subst e; rw [hz]; rfl
      · rw [decide_eq_false e, Bool.and_false]), b_or]
    rcases Nat.lt_or_ge j 32 with h | h
    · rw [b_bit hn h, Bool.true_and]
    · rw [b_big h, b_big h, decide_eq_false (show ¬ j = n by omega)]; rfl
theorem sOn_bits {c : gm_St} {m : Nat} : ∀ (k i : Nat) (x : Int32), i + k ≤ 6 → ∀ j, bt (lp_M_sensorsOn c m k i x) j = (bt x j || (decide (i ≤ j ∧ j < i + k) && c.1 0 (6 * m + j))) := by
  intro k
  induction k with
  | zero => intro i x _ j; rw [decide_eq_false (by omega), Bool.false_and, Bool.or_false]; rfl
  | succ k ih =>
    intro i x hk j
    simp only [lp_M_sensorsOn]
    rw [ih (i + 1) _ (by omega) j, b_or]
    have e : bt (if (c.1 0 (6 * m + i)) = true then ((1 : Int32) <<< ((nI i) &&& 31)) else (0 : Int32)) j = (decide (j = i) && c.1 0 (6 * m + j)) := by
      by_cases hb : c.1 0 (6 * m + i) = true
      · rw [if_pos hb]
        rcases Nat.lt_or_ge j 32 with h | h
        · rw [b_bit (by omega) h]
          by_cases q : j = i
          · subst q; rw [hb]; simp
          · rw [decide_eq_false q]; rfl
        · rw [b_big h, decide_eq_false (show ¬ j = i by omega)]; rfl
      · rw [if_neg hb, b_0]
        by_cases q : j = i
        · subst q; cases h : c.1 0 (6 * m + j) <;> simp_all
        · rw [decide_eq_false q]; rfl
    rw [e]
    by_cases q : j = i
    · subst q
      rw [decide_eq_false (show ¬ (j + 1 ≤ j ∧ j < j + 1 + k) by omega), decide_eq_true (show j ≤ j ∧ j < j + (k + 1) by omega)]
      simp
    · rw [decide_eq_false q, (show decide (i + 1 ≤ j ∧ j < i + 1 + k) = decide (i ≤ j ∧ j < i + (k + 1)) from decide_eq_decide.mpr (by omega))]
      simp
theorem sBr_bits {c : gm_St} {m : Nat} : ∀ (k i : Nat) (x : Int32), i + k ≤ 6 → ∀ j, bt (lp_M_sensorsBroken c m k i x) j = (bt x j || (decide (i ≤ j ∧ j < i + k) && c.1 1 (6 * m + j))) := by
  intro k
  induction k with
  | zero => intro i x _ j; rw [decide_eq_false (by omega), Bool.false_and, Bool.or_false]; rfl
  | succ k ih =>
    intro i x hk j
    simp only [lp_M_sensorsBroken]
    rw [ih (i + 1) _ (by omega) j, b_or]
    have e : bt (if (c.1 1 (6 * m + i)) = true then ((1 : Int32) <<< ((nI i) &&& 31)) else (0 : Int32)) j = (decide (j = i) && c.1 1 (6 * m + j)) := by
      by_cases hb : c.1 1 (6 * m + i) = true
      · rw [if_pos hb]
        rcases Nat.lt_or_ge j 32 with h | h
        · rw [b_bit (by omega) h]
          by_cases q : j = i
          · subst q; rw [hb]; simp
          · rw [decide_eq_false q]; rfl
        · rw [b_big h, decide_eq_false (show ¬ j = i by omega)]; rfl
      · rw [if_neg hb, b_0]
        by_cases q : j = i
        · subst q; cases h : c.1 1 (6 * m + j) <;> simp_all
        · rw [decide_eq_false q]; rfl
    rw [e]
    by_cases q : j = i
    · subst q
      rw [decide_eq_false (show ¬ (j + 1 ≤ j ∧ j < j + 1 + k) by omega), decide_eq_true (show j ≤ j ∧ j < j + (k + 1) by omega)]
      simp
    · rw [decide_eq_false q, (show decide (i + 1 ≤ j ∧ j < i + 1 + k) = decide (i ≤ j ∧ j < i + (k + 1)) from decide_eq_decide.mpr (by omega))]
      simp
theorem word_loop {r : gm_St} {m : Nat} {bs : Nat → Bool} (hbs : ∀ j, 15 ≤ j → bs j = false) : ∀ (k i : Nat) (z : Int32), i + k = 6 → (∀ j, bt z j = (bs j || (decide (15 ≤ j ∧ j < 15 + i) && r.1 2 (6 * m + (j - 15))) || (decide (21 ≤ j ∧ j < 21 + i) && r.1 3 (6 * m + (j - 21))))) →
    ∀ j, bt (lp_R_word r m k i z) j = (bs j || (decide (15 ≤ j ∧ j < 21) && r.1 2 (6 * m + (j - 15))) || (decide (21 ≤ j ∧ j < 27) && r.1 3 (6 * m + (j - 21)))) := by
  intro k
  induction k with
  | zero => intro i z hk hz j; obtain rfl : i = 6 := by omega
            exact hz j
  | succ k ih =>
    intro i z hk hz j
    simp only [lp_R_word]
    have e15 : (15 : Int32) + nI i = nI (15 + i) := nI_add 15 i
    have e21 : (21 : Int32) + nI i = nI (21 + i) := nI_add 21 i
    rw [e15, e21]
    show bt (lp_R_word r m k (i + 1) (addb (addb z (15 + i) (r.1 2 (6 * m + i))) (21 + i) (r.1 3 (6 * m + i)))) j = _
    apply ih (i + 1) _ (by omega)
    intro t
    have z15 : bt z (15 + i) = false := by
      rw [hz, hbs _ (by omega), decide_eq_false (by omega), decide_eq_false (by omega)]; rfl
    have z21 : bt z (21 + i) = false := by
      rw [hz, hbs _ (by omega), decide_eq_false (by omega), decide_eq_false (by omega)]; rfl
    have y21 : bt (addb z (15 + i) (r.1 2 (6 * m + i))) (21 + i) = false := by
      rw [addb_bits (by omega) z15, z21, decide_eq_false (show ¬ 21 + i = 15 + i by omega), Bool.and_false]; rfl
    rw [addb_bits (by omega) y21, addb_bits (by omega) z15, hz t]
    by_cases q1 : t = 15 + i
    · subst q1
      rw [hbs _ (by omega), decide_eq_false (show ¬ (15 ≤ 15 + i ∧ 15 + i < 15 + i) by omega), decide_eq_false (show ¬ (21 ≤ 15 + i ∧ 15 + i < 21 + i) by omega), decide_eq_true (show 15 + i = 15 + i from rfl), decide_eq_false (show ¬ 15 + i = 21 + i by omega), decide_eq_true (show 15 ≤ 15 + i ∧ 15 + i < 15 + (i + 1) by omega), decide_eq_false (show ¬ (21 ≤ 15 + i ∧ 15 + i < 21 + (i + 1)) by omega), show 15 + i - 15 = i by omega]
      simp
    · by_cases q2 : t = 21 + i
      · subst q2
        rw [hbs _ (by omega), decide_eq_false (show ¬ (15 ≤ 21 + i ∧ 21 + i < 15 + i) by omega), decide_eq_false (show ¬ (21 ≤ 21 + i ∧ 21 + i < 21 + i) by omega), decide_eq_true (show 21 + i = 21 + i from rfl), decide_eq_false (show ¬ 21 + i = 15 + i by omega), decide_eq_false (show ¬ (15 ≤ 21 + i ∧ 21 + i < 15 + (i + 1)) by omega), decide_eq_true (show 21 ≤ 21 + i ∧ 21 + i < 21 + (i + 1) by omega), show 21 + i - 21 = i by omega]
        simp
      · rw [decide_eq_false q1, decide_eq_false q2, (show decide (15 ≤ t ∧ t < 15 + (i + 1)) = decide (15 ≤ t ∧ t < 15 + i) from decide_eq_decide.mpr (by omega)), (show decide (21 ≤ t ∧ t < 21 + (i + 1)) = decide (21 ≤ t ∧ t < 21 + i) from decide_eq_decide.mpr (by omega))]
        simp
theorem bt_nI {n j k : Nat} (h : n < 2 ^ k) (hk : k ≤ j) : bt (nI n) j = false := by
  show (BitVec.ofNat 32 n).getLsbD j = false
  rw [BitVec.getLsbD_ofNat, Nat.testBit_lt_two_pow (Nat.lt_of_lt_of_le h (Nat.pow_le_pow_right (by decide) hk)), Bool.and_false]
theorem md_bits : ∀ m : Fin 2, ∀ i : Fin 32, bt (((nI m.val) + (1 : Int32)) <<< ((8 : Int32) &&& 31)) i.val = decide (i.val = 8 + m.val) := by decide +kernel
theorem st_bits : ∀ (w f : Bool) (i : Fin 32), bt ((if w = true then (if f = true then (3 : Int32) else (1 : Int32)) else (0 : Int32)) <<< ((29 : Int32) &&& 31)) i.val = (w && (decide (i.val = 29) || (f && decide (i.val = 30)))) := by decide +kernel
theorem op_word {c r : gm_St} (x y : Int32) (hR : gl_R c r) : v_G_word c x y = v_R_word r x y := by
  unfold v_G_word v_R_word
  rw [isM_eq]
  by_cases h : v_R_isModule y = true
  · rw [if_pos h, if_pos h]
    by_cases h0 : x < 0
    · rw [if_pos h0, if_pos h0]
    · rw [if_neg h0, if_neg h0]
      have e : x < (256 : Int32) ↔ x ≤ (255 : Int32) := lt_le x 255 (by decide)
      by_cases h6 : x < (256 : Int32)
      · rw [if_pos h6, if_pos (e.mp h6)]
        have ha := op_anom y hR
        obtain ⟨m, hm, rfl⟩ := gr_isME h
        obtain ⟨L, hL, rfl⟩ := gm_ixE (lo := 0) (n := 256) h0 h6 (by decide) (by decide)
        have ga : v_R_anomalies r (nI m) = c.2.1 5 m := by
          rw [← ha]; unfold v_G_anomalies
          rw [isM_eq, if_pos h, nI_clamp (by omega)]
        rw [nI_clamp (by omega), ga, vOf_eq hm hR, (hR.2.1 m hm).1]
        obtain ⟨v, hv, ev⟩ := v32 hm hR
        have key : (((((nI L ||| ((nI m + (1 : Int32)) <<< ((8 : Int32) &&& 31))) ||| ((c.2.1 3 m) <<< ((10 : Int32) &&& 31))) ||| ((v_M_sensorsOn c m) <<< ((15 : Int32) &&& 31))) ||| ((v_M_sensorsBroken c m) <<< ((21 : Int32) &&& 31))) ||| ((v_M_status c m) <<< ((29 : Int32) &&& 31))) = ((lp_R_word r m 6 0 ((nI L + ((nI m + (1 : Int32)) <<< ((8 : Int32) &&& 31))) + ((c.2.1 3 m) <<< ((10 : Int32) &&& 31)))) + ((if (!c.1 2 m) = true then (0 : Int32) else (if (c.2.1 5 m) = 0 then (3 : Int32) else (1 : Int32))) <<< ((29 : Int32) &&& 31))) := by
          have eS : v_M_status c m = (if c.1 2 m = true then (if (decide (c.2.1 5 m = 0)) = true then (3 : Int32) else (1 : Int32)) else (0 : Int32)) := by
            unfold v_M_status; simp only [decide_eq_true_eq]
          have eS2 : (if (!c.1 2 m) = true then (0 : Int32) else (if (c.2.1 5 m) = 0 then (3 : Int32) else (1 : Int32))) = v_M_status c m := by
            unfold v_M_status; cases c.1 2 m <;> rfl
          rw [eS2]
          have bL : ∀ j, 8 ≤ j → bt (nI L) j = false := fun j hj => bt_nI (k := 8) (by omega) hj
          have bA : ∀ j, bt ((nI m + (1 : Int32)) <<< ((8 : Int32) &&& 31)) j = decide (j = 8 + m) := fun j => by
            rcases Nat.lt_or_ge j 32 with q | q
            · exact md_bits ⟨m, hm⟩ ⟨j, q⟩
            · rw [b_big q, decide_eq_false (by omega)]
          have bV : ∀ j, bt ((c.2.1 3 m) <<< ((10 : Int32) &&& 31)) j = (decide (10 ≤ j ∧ j < 15) && bt (nI v) (j - 10)) := fun j => by
            rw [ev]
            rcases Nat.lt_or_ge j 32 with q | q
            · rw [show (10 : Int32) = nI 10 from rfl, b_shl 10 (by decide) _ q]
              by_cases q2 : j < 15
              · rw [(show decide (10 ≤ j ∧ j < 15) = decide (10 ≤ j) from decide_eq_decide.mpr (by omega))]
              · rw [decide_eq_false (show ¬ (10 ≤ j ∧ j < 15) by omega), bt_nI (k := 5) (by omega) (show 5 ≤ j - 10 by omega), Bool.and_false]; rfl
            · rw [b_big q, decide_eq_false (by omega)]; rfl
          have bT : ∀ j, bt ((v_M_status c m) <<< ((29 : Int32) &&& 31)) j = (c.1 2 m && (decide (j = 29) || (decide (c.2.1 5 m = 0) && decide (j = 30)))) := fun j => by
            rw [eS]
            rcases Nat.lt_or_ge j 32 with q | q
            · exact st_bits (c.1 2 m) (decide (c.2.1 5 m = 0)) ⟨j, q⟩
            · rw [b_big q, decide_eq_false (show ¬ j = 29 by omega), decide_eq_false (show ¬ j = 30 by omega)]; simp
          have z1 : nI L + ((nI m + (1 : Int32)) <<< ((8 : Int32) &&& 31)) = nI L ||| ((nI m + (1 : Int32)) <<< ((8 : Int32) &&& 31)) := i_add_or (fun j hj => by
            rw [bA]
            by_cases q : j = 8 + m
            · rw [bL j (by omega)]; rfl
            · rw [decide_eq_false q, Bool.and_false])
          have z2 : (nI L ||| ((nI m + (1 : Int32)) <<< ((8 : Int32) &&& 31))) + ((c.2.1 3 m) <<< ((10 : Int32) &&& 31)) = (nI L ||| ((nI m + (1 : Int32)) <<< ((8 : Int32) &&& 31))) ||| ((c.2.1 3 m) <<< ((10 : Int32) &&& 31)) := i_add_or (fun j hj => by
            rw [bV, b_or, bA]
            by_cases q : 10 ≤ j ∧ j < 15
            · rw [bL j (by omega), decide_eq_false (show ¬ j = 8 + m by omega)]; rfl
            · rw [decide_eq_false q]; simp)
          rw [z1, z2]
          generalize hZ : (nI L ||| ((nI m + (1 : Int32)) <<< ((8 : Int32) &&& 31))) ||| ((c.2.1 3 m) <<< ((10 : Int32) &&& 31)) = Z0
          have bZ : ∀ j, 15 ≤ j → bt Z0 j = false := fun j hj => by
            rw [← hZ, b_or, b_or, bL j (by omega), bA, bV, decide_eq_false (show ¬ j = 8 + m by omega), decide_eq_false (show ¬ (10 ≤ j ∧ j < 15) by omega)]; rfl
          have bW := word_loop (r := r) (m := m) (bs := bt Z0) bZ 6 0 Z0 rfl (fun j => by rw [decide_eq_false (show ¬ (15 ≤ j ∧ j < 15 + 0) by omega), decide_eq_false (show ¬ (21 ≤ j ∧ j < 21 + 0) by omega)]; simp)
          have z3 : lp_R_word r m 6 0 Z0 + ((v_M_status c m) <<< ((29 : Int32) &&& 31)) = lp_R_word r m 6 0 Z0 ||| ((v_M_status c m) <<< ((29 : Int32) &&& 31)) := i_add_or (fun j hj => by
            rw [bW, bT]
            by_cases q : 29 ≤ j
            · rw [bZ j (by omega), decide_eq_false (show ¬ (15 ≤ j ∧ j < 21) by omega), decide_eq_false (show ¬ (21 ≤ j ∧ j < 27) by omega)]; rfl
            · rw [decide_eq_false (show ¬ j = 29 by omega), decide_eq_false (show ¬ j = 30 by omega)]; simp)
          rw [z3]
          apply b_ext
          intro j hj
          rw [b_or, b_or, b_or, b_or, bW, show (15 : Int32) = nI 15 from rfl, b_shl 15 (by decide) _ hj, show (21 : Int32) = nI 21 from rfl, b_shl 21 (by decide) _ hj]
          unfold v_M_sensorsOn v_M_sensorsBroken
          rw [sOn_bits 6 0 0 (by omega), sBr_bits 6 0 0 (by omega), b_0, b_0]
          congr 1
          by_cases q1 : 15 ≤ j ∧ j < 21
          · have s := (hR.1 m (j - 15) hm (by omega)).1
            rw [decide_eq_true q1, s, decide_eq_true (show 15 ≤ j by omega), decide_eq_true (show 0 ≤ j - 15 ∧ j - 15 < 0 + 6 by omega), decide_eq_false (show ¬ (21 ≤ j ∧ j < 27) by omega), decide_eq_false (show ¬ 21 ≤ j by omega)]
            simp
          · rw [decide_eq_false q1]
            by_cases q2 : 21 ≤ j ∧ j < 27
            · have s := (hR.1 m (j - 21) hm (by omega)).2.1
              rw [decide_eq_true q2, s, decide_eq_true (show 21 ≤ j by omega), decide_eq_true (show 0 ≤ j - 21 ∧ j - 21 < 0 + 6 by omega), decide_eq_false (show ¬ (0 ≤ j - 15 ∧ j - 15 < 0 + 6) by omega)]
              simp
            · rw [decide_eq_false q2]
              by_cases q3 : 27 ≤ j
              · rw [decide_eq_false (show ¬ (0 ≤ j - 15 ∧ j - 15 < 0 + 6) by omega), decide_eq_false (show ¬ (0 ≤ j - 21 ∧ j - 21 < 0 + 6) by omega)]
                simp
              · rw [decide_eq_false (show ¬ 15 ≤ j by omega), decide_eq_false (show ¬ 21 ≤ j by omega)]
                simp
        rw [key]
        generalize ((lp_R_word r m 6 0 ((nI L + ((nI m + (1 : Int32)) <<< ((8 : Int32) &&& 31))) + ((c.2.1 3 m) <<< ((10 : Int32) &&& 31)))) + ((if (!c.1 2 m) = true then (0 : Int32) else (if (c.2.1 5 m) = 0 then (3 : Int32) else (1 : Int32))) <<< ((29 : Int32) &&& 31))) = Z
        rw [(par_eq Z).1]
        simp only [decide_eq_true_eq]
      · rw [if_neg h6, if_neg (fun q => h6 (e.mpr q))]
  · rw [if_neg h, if_neg h]
