theorem d_R_step_0 : decode b_R_step 0 = .ok (.iconst 0, 1) := by decide +kernel
theorem d_R_step_1 : decode b_R_step 1 = .ok (.istore_n 2, 1) := by decide +kernel
theorem d_R_step_2 : decode b_R_step 2 = .ok (.iload_n 2, 1) := by decide +kernel
theorem d_R_step_3 : decode b_R_step 3 = .ok (.bipush 6, 2) := by decide +kernel
theorem d_R_step_5 : decode b_R_step 5 = .ok (.if_icmp .ge 15, 3) := by decide +kernel
theorem d_R_step_8 : decode b_R_step 8 = .ok (.aload_n 0, 1) := by decide +kernel
theorem d_R_step_9 : decode b_R_step 9 = .ok (.iload_n 1, 1) := by decide +kernel
theorem d_R_step_10 : decode b_R_step 10 = .ok (.iload_n 2, 1) := by decide +kernel
theorem d_R_step_11 : decode b_R_step 11 = .ok (.invokevirtual 96, 3) := by decide +kernel
theorem d_R_step_14 : decode b_R_step 14 = .ok (.iinc 2 1, 3) := by decide +kernel
theorem d_R_step_17 : decode b_R_step 17 = .ok (.goto (-15), 3) := by decide +kernel
theorem d_R_step_20 : decode b_R_step 20 = .ok (.aload_n 0, 1) := by decide +kernel
theorem d_R_step_21 : decode b_R_step 21 = .ok (.iload_n 1, 1) := by decide +kernel
theorem d_R_step_22 : decode b_R_step 22 = .ok (.invokevirtual 99, 3) := by decide +kernel
theorem d_R_step_25 : decode b_R_step 25 = .ok (.istore_n 2, 1) := by decide +kernel
theorem d_R_step_26 : decode b_R_step 26 = .ok (.bipush 10, 2) := by decide +kernel
theorem d_R_step_28 : decode b_R_step 28 = .ok (.istore_n 3, 1) := by decide +kernel
theorem d_R_step_29 : decode b_R_step 29 = .ok (.iload_n 3, 1) := by decide +kernel
theorem d_R_step_30 : decode b_R_step 30 = .ok (.ifCond .le 33, 3) := by decide +kernel
theorem d_R_step_33 : decode b_R_step 33 = .ok (.aload_n 0, 1) := by decide +kernel
theorem d_R_step_34 : decode b_R_step 34 = .ok (.getfield 35, 3) := by decide +kernel
theorem d_R_step_37 : decode b_R_step 37 = .ok (.bipush 11, 2) := by decide +kernel
theorem d_R_step_39 : decode b_R_step 39 = .ok (.iload_n 1, 1) := by decide +kernel
theorem d_R_step_40 : decode b_R_step 40 = .ok (.imul, 1) := by decide +kernel
theorem d_R_step_41 : decode b_R_step 41 = .ok (.iload_n 3, 1) := by decide +kernel
theorem d_R_step_42 : decode b_R_step 42 = .ok (.iadd, 1) := by decide +kernel
theorem d_R_step_43 : decode b_R_step 43 = .ok (.aload_n 0, 1) := by decide +kernel
theorem d_R_step_44 : decode b_R_step 44 = .ok (.getfield 35, 3) := by decide +kernel
theorem d_R_step_47 : decode b_R_step 47 = .ok (.bipush 11, 2) := by decide +kernel
theorem d_R_step_49 : decode b_R_step 49 = .ok (.iload_n 1, 1) := by decide +kernel
theorem d_R_step_50 : decode b_R_step 50 = .ok (.imul, 1) := by decide +kernel
theorem d_R_step_51 : decode b_R_step 51 = .ok (.iload_n 3, 1) := by decide +kernel
theorem d_R_step_52 : decode b_R_step 52 = .ok (.iadd, 1) := by decide +kernel
theorem d_R_step_53 : decode b_R_step 53 = .ok (.iconst 1, 1) := by decide +kernel
theorem d_R_step_54 : decode b_R_step 54 = .ok (.isub, 1) := by decide +kernel
theorem d_R_step_55 : decode b_R_step 55 = .ok (.iaload, 1) := by decide +kernel
theorem d_R_step_56 : decode b_R_step 56 = .ok (.iastore, 1) := by decide +kernel
theorem d_R_step_57 : decode b_R_step 57 = .ok (.iinc 3 (-1), 3) := by decide +kernel
theorem d_R_step_60 : decode b_R_step 60 = .ok (.goto (-31), 3) := by decide +kernel
theorem d_R_step_63 : decode b_R_step 63 = .ok (.aload_n 0, 1) := by decide +kernel
theorem d_R_step_64 : decode b_R_step 64 = .ok (.getfield 35, 3) := by decide +kernel
theorem d_R_step_67 : decode b_R_step 67 = .ok (.bipush 11, 2) := by decide +kernel
theorem d_R_step_69 : decode b_R_step 69 = .ok (.iload_n 1, 1) := by decide +kernel
theorem d_R_step_70 : decode b_R_step 70 = .ok (.imul, 1) := by decide +kernel
theorem d_R_step_71 : decode b_R_step 71 = .ok (.iload_n 2, 1) := by decide +kernel
theorem d_R_step_72 : decode b_R_step 72 = .ok (.iastore, 1) := by decide +kernel
theorem d_R_step_73 : decode b_R_step 73 = .ok (.aload_n 0, 1) := by decide +kernel
theorem d_R_step_74 : decode b_R_step 74 = .ok (.iload_n 1, 1) := by decide +kernel
theorem d_R_step_75 : decode b_R_step 75 = .ok (.invokevirtual 102, 3) := by decide +kernel
theorem d_R_step_78 : decode b_R_step 78 = .ok (.return_, 1) := by decide +kernel
def lp_R_step1 (mn : Nat) : Nat → Nat → gm_St → gm_St
  | 0, _, u => u
  | k + 1, i, u => lp_R_step1 mn k (i + 1) (s_R_vote u mn i)
def lp_R_shift (mn : Nat) : Nat → gm_St → gm_St
  | 0, u => u
  | k + 1, u => lp_R_shift mn k (gm_sG u 2 (11 * mn + (k + 1)) (u.2.1 2 (11 * mn + k)))
def s_R_step (u : gm_St) (mn : Nat) : gm_St := (s_R_watch (gm_sG (lp_R_shift mn 10 (lp_R_step1 mn 6 0 u)) 2 (11 * mn) (v_R_valvesNow (lp_R_step1 mn 6 0 u) mn)) mn)
theorem gr_shift_N {mn : Nat} : ∀ (k : Nat) (u : gm_St), (lp_R_shift mn k u).2.2.1 = u.2.2.1 := by
  intro k
  induction k with
  | zero => intro u; rfl
  | succ k ih => intro u; simp only [lp_R_shift]; rw [ih]; rfl
theorem gr_step1_N {mn : Nat} : ∀ (k i : Nat) (u : gm_St), (lp_R_step1 mn k i u).2.2.1 0 ≤ u.2.2.1 0 + k := by
  intro k
  induction k with
  | zero => intro i u; exact Nat.le_refl _
  | succ k ih => intro i u; simp only [lp_R_step1]; have h := ih (i + 1) (s_R_vote u mn i); have h2 := gr_vote_N (mn := mn) (sn := i) (u := u); omega
theorem gr_step_N {mn : Nat} {u : gm_St} : (s_R_step u mn).2.2.1 0 ≤ u.2.2.1 0 + 16 := by
  unfold s_R_step s_R_watch
  refine Nat.le_trans (gr_lpwatch_N 10 6 _) ?_
  show (lp_R_shift mn 10 (lp_R_step1 mn 6 0 u)).2.2.1 0 + 10 ≤ _
  rw [gr_shift_N]
  have hw := gr_step1_N (mn := mn) 6 0 u
  omega
set_option maxRecDepth 100000 in
set_option maxHeartbeats 4000000 in
theorem c_R_step {l : Launch} {D : va_G} {dk : Nat → ClassId} {a : Nat → Nat} {A : Nat → Prop} {lt : Nat} {u : gm_St} {mn : Nat} (h_mn : mn < 2) (hp0 : u.2.2.1 0 + 16 ≤ 1073741824) : gm_V l D (gm_ty dk) (gr_W dk a) A lt y_R_step b_R_step 4 rm_R_step [.ref (a 0), .int (nI mn)] u (s_R_step u mn) := by
  refine gm_enterV (by decide) (Nat.le_of_ble_eq_true rfl) ?_
  intro p e s m args below meth c ls Q H locs hF hM hl hQ
  have hx := hF.1
  have hb := hF.2.1
  have hml := hF.2.2.1
  have hown := hF.2.2.2.1
  have hts := hF.2.2.2.2.1
  have hl : lv_has ls 4 [(0, .ref (a 0)), (1, .int (nI mn))] := hl
  refine lv_iconst (v := 0) hx hb d_R_step_0 (by decide) ?_
  refine lv_istore_n (lv' := [(2, .int (0 : Int32)), (0, .ref (a 0)), (1, .int (nI mn))]) hx hb d_R_step_1 rfl hl (by decide) rfl (fun ls hl => ?_)
  have L1 : ∀ (k1 i1 : Nat) (w1 : gm_St) (ls : Array Slot) (H : Heap) (locs : List Loc), i1 + k1 = 6 → w1.2.2.1 0 + (6 - i1) + 10 ≤ 1073741824 → lv_has ls 4 [(2, .int (nI i1)), (0, .ref (a 0)), (1, .int (nI mn))] → gm_M D A s (gr_W dk a) w1 H locs → (∀ (ls : Array Slot) (H : Heap) (locs : List Loc), lv_has ls 4 [(2, .int (nI 6)), (0, .ref (a 0)), (1, .int (nI mn))] → gm_M D A s (gr_W dk a) (lp_R_step1 mn k1 i1 w1) H locs → W p l e rm_R_step s m args below meth c H locs 0 0 Q (F0 m 20 ls [])) → W p l e rm_R_step s m args below meth c H locs 0 0 Q (F0 m 2 ls []) := by
    intro k1
    induction k1 with
    | zero =>
      intro i1 w1 ls H locs hk1 hI1 hl hM kk
      obtain rfl : i1 = 6 := by omega
      refine lv_iload_n hx hb d_R_step_2 rfl (lv_at hl 0 rfl) ?_
      refine lv_bipush (v := 6) hx hb d_R_step_3 (by decide) ?_
      refine lv_icmp_ge (tgt := 20) hx hb d_R_step_5 rfl (fun _ => ?_) (fun h => absurd (by decide) h)
      exact kk ls H locs hl hM
    | succ k1 ih =>
      intro i1 w1 ls H locs hk1 hI1 hl hM kk
      refine lv_iload_n hx hb d_R_step_2 rfl (lv_at hl 0 rfl) ?_
      refine lv_bipush (v := 6) hx hb d_R_step_3 (by decide) ?_
      refine lv_icmp_ge (tgt := 20) hx hb d_R_step_5 rfl (fun h => absurd h (nI_ge (a := i1) (b := 6) (by omega) (by first | decide | omega))) (fun _ => ?_)
      refine lv_aload_n hx hb d_R_step_8 rfl (lv_at hl 1 rfl) ?_
      refine lv_iload_n hx hb d_R_step_9 rfl (lv_at hl 2 rfl) ?_
      refine lv_iload_n hx hb d_R_step_10 rfl (lv_at hl 0 rfl) ?_
      refine gm_Vv (As := [.int (nI mn), .int (nI i1)]) (rest := []) hF hM (c_R_vote (u := w1) (mn := mn) (sn := i1) (by omega) (by omega) (by omega)) (gk_R_96 hts ⟨by decide, by decide⟩) (gv_R hF hM rfl) rfl hl.1 rfl (Nat.le_of_ble_eq_true rfl) ⟨Nat.zero_le _, Nat.zero_le _⟩ d_R_step_11 (fun H locs hM => ?_)
      refine lv_iinc (k := 0) (v := (nI (i1 + 1))) (lv' := [(2, .int (nI (i1 + 1))), (0, .ref (a 0)), (1, .int (nI mn))]) hx hb d_R_step_14 hl rfl (nI_1 _) (by decide) rfl (fun ls hl => ?_)
      refine lv_goto (tgt := 2) hx hb d_R_step_17 rfl ?_
      have hK := kk
      simp only [lp_R_step1] at hK
      exact ih (i1 + 1) (s_R_vote w1 mn i1) ls H locs (by omega) (by have hw := gr_vote_N (mn := mn) (sn := i1) (u := w1); omega) hl hM hK
  refine L1 6 0 u ls H locs (by omega) (by omega) hl hM (fun ls H locs hl hM => ?_)
  refine lv_aload_n hx hb d_R_step_20 rfl (lv_at hl 1 rfl) ?_
  refine lv_iload_n hx hb d_R_step_21 rfl (lv_at hl 2 rfl) ?_
  refine gm_Vi (As := [.int (nI mn)]) (rest := []) hF hM (c_R_valvesNow (u := (lp_R_step1 mn 6 0 u)) (mn := mn) (by omega)) (gk_R_99 hts ⟨by decide, by decide⟩) (gv_R hF hM rfl) rfl hl.1 rfl (Nat.le_of_ble_eq_true rfl) ⟨Nat.zero_le _, Nat.zero_le _⟩ d_R_step_22 (fun H locs hM => ?_)
  refine lv_istore_n (lv' := [(2, .int (v_R_valvesNow (lp_R_step1 mn 6 0 u) mn)), (0, .ref (a 0)), (1, .int (nI mn))]) hx hb d_R_step_25 rfl hl (by decide) rfl (fun ls hl => ?_)
  refine lv_bipush (v := 10) hx hb d_R_step_26 (by decide) ?_
  refine lv_istore_n (lv' := [(3, .int (10 : Int32)), (2, .int (v_R_valvesNow (lp_R_step1 mn 6 0 u) mn)), (0, .ref (a 0)), (1, .int (nI mn))]) hx hb d_R_step_28 rfl hl (by decide) rfl (fun ls hl => ?_)
  have L2 : ∀ (k2 : Nat) (w2 : gm_St) (ls : Array Slot) (H : Heap) (locs : List Loc), k2 ≤ 10 → lv_has ls 4 [(3, .int (nI k2)), (2, .int (v_R_valvesNow (lp_R_step1 mn 6 0 u) mn)), (0, .ref (a 0)), (1, .int (nI mn))] → gm_M D A s (gr_W dk a) w2 H locs → (∀ (ls : Array Slot) (H : Heap) (locs : List Loc), lv_has ls 4 [(3, .int (nI 0)), (2, .int (v_R_valvesNow (lp_R_step1 mn 6 0 u) mn)), (0, .ref (a 0)), (1, .int (nI mn))] → gm_M D A s (gr_W dk a) (lp_R_shift mn k2 w2) H locs → W p l e rm_R_step s m args below meth c H locs 0 0 Q (F0 m 63 ls [])) → W p l e rm_R_step s m args below meth c H locs 0 0 Q (F0 m 29 ls []) := by
    intro k2
    induction k2 with
    | zero =>
      intro w2 ls H locs hk hl hM kk
      refine lv_iload_n hx hb d_R_step_29 rfl (lv_at hl 0 rfl) ?_
      refine lv_if_le (tgt := 63) hx hb d_R_step_30 rfl (fun _ => ?_) (fun h => absurd (by decide) h)
      exact kk ls H locs hl hM
    | succ k2 ih =>
      intro w2 ls H locs hk hl hM kk
      refine lv_iload_n hx hb d_R_step_29 rfl (lv_at hl 0 rfl) ?_
      refine lv_if_le (tgt := 63) hx hb d_R_step_30 rfl (fun h => absurd h (nI_nle (Nat.succ_pos _) (by omega))) (fun _ => ?_)
      refine lv_aload_n hx hb d_R_step_33 rfl (lv_at hl 2 rfl) ?_
      refine gf_R_35 hF hM d_R_step_34 ?_
      refine lv_bipush (v := 11) hx hb d_R_step_37 (by decide) ?_
      refine lv_iload_n hx hb d_R_step_39 rfl (lv_at hl 3 rfl) ?_
      refine lv_imul hx hb d_R_step_40 ?_
      refine lv_iload_n hx hb d_R_step_41 rfl (lv_at hl 0 rfl) ?_
      refine lv_iadd hx hb d_R_step_42 ?_
      refine lv_aload_n hx hb d_R_step_43 rfl (lv_at hl 2 rfl) ?_
      refine gf_R_35 hF hM d_R_step_44 ?_
      refine lv_bipush (v := 11) hx hb d_R_step_47 (by decide) ?_
      refine lv_iload_n hx hb d_R_step_49 rfl (lv_at hl 3 rfl) ?_
      refine lv_imul hx hb d_R_step_50 ?_
      refine lv_iload_n hx hb d_R_step_51 rfl (lv_at hl 0 rfl) ?_
      refine lv_iadd hx hb d_R_step_52 ?_
      refine lv_iconst (v := 1) hx hb d_R_step_53 (by decide) ?_
      refine lv_isub hx hb d_R_step_54 ?_
      refine gm_tp (y := (nI (11 * mn + k2))) (gr_pred (n := 11 * mn + k2) (show _ = nI (11 * mn + (k2 + 1)) from by first | rfl | (simp only [← nI_add, ← pk_mul] <;> rfl))) ?_
      refine ga_past (k := (11 * mn + k2)) hF hM rfl (by first | omega | exact Nat.mod_lt _ (by decide)) d_R_step_55 ?_
      refine gq_past (k := (11 * mn + (k2 + 1))) hF hM (by first | rfl | (simp only [← nI_add, ← pk_mul] <;> rfl)) (by first | omega | exact Nat.mod_lt _ (by decide)) d_R_step_56 (fun H locs hM => ?_)
      refine lv_iinc (k := 0) (v := (nI k2)) (lv' := [(3, .int (nI k2)), (2, .int (v_R_valvesNow (lp_R_step1 mn 6 0 u) mn)), (0, .ref (a 0)), (1, .int (nI mn))]) hx hb d_R_step_57 hl rfl (pk_m1 _) (by decide) rfl (fun ls hl => ?_)
      refine lv_goto (tgt := 29) hx hb d_R_step_60 rfl ?_
      exact ih (gm_sG w2 2 (11 * mn + (k2 + 1)) (w2.2.1 2 (11 * mn + k2))) ls H locs (by omega) hl hM kk
  refine L2 10 (lp_R_step1 mn 6 0 u) ls H locs (by decide) hl hM (fun ls H locs hl hM => ?_)
  refine lv_aload_n hx hb d_R_step_63 rfl (lv_at hl 2 rfl) ?_
  refine gf_R_35 hF hM d_R_step_64 ?_
  refine lv_bipush (v := 11) hx hb d_R_step_67 (by decide) ?_
  refine lv_iload_n hx hb d_R_step_69 rfl (lv_at hl 3 rfl) ?_
  refine lv_imul hx hb d_R_step_70 ?_
  refine lv_iload_n hx hb d_R_step_71 rfl (lv_at hl 1 rfl) ?_
  refine gq_past (k := (11 * mn)) hF hM (by first | rfl | (simp only [← nI_add, ← pk_mul] <;> rfl)) (by first | omega | exact Nat.mod_lt _ (by decide)) d_R_step_72 (fun H locs hM => ?_)
  refine lv_aload_n hx hb d_R_step_73 rfl (lv_at hl 2 rfl) ?_
  refine lv_iload_n hx hb d_R_step_74 rfl (lv_at hl 3 rfl) ?_
  refine gm_Vv (As := [.int (nI mn)]) (rest := []) hF hM (c_R_watch (u := (gm_sG (lp_R_shift mn 10 (lp_R_step1 mn 6 0 u)) 2 (11 * mn) (v_R_valvesNow (lp_R_step1 mn 6 0 u) mn))) (mn := mn) (by omega) (by show (lp_R_shift mn 10 (lp_R_step1 mn 6 0 u)).2.2.1 0 + 10 ≤ 1073741824; rw [gr_shift_N]; have hw := gr_step1_N (mn := mn) 6 0 u; omega)) (gk_R_102 hts ⟨by decide, by decide⟩) (gv_R hF hM rfl) rfl hl.1 rfl (Nat.le_of_ble_eq_true rfl) ⟨Nat.zero_le _, Nat.zero_le _⟩ d_R_step_75 (fun H locs hM => ?_)
  have hq := hQ H locs 78 ls
  simp only [s_R_step] at hq
  exact hq hM d_R_step_78
theorem d_R_tick_0 : decode b_R_tick 0 = .ok (.iload_n 2, 1) := by decide +kernel
theorem d_R_tick_1 : decode b_R_tick 1 = .ok (.iconst 1, 1) := by decide +kernel
theorem d_R_tick_2 : decode b_R_tick 2 = .ok (.if_icmp .lt 9, 3) := by decide +kernel
theorem d_R_tick_5 : decode b_R_tick 5 = .ok (.iload_n 2, 1) := by decide +kernel
theorem d_R_tick_6 : decode b_R_tick 6 = .ok (.bipush 100, 2) := by decide +kernel
theorem d_R_tick_8 : decode b_R_tick 8 = .ok (.if_icmp .le 5, 3) := by decide +kernel
theorem d_R_tick_11 : decode b_R_tick 11 = .ok (.iconst (-1), 1) := by decide +kernel
theorem d_R_tick_12 : decode b_R_tick 12 = .ok (.ireturn, 1) := by decide +kernel
theorem d_R_tick_13 : decode b_R_tick 13 = .ok (.aload_n 0, 1) := by decide +kernel
theorem d_R_tick_14 : decode b_R_tick 14 = .ok (.iload_n 1, 1) := by decide +kernel
theorem d_R_tick_15 : decode b_R_tick 15 = .ok (.putfield 46, 3) := by decide +kernel
theorem d_R_tick_18 : decode b_R_tick 18 = .ok (.iconst 0, 1) := by decide +kernel
theorem d_R_tick_19 : decode b_R_tick 19 = .ok (.istore_n 3, 1) := by decide +kernel
theorem d_R_tick_20 : decode b_R_tick 20 = .ok (.iload_n 3, 1) := by decide +kernel
theorem d_R_tick_21 : decode b_R_tick 21 = .ok (.iload_n 2, 1) := by decide +kernel
theorem d_R_tick_22 : decode b_R_tick 22 = .ok (.if_icmp .ge 50, 3) := by decide +kernel
theorem d_R_tick_25 : decode b_R_tick 25 = .ok (.aload_n 0, 1) := by decide +kernel
theorem d_R_tick_26 : decode b_R_tick 26 = .ok (.dup, 1) := by decide +kernel
theorem d_R_tick_27 : decode b_R_tick 27 = .ok (.getfield 80, 3) := by decide +kernel
theorem d_R_tick_30 : decode b_R_tick 30 = .ok (.iconst 1, 1) := by decide +kernel
theorem d_R_tick_31 : decode b_R_tick 31 = .ok (.iadd, 1) := by decide +kernel
theorem d_R_tick_32 : decode b_R_tick 32 = .ok (.putfield 80, 3) := by decide +kernel
theorem d_R_tick_35 : decode b_R_tick 35 = .ok (.iconst 0, 1) := by decide +kernel
theorem d_R_tick_36 : decode b_R_tick 36 = .ok (.istore 4, 2) := by decide +kernel
theorem d_R_tick_38 : decode b_R_tick 38 = .ok (.iload 4, 2) := by decide +kernel
theorem d_R_tick_40 : decode b_R_tick 40 = .ok (.iconst 2, 1) := by decide +kernel
theorem d_R_tick_41 : decode b_R_tick 41 = .ok (.if_icmp .ge 25, 3) := by decide +kernel
theorem d_R_tick_44 : decode b_R_tick 44 = .ok (.aload_n 0, 1) := by decide +kernel
theorem d_R_tick_45 : decode b_R_tick 45 = .ok (.getfield 7, 3) := by decide +kernel
theorem d_R_tick_48 : decode b_R_tick 48 = .ok (.iload 4, 2) := by decide +kernel
theorem d_R_tick_50 : decode b_R_tick 50 = .ok (.baload, 1) := by decide +kernel
theorem d_R_tick_51 : decode b_R_tick 51 = .ok (.ifCond .ne 9, 3) := by decide +kernel
theorem d_R_tick_54 : decode b_R_tick 54 = .ok (.aload_n 0, 1) := by decide +kernel
theorem d_R_tick_55 : decode b_R_tick 55 = .ok (.iload 4, 2) := by decide +kernel
theorem d_R_tick_57 : decode b_R_tick 57 = .ok (.invokevirtual 106, 3) := by decide +kernel
theorem d_R_tick_60 : decode b_R_tick 60 = .ok (.iinc 4 1, 3) := by decide +kernel
theorem d_R_tick_63 : decode b_R_tick 63 = .ok (.goto (-25), 3) := by decide +kernel
theorem d_R_tick_66 : decode b_R_tick 66 = .ok (.iinc 3 1, 3) := by decide +kernel
theorem d_R_tick_69 : decode b_R_tick 69 = .ok (.goto (-49), 3) := by decide +kernel
theorem d_R_tick_72 : decode b_R_tick 72 = .ok (.aload_n 0, 1) := by decide +kernel
theorem d_R_tick_73 : decode b_R_tick 73 = .ok (.getfield 80, 3) := by decide +kernel
theorem d_R_tick_76 : decode b_R_tick 76 = .ok (.ireturn, 1) := by decide +kernel
def bd_R_tick2 (i : Nat) (u : gm_St) : gm_St := (if (u.1 0 i) = true then u else (s_R_step u i))
def lp_R_tick2 : Nat → Nat → gm_St → gm_St
  | 0, _, u => u
  | k + 1, i, u => lp_R_tick2 k (i + 1) (bd_R_tick2 i u)
def lp_R_tick : Nat → Nat → gm_St → gm_St
  | 0, _, u => u
  | k + 1, i, u => lp_R_tick k (i + 1) (lp_R_tick2 2 0 (gm_sG u 3 0 ((u.2.1 3 0) + (1 : Int32))))
def v_R_tick (u : gm_St) (ch : Int32) (xn : Int32) : Int32 := (if xn < (1 : Int32) then (-1 : Int32) else (if xn ≤ (100 : Int32) then ((lp_R_tick xn.toNatClampNeg 0 (gm_sG u 3 1 ch)).2.1 3 0) else (-1 : Int32)))
def s_R_tick (u : gm_St) (ch : Int32) (xn : Int32) : gm_St := (if xn < (1 : Int32) then u else (if xn ≤ (100 : Int32) then (lp_R_tick xn.toNatClampNeg 0 (gm_sG u 3 1 ch)) else u))
theorem gr_tick2_N {i : Nat} {u : gm_St} : (bd_R_tick2 i u).2.2.1 0 ≤ u.2.2.1 0 + 16 := by
  unfold bd_R_tick2
  split
  · exact Nat.le_add_right _ _
  · exact gr_step_N
theorem gr_lptick2_N : ∀ (k i : Nat) (u : gm_St), (lp_R_tick2 k i u).2.2.1 0 ≤ u.2.2.1 0 + 16 * k := by
  intro k
  induction k with
  | zero => intro i u; exact Nat.le_refl _
  | succ k ih => intro i u; simp only [lp_R_tick2]; have h := ih (i + 1) (bd_R_tick2 i u); have h2 := gr_tick2_N (i := i) (u := u); omega
theorem gr_lptick2_N2 {u : gm_St} {x : Int32} : (lp_R_tick2 2 0 (gm_sG u 3 0 x)).2.2.1 0 ≤ u.2.2.1 0 + 32 := gr_lptick2_N 2 0 (gm_sG u 3 0 x)
theorem gr_lptick_N : ∀ (k i : Nat) (u : gm_St), (lp_R_tick k i u).2.2.1 0 ≤ u.2.2.1 0 + 32 * k := by
  intro k
  induction k with
  | zero => intro i u; exact Nat.le_refl _
  | succ k ih => intro i u; simp only [lp_R_tick]; have h := ih (i + 1) (lp_R_tick2 2 0 (gm_sG u 3 0 ((u.2.1 3 0) + (1 : Int32)))); have h2 := gr_lptick2_N2 (u := u) (x := ((u.2.1 3 0) + (1 : Int32))); omega
set_option maxRecDepth 100000 in
set_option maxHeartbeats 4000000 in
theorem c_R_tick {l : Launch} {D : va_G} {dk : Nat → ClassId} {a : Nat → Nat} {A : Nat → Prop} {lt : Nat} {u : gm_St} {ch : Int32} {xn : Int32} (hp0 : u.2.2.1 0 + 3200 ≤ 1073741824) : gm_I l D (gm_ty dk) (gr_W dk a) A lt y_R_tick b_R_tick 5 (some .int) rm_R_tick [.ref (a 0), .int ch, .int xn] u (v_R_tick u ch xn) (s_R_tick u ch xn) := by
  refine gm_enterI (by decide) (Nat.le_of_ble_eq_true rfl) ?_
  intro p e s m args below meth c ls Q H locs hF hM hl hQ
  have hx := hF.1
  have hb := hF.2.1
  have hml := hF.2.2.1
  have hown := hF.2.2.2.1
  have hts := hF.2.2.2.2.1
  have hl : lv_has ls 5 [(0, .ref (a 0)), (1, .int ch), (2, .int xn)] := hl
  refine lv_iload_n hx hb d_R_tick_0 rfl (lv_at hl 2 rfl) ?_
  refine lv_iconst (v := 1) hx hb d_R_tick_1 (by decide) ?_
  refine lv_icmp_lt (tgt := 11) hx hb d_R_tick_2 rfl (fun h1 => ?_) (fun h1 => ?_)
  · refine lv_iconst (v := -1) hx hb d_R_tick_11 (by decide) ?_
    have hq := hQ H locs 12 ls
    simp only [v_R_tick, s_R_tick, if_pos h1] at hq
    exact hq hM d_R_tick_12
  · refine lv_iload_n hx hb d_R_tick_5 rfl (lv_at hl 2 rfl) ?_
    refine lv_bipush (v := 100) hx hb d_R_tick_6 (by decide) ?_
    refine lv_icmp_le (tgt := 13) hx hb d_R_tick_8 rfl (fun h2 => ?_) (fun h2 => ?_)
    · obtain ⟨n, hn, rfl⟩ := gm_ixL (lo := 1) (n := 100) h1 h2 (by decide) (by decide)
      refine lv_aload_n hx hb d_R_tick_13 rfl (lv_at hl 0 rfl) ?_
      refine lv_iload_n hx hb d_R_tick_14 rfl (lv_at hl 1 rfl) ?_
      refine gp_R_46 hF hM d_R_tick_15 (fun H locs hM => ?_)
      refine lv_iconst (v := 0) hx hb d_R_tick_18 (by decide) ?_
      refine lv_istore_n (lv' := [(3, .int (0 : Int32)), (0, .ref (a 0)), (1, .int ch), (2, .int (nI n))]) hx hb d_R_tick_19 rfl hl (by decide) rfl (fun ls hl => ?_)
      have L3 : ∀ (k3 i3 : Nat) (w3 : gm_St) (ls : Array Slot) (H : Heap) (locs : List Loc), i3 + k3 = n → w3.2.2.1 0 + 32 * (n - i3) ≤ 1073741824 → lv_has ls 5 [(3, .int (nI i3)), (0, .ref (a 0)), (1, .int ch), (2, .int (nI n))] → gm_M D A s (gr_W dk a) w3 H locs → (∀ (ls : Array Slot) (H : Heap) (locs : List Loc), lv_has ls 5 [(3, .int (nI n)), (0, .ref (a 0)), (1, .int ch), (2, .int (nI n))] → gm_M D A s (gr_W dk a) (lp_R_tick k3 i3 w3) H locs → W p l e rm_R_tick s m args below meth c H locs 0 0 Q (F0 m 72 ls [])) → W p l e rm_R_tick s m args below meth c H locs 0 0 Q (F0 m 20 ls []) := by
        intro k3
        induction k3 with
        | zero =>
          intro i3 w3 ls H locs hk3 hI3 hl hM kk
          have hN : i3 = n := by omega
          refine lv_iload_n hx hb d_R_tick_20 rfl (lv_at hl 0 rfl) ?_
          refine lv_iload_n hx hb d_R_tick_21 rfl (lv_at hl 3 rfl) ?_
          refine lv_icmp_ge (tgt := 72) hx hb d_R_tick_22 rfl (fun _ => ?_) (fun h => absurd (by rw [hN]; exact nI_le (Nat.le_refl _) (by omega)) h)
          exact kk ls H locs (by rw [hN] at hl; exact hl) hM
        | succ k3 ih =>
          intro i3 w3 ls H locs hk3 hI3 hl hM kk
          refine lv_iload_n hx hb d_R_tick_20 rfl (lv_at hl 0 rfl) ?_
          refine lv_iload_n hx hb d_R_tick_21 rfl (lv_at hl 3 rfl) ?_
          refine lv_icmp_ge (tgt := 72) hx hb d_R_tick_22 rfl (fun h => absurd h (nI_ge (a := i3) (b := n) (by omega) (by first | decide | omega))) (fun _ => ?_)
          refine lv_aload_n hx hb d_R_tick_25 rfl (lv_at hl 1 rfl) ?_
          refine lv_dup hx hb d_R_tick_26 rfl ?_
          refine gf_R_80 hF hM d_R_tick_27 ?_
          refine lv_iconst (v := 1) hx hb d_R_tick_30 (by decide) ?_
          refine lv_iadd hx hb d_R_tick_31 ?_
          refine gp_R_80 hF hM d_R_tick_32 (fun H locs hM => ?_)
          refine lv_iconst (v := 0) hx hb d_R_tick_35 (by decide) ?_
          refine lv_istore (lv' := [(4, .int (0 : Int32)), (3, .int (nI i3)), (0, .ref (a 0)), (1, .int ch), (2, .int (nI n))]) hx hb d_R_tick_36 hl (by decide) rfl (fun ls hl => ?_)
          have L4 : ∀ (k4 i4 : Nat) (w4 : gm_St) (ls : Array Slot) (H : Heap) (locs : List Loc), i4 + k4 = 2 → w4.2.2.1 0 + 16 * (2 - i4) + 32 * (n - i3 - 1) ≤ 1073741824 → lv_has ls 5 [(4, .int (nI i4)), (3, .int (nI i3)), (0, .ref (a 0)), (1, .int ch), (2, .int (nI n))] → gm_M D A s (gr_W dk a) w4 H locs → (∀ (ls : Array Slot) (H : Heap) (locs : List Loc), lv_has ls 5 [(4, .int (nI 2)), (3, .int (nI i3)), (0, .ref (a 0)), (1, .int ch), (2, .int (nI n))] → gm_M D A s (gr_W dk a) (lp_R_tick2 k4 i4 w4) H locs → W p l e rm_R_tick s m args below meth c H locs 0 0 Q (F0 m 66 ls [])) → W p l e rm_R_tick s m args below meth c H locs 0 0 Q (F0 m 38 ls []) := by
            intro k4
            induction k4 with
            | zero =>
              intro i4 w4 ls H locs hk4 hI4 hl hM kk
              obtain rfl : i4 = 2 := by omega
              refine lv_iload hx hb d_R_tick_38 (lv_at hl 0 rfl) ?_
              refine lv_iconst (v := 2) hx hb d_R_tick_40 (by decide) ?_
              refine lv_icmp_ge (tgt := 66) hx hb d_R_tick_41 rfl (fun _ => ?_) (fun h => absurd (by decide) h)
              exact kk ls H locs hl hM
            | succ k4 ih =>
              intro i4 w4 ls H locs hk4 hI4 hl hM kk
              refine lv_iload hx hb d_R_tick_38 (lv_at hl 0 rfl) ?_
              refine lv_iconst (v := 2) hx hb d_R_tick_40 (by decide) ?_
              refine lv_icmp_ge (tgt := 66) hx hb d_R_tick_41 rfl (fun h => absurd h (nI_ge (a := i4) (b := 2) (by omega) (by first | decide | omega))) (fun _ => ?_)
              refine lv_aload_n hx hb d_R_tick_44 rfl (lv_at hl 2 rfl) ?_
              refine gf_R_7 hF hM d_R_tick_45 ?_
              refine lv_iload hx hb d_R_tick_48 (lv_at hl 0 rfl) ?_
              refine ga_failed (k := i4) hF hM rfl (by first | omega | exact Nat.mod_lt _ (by decide)) d_R_tick_50 ?_
              have J6 : ∀ (ls : Array Slot) (H : Heap) (locs : List Loc), lv_has ls 5 [(0, .ref (a 0)), (1, .int ch), (2, .int (nI n)), (3, .int (nI i3)), (4, .int (nI i4))] → gm_M D A s (gr_W dk a) (if (w4.1 0 i4) = true then w4 else (s_R_step w4 i4)) H locs → W p l e rm_R_tick s m args below meth c H locs 0 0 Q (F0 m 60 ls []) := by
                intro ls H locs hl hM
                refine lv_iinc (k := 4) (v := (nI (i4 + 1))) (lv' := [(4, .int (nI (i4 + 1))), (0, .ref (a 0)), (1, .int ch), (2, .int (nI n)), (3, .int (nI i3))]) hx hb d_R_tick_60 hl rfl (nI_1 _) (by decide) rfl (fun ls hl => ?_)
                refine lv_goto (tgt := 38) hx hb d_R_tick_63 rfl ?_
                have hK := kk
                simp only [lp_R_tick2, bd_R_tick2] at hK
                exact ih (i4 + 1) (if (w4.1 0 i4) = true then w4 else (s_R_step w4 i4)) ls H locs (by omega) (by have hw := gr_tick2_N (i := i4) (u := w4); simp only [bd_R_tick2] at hw; omega) (lv_sub hl [0, 4, 1, 2, 3] rfl) hM hK
              refine gm_ifn (b := (w4.1 0 i4)) (tgt := 60) hx hb d_R_tick_51 rfl (fun h5 => ?_) (fun h5 => ?_)
              · have hJ := J6
                try simp only [if_pos h5] at hJ
                exact hJ ls H locs (lv_sub hl [2, 3, 4, 1, 0] rfl) hM
              · refine lv_aload_n hx hb d_R_tick_54 rfl (lv_at hl 2 rfl) ?_
                refine lv_iload hx hb d_R_tick_55 (lv_at hl 0 rfl) ?_
                refine gm_Vv (As := [.int (nI i4)]) (rest := []) hF hM (c_R_step (u := w4) (mn := i4) (by omega) (by omega)) (gk_R_106 hts ⟨by decide, by decide⟩) (gv_R hF hM rfl) rfl hl.1 rfl (Nat.le_of_ble_eq_true rfl) ⟨Nat.zero_le _, Nat.zero_le _⟩ d_R_tick_57 (fun H locs hM => ?_)
                have hJ := J6
                try simp only [if_neg (gm_nf h5)] at hJ
                exact hJ ls H locs (lv_sub hl [2, 3, 4, 1, 0] rfl) hM
          refine L4 2 0 (gm_sG w3 3 0 ((w3.2.1 3 0) + (1 : Int32))) ls H locs (by omega) (by show w3.2.2.1 0 + 16 * (2 - 0) + 32 * (n - i3 - 1) ≤ 1073741824; omega) hl hM (fun ls H locs hl hM => ?_)
          refine lv_iinc (k := 1) (v := (nI (i3 + 1))) (lv' := [(3, .int (nI (i3 + 1))), (4, .int (nI 2)), (0, .ref (a 0)), (1, .int ch), (2, .int (nI n))]) hx hb d_R_tick_66 hl rfl (nI_1 _) (by decide) rfl (fun ls hl => ?_)
          refine lv_goto (tgt := 20) hx hb d_R_tick_69 rfl ?_
          have hK := kk
          simp only [lp_R_tick] at hK
          exact ih (i3 + 1) (lp_R_tick2 2 0 (gm_sG w3 3 0 ((w3.2.1 3 0) + (1 : Int32)))) ls H locs (by omega) (by have hw := gr_lptick2_N2 (u := w3) (x := ((w3.2.1 3 0) + (1 : Int32))); omega) (lv_sub hl [0, 2, 3, 4] rfl) hM hK
      refine L3 n 0 (gm_sG u 3 1 ch) ls H locs (by omega) (by show u.2.2.1 0 + 32 * (n - 0) ≤ 1073741824; omega) hl hM (fun ls H locs hl hM => ?_)
      refine lv_aload_n hx hb d_R_tick_72 rfl (lv_at hl 1 rfl) ?_
      refine gf_R_80 hF hM d_R_tick_73 ?_
      have hq := hQ H locs 76 ls
      simp only [v_R_tick, s_R_tick, if_neg h1, if_pos h2, nI_clamp (show n < 2 ^ 31 by omega)] at hq
      exact hq hM d_R_tick_76
    · refine lv_iconst (v := -1) hx hb d_R_tick_11 (by decide) ?_
      have hq := hQ H locs 12 ls
      simp only [v_R_tick, s_R_tick, if_neg h1, if_neg h2] at hq
      exact hq hM d_R_tick_12
theorem d_R_fail_0 : decode b_R_fail 0 = .ok (.iload_n 1, 1) := by decide +kernel
theorem d_R_fail_1 : decode b_R_fail 1 = .ok (.invokestatic 109, 3) := by decide +kernel
theorem d_R_fail_4 : decode b_R_fail 4 = .ok (.ifCond .eq 12, 3) := by decide +kernel
theorem d_R_fail_7 : decode b_R_fail 7 = .ok (.aload_n 0, 1) := by decide +kernel
theorem d_R_fail_8 : decode b_R_fail 8 = .ok (.getfield 7, 3) := by decide +kernel
theorem d_R_fail_11 : decode b_R_fail 11 = .ok (.iload_n 1, 1) := by decide +kernel
theorem d_R_fail_12 : decode b_R_fail 12 = .ok (.baload, 1) := by decide +kernel
theorem d_R_fail_13 : decode b_R_fail 13 = .ok (.ifCond .eq 5, 3) := by decide +kernel
theorem d_R_fail_16 : decode b_R_fail 16 = .ok (.iconst 0, 1) := by decide +kernel
theorem d_R_fail_17 : decode b_R_fail 17 = .ok (.ireturn, 1) := by decide +kernel
theorem d_R_fail_18 : decode b_R_fail 18 = .ok (.aload_n 0, 1) := by decide +kernel
theorem d_R_fail_19 : decode b_R_fail 19 = .ok (.getfield 7, 3) := by decide +kernel
theorem d_R_fail_22 : decode b_R_fail 22 = .ok (.iload_n 1, 1) := by decide +kernel
theorem d_R_fail_23 : decode b_R_fail 23 = .ok (.iconst 1, 1) := by decide +kernel
theorem d_R_fail_24 : decode b_R_fail 24 = .ok (.bastore, 1) := by decide +kernel
theorem d_R_fail_25 : decode b_R_fail 25 = .ok (.aload_n 0, 1) := by decide +kernel
theorem d_R_fail_26 : decode b_R_fail 26 = .ok (.getfield 29, 3) := by decide +kernel
theorem d_R_fail_29 : decode b_R_fail 29 = .ok (.iload_n 1, 1) := by decide +kernel
theorem d_R_fail_30 : decode b_R_fail 30 = .ok (.iconst 0, 1) := by decide +kernel
theorem d_R_fail_31 : decode b_R_fail 31 = .ok (.bastore, 1) := by decide +kernel
theorem d_R_fail_32 : decode b_R_fail 32 = .ok (.aload_n 0, 1) := by decide +kernel
theorem d_R_fail_33 : decode b_R_fail 33 = .ok (.getfield 32, 3) := by decide +kernel
theorem d_R_fail_36 : decode b_R_fail 36 = .ok (.iload_n 1, 1) := by decide +kernel
theorem d_R_fail_37 : decode b_R_fail 37 = .ok (.iconst 0, 1) := by decide +kernel
theorem d_R_fail_38 : decode b_R_fail 38 = .ok (.iastore, 1) := by decide +kernel
theorem d_R_fail_39 : decode b_R_fail 39 = .ok (.iconst 1, 1) := by decide +kernel
theorem d_R_fail_40 : decode b_R_fail 40 = .ok (.ireturn, 1) := by decide +kernel
def v_R_fail (u : gm_St) (x : Int32) : Bool := (if (v_R_isModule x) = true then (if (u.1 0 x.toNatClampNeg) = true then false else true) else false)
def s_R_fail (u : gm_St) (x : Int32) : gm_St := (if (v_R_isModule x) = true then (if (u.1 0 x.toNatClampNeg) = true then u else (gm_sG (gm_sB (gm_sB u 0 x.toNatClampNeg true) 5 x.toNatClampNeg false) 1 x.toNatClampNeg (0 : Int32))) else u)
set_option maxRecDepth 100000 in
set_option maxHeartbeats 4000000 in
theorem c_R_fail {l : Launch} {D : va_G} {dk : Nat → ClassId} {a : Nat → Nat} {A : Nat → Prop} {lt : Nat} {u : gm_St} {x : Int32} : gm_I l D (gm_ty dk) (gr_W dk a) A lt y_R_fail b_R_fail 2 (some .boolean) rm_R_fail [.ref (a 0), .int x] u (gm_b (v_R_fail u x)) (s_R_fail u x) := by
  refine gm_enterZ (by decide) (Nat.le_of_ble_eq_true rfl) ?_
  intro p e s m args below meth c ls Q H locs hF hM hl hQ
  have hx := hF.1
  have hb := hF.2.1
  have hml := hF.2.2.1
  have hown := hF.2.2.2.1
  have hts := hF.2.2.2.2.1
  have hl : lv_has ls 2 [(0, .ref (a 0)), (1, .int x)] := hl
  refine lv_iload_n hx hb d_R_fail_0 rfl (lv_at hl 1 rfl) ?_
  refine gm_Si (As := [.int x]) (rest := []) hF hM (c_R_isModule (u := u) (x := x) ) (gk_R_109 hts ⟨by decide, by decide⟩) rfl hl.1 rfl (Nat.le_of_ble_eq_true rfl) ⟨Nat.zero_le _, Nat.zero_le _⟩ d_R_fail_1 (fun H locs hM => ?_)
  refine gm_ifz (b := (v_R_isModule x)) (tgt := 16) hx hb d_R_fail_4 rfl (fun h1 => ?_) (fun h1 => ?_)
  · refine lv_iconst (v := 0) hx hb d_R_fail_16 (by decide) ?_
    have hq := hQ H locs 17 ls
    simp only [v_R_fail, s_R_fail, if_neg (gm_nf h1)] at hq
    exact hq hM d_R_fail_17
  · have hm_x := (gr_isM h1).1
    have ex_x := (gr_isM h1).2
    refine lv_aload_n hx hb d_R_fail_7 rfl (lv_at hl 0 rfl) ?_
    refine gf_R_7 hF hM d_R_fail_8 ?_
    refine lv_iload_n hx hb d_R_fail_11 rfl (lv_at hl 1 rfl) ?_
    refine ga_failed (k := x.toNatClampNeg) hF hM ex_x (by first | omega | exact Nat.mod_lt _ (by decide)) d_R_fail_12 ?_
    refine gm_ifz (b := (u.1 0 x.toNatClampNeg)) (tgt := 18) hx hb d_R_fail_13 rfl (fun h2 => ?_) (fun h2 => ?_)
    · refine lv_aload_n hx hb d_R_fail_18 rfl (lv_at hl 0 rfl) ?_
      refine gf_R_7 hF hM d_R_fail_19 ?_
      refine lv_iload_n hx hb d_R_fail_22 rfl (lv_at hl 1 rfl) ?_
      refine lv_iconst (v := 1) hx hb d_R_fail_23 (by decide) ?_
      refine gq_failed (k := x.toNatClampNeg) hF hM ex_x (by first | omega | exact Nat.mod_lt _ (by decide)) (v := true) rfl d_R_fail_24 (fun H locs hM => ?_)
      refine lv_aload_n hx hb d_R_fail_25 rfl (lv_at hl 0 rfl) ?_
      refine gf_R_29 hF hM d_R_fail_26 ?_
      refine lv_iload_n hx hb d_R_fail_29 rfl (lv_at hl 1 rfl) ?_
      refine lv_iconst (v := 0) hx hb d_R_fail_30 (by decide) ?_
      refine gq_waits (k := x.toNatClampNeg) hF hM ex_x (by first | omega | exact Nat.mod_lt _ (by decide)) (v := false) rfl d_R_fail_31 (fun H locs hM => ?_)
      refine lv_aload_n hx hb d_R_fail_32 rfl (lv_at hl 0 rfl) ?_
      refine gf_R_32 hF hM d_R_fail_33 ?_
      refine lv_iload_n hx hb d_R_fail_36 rfl (lv_at hl 1 rfl) ?_
      refine lv_iconst (v := 0) hx hb d_R_fail_37 (by decide) ?_
      refine gq_waited (k := x.toNatClampNeg) hF hM ex_x (by first | omega | exact Nat.mod_lt _ (by decide)) d_R_fail_38 (fun H locs hM => ?_)
      refine lv_iconst (v := 1) hx hb d_R_fail_39 (by decide) ?_
      have hq := hQ H locs 40 ls
      simp only [v_R_fail, s_R_fail, if_pos h1, if_neg (gm_nf h2)] at hq
      exact hq hM d_R_fail_40
    · refine lv_iconst (v := 0) hx hb d_R_fail_16 (by decide) ?_
      have hq := hQ H locs 17 ls
      simp only [v_R_fail, s_R_fail, if_pos h1, if_pos h2] at hq
      exact hq hM d_R_fail_17
theorem d_R_replace_0 : decode b_R_replace 0 = .ok (.iload_n 1, 1) := by decide +kernel
theorem d_R_replace_1 : decode b_R_replace 1 = .ok (.invokestatic 109, 3) := by decide +kernel
theorem d_R_replace_4 : decode b_R_replace 4 = .ok (.ifCond .ne 5, 3) := by decide +kernel
theorem d_R_replace_7 : decode b_R_replace 7 = .ok (.iconst 0, 1) := by decide +kernel
theorem d_R_replace_8 : decode b_R_replace 8 = .ok (.ireturn, 1) := by decide +kernel
theorem d_R_replace_9 : decode b_R_replace 9 = .ok (.aload_n 0, 1) := by decide +kernel
theorem d_R_replace_10 : decode b_R_replace 10 = .ok (.getfield 7, 3) := by decide +kernel
theorem d_R_replace_13 : decode b_R_replace 13 = .ok (.iload_n 1, 1) := by decide +kernel
theorem d_R_replace_14 : decode b_R_replace 14 = .ok (.iconst 0, 1) := by decide +kernel
theorem d_R_replace_15 : decode b_R_replace 15 = .ok (.bastore, 1) := by decide +kernel
theorem d_R_replace_16 : decode b_R_replace 16 = .ok (.aload_n 0, 1) := by decide +kernel
theorem d_R_replace_17 : decode b_R_replace 17 = .ok (.getfield 29, 3) := by decide +kernel
theorem d_R_replace_20 : decode b_R_replace 20 = .ok (.iload_n 1, 1) := by decide +kernel
theorem d_R_replace_21 : decode b_R_replace 21 = .ok (.iconst 0, 1) := by decide +kernel
theorem d_R_replace_22 : decode b_R_replace 22 = .ok (.bastore, 1) := by decide +kernel
theorem d_R_replace_23 : decode b_R_replace 23 = .ok (.aload_n 0, 1) := by decide +kernel
theorem d_R_replace_24 : decode b_R_replace 24 = .ok (.getfield 32, 3) := by decide +kernel
theorem d_R_replace_27 : decode b_R_replace 27 = .ok (.iload_n 1, 1) := by decide +kernel
theorem d_R_replace_28 : decode b_R_replace 28 = .ok (.iconst 0, 1) := by decide +kernel
theorem d_R_replace_29 : decode b_R_replace 29 = .ok (.iastore, 1) := by decide +kernel
theorem d_R_replace_30 : decode b_R_replace 30 = .ok (.iconst 0, 1) := by decide +kernel
theorem d_R_replace_31 : decode b_R_replace 31 = .ok (.istore_n 2, 1) := by decide +kernel
theorem d_R_replace_32 : decode b_R_replace 32 = .ok (.iload_n 2, 1) := by decide +kernel
theorem d_R_replace_33 : decode b_R_replace 33 = .ok (.bipush 18, 2) := by decide +kernel
theorem d_R_replace_35 : decode b_R_replace 35 = .ok (.if_icmp .ge 21, 3) := by decide +kernel
theorem d_R_replace_38 : decode b_R_replace 38 = .ok (.aload_n 0, 1) := by decide +kernel
theorem d_R_replace_39 : decode b_R_replace 39 = .ok (.getfield 13, 3) := by decide +kernel
theorem d_R_replace_42 : decode b_R_replace 42 = .ok (.bipush 18, 2) := by decide +kernel
theorem d_R_replace_44 : decode b_R_replace 44 = .ok (.iload_n 1, 1) := by decide +kernel
theorem d_R_replace_45 : decode b_R_replace 45 = .ok (.imul, 1) := by decide +kernel
theorem d_R_replace_46 : decode b_R_replace 46 = .ok (.iload_n 2, 1) := by decide +kernel
theorem d_R_replace_47 : decode b_R_replace 47 = .ok (.iadd, 1) := by decide +kernel
theorem d_R_replace_48 : decode b_R_replace 48 = .ok (.iconst 0, 1) := by decide +kernel
theorem d_R_replace_49 : decode b_R_replace 49 = .ok (.bastore, 1) := by decide +kernel
theorem d_R_replace_50 : decode b_R_replace 50 = .ok (.iinc 2 1, 3) := by decide +kernel
theorem d_R_replace_53 : decode b_R_replace 53 = .ok (.goto (-21), 3) := by decide +kernel
theorem d_R_replace_56 : decode b_R_replace 56 = .ok (.iconst 0, 1) := by decide +kernel
theorem d_R_replace_57 : decode b_R_replace 57 = .ok (.istore_n 2, 1) := by decide +kernel
theorem d_R_replace_58 : decode b_R_replace 58 = .ok (.iload_n 2, 1) := by decide +kernel
theorem d_R_replace_59 : decode b_R_replace 59 = .ok (.bipush 6, 2) := by decide +kernel
theorem d_R_replace_61 : decode b_R_replace 61 = .ok (.if_icmp .ge 33, 3) := by decide +kernel
theorem d_R_replace_64 : decode b_R_replace 64 = .ok (.aload_n 0, 1) := by decide +kernel
theorem d_R_replace_65 : decode b_R_replace 65 = .ok (.getfield 16, 3) := by decide +kernel
theorem d_R_replace_68 : decode b_R_replace 68 = .ok (.bipush 6, 2) := by decide +kernel
theorem d_R_replace_70 : decode b_R_replace 70 = .ok (.iload_n 1, 1) := by decide +kernel
theorem d_R_replace_71 : decode b_R_replace 71 = .ok (.imul, 1) := by decide +kernel
theorem d_R_replace_72 : decode b_R_replace 72 = .ok (.iload_n 2, 1) := by decide +kernel
theorem d_R_replace_73 : decode b_R_replace 73 = .ok (.iadd, 1) := by decide +kernel
theorem d_R_replace_74 : decode b_R_replace 74 = .ok (.iconst 0, 1) := by decide +kernel
theorem d_R_replace_75 : decode b_R_replace 75 = .ok (.bastore, 1) := by decide +kernel
theorem d_R_replace_76 : decode b_R_replace 76 = .ok (.aload_n 0, 1) := by decide +kernel
theorem d_R_replace_77 : decode b_R_replace 77 = .ok (.getfield 19, 3) := by decide +kernel
theorem d_R_replace_80 : decode b_R_replace 80 = .ok (.bipush 6, 2) := by decide +kernel
theorem d_R_replace_82 : decode b_R_replace 82 = .ok (.iload_n 1, 1) := by decide +kernel
theorem d_R_replace_83 : decode b_R_replace 83 = .ok (.imul, 1) := by decide +kernel
theorem d_R_replace_84 : decode b_R_replace 84 = .ok (.iload_n 2, 1) := by decide +kernel
theorem d_R_replace_85 : decode b_R_replace 85 = .ok (.iadd, 1) := by decide +kernel
theorem d_R_replace_86 : decode b_R_replace 86 = .ok (.iconst 0, 1) := by decide +kernel
theorem d_R_replace_87 : decode b_R_replace 87 = .ok (.bastore, 1) := by decide +kernel
theorem d_R_replace_88 : decode b_R_replace 88 = .ok (.iinc 2 1, 3) := by decide +kernel
theorem d_R_replace_91 : decode b_R_replace 91 = .ok (.goto (-33), 3) := by decide +kernel
theorem d_R_replace_94 : decode b_R_replace 94 = .ok (.iconst 0, 1) := by decide +kernel
theorem d_R_replace_95 : decode b_R_replace 95 = .ok (.istore_n 2, 1) := by decide +kernel
theorem d_R_replace_96 : decode b_R_replace 96 = .ok (.iload_n 2, 1) := by decide +kernel
theorem d_R_replace_97 : decode b_R_replace 97 = .ok (.bipush 16, 2) := by decide +kernel
theorem d_R_replace_99 : decode b_R_replace 99 = .ok (.if_icmp .ge 33, 3) := by decide +kernel
theorem d_R_replace_102 : decode b_R_replace 102 = .ok (.aload_n 0, 1) := by decide +kernel
theorem d_R_replace_103 : decode b_R_replace 103 = .ok (.getfield 22, 3) := by decide +kernel
theorem d_R_replace_106 : decode b_R_replace 106 = .ok (.bipush 16, 2) := by decide +kernel
theorem d_R_replace_108 : decode b_R_replace 108 = .ok (.iload_n 1, 1) := by decide +kernel
theorem d_R_replace_109 : decode b_R_replace 109 = .ok (.imul, 1) := by decide +kernel
theorem d_R_replace_110 : decode b_R_replace 110 = .ok (.iload_n 2, 1) := by decide +kernel
theorem d_R_replace_111 : decode b_R_replace 111 = .ok (.iadd, 1) := by decide +kernel
theorem d_R_replace_112 : decode b_R_replace 112 = .ok (.iconst 0, 1) := by decide +kernel
theorem d_R_replace_113 : decode b_R_replace 113 = .ok (.bastore, 1) := by decide +kernel
theorem d_R_replace_114 : decode b_R_replace 114 = .ok (.aload_n 0, 1) := by decide +kernel
theorem d_R_replace_115 : decode b_R_replace 115 = .ok (.getfield 25, 3) := by decide +kernel
theorem d_R_replace_118 : decode b_R_replace 118 = .ok (.bipush 16, 2) := by decide +kernel
theorem d_R_replace_120 : decode b_R_replace 120 = .ok (.iload_n 1, 1) := by decide +kernel
theorem d_R_replace_121 : decode b_R_replace 121 = .ok (.imul, 1) := by decide +kernel
theorem d_R_replace_122 : decode b_R_replace 122 = .ok (.iload_n 2, 1) := by decide +kernel
theorem d_R_replace_123 : decode b_R_replace 123 = .ok (.iadd, 1) := by decide +kernel
theorem d_R_replace_124 : decode b_R_replace 124 = .ok (.iconst 0, 1) := by decide +kernel
theorem d_R_replace_125 : decode b_R_replace 125 = .ok (.iastore, 1) := by decide +kernel
theorem d_R_replace_126 : decode b_R_replace 126 = .ok (.iinc 2 1, 3) := by decide +kernel
theorem d_R_replace_129 : decode b_R_replace 129 = .ok (.goto (-33), 3) := by decide +kernel
theorem d_R_replace_132 : decode b_R_replace 132 = .ok (.iconst 0, 1) := by decide +kernel
theorem d_R_replace_133 : decode b_R_replace 133 = .ok (.istore_n 2, 1) := by decide +kernel
theorem d_R_replace_134 : decode b_R_replace 134 = .ok (.iload_n 2, 1) := by decide +kernel
theorem d_R_replace_135 : decode b_R_replace 135 = .ok (.bipush 11, 2) := by decide +kernel
theorem d_R_replace_137 : decode b_R_replace 137 = .ok (.if_icmp .ge 21, 3) := by decide +kernel
theorem d_R_replace_140 : decode b_R_replace 140 = .ok (.aload_n 0, 1) := by decide +kernel
theorem d_R_replace_141 : decode b_R_replace 141 = .ok (.getfield 35, 3) := by decide +kernel
theorem d_R_replace_144 : decode b_R_replace 144 = .ok (.bipush 11, 2) := by decide +kernel
theorem d_R_replace_146 : decode b_R_replace 146 = .ok (.iload_n 1, 1) := by decide +kernel
theorem d_R_replace_147 : decode b_R_replace 147 = .ok (.imul, 1) := by decide +kernel
theorem d_R_replace_148 : decode b_R_replace 148 = .ok (.iload_n 2, 1) := by decide +kernel
theorem d_R_replace_149 : decode b_R_replace 149 = .ok (.iadd, 1) := by decide +kernel
theorem d_R_replace_150 : decode b_R_replace 150 = .ok (.iconst 0, 1) := by decide +kernel
theorem d_R_replace_151 : decode b_R_replace 151 = .ok (.iastore, 1) := by decide +kernel
theorem d_R_replace_152 : decode b_R_replace 152 = .ok (.iinc 2 1, 3) := by decide +kernel
theorem d_R_replace_155 : decode b_R_replace 155 = .ok (.goto (-21), 3) := by decide +kernel
theorem d_R_replace_158 : decode b_R_replace 158 = .ok (.iconst 1, 1) := by decide +kernel
theorem d_R_replace_159 : decode b_R_replace 159 = .ok (.ireturn, 1) := by decide +kernel
def lp_R_rep1 (mn : Nat) : Nat → Nat → gm_St → gm_St
  | 0, _, u => u
  | k + 1, i, u => lp_R_rep1 mn k (i + 1) (gm_sB u 1 (18 * mn + i) false)
def lp_R_rep2 (mn : Nat) : Nat → Nat → gm_St → gm_St
  | 0, _, u => u
  | k + 1, i, u => lp_R_rep2 mn k (i + 1) (gm_sB (gm_sB u 2 (6 * mn + i) false) 3 (6 * mn + i) false)
def lp_R_rep3 (mn : Nat) : Nat → Nat → gm_St → gm_St
  | 0, _, u => u
  | k + 1, i, u => lp_R_rep3 mn k (i + 1) (gm_sG (gm_sB u 4 (16 * mn + i) false) 0 (16 * mn + i) (0 : Int32))
def lp_R_rep4 (mn : Nat) : Nat → Nat → gm_St → gm_St
  | 0, _, u => u
  | k + 1, i, u => lp_R_rep4 mn k (i + 1) (gm_sG u 2 (11 * mn + i) (0 : Int32))
def v_R_replace (u : gm_St) (x : Int32) : Bool := (if (v_R_isModule x) = true then true else false)
def s_R_replace (u : gm_St) (x : Int32) : gm_St := (if (v_R_isModule x) = true then (lp_R_rep4 x.toNatClampNeg 11 0 (lp_R_rep3 x.toNatClampNeg 16 0 (lp_R_rep2 x.toNatClampNeg 6 0 (lp_R_rep1 x.toNatClampNeg 18 0 (gm_sG (gm_sB (gm_sB u 0 x.toNatClampNeg false) 5 x.toNatClampNeg false) 1 x.toNatClampNeg (0 : Int32)))))) else u)
set_option maxRecDepth 100000 in
set_option maxHeartbeats 4000000 in
theorem c_R_replace {l : Launch} {D : va_G} {dk : Nat → ClassId} {a : Nat → Nat} {A : Nat → Prop} {lt : Nat} {u : gm_St} {x : Int32} : gm_I l D (gm_ty dk) (gr_W dk a) A lt y_R_replace b_R_replace 3 (some .boolean) rm_R_replace [.ref (a 0), .int x] u (gm_b (v_R_replace u x)) (s_R_replace u x) := by
  refine gm_enterZ (by decide) (Nat.le_of_ble_eq_true rfl) ?_
  intro p e s m args below meth c ls Q H locs hF hM hl hQ
  have hx := hF.1
  have hb := hF.2.1
  have hml := hF.2.2.1
  have hown := hF.2.2.2.1
  have hts := hF.2.2.2.2.1
  have hl : lv_has ls 3 [(0, .ref (a 0)), (1, .int x)] := hl
  refine lv_iload_n hx hb d_R_replace_0 rfl (lv_at hl 1 rfl) ?_
  refine gm_Si (As := [.int x]) (rest := []) hF hM (c_R_isModule (u := u) (x := x) ) (gk_R_109 hts ⟨by decide, by decide⟩) rfl hl.1 rfl (Nat.le_of_ble_eq_true rfl) ⟨Nat.zero_le _, Nat.zero_le _⟩ d_R_replace_1 (fun H locs hM => ?_)
  refine gm_ifn (b := (v_R_isModule x)) (tgt := 9) hx hb d_R_replace_4 rfl (fun h1 => ?_) (fun h1 => ?_)
  · obtain ⟨n, h_n, rfl⟩ := gr_isME h1
    refine lv_aload_n hx hb d_R_replace_9 rfl (lv_at hl 0 rfl) ?_
    refine gf_R_7 hF hM d_R_replace_10 ?_
    refine lv_iload_n hx hb d_R_replace_13 rfl (lv_at hl 1 rfl) ?_
    refine lv_iconst (v := 0) hx hb d_R_replace_14 (by decide) ?_
    refine gq_failed (k := n) hF hM rfl (by first | omega | exact Nat.mod_lt _ (by decide)) (v := false) rfl d_R_replace_15 (fun H locs hM => ?_)
    refine lv_aload_n hx hb d_R_replace_16 rfl (lv_at hl 0 rfl) ?_
    refine gf_R_29 hF hM d_R_replace_17 ?_
    refine lv_iload_n hx hb d_R_replace_20 rfl (lv_at hl 1 rfl) ?_
    refine lv_iconst (v := 0) hx hb d_R_replace_21 (by decide) ?_
    refine gq_waits (k := n) hF hM rfl (by first | omega | exact Nat.mod_lt _ (by decide)) (v := false) rfl d_R_replace_22 (fun H locs hM => ?_)
    refine lv_aload_n hx hb d_R_replace_23 rfl (lv_at hl 0 rfl) ?_
    refine gf_R_32 hF hM d_R_replace_24 ?_
    refine lv_iload_n hx hb d_R_replace_27 rfl (lv_at hl 1 rfl) ?_
    refine lv_iconst (v := 0) hx hb d_R_replace_28 (by decide) ?_
    refine gq_waited (k := n) hF hM rfl (by first | omega | exact Nat.mod_lt _ (by decide)) d_R_replace_29 (fun H locs hM => ?_)
    refine lv_iconst (v := 0) hx hb d_R_replace_30 (by decide) ?_
    refine lv_istore_n (lv' := [(2, .int (0 : Int32)), (0, .ref (a 0)), (1, .int (nI n))]) hx hb d_R_replace_31 rfl hl (by decide) rfl (fun ls hl => ?_)
    have L2 : ∀ (k2 i2 : Nat) (w2 : gm_St) (ls : Array Slot) (H : Heap) (locs : List Loc), i2 + k2 = 18 → lv_has ls 3 [(2, .int (nI i2)), (0, .ref (a 0)), (1, .int (nI n))] → gm_M D A s (gr_W dk a) w2 H locs → (∀ (ls : Array Slot) (H : Heap) (locs : List Loc), lv_has ls 3 [(2, .int (nI 18)), (0, .ref (a 0)), (1, .int (nI n))] → gm_M D A s (gr_W dk a) (lp_R_rep1 n k2 i2 w2) H locs → W p l e rm_R_replace s m args below meth c H locs 0 0 Q (F0 m 56 ls [])) → W p l e rm_R_replace s m args below meth c H locs 0 0 Q (F0 m 32 ls []) := by
      intro k2
      induction k2 with
      | zero =>
        intro i2 w2 ls H locs hk2 hl hM kk
        obtain rfl : i2 = 18 := by omega
        refine lv_iload_n hx hb d_R_replace_32 rfl (lv_at hl 0 rfl) ?_
        refine lv_bipush (v := 18) hx hb d_R_replace_33 (by decide) ?_
        refine lv_icmp_ge (tgt := 56) hx hb d_R_replace_35 rfl (fun _ => ?_) (fun h => absurd (by decide) h)
        exact kk ls H locs hl hM
      | succ k2 ih =>
        intro i2 w2 ls H locs hk2 hl hM kk
        refine lv_iload_n hx hb d_R_replace_32 rfl (lv_at hl 0 rfl) ?_
        refine lv_bipush (v := 18) hx hb d_R_replace_33 (by decide) ?_
        refine lv_icmp_ge (tgt := 56) hx hb d_R_replace_35 rfl (fun h => absurd h (nI_ge (a := i2) (b := 18) (by omega) (by first | decide | omega))) (fun _ => ?_)
        refine lv_aload_n hx hb d_R_replace_38 rfl (lv_at hl 1 rfl) ?_
        refine gf_R_13 hF hM d_R_replace_39 ?_
        refine lv_bipush (v := 18) hx hb d_R_replace_42 (by decide) ?_
        refine lv_iload_n hx hb d_R_replace_44 rfl (lv_at hl 2 rfl) ?_
        refine lv_imul hx hb d_R_replace_45 ?_
        refine lv_iload_n hx hb d_R_replace_46 rfl (lv_at hl 0 rfl) ?_
        refine lv_iadd hx hb d_R_replace_47 ?_
        refine lv_iconst (v := 0) hx hb d_R_replace_48 (by decide) ?_
        refine gq_bad (k := (18 * n + i2)) hF hM (by first | rfl | (simp only [← nI_add, ← pk_mul] <;> rfl)) (by first | omega | exact Nat.mod_lt _ (by decide)) (v := false) rfl d_R_replace_49 (fun H locs hM => ?_)
        refine lv_iinc (k := 0) (v := (nI (i2 + 1))) (lv' := [(2, .int (nI (i2 + 1))), (0, .ref (a 0)), (1, .int (nI n))]) hx hb d_R_replace_50 hl rfl (nI_1 _) (by decide) rfl (fun ls hl => ?_)
        refine lv_goto (tgt := 32) hx hb d_R_replace_53 rfl ?_
        have hK := kk
        simp only [lp_R_rep1] at hK
        exact ih (i2 + 1) (gm_sB w2 1 (18 * n + i2) false) ls H locs (by omega) hl hM hK
    refine L2 18 0 (gm_sG (gm_sB (gm_sB u 0 n false) 5 n false) 1 n (0 : Int32)) ls H locs (by omega) hl hM (fun ls H locs hl hM => ?_)
    refine lv_iconst (v := 0) hx hb d_R_replace_56 (by decide) ?_
    refine lv_istore_n (lv' := [(2, .int (0 : Int32)), (0, .ref (a 0)), (1, .int (nI n))]) hx hb d_R_replace_57 rfl hl (by decide) rfl (fun ls hl => ?_)
    have L3 : ∀ (k3 i3 : Nat) (w3 : gm_St) (ls : Array Slot) (H : Heap) (locs : List Loc), i3 + k3 = 6 → lv_has ls 3 [(2, .int (nI i3)), (0, .ref (a 0)), (1, .int (nI n))] → gm_M D A s (gr_W dk a) w3 H locs → (∀ (ls : Array Slot) (H : Heap) (locs : List Loc), lv_has ls 3 [(2, .int (nI 6)), (0, .ref (a 0)), (1, .int (nI n))] → gm_M D A s (gr_W dk a) (lp_R_rep2 n k3 i3 w3) H locs → W p l e rm_R_replace s m args below meth c H locs 0 0 Q (F0 m 94 ls [])) → W p l e rm_R_replace s m args below meth c H locs 0 0 Q (F0 m 58 ls []) := by
      intro k3
      induction k3 with
      | zero =>
        intro i3 w3 ls H locs hk3 hl hM kk
        obtain rfl : i3 = 6 := by omega
        refine lv_iload_n hx hb d_R_replace_58 rfl (lv_at hl 0 rfl) ?_
        refine lv_bipush (v := 6) hx hb d_R_replace_59 (by decide) ?_
        refine lv_icmp_ge (tgt := 94) hx hb d_R_replace_61 rfl (fun _ => ?_) (fun h => absurd (by decide) h)
        exact kk ls H locs hl hM
      | succ k3 ih =>
        intro i3 w3 ls H locs hk3 hl hM kk
        refine lv_iload_n hx hb d_R_replace_58 rfl (lv_at hl 0 rfl) ?_
        refine lv_bipush (v := 6) hx hb d_R_replace_59 (by decide) ?_
        refine lv_icmp_ge (tgt := 94) hx hb d_R_replace_61 rfl (fun h => absurd h (nI_ge (a := i3) (b := 6) (by omega) (by first | decide | omega))) (fun _ => ?_)
        refine lv_aload_n hx hb d_R_replace_64 rfl (lv_at hl 1 rfl) ?_
        refine gf_R_16 hF hM d_R_replace_65 ?_
        refine lv_bipush (v := 6) hx hb d_R_replace_68 (by decide) ?_
        refine lv_iload_n hx hb d_R_replace_70 rfl (lv_at hl 2 rfl) ?_
        refine lv_imul hx hb d_R_replace_71 ?_
        refine lv_iload_n hx hb d_R_replace_72 rfl (lv_at hl 0 rfl) ?_
        refine lv_iadd hx hb d_R_replace_73 ?_
        refine lv_iconst (v := 0) hx hb d_R_replace_74 (by decide) ?_
        refine gq_value (k := (6 * n + i3)) hF hM (by first | rfl | (simp only [← nI_add, ← pk_mul] <;> rfl)) (by first | omega | exact Nat.mod_lt _ (by decide)) (v := false) rfl d_R_replace_75 (fun H locs hM => ?_)
        refine lv_aload_n hx hb d_R_replace_76 rfl (lv_at hl 1 rfl) ?_
        refine gf_R_19 hF hM d_R_replace_77 ?_
        refine lv_bipush (v := 6) hx hb d_R_replace_80 (by decide) ?_
        refine lv_iload_n hx hb d_R_replace_82 rfl (lv_at hl 2 rfl) ?_
        refine lv_imul hx hb d_R_replace_83 ?_
        refine lv_iload_n hx hb d_R_replace_84 rfl (lv_at hl 0 rfl) ?_
        refine lv_iadd hx hb d_R_replace_85 ?_
        refine lv_iconst (v := 0) hx hb d_R_replace_86 (by decide) ?_
        refine gq_broken (k := (6 * n + i3)) hF hM (by first | rfl | (simp only [← nI_add, ← pk_mul] <;> rfl)) (by first | omega | exact Nat.mod_lt _ (by decide)) (v := false) rfl d_R_replace_87 (fun H locs hM => ?_)
        refine lv_iinc (k := 0) (v := (nI (i3 + 1))) (lv' := [(2, .int (nI (i3 + 1))), (0, .ref (a 0)), (1, .int (nI n))]) hx hb d_R_replace_88 hl rfl (nI_1 _) (by decide) rfl (fun ls hl => ?_)
        refine lv_goto (tgt := 58) hx hb d_R_replace_91 rfl ?_
        have hK := kk
        simp only [lp_R_rep2] at hK
        exact ih (i3 + 1) (gm_sB (gm_sB w3 2 (6 * n + i3) false) 3 (6 * n + i3) false) ls H locs (by omega) hl hM hK
    refine L3 6 0 (lp_R_rep1 n 18 0 (gm_sG (gm_sB (gm_sB u 0 n false) 5 n false) 1 n (0 : Int32))) ls H locs (by omega) hl hM (fun ls H locs hl hM => ?_)
    refine lv_iconst (v := 0) hx hb d_R_replace_94 (by decide) ?_
    refine lv_istore_n (lv' := [(2, .int (0 : Int32)), (0, .ref (a 0)), (1, .int (nI n))]) hx hb d_R_replace_95 rfl hl (by decide) rfl (fun ls hl => ?_)
    have L4 : ∀ (k4 i4 : Nat) (w4 : gm_St) (ls : Array Slot) (H : Heap) (locs : List Loc), i4 + k4 = 16 → lv_has ls 3 [(2, .int (nI i4)), (0, .ref (a 0)), (1, .int (nI n))] → gm_M D A s (gr_W dk a) w4 H locs → (∀ (ls : Array Slot) (H : Heap) (locs : List Loc), lv_has ls 3 [(2, .int (nI 16)), (0, .ref (a 0)), (1, .int (nI n))] → gm_M D A s (gr_W dk a) (lp_R_rep3 n k4 i4 w4) H locs → W p l e rm_R_replace s m args below meth c H locs 0 0 Q (F0 m 132 ls [])) → W p l e rm_R_replace s m args below meth c H locs 0 0 Q (F0 m 96 ls []) := by
      intro k4
      induction k4 with
      | zero =>
        intro i4 w4 ls H locs hk4 hl hM kk
        obtain rfl : i4 = 16 := by omega
        refine lv_iload_n hx hb d_R_replace_96 rfl (lv_at hl 0 rfl) ?_
        refine lv_bipush (v := 16) hx hb d_R_replace_97 (by decide) ?_
        refine lv_icmp_ge (tgt := 132) hx hb d_R_replace_99 rfl (fun _ => ?_) (fun h => absurd (by decide) h)
        exact kk ls H locs hl hM
      | succ k4 ih =>
        intro i4 w4 ls H locs hk4 hl hM kk
        refine lv_iload_n hx hb d_R_replace_96 rfl (lv_at hl 0 rfl) ?_
        refine lv_bipush (v := 16) hx hb d_R_replace_97 (by decide) ?_
        refine lv_icmp_ge (tgt := 132) hx hb d_R_replace_99 rfl (fun h => absurd h (nI_ge (a := i4) (b := 16) (by omega) (by first | decide | omega))) (fun _ => ?_)
        refine lv_aload_n hx hb d_R_replace_102 rfl (lv_at hl 1 rfl) ?_
        refine gf_R_22 hF hM d_R_replace_103 ?_
        refine lv_bipush (v := 16) hx hb d_R_replace_106 (by decide) ?_
        refine lv_iload_n hx hb d_R_replace_108 rfl (lv_at hl 2 rfl) ?_
        refine lv_imul hx hb d_R_replace_109 ?_
        refine lv_iload_n hx hb d_R_replace_110 rfl (lv_at hl 0 rfl) ?_
        refine lv_iadd hx hb d_R_replace_111 ?_
        refine lv_iconst (v := 0) hx hb d_R_replace_112 (by decide) ?_
        refine gq_had (k := (16 * n + i4)) hF hM (by first | rfl | (simp only [← nI_add, ← pk_mul] <;> rfl)) (by first | omega | exact Nat.mod_lt _ (by decide)) (v := false) rfl d_R_replace_113 (fun H locs hM => ?_)
        refine lv_aload_n hx hb d_R_replace_114 rfl (lv_at hl 1 rfl) ?_
        refine gf_R_25 hF hM d_R_replace_115 ?_
        refine lv_bipush (v := 16) hx hb d_R_replace_118 (by decide) ?_
        refine lv_iload_n hx hb d_R_replace_120 rfl (lv_at hl 2 rfl) ?_
        refine lv_imul hx hb d_R_replace_121 ?_
        refine lv_iload_n hx hb d_R_replace_122 rfl (lv_at hl 0 rfl) ?_
        refine lv_iadd hx hb d_R_replace_123 ?_
        refine lv_iconst (v := 0) hx hb d_R_replace_124 (by decide) ?_
        refine gq_held (k := (16 * n + i4)) hF hM (by first | rfl | (simp only [← nI_add, ← pk_mul] <;> rfl)) (by first | omega | exact Nat.mod_lt _ (by decide)) d_R_replace_125 (fun H locs hM => ?_)
        refine lv_iinc (k := 0) (v := (nI (i4 + 1))) (lv' := [(2, .int (nI (i4 + 1))), (0, .ref (a 0)), (1, .int (nI n))]) hx hb d_R_replace_126 hl rfl (nI_1 _) (by decide) rfl (fun ls hl => ?_)
        refine lv_goto (tgt := 96) hx hb d_R_replace_129 rfl ?_
        have hK := kk
        simp only [lp_R_rep3] at hK
        exact ih (i4 + 1) (gm_sG (gm_sB w4 4 (16 * n + i4) false) 0 (16 * n + i4) (0 : Int32)) ls H locs (by omega) hl hM hK
    refine L4 16 0 (lp_R_rep2 n 6 0 (lp_R_rep1 n 18 0 (gm_sG (gm_sB (gm_sB u 0 n false) 5 n false) 1 n (0 : Int32)))) ls H locs (by omega) hl hM (fun ls H locs hl hM => ?_)
    refine lv_iconst (v := 0) hx hb d_R_replace_132 (by decide) ?_
    refine lv_istore_n (lv' := [(2, .int (0 : Int32)), (0, .ref (a 0)), (1, .int (nI n))]) hx hb d_R_replace_133 rfl hl (by decide) rfl (fun ls hl => ?_)
    have L5 : ∀ (k5 i5 : Nat) (w5 : gm_St) (ls : Array Slot) (H : Heap) (locs : List Loc), i5 + k5 = 11 → lv_has ls 3 [(2, .int (nI i5)), (0, .ref (a 0)), (1, .int (nI n))] → gm_M D A s (gr_W dk a) w5 H locs → (∀ (ls : Array Slot) (H : Heap) (locs : List Loc), lv_has ls 3 [(2, .int (nI 11)), (0, .ref (a 0)), (1, .int (nI n))] → gm_M D A s (gr_W dk a) (lp_R_rep4 n k5 i5 w5) H locs → W p l e rm_R_replace s m args below meth c H locs 0 0 Q (F0 m 158 ls [])) → W p l e rm_R_replace s m args below meth c H locs 0 0 Q (F0 m 134 ls []) := by
      intro k5
      induction k5 with
      | zero =>
        intro i5 w5 ls H locs hk5 hl hM kk
        obtain rfl : i5 = 11 := by omega
        refine lv_iload_n hx hb d_R_replace_134 rfl (lv_at hl 0 rfl) ?_
        refine lv_bipush (v := 11) hx hb d_R_replace_135 (by decide) ?_
        refine lv_icmp_ge (tgt := 158) hx hb d_R_replace_137 rfl (fun _ => ?_) (fun h => absurd (by decide) h)
        exact kk ls H locs hl hM
      | succ k5 ih =>
        intro i5 w5 ls H locs hk5 hl hM kk
        refine lv_iload_n hx hb d_R_replace_134 rfl (lv_at hl 0 rfl) ?_
        refine lv_bipush (v := 11) hx hb d_R_replace_135 (by decide) ?_
        refine lv_icmp_ge (tgt := 158) hx hb d_R_replace_137 rfl (fun h => absurd h (nI_ge (a := i5) (b := 11) (by omega) (by first | decide | omega))) (fun _ => ?_)
        refine lv_aload_n hx hb d_R_replace_140 rfl (lv_at hl 1 rfl) ?_
        refine gf_R_35 hF hM d_R_replace_141 ?_
        refine lv_bipush (v := 11) hx hb d_R_replace_144 (by decide) ?_
        refine lv_iload_n hx hb d_R_replace_146 rfl (lv_at hl 2 rfl) ?_
        refine lv_imul hx hb d_R_replace_147 ?_
        refine lv_iload_n hx hb d_R_replace_148 rfl (lv_at hl 0 rfl) ?_
        refine lv_iadd hx hb d_R_replace_149 ?_
        refine lv_iconst (v := 0) hx hb d_R_replace_150 (by decide) ?_
        refine gq_past (k := (11 * n + i5)) hF hM (by first | rfl | (simp only [← nI_add, ← pk_mul] <;> rfl)) (by first | omega | exact Nat.mod_lt _ (by decide)) d_R_replace_151 (fun H locs hM => ?_)
        refine lv_iinc (k := 0) (v := (nI (i5 + 1))) (lv' := [(2, .int (nI (i5 + 1))), (0, .ref (a 0)), (1, .int (nI n))]) hx hb d_R_replace_152 hl rfl (nI_1 _) (by decide) rfl (fun ls hl => ?_)
        refine lv_goto (tgt := 134) hx hb d_R_replace_155 rfl ?_
        have hK := kk
        simp only [lp_R_rep4] at hK
        exact ih (i5 + 1) (gm_sG w5 2 (11 * n + i5) (0 : Int32)) ls H locs (by omega) hl hM hK
    refine L5 11 0 (lp_R_rep3 n 16 0 (lp_R_rep2 n 6 0 (lp_R_rep1 n 18 0 (gm_sG (gm_sB (gm_sB u 0 n false) 5 n false) 1 n (0 : Int32))))) ls H locs (by omega) hl hM (fun ls H locs hl hM => ?_)
    refine lv_iconst (v := 1) hx hb d_R_replace_158 (by decide) ?_
    have hq := hQ H locs 159 ls
    simp only [v_R_replace, s_R_replace, if_pos h1, nI_clamp (show n < 2 ^ 31 by omega)] at hq
    exact hq hM d_R_replace_159
  · refine lv_iconst (v := 0) hx hb d_R_replace_7 (by decide) ?_
    have hq := hQ H locs 8 ls
    simp only [v_R_replace, s_R_replace, if_neg (gm_nf h1)] at hq
    exact hq hM d_R_replace_8
theorem d_R_works_0 : decode b_R_works 0 = .ok (.iload_n 1, 1) := by decide +kernel
theorem d_R_works_1 : decode b_R_works 1 = .ok (.invokestatic 109, 3) := by decide +kernel
theorem d_R_works_4 : decode b_R_works 4 = .ok (.ifCond .eq 16, 3) := by decide +kernel
theorem d_R_works_7 : decode b_R_works 7 = .ok (.aload_n 0, 1) := by decide +kernel
theorem d_R_works_8 : decode b_R_works 8 = .ok (.getfield 7, 3) := by decide +kernel
theorem d_R_works_11 : decode b_R_works 11 = .ok (.iload_n 1, 1) := by decide +kernel
theorem d_R_works_12 : decode b_R_works 12 = .ok (.baload, 1) := by decide +kernel
theorem d_R_works_13 : decode b_R_works 13 = .ok (.ifCond .ne 7, 3) := by decide +kernel
theorem d_R_works_16 : decode b_R_works 16 = .ok (.iconst 1, 1) := by decide +kernel
theorem d_R_works_17 : decode b_R_works 17 = .ok (.goto 4, 3) := by decide +kernel
theorem d_R_works_20 : decode b_R_works 20 = .ok (.iconst 0, 1) := by decide +kernel
theorem d_R_works_21 : decode b_R_works 21 = .ok (.ireturn, 1) := by decide +kernel
def v_R_works (u : gm_St) (x : Int32) : Bool := (if (v_R_isModule x) = true then (if (u.1 0 x.toNatClampNeg) = true then false else true) else false)
set_option maxRecDepth 100000 in
set_option maxHeartbeats 4000000 in
theorem c_R_works {l : Launch} {D : va_G} {dk : Nat → ClassId} {a : Nat → Nat} {A : Nat → Prop} {lt : Nat} {u : gm_St} {x : Int32} : gm_I l D (gm_ty dk) (gr_W dk a) A lt y_R_works b_R_works 2 (some .boolean) rm_R_works [.ref (a 0), .int x] u (gm_b (v_R_works u x)) u := by
  refine gm_enterZ (by decide) (Nat.le_of_ble_eq_true rfl) ?_
  intro p e s m args below meth c ls Q H locs hF hM hl hQ
  have hx := hF.1
  have hb := hF.2.1
  have hml := hF.2.2.1
  have hown := hF.2.2.2.1
  have hts := hF.2.2.2.2.1
  have hl : lv_has ls 2 [(0, .ref (a 0)), (1, .int x)] := hl
  refine lv_iload_n hx hb d_R_works_0 rfl (lv_at hl 1 rfl) ?_
  refine gm_Si (As := [.int x]) (rest := []) hF hM (c_R_isModule (u := u) (x := x) ) (gk_R_109 hts ⟨by decide, by decide⟩) rfl hl.1 rfl (Nat.le_of_ble_eq_true rfl) ⟨Nat.zero_le _, Nat.zero_le _⟩ d_R_works_1 (fun H locs hM => ?_)
  have J2 : ∀ (ls : Array Slot) (H : Heap) (locs : List Loc), lv_has ls 2 [(0, .ref (a 0)), (1, .int x)] → gm_M D A s (gr_W dk a) u H locs → W p l e rm_R_works s m args below meth c H locs 0 0 Q (F0 m 21 ls [.int (gm_b (if (v_R_isModule x) = true then (if (u.1 0 x.toNatClampNeg) = true then false else true) else false))]) := by
    intro ls H locs hl hM
    have hq := hQ H locs 21 ls
    simp only [v_R_works] at hq
    exact hq hM d_R_works_21
  refine gm_ifz (b := (v_R_isModule x)) (tgt := 20) hx hb d_R_works_4 rfl (fun h1 => ?_) (fun h1 => ?_)
  · refine lv_iconst (v := 0) hx hb d_R_works_20 (by decide) ?_
    have hJ := J2
    try simp only [if_neg (gm_nf h1)] at hJ
    exact hJ ls H locs hl hM
  · have hm_x := (gr_isM h1).1
    have ex_x := (gr_isM h1).2
    refine lv_aload_n hx hb d_R_works_7 rfl (lv_at hl 0 rfl) ?_
    refine gf_R_7 hF hM d_R_works_8 ?_
    refine lv_iload_n hx hb d_R_works_11 rfl (lv_at hl 1 rfl) ?_
    refine ga_failed (k := x.toNatClampNeg) hF hM ex_x (by first | omega | exact Nat.mod_lt _ (by decide)) d_R_works_12 ?_
    refine gm_ifn (b := (u.1 0 x.toNatClampNeg)) (tgt := 20) hx hb d_R_works_13 rfl (fun h3 => ?_) (fun h3 => ?_)
    · refine lv_iconst (v := 0) hx hb d_R_works_20 (by decide) ?_
      have hJ := J2
      try simp only [if_pos h1, if_pos h3] at hJ
      exact hJ ls H locs hl hM
    · refine lv_iconst (v := 1) hx hb d_R_works_16 (by decide) ?_
      refine lv_goto (tgt := 21) hx hb d_R_works_17 rfl ?_
      have hJ := J2
      try simp only [if_pos h1, if_neg (gm_nf h3)] at hJ
      exact hJ ls H locs hl hM
theorem d_R_time_0 : decode b_R_time 0 = .ok (.aload_n 0, 1) := by decide +kernel
theorem d_R_time_1 : decode b_R_time 1 = .ok (.getfield 80, 3) := by decide +kernel
theorem d_R_time_4 : decode b_R_time 4 = .ok (.ireturn, 1) := by decide +kernel
def v_R_time (u : gm_St) : Int32 := (u.2.1 3 0)
set_option maxRecDepth 100000 in
set_option maxHeartbeats 4000000 in
theorem c_R_time {l : Launch} {D : va_G} {dk : Nat → ClassId} {a : Nat → Nat} {A : Nat → Prop} {lt : Nat} {u : gm_St} : gm_I l D (gm_ty dk) (gr_W dk a) A lt y_R_time b_R_time 1 (some .int) rm_R_time [.ref (a 0)] u (v_R_time u) u := by
  refine gm_enterI (by decide) (Nat.le_of_ble_eq_true rfl) ?_
  intro p e s m args below meth c ls Q H locs hF hM hl hQ
  have hx := hF.1
  have hb := hF.2.1
  have hml := hF.2.2.1
  have hown := hF.2.2.2.1
  have hts := hF.2.2.2.2.1
  have hl : lv_has ls 1 [(0, .ref (a 0))] := hl
  refine lv_aload_n hx hb d_R_time_0 rfl (lv_at hl 0 rfl) ?_
  refine gf_R_80 hF hM d_R_time_1 ?_
  have hq := hQ H locs 4 ls
  simp only [v_R_time] at hq
  exact hq hM d_R_time_4
theorem d_R_valvesOf_0 : decode b_R_valvesOf 0 = .ok (.aload_n 0, 1) := by decide +kernel
theorem d_R_valvesOf_1 : decode b_R_valvesOf 1 = .ok (.getfield 7, 3) := by decide +kernel
theorem d_R_valvesOf_4 : decode b_R_valvesOf 4 = .ok (.iload_n 1, 1) := by decide +kernel
theorem d_R_valvesOf_5 : decode b_R_valvesOf 5 = .ok (.baload, 1) := by decide +kernel
theorem d_R_valvesOf_6 : decode b_R_valvesOf 6 = .ok (.ifCond .eq 7, 3) := by decide +kernel
theorem d_R_valvesOf_9 : decode b_R_valvesOf 9 = .ok (.iconst 0, 1) := by decide +kernel
theorem d_R_valvesOf_10 : decode b_R_valvesOf 10 = .ok (.goto 12, 3) := by decide +kernel
theorem d_R_valvesOf_13 : decode b_R_valvesOf 13 = .ok (.aload_n 0, 1) := by decide +kernel
theorem d_R_valvesOf_14 : decode b_R_valvesOf 14 = .ok (.getfield 35, 3) := by decide +kernel
theorem d_R_valvesOf_17 : decode b_R_valvesOf 17 = .ok (.bipush 11, 2) := by decide +kernel
theorem d_R_valvesOf_19 : decode b_R_valvesOf 19 = .ok (.iload_n 1, 1) := by decide +kernel
theorem d_R_valvesOf_20 : decode b_R_valvesOf 20 = .ok (.imul, 1) := by decide +kernel
theorem d_R_valvesOf_21 : decode b_R_valvesOf 21 = .ok (.iaload, 1) := by decide +kernel
theorem d_R_valvesOf_22 : decode b_R_valvesOf 22 = .ok (.ireturn, 1) := by decide +kernel
def v_R_valvesOf (u : gm_St) (mn : Nat) : Int32 := (if (u.1 0 mn) = true then (0 : Int32) else (u.2.1 2 (11 * mn)))
set_option maxRecDepth 100000 in
set_option maxHeartbeats 4000000 in
theorem c_R_valvesOf {l : Launch} {D : va_G} {dk : Nat → ClassId} {a : Nat → Nat} {A : Nat → Prop} {lt : Nat} {u : gm_St} {mn : Nat} (h_mn : mn < 2) : gm_I l D (gm_ty dk) (gr_W dk a) A lt y_R_valvesOf b_R_valvesOf 2 (some .int) rm_R_valvesOf [.ref (a 0), .int (nI mn)] u (v_R_valvesOf u mn) u := by
  refine gm_enterI (by decide) (Nat.le_of_ble_eq_true rfl) ?_
  intro p e s m args below meth c ls Q H locs hF hM hl hQ
  have hx := hF.1
  have hb := hF.2.1
  have hml := hF.2.2.1
  have hown := hF.2.2.2.1
  have hts := hF.2.2.2.2.1
  have hl : lv_has ls 2 [(0, .ref (a 0)), (1, .int (nI mn))] := hl
  refine lv_aload_n hx hb d_R_valvesOf_0 rfl (lv_at hl 0 rfl) ?_
  refine gf_R_7 hF hM d_R_valvesOf_1 ?_
  refine lv_iload_n hx hb d_R_valvesOf_4 rfl (lv_at hl 1 rfl) ?_
  refine ga_failed (k := mn) hF hM rfl (by first | omega | exact Nat.mod_lt _ (by decide)) d_R_valvesOf_5 ?_
  have J2 : ∀ (ls : Array Slot) (H : Heap) (locs : List Loc), lv_has ls 2 [(0, .ref (a 0)), (1, .int (nI mn))] → gm_M D A s (gr_W dk a) u H locs → W p l e rm_R_valvesOf s m args below meth c H locs 0 0 Q (F0 m 22 ls [.int (if (u.1 0 mn) = true then (0 : Int32) else (u.2.1 2 (11 * mn)))]) := by
    intro ls H locs hl hM
    have hq := hQ H locs 22 ls
    simp only [v_R_valvesOf] at hq
    exact hq hM d_R_valvesOf_22
  refine gm_ifz (b := (u.1 0 mn)) (tgt := 13) hx hb d_R_valvesOf_6 rfl (fun h1 => ?_) (fun h1 => ?_)
  · refine lv_aload_n hx hb d_R_valvesOf_13 rfl (lv_at hl 0 rfl) ?_
    refine gf_R_35 hF hM d_R_valvesOf_14 ?_
    refine lv_bipush (v := 11) hx hb d_R_valvesOf_17 (by decide) ?_
    refine lv_iload_n hx hb d_R_valvesOf_19 rfl (lv_at hl 1 rfl) ?_
    refine lv_imul hx hb d_R_valvesOf_20 ?_
    refine ga_past (k := (11 * mn)) hF hM (by first | rfl | (simp only [← nI_add, ← pk_mul] <;> rfl)) (by first | omega | exact Nat.mod_lt _ (by decide)) d_R_valvesOf_21 ?_
    have hJ := J2
    try simp only [if_neg (gm_nf h1)] at hJ
    exact hJ ls H locs hl hM
  · refine lv_iconst (v := 0) hx hb d_R_valvesOf_9 (by decide) ?_
    refine lv_goto (tgt := 22) hx hb d_R_valvesOf_10 rfl ?_
    have hJ := J2
    try simp only [if_pos h1] at hJ
    exact hJ ls H locs hl hM
theorem d_R_valves_0 : decode b_R_valves 0 = .ok (.iload_n 1, 1) := by decide +kernel
theorem d_R_valves_1 : decode b_R_valves 1 = .ok (.iconst (-1), 1) := by decide +kernel
theorem d_R_valves_2 : decode b_R_valves 2 = .ok (.if_icmp .ne 15, 3) := by decide +kernel
theorem d_R_valves_5 : decode b_R_valves 5 = .ok (.aload_n 0, 1) := by decide +kernel
theorem d_R_valves_6 : decode b_R_valves 6 = .ok (.iconst 0, 1) := by decide +kernel
theorem d_R_valves_7 : decode b_R_valves 7 = .ok (.invokevirtual 112, 3) := by decide +kernel
theorem d_R_valves_10 : decode b_R_valves 10 = .ok (.aload_n 0, 1) := by decide +kernel
theorem d_R_valves_11 : decode b_R_valves 11 = .ok (.iconst 1, 1) := by decide +kernel
theorem d_R_valves_12 : decode b_R_valves 12 = .ok (.invokevirtual 112, 3) := by decide +kernel
theorem d_R_valves_15 : decode b_R_valves 15 = .ok (.ior, 1) := by decide +kernel
theorem d_R_valves_16 : decode b_R_valves 16 = .ok (.ireturn, 1) := by decide +kernel
theorem d_R_valves_17 : decode b_R_valves 17 = .ok (.iload_n 1, 1) := by decide +kernel
theorem d_R_valves_18 : decode b_R_valves 18 = .ok (.invokestatic 109, 3) := by decide +kernel
theorem d_R_valves_21 : decode b_R_valves 21 = .ok (.ifCond .eq 11, 3) := by decide +kernel
theorem d_R_valves_24 : decode b_R_valves 24 = .ok (.aload_n 0, 1) := by decide +kernel
theorem d_R_valves_25 : decode b_R_valves 25 = .ok (.iload_n 1, 1) := by decide +kernel
theorem d_R_valves_26 : decode b_R_valves 26 = .ok (.invokevirtual 112, 3) := by decide +kernel
theorem d_R_valves_29 : decode b_R_valves 29 = .ok (.goto 4, 3) := by decide +kernel
theorem d_R_valves_32 : decode b_R_valves 32 = .ok (.iconst (-1), 1) := by decide +kernel
theorem d_R_valves_33 : decode b_R_valves 33 = .ok (.ireturn, 1) := by decide +kernel
def v_R_valves (u : gm_St) (x : Int32) : Int32 := (if x = (-1 : Int32) then ((v_R_valvesOf u 0) ||| (v_R_valvesOf u 1)) else (if (v_R_isModule x) = true then (v_R_valvesOf u x.toNatClampNeg) else (-1 : Int32)))
set_option maxRecDepth 100000 in
set_option maxHeartbeats 4000000 in
theorem c_R_valves {l : Launch} {D : va_G} {dk : Nat → ClassId} {a : Nat → Nat} {A : Nat → Prop} {lt : Nat} {u : gm_St} {x : Int32} : gm_I l D (gm_ty dk) (gr_W dk a) A lt y_R_valves b_R_valves 2 (some .int) rm_R_valves [.ref (a 0), .int x] u (v_R_valves u x) u := by
  refine gm_enterI (by decide) (Nat.le_of_ble_eq_true rfl) ?_
  intro p e s m args below meth c ls Q H locs hF hM hl hQ
  have hx := hF.1
  have hb := hF.2.1
  have hml := hF.2.2.1
  have hown := hF.2.2.2.1
  have hts := hF.2.2.2.2.1
  have hl : lv_has ls 2 [(0, .ref (a 0)), (1, .int x)] := hl
  refine lv_iload_n hx hb d_R_valves_0 rfl (lv_at hl 1 rfl) ?_
  refine lv_iconst (v := -1) hx hb d_R_valves_1 (by decide) ?_
  refine lv_icmp_ne (tgt := 17) hx hb d_R_valves_2 rfl (fun h1 => ?_) (fun h1 => ?_)
  · refine lv_iload_n hx hb d_R_valves_17 rfl (lv_at hl 1 rfl) ?_
    refine gm_Si (As := [.int x]) (rest := []) hF hM (c_R_isModule (u := u) (x := x) ) (gk_R_109 hts ⟨by decide, by decide⟩) rfl hl.1 rfl (Nat.le_of_ble_eq_true rfl) ⟨Nat.zero_le _, Nat.zero_le _⟩ d_R_valves_18 (fun H locs hM => ?_)
    have J3 : ∀ (ls : Array Slot) (H : Heap) (locs : List Loc), lv_has ls 2 [(0, .ref (a 0)), (1, .int x)] → gm_M D A s (gr_W dk a) u H locs → W p l e rm_R_valves s m args below meth c H locs 0 0 Q (F0 m 33 ls [.int (if (v_R_isModule x) = true then (v_R_valvesOf u x.toNatClampNeg) else (-1 : Int32))]) := by
      intro ls H locs hl hM
      have hq := hQ H locs 33 ls
      simp only [v_R_valves, if_neg h1] at hq
      exact hq hM d_R_valves_33
    refine gm_ifz (b := (v_R_isModule x)) (tgt := 32) hx hb d_R_valves_21 rfl (fun h2 => ?_) (fun h2 => ?_)
    · refine lv_iconst (v := -1) hx hb d_R_valves_32 (by decide) ?_
      have hJ := J3
      try simp only [if_neg (gm_nf h2)] at hJ
      exact hJ ls H locs hl hM
    · have hm_x := (gr_isM h2).1
      have ex_x := (gr_isM h2).2
      refine lv_aload_n hx hb d_R_valves_24 rfl (lv_at hl 0 rfl) ?_
      refine lv_iload_n hx hb d_R_valves_25 rfl (lv_at hl 1 rfl) ?_
      refine gm_tp (y := (nI x.toNatClampNeg)) ex_x ?_
      refine gm_Vi (As := [.int (nI x.toNatClampNeg)]) (rest := []) hF hM (c_R_valvesOf (u := u) (mn := x.toNatClampNeg) (by omega)) (gk_R_112 hts ⟨by decide, by decide⟩) (gv_R hF hM rfl) rfl hl.1 rfl (Nat.le_of_ble_eq_true rfl) ⟨Nat.zero_le _, Nat.zero_le _⟩ d_R_valves_26 (fun H locs hM => ?_)
      refine lv_goto (tgt := 33) hx hb d_R_valves_29 rfl ?_
      have hJ := J3
      try simp only [if_pos h2] at hJ
      exact hJ ls H locs hl hM
  · refine lv_aload_n hx hb d_R_valves_5 rfl (lv_at hl 0 rfl) ?_
    refine lv_iconst (v := 0) hx hb d_R_valves_6 (by decide) ?_
    refine gm_Vi (As := [.int (nI 0)]) (rest := []) hF hM (c_R_valvesOf (u := u) (mn := 0) (by omega)) (gk_R_112 hts ⟨by decide, by decide⟩) (gv_R hF hM rfl) rfl hl.1 rfl (Nat.le_of_ble_eq_true rfl) ⟨Nat.zero_le _, Nat.zero_le _⟩ d_R_valves_7 (fun H locs hM => ?_)
    refine lv_aload_n hx hb d_R_valves_10 rfl (lv_at hl 0 rfl) ?_
    refine lv_iconst (v := 1) hx hb d_R_valves_11 (by decide) ?_
    refine gm_Vi (As := [.int (nI 1)]) (rest := [.int (v_R_valvesOf u 0)]) hF hM (c_R_valvesOf (u := u) (mn := 1) (by omega)) (gk_R_112 hts ⟨by decide, by decide⟩) (gv_R hF hM rfl) rfl hl.1 rfl (Nat.le_of_ble_eq_true rfl) ⟨Nat.zero_le _, Nat.zero_le _⟩ d_R_valves_12 (fun H locs hM => ?_)
    refine lv_ior hx hb d_R_valves_15 ?_
    have hq := hQ H locs 16 ls
    simp only [v_R_valves, if_pos h1] at hq
    exact hq hM d_R_valves_16
