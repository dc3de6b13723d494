theorem d_R_isModule_0 : decode b_R_isModule 0 = .ok (.iload_n 0, 1) := by decide +kernel
theorem d_R_isModule_1 : decode b_R_isModule 1 = .ok (.ifCond .eq 8, 3) := by decide +kernel
theorem d_R_isModule_4 : decode b_R_isModule 4 = .ok (.iload_n 0, 1) := by decide +kernel
theorem d_R_isModule_5 : decode b_R_isModule 5 = .ok (.iconst 1, 1) := by decide +kernel
theorem d_R_isModule_6 : decode b_R_isModule 6 = .ok (.if_icmp .ne 7, 3) := by decide +kernel
theorem d_R_isModule_9 : decode b_R_isModule 9 = .ok (.iconst 1, 1) := by decide +kernel
theorem d_R_isModule_10 : decode b_R_isModule 10 = .ok (.goto 4, 3) := by decide +kernel
theorem d_R_isModule_13 : decode b_R_isModule 13 = .ok (.iconst 0, 1) := by decide +kernel
theorem d_R_isModule_14 : decode b_R_isModule 14 = .ok (.ireturn, 1) := by decide +kernel
def v_R_isModule (x : Int32) : Bool := (if x = 0 then true else (if x = (1 : Int32) then true else false))
set_option maxRecDepth 100000 in
set_option maxHeartbeats 4000000 in
theorem c_R_isModule {l : Launch} {D : va_G} {dk : Nat → ClassId} {Wd : gm_St → va_W} {A : Nat → Prop} {lt : Nat} {u : gm_St} {x : Int32} : gm_I l D (gm_ty dk) Wd A lt y_R_isModule b_R_isModule 1 (some .boolean) rm_R_isModule [.int x] u (gm_b (v_R_isModule x)) u := by
  refine gm_enterZ (by decide) (Nat.le_of_ble_eq_true rfl) ?_
  intro p e s m args below meth c ls Q H locs hF hM hl hQ
  have hx := hF.1
  have hb := hF.2.1
  have hml := hF.2.2.1
  have hown := hF.2.2.2.1
  have hts := hF.2.2.2.2.1
  have hl : lv_has ls 1 [(0, .int x)] := hl
  refine lv_iload_n hx hb d_R_isModule_0 rfl (lv_at hl 0 rfl) ?_
  have J2 : ∀ (ls : Array Slot) (H : Heap) (locs : List Loc), lv_has ls 1 [(0, .int x)] → gm_M D A s Wd u H locs → W p l e rm_R_isModule s m args below meth c H locs 0 0 Q (F0 m 14 ls [.int (gm_b (if x = 0 then true else (if x = (1 : Int32) then true else false)))]) := by
    intro ls H locs hl hM
    have hq := hQ H locs 14 ls
    simp only [v_R_isModule] at hq
    exact hq hM d_R_isModule_14
  refine lv_if_eq (tgt := 9) hx hb d_R_isModule_1 rfl (fun h1 => ?_) (fun h1 => ?_)
  · refine lv_iconst (v := 1) hx hb d_R_isModule_9 (by decide) ?_
    refine lv_goto (tgt := 14) hx hb d_R_isModule_10 rfl ?_
    have hJ := J2
    try simp only [if_pos h1] at hJ
    exact hJ ls H locs hl hM
  · refine lv_iload_n hx hb d_R_isModule_4 rfl (lv_at hl 0 rfl) ?_
    refine lv_iconst (v := 1) hx hb d_R_isModule_5 (by decide) ?_
    refine lv_icmp_ne (tgt := 13) hx hb d_R_isModule_6 rfl (fun h3 => ?_) (fun h3 => ?_)
    · refine lv_iconst (v := 0) hx hb d_R_isModule_13 (by decide) ?_
      have hJ := J2
      try simp only [if_neg h1, if_neg h3] at hJ
      exact hJ ls H locs hl hM
    · refine lv_iconst (v := 1) hx hb d_R_isModule_9 (by decide) ?_
      refine lv_goto (tgt := 14) hx hb d_R_isModule_10 rfl ?_
      have hJ := J2
      try simp only [if_neg h1, if_pos h3] at hJ
      exact hJ ls H locs hl hM
theorem gr_isME {x : Int32} (h : v_R_isModule x = true) : ∃ j : Nat, j < 2 ∧ x = nI j := by
  unfold v_R_isModule at h
  by_cases h0 : x = 0
  · exact ⟨0, by decide, h0⟩
  · rw [if_neg h0] at h
    by_cases h1 : x = 1
    · exact ⟨1, by decide, h1⟩
    · rw [if_neg h1] at h; cases h
theorem gr_isM {x : Int32} (h : v_R_isModule x = true) : x.toNatClampNeg < 2 ∧ x = nI x.toNatClampNeg := by
  obtain ⟨j, hj, rfl⟩ := gr_isME h
  rw [nI_clamp (by omega)]
  exact ⟨hj, rfl⟩
theorem gr_kept {x : Int32} {w : Nat} (h0 : ¬ x < 0) (h : x < (if (16 : Int32) ≤ (nI w) then (16 : Int32) else (nI w))) (hw : w ≤ 1073741824) : (x.toNatClampNeg < w ∧ x.toNatClampNeg < 16) ∧ x = nI x.toNatClampNeg := by
  by_cases c : 16 ≤ w
  · rw [if_pos (show (16 : Int32) ≤ nI w from nI_le (a := 16) c (by omega))] at h
    have q := gm_ix (lo := 0) (n := 16) h0 h (by decide) (by decide)
    exact ⟨⟨by omega, q.1.2⟩, q.2⟩
  · rw [if_neg (show ¬ (16 : Int32) ≤ nI w from nI_ge (b := 16) (by omega) (by decide))] at h
    have q := gm_ix (lo := 0) (n := w) h0 h (by omega) (by omega)
    exact ⟨⟨q.1.2, by omega⟩, q.2⟩
theorem gr_pred {x : Int32} {n : Nat} (hx : x = nI (n + 1)) : x - 1 = nI n := by
  subst hx; exact nI_pred n
theorem gr_sub {x y : Int32} {a b : Nat} (hx : x = nI a) (hy : y = nI b) (h : b ≤ a) : x - y = nI (a - b) := by
  subst hx; subst hy; exact pk_sub h
theorem d_R_handle_0 : decode b_R_handle 0 = .ok (.aload_n 0, 1) := by decide +kernel
theorem d_R_handle_1 : decode b_R_handle 1 = .ok (.getfield 42, 3) := by decide +kernel
theorem d_R_handle_4 : decode b_R_handle 4 = .ok (.iload_n 1, 1) := by decide +kernel
theorem d_R_handle_5 : decode b_R_handle 5 = .ok (.if_icmp .ne 5, 3) := by decide +kernel
theorem d_R_handle_8 : decode b_R_handle 8 = .ok (.iconst 0, 1) := by decide +kernel
theorem d_R_handle_9 : decode b_R_handle 9 = .ok (.ireturn, 1) := by decide +kernel
theorem d_R_handle_10 : decode b_R_handle 10 = .ok (.aload_n 0, 1) := by decide +kernel
theorem d_R_handle_11 : decode b_R_handle 11 = .ok (.iload_n 1, 1) := by decide +kernel
theorem d_R_handle_12 : decode b_R_handle 12 = .ok (.putfield 42, 3) := by decide +kernel
theorem d_R_handle_15 : decode b_R_handle 15 = .ok (.iconst 0, 1) := by decide +kernel
theorem d_R_handle_16 : decode b_R_handle 16 = .ok (.istore_n 2, 1) := by decide +kernel
theorem d_R_handle_17 : decode b_R_handle 17 = .ok (.iload_n 2, 1) := by decide +kernel
theorem d_R_handle_18 : decode b_R_handle 18 = .ok (.iconst 2, 1) := by decide +kernel
theorem d_R_handle_19 : decode b_R_handle 19 = .ok (.if_icmp .ge 32, 3) := by decide +kernel
theorem d_R_handle_22 : decode b_R_handle 22 = .ok (.aload_n 0, 1) := by decide +kernel
theorem d_R_handle_23 : decode b_R_handle 23 = .ok (.getfield 7, 3) := by decide +kernel
theorem d_R_handle_26 : decode b_R_handle 26 = .ok (.iload_n 2, 1) := by decide +kernel
theorem d_R_handle_27 : decode b_R_handle 27 = .ok (.baload, 1) := by decide +kernel
theorem d_R_handle_28 : decode b_R_handle 28 = .ok (.ifCond .ne 17, 3) := by decide +kernel
theorem d_R_handle_31 : decode b_R_handle 31 = .ok (.aload_n 0, 1) := by decide +kernel
theorem d_R_handle_32 : decode b_R_handle 32 = .ok (.getfield 29, 3) := by decide +kernel
theorem d_R_handle_35 : decode b_R_handle 35 = .ok (.iload_n 2, 1) := by decide +kernel
theorem d_R_handle_36 : decode b_R_handle 36 = .ok (.iconst 1, 1) := by decide +kernel
theorem d_R_handle_37 : decode b_R_handle 37 = .ok (.bastore, 1) := by decide +kernel
theorem d_R_handle_38 : decode b_R_handle 38 = .ok (.aload_n 0, 1) := by decide +kernel
theorem d_R_handle_39 : decode b_R_handle 39 = .ok (.getfield 32, 3) := by decide +kernel
theorem d_R_handle_42 : decode b_R_handle 42 = .ok (.iload_n 2, 1) := by decide +kernel
theorem d_R_handle_43 : decode b_R_handle 43 = .ok (.iconst 0, 1) := by decide +kernel
theorem d_R_handle_44 : decode b_R_handle 44 = .ok (.iastore, 1) := by decide +kernel
theorem d_R_handle_45 : decode b_R_handle 45 = .ok (.iinc 2 1, 3) := by decide +kernel
theorem d_R_handle_48 : decode b_R_handle 48 = .ok (.goto (-31), 3) := by decide +kernel
theorem d_R_handle_51 : decode b_R_handle 51 = .ok (.iconst 1, 1) := by decide +kernel
theorem d_R_handle_52 : decode b_R_handle 52 = .ok (.ireturn, 1) := by decide +kernel
def lp_R_handle : Nat → Nat → gm_St → gm_St
  | 0, _, u => u
  | k + 1, i, u => lp_R_handle k (i + 1) (if (u.1 0 i) = true then u else (gm_sG (gm_sB u 5 i true) 1 i (0 : Int32)))
def v_R_handle (u : gm_St) (dw : Bool) : Bool := (if (u.1 6 0) = dw then false else true)
def s_R_handle (u : gm_St) (dw : Bool) : gm_St := (if (u.1 6 0) = dw then u else (lp_R_handle 2 0 (gm_sB u 6 0 dw)))
set_option maxRecDepth 100000 in
set_option maxHeartbeats 4000000 in
theorem c_R_handle {l : Launch} {D : va_G} {dk : Nat → ClassId} {a : Nat → Nat} {A : Nat → Prop} {lt : Nat} {u : gm_St} {dw : Bool} : gm_I l D (gm_ty dk) (gr_W dk a) A lt y_R_handle b_R_handle 3 (some .boolean) rm_R_handle [.ref (a 0), .int (gm_b dw)] u (gm_b (v_R_handle u dw)) (s_R_handle u dw) := by
  refine gm_enterZ (by decide) (Nat.le_of_ble_eq_true rfl) ?_
  intro p e s m args below meth c ls Q H locs hF hM hl hQ
  have hx := hF.1
  have hb := hF.2.1
  have hml := hF.2.2.1
  have hown := hF.2.2.2.1
  have hts := hF.2.2.2.2.1
  have hl : lv_has ls 3 [(0, .ref (a 0)), (1, .int (gm_b dw))] := hl
  refine lv_aload_n hx hb d_R_handle_0 rfl (lv_at hl 0 rfl) ?_
  refine gf_R_42 hF hM d_R_handle_1 ?_
  refine lv_iload_n hx hb d_R_handle_4 rfl (lv_at hl 1 rfl) ?_
  refine gm_icn (b := (u.1 6 0)) (d := dw) (tgt := 10) hx hb d_R_handle_5 rfl (fun h1 => ?_) (fun h1 => ?_)
  · refine lv_aload_n hx hb d_R_handle_10 rfl (lv_at hl 0 rfl) ?_
    refine lv_iload_n hx hb d_R_handle_11 rfl (lv_at hl 1 rfl) ?_
    refine gp_R_42 hF hM (x := dw) rfl d_R_handle_12 (fun H locs hM => ?_)
    refine lv_iconst (v := 0) hx hb d_R_handle_15 (by decide) ?_
    refine lv_istore_n (lv' := [(2, .int (0 : Int32)), (0, .ref (a 0)), (1, .int (gm_b dw))]) hx hb d_R_handle_16 rfl hl (by decide) rfl (fun ls hl => ?_)
    have L2 : ∀ (k2 i2 : Nat) (w2 : gm_St) (ls : Array Slot) (H : Heap) (locs : List Loc), i2 + k2 = 2 → lv_has ls 3 [(2, .int (nI i2)), (0, .ref (a 0)), (1, .int (gm_b dw))] → gm_M D A s (gr_W dk a) w2 H locs → (∀ (ls : Array Slot) (H : Heap) (locs : List Loc), lv_has ls 3 [(2, .int (nI 2)), (0, .ref (a 0)), (1, .int (gm_b dw))] → gm_M D A s (gr_W dk a) (lp_R_handle k2 i2 w2) H locs → W p l e rm_R_handle s m args below meth c H locs 0 0 Q (F0 m 51 ls [])) → W p l e rm_R_handle s m args below meth c H locs 0 0 Q (F0 m 17 ls []) := by
      intro k2
      induction k2 with
      | zero =>
        intro i2 w2 ls H locs hk2 hl hM kk
        obtain rfl : i2 = 2 := by omega
        refine lv_iload_n hx hb d_R_handle_17 rfl (lv_at hl 0 rfl) ?_
        refine lv_iconst (v := 2) hx hb d_R_handle_18 (by decide) ?_
        refine lv_icmp_ge (tgt := 51) hx hb d_R_handle_19 rfl (fun _ => ?_) (fun h => absurd (by decide) h)
        exact kk ls H locs hl hM
      | succ k2 ih =>
        intro i2 w2 ls H locs hk2 hl hM kk
        refine lv_iload_n hx hb d_R_handle_17 rfl (lv_at hl 0 rfl) ?_
        refine lv_iconst (v := 2) hx hb d_R_handle_18 (by decide) ?_
        refine lv_icmp_ge (tgt := 51) hx hb d_R_handle_19 rfl (fun h => absurd h (nI_ge (a := i2) (b := 2) (by omega) (by first | decide | omega))) (fun _ => ?_)
        refine lv_aload_n hx hb d_R_handle_22 rfl (lv_at hl 1 rfl) ?_
        refine gf_R_7 hF hM d_R_handle_23 ?_
        refine lv_iload_n hx hb d_R_handle_26 rfl (lv_at hl 0 rfl) ?_
        refine ga_failed (k := i2) hF hM rfl (by first | omega | exact Nat.mod_lt _ (by decide)) d_R_handle_27 ?_
        have J4 : ∀ (ls : Array Slot) (H : Heap) (locs : List Loc), lv_has ls 3 [(0, .ref (a 0)), (1, .int (gm_b dw)), (2, .int (nI i2))] → gm_M D A s (gr_W dk a) (if (w2.1 0 i2) = true then w2 else (gm_sG (gm_sB w2 5 i2 true) 1 i2 (0 : Int32))) H locs → W p l e rm_R_handle s m args below meth c H locs 0 0 Q (F0 m 45 ls []) := by
          intro ls H locs hl hM
          refine lv_iinc (k := 2) (v := (nI (i2 + 1))) (lv' := [(2, .int (nI (i2 + 1))), (0, .ref (a 0)), (1, .int (gm_b dw))]) hx hb d_R_handle_45 hl rfl (nI_1 _) (by decide) rfl (fun ls hl => ?_)
          refine lv_goto (tgt := 17) hx hb d_R_handle_48 rfl ?_
          have hK := kk
          simp only [lp_R_handle] at hK
          exact ih (i2 + 1) (if (w2.1 0 i2) = true then w2 else (gm_sG (gm_sB w2 5 i2 true) 1 i2 (0 : Int32))) ls H locs (by omega) hl hM hK
        refine gm_ifn (b := (w2.1 0 i2)) (tgt := 45) hx hb d_R_handle_28 rfl (fun h3 => ?_) (fun h3 => ?_)
        · have hJ := J4
          try simp only [if_pos h3] at hJ
          exact hJ ls H locs (lv_sub hl [1, 2, 0] rfl) hM
        · refine lv_aload_n hx hb d_R_handle_31 rfl (lv_at hl 1 rfl) ?_
          refine gf_R_29 hF hM d_R_handle_32 ?_
          refine lv_iload_n hx hb d_R_handle_35 rfl (lv_at hl 0 rfl) ?_
          refine lv_iconst (v := 1) hx hb d_R_handle_36 (by decide) ?_
          refine gq_waits (k := i2) hF hM rfl (by first | omega | exact Nat.mod_lt _ (by decide)) (v := true) rfl d_R_handle_37 (fun H locs hM => ?_)
          refine lv_aload_n hx hb d_R_handle_38 rfl (lv_at hl 1 rfl) ?_
          refine gf_R_32 hF hM d_R_handle_39 ?_
          refine lv_iload_n hx hb d_R_handle_42 rfl (lv_at hl 0 rfl) ?_
          refine lv_iconst (v := 0) hx hb d_R_handle_43 (by decide) ?_
          refine gq_waited (k := i2) hF hM rfl (by first | omega | exact Nat.mod_lt _ (by decide)) d_R_handle_44 (fun H locs hM => ?_)
          have hJ := J4
          try simp only [if_neg (gm_nf h3)] at hJ
          exact hJ ls H locs (lv_sub hl [1, 2, 0] rfl) hM
    refine L2 2 0 (gm_sB u 6 0 dw) ls H locs (by omega) hl hM (fun ls H locs hl hM => ?_)
    refine lv_iconst (v := 1) hx hb d_R_handle_51 (by decide) ?_
    have hq := hQ H locs 52 ls
    simp only [v_R_handle, s_R_handle, if_neg h1] at hq
    exact hq hM d_R_handle_52
  · refine lv_iconst (v := 0) hx hb d_R_handle_8 (by decide) ?_
    have hq := hQ H locs 9 ls
    simp only [v_R_handle, s_R_handle, if_pos h1] at hq
    exact hq hM d_R_handle_9
theorem d_R_channel_0 : decode b_R_channel 0 = .ok (.aload_n 0, 1) := by decide +kernel
theorem d_R_channel_1 : decode b_R_channel 1 = .ok (.getfield 46, 3) := by decide +kernel
theorem d_R_channel_4 : decode b_R_channel 4 = .ok (.iconst 3, 1) := by decide +kernel
theorem d_R_channel_5 : decode b_R_channel 5 = .ok (.iload_n 1, 1) := by decide +kernel
theorem d_R_channel_6 : decode b_R_channel 6 = .ok (.imul, 1) := by decide +kernel
theorem d_R_channel_7 : decode b_R_channel 7 = .ok (.iload_n 2, 1) := by decide +kernel
theorem d_R_channel_8 : decode b_R_channel 8 = .ok (.iadd, 1) := by decide +kernel
theorem d_R_channel_9 : decode b_R_channel 9 = .ok (.ishr, 1) := by decide +kernel
theorem d_R_channel_10 : decode b_R_channel 10 = .ok (.iconst 1, 1) := by decide +kernel
theorem d_R_channel_11 : decode b_R_channel 11 = .ok (.iand, 1) := by decide +kernel
theorem d_R_channel_12 : decode b_R_channel 12 = .ok (.iconst 1, 1) := by decide +kernel
theorem d_R_channel_13 : decode b_R_channel 13 = .ok (.if_icmp .ne 7, 3) := by decide +kernel
theorem d_R_channel_16 : decode b_R_channel 16 = .ok (.iconst 1, 1) := by decide +kernel
theorem d_R_channel_17 : decode b_R_channel 17 = .ok (.goto 4, 3) := by decide +kernel
theorem d_R_channel_20 : decode b_R_channel 20 = .ok (.iconst 0, 1) := by decide +kernel
theorem d_R_channel_21 : decode b_R_channel 21 = .ok (.ireturn, 1) := by decide +kernel
def v_R_channel (u : gm_St) (sn : Nat) (cn : Nat) : Bool := (if (((u.2.1 3 1) >>> ((((3 : Int32) * (nI sn)) + (nI cn)) &&& 31)) &&& (1 : Int32)) = (1 : Int32) then true else false)
set_option maxRecDepth 100000 in
set_option maxHeartbeats 4000000 in
theorem c_R_channel {l : Launch} {D : va_G} {dk : Nat → ClassId} {a : Nat → Nat} {A : Nat → Prop} {lt : Nat} {u : gm_St} {sn : Nat} {cn : Nat} (h_sn : sn < 6) (h_cn : cn < 3) : gm_I l D (gm_ty dk) (gr_W dk a) A lt y_R_channel b_R_channel 3 (some .boolean) rm_R_channel [.ref (a 0), .int (nI sn), .int (nI cn)] u (gm_b (v_R_channel u sn cn)) u := by
  refine gm_enterZ (by decide) (Nat.le_of_ble_eq_true rfl) ?_
  intro p e s m args below meth c ls Q H locs hF hM hl hQ
  have hx := hF.1
  have hb := hF.2.1
  have hml := hF.2.2.1
  have hown := hF.2.2.2.1
  have hts := hF.2.2.2.2.1
  have hl : lv_has ls 3 [(0, .ref (a 0)), (1, .int (nI sn)), (2, .int (nI cn))] := hl
  refine lv_aload_n hx hb d_R_channel_0 rfl (lv_at hl 0 rfl) ?_
  refine gf_R_46 hF hM d_R_channel_1 ?_
  refine lv_iconst (v := 3) hx hb d_R_channel_4 (by decide) ?_
  refine lv_iload_n hx hb d_R_channel_5 rfl (lv_at hl 1 rfl) ?_
  refine lv_imul hx hb d_R_channel_6 ?_
  refine lv_iload_n hx hb d_R_channel_7 rfl (lv_at hl 2 rfl) ?_
  refine lv_iadd hx hb d_R_channel_8 ?_
  refine lv_ishr hx hb d_R_channel_9 ?_
  refine lv_iconst (v := 1) hx hb d_R_channel_10 (by decide) ?_
  refine lv_iand hx hb d_R_channel_11 ?_
  refine lv_iconst (v := 1) hx hb d_R_channel_12 (by decide) ?_
  have J2 : ∀ (ls : Array Slot) (H : Heap) (locs : List Loc), lv_has ls 3 [(0, .ref (a 0)), (1, .int (nI sn)), (2, .int (nI cn))] → gm_M D A s (gr_W dk a) u H locs → W p l e rm_R_channel s m args below meth c H locs 0 0 Q (F0 m 21 ls [.int (gm_b (if (((u.2.1 3 1) >>> ((((3 : Int32) * (nI sn)) + (nI cn)) &&& 31)) &&& (1 : Int32)) = (1 : Int32) then true else false))]) := by
    intro ls H locs hl hM
    have hq := hQ H locs 21 ls
    simp only [v_R_channel] at hq
    exact hq hM d_R_channel_21
  refine lv_icmp_ne (tgt := 20) hx hb d_R_channel_13 rfl (fun h1 => ?_) (fun h1 => ?_)
  · refine lv_iconst (v := 0) hx hb d_R_channel_20 (by decide) ?_
    have hJ := J2
    try simp only [if_neg h1] at hJ
    exact hJ ls H locs hl hM
  · refine lv_iconst (v := 1) hx hb d_R_channel_16 (by decide) ?_
    refine lv_goto (tgt := 21) hx hb d_R_channel_17 rfl ?_
    have hJ := J2
    try simp only [if_pos h1] at hJ
    exact hJ ls H locs hl hM
theorem d_R_say_0 : decode b_R_say 0 = .ok (.iconst 0, 1) := by decide +kernel
theorem d_R_say_1 : decode b_R_say 1 = .ok (.istore 4, 2) := by decide +kernel
theorem d_R_say_3 : decode b_R_say 3 = .ok (.iconst 0, 1) := by decide +kernel
theorem d_R_say_4 : decode b_R_say 4 = .ok (.istore 5, 2) := by decide +kernel
theorem d_R_say_6 : decode b_R_say 6 = .ok (.iload 5, 2) := by decide +kernel
theorem d_R_say_8 : decode b_R_say 8 = .ok (.iconst 3, 1) := by decide +kernel
theorem d_R_say_9 : decode b_R_say 9 = .ok (.if_icmp .ge 50, 3) := by decide +kernel
theorem d_R_say_12 : decode b_R_say 12 = .ok (.aload_n 0, 1) := by decide +kernel
theorem d_R_say_13 : decode b_R_say 13 = .ok (.getfield 13, 3) := by decide +kernel
theorem d_R_say_16 : decode b_R_say 16 = .ok (.bipush 18, 2) := by decide +kernel
theorem d_R_say_18 : decode b_R_say 18 = .ok (.iload_n 1, 1) := by decide +kernel
theorem d_R_say_19 : decode b_R_say 19 = .ok (.imul, 1) := by decide +kernel
theorem d_R_say_20 : decode b_R_say 20 = .ok (.iconst 3, 1) := by decide +kernel
theorem d_R_say_21 : decode b_R_say 21 = .ok (.iload_n 2, 1) := by decide +kernel
theorem d_R_say_22 : decode b_R_say 22 = .ok (.imul, 1) := by decide +kernel
theorem d_R_say_23 : decode b_R_say 23 = .ok (.iadd, 1) := by decide +kernel
theorem d_R_say_24 : decode b_R_say 24 = .ok (.iload 5, 2) := by decide +kernel
theorem d_R_say_26 : decode b_R_say 26 = .ok (.iadd, 1) := by decide +kernel
theorem d_R_say_27 : decode b_R_say 27 = .ok (.baload, 1) := by decide +kernel
theorem d_R_say_28 : decode b_R_say 28 = .ok (.ifCond .ne 21, 3) := by decide +kernel
theorem d_R_say_31 : decode b_R_say 31 = .ok (.aload_n 0, 1) := by decide +kernel
theorem d_R_say_32 : decode b_R_say 32 = .ok (.iload_n 2, 1) := by decide +kernel
theorem d_R_say_33 : decode b_R_say 33 = .ok (.iload 5, 2) := by decide +kernel
theorem d_R_say_35 : decode b_R_say 35 = .ok (.invokevirtual 50, 3) := by decide +kernel
theorem d_R_say_38 : decode b_R_say 38 = .ok (.iload_n 3, 1) := by decide +kernel
theorem d_R_say_39 : decode b_R_say 39 = .ok (.if_icmp .ne 10, 3) := by decide +kernel
theorem d_R_say_42 : decode b_R_say 42 = .ok (.iload 4, 2) := by decide +kernel
theorem d_R_say_44 : decode b_R_say 44 = .ok (.iconst 1, 1) := by decide +kernel
theorem d_R_say_45 : decode b_R_say 45 = .ok (.iadd, 1) := by decide +kernel
theorem d_R_say_46 : decode b_R_say 46 = .ok (.goto 5, 3) := by decide +kernel
theorem d_R_say_49 : decode b_R_say 49 = .ok (.iload 4, 2) := by decide +kernel
theorem d_R_say_51 : decode b_R_say 51 = .ok (.istore 4, 2) := by decide +kernel
theorem d_R_say_53 : decode b_R_say 53 = .ok (.iinc 5 1, 3) := by decide +kernel
theorem d_R_say_56 : decode b_R_say 56 = .ok (.goto (-50), 3) := by decide +kernel
theorem d_R_say_59 : decode b_R_say 59 = .ok (.iload 4, 2) := by decide +kernel
theorem d_R_say_61 : decode b_R_say 61 = .ok (.ireturn, 1) := by decide +kernel
def lp_R_say (u : gm_St) (mn : Nat) (sn : Nat) (ob : Bool) : Nat → Nat → Int32 → Int32
  | 0, _, x => x
  | k + 1, i, x => lp_R_say u mn sn ob k (i + 1) (if (u.1 1 (18 * mn + (3 * sn) + i)) = true then x else (if (v_R_channel u sn i) = ob then (x + (1 : Int32)) else x))
def v_R_say (u : gm_St) (mn : Nat) (sn : Nat) (ob : Bool) : Int32 := (lp_R_say u mn sn ob 3 0 (0 : Int32))
set_option maxRecDepth 100000 in
set_option maxHeartbeats 4000000 in
theorem c_R_say {l : Launch} {D : va_G} {dk : Nat → ClassId} {a : Nat → Nat} {A : Nat → Prop} {lt : Nat} {u : gm_St} {mn : Nat} {sn : Nat} {ob : Bool} (h_mn : mn < 2) (h_sn : sn < 6) : gm_I l D (gm_ty dk) (gr_W dk a) A lt y_R_say b_R_say 6 (some .int) rm_R_say [.ref (a 0), .int (nI mn), .int (nI sn), .int (gm_b ob)] u (v_R_say u mn sn ob) u := by
  refine gm_enterI (by decide) (Nat.le_of_ble_eq_true rfl) ?_
  intro p e s m args below meth c ls Q H locs hF hM hl hQ
  have hx := hF.1
  have hb := hF.2.1
  have hml := hF.2.2.1
  have hown := hF.2.2.2.1
  have hts := hF.2.2.2.2.1
  have hl : lv_has ls 6 [(0, .ref (a 0)), (1, .int (nI mn)), (2, .int (nI sn)), (3, .int (gm_b ob))] := hl
  refine lv_iconst (v := 0) hx hb d_R_say_0 (by decide) ?_
  refine lv_istore (lv' := [(4, .int (0 : Int32)), (0, .ref (a 0)), (1, .int (nI mn)), (2, .int (nI sn)), (3, .int (gm_b ob))]) hx hb d_R_say_1 hl (by decide) rfl (fun ls hl => ?_)
  refine lv_iconst (v := 0) hx hb d_R_say_3 (by decide) ?_
  refine lv_istore (lv' := [(5, .int (0 : Int32)), (4, .int (0 : Int32)), (0, .ref (a 0)), (1, .int (nI mn)), (2, .int (nI sn)), (3, .int (gm_b ob))]) hx hb d_R_say_4 hl (by decide) rfl (fun ls hl => ?_)
  have L1 : ∀ (k1 i1 : Nat) (x1 : Int32) (ls : Array Slot) (H : Heap) (locs : List Loc), i1 + k1 = 3 → lv_has ls 6 [(5, .int (nI i1)), (4, .int x1), (0, .ref (a 0)), (1, .int (nI mn)), (2, .int (nI sn)), (3, .int (gm_b ob))] → gm_M D A s (gr_W dk a) u H locs → (∀ (ls : Array Slot) (H : Heap) (locs : List Loc), lv_has ls 6 [(5, .int (nI 3)), (4, .int (lp_R_say u mn sn ob k1 i1 x1)), (0, .ref (a 0)), (1, .int (nI mn)), (2, .int (nI sn)), (3, .int (gm_b ob))] → gm_M D A s (gr_W dk a) u H locs → W p l e rm_R_say s m args below meth c H locs 0 0 Q (F0 m 59 ls [])) → W p l e rm_R_say s m args below meth c H locs 0 0 Q (F0 m 6 ls []) := by
    intro k1
    induction k1 with
    | zero =>
      intro i1 x1 ls H locs hk1 hl hM kk
      obtain rfl : i1 = 3 := by omega
      refine lv_iload hx hb d_R_say_6 (lv_at hl 0 rfl) ?_
      refine lv_iconst (v := 3) hx hb d_R_say_8 (by decide) ?_
      refine lv_icmp_ge (tgt := 59) hx hb d_R_say_9 rfl (fun _ => ?_) (fun h => absurd (by decide) h)
      exact kk ls H locs hl hM
    | succ k1 ih =>
      intro i1 x1 ls H locs hk1 hl hM kk
      refine lv_iload hx hb d_R_say_6 (lv_at hl 0 rfl) ?_
      refine lv_iconst (v := 3) hx hb d_R_say_8 (by decide) ?_
      refine lv_icmp_ge (tgt := 59) hx hb d_R_say_9 rfl (fun h => absurd h (nI_ge (a := i1) (b := 3) (by omega) (by first | decide | omega))) (fun _ => ?_)
      refine lv_aload_n hx hb d_R_say_12 rfl (lv_at hl 2 rfl) ?_
      refine gf_R_13 hF hM d_R_say_13 ?_
      refine lv_bipush (v := 18) hx hb d_R_say_16 (by decide) ?_
      refine lv_iload_n hx hb d_R_say_18 rfl (lv_at hl 3 rfl) ?_
      refine lv_imul hx hb d_R_say_19 ?_
      refine lv_iconst (v := 3) hx hb d_R_say_20 (by decide) ?_
      refine lv_iload_n hx hb d_R_say_21 rfl (lv_at hl 4 rfl) ?_
      refine lv_imul hx hb d_R_say_22 ?_
      refine lv_iadd hx hb d_R_say_23 ?_
      refine lv_iload hx hb d_R_say_24 (lv_at hl 0 rfl) ?_
      refine lv_iadd hx hb d_R_say_26 ?_
      refine ga_bad (k := (18 * mn + (3 * sn) + i1)) hF hM (by first | rfl | (simp only [← nI_add, ← pk_mul] <;> rfl)) (by first | omega | exact Nat.mod_lt _ (by decide)) d_R_say_27 ?_
      have J3 : ∀ (ls : Array Slot) (H : Heap) (locs : List Loc), lv_has ls 6 [(0, .ref (a 0)), (1, .int (nI mn)), (2, .int (nI sn)), (3, .int (gm_b ob)), (4, .int x1), (5, .int (nI i1))] → gm_M D A s (gr_W dk a) u H locs → W p l e rm_R_say s m args below meth c H locs 0 0 Q (F0 m 51 ls [.int (if (u.1 1 (18 * mn + (3 * sn) + i1)) = true then x1 else (if (v_R_channel u sn i1) = ob then (x1 + (1 : Int32)) else x1))]) := by
        intro ls H locs hl hM
        refine lv_istore (lv' := [(4, .int (if (u.1 1 (18 * mn + (3 * sn) + i1)) = true then x1 else (if (v_R_channel u sn i1) = ob then (x1 + (1 : Int32)) else x1))), (0, .ref (a 0)), (1, .int (nI mn)), (2, .int (nI sn)), (3, .int (gm_b ob)), (5, .int (nI i1))]) hx hb d_R_say_51 hl (by decide) rfl (fun ls hl => ?_)
        refine lv_iinc (k := 5) (v := (nI (i1 + 1))) (lv' := [(5, .int (nI (i1 + 1))), (4, .int (if (u.1 1 (18 * mn + (3 * sn) + i1)) = true then x1 else (if (v_R_channel u sn i1) = ob then (x1 + (1 : Int32)) else x1))), (0, .ref (a 0)), (1, .int (nI mn)), (2, .int (nI sn)), (3, .int (gm_b ob))]) hx hb d_R_say_53 hl rfl (nI_1 _) (by decide) rfl (fun ls hl => ?_)
        refine lv_goto (tgt := 6) hx hb d_R_say_56 rfl ?_
        have hK := kk
        simp only [lp_R_say] at hK
        exact ih (i1 + 1) (if (u.1 1 (18 * mn + (3 * sn) + i1)) = true then x1 else (if (v_R_channel u sn i1) = ob then (x1 + (1 : Int32)) else x1)) ls H locs (by omega) hl hM hK
      refine gm_ifn (b := (u.1 1 (18 * mn + (3 * sn) + i1))) (tgt := 49) hx hb d_R_say_28 rfl (fun h2 => ?_) (fun h2 => ?_)
      · refine lv_iload hx hb d_R_say_49 (lv_at hl 1 rfl) ?_
        have hJ := J3
        try simp only [if_pos h2] at hJ
        exact hJ ls H locs (lv_sub hl [2, 3, 4, 5, 1, 0] rfl) hM
      · refine lv_aload_n hx hb d_R_say_31 rfl (lv_at hl 2 rfl) ?_
        refine lv_iload_n hx hb d_R_say_32 rfl (lv_at hl 4 rfl) ?_
        refine lv_iload hx hb d_R_say_33 (lv_at hl 0 rfl) ?_
        refine gm_Vi (As := [.int (nI sn), .int (nI i1)]) (rest := []) hF hM (c_R_channel (u := u) (sn := sn) (cn := i1) (by omega) (by omega)) (gk_R_50 hts ⟨by decide, by decide⟩) (gv_R hF hM rfl) rfl hl.1 rfl (Nat.le_of_ble_eq_true rfl) ⟨Nat.zero_le _, Nat.zero_le _⟩ d_R_say_35 (fun H locs hM => ?_)
        refine lv_iload_n hx hb d_R_say_38 rfl (lv_at hl 5 rfl) ?_
        refine gm_icn (b := (v_R_channel u sn i1)) (d := ob) (tgt := 49) hx hb d_R_say_39 rfl (fun h4 => ?_) (fun h4 => ?_)
        · refine lv_iload hx hb d_R_say_49 (lv_at hl 1 rfl) ?_
          have hJ := J3
          try simp only [if_neg (gm_nf h2), if_neg h4] at hJ
          exact hJ ls H locs (lv_sub hl [2, 3, 4, 5, 1, 0] rfl) hM
        · refine lv_iload hx hb d_R_say_42 (lv_at hl 1 rfl) ?_
          refine lv_iconst (v := 1) hx hb d_R_say_44 (by decide) ?_
          refine lv_iadd hx hb d_R_say_45 ?_
          refine lv_goto (tgt := 51) hx hb d_R_say_46 rfl ?_
          have hJ := J3
          try simp only [if_neg (gm_nf h2), if_pos h4] at hJ
          exact hJ ls H locs (lv_sub hl [2, 3, 4, 5, 1, 0] rfl) hM
  refine L1 3 0 (0 : Int32) ls H locs (by omega) hl hM (fun ls H locs hl hM => ?_)
  refine lv_iload hx hb d_R_say_59 (lv_at hl 1 rfl) ?_
  have hq := hQ H locs 61 ls
  simp only [v_R_say] at hq
  exact hq hM d_R_say_61
theorem d_R_gets_0 : decode b_R_gets 0 = .ok (.aload_n 0, 1) := by decide +kernel
theorem d_R_gets_1 : decode b_R_gets 1 = .ok (.getfield 22, 3) := by decide +kernel
theorem d_R_gets_4 : decode b_R_gets 4 = .ok (.bipush 16, 2) := by decide +kernel
theorem d_R_gets_6 : decode b_R_gets 6 = .ok (.iload_n 1, 1) := by decide +kernel
theorem d_R_gets_7 : decode b_R_gets 7 = .ok (.imul, 1) := by decide +kernel
theorem d_R_gets_8 : decode b_R_gets 8 = .ok (.iload_n 2, 1) := by decide +kernel
theorem d_R_gets_9 : decode b_R_gets 9 = .ok (.iadd, 1) := by decide +kernel
theorem d_R_gets_10 : decode b_R_gets 10 = .ok (.baload, 1) := by decide +kernel
theorem d_R_gets_11 : decode b_R_gets 11 = .ok (.ifCond .ne 56, 3) := by decide +kernel
theorem d_R_gets_14 : decode b_R_gets 14 = .ok (.aload_n 0, 1) := by decide +kernel
theorem d_R_gets_15 : decode b_R_gets 15 = .ok (.getfield 22, 3) := by decide +kernel
theorem d_R_gets_18 : decode b_R_gets 18 = .ok (.bipush 16, 2) := by decide +kernel
theorem d_R_gets_20 : decode b_R_gets 20 = .ok (.iload_n 1, 1) := by decide +kernel
theorem d_R_gets_21 : decode b_R_gets 21 = .ok (.imul, 1) := by decide +kernel
theorem d_R_gets_22 : decode b_R_gets 22 = .ok (.iload_n 2, 1) := by decide +kernel
theorem d_R_gets_23 : decode b_R_gets 23 = .ok (.iadd, 1) := by decide +kernel
theorem d_R_gets_24 : decode b_R_gets 24 = .ok (.iconst 1, 1) := by decide +kernel
theorem d_R_gets_25 : decode b_R_gets 25 = .ok (.bastore, 1) := by decide +kernel
theorem d_R_gets_26 : decode b_R_gets 26 = .ok (.aload_n 0, 1) := by decide +kernel
theorem d_R_gets_27 : decode b_R_gets 27 = .ok (.getfield 38, 3) := by decide +kernel
theorem d_R_gets_30 : decode b_R_gets 30 = .ok (.aload_n 0, 1) := by decide +kernel
theorem d_R_gets_31 : decode b_R_gets 31 = .ok (.getfield 77, 3) := by decide +kernel
theorem d_R_gets_34 : decode b_R_gets 34 = .ok (.bipush 16, 2) := by decide +kernel
theorem d_R_gets_36 : decode b_R_gets 36 = .ok (.irem, 1) := by decide +kernel
theorem d_R_gets_37 : decode b_R_gets 37 = .ok (.aload_n 0, 1) := by decide +kernel
theorem d_R_gets_38 : decode b_R_gets 38 = .ok (.getfield 80, 3) := by decide +kernel
theorem d_R_gets_41 : decode b_R_gets 41 = .ok (.i2l, 1) := by decide +kernel
theorem d_R_gets_42 : decode b_R_gets 42 = .ok (.ldc2_w 83, 3) := by decide +kernel
theorem d_R_gets_45 : decode b_R_gets 45 = .ok (.lmul, 1) := by decide +kernel
theorem d_R_gets_46 : decode b_R_gets 46 = .ok (.ldc2_w 85, 3) := by decide +kernel
theorem d_R_gets_49 : decode b_R_gets 49 = .ok (.iload_n 1, 1) := by decide +kernel
theorem d_R_gets_50 : decode b_R_gets 50 = .ok (.i2l, 1) := by decide +kernel
theorem d_R_gets_51 : decode b_R_gets 51 = .ok (.lmul, 1) := by decide +kernel
theorem d_R_gets_52 : decode b_R_gets 52 = .ok (.ladd, 1) := by decide +kernel
theorem d_R_gets_53 : decode b_R_gets 53 = .ok (.iload_n 2, 1) := by decide +kernel
theorem d_R_gets_54 : decode b_R_gets 54 = .ok (.i2l, 1) := by decide +kernel
theorem d_R_gets_55 : decode b_R_gets 55 = .ok (.ladd, 1) := by decide +kernel
theorem d_R_gets_56 : decode b_R_gets 56 = .ok (.lastore, 1) := by decide +kernel
theorem d_R_gets_57 : decode b_R_gets 57 = .ok (.aload_n 0, 1) := by decide +kernel
theorem d_R_gets_58 : decode b_R_gets 58 = .ok (.dup, 1) := by decide +kernel
theorem d_R_gets_59 : decode b_R_gets 59 = .ok (.getfield 77, 3) := by decide +kernel
theorem d_R_gets_62 : decode b_R_gets 62 = .ok (.iconst 1, 1) := by decide +kernel
theorem d_R_gets_63 : decode b_R_gets 63 = .ok (.iadd, 1) := by decide +kernel
theorem d_R_gets_64 : decode b_R_gets 64 = .ok (.putfield 77, 3) := by decide +kernel
theorem d_R_gets_67 : decode b_R_gets 67 = .ok (.return_, 1) := by decide +kernel
def s_R_gets (u : gm_St) (mn : Nat) (kn : Nat) : gm_St := (if (u.1 4 (16 * mn + kn)) = true then u else (gm_sN (gm_sL (gm_sB u 4 (16 * mn + kn) true) ((((gm_sB u 4 (16 * mn + kn) true).2.2.1 0)) % 16) ((((((gm_sB u 4 (16 * mn + kn) true).2.1 3 0)).toInt64 * (32 : Int64)) + ((16 : Int64) * ((nI mn)).toInt64)) + ((nI kn)).toInt64)) 0 (((gm_sL (gm_sB u 4 (16 * mn + kn) true) ((((gm_sB u 4 (16 * mn + kn) true).2.2.1 0)) % 16) ((((((gm_sB u 4 (16 * mn + kn) true).2.1 3 0)).toInt64 * (32 : Int64)) + ((16 : Int64) * ((nI mn)).toInt64)) + ((nI kn)).toInt64)).2.2.1 0) + 1)))
set_option maxRecDepth 100000 in
set_option maxHeartbeats 4000000 in
theorem c_R_gets {l : Launch} {D : va_G} {dk : Nat → ClassId} {a : Nat → Nat} {A : Nat → Prop} {lt : Nat} {u : gm_St} {mn : Nat} {kn : Nat} (h_mn : mn < 2) (h_kn : kn < 16) (hp0 : u.2.2.1 0 + 1 ≤ 1073741824) : gm_V l D (gm_ty dk) (gr_W dk a) A lt y_R_gets b_R_gets 3 rm_R_gets [.ref (a 0), .int (nI mn), .int (nI kn)] u (s_R_gets u mn kn) := by
  refine gm_enterV (by decide) (Nat.le_of_ble_eq_true rfl) ?_
  intro p e s m args below meth c ls Q H locs hF hM hl hQ
  have hx := hF.1
  have hb := hF.2.1
  have hml := hF.2.2.1
  have hown := hF.2.2.2.1
  have hts := hF.2.2.2.2.1
  have hl : lv_has ls 3 [(0, .ref (a 0)), (1, .int (nI mn)), (2, .int (nI kn))] := hl
  refine lv_aload_n hx hb d_R_gets_0 rfl (lv_at hl 0 rfl) ?_
  refine gf_R_22 hF hM d_R_gets_1 ?_
  refine lv_bipush (v := 16) hx hb d_R_gets_4 (by decide) ?_
  refine lv_iload_n hx hb d_R_gets_6 rfl (lv_at hl 1 rfl) ?_
  refine lv_imul hx hb d_R_gets_7 ?_
  refine lv_iload_n hx hb d_R_gets_8 rfl (lv_at hl 2 rfl) ?_
  refine lv_iadd hx hb d_R_gets_9 ?_
  refine ga_had (k := (16 * mn + kn)) hF hM (by first | rfl | (simp only [← nI_add, ← pk_mul] <;> rfl)) (by first | omega | exact Nat.mod_lt _ (by decide)) d_R_gets_10 ?_
  have J2 : ∀ (ls : Array Slot) (H : Heap) (locs : List Loc), lv_has ls 3 [(0, .ref (a 0)), (1, .int (nI mn)), (2, .int (nI kn))] → gm_M D A s (gr_W dk a) (if (u.1 4 (16 * mn + kn)) = true then u else (gm_sN (gm_sL (gm_sB u 4 (16 * mn + kn) true) ((((gm_sB u 4 (16 * mn + kn) true).2.2.1 0)) % 16) ((((((gm_sB u 4 (16 * mn + kn) true).2.1 3 0)).toInt64 * (32 : Int64)) + ((16 : Int64) * ((nI mn)).toInt64)) + ((nI kn)).toInt64)) 0 (((gm_sL (gm_sB u 4 (16 * mn + kn) true) ((((gm_sB u 4 (16 * mn + kn) true).2.2.1 0)) % 16) ((((((gm_sB u 4 (16 * mn + kn) true).2.1 3 0)).toInt64 * (32 : Int64)) + ((16 : Int64) * ((nI mn)).toInt64)) + ((nI kn)).toInt64)).2.2.1 0) + 1))) H locs → W p l e rm_R_gets s m args below meth c H locs 0 0 Q (F0 m 67 ls []) := by
    intro ls H locs hl hM
    have hq := hQ H locs 67 ls
    simp only [s_R_gets] at hq
    exact hq hM d_R_gets_67
  refine gm_ifn (b := (u.1 4 (16 * mn + kn))) (tgt := 67) hx hb d_R_gets_11 rfl (fun h1 => ?_) (fun h1 => ?_)
  · have hJ := J2
    try simp only [if_pos h1] at hJ
    exact hJ ls H locs hl hM
  · refine lv_aload_n hx hb d_R_gets_14 rfl (lv_at hl 0 rfl) ?_
    refine gf_R_22 hF hM d_R_gets_15 ?_
    refine lv_bipush (v := 16) hx hb d_R_gets_18 (by decide) ?_
    refine lv_iload_n hx hb d_R_gets_20 rfl (lv_at hl 1 rfl) ?_
    refine lv_imul hx hb d_R_gets_21 ?_
    refine lv_iload_n hx hb d_R_gets_22 rfl (lv_at hl 2 rfl) ?_
    refine lv_iadd hx hb d_R_gets_23 ?_
    refine lv_iconst (v := 1) hx hb d_R_gets_24 (by decide) ?_
    refine gq_had (k := (16 * mn + kn)) hF hM (by first | rfl | (simp only [← nI_add, ← pk_mul] <;> rfl)) (by first | omega | exact Nat.mod_lt _ (by decide)) (v := true) rfl d_R_gets_25 (fun H locs hM => ?_)
    refine lv_aload_n hx hb d_R_gets_26 rfl (lv_at hl 0 rfl) ?_
    refine gf_R_38 hF hM d_R_gets_27 ?_
    refine lv_aload_n hx hb d_R_gets_30 rfl (lv_at hl 0 rfl) ?_
    refine gf_R_77 hF hM d_R_gets_31 ?_
    refine lv_bipush (v := 16) hx hb d_R_gets_34 (by decide) ?_
    refine lv_irem hx hb d_R_gets_36 (by decide) ?_
    refine gm_tp (y := (nI ((((gm_sB u 4 (16 * mn + kn) true).2.2.1 0)) % 16))) (gm_rem rfl (by first | omega | (have := (‹gm_ok _›).1; omega) | exact Nat.lt_of_lt_of_le hp0 (by decide)) (by decide) (by decide)) ?_
    refine lv_aload_n hx hb d_R_gets_37 rfl (lv_at hl 0 rfl) ?_
    refine gf_R_80 hF hM d_R_gets_38 ?_
    refine lv_i2l hx hb d_R_gets_41 rfl ?_
    refine lv_ldc2 (v := 32) hx hb hown (hts _ (gm_in 382 (by decide +kernel) rfl)) d_R_gets_42 ?_
    refine lv_lmul hx hb d_R_gets_45 ?_
    refine lv_ldc2 (v := 16) hx hb hown (hts _ (gm_in 383 (by decide +kernel) rfl)) d_R_gets_46 ?_
    refine lv_iload_n hx hb d_R_gets_49 rfl (lv_at hl 1 rfl) ?_
    refine lv_i2l hx hb d_R_gets_50 rfl ?_
    refine lv_lmul hx hb d_R_gets_51 ?_
    refine lv_ladd hx hb d_R_gets_52 ?_
    refine lv_iload_n hx hb d_R_gets_53 rfl (lv_at hl 2 rfl) ?_
    refine lv_i2l hx hb d_R_gets_54 rfl ?_
    refine lv_ladd hx hb d_R_gets_55 ?_
    refine gq_rrec (k := ((((gm_sB u 4 (16 * mn + kn) true).2.2.1 0)) % 16)) hF hM rfl (by first | omega | exact Nat.mod_lt _ (by decide)) d_R_gets_56 (fun H locs hM => ?_)
    refine lv_aload_n hx hb d_R_gets_57 rfl (lv_at hl 0 rfl) ?_
    refine lv_dup hx hb d_R_gets_58 rfl ?_
    refine gf_R_77 hF hM d_R_gets_59 ?_
    refine lv_iconst (v := 1) hx hb d_R_gets_62 (by decide) ?_
    refine lv_iadd hx hb d_R_gets_63 ?_
    refine gp_R_77 hF hM (x := (((gm_sL (gm_sB u 4 (16 * mn + kn) true) ((((gm_sB u 4 (16 * mn + kn) true).2.2.1 0)) % 16) ((((((gm_sB u 4 (16 * mn + kn) true).2.1 3 0)).toInt64 * (32 : Int64)) + ((16 : Int64) * ((nI mn)).toInt64)) + ((nI kn)).toInt64)).2.2.1 0) + 1)) (by first | rfl | (simp only [← nI_add, ← pk_mul] <;> rfl)) d_R_gets_64 (fun H locs hM => ?_)
    have hJ := J2
    try simp only [if_neg (gm_nf h1)] at hJ
    exact hJ ls H locs hl hM
theorem gr_gets_N {u : gm_St} {mn kn : Nat} : (s_R_gets u mn kn).2.2.1 0 ≤ u.2.2.1 0 + 1 := by
  unfold s_R_gets
  split
  · exact Nat.le_succ _
  · exact Nat.le_refl _
theorem d_R_vote_0 : decode b_R_vote 0 = .ok (.bipush 6, 2) := by decide +kernel
theorem d_R_vote_2 : decode b_R_vote 2 = .ok (.iload_n 1, 1) := by decide +kernel
theorem d_R_vote_3 : decode b_R_vote 3 = .ok (.imul, 1) := by decide +kernel
theorem d_R_vote_4 : decode b_R_vote 4 = .ok (.iload_n 2, 1) := by decide +kernel
theorem d_R_vote_5 : decode b_R_vote 5 = .ok (.iadd, 1) := by decide +kernel
theorem d_R_vote_6 : decode b_R_vote 6 = .ok (.istore_n 3, 1) := by decide +kernel
theorem d_R_vote_7 : decode b_R_vote 7 = .ok (.aload_n 0, 1) := by decide +kernel
theorem d_R_vote_8 : decode b_R_vote 8 = .ok (.getfield 19, 3) := by decide +kernel
theorem d_R_vote_11 : decode b_R_vote 11 = .ok (.iload_n 3, 1) := by decide +kernel
theorem d_R_vote_12 : decode b_R_vote 12 = .ok (.baload, 1) := by decide +kernel
theorem d_R_vote_13 : decode b_R_vote 13 = .ok (.ifCond .eq 4, 3) := by decide +kernel
theorem d_R_vote_16 : decode b_R_vote 16 = .ok (.return_, 1) := by decide +kernel
theorem d_R_vote_17 : decode b_R_vote 17 = .ok (.aload_n 0, 1) := by decide +kernel
theorem d_R_vote_18 : decode b_R_vote 18 = .ok (.iload_n 1, 1) := by decide +kernel
theorem d_R_vote_19 : decode b_R_vote 19 = .ok (.iload_n 2, 1) := by decide +kernel
theorem d_R_vote_20 : decode b_R_vote 20 = .ok (.iconst 1, 1) := by decide +kernel
theorem d_R_vote_21 : decode b_R_vote 21 = .ok (.invokevirtual 54, 3) := by decide +kernel
theorem d_R_vote_24 : decode b_R_vote 24 = .ok (.istore 4, 2) := by decide +kernel
theorem d_R_vote_26 : decode b_R_vote 26 = .ok (.aload_n 0, 1) := by decide +kernel
theorem d_R_vote_27 : decode b_R_vote 27 = .ok (.iload_n 1, 1) := by decide +kernel
theorem d_R_vote_28 : decode b_R_vote 28 = .ok (.iload_n 2, 1) := by decide +kernel
theorem d_R_vote_29 : decode b_R_vote 29 = .ok (.iconst 0, 1) := by decide +kernel
theorem d_R_vote_30 : decode b_R_vote 30 = .ok (.invokevirtual 54, 3) := by decide +kernel
theorem d_R_vote_33 : decode b_R_vote 33 = .ok (.istore 5, 2) := by decide +kernel
theorem d_R_vote_35 : decode b_R_vote 35 = .ok (.iload 4, 2) := by decide +kernel
theorem d_R_vote_37 : decode b_R_vote 37 = .ok (.iload 5, 2) := by decide +kernel
theorem d_R_vote_39 : decode b_R_vote 39 = .ok (.if_icmp .ne 17, 3) := by decide +kernel
theorem d_R_vote_42 : decode b_R_vote 42 = .ok (.aload_n 0, 1) := by decide +kernel
theorem d_R_vote_43 : decode b_R_vote 43 = .ok (.getfield 19, 3) := by decide +kernel
theorem d_R_vote_46 : decode b_R_vote 46 = .ok (.iload_n 3, 1) := by decide +kernel
theorem d_R_vote_47 : decode b_R_vote 47 = .ok (.iconst 1, 1) := by decide +kernel
theorem d_R_vote_48 : decode b_R_vote 48 = .ok (.bastore, 1) := by decide +kernel
theorem d_R_vote_49 : decode b_R_vote 49 = .ok (.aload_n 0, 1) := by decide +kernel
theorem d_R_vote_50 : decode b_R_vote 50 = .ok (.iload_n 1, 1) := by decide +kernel
theorem d_R_vote_51 : decode b_R_vote 51 = .ok (.iload_n 2, 1) := by decide +kernel
theorem d_R_vote_52 : decode b_R_vote 52 = .ok (.invokevirtual 58, 3) := by decide +kernel
theorem d_R_vote_55 : decode b_R_vote 55 = .ok (.return_, 1) := by decide +kernel
theorem d_R_vote_56 : decode b_R_vote 56 = .ok (.aload_n 0, 1) := by decide +kernel
theorem d_R_vote_57 : decode b_R_vote 57 = .ok (.getfield 16, 3) := by decide +kernel
theorem d_R_vote_60 : decode b_R_vote 60 = .ok (.iload_n 3, 1) := by decide +kernel
theorem d_R_vote_61 : decode b_R_vote 61 = .ok (.iload 4, 2) := by decide +kernel
theorem d_R_vote_63 : decode b_R_vote 63 = .ok (.iload 5, 2) := by decide +kernel
theorem d_R_vote_65 : decode b_R_vote 65 = .ok (.if_icmp .le 7, 3) := by decide +kernel
theorem d_R_vote_68 : decode b_R_vote 68 = .ok (.iconst 1, 1) := by decide +kernel
theorem d_R_vote_69 : decode b_R_vote 69 = .ok (.goto 4, 3) := by decide +kernel
theorem d_R_vote_72 : decode b_R_vote 72 = .ok (.iconst 0, 1) := by decide +kernel
theorem d_R_vote_73 : decode b_R_vote 73 = .ok (.bastore, 1) := by decide +kernel
theorem d_R_vote_74 : decode b_R_vote 74 = .ok (.iconst 0, 1) := by decide +kernel
theorem d_R_vote_75 : decode b_R_vote 75 = .ok (.istore 6, 2) := by decide +kernel
theorem d_R_vote_77 : decode b_R_vote 77 = .ok (.iload 6, 2) := by decide +kernel
theorem d_R_vote_79 : decode b_R_vote 79 = .ok (.iconst 3, 1) := by decide +kernel
theorem d_R_vote_80 : decode b_R_vote 80 = .ok (.if_icmp .ge 55, 3) := by decide +kernel
theorem d_R_vote_83 : decode b_R_vote 83 = .ok (.iload 4, 2) := by decide +kernel
theorem d_R_vote_85 : decode b_R_vote 85 = .ok (.iload 5, 2) := by decide +kernel
theorem d_R_vote_87 : decode b_R_vote 87 = .ok (.iadd, 1) := by decide +kernel
theorem d_R_vote_88 : decode b_R_vote 88 = .ok (.iconst 3, 1) := by decide +kernel
theorem d_R_vote_89 : decode b_R_vote 89 = .ok (.if_icmp .ne 46, 3) := by decide +kernel
theorem d_R_vote_92 : decode b_R_vote 92 = .ok (.aload_n 0, 1) := by decide +kernel
theorem d_R_vote_93 : decode b_R_vote 93 = .ok (.getfield 13, 3) := by decide +kernel
theorem d_R_vote_96 : decode b_R_vote 96 = .ok (.bipush 18, 2) := by decide +kernel
theorem d_R_vote_98 : decode b_R_vote 98 = .ok (.iload_n 1, 1) := by decide +kernel
theorem d_R_vote_99 : decode b_R_vote 99 = .ok (.imul, 1) := by decide +kernel
theorem d_R_vote_100 : decode b_R_vote 100 = .ok (.iconst 3, 1) := by decide +kernel
theorem d_R_vote_101 : decode b_R_vote 101 = .ok (.iload_n 2, 1) := by decide +kernel
theorem d_R_vote_102 : decode b_R_vote 102 = .ok (.imul, 1) := by decide +kernel
theorem d_R_vote_103 : decode b_R_vote 103 = .ok (.iadd, 1) := by decide +kernel
theorem d_R_vote_104 : decode b_R_vote 104 = .ok (.iload 6, 2) := by decide +kernel
theorem d_R_vote_106 : decode b_R_vote 106 = .ok (.iadd, 1) := by decide +kernel
theorem d_R_vote_107 : decode b_R_vote 107 = .ok (.aload_n 0, 1) := by decide +kernel
theorem d_R_vote_108 : decode b_R_vote 108 = .ok (.iload_n 2, 1) := by decide +kernel
theorem d_R_vote_109 : decode b_R_vote 109 = .ok (.iload 6, 2) := by decide +kernel
theorem d_R_vote_111 : decode b_R_vote 111 = .ok (.invokevirtual 50, 3) := by decide +kernel
theorem d_R_vote_114 : decode b_R_vote 114 = .ok (.aload_n 0, 1) := by decide +kernel
theorem d_R_vote_115 : decode b_R_vote 115 = .ok (.getfield 16, 3) := by decide +kernel
theorem d_R_vote_118 : decode b_R_vote 118 = .ok (.iload_n 3, 1) := by decide +kernel
theorem d_R_vote_119 : decode b_R_vote 119 = .ok (.baload, 1) := by decide +kernel
theorem d_R_vote_120 : decode b_R_vote 120 = .ok (.if_icmp .eq 7, 3) := by decide +kernel
theorem d_R_vote_123 : decode b_R_vote 123 = .ok (.iconst 1, 1) := by decide +kernel
theorem d_R_vote_124 : decode b_R_vote 124 = .ok (.goto 4, 3) := by decide +kernel
theorem d_R_vote_127 : decode b_R_vote 127 = .ok (.iconst 0, 1) := by decide +kernel
theorem d_R_vote_128 : decode b_R_vote 128 = .ok (.bastore, 1) := by decide +kernel
theorem d_R_vote_129 : decode b_R_vote 129 = .ok (.iinc 6 1, 3) := by decide +kernel
theorem d_R_vote_132 : decode b_R_vote 132 = .ok (.goto (-55), 3) := by decide +kernel
theorem d_R_vote_135 : decode b_R_vote 135 = .ok (.return_, 1) := by decide +kernel
def lp_R_vote (mn : Nat) (sn : Nat) (at_ : Nat) : Nat → Nat → gm_St → gm_St
  | 0, _, u => u
  | k + 1, i, u => lp_R_vote mn sn at_ k (i + 1) (gm_sB u 1 (18 * mn + (3 * sn) + i) (if (v_R_channel u sn i) = (u.1 2 at_) then false else true))
def s_R_vote (u : gm_St) (mn : Nat) (sn : Nat) : gm_St := (if (u.1 3 (6 * mn + sn)) = true then u else (if (v_R_say u mn sn true) = (v_R_say u mn sn false) then (s_R_gets (gm_sB u 3 (6 * mn + sn) true) mn sn) else (if ((v_R_say u mn sn true) + (v_R_say u mn sn false)) = (3 : Int32) then (lp_R_vote mn sn (6 * mn + sn) 3 0 (gm_sB u 2 (6 * mn + sn) (if (v_R_say u mn sn true) ≤ (v_R_say u mn sn false) then false else true))) else (gm_sB u 2 (6 * mn + sn) (if (v_R_say u mn sn true) ≤ (v_R_say u mn sn false) then false else true)))))
set_option maxRecDepth 100000 in
set_option maxHeartbeats 4000000 in
theorem c_R_vote {l : Launch} {D : va_G} {dk : Nat → ClassId} {a : Nat → Nat} {A : Nat → Prop} {lt : Nat} {u : gm_St} {mn : Nat} {sn : Nat} (h_mn : mn < 2) (h_sn : sn < 6) (hp0 : u.2.2.1 0 + 1 ≤ 1073741824) : gm_V l D (gm_ty dk) (gr_W dk a) A lt y_R_vote b_R_vote 7 rm_R_vote [.ref (a 0), .int (nI mn), .int (nI sn)] u (s_R_vote u mn sn) := by
  refine gm_enterV (by decide) (Nat.le_of_ble_eq_true rfl) ?_
  intro p e s m args below meth c ls Q H locs hF hM hl hQ
  have hx := hF.1
  have hb := hF.2.1
  have hml := hF.2.2.1
  have hown := hF.2.2.2.1
  have hts := hF.2.2.2.2.1
  have hl : lv_has ls 7 [(0, .ref (a 0)), (1, .int (nI mn)), (2, .int (nI sn))] := hl
  refine lv_bipush (v := 6) hx hb d_R_vote_0 (by decide) ?_
  refine lv_iload_n hx hb d_R_vote_2 rfl (lv_at hl 1 rfl) ?_
  refine lv_imul hx hb d_R_vote_3 ?_
  refine lv_iload_n hx hb d_R_vote_4 rfl (lv_at hl 2 rfl) ?_
  refine lv_iadd hx hb d_R_vote_5 ?_
  refine lv_istore_n (lv' := [(3, .int (((6 : Int32) * (nI mn)) + (nI sn))), (0, .ref (a 0)), (1, .int (nI mn)), (2, .int (nI sn))]) hx hb d_R_vote_6 rfl hl (by decide) rfl (fun ls hl => ?_)
  refine lv_aload_n hx hb d_R_vote_7 rfl (lv_at hl 1 rfl) ?_
  refine gf_R_19 hF hM d_R_vote_8 ?_
  refine lv_iload_n hx hb d_R_vote_11 rfl (lv_at hl 0 rfl) ?_
  refine ga_broken (k := (6 * mn + sn)) hF hM (by first | rfl | (simp only [← nI_add, ← pk_mul] <;> rfl)) (by first | omega | exact Nat.mod_lt _ (by decide)) d_R_vote_12 ?_
  refine gm_ifz (b := (u.1 3 (6 * mn + sn))) (tgt := 17) hx hb d_R_vote_13 rfl (fun h1 => ?_) (fun h1 => ?_)
  · refine lv_aload_n hx hb d_R_vote_17 rfl (lv_at hl 1 rfl) ?_
    refine lv_iload_n hx hb d_R_vote_18 rfl (lv_at hl 2 rfl) ?_
    refine lv_iload_n hx hb d_R_vote_19 rfl (lv_at hl 3 rfl) ?_
    refine lv_iconst (v := 1) hx hb d_R_vote_20 (by decide) ?_
    refine gm_Vi (As := [.int (nI mn), .int (nI sn), .int (gm_b true)]) (rest := []) hF hM (c_R_say (u := u) (mn := mn) (sn := sn) (ob := true) (by omega) (by omega)) (gk_R_54 hts ⟨by decide, by decide⟩) (gv_R hF hM rfl) rfl hl.1 rfl (Nat.le_of_ble_eq_true rfl) ⟨Nat.zero_le _, Nat.zero_le _⟩ d_R_vote_21 (fun H locs hM => ?_)
    refine lv_istore (lv' := [(4, .int (v_R_say u mn sn true)), (3, .int (((6 : Int32) * (nI mn)) + (nI sn))), (0, .ref (a 0)), (1, .int (nI mn)), (2, .int (nI sn))]) hx hb d_R_vote_24 hl (by decide) rfl (fun ls hl => ?_)
    refine lv_aload_n hx hb d_R_vote_26 rfl (lv_at hl 2 rfl) ?_
    refine lv_iload_n hx hb d_R_vote_27 rfl (lv_at hl 3 rfl) ?_
    refine lv_iload_n hx hb d_R_vote_28 rfl (lv_at hl 4 rfl) ?_
    refine lv_iconst (v := 0) hx hb d_R_vote_29 (by decide) ?_
    refine gm_Vi (As := [.int (nI mn), .int (nI sn), .int (gm_b false)]) (rest := []) hF hM (c_R_say (u := u) (mn := mn) (sn := sn) (ob := false) (by omega) (by omega)) (gk_R_54 hts ⟨by decide, by decide⟩) (gv_R hF hM rfl) rfl hl.1 rfl (Nat.le_of_ble_eq_true rfl) ⟨Nat.zero_le _, Nat.zero_le _⟩ d_R_vote_30 (fun H locs hM => ?_)
    refine lv_istore (lv' := [(5, .int (v_R_say u mn sn false)), (4, .int (v_R_say u mn sn true)), (3, .int (((6 : Int32) * (nI mn)) + (nI sn))), (0, .ref (a 0)), (1, .int (nI mn)), (2, .int (nI sn))]) hx hb d_R_vote_33 hl (by decide) rfl (fun ls hl => ?_)
    refine lv_iload hx hb d_R_vote_35 (lv_at hl 1 rfl) ?_
    refine lv_iload hx hb d_R_vote_37 (lv_at hl 0 rfl) ?_
    refine lv_icmp_ne (tgt := 56) hx hb d_R_vote_39 rfl (fun h2 => ?_) (fun h2 => ?_)
    · refine lv_aload_n hx hb d_R_vote_56 rfl (lv_at hl 3 rfl) ?_
      refine gf_R_16 hF hM d_R_vote_57 ?_
      refine lv_iload_n hx hb d_R_vote_60 rfl (lv_at hl 2 rfl) ?_
      refine lv_iload hx hb d_R_vote_61 (lv_at hl 1 rfl) ?_
      refine lv_iload hx hb d_R_vote_63 (lv_at hl 0 rfl) ?_
      have J4 : ∀ (ls : Array Slot) (H : Heap) (locs : List Loc), lv_has ls 7 [(0, .ref (a 0)), (1, .int (nI mn)), (2, .int (nI sn)), (3, .int (((6 : Int32) * (nI mn)) + (nI sn))), (4, .int (v_R_say u mn sn true)), (5, .int (v_R_say u mn sn false))] → gm_M D A s (gr_W dk a) u H locs → W p l e rm_R_vote s m args below meth c H locs 0 0 Q (F0 m 73 ls [.int (gm_b (if (v_R_say u mn sn true) ≤ (v_R_say u mn sn false) then false else true)), .int (((6 : Int32) * (nI mn)) + (nI sn)), .ref (a 3)]) := by
        intro ls H locs hl hM
        refine gq_value (k := (6 * mn + sn)) hF hM (by first | rfl | (simp only [← nI_add, ← pk_mul] <;> rfl)) (by first | omega | exact Nat.mod_lt _ (by decide)) (v := (if (v_R_say u mn sn true) ≤ (v_R_say u mn sn false) then false else true)) rfl d_R_vote_73 (fun H locs hM => ?_)
        refine lv_iconst (v := 0) hx hb d_R_vote_74 (by decide) ?_
        refine lv_istore (lv' := [(6, .int (0 : Int32)), (0, .ref (a 0)), (1, .int (nI mn)), (2, .int (nI sn)), (3, .int (((6 : Int32) * (nI mn)) + (nI sn))), (4, .int (v_R_say u mn sn true)), (5, .int (v_R_say u mn sn false))]) hx hb d_R_vote_75 hl (by decide) rfl (fun ls hl => ?_)
        by_cases hs5 : ((v_R_say u mn sn true) + (v_R_say u mn sn false)) = (3 : Int32)
        · have L6 : ∀ (k6 i6 : Nat) (w6 : gm_St) (ls : Array Slot) (H : Heap) (locs : List Loc), i6 + k6 = 3 → lv_has ls 7 [(6, .int (nI i6)), (0, .ref (a 0)), (1, .int (nI mn)), (2, .int (nI sn)), (3, .int (((6 : Int32) * (nI mn)) + (nI sn))), (4, .int (v_R_say u mn sn true)), (5, .int (v_R_say u mn sn false))] → gm_M D A s (gr_W dk a) w6 H locs → (∀ (ls : Array Slot) (H : Heap) (locs : List Loc), lv_has ls 7 [(6, .int (nI 3)), (0, .ref (a 0)), (1, .int (nI mn)), (2, .int (nI sn)), (3, .int (((6 : Int32) * (nI mn)) + (nI sn))), (4, .int (v_R_say u mn sn true)), (5, .int (v_R_say u mn sn false))] → gm_M D A s (gr_W dk a) (lp_R_vote mn sn (6 * mn + sn) k6 i6 w6) H locs → W p l e rm_R_vote s m args below meth c H locs 0 0 Q (F0 m 135 ls [])) → W p l e rm_R_vote s m args below meth c H locs 0 0 Q (F0 m 77 ls []) := by
            intro k6
            induction k6 with
            | zero =>
              intro i6 w6 ls H locs hk6 hl hM kk
              obtain rfl : i6 = 3 := by omega
              refine lv_iload hx hb d_R_vote_77 (lv_at hl 0 rfl) ?_
              refine lv_iconst (v := 3) hx hb d_R_vote_79 (by decide) ?_
              refine lv_icmp_ge (tgt := 135) hx hb d_R_vote_80 rfl (fun _ => ?_) (fun h => absurd (by decide) h)
              exact kk ls H locs hl hM
            | succ k6 ih =>
              intro i6 w6 ls H locs hk6 hl hM kk
              refine lv_iload hx hb d_R_vote_77 (lv_at hl 0 rfl) ?_
              refine lv_iconst (v := 3) hx hb d_R_vote_79 (by decide) ?_
              refine lv_icmp_ge (tgt := 135) hx hb d_R_vote_80 rfl (fun h => absurd h (nI_ge (a := i6) (b := 3) (by omega) (by first | decide | omega))) (fun _ => ?_)
              refine lv_iload hx hb d_R_vote_83 (lv_at hl 5 rfl) ?_
              refine lv_iload hx hb d_R_vote_85 (lv_at hl 6 rfl) ?_
              refine lv_iadd hx hb d_R_vote_87 ?_
              refine lv_iconst (v := 3) hx hb d_R_vote_88 (by decide) ?_
              refine lv_icmp_ne (tgt := 135) hx hb d_R_vote_89 rfl (fun h => absurd h (fun q => q hs5)) (fun _ => ?_)
              refine lv_aload_n hx hb d_R_vote_92 rfl (lv_at hl 1 rfl) ?_
              refine gf_R_13 hF hM d_R_vote_93 ?_
              refine lv_bipush (v := 18) hx hb d_R_vote_96 (by decide) ?_
              refine lv_iload_n hx hb d_R_vote_98 rfl (lv_at hl 2 rfl) ?_
              refine lv_imul hx hb d_R_vote_99 ?_
              refine lv_iconst (v := 3) hx hb d_R_vote_100 (by decide) ?_
              refine lv_iload_n hx hb d_R_vote_101 rfl (lv_at hl 3 rfl) ?_
              refine lv_imul hx hb d_R_vote_102 ?_
              refine lv_iadd hx hb d_R_vote_103 ?_
              refine lv_iload hx hb d_R_vote_104 (lv_at hl 0 rfl) ?_
              refine lv_iadd hx hb d_R_vote_106 ?_
              refine lv_aload_n hx hb d_R_vote_107 rfl (lv_at hl 1 rfl) ?_
              refine lv_iload_n hx hb d_R_vote_108 rfl (lv_at hl 3 rfl) ?_
              refine lv_iload hx hb d_R_vote_109 (lv_at hl 0 rfl) ?_
              refine gm_Vi (As := [.int (nI sn), .int (nI i6)]) (rest := [.int ((((18 : Int32) * (nI mn)) + ((3 : Int32) * (nI sn))) + (nI i6)), .ref (a 2)]) hF hM (c_R_channel (u := w6) (sn := sn) (cn := i6) (by omega) (by omega)) (gk_R_50 hts ⟨by decide, by decide⟩) (gv_R hF hM rfl) rfl hl.1 rfl (Nat.le_of_ble_eq_true rfl) ⟨Nat.zero_le _, Nat.zero_le _⟩ d_R_vote_111 (fun H locs hM => ?_)
              refine lv_aload_n hx hb d_R_vote_114 rfl (lv_at hl 1 rfl) ?_
              refine gf_R_16 hF hM d_R_vote_115 ?_
              refine lv_iload_n hx hb d_R_vote_118 rfl (lv_at hl 4 rfl) ?_
              refine ga_value (k := (6 * mn + sn)) hF hM (by first | rfl | (simp only [← nI_add, ← pk_mul] <;> rfl)) (by first | omega | exact Nat.mod_lt _ (by decide)) d_R_vote_119 ?_
              have J8 : ∀ (ls : Array Slot) (H : Heap) (locs : List Loc), lv_has ls 7 [(0, .ref (a 0)), (1, .int (nI mn)), (2, .int (nI sn)), (3, .int (((6 : Int32) * (nI mn)) + (nI sn))), (4, .int (v_R_say u mn sn true)), (5, .int (v_R_say u mn sn false)), (6, .int (nI i6))] → gm_M D A s (gr_W dk a) w6 H locs → W p l e rm_R_vote s m args below meth c H locs 0 0 Q (F0 m 128 ls [.int (gm_b (if (v_R_channel w6 sn i6) = (w6.1 2 (6 * mn + sn)) then false else true)), .int ((((18 : Int32) * (nI mn)) + ((3 : Int32) * (nI sn))) + (nI i6)), .ref (a 2)]) := by
                intro ls H locs hl hM
                refine gq_bad (k := (18 * mn + (3 * sn) + i6)) hF hM (by first | rfl | (simp only [← nI_add, ← pk_mul] <;> rfl)) (by first | omega | exact Nat.mod_lt _ (by decide)) (v := (if (v_R_channel w6 sn i6) = (w6.1 2 (6 * mn + sn)) then false else true)) rfl d_R_vote_128 (fun H locs hM => ?_)
                refine lv_iinc (k := 6) (v := (nI (i6 + 1))) (lv' := [(6, .int (nI (i6 + 1))), (0, .ref (a 0)), (1, .int (nI mn)), (2, .int (nI sn)), (3, .int (((6 : Int32) * (nI mn)) + (nI sn))), (4, .int (v_R_say u mn sn true)), (5, .int (v_R_say u mn sn false))]) hx hb d_R_vote_129 hl rfl (nI_1 _) (by decide) rfl (fun ls hl => ?_)
                refine lv_goto (tgt := 77) hx hb d_R_vote_132 rfl ?_
                have hK := kk
                simp only [lp_R_vote] at hK
                exact ih (i6 + 1) (gm_sB w6 1 (18 * mn + (3 * sn) + i6) (if (v_R_channel w6 sn i6) = (w6.1 2 (6 * mn + sn)) then false else true)) ls H locs (by omega) hl hM hK
              refine gm_icz (b := (v_R_channel w6 sn i6)) (d := (w6.1 2 (6 * mn + sn))) (tgt := 127) hx hb d_R_vote_120 rfl (fun h7 => ?_) (fun h7 => ?_)
              · refine lv_iconst (v := 0) hx hb d_R_vote_127 (by decide) ?_
                have hJ := J8
                try simp only [if_pos h7] at hJ
                exact hJ ls H locs (lv_sub hl [1, 2, 3, 4, 5, 6, 0] rfl) hM
              · refine lv_iconst (v := 1) hx hb d_R_vote_123 (by decide) ?_
                refine lv_goto (tgt := 128) hx hb d_R_vote_124 rfl ?_
                have hJ := J8
                try simp only [if_neg h7] at hJ
                exact hJ ls H locs (lv_sub hl [1, 2, 3, 4, 5, 6, 0] rfl) hM
          refine L6 3 0 (gm_sB u 2 (6 * mn + sn) (if (v_R_say u mn sn true) ≤ (v_R_say u mn sn false) then false else true)) ls H locs (by omega) hl hM (fun ls H locs hl hM => ?_)
          have hq := hQ H locs 135 ls
          simp only [s_R_vote, if_neg (gm_nf h1), if_neg h2, if_pos hs5] at hq
          exact hq hM d_R_vote_135
        · refine lv_iload hx hb d_R_vote_77 (lv_at hl 0 rfl) ?_
          refine lv_iconst (v := 3) hx hb d_R_vote_79 (by decide) ?_
          refine lv_icmp_ge (tgt := 135) hx hb d_R_vote_80 rfl (fun h => absurd h (by decide)) (fun _ => ?_)
          refine lv_iload hx hb d_R_vote_83 (lv_at hl 5 rfl) ?_
          refine lv_iload hx hb d_R_vote_85 (lv_at hl 6 rfl) ?_
          refine lv_iadd hx hb d_R_vote_87 ?_
          refine lv_iconst (v := 3) hx hb d_R_vote_88 (by decide) ?_
          refine lv_icmp_ne (tgt := 135) hx hb d_R_vote_89 rfl (fun _ => ?_) (fun h => absurd h hs5)
          have hq := hQ H locs 135 ls
          simp only [s_R_vote, if_neg (gm_nf h1), if_neg h2, if_neg hs5] at hq
          exact hq hM d_R_vote_135
      refine lv_icmp_le (tgt := 72) hx hb d_R_vote_65 rfl (fun h3 => ?_) (fun h3 => ?_)
      · refine lv_iconst (v := 0) hx hb d_R_vote_72 (by decide) ?_
        have hJ := J4
        try simp only [if_pos h3] at hJ
        exact hJ ls H locs (lv_sub hl [3, 4, 5, 2, 1, 0] rfl) hM
      · refine lv_iconst (v := 1) hx hb d_R_vote_68 (by decide) ?_
        refine lv_goto (tgt := 73) hx hb d_R_vote_69 rfl ?_
        have hJ := J4
        try simp only [if_neg h3] at hJ
        exact hJ ls H locs (lv_sub hl [3, 4, 5, 2, 1, 0] rfl) hM
    · refine lv_aload_n hx hb d_R_vote_42 rfl (lv_at hl 3 rfl) ?_
      refine gf_R_19 hF hM d_R_vote_43 ?_
      refine lv_iload_n hx hb d_R_vote_46 rfl (lv_at hl 2 rfl) ?_
      refine lv_iconst (v := 1) hx hb d_R_vote_47 (by decide) ?_
      refine gq_broken (k := (6 * mn + sn)) hF hM (by first | rfl | (simp only [← nI_add, ← pk_mul] <;> rfl)) (by first | omega | exact Nat.mod_lt _ (by decide)) (v := true) rfl d_R_vote_48 (fun H locs hM => ?_)
      refine lv_aload_n hx hb d_R_vote_49 rfl (lv_at hl 3 rfl) ?_
      refine lv_iload_n hx hb d_R_vote_50 rfl (lv_at hl 4 rfl) ?_
      refine lv_iload_n hx hb d_R_vote_51 rfl (lv_at hl 5 rfl) ?_
      refine gm_Vv (As := [.int (nI mn), .int (nI sn)]) (rest := []) hF hM (c_R_gets (u := (gm_sB u 3 (6 * mn + sn) true)) (mn := mn) (kn := sn) (by omega) (by omega) hp0) (gk_R_58 hts ⟨by decide, by decide⟩) (gv_R hF hM rfl) rfl hl.1 rfl (Nat.le_of_ble_eq_true rfl) ⟨Nat.zero_le _, Nat.zero_le _⟩ d_R_vote_52 (fun H locs hM => ?_)
      have hq := hQ H locs 55 ls
      simp only [s_R_vote, if_neg (gm_nf h1), if_pos h2] at hq
      exact hq hM d_R_vote_55
  · have hq := hQ H locs 16 ls
    simp only [s_R_vote, if_pos h1] at hq
    exact hq hM d_R_vote_16
theorem gr_lpvote_N {mn sn at_ : Nat} : ∀ (k i : Nat) (u : gm_St), (lp_R_vote mn sn at_ k i u).2.2.1 = u.2.2.1 := by
  intro k
  induction k with
  | zero => intro i u; rfl
  | succ k ih => intro i u; simp only [lp_R_vote]; rw [ih]; rfl
theorem gr_vote_N {u : gm_St} {mn sn : Nat} : (s_R_vote u mn sn).2.2.1 0 ≤ u.2.2.1 0 + 1 := by
  unfold s_R_vote
  split
  · exact Nat.le_succ _
  · split
    · exact gr_gets_N
    · split
      · rw [gr_lpvote_N]; exact Nat.le_succ _
      · exact Nat.le_succ _
