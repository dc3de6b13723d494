theorem d_R_was_0 : decode b_R_was 0 = .ok (.aload_n 0, 1) := by decide +kernel
theorem d_R_was_1 : decode b_R_was 1 = .ok (.getfield 35, 3) := by decide +kernel
theorem d_R_was_4 : decode b_R_was 4 = .ok (.bipush 11, 2) := by decide +kernel
theorem d_R_was_6 : decode b_R_was 6 = .ok (.iload_n 1, 1) := by decide +kernel
theorem d_R_was_7 : decode b_R_was 7 = .ok (.imul, 1) := by decide +kernel
theorem d_R_was_8 : decode b_R_was 8 = .ok (.iload_n 3, 1) := by decide +kernel
theorem d_R_was_9 : decode b_R_was 9 = .ok (.iadd, 1) := by decide +kernel
theorem d_R_was_10 : decode b_R_was 10 = .ok (.iaload, 1) := by decide +kernel
theorem d_R_was_11 : decode b_R_was 11 = .ok (.iload_n 2, 1) := by decide +kernel
theorem d_R_was_12 : decode b_R_was 12 = .ok (.ishr, 1) := by decide +kernel
theorem d_R_was_13 : decode b_R_was 13 = .ok (.iconst 1, 1) := by decide +kernel
theorem d_R_was_14 : decode b_R_was 14 = .ok (.iand, 1) := by decide +kernel
theorem d_R_was_15 : decode b_R_was 15 = .ok (.iconst 1, 1) := by decide +kernel
theorem d_R_was_16 : decode b_R_was 16 = .ok (.if_icmp .ne 7, 3) := by decide +kernel
theorem d_R_was_19 : decode b_R_was 19 = .ok (.iconst 1, 1) := by decide +kernel
theorem d_R_was_20 : decode b_R_was 20 = .ok (.goto 4, 3) := by decide +kernel
theorem d_R_was_23 : decode b_R_was 23 = .ok (.iconst 0, 1) := by decide +kernel
theorem d_R_was_24 : decode b_R_was 24 = .ok (.ireturn, 1) := by decide +kernel
def v_R_was (u : gm_St) (mn : Nat) (vn : Int32) (an : Nat) : Bool := (if (((u.2.1 2 (11 * mn + an)) >>> (vn &&& 31)) &&& (1 : Int32)) = (1 : Int32) then true else false)
set_option maxRecDepth 100000 in
set_option maxHeartbeats 4000000 in
theorem c_R_was {l : Launch} {D : va_G} {dk : Nat → ClassId} {a : Nat → Nat} {A : Nat → Prop} {lt : Nat} {u : gm_St} {mn : Nat} {vn : Int32} {an : Nat} (h_mn : mn < 2) (h_an : an < 11) : gm_I l D (gm_ty dk) (gr_W dk a) A lt y_R_was b_R_was 4 (some .boolean) rm_R_was [.ref (a 0), .int (nI mn), .int vn, .int (nI an)] u (gm_b (v_R_was u mn vn an)) u := by
  refine gm_enterZ (by decide) (Nat.le_of_ble_eq_true rfl) ?_
  intro p e s m args below meth c ls Q H locs hF hM hl hQ
  have hx := hF.1
  have hb := hF.2.1
  have hml := hF.2.2.1
  have hown := hF.2.2.2.1
  have hts := hF.2.2.2.2.1
  have hl : lv_has ls 4 [(0, .ref (a 0)), (1, .int (nI mn)), (2, .int vn), (3, .int (nI an))] := hl
  refine lv_aload_n hx hb d_R_was_0 rfl (lv_at hl 0 rfl) ?_
  refine gf_R_35 hF hM d_R_was_1 ?_
  refine lv_bipush (v := 11) hx hb d_R_was_4 (by decide) ?_
  refine lv_iload_n hx hb d_R_was_6 rfl (lv_at hl 1 rfl) ?_
  refine lv_imul hx hb d_R_was_7 ?_
  refine lv_iload_n hx hb d_R_was_8 rfl (lv_at hl 3 rfl) ?_
  refine lv_iadd hx hb d_R_was_9 ?_
  refine ga_past (k := (11 * mn + an)) hF hM (by first | rfl | (simp only [← nI_add, ← pk_mul] <;> rfl)) (by first | omega | exact Nat.mod_lt _ (by decide)) d_R_was_10 ?_
  refine lv_iload_n hx hb d_R_was_11 rfl (lv_at hl 2 rfl) ?_
  refine lv_ishr hx hb d_R_was_12 ?_
  refine lv_iconst (v := 1) hx hb d_R_was_13 (by decide) ?_
  refine lv_iand hx hb d_R_was_14 ?_
  refine lv_iconst (v := 1) hx hb d_R_was_15 (by decide) ?_
  have J2 : ∀ (ls : Array Slot) (H : Heap) (locs : List Loc), lv_has ls 4 [(0, .ref (a 0)), (1, .int (nI mn)), (2, .int vn), (3, .int (nI an))] → gm_M D A s (gr_W dk a) u H locs → W p l e rm_R_was s m args below meth c H locs 0 0 Q (F0 m 24 ls [.int (gm_b (if (((u.2.1 2 (11 * mn + an)) >>> (vn &&& 31)) &&& (1 : Int32)) = (1 : Int32) then true else false))]) := by
    intro ls H locs hl hM
    have hq := hQ H locs 24 ls
    simp only [v_R_was] at hq
    exact hq hM d_R_was_24
  refine lv_icmp_ne (tgt := 23) hx hb d_R_was_16 rfl (fun h1 => ?_) (fun h1 => ?_)
  · refine lv_iconst (v := 0) hx hb d_R_was_23 (by decide) ?_
    have hJ := J2
    try simp only [if_neg h1] at hJ
    exact hJ ls H locs hl hM
  · refine lv_iconst (v := 1) hx hb d_R_was_19 (by decide) ?_
    refine lv_goto (tgt := 24) hx hb d_R_was_20 rfl ?_
    have hJ := J2
    try simp only [if_pos h1] at hJ
    exact hJ ls H locs hl hM
theorem d_R_right_0 : decode b_R_right 0 = .ok (.aload_n 0, 1) := by decide +kernel
theorem d_R_right_1 : decode b_R_right 1 = .ok (.getfield 16, 3) := by decide +kernel
theorem d_R_right_4 : decode b_R_right 4 = .ok (.bipush 6, 2) := by decide +kernel
theorem d_R_right_6 : decode b_R_right 6 = .ok (.iload_n 1, 1) := by decide +kernel
theorem d_R_right_7 : decode b_R_right 7 = .ok (.imul, 1) := by decide +kernel
theorem d_R_right_8 : decode b_R_right 8 = .ok (.baload, 1) := by decide +kernel
theorem d_R_right_9 : decode b_R_right 9 = .ok (.istore_n 2, 1) := by decide +kernel
theorem d_R_right_10 : decode b_R_right 10 = .ok (.aload_n 0, 1) := by decide +kernel
theorem d_R_right_11 : decode b_R_right 11 = .ok (.getfield 16, 3) := by decide +kernel
theorem d_R_right_14 : decode b_R_right 14 = .ok (.bipush 6, 2) := by decide +kernel
theorem d_R_right_16 : decode b_R_right 16 = .ok (.iload_n 1, 1) := by decide +kernel
theorem d_R_right_17 : decode b_R_right 17 = .ok (.imul, 1) := by decide +kernel
theorem d_R_right_18 : decode b_R_right 18 = .ok (.iconst 1, 1) := by decide +kernel
theorem d_R_right_19 : decode b_R_right 19 = .ok (.iadd, 1) := by decide +kernel
theorem d_R_right_20 : decode b_R_right 20 = .ok (.baload, 1) := by decide +kernel
theorem d_R_right_21 : decode b_R_right 21 = .ok (.istore_n 3, 1) := by decide +kernel
theorem d_R_right_22 : decode b_R_right 22 = .ok (.aload_n 0, 1) := by decide +kernel
theorem d_R_right_23 : decode b_R_right 23 = .ok (.getfield 42, 3) := by decide +kernel
theorem d_R_right_26 : decode b_R_right 26 = .ok (.ifCond .eq 19, 3) := by decide +kernel
theorem d_R_right_29 : decode b_R_right 29 = .ok (.iload_n 2, 1) := by decide +kernel
theorem d_R_right_30 : decode b_R_right 30 = .ok (.ifCond .eq 11, 3) := by decide +kernel
theorem d_R_right_33 : decode b_R_right 33 = .ok (.iload_n 3, 1) := by decide +kernel
theorem d_R_right_34 : decode b_R_right 34 = .ok (.ifCond .ne 7, 3) := by decide +kernel
theorem d_R_right_37 : decode b_R_right 37 = .ok (.iconst 1, 1) := by decide +kernel
theorem d_R_right_38 : decode b_R_right 38 = .ok (.goto 20, 3) := by decide +kernel
theorem d_R_right_41 : decode b_R_right 41 = .ok (.iconst 0, 1) := by decide +kernel
theorem d_R_right_42 : decode b_R_right 42 = .ok (.goto 16, 3) := by decide +kernel
theorem d_R_right_45 : decode b_R_right 45 = .ok (.iload_n 3, 1) := by decide +kernel
theorem d_R_right_46 : decode b_R_right 46 = .ok (.ifCond .eq 11, 3) := by decide +kernel
theorem d_R_right_49 : decode b_R_right 49 = .ok (.iload_n 2, 1) := by decide +kernel
theorem d_R_right_50 : decode b_R_right 50 = .ok (.ifCond .ne 7, 3) := by decide +kernel
theorem d_R_right_53 : decode b_R_right 53 = .ok (.iconst 1, 1) := by decide +kernel
theorem d_R_right_54 : decode b_R_right 54 = .ok (.goto 4, 3) := by decide +kernel
theorem d_R_right_57 : decode b_R_right 57 = .ok (.iconst 0, 1) := by decide +kernel
theorem d_R_right_58 : decode b_R_right 58 = .ok (.ireturn, 1) := by decide +kernel
def v_R_right (u : gm_St) (mn : Nat) : Bool := (if (u.1 6 0) = true then (if (u.1 2 (6 * mn)) = true then (if (u.1 2 (6 * mn + 1)) = true then false else true) else false) else (if (u.1 2 (6 * mn + 1)) = true then (if (u.1 2 (6 * mn)) = true then false else true) else false))
set_option maxRecDepth 100000 in
set_option maxHeartbeats 4000000 in
theorem c_R_right {l : Launch} {D : va_G} {dk : Nat → ClassId} {a : Nat → Nat} {A : Nat → Prop} {lt : Nat} {u : gm_St} {mn : Nat} (h_mn : mn < 2) : gm_I l D (gm_ty dk) (gr_W dk a) A lt y_R_right b_R_right 4 (some .boolean) rm_R_right [.ref (a 0), .int (nI mn)] u (gm_b (v_R_right u mn)) u := by
  refine gm_enterZ (by decide) (Nat.le_of_ble_eq_true rfl) ?_
  intro p e s m args below meth c ls Q H locs hF hM hl hQ
  have hx := hF.1
  have hb := hF.2.1
  have hml := hF.2.2.1
  have hown := hF.2.2.2.1
  have hts := hF.2.2.2.2.1
  have hl : lv_has ls 4 [(0, .ref (a 0)), (1, .int (nI mn))] := hl
  refine lv_aload_n hx hb d_R_right_0 rfl (lv_at hl 0 rfl) ?_
  refine gf_R_16 hF hM d_R_right_1 ?_
  refine lv_bipush (v := 6) hx hb d_R_right_4 (by decide) ?_
  refine lv_iload_n hx hb d_R_right_6 rfl (lv_at hl 1 rfl) ?_
  refine lv_imul hx hb d_R_right_7 ?_
  refine ga_value (k := (6 * mn)) hF hM (by first | rfl | (simp only [← nI_add, ← pk_mul] <;> rfl)) (by first | omega | exact Nat.mod_lt _ (by decide)) d_R_right_8 ?_
  refine lv_istore_n (lv' := [(2, .int (gm_b (u.1 2 (6 * mn)))), (0, .ref (a 0)), (1, .int (nI mn))]) hx hb d_R_right_9 rfl hl (by decide) rfl (fun ls hl => ?_)
  refine lv_aload_n hx hb d_R_right_10 rfl (lv_at hl 1 rfl) ?_
  refine gf_R_16 hF hM d_R_right_11 ?_
  refine lv_bipush (v := 6) hx hb d_R_right_14 (by decide) ?_
  refine lv_iload_n hx hb d_R_right_16 rfl (lv_at hl 2 rfl) ?_
  refine lv_imul hx hb d_R_right_17 ?_
  refine lv_iconst (v := 1) hx hb d_R_right_18 (by decide) ?_
  refine lv_iadd hx hb d_R_right_19 ?_
  refine ga_value (k := (6 * mn + 1)) hF hM (by first | rfl | (simp only [← nI_add, ← pk_mul] <;> rfl)) (by first | omega | exact Nat.mod_lt _ (by decide)) d_R_right_20 ?_
  refine lv_istore_n (lv' := [(3, .int (gm_b (u.1 2 (6 * mn + 1)))), (2, .int (gm_b (u.1 2 (6 * mn)))), (0, .ref (a 0)), (1, .int (nI mn))]) hx hb d_R_right_21 rfl hl (by decide) rfl (fun ls hl => ?_)
  refine lv_aload_n hx hb d_R_right_22 rfl (lv_at hl 2 rfl) ?_
  refine gf_R_42 hF hM d_R_right_23 ?_
  have J2 : ∀ (ls : Array Slot) (H : Heap) (locs : List Loc), lv_has ls 4 [(0, .ref (a 0)), (1, .int (nI mn)), (2, .int (gm_b (u.1 2 (6 * mn)))), (3, .int (gm_b (u.1 2 (6 * mn + 1))))] → gm_M D A s (gr_W dk a) u H locs → W p l e rm_R_right s m args below meth c H locs 0 0 Q (F0 m 58 ls [.int (gm_b (if (u.1 6 0) = true then (if (u.1 2 (6 * mn)) = true then (if (u.1 2 (6 * mn + 1)) = true then false else true) else false) else (if (u.1 2 (6 * mn + 1)) = true then (if (u.1 2 (6 * mn)) = true then false else true) else false)))]) := by
    intro ls H locs hl hM
    have hq := hQ H locs 58 ls
    simp only [v_R_right] at hq
    exact hq hM d_R_right_58
  refine gm_ifz (b := (u.1 6 0)) (tgt := 45) hx hb d_R_right_26 rfl (fun h1 => ?_) (fun h1 => ?_)
  · refine lv_iload_n hx hb d_R_right_45 rfl (lv_at hl 0 rfl) ?_
    refine gm_ifz (b := (u.1 2 (6 * mn + 1))) (tgt := 57) hx hb d_R_right_46 rfl (fun h3 => ?_) (fun h3 => ?_)
    · refine lv_iconst (v := 0) hx hb d_R_right_57 (by decide) ?_
      have hJ := J2
      try simp only [if_neg (gm_nf h1), if_neg (gm_nf h3)] at hJ
      exact hJ ls H locs (lv_sub hl [2, 3, 1, 0] rfl) hM
    · refine lv_iload_n hx hb d_R_right_49 rfl (lv_at hl 1 rfl) ?_
      refine gm_ifn (b := (u.1 2 (6 * mn))) (tgt := 57) hx hb d_R_right_50 rfl (fun h4 => ?_) (fun h4 => ?_)
      · refine lv_iconst (v := 0) hx hb d_R_right_57 (by decide) ?_
        have hJ := J2
        try simp only [if_neg (gm_nf h1), if_pos h3, if_pos h4] at hJ
        exact hJ ls H locs (lv_sub hl [2, 3, 1, 0] rfl) hM
      · refine lv_iconst (v := 1) hx hb d_R_right_53 (by decide) ?_
        refine lv_goto (tgt := 58) hx hb d_R_right_54 rfl ?_
        have hJ := J2
        try simp only [if_neg (gm_nf h1), if_pos h3, if_neg (gm_nf h4)] at hJ
        exact hJ ls H locs (lv_sub hl [2, 3, 1, 0] rfl) hM
  · refine lv_iload_n hx hb d_R_right_29 rfl (lv_at hl 1 rfl) ?_
    refine gm_ifz (b := (u.1 2 (6 * mn))) (tgt := 41) hx hb d_R_right_30 rfl (fun h5 => ?_) (fun h5 => ?_)
    · refine lv_iconst (v := 0) hx hb d_R_right_41 (by decide) ?_
      refine lv_goto (tgt := 58) hx hb d_R_right_42 rfl ?_
      have hJ := J2
      try simp only [if_pos h1, if_neg (gm_nf h5)] at hJ
      exact hJ ls H locs (lv_sub hl [2, 3, 1, 0] rfl) hM
    · refine lv_iload_n hx hb d_R_right_33 rfl (lv_at hl 0 rfl) ?_
      refine gm_ifn (b := (u.1 2 (6 * mn + 1))) (tgt := 41) hx hb d_R_right_34 rfl (fun h6 => ?_) (fun h6 => ?_)
      · refine lv_iconst (v := 0) hx hb d_R_right_41 (by decide) ?_
        refine lv_goto (tgt := 58) hx hb d_R_right_42 rfl ?_
        have hJ := J2
        try simp only [if_pos h1, if_pos h5, if_pos h6] at hJ
        exact hJ ls H locs (lv_sub hl [2, 3, 1, 0] rfl) hM
      · refine lv_iconst (v := 1) hx hb d_R_right_37 (by decide) ?_
        refine lv_goto (tgt := 58) hx hb d_R_right_38 rfl ?_
        have hJ := J2
        try simp only [if_pos h1, if_pos h5, if_neg (gm_nf h6)] at hJ
        exact hJ ls H locs (lv_sub hl [2, 3, 1, 0] rfl) hM
theorem d_R_wanted_0 : decode b_R_wanted 0 = .ok (.aload_n 0, 1) := by decide +kernel
theorem d_R_wanted_1 : decode b_R_wanted 1 = .ok (.iload_n 1, 1) := by decide +kernel
theorem d_R_wanted_2 : decode b_R_wanted 2 = .ok (.invokevirtual 62, 3) := by decide +kernel
theorem d_R_wanted_5 : decode b_R_wanted 5 = .ok (.istore_n 3, 1) := by decide +kernel
theorem d_R_wanted_6 : decode b_R_wanted 6 = .ok (.iload_n 2, 1) := by decide +kernel
theorem d_R_wanted_7 : decode b_R_wanted 7 = .ok (.iconst 1, 1) := by decide +kernel
theorem d_R_wanted_8 : decode b_R_wanted 8 = .ok (.if_icmp .ne 13, 3) := by decide +kernel
theorem d_R_wanted_11 : decode b_R_wanted 11 = .ok (.iload_n 3, 1) := by decide +kernel
theorem d_R_wanted_12 : decode b_R_wanted 12 = .ok (.ifCond .ne 7, 3) := by decide +kernel
theorem d_R_wanted_15 : decode b_R_wanted 15 = .ok (.iconst 1, 1) := by decide +kernel
theorem d_R_wanted_16 : decode b_R_wanted 16 = .ok (.goto 4, 3) := by decide +kernel
theorem d_R_wanted_19 : decode b_R_wanted 19 = .ok (.iconst 0, 1) := by decide +kernel
theorem d_R_wanted_20 : decode b_R_wanted 20 = .ok (.ireturn, 1) := by decide +kernel
theorem d_R_wanted_21 : decode b_R_wanted 21 = .ok (.iload_n 2, 1) := by decide +kernel
theorem d_R_wanted_22 : decode b_R_wanted 22 = .ok (.iconst 2, 1) := by decide +kernel
theorem d_R_wanted_23 : decode b_R_wanted 23 = .ok (.if_icmp .ne 27, 3) := by decide +kernel
theorem d_R_wanted_26 : decode b_R_wanted 26 = .ok (.iload_n 3, 1) := by decide +kernel
theorem d_R_wanted_27 : decode b_R_wanted 27 = .ok (.ifCond .eq 21, 3) := by decide +kernel
theorem d_R_wanted_30 : decode b_R_wanted 30 = .ok (.aload_n 0, 1) := by decide +kernel
theorem d_R_wanted_31 : decode b_R_wanted 31 = .ok (.getfield 16, 3) := by decide +kernel
theorem d_R_wanted_34 : decode b_R_wanted 34 = .ok (.bipush 6, 2) := by decide +kernel
theorem d_R_wanted_36 : decode b_R_wanted 36 = .ok (.iload_n 1, 1) := by decide +kernel
theorem d_R_wanted_37 : decode b_R_wanted 37 = .ok (.imul, 1) := by decide +kernel
theorem d_R_wanted_38 : decode b_R_wanted 38 = .ok (.iconst 3, 1) := by decide +kernel
theorem d_R_wanted_39 : decode b_R_wanted 39 = .ok (.iadd, 1) := by decide +kernel
theorem d_R_wanted_40 : decode b_R_wanted 40 = .ok (.baload, 1) := by decide +kernel
theorem d_R_wanted_41 : decode b_R_wanted 41 = .ok (.ifCond .ne 7, 3) := by decide +kernel
theorem d_R_wanted_44 : decode b_R_wanted 44 = .ok (.iconst 1, 1) := by decide +kernel
theorem d_R_wanted_45 : decode b_R_wanted 45 = .ok (.goto 4, 3) := by decide +kernel
theorem d_R_wanted_48 : decode b_R_wanted 48 = .ok (.iconst 0, 1) := by decide +kernel
theorem d_R_wanted_49 : decode b_R_wanted 49 = .ok (.ireturn, 1) := by decide +kernel
theorem d_R_wanted_50 : decode b_R_wanted 50 = .ok (.iload_n 3, 1) := by decide +kernel
theorem d_R_wanted_51 : decode b_R_wanted 51 = .ok (.ifCond .ne 38, 3) := by decide +kernel
theorem d_R_wanted_54 : decode b_R_wanted 54 = .ok (.aload_n 0, 1) := by decide +kernel
theorem d_R_wanted_55 : decode b_R_wanted 55 = .ok (.getfield 16, 3) := by decide +kernel
theorem d_R_wanted_58 : decode b_R_wanted 58 = .ok (.bipush 6, 2) := by decide +kernel
theorem d_R_wanted_60 : decode b_R_wanted 60 = .ok (.iload_n 1, 1) := by decide +kernel
theorem d_R_wanted_61 : decode b_R_wanted 61 = .ok (.imul, 1) := by decide +kernel
theorem d_R_wanted_62 : decode b_R_wanted 62 = .ok (.iconst 2, 1) := by decide +kernel
theorem d_R_wanted_63 : decode b_R_wanted 63 = .ok (.iadd, 1) := by decide +kernel
theorem d_R_wanted_64 : decode b_R_wanted 64 = .ok (.baload, 1) := by decide +kernel
theorem d_R_wanted_65 : decode b_R_wanted 65 = .ok (.ifCond .eq 24, 3) := by decide +kernel
theorem d_R_wanted_68 : decode b_R_wanted 68 = .ok (.aload_n 0, 1) := by decide +kernel
theorem d_R_wanted_69 : decode b_R_wanted 69 = .ok (.getfield 42, 3) := by decide +kernel
theorem d_R_wanted_72 : decode b_R_wanted 72 = .ok (.iload_n 2, 1) := by decide +kernel
theorem d_R_wanted_73 : decode b_R_wanted 73 = .ok (.iconst 3, 1) := by decide +kernel
theorem d_R_wanted_74 : decode b_R_wanted 74 = .ok (.if_icmp .ne 7, 3) := by decide +kernel
theorem d_R_wanted_77 : decode b_R_wanted 77 = .ok (.iconst 1, 1) := by decide +kernel
theorem d_R_wanted_78 : decode b_R_wanted 78 = .ok (.goto 4, 3) := by decide +kernel
theorem d_R_wanted_81 : decode b_R_wanted 81 = .ok (.iconst 0, 1) := by decide +kernel
theorem d_R_wanted_82 : decode b_R_wanted 82 = .ok (.if_icmp .ne 7, 3) := by decide +kernel
theorem d_R_wanted_85 : decode b_R_wanted 85 = .ok (.iconst 1, 1) := by decide +kernel
theorem d_R_wanted_86 : decode b_R_wanted 86 = .ok (.goto 4, 3) := by decide +kernel
theorem d_R_wanted_89 : decode b_R_wanted 89 = .ok (.iconst 0, 1) := by decide +kernel
theorem d_R_wanted_90 : decode b_R_wanted 90 = .ok (.ireturn, 1) := by decide +kernel
def v_R_wanted (u : gm_St) (mn : Nat) (vn : Int32) : Bool := (if vn = (1 : Int32) then (if (v_R_right u mn) = true then false else true) else (if vn = (2 : Int32) then (if (v_R_right u mn) = true then (if (u.1 2 (6 * mn + 3)) = true then false else true) else false) else (if (v_R_right u mn) = true then false else (if (u.1 2 (6 * mn + 2)) = true then (if (u.1 6 0) = (if vn = (3 : Int32) then true else false) then true else false) else false))))
set_option maxRecDepth 100000 in
set_option maxHeartbeats 4000000 in
theorem c_R_wanted {l : Launch} {D : va_G} {dk : Nat → ClassId} {a : Nat → Nat} {A : Nat → Prop} {lt : Nat} {u : gm_St} {mn : Nat} {vn : Int32} (h_mn : mn < 2) : gm_I l D (gm_ty dk) (gr_W dk a) A lt y_R_wanted b_R_wanted 4 (some .boolean) rm_R_wanted [.ref (a 0), .int (nI mn), .int vn] u (gm_b (v_R_wanted u mn vn)) u := by
  refine gm_enterZ (by decide) (Nat.le_of_ble_eq_true rfl) ?_
  intro p e s m args below meth c ls Q H locs hF hM hl hQ
  have hx := hF.1
  have hb := hF.2.1
  have hml := hF.2.2.1
  have hown := hF.2.2.2.1
  have hts := hF.2.2.2.2.1
  have hl : lv_has ls 4 [(0, .ref (a 0)), (1, .int (nI mn)), (2, .int vn)] := hl
  refine lv_aload_n hx hb d_R_wanted_0 rfl (lv_at hl 0 rfl) ?_
  refine lv_iload_n hx hb d_R_wanted_1 rfl (lv_at hl 1 rfl) ?_
  refine gm_Vi (As := [.int (nI mn)]) (rest := []) hF hM (c_R_right (u := u) (mn := mn) (by omega)) (gk_R_62 hts ⟨by decide, by decide⟩) (gv_R hF hM rfl) rfl hl.1 rfl (Nat.le_of_ble_eq_true rfl) ⟨Nat.zero_le _, Nat.zero_le _⟩ d_R_wanted_2 (fun H locs hM => ?_)
  refine lv_istore_n (lv' := [(3, .int (gm_b (v_R_right u mn))), (0, .ref (a 0)), (1, .int (nI mn)), (2, .int vn)]) hx hb d_R_wanted_5 rfl hl (by decide) rfl (fun ls hl => ?_)
  refine lv_iload_n hx hb d_R_wanted_6 rfl (lv_at hl 3 rfl) ?_
  refine lv_iconst (v := 1) hx hb d_R_wanted_7 (by decide) ?_
  refine lv_icmp_ne (tgt := 21) hx hb d_R_wanted_8 rfl (fun h1 => ?_) (fun h1 => ?_)
  · refine lv_iload_n hx hb d_R_wanted_21 rfl (lv_at hl 3 rfl) ?_
    refine lv_iconst (v := 2) hx hb d_R_wanted_22 (by decide) ?_
    refine lv_icmp_ne (tgt := 50) hx hb d_R_wanted_23 rfl (fun h2 => ?_) (fun h2 => ?_)
    · refine lv_iload_n hx hb d_R_wanted_50 rfl (lv_at hl 0 rfl) ?_
      have J4 : ∀ (ls : Array Slot) (H : Heap) (locs : List Loc), lv_has ls 4 [(0, .ref (a 0)), (1, .int (nI mn)), (2, .int vn), (3, .int (gm_b (v_R_right u mn)))] → gm_M D A s (gr_W dk a) u H locs → W p l e rm_R_wanted s m args below meth c H locs 0 0 Q (F0 m 90 ls [.int (gm_b (if (v_R_right u mn) = true then false else (if (u.1 2 (6 * mn + 2)) = true then (if (u.1 6 0) = (if vn = (3 : Int32) then true else false) then true else false) else false)))]) := by
        intro ls H locs hl hM
        have hq := hQ H locs 90 ls
        simp only [v_R_wanted, if_neg h1, if_neg h2] at hq
        exact hq hM d_R_wanted_90
      refine gm_ifn (b := (v_R_right u mn)) (tgt := 89) hx hb d_R_wanted_51 rfl (fun h3 => ?_) (fun h3 => ?_)
      · refine lv_iconst (v := 0) hx hb d_R_wanted_89 (by decide) ?_
        have hJ := J4
        try simp only [if_pos h3] at hJ
        exact hJ ls H locs (lv_sub hl [1, 2, 3, 0] rfl) hM
      · refine lv_aload_n hx hb d_R_wanted_54 rfl (lv_at hl 1 rfl) ?_
        refine gf_R_16 hF hM d_R_wanted_55 ?_
        refine lv_bipush (v := 6) hx hb d_R_wanted_58 (by decide) ?_
        refine lv_iload_n hx hb d_R_wanted_60 rfl (lv_at hl 2 rfl) ?_
        refine lv_imul hx hb d_R_wanted_61 ?_
        refine lv_iconst (v := 2) hx hb d_R_wanted_62 (by decide) ?_
        refine lv_iadd hx hb d_R_wanted_63 ?_
        refine ga_value (k := (6 * mn + 2)) hF hM (by first | rfl | (simp only [← nI_add, ← pk_mul] <;> rfl)) (by first | omega | exact Nat.mod_lt _ (by decide)) d_R_wanted_64 ?_
        refine gm_ifz (b := (u.1 2 (6 * mn + 2))) (tgt := 89) hx hb d_R_wanted_65 rfl (fun h5 => ?_) (fun h5 => ?_)
        · refine lv_iconst (v := 0) hx hb d_R_wanted_89 (by decide) ?_
          have hJ := J4
          try simp only [if_neg (gm_nf h3), if_neg (gm_nf h5)] at hJ
          exact hJ ls H locs (lv_sub hl [1, 2, 3, 0] rfl) hM
        · refine lv_aload_n hx hb d_R_wanted_68 rfl (lv_at hl 1 rfl) ?_
          refine gf_R_42 hF hM d_R_wanted_69 ?_
          refine lv_iload_n hx hb d_R_wanted_72 rfl (lv_at hl 3 rfl) ?_
          refine lv_iconst (v := 3) hx hb d_R_wanted_73 (by decide) ?_
          have J7 : ∀ (ls : Array Slot) (H : Heap) (locs : List Loc), lv_has ls 4 [(0, .ref (a 0)), (1, .int (nI mn)), (2, .int vn), (3, .int (gm_b (v_R_right u mn)))] → gm_M D A s (gr_W dk a) u H locs → W p l e rm_R_wanted s m args below meth c H locs 0 0 Q (F0 m 82 ls [.int (gm_b (if vn = (3 : Int32) then true else false)), .int (gm_b (u.1 6 0))]) := by
            intro ls H locs hl hM
            refine gm_icn (b := (u.1 6 0)) (d := (if vn = (3 : Int32) then true else false)) (tgt := 89) hx hb d_R_wanted_82 rfl (fun h8 => ?_) (fun h8 => ?_)
            · refine lv_iconst (v := 0) hx hb d_R_wanted_89 (by decide) ?_
              have hJ := J4
              try simp only [if_neg (gm_nf h3), if_pos h5, if_neg h8] at hJ
              exact hJ ls H locs hl hM
            · refine lv_iconst (v := 1) hx hb d_R_wanted_85 (by decide) ?_
              refine lv_goto (tgt := 90) hx hb d_R_wanted_86 rfl ?_
              have hJ := J4
              try simp only [if_neg (gm_nf h3), if_pos h5, if_pos h8] at hJ
              exact hJ ls H locs hl hM
          refine lv_icmp_ne (tgt := 81) hx hb d_R_wanted_74 rfl (fun h6 => ?_) (fun h6 => ?_)
          · refine lv_iconst (v := 0) hx hb d_R_wanted_81 (by decide) ?_
            have hJ := J7
            try simp only [if_neg h6] at hJ
            exact hJ ls H locs (lv_sub hl [1, 2, 3, 0] rfl) hM
          · refine lv_iconst (v := 1) hx hb d_R_wanted_77 (by decide) ?_
            refine lv_goto (tgt := 82) hx hb d_R_wanted_78 rfl ?_
            have hJ := J7
            try simp only [if_pos h6] at hJ
            exact hJ ls H locs (lv_sub hl [1, 2, 3, 0] rfl) hM
    · refine lv_iload_n hx hb d_R_wanted_26 rfl (lv_at hl 0 rfl) ?_
      have J10 : ∀ (ls : Array Slot) (H : Heap) (locs : List Loc), lv_has ls 4 [(0, .ref (a 0)), (1, .int (nI mn)), (2, .int vn), (3, .int (gm_b (v_R_right u mn)))] → gm_M D A s (gr_W dk a) u H locs → W p l e rm_R_wanted s m args below meth c H locs 0 0 Q (F0 m 49 ls [.int (gm_b (if (v_R_right u mn) = true then (if (u.1 2 (6 * mn + 3)) = true then false else true) else false))]) := by
        intro ls H locs hl hM
        have hq := hQ H locs 49 ls
        simp only [v_R_wanted, if_neg h1, if_pos h2] at hq
        exact hq hM d_R_wanted_49
      refine gm_ifz (b := (v_R_right u mn)) (tgt := 48) hx hb d_R_wanted_27 rfl (fun h9 => ?_) (fun h9 => ?_)
      · refine lv_iconst (v := 0) hx hb d_R_wanted_48 (by decide) ?_
        have hJ := J10
        try simp only [if_neg (gm_nf h9)] at hJ
        exact hJ ls H locs (lv_sub hl [1, 2, 3, 0] rfl) hM
      · refine lv_aload_n hx hb d_R_wanted_30 rfl (lv_at hl 1 rfl) ?_
        refine gf_R_16 hF hM d_R_wanted_31 ?_
        refine lv_bipush (v := 6) hx hb d_R_wanted_34 (by decide) ?_
        refine lv_iload_n hx hb d_R_wanted_36 rfl (lv_at hl 2 rfl) ?_
        refine lv_imul hx hb d_R_wanted_37 ?_
        refine lv_iconst (v := 3) hx hb d_R_wanted_38 (by decide) ?_
        refine lv_iadd hx hb d_R_wanted_39 ?_
        refine ga_value (k := (6 * mn + 3)) hF hM (by first | rfl | (simp only [← nI_add, ← pk_mul] <;> rfl)) (by first | omega | exact Nat.mod_lt _ (by decide)) d_R_wanted_40 ?_
        refine gm_ifn (b := (u.1 2 (6 * mn + 3))) (tgt := 48) hx hb d_R_wanted_41 rfl (fun h11 => ?_) (fun h11 => ?_)
        · refine lv_iconst (v := 0) hx hb d_R_wanted_48 (by decide) ?_
          have hJ := J10
          try simp only [if_pos h9, if_pos h11] at hJ
          exact hJ ls H locs (lv_sub hl [1, 2, 3, 0] rfl) hM
        · refine lv_iconst (v := 1) hx hb d_R_wanted_44 (by decide) ?_
          refine lv_goto (tgt := 49) hx hb d_R_wanted_45 rfl ?_
          have hJ := J10
          try simp only [if_pos h9, if_neg (gm_nf h11)] at hJ
          exact hJ ls H locs (lv_sub hl [1, 2, 3, 0] rfl) hM
  · refine lv_iload_n hx hb d_R_wanted_11 rfl (lv_at hl 0 rfl) ?_
    have J13 : ∀ (ls : Array Slot) (H : Heap) (locs : List Loc), lv_has ls 4 [(0, .ref (a 0)), (1, .int (nI mn)), (2, .int vn), (3, .int (gm_b (v_R_right u mn)))] → gm_M D A s (gr_W dk a) u H locs → W p l e rm_R_wanted s m args below meth c H locs 0 0 Q (F0 m 20 ls [.int (gm_b (if (v_R_right u mn) = true then false else true))]) := by
      intro ls H locs hl hM
      have hq := hQ H locs 20 ls
      simp only [v_R_wanted, if_pos h1] at hq
      exact hq hM d_R_wanted_20
    refine gm_ifn (b := (v_R_right u mn)) (tgt := 19) hx hb d_R_wanted_12 rfl (fun h12 => ?_) (fun h12 => ?_)
    · refine lv_iconst (v := 0) hx hb d_R_wanted_19 (by decide) ?_
      have hJ := J13
      try simp only [if_pos h12] at hJ
      exact hJ ls H locs (lv_sub hl [1, 2, 3, 0] rfl) hM
    · refine lv_iconst (v := 1) hx hb d_R_wanted_15 (by decide) ?_
      refine lv_goto (tgt := 20) hx hb d_R_wanted_16 rfl ?_
      have hJ := J13
      try simp only [if_neg (gm_nf h12)] at hJ
      exact hJ ls H locs (lv_sub hl [1, 2, 3, 0] rfl) hM
theorem d_R_opposite_0 : decode b_R_opposite 0 = .ok (.iload_n 0, 1) := by decide +kernel
theorem d_R_opposite_1 : decode b_R_opposite 1 = .ok (.iconst 1, 1) := by decide +kernel
theorem d_R_opposite_2 : decode b_R_opposite 2 = .ok (.if_icmp .ne 7, 3) := by decide +kernel
theorem d_R_opposite_5 : decode b_R_opposite 5 = .ok (.iconst 2, 1) := by decide +kernel
theorem d_R_opposite_6 : decode b_R_opposite 6 = .ok (.goto 22, 3) := by decide +kernel
theorem d_R_opposite_9 : decode b_R_opposite 9 = .ok (.iload_n 0, 1) := by decide +kernel
theorem d_R_opposite_10 : decode b_R_opposite 10 = .ok (.iconst 2, 1) := by decide +kernel
theorem d_R_opposite_11 : decode b_R_opposite 11 = .ok (.if_icmp .ne 7, 3) := by decide +kernel
theorem d_R_opposite_14 : decode b_R_opposite 14 = .ok (.iconst 1, 1) := by decide +kernel
theorem d_R_opposite_15 : decode b_R_opposite 15 = .ok (.goto 13, 3) := by decide +kernel
theorem d_R_opposite_18 : decode b_R_opposite 18 = .ok (.iload_n 0, 1) := by decide +kernel
theorem d_R_opposite_19 : decode b_R_opposite 19 = .ok (.iconst 3, 1) := by decide +kernel
theorem d_R_opposite_20 : decode b_R_opposite 20 = .ok (.if_icmp .ne 7, 3) := by decide +kernel
theorem d_R_opposite_23 : decode b_R_opposite 23 = .ok (.iconst 4, 1) := by decide +kernel
theorem d_R_opposite_24 : decode b_R_opposite 24 = .ok (.goto 4, 3) := by decide +kernel
theorem d_R_opposite_27 : decode b_R_opposite 27 = .ok (.iconst 3, 1) := by decide +kernel
theorem d_R_opposite_28 : decode b_R_opposite 28 = .ok (.ireturn, 1) := by decide +kernel
def v_R_opposite (x : Int32) : Int32 := (if x = (1 : Int32) then (2 : Int32) else (if x = (2 : Int32) then (1 : Int32) else (if x = (3 : Int32) then (4 : Int32) else (3 : Int32))))
set_option maxRecDepth 100000 in
set_option maxHeartbeats 4000000 in
theorem c_R_opposite {l : Launch} {D : va_G} {dk : Nat → ClassId} {Wd : gm_St → va_W} {A : Nat → Prop} {lt : Nat} {u : gm_St} {x : Int32} : gm_I l D (gm_ty dk) Wd A lt y_R_opposite b_R_opposite 1 (some .int) rm_R_opposite [.int x] u (v_R_opposite x) u := by
  refine gm_enterI (by decide) (Nat.le_of_ble_eq_true rfl) ?_
  intro p e s m args below meth c ls Q H locs hF hM hl hQ
  have hx := hF.1
  have hb := hF.2.1
  have hml := hF.2.2.1
  have hown := hF.2.2.2.1
  have hts := hF.2.2.2.2.1
  have hl : lv_has ls 1 [(0, .int x)] := hl
  refine lv_iload_n hx hb d_R_opposite_0 rfl (lv_at hl 0 rfl) ?_
  refine lv_iconst (v := 1) hx hb d_R_opposite_1 (by decide) ?_
  have J2 : ∀ (ls : Array Slot) (H : Heap) (locs : List Loc), lv_has ls 1 [(0, .int x)] → gm_M D A s Wd u H locs → W p l e rm_R_opposite s m args below meth c H locs 0 0 Q (F0 m 28 ls [.int (if x = (1 : Int32) then (2 : Int32) else (if x = (2 : Int32) then (1 : Int32) else (if x = (3 : Int32) then (4 : Int32) else (3 : Int32))))]) := by
    intro ls H locs hl hM
    have hq := hQ H locs 28 ls
    simp only [v_R_opposite] at hq
    exact hq hM d_R_opposite_28
  refine lv_icmp_ne (tgt := 9) hx hb d_R_opposite_2 rfl (fun h1 => ?_) (fun h1 => ?_)
  · refine lv_iload_n hx hb d_R_opposite_9 rfl (lv_at hl 0 rfl) ?_
    refine lv_iconst (v := 2) hx hb d_R_opposite_10 (by decide) ?_
    refine lv_icmp_ne (tgt := 18) hx hb d_R_opposite_11 rfl (fun h3 => ?_) (fun h3 => ?_)
    · refine lv_iload_n hx hb d_R_opposite_18 rfl (lv_at hl 0 rfl) ?_
      refine lv_iconst (v := 3) hx hb d_R_opposite_19 (by decide) ?_
      refine lv_icmp_ne (tgt := 27) hx hb d_R_opposite_20 rfl (fun h4 => ?_) (fun h4 => ?_)
      · refine lv_iconst (v := 3) hx hb d_R_opposite_27 (by decide) ?_
        have hJ := J2
        try simp only [if_neg h1, if_neg h3, if_neg h4] at hJ
        exact hJ ls H locs hl hM
      · refine lv_iconst (v := 4) hx hb d_R_opposite_23 (by decide) ?_
        refine lv_goto (tgt := 28) hx hb d_R_opposite_24 rfl ?_
        have hJ := J2
        try simp only [if_neg h1, if_neg h3, if_pos h4] at hJ
        exact hJ ls H locs hl hM
    · refine lv_iconst (v := 1) hx hb d_R_opposite_14 (by decide) ?_
      refine lv_goto (tgt := 28) hx hb d_R_opposite_15 rfl ?_
      have hJ := J2
      try simp only [if_neg h1, if_pos h3] at hJ
      exact hJ ls H locs hl hM
  · refine lv_iconst (v := 2) hx hb d_R_opposite_5 (by decide) ?_
    refine lv_goto (tgt := 28) hx hb d_R_opposite_6 rfl ?_
    have hJ := J2
    try simp only [if_pos h1] at hJ
    exact hJ ls H locs hl hM
theorem d_R_valvesNow_0 : decode b_R_valvesNow 0 = .ok (.iconst 0, 1) := by decide +kernel
theorem d_R_valvesNow_1 : decode b_R_valvesNow 1 = .ok (.istore_n 2, 1) := by decide +kernel
theorem d_R_valvesNow_2 : decode b_R_valvesNow 2 = .ok (.iconst 0, 1) := by decide +kernel
theorem d_R_valvesNow_3 : decode b_R_valvesNow 3 = .ok (.istore_n 3, 1) := by decide +kernel
theorem d_R_valvesNow_4 : decode b_R_valvesNow 4 = .ok (.iconst 1, 1) := by decide +kernel
theorem d_R_valvesNow_5 : decode b_R_valvesNow 5 = .ok (.istore 4, 2) := by decide +kernel
theorem d_R_valvesNow_7 : decode b_R_valvesNow 7 = .ok (.iload 4, 2) := by decide +kernel
theorem d_R_valvesNow_9 : decode b_R_valvesNow 9 = .ok (.iconst 5, 1) := by decide +kernel
theorem d_R_valvesNow_10 : decode b_R_valvesNow 10 = .ok (.if_icmp .ge 133, 3) := by decide +kernel
theorem d_R_valvesNow_13 : decode b_R_valvesNow 13 = .ok (.aload_n 0, 1) := by decide +kernel
theorem d_R_valvesNow_14 : decode b_R_valvesNow 14 = .ok (.iload_n 1, 1) := by decide +kernel
theorem d_R_valvesNow_15 : decode b_R_valvesNow 15 = .ok (.iload 4, 2) := by decide +kernel
theorem d_R_valvesNow_17 : decode b_R_valvesNow 17 = .ok (.invokevirtual 66, 3) := by decide +kernel
theorem d_R_valvesNow_20 : decode b_R_valvesNow 20 = .ok (.istore 5, 2) := by decide +kernel
theorem d_R_valvesNow_22 : decode b_R_valvesNow 22 = .ok (.iload_n 3, 1) := by decide +kernel
theorem d_R_valvesNow_23 : decode b_R_valvesNow 23 = .ok (.ifCond .ne 8, 3) := by decide +kernel
theorem d_R_valvesNow_26 : decode b_R_valvesNow 26 = .ok (.iload 5, 2) := by decide +kernel
theorem d_R_valvesNow_28 : decode b_R_valvesNow 28 = .ok (.ifCond .eq 7, 3) := by decide +kernel
theorem d_R_valvesNow_31 : decode b_R_valvesNow 31 = .ok (.iconst 1, 1) := by decide +kernel
theorem d_R_valvesNow_32 : decode b_R_valvesNow 32 = .ok (.goto 4, 3) := by decide +kernel
theorem d_R_valvesNow_35 : decode b_R_valvesNow 35 = .ok (.iconst 0, 1) := by decide +kernel
theorem d_R_valvesNow_36 : decode b_R_valvesNow 36 = .ok (.istore_n 3, 1) := by decide +kernel
theorem d_R_valvesNow_37 : decode b_R_valvesNow 37 = .ok (.iconst 0, 1) := by decide +kernel
theorem d_R_valvesNow_38 : decode b_R_valvesNow 38 = .ok (.istore 6, 2) := by decide +kernel
theorem d_R_valvesNow_40 : decode b_R_valvesNow 40 = .ok (.iload 6, 2) := by decide +kernel
theorem d_R_valvesNow_42 : decode b_R_valvesNow 42 = .ok (.bipush 10, 2) := by decide +kernel
theorem d_R_valvesNow_44 : decode b_R_valvesNow 44 = .ok (.if_icmp .ge 31, 3) := by decide +kernel
theorem d_R_valvesNow_47 : decode b_R_valvesNow 47 = .ok (.iload_n 3, 1) := by decide +kernel
theorem d_R_valvesNow_48 : decode b_R_valvesNow 48 = .ok (.ifCond .ne 15, 3) := by decide +kernel
theorem d_R_valvesNow_51 : decode b_R_valvesNow 51 = .ok (.aload_n 0, 1) := by decide +kernel
theorem d_R_valvesNow_52 : decode b_R_valvesNow 52 = .ok (.iload_n 1, 1) := by decide +kernel
theorem d_R_valvesNow_53 : decode b_R_valvesNow 53 = .ok (.iload 4, 2) := by decide +kernel
theorem d_R_valvesNow_55 : decode b_R_valvesNow 55 = .ok (.iload 6, 2) := by decide +kernel
theorem d_R_valvesNow_57 : decode b_R_valvesNow 57 = .ok (.invokevirtual 69, 3) := by decide +kernel
theorem d_R_valvesNow_60 : decode b_R_valvesNow 60 = .ok (.ifCond .eq 7, 3) := by decide +kernel
theorem d_R_valvesNow_63 : decode b_R_valvesNow 63 = .ok (.iconst 1, 1) := by decide +kernel
theorem d_R_valvesNow_64 : decode b_R_valvesNow 64 = .ok (.goto 4, 3) := by decide +kernel
theorem d_R_valvesNow_67 : decode b_R_valvesNow 67 = .ok (.iconst 0, 1) := by decide +kernel
theorem d_R_valvesNow_68 : decode b_R_valvesNow 68 = .ok (.istore_n 3, 1) := by decide +kernel
theorem d_R_valvesNow_69 : decode b_R_valvesNow 69 = .ok (.iinc 6 1, 3) := by decide +kernel
theorem d_R_valvesNow_72 : decode b_R_valvesNow 72 = .ok (.goto (-32), 3) := by decide +kernel
theorem d_R_valvesNow_75 : decode b_R_valvesNow 75 = .ok (.iload 5, 2) := by decide +kernel
theorem d_R_valvesNow_77 : decode b_R_valvesNow 77 = .ok (.ifCond .eq 41, 3) := by decide +kernel
theorem d_R_valvesNow_80 : decode b_R_valvesNow 80 = .ok (.aload_n 0, 1) := by decide +kernel
theorem d_R_valvesNow_81 : decode b_R_valvesNow 81 = .ok (.iload_n 1, 1) := by decide +kernel
theorem d_R_valvesNow_82 : decode b_R_valvesNow 82 = .ok (.iconst 0, 1) := by decide +kernel
theorem d_R_valvesNow_83 : decode b_R_valvesNow 83 = .ok (.iconst 0, 1) := by decide +kernel
theorem d_R_valvesNow_84 : decode b_R_valvesNow 84 = .ok (.invokevirtual 69, 3) := by decide +kernel
theorem d_R_valvesNow_87 : decode b_R_valvesNow 87 = .ok (.ifCond .eq 31, 3) := by decide +kernel
theorem d_R_valvesNow_90 : decode b_R_valvesNow 90 = .ok (.aload_n 0, 1) := by decide +kernel
theorem d_R_valvesNow_91 : decode b_R_valvesNow 91 = .ok (.iload_n 1, 1) := by decide +kernel
theorem d_R_valvesNow_92 : decode b_R_valvesNow 92 = .ok (.iconst 0, 1) := by decide +kernel
theorem d_R_valvesNow_93 : decode b_R_valvesNow 93 = .ok (.iconst 1, 1) := by decide +kernel
theorem d_R_valvesNow_94 : decode b_R_valvesNow 94 = .ok (.invokevirtual 69, 3) := by decide +kernel
theorem d_R_valvesNow_97 : decode b_R_valvesNow 97 = .ok (.ifCond .eq 21, 3) := by decide +kernel
theorem d_R_valvesNow_100 : decode b_R_valvesNow 100 = .ok (.aload_n 0, 1) := by decide +kernel
theorem d_R_valvesNow_101 : decode b_R_valvesNow 101 = .ok (.iload_n 1, 1) := by decide +kernel
theorem d_R_valvesNow_102 : decode b_R_valvesNow 102 = .ok (.iload 4, 2) := by decide +kernel
theorem d_R_valvesNow_104 : decode b_R_valvesNow 104 = .ok (.invokestatic 73, 3) := by decide +kernel
theorem d_R_valvesNow_107 : decode b_R_valvesNow 107 = .ok (.iconst 0, 1) := by decide +kernel
theorem d_R_valvesNow_108 : decode b_R_valvesNow 108 = .ok (.invokevirtual 69, 3) := by decide +kernel
theorem d_R_valvesNow_111 : decode b_R_valvesNow 111 = .ok (.ifCond .ne 7, 3) := by decide +kernel
theorem d_R_valvesNow_114 : decode b_R_valvesNow 114 = .ok (.iconst 1, 1) := by decide +kernel
theorem d_R_valvesNow_115 : decode b_R_valvesNow 115 = .ok (.goto 4, 3) := by decide +kernel
theorem d_R_valvesNow_118 : decode b_R_valvesNow 118 = .ok (.iconst 0, 1) := by decide +kernel
theorem d_R_valvesNow_119 : decode b_R_valvesNow 119 = .ok (.istore 6, 2) := by decide +kernel
theorem d_R_valvesNow_121 : decode b_R_valvesNow 121 = .ok (.iload 6, 2) := by decide +kernel
theorem d_R_valvesNow_123 : decode b_R_valvesNow 123 = .ok (.ifCond .eq 12, 3) := by decide +kernel
theorem d_R_valvesNow_126 : decode b_R_valvesNow 126 = .ok (.iload_n 2, 1) := by decide +kernel
theorem d_R_valvesNow_127 : decode b_R_valvesNow 127 = .ok (.iconst 1, 1) := by decide +kernel
theorem d_R_valvesNow_128 : decode b_R_valvesNow 128 = .ok (.iload 4, 2) := by decide +kernel
theorem d_R_valvesNow_130 : decode b_R_valvesNow 130 = .ok (.ishl, 1) := by decide +kernel
theorem d_R_valvesNow_131 : decode b_R_valvesNow 131 = .ok (.ior, 1) := by decide +kernel
theorem d_R_valvesNow_132 : decode b_R_valvesNow 132 = .ok (.goto 4, 3) := by decide +kernel
theorem d_R_valvesNow_135 : decode b_R_valvesNow 135 = .ok (.iload_n 2, 1) := by decide +kernel
theorem d_R_valvesNow_136 : decode b_R_valvesNow 136 = .ok (.istore_n 2, 1) := by decide +kernel
theorem d_R_valvesNow_137 : decode b_R_valvesNow 137 = .ok (.iinc 4 1, 3) := by decide +kernel
theorem d_R_valvesNow_140 : decode b_R_valvesNow 140 = .ok (.goto (-133), 3) := by decide +kernel
theorem d_R_valvesNow_143 : decode b_R_valvesNow 143 = .ok (.iload_n 3, 1) := by decide +kernel
theorem d_R_valvesNow_144 : decode b_R_valvesNow 144 = .ok (.ifCond .eq 9, 3) := by decide +kernel
theorem d_R_valvesNow_147 : decode b_R_valvesNow 147 = .ok (.iload_n 2, 1) := by decide +kernel
theorem d_R_valvesNow_148 : decode b_R_valvesNow 148 = .ok (.iconst 1, 1) := by decide +kernel
theorem d_R_valvesNow_149 : decode b_R_valvesNow 149 = .ok (.ior, 1) := by decide +kernel
theorem d_R_valvesNow_150 : decode b_R_valvesNow 150 = .ok (.goto 4, 3) := by decide +kernel
theorem d_R_valvesNow_153 : decode b_R_valvesNow 153 = .ok (.iload_n 2, 1) := by decide +kernel
theorem d_R_valvesNow_154 : decode b_R_valvesNow 154 = .ok (.ireturn, 1) := by decide +kernel
def lp_R_vN2 (u : gm_St) (mn : Nat) (vv : Nat) : Nat → Nat → Bool → Bool
  | 0, _, gb => gb
  | k + 1, i, gb => lp_R_vN2 u mn vv k (i + 1) (if gb = true then true else (if (v_R_was u mn (nI vv) i) = true then true else false))
def lp_R_vN (u : gm_St) (mn : Nat) : Nat → Nat → Int32 → Bool → Int32 × Bool
  | 0, _, x, gb => (x, gb)
  | k + 1, i, x, gb => lp_R_vN u mn k (i + 1) (if (if (v_R_wanted u mn (nI i)) = true then (if (v_R_was u mn (0 : Int32) 0) = true then (if (v_R_was u mn (0 : Int32) 1) = true then (if (v_R_was u mn (v_R_opposite (nI i)) 0) = true then false else true) else false) else false) else false) = true then (x ||| ((1 : Int32) <<< ((nI i) &&& 31))) else x) (lp_R_vN2 u mn i 10 0 (if gb = true then true else (if (v_R_wanted u mn (nI i)) = true then true else false)))
def v_R_valvesNow (u : gm_St) (mn : Nat) : Int32 := (if ((lp_R_vN u mn 4 1 (0 : Int32) false).2) = true then (((lp_R_vN u mn 4 1 (0 : Int32) false).1) ||| (1 : Int32)) else ((lp_R_vN u mn 4 1 (0 : Int32) false).1))
set_option maxRecDepth 100000 in
set_option maxHeartbeats 4000000 in
theorem c_R_valvesNow {l : Launch} {D : va_G} {dk : Nat → ClassId} {a : Nat → Nat} {A : Nat → Prop} {lt : Nat} {u : gm_St} {mn : Nat} (h_mn : mn < 2) : gm_I l D (gm_ty dk) (gr_W dk a) A lt y_R_valvesNow b_R_valvesNow 7 (some .int) rm_R_valvesNow [.ref (a 0), .int (nI mn)] u (v_R_valvesNow u mn) u := by
  refine gm_enterI (by decide) (Nat.le_of_ble_eq_true rfl) ?_
  intro p e s m args below meth c ls Q H locs hF hM hl hQ
  have hx := hF.1
  have hb := hF.2.1
  have hml := hF.2.2.1
  have hown := hF.2.2.2.1
  have hts := hF.2.2.2.2.1
  have hl : lv_has ls 7 [(0, .ref (a 0)), (1, .int (nI mn))] := hl
  refine lv_iconst (v := 0) hx hb d_R_valvesNow_0 (by decide) ?_
  refine lv_istore_n (lv' := [(2, .int (0 : Int32)), (0, .ref (a 0)), (1, .int (nI mn))]) hx hb d_R_valvesNow_1 rfl hl (by decide) rfl (fun ls hl => ?_)
  refine lv_iconst (v := 0) hx hb d_R_valvesNow_2 (by decide) ?_
  refine lv_istore_n (lv' := [(3, .int (0 : Int32)), (2, .int (0 : Int32)), (0, .ref (a 0)), (1, .int (nI mn))]) hx hb d_R_valvesNow_3 rfl hl (by decide) rfl (fun ls hl => ?_)
  refine lv_iconst (v := 1) hx hb d_R_valvesNow_4 (by decide) ?_
  refine lv_istore (lv' := [(4, .int (1 : Int32)), (3, .int (0 : Int32)), (2, .int (0 : Int32)), (0, .ref (a 0)), (1, .int (nI mn))]) hx hb d_R_valvesNow_5 hl (by decide) rfl (fun ls hl => ?_)
  have L1 : ∀ (k1 i1 : Nat) (x1 : Int32) (gb1 : Bool) (ls : Array Slot) (H : Heap) (locs : List Loc), i1 + k1 = 5 → lv_has ls 7 [(4, .int (nI i1)), (3, .int (gm_b gb1)), (2, .int x1), (0, .ref (a 0)), (1, .int (nI mn))] → gm_M D A s (gr_W dk a) u H locs → (∀ (ls : Array Slot) (H : Heap) (locs : List Loc), lv_has ls 7 [(4, .int (nI 5)), (3, .int (gm_b ((lp_R_vN u mn k1 i1 x1 gb1).2))), (2, .int ((lp_R_vN u mn k1 i1 x1 gb1).1)), (0, .ref (a 0)), (1, .int (nI mn))] → gm_M D A s (gr_W dk a) u H locs → W p l e rm_R_valvesNow s m args below meth c H locs 0 0 Q (F0 m 143 ls [])) → W p l e rm_R_valvesNow s m args below meth c H locs 0 0 Q (F0 m 7 ls []) := by
    intro k1
    induction k1 with
    | zero =>
      intro i1 x1 gb1 ls H locs hk1 hl hM kk
      obtain rfl : i1 = 5 := by omega
      refine lv_iload hx hb d_R_valvesNow_7 (lv_at hl 0 rfl) ?_
      refine lv_iconst (v := 5) hx hb d_R_valvesNow_9 (by decide) ?_
      refine lv_icmp_ge (tgt := 143) hx hb d_R_valvesNow_10 rfl (fun _ => ?_) (fun h => absurd (by decide) h)
      exact kk ls H locs hl hM
    | succ k1 ih =>
      intro i1 x1 gb1 ls H locs hk1 hl hM kk
      refine lv_iload hx hb d_R_valvesNow_7 (lv_at hl 0 rfl) ?_
      refine lv_iconst (v := 5) hx hb d_R_valvesNow_9 (by decide) ?_
      refine lv_icmp_ge (tgt := 143) hx hb d_R_valvesNow_10 rfl (fun h => absurd h (nI_ge (a := i1) (b := 5) (by omega) (by first | decide | omega))) (fun _ => ?_)
      refine lv_aload_n hx hb d_R_valvesNow_13 rfl (lv_at hl 3 rfl) ?_
      refine lv_iload_n hx hb d_R_valvesNow_14 rfl (lv_at hl 4 rfl) ?_
      refine lv_iload hx hb d_R_valvesNow_15 (lv_at hl 0 rfl) ?_
      refine gm_Vi (As := [.int (nI mn), .int (nI i1)]) (rest := []) hF hM (c_R_wanted (u := u) (mn := mn) (vn := (nI i1)) (by omega)) (gk_R_66 hts ⟨by decide, by decide⟩) (gv_R hF hM rfl) rfl hl.1 rfl (Nat.le_of_ble_eq_true rfl) ⟨Nat.zero_le _, Nat.zero_le _⟩ d_R_valvesNow_17 (fun H locs hM => ?_)
      refine lv_istore (lv' := [(5, .int (gm_b (v_R_wanted u mn (nI i1)))), (4, .int (nI i1)), (3, .int (gm_b gb1)), (2, .int x1), (0, .ref (a 0)), (1, .int (nI mn))]) hx hb d_R_valvesNow_20 hl (by decide) rfl (fun ls hl => ?_)
      refine lv_iload_n hx hb d_R_valvesNow_22 rfl (lv_at hl 2 rfl) ?_
      have J3 : ∀ (ls : Array Slot) (H : Heap) (locs : List Loc), lv_has ls 7 [(0, .ref (a 0)), (1, .int (nI mn)), (2, .int x1), (3, .int (gm_b gb1)), (4, .int (nI i1)), (5, .int (gm_b (v_R_wanted u mn (nI i1))))] → gm_M D A s (gr_W dk a) u H locs → W p l e rm_R_valvesNow s m args below meth c H locs 0 0 Q (F0 m 36 ls [.int (gm_b (if gb1 = true then true else (if (v_R_wanted u mn (nI i1)) = true then true else false)))]) := by
        intro ls H locs hl hM
        refine lv_istore_n (lv' := [(3, .int (gm_b (if gb1 = true then true else (if (v_R_wanted u mn (nI i1)) = true then true else false)))), (0, .ref (a 0)), (1, .int (nI mn)), (2, .int x1), (4, .int (nI i1)), (5, .int (gm_b (v_R_wanted u mn (nI i1))))]) hx hb d_R_valvesNow_36 rfl hl (by decide) rfl (fun ls hl => ?_)
        refine lv_iconst (v := 0) hx hb d_R_valvesNow_37 (by decide) ?_
        refine lv_istore (lv' := [(6, .int (0 : Int32)), (3, .int (gm_b (if gb1 = true then true else (if (v_R_wanted u mn (nI i1)) = true then true else false)))), (0, .ref (a 0)), (1, .int (nI mn)), (2, .int x1), (4, .int (nI i1)), (5, .int (gm_b (v_R_wanted u mn (nI i1))))]) hx hb d_R_valvesNow_38 hl (by decide) rfl (fun ls hl => ?_)
        have L4 : ∀ (k4 i4 : Nat) (gb4 : Bool) (ls : Array Slot) (H : Heap) (locs : List Loc), i4 + k4 = 10 → lv_has ls 7 [(6, .int (nI i4)), (3, .int (gm_b gb4)), (0, .ref (a 0)), (1, .int (nI mn)), (2, .int x1), (4, .int (nI i1)), (5, .int (gm_b (v_R_wanted u mn (nI i1))))] → gm_M D A s (gr_W dk a) u H locs → (∀ (ls : Array Slot) (H : Heap) (locs : List Loc), lv_has ls 7 [(6, .int (nI 10)), (3, .int (gm_b (lp_R_vN2 u mn i1 k4 i4 gb4))), (0, .ref (a 0)), (1, .int (nI mn)), (2, .int x1), (4, .int (nI i1)), (5, .int (gm_b (v_R_wanted u mn (nI i1))))] → gm_M D A s (gr_W dk a) u H locs → W p l e rm_R_valvesNow s m args below meth c H locs 0 0 Q (F0 m 75 ls [])) → W p l e rm_R_valvesNow s m args below meth c H locs 0 0 Q (F0 m 40 ls []) := by
          intro k4
          induction k4 with
          | zero =>
            intro i4 gb4 ls H locs hk4 hl hM kk
            obtain rfl : i4 = 10 := by omega
            refine lv_iload hx hb d_R_valvesNow_40 (lv_at hl 0 rfl) ?_
            refine lv_bipush (v := 10) hx hb d_R_valvesNow_42 (by decide) ?_
            refine lv_icmp_ge (tgt := 75) hx hb d_R_valvesNow_44 rfl (fun _ => ?_) (fun h => absurd (by decide) h)
            exact kk ls H locs hl hM
          | succ k4 ih =>
            intro i4 gb4 ls H locs hk4 hl hM kk
            refine lv_iload hx hb d_R_valvesNow_40 (lv_at hl 0 rfl) ?_
            refine lv_bipush (v := 10) hx hb d_R_valvesNow_42 (by decide) ?_
            refine lv_icmp_ge (tgt := 75) hx hb d_R_valvesNow_44 rfl (fun h => absurd h (nI_ge (a := i4) (b := 10) (by omega) (by first | decide | omega))) (fun _ => ?_)
            refine lv_iload_n hx hb d_R_valvesNow_47 rfl (lv_at hl 1 rfl) ?_
            have J6 : ∀ (ls : Array Slot) (H : Heap) (locs : List Loc), lv_has ls 7 [(0, .ref (a 0)), (1, .int (nI mn)), (2, .int x1), (3, .int (gm_b gb4)), (4, .int (nI i1)), (5, .int (gm_b (v_R_wanted u mn (nI i1)))), (6, .int (nI i4))] → gm_M D A s (gr_W dk a) u H locs → W p l e rm_R_valvesNow s m args below meth c H locs 0 0 Q (F0 m 68 ls [.int (gm_b (if gb4 = true then true else (if (v_R_was u mn (nI i1) i4) = true then true else false)))]) := by
              intro ls H locs hl hM
              refine lv_istore_n (lv' := [(3, .int (gm_b (if gb4 = true then true else (if (v_R_was u mn (nI i1) i4) = true then true else false)))), (0, .ref (a 0)), (1, .int (nI mn)), (2, .int x1), (4, .int (nI i1)), (5, .int (gm_b (v_R_wanted u mn (nI i1)))), (6, .int (nI i4))]) hx hb d_R_valvesNow_68 rfl hl (by decide) rfl (fun ls hl => ?_)
              refine lv_iinc (k := 6) (v := (nI (i4 + 1))) (lv' := [(6, .int (nI (i4 + 1))), (3, .int (gm_b (if gb4 = true then true else (if (v_R_was u mn (nI i1) i4) = true then true else false)))), (0, .ref (a 0)), (1, .int (nI mn)), (2, .int x1), (4, .int (nI i1)), (5, .int (gm_b (v_R_wanted u mn (nI i1))))]) hx hb d_R_valvesNow_69 hl rfl (nI_1 _) (by decide) rfl (fun ls hl => ?_)
              refine lv_goto (tgt := 40) hx hb d_R_valvesNow_72 rfl ?_
              have hK := kk
              simp only [lp_R_vN2] at hK
              exact ih (i4 + 1) (if gb4 = true then true else (if (v_R_was u mn (nI i1) i4) = true then true else false)) ls H locs (by omega) hl hM hK
            refine gm_ifn (b := gb4) (tgt := 63) hx hb d_R_valvesNow_48 rfl (fun h5 => ?_) (fun h5 => ?_)
            · refine lv_iconst (v := 1) hx hb d_R_valvesNow_63 (by decide) ?_
              refine lv_goto (tgt := 68) hx hb d_R_valvesNow_64 rfl ?_
              have hJ := J6
              try simp only [if_pos h5] at hJ
              exact hJ ls H locs (lv_sub hl [2, 3, 4, 1, 5, 6, 0] rfl) hM
            · refine lv_aload_n hx hb d_R_valvesNow_51 rfl (lv_at hl 2 rfl) ?_
              refine lv_iload_n hx hb d_R_valvesNow_52 rfl (lv_at hl 3 rfl) ?_
              refine lv_iload hx hb d_R_valvesNow_53 (lv_at hl 5 rfl) ?_
              refine lv_iload hx hb d_R_valvesNow_55 (lv_at hl 0 rfl) ?_
              refine gm_Vi (As := [.int (nI mn), .int (nI i1), .int (nI i4)]) (rest := []) hF hM (c_R_was (u := u) (mn := mn) (vn := (nI i1)) (an := i4) (by omega) (by omega)) (gk_R_69 hts ⟨by decide, by decide⟩) (gv_R hF hM rfl) rfl hl.1 rfl (Nat.le_of_ble_eq_true rfl) ⟨Nat.zero_le _, Nat.zero_le _⟩ d_R_valvesNow_57 (fun H locs hM => ?_)
              refine gm_ifz (b := (v_R_was u mn (nI i1) i4)) (tgt := 67) hx hb d_R_valvesNow_60 rfl (fun h7 => ?_) (fun h7 => ?_)
              · refine lv_iconst (v := 0) hx hb d_R_valvesNow_67 (by decide) ?_
                have hJ := J6
                try simp only [if_neg (gm_nf h5), if_neg (gm_nf h7)] at hJ
                exact hJ ls H locs (lv_sub hl [2, 3, 4, 1, 5, 6, 0] rfl) hM
              · refine lv_iconst (v := 1) hx hb d_R_valvesNow_63 (by decide) ?_
                refine lv_goto (tgt := 68) hx hb d_R_valvesNow_64 rfl ?_
                have hJ := J6
                try simp only [if_neg (gm_nf h5), if_pos h7] at hJ
                exact hJ ls H locs (lv_sub hl [2, 3, 4, 1, 5, 6, 0] rfl) hM
        refine L4 10 0 (if gb1 = true then true else (if (v_R_wanted u mn (nI i1)) = true then true else false)) ls H locs (by omega) hl hM (fun ls H locs hl hM => ?_)
        refine lv_iload hx hb d_R_valvesNow_75 (lv_at hl 6 rfl) ?_
        have J9 : ∀ (ls : Array Slot) (H : Heap) (locs : List Loc), lv_has ls 7 [(0, .ref (a 0)), (1, .int (nI mn)), (2, .int x1), (3, .int (gm_b (lp_R_vN2 u mn i1 10 0 (if gb1 = true then true else (if (v_R_wanted u mn (nI i1)) = true then true else false))))), (4, .int (nI i1)), (5, .int (gm_b (v_R_wanted u mn (nI i1)))), (6, .int (nI 10))] → gm_M D A s (gr_W dk a) u H locs → W p l e rm_R_valvesNow s m args below meth c H locs 0 0 Q (F0 m 119 ls [.int (gm_b (if (v_R_wanted u mn (nI i1)) = true then (if (v_R_was u mn (0 : Int32) 0) = true then (if (v_R_was u mn (0 : Int32) 1) = true then (if (v_R_was u mn (v_R_opposite (nI i1)) 0) = true then false else true) else false) else false) else false))]) := by
          intro ls H locs hl hM
          refine lv_istore (lv' := [(6, .int (gm_b (if (v_R_wanted u mn (nI i1)) = true then (if (v_R_was u mn (0 : Int32) 0) = true then (if (v_R_was u mn (0 : Int32) 1) = true then (if (v_R_was u mn (v_R_opposite (nI i1)) 0) = true then false else true) else false) else false) else false))), (0, .ref (a 0)), (1, .int (nI mn)), (2, .int x1), (3, .int (gm_b (lp_R_vN2 u mn i1 10 0 (if gb1 = true then true else (if (v_R_wanted u mn (nI i1)) = true then true else false))))), (4, .int (nI i1)), (5, .int (gm_b (v_R_wanted u mn (nI i1))))]) hx hb d_R_valvesNow_119 hl (by decide) rfl (fun ls hl => ?_)
          refine lv_iload hx hb d_R_valvesNow_121 (lv_at hl 0 rfl) ?_
          have J11 : ∀ (ls : Array Slot) (H : Heap) (locs : List Loc), lv_has ls 7 [(0, .ref (a 0)), (1, .int (nI mn)), (2, .int x1), (3, .int (gm_b (lp_R_vN2 u mn i1 10 0 (if gb1 = true then true else (if (v_R_wanted u mn (nI i1)) = true then true else false))))), (4, .int (nI i1)), (5, .int (gm_b (v_R_wanted u mn (nI i1)))), (6, .int (gm_b (if (v_R_wanted u mn (nI i1)) = true then (if (v_R_was u mn (0 : Int32) 0) = true then (if (v_R_was u mn (0 : Int32) 1) = true then (if (v_R_was u mn (v_R_opposite (nI i1)) 0) = true then false else true) else false) else false) else false)))] → gm_M D A s (gr_W dk a) u H locs → W p l e rm_R_valvesNow s m args below meth c H locs 0 0 Q (F0 m 136 ls [.int (if (if (v_R_wanted u mn (nI i1)) = true then (if (v_R_was u mn (0 : Int32) 0) = true then (if (v_R_was u mn (0 : Int32) 1) = true then (if (v_R_was u mn (v_R_opposite (nI i1)) 0) = true then false else true) else false) else false) else false) = true then (x1 ||| ((1 : Int32) <<< ((nI i1) &&& 31))) else x1)]) := by
            intro ls H locs hl hM
            refine lv_istore_n (lv' := [(2, .int (if (if (v_R_wanted u mn (nI i1)) = true then (if (v_R_was u mn (0 : Int32) 0) = true then (if (v_R_was u mn (0 : Int32) 1) = true then (if (v_R_was u mn (v_R_opposite (nI i1)) 0) = true then false else true) else false) else false) else false) = true then (x1 ||| ((1 : Int32) <<< ((nI i1) &&& 31))) else x1)), (0, .ref (a 0)), (1, .int (nI mn)), (3, .int (gm_b (lp_R_vN2 u mn i1 10 0 (if gb1 = true then true else (if (v_R_wanted u mn (nI i1)) = true then true else false))))), (4, .int (nI i1)), (5, .int (gm_b (v_R_wanted u mn (nI i1)))), (6, .int (gm_b (if (v_R_wanted u mn (nI i1)) = true then (if (v_R_was u mn (0 : Int32) 0) = true then (if (v_R_was u mn (0 : Int32) 1) = true then (if (v_R_was u mn (v_R_opposite (nI i1)) 0) = true then false else true) else false) else false) else false)))]) hx hb d_R_valvesNow_136 rfl hl (by decide) rfl (fun ls hl => ?_)
            refine lv_iinc (k := 4) (v := (nI (i1 + 1))) (lv' := [(4, .int (nI (i1 + 1))), (2, .int (if (if (v_R_wanted u mn (nI i1)) = true then (if (v_R_was u mn (0 : Int32) 0) = true then (if (v_R_was u mn (0 : Int32) 1) = true then (if (v_R_was u mn (v_R_opposite (nI i1)) 0) = true then false else true) else false) else false) else false) = true then (x1 ||| ((1 : Int32) <<< ((nI i1) &&& 31))) else x1)), (0, .ref (a 0)), (1, .int (nI mn)), (3, .int (gm_b (lp_R_vN2 u mn i1 10 0 (if gb1 = true then true else (if (v_R_wanted u mn (nI i1)) = true then true else false))))), (5, .int (gm_b (v_R_wanted u mn (nI i1)))), (6, .int (gm_b (if (v_R_wanted u mn (nI i1)) = true then (if (v_R_was u mn (0 : Int32) 0) = true then (if (v_R_was u mn (0 : Int32) 1) = true then (if (v_R_was u mn (v_R_opposite (nI i1)) 0) = true then false else true) else false) else false) else false)))]) hx hb d_R_valvesNow_137 hl rfl (nI_1 _) (by decide) rfl (fun ls hl => ?_)
            refine lv_goto (tgt := 7) hx hb d_R_valvesNow_140 rfl ?_
            have hK := kk
            simp only [lp_R_vN] at hK
            exact ih (i1 + 1) (if (if (v_R_wanted u mn (nI i1)) = true then (if (v_R_was u mn (0 : Int32) 0) = true then (if (v_R_was u mn (0 : Int32) 1) = true then (if (v_R_was u mn (v_R_opposite (nI i1)) 0) = true then false else true) else false) else false) else false) = true then (x1 ||| ((1 : Int32) <<< ((nI i1) &&& 31))) else x1) (lp_R_vN2 u mn i1 10 0 (if gb1 = true then true else (if (v_R_wanted u mn (nI i1)) = true then true else false))) ls H locs (by omega) (lv_sub hl [0, 4, 1, 2, 3] rfl) hM hK
          refine gm_ifz (b := (if (v_R_wanted u mn (nI i1)) = true then (if (v_R_was u mn (0 : Int32) 0) = true then (if (v_R_was u mn (0 : Int32) 1) = true then (if (v_R_was u mn (v_R_opposite (nI i1)) 0) = true then false else true) else false) else false) else false)) (tgt := 135) hx hb d_R_valvesNow_123 rfl (fun h10 => ?_) (fun h10 => ?_)
          · refine lv_iload_n hx hb d_R_valvesNow_135 rfl (lv_at hl 3 rfl) ?_
            have hJ := J11
            try simp only [if_neg (gm_nf h10)] at hJ
            exact hJ ls H locs (lv_sub hl [1, 2, 3, 4, 5, 6, 0] rfl) hM
          · refine lv_iload_n hx hb d_R_valvesNow_126 rfl (lv_at hl 3 rfl) ?_
            refine lv_iconst (v := 1) hx hb d_R_valvesNow_127 (by decide) ?_
            refine lv_iload hx hb d_R_valvesNow_128 (lv_at hl 5 rfl) ?_
            refine lv_ishl hx hb d_R_valvesNow_130 ?_
            refine lv_ior hx hb d_R_valvesNow_131 ?_
            refine lv_goto (tgt := 136) hx hb d_R_valvesNow_132 rfl ?_
            have hJ := J11
            try simp only [if_pos h10] at hJ
            exact hJ ls H locs (lv_sub hl [1, 2, 3, 4, 5, 6, 0] rfl) hM
        refine gm_ifz (b := (v_R_wanted u mn (nI i1))) (tgt := 118) hx hb d_R_valvesNow_77 rfl (fun h8 => ?_) (fun h8 => ?_)
        · refine lv_iconst (v := 0) hx hb d_R_valvesNow_118 (by decide) ?_
          have hJ := J9
          try simp only [if_neg (gm_nf h8)] at hJ
          try simp only [if_neg (gm_nf h8)] at hl
          try simp only [if_neg (gm_nf h8)] at hM
          try simp only [if_neg (gm_nf h8)]
          exact hJ ls H locs (lv_sub hl [2, 3, 4, 1, 5, 6, 0] rfl) hM
        · refine lv_aload_n hx hb d_R_valvesNow_80 rfl (lv_at hl 2 rfl) ?_
          refine lv_iload_n hx hb d_R_valvesNow_81 rfl (lv_at hl 3 rfl) ?_
          refine lv_iconst (v := 0) hx hb d_R_valvesNow_82 (by decide) ?_
          refine lv_iconst (v := 0) hx hb d_R_valvesNow_83 (by decide) ?_
          refine gm_Vi (As := [.int (nI mn), .int (0 : Int32), .int (nI 0)]) (rest := []) hF hM (c_R_was (u := u) (mn := mn) (vn := (0 : Int32)) (an := 0) (by omega) (by omega)) (gk_R_69 hts ⟨by decide, by decide⟩) (gv_R hF hM rfl) rfl hl.1 rfl (Nat.le_of_ble_eq_true rfl) ⟨Nat.zero_le _, Nat.zero_le _⟩ d_R_valvesNow_84 (fun H locs hM => ?_)
          refine gm_ifz (b := (v_R_was u mn (0 : Int32) 0)) (tgt := 118) hx hb d_R_valvesNow_87 rfl (fun h12 => ?_) (fun h12 => ?_)
          · refine lv_iconst (v := 0) hx hb d_R_valvesNow_118 (by decide) ?_
            have hJ := J9
            try simp only [if_pos h8, if_neg (gm_nf h12)] at hJ
            try simp only [if_pos h8, if_neg (gm_nf h12)] at hl
            try simp only [if_pos h8, if_neg (gm_nf h12)] at hM
            try simp only [if_pos h8, if_neg (gm_nf h12)]
            exact hJ ls H locs (lv_sub hl [2, 3, 4, 1, 5, 6, 0] rfl) hM
          · refine lv_aload_n hx hb d_R_valvesNow_90 rfl (lv_at hl 2 rfl) ?_
            refine lv_iload_n hx hb d_R_valvesNow_91 rfl (lv_at hl 3 rfl) ?_
            refine lv_iconst (v := 0) hx hb d_R_valvesNow_92 (by decide) ?_
            refine lv_iconst (v := 1) hx hb d_R_valvesNow_93 (by decide) ?_
            refine gm_Vi (As := [.int (nI mn), .int (0 : Int32), .int (nI 1)]) (rest := []) hF hM (c_R_was (u := u) (mn := mn) (vn := (0 : Int32)) (an := 1) (by omega) (by omega)) (gk_R_69 hts ⟨by decide, by decide⟩) (gv_R hF hM rfl) rfl hl.1 rfl (Nat.le_of_ble_eq_true rfl) ⟨Nat.zero_le _, Nat.zero_le _⟩ d_R_valvesNow_94 (fun H locs hM => ?_)
            refine gm_ifz (b := (v_R_was u mn (0 : Int32) 1)) (tgt := 118) hx hb d_R_valvesNow_97 rfl (fun h13 => ?_) (fun h13 => ?_)
            · refine lv_iconst (v := 0) hx hb d_R_valvesNow_118 (by decide) ?_
              have hJ := J9
              try simp only [if_pos h8, if_pos h12, if_neg (gm_nf h13)] at hJ
              try simp only [if_pos h8, if_pos h12, if_neg (gm_nf h13)] at hl
              try simp only [if_pos h8, if_pos h12, if_neg (gm_nf h13)] at hM
              try simp only [if_pos h8, if_pos h12, if_neg (gm_nf h13)]
              exact hJ ls H locs (lv_sub hl [2, 3, 4, 1, 5, 6, 0] rfl) hM
            · refine lv_aload_n hx hb d_R_valvesNow_100 rfl (lv_at hl 2 rfl) ?_
              refine lv_iload_n hx hb d_R_valvesNow_101 rfl (lv_at hl 3 rfl) ?_
              refine lv_iload hx hb d_R_valvesNow_102 (lv_at hl 5 rfl) ?_
              refine gm_Si (As := [.int (nI i1)]) (rest := [.int (nI mn), .ref (a 0)]) hF hM (c_R_opposite (u := u) (x := (nI i1)) ) (gk_R_73 hts ⟨by decide, by decide⟩) rfl hl.1 rfl (Nat.le_of_ble_eq_true rfl) ⟨Nat.zero_le _, Nat.zero_le _⟩ d_R_valvesNow_104 (fun H locs hM => ?_)
              refine lv_iconst (v := 0) hx hb d_R_valvesNow_107 (by decide) ?_
              refine gm_Vi (As := [.int (nI mn), .int (v_R_opposite (nI i1)), .int (nI 0)]) (rest := []) hF hM (c_R_was (u := u) (mn := mn) (vn := (v_R_opposite (nI i1))) (an := 0) (by omega) (by omega)) (gk_R_69 hts ⟨by decide, by decide⟩) (gv_R hF hM rfl) rfl hl.1 rfl (Nat.le_of_ble_eq_true rfl) ⟨Nat.zero_le _, Nat.zero_le _⟩ d_R_valvesNow_108 (fun H locs hM => ?_)
              refine gm_ifn (b := (v_R_was u mn (v_R_opposite (nI i1)) 0)) (tgt := 118) hx hb d_R_valvesNow_111 rfl (fun h14 => ?_) (fun h14 => ?_)
              · refine lv_iconst (v := 0) hx hb d_R_valvesNow_118 (by decide) ?_
                have hJ := J9
                try simp only [if_pos h8, if_pos h12, if_pos h13, if_pos h14] at hJ
                try simp only [if_pos h8, if_pos h12, if_pos h13, if_pos h14] at hl
                try simp only [if_pos h8, if_pos h12, if_pos h13, if_pos h14] at hM
                try simp only [if_pos h8, if_pos h12, if_pos h13, if_pos h14]
                exact hJ ls H locs (lv_sub hl [2, 3, 4, 1, 5, 6, 0] rfl) hM
              · refine lv_iconst (v := 1) hx hb d_R_valvesNow_114 (by decide) ?_
                refine lv_goto (tgt := 119) hx hb d_R_valvesNow_115 rfl ?_
                have hJ := J9
                try simp only [if_pos h8, if_pos h12, if_pos h13, if_neg (gm_nf h14)] at hJ
                try simp only [if_pos h8, if_pos h12, if_pos h13, if_neg (gm_nf h14)] at hl
                try simp only [if_pos h8, if_pos h12, if_pos h13, if_neg (gm_nf h14)] at hM
                try simp only [if_pos h8, if_pos h12, if_pos h13, if_neg (gm_nf h14)]
                exact hJ ls H locs (lv_sub hl [2, 3, 4, 1, 5, 6, 0] rfl) hM
      refine gm_ifn (b := gb1) (tgt := 31) hx hb d_R_valvesNow_23 rfl (fun h2 => ?_) (fun h2 => ?_)
      · refine lv_iconst (v := 1) hx hb d_R_valvesNow_31 (by decide) ?_
        refine lv_goto (tgt := 36) hx hb d_R_valvesNow_32 rfl ?_
        have hJ := J3
        try simp only [if_pos h2] at hJ
        exact hJ ls H locs (lv_sub hl [4, 5, 3, 2, 1, 0] rfl) hM
      · refine lv_iload hx hb d_R_valvesNow_26 (lv_at hl 0 rfl) ?_
        refine gm_ifz (b := (v_R_wanted u mn (nI i1))) (tgt := 35) hx hb d_R_valvesNow_28 rfl (fun h15 => ?_) (fun h15 => ?_)
        · refine lv_iconst (v := 0) hx hb d_R_valvesNow_35 (by decide) ?_
          have hJ := J3
          try simp only [if_neg (gm_nf h2), if_neg (gm_nf h15)] at hJ
          exact hJ ls H locs (lv_sub hl [4, 5, 3, 2, 1, 0] rfl) hM
        · refine lv_iconst (v := 1) hx hb d_R_valvesNow_31 (by decide) ?_
          refine lv_goto (tgt := 36) hx hb d_R_valvesNow_32 rfl ?_
          have hJ := J3
          try simp only [if_neg (gm_nf h2), if_pos h15] at hJ
          exact hJ ls H locs (lv_sub hl [4, 5, 3, 2, 1, 0] rfl) hM
  refine L1 4 1 (0 : Int32) false ls H locs (by omega) hl hM (fun ls H locs hl hM => ?_)
  refine lv_iload_n hx hb d_R_valvesNow_143 rfl (lv_at hl 1 rfl) ?_
  have J17 : ∀ (ls : Array Slot) (H : Heap) (locs : List Loc), lv_has ls 7 [(0, .ref (a 0)), (1, .int (nI mn)), (2, .int ((lp_R_vN u mn 4 1 (0 : Int32) false).1)), (3, .int (gm_b ((lp_R_vN u mn 4 1 (0 : Int32) false).2))), (4, .int (nI 5))] → gm_M D A s (gr_W dk a) u H locs → W p l e rm_R_valvesNow s m args below meth c H locs 0 0 Q (F0 m 154 ls [.int (if ((lp_R_vN u mn 4 1 (0 : Int32) false).2) = true then (((lp_R_vN u mn 4 1 (0 : Int32) false).1) ||| (1 : Int32)) else ((lp_R_vN u mn 4 1 (0 : Int32) false).1))]) := by
    intro ls H locs hl hM
    have hq := hQ H locs 154 ls
    simp only [v_R_valvesNow] at hq
    exact hq hM d_R_valvesNow_154
  refine gm_ifz (b := ((lp_R_vN u mn 4 1 (0 : Int32) false).2)) (tgt := 153) hx hb d_R_valvesNow_144 rfl (fun h16 => ?_) (fun h16 => ?_)
  · refine lv_iload_n hx hb d_R_valvesNow_153 rfl (lv_at hl 2 rfl) ?_
    have hJ := J17
    try simp only [if_neg (gm_nf h16)] at hJ
    exact hJ ls H locs (lv_sub hl [3, 4, 2, 1, 0] rfl) hM
  · refine lv_iload_n hx hb d_R_valvesNow_147 rfl (lv_at hl 2 rfl) ?_
    refine lv_iconst (v := 1) hx hb d_R_valvesNow_148 (by decide) ?_
    refine lv_ior hx hb d_R_valvesNow_149 ?_
    refine lv_goto (tgt := 154) hx hb d_R_valvesNow_150 rfl ?_
    have hJ := J17
    try simp only [if_pos h16] at hJ
    exact hJ ls H locs (lv_sub hl [3, 4, 2, 1, 0] rfl) hM
theorem d_R_limit_0 : decode b_R_limit 0 = .ok (.iload_n 0, 1) := by decide +kernel
theorem d_R_limit_1 : decode b_R_limit 1 = .ok (.bipush 9, 2) := by decide +kernel
theorem d_R_limit_3 : decode b_R_limit 3 = .ok (.if_icmp .eq 15, 3) := by decide +kernel
theorem d_R_limit_6 : decode b_R_limit 6 = .ok (.iload_n 0, 1) := by decide +kernel
theorem d_R_limit_7 : decode b_R_limit 7 = .ok (.bipush 11, 2) := by decide +kernel
theorem d_R_limit_9 : decode b_R_limit 9 = .ok (.if_icmp .eq 9, 3) := by decide +kernel
theorem d_R_limit_12 : decode b_R_limit 12 = .ok (.iload_n 0, 1) := by decide +kernel
theorem d_R_limit_13 : decode b_R_limit 13 = .ok (.bipush 13, 2) := by decide +kernel
theorem d_R_limit_15 : decode b_R_limit 15 = .ok (.if_icmp .ne 8, 3) := by decide +kernel
theorem d_R_limit_18 : decode b_R_limit 18 = .ok (.bipush 100, 2) := by decide +kernel
theorem d_R_limit_20 : decode b_R_limit 20 = .ok (.goto 27, 3) := by decide +kernel
theorem d_R_limit_23 : decode b_R_limit 23 = .ok (.iload_n 0, 1) := by decide +kernel
theorem d_R_limit_24 : decode b_R_limit 24 = .ok (.bipush 12, 2) := by decide +kernel
theorem d_R_limit_26 : decode b_R_limit 26 = .ok (.if_icmp .ne 8, 3) := by decide +kernel
theorem d_R_limit_29 : decode b_R_limit 29 = .ok (.bipush 20, 2) := by decide +kernel
theorem d_R_limit_31 : decode b_R_limit 31 = .ok (.goto 16, 3) := by decide +kernel
theorem d_R_limit_34 : decode b_R_limit 34 = .ok (.iload_n 0, 1) := by decide +kernel
theorem d_R_limit_35 : decode b_R_limit 35 = .ok (.bipush 15, 2) := by decide +kernel
theorem d_R_limit_37 : decode b_R_limit 37 = .ok (.if_icmp .ne 8, 3) := by decide +kernel
theorem d_R_limit_40 : decode b_R_limit 40 = .ok (.bipush 30, 2) := by decide +kernel
theorem d_R_limit_42 : decode b_R_limit 42 = .ok (.goto 5, 3) := by decide +kernel
theorem d_R_limit_45 : decode b_R_limit 45 = .ok (.bipush 70, 2) := by decide +kernel
theorem d_R_limit_47 : decode b_R_limit 47 = .ok (.ireturn, 1) := by decide +kernel
def v_R_limit (x : Int32) : Int32 := (if x = (9 : Int32) then (100 : Int32) else (if x = (11 : Int32) then (100 : Int32) else (if x = (13 : Int32) then (100 : Int32) else (if x = (12 : Int32) then (20 : Int32) else (if x = (15 : Int32) then (30 : Int32) else (70 : Int32))))))
set_option maxRecDepth 100000 in
set_option maxHeartbeats 4000000 in
theorem c_R_limit {l : Launch} {D : va_G} {dk : Nat → ClassId} {Wd : gm_St → va_W} {A : Nat → Prop} {lt : Nat} {u : gm_St} {x : Int32} : gm_I l D (gm_ty dk) Wd A lt y_R_limit b_R_limit 1 (some .int) rm_R_limit [.int x] u (v_R_limit x) u := by
  refine gm_enterI (by decide) (Nat.le_of_ble_eq_true rfl) ?_
  intro p e s m args below meth c ls Q H locs hF hM hl hQ
  have hx := hF.1
  have hb := hF.2.1
  have hml := hF.2.2.1
  have hown := hF.2.2.2.1
  have hts := hF.2.2.2.2.1
  have hl : lv_has ls 1 [(0, .int x)] := hl
  refine lv_iload_n hx hb d_R_limit_0 rfl (lv_at hl 0 rfl) ?_
  refine lv_bipush (v := 9) hx hb d_R_limit_1 (by decide) ?_
  have J2 : ∀ (ls : Array Slot) (H : Heap) (locs : List Loc), lv_has ls 1 [(0, .int x)] → gm_M D A s Wd u H locs → W p l e rm_R_limit s m args below meth c H locs 0 0 Q (F0 m 47 ls [.int (if x = (9 : Int32) then (100 : Int32) else (if x = (11 : Int32) then (100 : Int32) else (if x = (13 : Int32) then (100 : Int32) else (if x = (12 : Int32) then (20 : Int32) else (if x = (15 : Int32) then (30 : Int32) else (70 : Int32))))))]) := by
    intro ls H locs hl hM
    have hq := hQ H locs 47 ls
    simp only [v_R_limit] at hq
    exact hq hM d_R_limit_47
  refine lv_icmp_eq (tgt := 18) hx hb d_R_limit_3 rfl (fun h1 => ?_) (fun h1 => ?_)
  · refine lv_bipush (v := 100) hx hb d_R_limit_18 (by decide) ?_
    refine lv_goto (tgt := 47) hx hb d_R_limit_20 rfl ?_
    have hJ := J2
    try simp only [if_pos h1] at hJ
    exact hJ ls H locs hl hM
  · refine lv_iload_n hx hb d_R_limit_6 rfl (lv_at hl 0 rfl) ?_
    refine lv_bipush (v := 11) hx hb d_R_limit_7 (by decide) ?_
    refine lv_icmp_eq (tgt := 18) hx hb d_R_limit_9 rfl (fun h3 => ?_) (fun h3 => ?_)
    · refine lv_bipush (v := 100) hx hb d_R_limit_18 (by decide) ?_
      refine lv_goto (tgt := 47) hx hb d_R_limit_20 rfl ?_
      have hJ := J2
      try simp only [if_neg h1, if_pos h3] at hJ
      exact hJ ls H locs hl hM
    · refine lv_iload_n hx hb d_R_limit_12 rfl (lv_at hl 0 rfl) ?_
      refine lv_bipush (v := 13) hx hb d_R_limit_13 (by decide) ?_
      refine lv_icmp_ne (tgt := 23) hx hb d_R_limit_15 rfl (fun h4 => ?_) (fun h4 => ?_)
      · refine lv_iload_n hx hb d_R_limit_23 rfl (lv_at hl 0 rfl) ?_
        refine lv_bipush (v := 12) hx hb d_R_limit_24 (by decide) ?_
        refine lv_icmp_ne (tgt := 34) hx hb d_R_limit_26 rfl (fun h5 => ?_) (fun h5 => ?_)
        · refine lv_iload_n hx hb d_R_limit_34 rfl (lv_at hl 0 rfl) ?_
          refine lv_bipush (v := 15) hx hb d_R_limit_35 (by decide) ?_
          refine lv_icmp_ne (tgt := 45) hx hb d_R_limit_37 rfl (fun h6 => ?_) (fun h6 => ?_)
          · refine lv_bipush (v := 70) hx hb d_R_limit_45 (by decide) ?_
            have hJ := J2
            try simp only [if_neg h1, if_neg h3, if_neg h4, if_neg h5, if_neg h6] at hJ
            exact hJ ls H locs hl hM
          · refine lv_bipush (v := 30) hx hb d_R_limit_40 (by decide) ?_
            refine lv_goto (tgt := 47) hx hb d_R_limit_42 rfl ?_
            have hJ := J2
            try simp only [if_neg h1, if_neg h3, if_neg h4, if_neg h5, if_pos h6] at hJ
            exact hJ ls H locs hl hM
        · refine lv_bipush (v := 20) hx hb d_R_limit_29 (by decide) ?_
          refine lv_goto (tgt := 47) hx hb d_R_limit_31 rfl ?_
          have hJ := J2
          try simp only [if_neg h1, if_neg h3, if_neg h4, if_pos h5] at hJ
          exact hJ ls H locs hl hM
      · refine lv_bipush (v := 100) hx hb d_R_limit_18 (by decide) ?_
        refine lv_goto (tgt := 47) hx hb d_R_limit_20 rfl ?_
        have hJ := J2
        try simp only [if_neg h1, if_neg h3, if_pos h4] at hJ
        exact hJ ls H locs hl hM
theorem d_R_condition_0 : decode b_R_condition 0 = .ok (.iload_n 2, 1) := by decide +kernel
theorem d_R_condition_1 : decode b_R_condition 1 = .ok (.tableswitch 283 6 13 #[47, 77, 107, 137, 165, 193, 223, 253], 47) := by decide +kernel
theorem d_R_condition_48 : decode b_R_condition 48 = .ok (.aload_n 0, 1) := by decide +kernel
theorem d_R_condition_49 : decode b_R_condition 49 = .ok (.iload_n 1, 1) := by decide +kernel
theorem d_R_condition_50 : decode b_R_condition 50 = .ok (.iconst 1, 1) := by decide +kernel
theorem d_R_condition_51 : decode b_R_condition 51 = .ok (.iconst 0, 1) := by decide +kernel
theorem d_R_condition_52 : decode b_R_condition 52 = .ok (.invokevirtual 69, 3) := by decide +kernel
theorem d_R_condition_55 : decode b_R_condition 55 = .ok (.ifCond .eq 21, 3) := by decide +kernel
theorem d_R_condition_58 : decode b_R_condition 58 = .ok (.aload_n 0, 1) := by decide +kernel
theorem d_R_condition_59 : decode b_R_condition 59 = .ok (.getfield 16, 3) := by decide +kernel
theorem d_R_condition_62 : decode b_R_condition 62 = .ok (.bipush 6, 2) := by decide +kernel
theorem d_R_condition_64 : decode b_R_condition 64 = .ok (.iload_n 1, 1) := by decide +kernel
theorem d_R_condition_65 : decode b_R_condition 65 = .ok (.imul, 1) := by decide +kernel
theorem d_R_condition_66 : decode b_R_condition 66 = .ok (.iconst 2, 1) := by decide +kernel
theorem d_R_condition_67 : decode b_R_condition 67 = .ok (.iadd, 1) := by decide +kernel
theorem d_R_condition_68 : decode b_R_condition 68 = .ok (.baload, 1) := by decide +kernel
theorem d_R_condition_69 : decode b_R_condition 69 = .ok (.ifCond .ne 7, 3) := by decide +kernel
theorem d_R_condition_72 : decode b_R_condition 72 = .ok (.iconst 1, 1) := by decide +kernel
theorem d_R_condition_73 : decode b_R_condition 73 = .ok (.goto 4, 3) := by decide +kernel
theorem d_R_condition_76 : decode b_R_condition 76 = .ok (.iconst 0, 1) := by decide +kernel
theorem d_R_condition_77 : decode b_R_condition 77 = .ok (.ireturn, 1) := by decide +kernel
theorem d_R_condition_78 : decode b_R_condition 78 = .ok (.aload_n 0, 1) := by decide +kernel
theorem d_R_condition_79 : decode b_R_condition 79 = .ok (.iload_n 1, 1) := by decide +kernel
theorem d_R_condition_80 : decode b_R_condition 80 = .ok (.iconst 2, 1) := by decide +kernel
theorem d_R_condition_81 : decode b_R_condition 81 = .ok (.iconst 0, 1) := by decide +kernel
theorem d_R_condition_82 : decode b_R_condition 82 = .ok (.invokevirtual 69, 3) := by decide +kernel
theorem d_R_condition_85 : decode b_R_condition 85 = .ok (.ifCond .eq 21, 3) := by decide +kernel
theorem d_R_condition_88 : decode b_R_condition 88 = .ok (.aload_n 0, 1) := by decide +kernel
theorem d_R_condition_89 : decode b_R_condition 89 = .ok (.getfield 16, 3) := by decide +kernel
theorem d_R_condition_92 : decode b_R_condition 92 = .ok (.bipush 6, 2) := by decide +kernel
theorem d_R_condition_94 : decode b_R_condition 94 = .ok (.iload_n 1, 1) := by decide +kernel
theorem d_R_condition_95 : decode b_R_condition 95 = .ok (.imul, 1) := by decide +kernel
theorem d_R_condition_96 : decode b_R_condition 96 = .ok (.iconst 3, 1) := by decide +kernel
theorem d_R_condition_97 : decode b_R_condition 97 = .ok (.iadd, 1) := by decide +kernel
theorem d_R_condition_98 : decode b_R_condition 98 = .ok (.baload, 1) := by decide +kernel
theorem d_R_condition_99 : decode b_R_condition 99 = .ok (.ifCond .ne 7, 3) := by decide +kernel
theorem d_R_condition_102 : decode b_R_condition 102 = .ok (.iconst 1, 1) := by decide +kernel
theorem d_R_condition_103 : decode b_R_condition 103 = .ok (.goto 4, 3) := by decide +kernel
theorem d_R_condition_106 : decode b_R_condition 106 = .ok (.iconst 0, 1) := by decide +kernel
theorem d_R_condition_107 : decode b_R_condition 107 = .ok (.ireturn, 1) := by decide +kernel
theorem d_R_condition_108 : decode b_R_condition 108 = .ok (.aload_n 0, 1) := by decide +kernel
theorem d_R_condition_109 : decode b_R_condition 109 = .ok (.iload_n 1, 1) := by decide +kernel
theorem d_R_condition_110 : decode b_R_condition 110 = .ok (.iconst 3, 1) := by decide +kernel
theorem d_R_condition_111 : decode b_R_condition 111 = .ok (.iconst 0, 1) := by decide +kernel
theorem d_R_condition_112 : decode b_R_condition 112 = .ok (.invokevirtual 69, 3) := by decide +kernel
theorem d_R_condition_115 : decode b_R_condition 115 = .ok (.ifCond .eq 21, 3) := by decide +kernel
theorem d_R_condition_118 : decode b_R_condition 118 = .ok (.aload_n 0, 1) := by decide +kernel
theorem d_R_condition_119 : decode b_R_condition 119 = .ok (.getfield 16, 3) := by decide +kernel
theorem d_R_condition_122 : decode b_R_condition 122 = .ok (.bipush 6, 2) := by decide +kernel
theorem d_R_condition_124 : decode b_R_condition 124 = .ok (.iload_n 1, 1) := by decide +kernel
theorem d_R_condition_125 : decode b_R_condition 125 = .ok (.imul, 1) := by decide +kernel
theorem d_R_condition_126 : decode b_R_condition 126 = .ok (.iconst 1, 1) := by decide +kernel
theorem d_R_condition_127 : decode b_R_condition 127 = .ok (.iadd, 1) := by decide +kernel
theorem d_R_condition_128 : decode b_R_condition 128 = .ok (.baload, 1) := by decide +kernel
theorem d_R_condition_129 : decode b_R_condition 129 = .ok (.ifCond .eq 7, 3) := by decide +kernel
theorem d_R_condition_132 : decode b_R_condition 132 = .ok (.iconst 1, 1) := by decide +kernel
theorem d_R_condition_133 : decode b_R_condition 133 = .ok (.goto 4, 3) := by decide +kernel
theorem d_R_condition_136 : decode b_R_condition 136 = .ok (.iconst 0, 1) := by decide +kernel
theorem d_R_condition_137 : decode b_R_condition 137 = .ok (.ireturn, 1) := by decide +kernel
theorem d_R_condition_138 : decode b_R_condition 138 = .ok (.aload_n 0, 1) := by decide +kernel
theorem d_R_condition_139 : decode b_R_condition 139 = .ok (.iload_n 1, 1) := by decide +kernel
theorem d_R_condition_140 : decode b_R_condition 140 = .ok (.iconst 3, 1) := by decide +kernel
theorem d_R_condition_141 : decode b_R_condition 141 = .ok (.iconst 0, 1) := by decide +kernel
theorem d_R_condition_142 : decode b_R_condition 142 = .ok (.invokevirtual 69, 3) := by decide +kernel
theorem d_R_condition_145 : decode b_R_condition 145 = .ok (.ifCond .eq 19, 3) := by decide +kernel
theorem d_R_condition_148 : decode b_R_condition 148 = .ok (.aload_n 0, 1) := by decide +kernel
theorem d_R_condition_149 : decode b_R_condition 149 = .ok (.getfield 16, 3) := by decide +kernel
theorem d_R_condition_152 : decode b_R_condition 152 = .ok (.bipush 6, 2) := by decide +kernel
theorem d_R_condition_154 : decode b_R_condition 154 = .ok (.iload_n 1, 1) := by decide +kernel
theorem d_R_condition_155 : decode b_R_condition 155 = .ok (.imul, 1) := by decide +kernel
theorem d_R_condition_156 : decode b_R_condition 156 = .ok (.baload, 1) := by decide +kernel
theorem d_R_condition_157 : decode b_R_condition 157 = .ok (.ifCond .ne 7, 3) := by decide +kernel
theorem d_R_condition_160 : decode b_R_condition 160 = .ok (.iconst 1, 1) := by decide +kernel
theorem d_R_condition_161 : decode b_R_condition 161 = .ok (.goto 4, 3) := by decide +kernel
theorem d_R_condition_164 : decode b_R_condition 164 = .ok (.iconst 0, 1) := by decide +kernel
theorem d_R_condition_165 : decode b_R_condition 165 = .ok (.ireturn, 1) := by decide +kernel
theorem d_R_condition_166 : decode b_R_condition 166 = .ok (.aload_n 0, 1) := by decide +kernel
theorem d_R_condition_167 : decode b_R_condition 167 = .ok (.iload_n 1, 1) := by decide +kernel
theorem d_R_condition_168 : decode b_R_condition 168 = .ok (.iconst 4, 1) := by decide +kernel
theorem d_R_condition_169 : decode b_R_condition 169 = .ok (.iconst 0, 1) := by decide +kernel
theorem d_R_condition_170 : decode b_R_condition 170 = .ok (.invokevirtual 69, 3) := by decide +kernel
theorem d_R_condition_173 : decode b_R_condition 173 = .ok (.ifCond .eq 19, 3) := by decide +kernel
theorem d_R_condition_176 : decode b_R_condition 176 = .ok (.aload_n 0, 1) := by decide +kernel
theorem d_R_condition_177 : decode b_R_condition 177 = .ok (.getfield 16, 3) := by decide +kernel
theorem d_R_condition_180 : decode b_R_condition 180 = .ok (.bipush 6, 2) := by decide +kernel
theorem d_R_condition_182 : decode b_R_condition 182 = .ok (.iload_n 1, 1) := by decide +kernel
theorem d_R_condition_183 : decode b_R_condition 183 = .ok (.imul, 1) := by decide +kernel
theorem d_R_condition_184 : decode b_R_condition 184 = .ok (.baload, 1) := by decide +kernel
theorem d_R_condition_185 : decode b_R_condition 185 = .ok (.ifCond .eq 7, 3) := by decide +kernel
theorem d_R_condition_188 : decode b_R_condition 188 = .ok (.iconst 1, 1) := by decide +kernel
theorem d_R_condition_189 : decode b_R_condition 189 = .ok (.goto 4, 3) := by decide +kernel
theorem d_R_condition_192 : decode b_R_condition 192 = .ok (.iconst 0, 1) := by decide +kernel
theorem d_R_condition_193 : decode b_R_condition 193 = .ok (.ireturn, 1) := by decide +kernel
theorem d_R_condition_194 : decode b_R_condition 194 = .ok (.aload_n 0, 1) := by decide +kernel
theorem d_R_condition_195 : decode b_R_condition 195 = .ok (.iload_n 1, 1) := by decide +kernel
theorem d_R_condition_196 : decode b_R_condition 196 = .ok (.iconst 4, 1) := by decide +kernel
theorem d_R_condition_197 : decode b_R_condition 197 = .ok (.iconst 0, 1) := by decide +kernel
theorem d_R_condition_198 : decode b_R_condition 198 = .ok (.invokevirtual 69, 3) := by decide +kernel
theorem d_R_condition_201 : decode b_R_condition 201 = .ok (.ifCond .eq 21, 3) := by decide +kernel
theorem d_R_condition_204 : decode b_R_condition 204 = .ok (.aload_n 0, 1) := by decide +kernel
theorem d_R_condition_205 : decode b_R_condition 205 = .ok (.getfield 16, 3) := by decide +kernel
theorem d_R_condition_208 : decode b_R_condition 208 = .ok (.bipush 6, 2) := by decide +kernel
theorem d_R_condition_210 : decode b_R_condition 210 = .ok (.iload_n 1, 1) := by decide +kernel
theorem d_R_condition_211 : decode b_R_condition 211 = .ok (.imul, 1) := by decide +kernel
theorem d_R_condition_212 : decode b_R_condition 212 = .ok (.iconst 1, 1) := by decide +kernel
theorem d_R_condition_213 : decode b_R_condition 213 = .ok (.iadd, 1) := by decide +kernel
theorem d_R_condition_214 : decode b_R_condition 214 = .ok (.baload, 1) := by decide +kernel
theorem d_R_condition_215 : decode b_R_condition 215 = .ok (.ifCond .ne 7, 3) := by decide +kernel
theorem d_R_condition_218 : decode b_R_condition 218 = .ok (.iconst 1, 1) := by decide +kernel
theorem d_R_condition_219 : decode b_R_condition 219 = .ok (.goto 4, 3) := by decide +kernel
theorem d_R_condition_222 : decode b_R_condition 222 = .ok (.iconst 0, 1) := by decide +kernel
theorem d_R_condition_223 : decode b_R_condition 223 = .ok (.ireturn, 1) := by decide +kernel
theorem d_R_condition_224 : decode b_R_condition 224 = .ok (.aload_n 0, 1) := by decide +kernel
theorem d_R_condition_225 : decode b_R_condition 225 = .ok (.iload_n 1, 1) := by decide +kernel
theorem d_R_condition_226 : decode b_R_condition 226 = .ok (.iconst 0, 1) := by decide +kernel
theorem d_R_condition_227 : decode b_R_condition 227 = .ok (.iconst 0, 1) := by decide +kernel
theorem d_R_condition_228 : decode b_R_condition 228 = .ok (.invokevirtual 69, 3) := by decide +kernel
theorem d_R_condition_231 : decode b_R_condition 231 = .ok (.ifCond .eq 21, 3) := by decide +kernel
theorem d_R_condition_234 : decode b_R_condition 234 = .ok (.aload_n 0, 1) := by decide +kernel
theorem d_R_condition_235 : decode b_R_condition 235 = .ok (.getfield 16, 3) := by decide +kernel
theorem d_R_condition_238 : decode b_R_condition 238 = .ok (.bipush 6, 2) := by decide +kernel
theorem d_R_condition_240 : decode b_R_condition 240 = .ok (.iload_n 1, 1) := by decide +kernel
theorem d_R_condition_241 : decode b_R_condition 241 = .ok (.imul, 1) := by decide +kernel
theorem d_R_condition_242 : decode b_R_condition 242 = .ok (.iconst 4, 1) := by decide +kernel
theorem d_R_condition_243 : decode b_R_condition 243 = .ok (.iadd, 1) := by decide +kernel
theorem d_R_condition_244 : decode b_R_condition 244 = .ok (.baload, 1) := by decide +kernel
theorem d_R_condition_245 : decode b_R_condition 245 = .ok (.ifCond .ne 7, 3) := by decide +kernel
theorem d_R_condition_248 : decode b_R_condition 248 = .ok (.iconst 1, 1) := by decide +kernel
theorem d_R_condition_249 : decode b_R_condition 249 = .ok (.goto 4, 3) := by decide +kernel
theorem d_R_condition_252 : decode b_R_condition 252 = .ok (.iconst 0, 1) := by decide +kernel
theorem d_R_condition_253 : decode b_R_condition 253 = .ok (.ireturn, 1) := by decide +kernel
theorem d_R_condition_254 : decode b_R_condition 254 = .ok (.aload_n 0, 1) := by decide +kernel
theorem d_R_condition_255 : decode b_R_condition 255 = .ok (.iload_n 1, 1) := by decide +kernel
theorem d_R_condition_256 : decode b_R_condition 256 = .ok (.iconst 0, 1) := by decide +kernel
theorem d_R_condition_257 : decode b_R_condition 257 = .ok (.iconst 0, 1) := by decide +kernel
theorem d_R_condition_258 : decode b_R_condition 258 = .ok (.invokevirtual 69, 3) := by decide +kernel
theorem d_R_condition_261 : decode b_R_condition 261 = .ok (.ifCond .ne 21, 3) := by decide +kernel
theorem d_R_condition_264 : decode b_R_condition 264 = .ok (.aload_n 0, 1) := by decide +kernel
theorem d_R_condition_265 : decode b_R_condition 265 = .ok (.getfield 16, 3) := by decide +kernel
theorem d_R_condition_268 : decode b_R_condition 268 = .ok (.bipush 6, 2) := by decide +kernel
theorem d_R_condition_270 : decode b_R_condition 270 = .ok (.iload_n 1, 1) := by decide +kernel
theorem d_R_condition_271 : decode b_R_condition 271 = .ok (.imul, 1) := by decide +kernel
theorem d_R_condition_272 : decode b_R_condition 272 = .ok (.iconst 4, 1) := by decide +kernel
theorem d_R_condition_273 : decode b_R_condition 273 = .ok (.iadd, 1) := by decide +kernel
theorem d_R_condition_274 : decode b_R_condition 274 = .ok (.baload, 1) := by decide +kernel
theorem d_R_condition_275 : decode b_R_condition 275 = .ok (.ifCond .eq 7, 3) := by decide +kernel
theorem d_R_condition_278 : decode b_R_condition 278 = .ok (.iconst 1, 1) := by decide +kernel
theorem d_R_condition_279 : decode b_R_condition 279 = .ok (.goto 4, 3) := by decide +kernel
theorem d_R_condition_282 : decode b_R_condition 282 = .ok (.iconst 0, 1) := by decide +kernel
theorem d_R_condition_283 : decode b_R_condition 283 = .ok (.ireturn, 1) := by decide +kernel
theorem d_R_condition_284 : decode b_R_condition 284 = .ok (.aload_n 0, 1) := by decide +kernel
theorem d_R_condition_285 : decode b_R_condition 285 = .ok (.getfield 16, 3) := by decide +kernel
theorem d_R_condition_288 : decode b_R_condition 288 = .ok (.bipush 6, 2) := by decide +kernel
theorem d_R_condition_290 : decode b_R_condition 290 = .ok (.iload_n 1, 1) := by decide +kernel
theorem d_R_condition_291 : decode b_R_condition 291 = .ok (.imul, 1) := by decide +kernel
theorem d_R_condition_292 : decode b_R_condition 292 = .ok (.iconst 5, 1) := by decide +kernel
theorem d_R_condition_293 : decode b_R_condition 293 = .ok (.iadd, 1) := by decide +kernel
theorem d_R_condition_294 : decode b_R_condition 294 = .ok (.baload, 1) := by decide +kernel
theorem d_R_condition_295 : decode b_R_condition 295 = .ok (.ireturn, 1) := by decide +kernel
def v_R_condition (u : gm_St) (mn : Nat) (kn : Nat) : Bool := (match kn with | 6 => (if (v_R_was u mn (1 : Int32) 0) = true then (if (u.1 2 (6 * mn + 2)) = true then false else true) else false) | 7 => (if (v_R_was u mn (2 : Int32) 0) = true then (if (u.1 2 (6 * mn + 3)) = true then false else true) else false) | 8 => (if (v_R_was u mn (3 : Int32) 0) = true then (if (u.1 2 (6 * mn + 1)) = true then true else false) else false) | 9 => (if (v_R_was u mn (3 : Int32) 0) = true then (if (u.1 2 (6 * mn)) = true then false else true) else false) | 10 => (if (v_R_was u mn (4 : Int32) 0) = true then (if (u.1 2 (6 * mn)) = true then true else false) else false) | 11 => (if (v_R_was u mn (4 : Int32) 0) = true then (if (u.1 2 (6 * mn + 1)) = true then false else true) else false) | 12 => (if (v_R_was u mn (0 : Int32) 0) = true then (if (u.1 2 (6 * mn + 4)) = true then false else true) else false) | 13 => (if (v_R_was u mn (0 : Int32) 0) = true then false else (if (u.1 2 (6 * mn + 4)) = true then true else false)) | _ => (u.1 2 (6 * mn + 5)))
set_option maxRecDepth 100000 in
set_option maxHeartbeats 4000000 in
theorem c_R_condition {l : Launch} {D : va_G} {dk : Nat → ClassId} {a : Nat → Nat} {A : Nat → Prop} {lt : Nat} {u : gm_St} {mn : Nat} {kn : Nat} (h_mn : mn < 2) (h_kn : 6 ≤ kn ∧ kn < 16) : gm_I l D (gm_ty dk) (gr_W dk a) A lt y_R_condition b_R_condition 3 (some .boolean) rm_R_condition [.ref (a 0), .int (nI mn), .int (nI kn)] u (gm_b (v_R_condition u mn kn)) u := by
  refine gm_enterZ (by decide) (Nat.le_of_ble_eq_true rfl) ?_
  intro p e s m args below meth c ls Q H locs hF hM hl hQ
  have hx := hF.1
  have hb := hF.2.1
  have hml := hF.2.2.1
  have hown := hF.2.2.2.1
  have hts := hF.2.2.2.2.1
  have hl : lv_has ls 3 [(0, .ref (a 0)), (1, .int (nI mn)), (2, .int (nI kn))] := hl
  refine lv_iload_n hx hb d_R_condition_0 rfl (lv_at hl 2 rfl) ?_
  rcases (by omega : kn = 6 ∨ kn = 7 ∨ kn = 8 ∨ kn = 9 ∨ kn = 10 ∨ kn = 11 ∨ kn = 12 ∨ kn = 13 ∨ kn = 14 ∨ kn = 15) with rfl | rfl | rfl | rfl | rfl | rfl | rfl | rfl | rfl | rfl
  · refine lv_tableIn (off := 47) (tgt := 48) hx hb d_R_condition_1 (by decide) (by decide) (by decide +kernel) rfl ?_
    refine lv_aload_n hx hb d_R_condition_48 rfl (lv_at hl 0 rfl) ?_
    refine lv_iload_n hx hb d_R_condition_49 rfl (lv_at hl 1 rfl) ?_
    refine lv_iconst (v := 1) hx hb d_R_condition_50 (by decide) ?_
    refine lv_iconst (v := 0) hx hb d_R_condition_51 (by decide) ?_
    refine gm_Vi (As := [.int (nI mn), .int (1 : Int32), .int (nI 0)]) (rest := []) hF hM (c_R_was (u := u) (mn := mn) (vn := (1 : Int32)) (an := 0) (by omega) (by omega)) (gk_R_69 hts ⟨by decide, by decide⟩) (gv_R hF hM rfl) rfl hl.1 rfl (Nat.le_of_ble_eq_true rfl) ⟨Nat.zero_le _, Nat.zero_le _⟩ d_R_condition_52 (fun H locs hM => ?_)
    have J2 : ∀ (ls : Array Slot) (H : Heap) (locs : List Loc), lv_has ls 3 [(0, .ref (a 0)), (1, .int (nI mn)), (2, .int (nI 6))] → gm_M D A s (gr_W dk a) u H locs → W p l e rm_R_condition s m args below meth c H locs 0 0 Q (F0 m 77 ls [.int (gm_b (if (v_R_was u mn (1 : Int32) 0) = true then (if (u.1 2 (6 * mn + 2)) = true then false else true) else false))]) := by
      intro ls H locs hl hM
      have hq := hQ H locs 77 ls
      simp only [v_R_condition] at hq
      exact hq hM d_R_condition_77
    refine gm_ifz (b := (v_R_was u mn (1 : Int32) 0)) (tgt := 76) hx hb d_R_condition_55 rfl (fun h1 => ?_) (fun h1 => ?_)
    · refine lv_iconst (v := 0) hx hb d_R_condition_76 (by decide) ?_
      have hJ := J2
      try simp only [if_neg (gm_nf h1)] at hJ
      exact hJ ls H locs hl hM
    · refine lv_aload_n hx hb d_R_condition_58 rfl (lv_at hl 0 rfl) ?_
      refine gf_R_16 hF hM d_R_condition_59 ?_
      refine lv_bipush (v := 6) hx hb d_R_condition_62 (by decide) ?_
      refine lv_iload_n hx hb d_R_condition_64 rfl (lv_at hl 1 rfl) ?_
      refine lv_imul hx hb d_R_condition_65 ?_
      refine lv_iconst (v := 2) hx hb d_R_condition_66 (by decide) ?_
      refine lv_iadd hx hb d_R_condition_67 ?_
      refine ga_value (k := (6 * mn + 2)) hF hM (by first | rfl | (simp only [← nI_add, ← pk_mul] <;> rfl)) (by first | omega | exact Nat.mod_lt _ (by decide)) d_R_condition_68 ?_
      refine gm_ifn (b := (u.1 2 (6 * mn + 2))) (tgt := 76) hx hb d_R_condition_69 rfl (fun h3 => ?_) (fun h3 => ?_)
      · refine lv_iconst (v := 0) hx hb d_R_condition_76 (by decide) ?_
        have hJ := J2
        try simp only [if_pos h1, if_pos h3] at hJ
        exact hJ ls H locs hl hM
      · refine lv_iconst (v := 1) hx hb d_R_condition_72 (by decide) ?_
        refine lv_goto (tgt := 77) hx hb d_R_condition_73 rfl ?_
        have hJ := J2
        try simp only [if_pos h1, if_neg (gm_nf h3)] at hJ
        exact hJ ls H locs hl hM
  · refine lv_tableIn (off := 77) (tgt := 78) hx hb d_R_condition_1 (by decide) (by decide) (by decide +kernel) rfl ?_
    refine lv_aload_n hx hb d_R_condition_78 rfl (lv_at hl 0 rfl) ?_
    refine lv_iload_n hx hb d_R_condition_79 rfl (lv_at hl 1 rfl) ?_
    refine lv_iconst (v := 2) hx hb d_R_condition_80 (by decide) ?_
    refine lv_iconst (v := 0) hx hb d_R_condition_81 (by decide) ?_
    refine gm_Vi (As := [.int (nI mn), .int (2 : Int32), .int (nI 0)]) (rest := []) hF hM (c_R_was (u := u) (mn := mn) (vn := (2 : Int32)) (an := 0) (by omega) (by omega)) (gk_R_69 hts ⟨by decide, by decide⟩) (gv_R hF hM rfl) rfl hl.1 rfl (Nat.le_of_ble_eq_true rfl) ⟨Nat.zero_le _, Nat.zero_le _⟩ d_R_condition_82 (fun H locs hM => ?_)
    have J5 : ∀ (ls : Array Slot) (H : Heap) (locs : List Loc), lv_has ls 3 [(0, .ref (a 0)), (1, .int (nI mn)), (2, .int (nI 7))] → gm_M D A s (gr_W dk a) u H locs → W p l e rm_R_condition s m args below meth c H locs 0 0 Q (F0 m 107 ls [.int (gm_b (if (v_R_was u mn (2 : Int32) 0) = true then (if (u.1 2 (6 * mn + 3)) = true then false else true) else false))]) := by
      intro ls H locs hl hM
      have hq := hQ H locs 107 ls
      simp only [v_R_condition] at hq
      exact hq hM d_R_condition_107
    refine gm_ifz (b := (v_R_was u mn (2 : Int32) 0)) (tgt := 106) hx hb d_R_condition_85 rfl (fun h4 => ?_) (fun h4 => ?_)
    · refine lv_iconst (v := 0) hx hb d_R_condition_106 (by decide) ?_
      have hJ := J5
      try simp only [if_neg (gm_nf h4)] at hJ
      exact hJ ls H locs hl hM
    · refine lv_aload_n hx hb d_R_condition_88 rfl (lv_at hl 0 rfl) ?_
      refine gf_R_16 hF hM d_R_condition_89 ?_
      refine lv_bipush (v := 6) hx hb d_R_condition_92 (by decide) ?_
      refine lv_iload_n hx hb d_R_condition_94 rfl (lv_at hl 1 rfl) ?_
      refine lv_imul hx hb d_R_condition_95 ?_
      refine lv_iconst (v := 3) hx hb d_R_condition_96 (by decide) ?_
      refine lv_iadd hx hb d_R_condition_97 ?_
      refine ga_value (k := (6 * mn + 3)) hF hM (by first | rfl | (simp only [← nI_add, ← pk_mul] <;> rfl)) (by first | omega | exact Nat.mod_lt _ (by decide)) d_R_condition_98 ?_
      refine gm_ifn (b := (u.1 2 (6 * mn + 3))) (tgt := 106) hx hb d_R_condition_99 rfl (fun h6 => ?_) (fun h6 => ?_)
      · refine lv_iconst (v := 0) hx hb d_R_condition_106 (by decide) ?_
        have hJ := J5
        try simp only [if_pos h4, if_pos h6] at hJ
        exact hJ ls H locs hl hM
      · refine lv_iconst (v := 1) hx hb d_R_condition_102 (by decide) ?_
        refine lv_goto (tgt := 107) hx hb d_R_condition_103 rfl ?_
        have hJ := J5
        try simp only [if_pos h4, if_neg (gm_nf h6)] at hJ
        exact hJ ls H locs hl hM
  · refine lv_tableIn (off := 107) (tgt := 108) hx hb d_R_condition_1 (by decide) (by decide) (by decide +kernel) rfl ?_
    refine lv_aload_n hx hb d_R_condition_108 rfl (lv_at hl 0 rfl) ?_
    refine lv_iload_n hx hb d_R_condition_109 rfl (lv_at hl 1 rfl) ?_
    refine lv_iconst (v := 3) hx hb d_R_condition_110 (by decide) ?_
    refine lv_iconst (v := 0) hx hb d_R_condition_111 (by decide) ?_
    refine gm_Vi (As := [.int (nI mn), .int (3 : Int32), .int (nI 0)]) (rest := []) hF hM (c_R_was (u := u) (mn := mn) (vn := (3 : Int32)) (an := 0) (by omega) (by omega)) (gk_R_69 hts ⟨by decide, by decide⟩) (gv_R hF hM rfl) rfl hl.1 rfl (Nat.le_of_ble_eq_true rfl) ⟨Nat.zero_le _, Nat.zero_le _⟩ d_R_condition_112 (fun H locs hM => ?_)
    have J8 : ∀ (ls : Array Slot) (H : Heap) (locs : List Loc), lv_has ls 3 [(0, .ref (a 0)), (1, .int (nI mn)), (2, .int (nI 8))] → gm_M D A s (gr_W dk a) u H locs → W p l e rm_R_condition s m args below meth c H locs 0 0 Q (F0 m 137 ls [.int (gm_b (if (v_R_was u mn (3 : Int32) 0) = true then (if (u.1 2 (6 * mn + 1)) = true then true else false) else false))]) := by
      intro ls H locs hl hM
      have hq := hQ H locs 137 ls
      simp only [v_R_condition] at hq
      exact hq hM d_R_condition_137
    refine gm_ifz (b := (v_R_was u mn (3 : Int32) 0)) (tgt := 136) hx hb d_R_condition_115 rfl (fun h7 => ?_) (fun h7 => ?_)
    · refine lv_iconst (v := 0) hx hb d_R_condition_136 (by decide) ?_
      have hJ := J8
      try simp only [if_neg (gm_nf h7)] at hJ
      exact hJ ls H locs hl hM
    · refine lv_aload_n hx hb d_R_condition_118 rfl (lv_at hl 0 rfl) ?_
      refine gf_R_16 hF hM d_R_condition_119 ?_
      refine lv_bipush (v := 6) hx hb d_R_condition_122 (by decide) ?_
      refine lv_iload_n hx hb d_R_condition_124 rfl (lv_at hl 1 rfl) ?_
      refine lv_imul hx hb d_R_condition_125 ?_
      refine lv_iconst (v := 1) hx hb d_R_condition_126 (by decide) ?_
      refine lv_iadd hx hb d_R_condition_127 ?_
      refine ga_value (k := (6 * mn + 1)) hF hM (by first | rfl | (simp only [← nI_add, ← pk_mul] <;> rfl)) (by first | omega | exact Nat.mod_lt _ (by decide)) d_R_condition_128 ?_
      refine gm_ifz (b := (u.1 2 (6 * mn + 1))) (tgt := 136) hx hb d_R_condition_129 rfl (fun h9 => ?_) (fun h9 => ?_)
      · refine lv_iconst (v := 0) hx hb d_R_condition_136 (by decide) ?_
        have hJ := J8
        try simp only [if_pos h7, if_neg (gm_nf h9)] at hJ
        exact hJ ls H locs hl hM
      · refine lv_iconst (v := 1) hx hb d_R_condition_132 (by decide) ?_
        refine lv_goto (tgt := 137) hx hb d_R_condition_133 rfl ?_
        have hJ := J8
        try simp only [if_pos h7, if_pos h9] at hJ
        exact hJ ls H locs hl hM
  · refine lv_tableIn (off := 137) (tgt := 138) hx hb d_R_condition_1 (by decide) (by decide) (by decide +kernel) rfl ?_
    refine lv_aload_n hx hb d_R_condition_138 rfl (lv_at hl 0 rfl) ?_
    refine lv_iload_n hx hb d_R_condition_139 rfl (lv_at hl 1 rfl) ?_
    refine lv_iconst (v := 3) hx hb d_R_condition_140 (by decide) ?_
    refine lv_iconst (v := 0) hx hb d_R_condition_141 (by decide) ?_
    refine gm_Vi (As := [.int (nI mn), .int (3 : Int32), .int (nI 0)]) (rest := []) hF hM (c_R_was (u := u) (mn := mn) (vn := (3 : Int32)) (an := 0) (by omega) (by omega)) (gk_R_69 hts ⟨by decide, by decide⟩) (gv_R hF hM rfl) rfl hl.1 rfl (Nat.le_of_ble_eq_true rfl) ⟨Nat.zero_le _, Nat.zero_le _⟩ d_R_condition_142 (fun H locs hM => ?_)
    have J11 : ∀ (ls : Array Slot) (H : Heap) (locs : List Loc), lv_has ls 3 [(0, .ref (a 0)), (1, .int (nI mn)), (2, .int (nI 9))] → gm_M D A s (gr_W dk a) u H locs → W p l e rm_R_condition s m args below meth c H locs 0 0 Q (F0 m 165 ls [.int (gm_b (if (v_R_was u mn (3 : Int32) 0) = true then (if (u.1 2 (6 * mn)) = true then false else true) else false))]) := by
      intro ls H locs hl hM
      have hq := hQ H locs 165 ls
      simp only [v_R_condition] at hq
      exact hq hM d_R_condition_165
    refine gm_ifz (b := (v_R_was u mn (3 : Int32) 0)) (tgt := 164) hx hb d_R_condition_145 rfl (fun h10 => ?_) (fun h10 => ?_)
    · refine lv_iconst (v := 0) hx hb d_R_condition_164 (by decide) ?_
      have hJ := J11
      try simp only [if_neg (gm_nf h10)] at hJ
      exact hJ ls H locs hl hM
    · refine lv_aload_n hx hb d_R_condition_148 rfl (lv_at hl 0 rfl) ?_
      refine gf_R_16 hF hM d_R_condition_149 ?_
      refine lv_bipush (v := 6) hx hb d_R_condition_152 (by decide) ?_
      refine lv_iload_n hx hb d_R_condition_154 rfl (lv_at hl 1 rfl) ?_
      refine lv_imul hx hb d_R_condition_155 ?_
      refine ga_value (k := (6 * mn)) hF hM (by first | rfl | (simp only [← nI_add, ← pk_mul] <;> rfl)) (by first | omega | exact Nat.mod_lt _ (by decide)) d_R_condition_156 ?_
      refine gm_ifn (b := (u.1 2 (6 * mn))) (tgt := 164) hx hb d_R_condition_157 rfl (fun h12 => ?_) (fun h12 => ?_)
      · refine lv_iconst (v := 0) hx hb d_R_condition_164 (by decide) ?_
        have hJ := J11
        try simp only [if_pos h10, if_pos h12] at hJ
        exact hJ ls H locs hl hM
      · refine lv_iconst (v := 1) hx hb d_R_condition_160 (by decide) ?_
        refine lv_goto (tgt := 165) hx hb d_R_condition_161 rfl ?_
        have hJ := J11
        try simp only [if_pos h10, if_neg (gm_nf h12)] at hJ
        exact hJ ls H locs hl hM
  · refine lv_tableIn (off := 165) (tgt := 166) hx hb d_R_condition_1 (by decide) (by decide) (by decide +kernel) rfl ?_
    refine lv_aload_n hx hb d_R_condition_166 rfl (lv_at hl 0 rfl) ?_
    refine lv_iload_n hx hb d_R_condition_167 rfl (lv_at hl 1 rfl) ?_
    refine lv_iconst (v := 4) hx hb d_R_condition_168 (by decide) ?_
    refine lv_iconst (v := 0) hx hb d_R_condition_169 (by decide) ?_
    refine gm_Vi (As := [.int (nI mn), .int (4 : Int32), .int (nI 0)]) (rest := []) hF hM (c_R_was (u := u) (mn := mn) (vn := (4 : Int32)) (an := 0) (by omega) (by omega)) (gk_R_69 hts ⟨by decide, by decide⟩) (gv_R hF hM rfl) rfl hl.1 rfl (Nat.le_of_ble_eq_true rfl) ⟨Nat.zero_le _, Nat.zero_le _⟩ d_R_condition_170 (fun H locs hM => ?_)
    have J14 : ∀ (ls : Array Slot) (H : Heap) (locs : List Loc), lv_has ls 3 [(0, .ref (a 0)), (1, .int (nI mn)), (2, .int (nI 10))] → gm_M D A s (gr_W dk a) u H locs → W p l e rm_R_condition s m args below meth c H locs 0 0 Q (F0 m 193 ls [.int (gm_b (if (v_R_was u mn (4 : Int32) 0) = true then (if (u.1 2 (6 * mn)) = true then true else false) else false))]) := by
      intro ls H locs hl hM
      have hq := hQ H locs 193 ls
      simp only [v_R_condition] at hq
      exact hq hM d_R_condition_193
    refine gm_ifz (b := (v_R_was u mn (4 : Int32) 0)) (tgt := 192) hx hb d_R_condition_173 rfl (fun h13 => ?_) (fun h13 => ?_)
    · refine lv_iconst (v := 0) hx hb d_R_condition_192 (by decide) ?_
      have hJ := J14
      try simp only [if_neg (gm_nf h13)] at hJ
      exact hJ ls H locs hl hM
    · refine lv_aload_n hx hb d_R_condition_176 rfl (lv_at hl 0 rfl) ?_
      refine gf_R_16 hF hM d_R_condition_177 ?_
      refine lv_bipush (v := 6) hx hb d_R_condition_180 (by decide) ?_
      refine lv_iload_n hx hb d_R_condition_182 rfl (lv_at hl 1 rfl) ?_
      refine lv_imul hx hb d_R_condition_183 ?_
      refine ga_value (k := (6 * mn)) hF hM (by first | rfl | (simp only [← nI_add, ← pk_mul] <;> rfl)) (by first | omega | exact Nat.mod_lt _ (by decide)) d_R_condition_184 ?_
      refine gm_ifz (b := (u.1 2 (6 * mn))) (tgt := 192) hx hb d_R_condition_185 rfl (fun h15 => ?_) (fun h15 => ?_)
      · refine lv_iconst (v := 0) hx hb d_R_condition_192 (by decide) ?_
        have hJ := J14
        try simp only [if_pos h13, if_neg (gm_nf h15)] at hJ
        exact hJ ls H locs hl hM
      · refine lv_iconst (v := 1) hx hb d_R_condition_188 (by decide) ?_
        refine lv_goto (tgt := 193) hx hb d_R_condition_189 rfl ?_
        have hJ := J14
        try simp only [if_pos h13, if_pos h15] at hJ
        exact hJ ls H locs hl hM
  · refine lv_tableIn (off := 193) (tgt := 194) hx hb d_R_condition_1 (by decide) (by decide) (by decide +kernel) rfl ?_
    refine lv_aload_n hx hb d_R_condition_194 rfl (lv_at hl 0 rfl) ?_
    refine lv_iload_n hx hb d_R_condition_195 rfl (lv_at hl 1 rfl) ?_
    refine lv_iconst (v := 4) hx hb d_R_condition_196 (by decide) ?_
    refine lv_iconst (v := 0) hx hb d_R_condition_197 (by decide) ?_
    refine gm_Vi (As := [.int (nI mn), .int (4 : Int32), .int (nI 0)]) (rest := []) hF hM (c_R_was (u := u) (mn := mn) (vn := (4 : Int32)) (an := 0) (by omega) (by omega)) (gk_R_69 hts ⟨by decide, by decide⟩) (gv_R hF hM rfl) rfl hl.1 rfl (Nat.le_of_ble_eq_true rfl) ⟨Nat.zero_le _, Nat.zero_le _⟩ d_R_condition_198 (fun H locs hM => ?_)
    have J17 : ∀ (ls : Array Slot) (H : Heap) (locs : List Loc), lv_has ls 3 [(0, .ref (a 0)), (1, .int (nI mn)), (2, .int (nI 11))] → gm_M D A s (gr_W dk a) u H locs → W p l e rm_R_condition s m args below meth c H locs 0 0 Q (F0 m 223 ls [.int (gm_b (if (v_R_was u mn (4 : Int32) 0) = true then (if (u.1 2 (6 * mn + 1)) = true then false else true) else false))]) := by
      intro ls H locs hl hM
      have hq := hQ H locs 223 ls
      simp only [v_R_condition] at hq
      exact hq hM d_R_condition_223
    refine gm_ifz (b := (v_R_was u mn (4 : Int32) 0)) (tgt := 222) hx hb d_R_condition_201 rfl (fun h16 => ?_) (fun h16 => ?_)
    · refine lv_iconst (v := 0) hx hb d_R_condition_222 (by decide) ?_
      have hJ := J17
      try simp only [if_neg (gm_nf h16)] at hJ
      exact hJ ls H locs hl hM
    · refine lv_aload_n hx hb d_R_condition_204 rfl (lv_at hl 0 rfl) ?_
      refine gf_R_16 hF hM d_R_condition_205 ?_
      refine lv_bipush (v := 6) hx hb d_R_condition_208 (by decide) ?_
      refine lv_iload_n hx hb d_R_condition_210 rfl (lv_at hl 1 rfl) ?_
      refine lv_imul hx hb d_R_condition_211 ?_
      refine lv_iconst (v := 1) hx hb d_R_condition_212 (by decide) ?_
      refine lv_iadd hx hb d_R_condition_213 ?_
      refine ga_value (k := (6 * mn + 1)) hF hM (by first | rfl | (simp only [← nI_add, ← pk_mul] <;> rfl)) (by first | omega | exact Nat.mod_lt _ (by decide)) d_R_condition_214 ?_
      refine gm_ifn (b := (u.1 2 (6 * mn + 1))) (tgt := 222) hx hb d_R_condition_215 rfl (fun h18 => ?_) (fun h18 => ?_)
      · refine lv_iconst (v := 0) hx hb d_R_condition_222 (by decide) ?_
        have hJ := J17
        try simp only [if_pos h16, if_pos h18] at hJ
        exact hJ ls H locs hl hM
      · refine lv_iconst (v := 1) hx hb d_R_condition_218 (by decide) ?_
        refine lv_goto (tgt := 223) hx hb d_R_condition_219 rfl ?_
        have hJ := J17
        try simp only [if_pos h16, if_neg (gm_nf h18)] at hJ
        exact hJ ls H locs hl hM
  · refine lv_tableIn (off := 223) (tgt := 224) hx hb d_R_condition_1 (by decide) (by decide) (by decide +kernel) rfl ?_
    refine lv_aload_n hx hb d_R_condition_224 rfl (lv_at hl 0 rfl) ?_
    refine lv_iload_n hx hb d_R_condition_225 rfl (lv_at hl 1 rfl) ?_
    refine lv_iconst (v := 0) hx hb d_R_condition_226 (by decide) ?_
    refine lv_iconst (v := 0) hx hb d_R_condition_227 (by decide) ?_
    refine gm_Vi (As := [.int (nI mn), .int (0 : Int32), .int (nI 0)]) (rest := []) hF hM (c_R_was (u := u) (mn := mn) (vn := (0 : Int32)) (an := 0) (by omega) (by omega)) (gk_R_69 hts ⟨by decide, by decide⟩) (gv_R hF hM rfl) rfl hl.1 rfl (Nat.le_of_ble_eq_true rfl) ⟨Nat.zero_le _, Nat.zero_le _⟩ d_R_condition_228 (fun H locs hM => ?_)
    have J20 : ∀ (ls : Array Slot) (H : Heap) (locs : List Loc), lv_has ls 3 [(0, .ref (a 0)), (1, .int (nI mn)), (2, .int (nI 12))] → gm_M D A s (gr_W dk a) u H locs → W p l e rm_R_condition s m args below meth c H locs 0 0 Q (F0 m 253 ls [.int (gm_b (if (v_R_was u mn (0 : Int32) 0) = true then (if (u.1 2 (6 * mn + 4)) = true then false else true) else false))]) := by
      intro ls H locs hl hM
      have hq := hQ H locs 253 ls
      simp only [v_R_condition] at hq
      exact hq hM d_R_condition_253
    refine gm_ifz (b := (v_R_was u mn (0 : Int32) 0)) (tgt := 252) hx hb d_R_condition_231 rfl (fun h19 => ?_) (fun h19 => ?_)
    · refine lv_iconst (v := 0) hx hb d_R_condition_252 (by decide) ?_
      have hJ := J20
      try simp only [if_neg (gm_nf h19)] at hJ
      exact hJ ls H locs hl hM
    · refine lv_aload_n hx hb d_R_condition_234 rfl (lv_at hl 0 rfl) ?_
      refine gf_R_16 hF hM d_R_condition_235 ?_
      refine lv_bipush (v := 6) hx hb d_R_condition_238 (by decide) ?_
      refine lv_iload_n hx hb d_R_condition_240 rfl (lv_at hl 1 rfl) ?_
      refine lv_imul hx hb d_R_condition_241 ?_
      refine lv_iconst (v := 4) hx hb d_R_condition_242 (by decide) ?_
      refine lv_iadd hx hb d_R_condition_243 ?_
      refine ga_value (k := (6 * mn + 4)) hF hM (by first | rfl | (simp only [← nI_add, ← pk_mul] <;> rfl)) (by first | omega | exact Nat.mod_lt _ (by decide)) d_R_condition_244 ?_
      refine gm_ifn (b := (u.1 2 (6 * mn + 4))) (tgt := 252) hx hb d_R_condition_245 rfl (fun h21 => ?_) (fun h21 => ?_)
      · refine lv_iconst (v := 0) hx hb d_R_condition_252 (by decide) ?_
        have hJ := J20
        try simp only [if_pos h19, if_pos h21] at hJ
        exact hJ ls H locs hl hM
      · refine lv_iconst (v := 1) hx hb d_R_condition_248 (by decide) ?_
        refine lv_goto (tgt := 253) hx hb d_R_condition_249 rfl ?_
        have hJ := J20
        try simp only [if_pos h19, if_neg (gm_nf h21)] at hJ
        exact hJ ls H locs hl hM
  · refine lv_tableIn (off := 253) (tgt := 254) hx hb d_R_condition_1 (by decide) (by decide) (by decide +kernel) rfl ?_
    refine lv_aload_n hx hb d_R_condition_254 rfl (lv_at hl 0 rfl) ?_
    refine lv_iload_n hx hb d_R_condition_255 rfl (lv_at hl 1 rfl) ?_
    refine lv_iconst (v := 0) hx hb d_R_condition_256 (by decide) ?_
    refine lv_iconst (v := 0) hx hb d_R_condition_257 (by decide) ?_
    refine gm_Vi (As := [.int (nI mn), .int (0 : Int32), .int (nI 0)]) (rest := []) hF hM (c_R_was (u := u) (mn := mn) (vn := (0 : Int32)) (an := 0) (by omega) (by omega)) (gk_R_69 hts ⟨by decide, by decide⟩) (gv_R hF hM rfl) rfl hl.1 rfl (Nat.le_of_ble_eq_true rfl) ⟨Nat.zero_le _, Nat.zero_le _⟩ d_R_condition_258 (fun H locs hM => ?_)
    have J23 : ∀ (ls : Array Slot) (H : Heap) (locs : List Loc), lv_has ls 3 [(0, .ref (a 0)), (1, .int (nI mn)), (2, .int (nI 13))] → gm_M D A s (gr_W dk a) u H locs → W p l e rm_R_condition s m args below meth c H locs 0 0 Q (F0 m 283 ls [.int (gm_b (if (v_R_was u mn (0 : Int32) 0) = true then false else (if (u.1 2 (6 * mn + 4)) = true then true else false)))]) := by
      intro ls H locs hl hM
      have hq := hQ H locs 283 ls
      simp only [v_R_condition] at hq
      exact hq hM d_R_condition_283
    refine gm_ifn (b := (v_R_was u mn (0 : Int32) 0)) (tgt := 282) hx hb d_R_condition_261 rfl (fun h22 => ?_) (fun h22 => ?_)
    · refine lv_iconst (v := 0) hx hb d_R_condition_282 (by decide) ?_
      have hJ := J23
      try simp only [if_pos h22] at hJ
      exact hJ ls H locs hl hM
    · refine lv_aload_n hx hb d_R_condition_264 rfl (lv_at hl 0 rfl) ?_
      refine gf_R_16 hF hM d_R_condition_265 ?_
      refine lv_bipush (v := 6) hx hb d_R_condition_268 (by decide) ?_
      refine lv_iload_n hx hb d_R_condition_270 rfl (lv_at hl 1 rfl) ?_
      refine lv_imul hx hb d_R_condition_271 ?_
      refine lv_iconst (v := 4) hx hb d_R_condition_272 (by decide) ?_
      refine lv_iadd hx hb d_R_condition_273 ?_
      refine ga_value (k := (6 * mn + 4)) hF hM (by first | rfl | (simp only [← nI_add, ← pk_mul] <;> rfl)) (by first | omega | exact Nat.mod_lt _ (by decide)) d_R_condition_274 ?_
      refine gm_ifz (b := (u.1 2 (6 * mn + 4))) (tgt := 282) hx hb d_R_condition_275 rfl (fun h24 => ?_) (fun h24 => ?_)
      · refine lv_iconst (v := 0) hx hb d_R_condition_282 (by decide) ?_
        have hJ := J23
        try simp only [if_neg (gm_nf h22), if_neg (gm_nf h24)] at hJ
        exact hJ ls H locs hl hM
      · refine lv_iconst (v := 1) hx hb d_R_condition_278 (by decide) ?_
        refine lv_goto (tgt := 283) hx hb d_R_condition_279 rfl ?_
        have hJ := J23
        try simp only [if_neg (gm_nf h22), if_pos h24] at hJ
        exact hJ ls H locs hl hM
  · refine lv_tableOut (tgt := 284) hx hb d_R_condition_1 (by decide) rfl ?_
    refine lv_aload_n hx hb d_R_condition_284 rfl (lv_at hl 0 rfl) ?_
    refine gf_R_16 hF hM d_R_condition_285 ?_
    refine lv_bipush (v := 6) hx hb d_R_condition_288 (by decide) ?_
    refine lv_iload_n hx hb d_R_condition_290 rfl (lv_at hl 1 rfl) ?_
    refine lv_imul hx hb d_R_condition_291 ?_
    refine lv_iconst (v := 5) hx hb d_R_condition_292 (by decide) ?_
    refine lv_iadd hx hb d_R_condition_293 ?_
    refine ga_value (k := (6 * mn + 5)) hF hM (by first | rfl | (simp only [← nI_add, ← pk_mul] <;> rfl)) (by first | omega | exact Nat.mod_lt _ (by decide)) d_R_condition_294 ?_
    have hq := hQ H locs 295 ls
    simp only [v_R_condition] at hq
    exact hq hM d_R_condition_295
  · refine lv_tableOut (tgt := 284) hx hb d_R_condition_1 (by decide) rfl ?_
    refine lv_aload_n hx hb d_R_condition_284 rfl (lv_at hl 0 rfl) ?_
    refine gf_R_16 hF hM d_R_condition_285 ?_
    refine lv_bipush (v := 6) hx hb d_R_condition_288 (by decide) ?_
    refine lv_iload_n hx hb d_R_condition_290 rfl (lv_at hl 1 rfl) ?_
    refine lv_imul hx hb d_R_condition_291 ?_
    refine lv_iconst (v := 5) hx hb d_R_condition_292 (by decide) ?_
    refine lv_iadd hx hb d_R_condition_293 ?_
    refine ga_value (k := (6 * mn + 5)) hF hM (by first | rfl | (simp only [← nI_add, ← pk_mul] <;> rfl)) (by first | omega | exact Nat.mod_lt _ (by decide)) d_R_condition_294 ?_
    have hq := hQ H locs 295 ls
    simp only [v_R_condition] at hq
    exact hq hM d_R_condition_295
theorem d_R_waiting_0 : decode b_R_waiting 0 = .ok (.aload_n 0, 1) := by decide +kernel
theorem d_R_waiting_1 : decode b_R_waiting 1 = .ok (.getfield 16, 3) := by decide +kernel
theorem d_R_waiting_4 : decode b_R_waiting 4 = .ok (.bipush 6, 2) := by decide +kernel
theorem d_R_waiting_6 : decode b_R_waiting 6 = .ok (.iload_n 1, 1) := by decide +kernel
theorem d_R_waiting_7 : decode b_R_waiting 7 = .ok (.imul, 1) := by decide +kernel
theorem d_R_waiting_8 : decode b_R_waiting 8 = .ok (.iconst 5, 1) := by decide +kernel
theorem d_R_waiting_9 : decode b_R_waiting 9 = .ok (.iadd, 1) := by decide +kernel
theorem d_R_waiting_10 : decode b_R_waiting 10 = .ok (.baload, 1) := by decide +kernel
theorem d_R_waiting_11 : decode b_R_waiting 11 = .ok (.ifCond .eq 20, 3) := by decide +kernel
theorem d_R_waiting_14 : decode b_R_waiting 14 = .ok (.aload_n 0, 1) := by decide +kernel
theorem d_R_waiting_15 : decode b_R_waiting 15 = .ok (.getfield 29, 3) := by decide +kernel
theorem d_R_waiting_18 : decode b_R_waiting 18 = .ok (.iload_n 1, 1) := by decide +kernel
theorem d_R_waiting_19 : decode b_R_waiting 19 = .ok (.iconst 0, 1) := by decide +kernel
theorem d_R_waiting_20 : decode b_R_waiting 20 = .ok (.bastore, 1) := by decide +kernel
theorem d_R_waiting_21 : decode b_R_waiting 21 = .ok (.aload_n 0, 1) := by decide +kernel
theorem d_R_waiting_22 : decode b_R_waiting 22 = .ok (.getfield 32, 3) := by decide +kernel
theorem d_R_waiting_25 : decode b_R_waiting 25 = .ok (.iload_n 1, 1) := by decide +kernel
theorem d_R_waiting_26 : decode b_R_waiting 26 = .ok (.iconst 0, 1) := by decide +kernel
theorem d_R_waiting_27 : decode b_R_waiting 27 = .ok (.iastore, 1) := by decide +kernel
theorem d_R_waiting_28 : decode b_R_waiting 28 = .ok (.goto 40, 3) := by decide +kernel
theorem d_R_waiting_31 : decode b_R_waiting 31 = .ok (.iload_n 2, 1) := by decide +kernel
theorem d_R_waiting_32 : decode b_R_waiting 32 = .ok (.bipush 10, 2) := by decide +kernel
theorem d_R_waiting_34 : decode b_R_waiting 34 = .ok (.if_icmp .ne 27, 3) := by decide +kernel
theorem d_R_waiting_37 : decode b_R_waiting 37 = .ok (.aload_n 0, 1) := by decide +kernel
theorem d_R_waiting_38 : decode b_R_waiting 38 = .ok (.getfield 29, 3) := by decide +kernel
theorem d_R_waiting_41 : decode b_R_waiting 41 = .ok (.iload_n 1, 1) := by decide +kernel
theorem d_R_waiting_42 : decode b_R_waiting 42 = .ok (.iconst 0, 1) := by decide +kernel
theorem d_R_waiting_43 : decode b_R_waiting 43 = .ok (.bastore, 1) := by decide +kernel
theorem d_R_waiting_44 : decode b_R_waiting 44 = .ok (.aload_n 0, 1) := by decide +kernel
theorem d_R_waiting_45 : decode b_R_waiting 45 = .ok (.getfield 32, 3) := by decide +kernel
theorem d_R_waiting_48 : decode b_R_waiting 48 = .ok (.iload_n 1, 1) := by decide +kernel
theorem d_R_waiting_49 : decode b_R_waiting 49 = .ok (.iconst 0, 1) := by decide +kernel
theorem d_R_waiting_50 : decode b_R_waiting 50 = .ok (.iastore, 1) := by decide +kernel
theorem d_R_waiting_51 : decode b_R_waiting 51 = .ok (.aload_n 0, 1) := by decide +kernel
theorem d_R_waiting_52 : decode b_R_waiting 52 = .ok (.iload_n 1, 1) := by decide +kernel
theorem d_R_waiting_53 : decode b_R_waiting 53 = .ok (.bipush 14, 2) := by decide +kernel
theorem d_R_waiting_55 : decode b_R_waiting 55 = .ok (.invokevirtual 58, 3) := by decide +kernel
theorem d_R_waiting_58 : decode b_R_waiting 58 = .ok (.goto 10, 3) := by decide +kernel
theorem d_R_waiting_61 : decode b_R_waiting 61 = .ok (.aload_n 0, 1) := by decide +kernel
theorem d_R_waiting_62 : decode b_R_waiting 62 = .ok (.getfield 32, 3) := by decide +kernel
theorem d_R_waiting_65 : decode b_R_waiting 65 = .ok (.iload_n 1, 1) := by decide +kernel
theorem d_R_waiting_66 : decode b_R_waiting 66 = .ok (.iload_n 2, 1) := by decide +kernel
theorem d_R_waiting_67 : decode b_R_waiting 67 = .ok (.iastore, 1) := by decide +kernel
theorem d_R_waiting_68 : decode b_R_waiting 68 = .ok (.return_, 1) := by decide +kernel
def s_R_waiting (u : gm_St) (mn : Nat) (tk : Int32) : gm_St := (if (u.1 2 (6 * mn + 5)) = true then (gm_sG (gm_sB u 5 mn false) 1 mn (0 : Int32)) else (if tk = (10 : Int32) then (s_R_gets (gm_sG (gm_sB u 5 mn false) 1 mn (0 : Int32)) mn 14) else (gm_sG u 1 mn tk)))
set_option maxRecDepth 100000 in
set_option maxHeartbeats 4000000 in
theorem c_R_waiting {l : Launch} {D : va_G} {dk : Nat → ClassId} {a : Nat → Nat} {A : Nat → Prop} {lt : Nat} {u : gm_St} {mn : Nat} {tk : Int32} (h_mn : mn < 2) (hp0 : u.2.2.1 0 + 1 ≤ 1073741824) : gm_V l D (gm_ty dk) (gr_W dk a) A lt y_R_waiting b_R_waiting 3 rm_R_waiting [.ref (a 0), .int (nI mn), .int tk] u (s_R_waiting u mn tk) := by
  refine gm_enterV (by decide) (Nat.le_of_ble_eq_true rfl) ?_
  intro p e s m args below meth c ls Q H locs hF hM hl hQ
  have hx := hF.1
  have hb := hF.2.1
  have hml := hF.2.2.1
  have hown := hF.2.2.2.1
  have hts := hF.2.2.2.2.1
  have hl : lv_has ls 3 [(0, .ref (a 0)), (1, .int (nI mn)), (2, .int tk)] := hl
  refine lv_aload_n hx hb d_R_waiting_0 rfl (lv_at hl 0 rfl) ?_
  refine gf_R_16 hF hM d_R_waiting_1 ?_
  refine lv_bipush (v := 6) hx hb d_R_waiting_4 (by decide) ?_
  refine lv_iload_n hx hb d_R_waiting_6 rfl (lv_at hl 1 rfl) ?_
  refine lv_imul hx hb d_R_waiting_7 ?_
  refine lv_iconst (v := 5) hx hb d_R_waiting_8 (by decide) ?_
  refine lv_iadd hx hb d_R_waiting_9 ?_
  refine ga_value (k := (6 * mn + 5)) hF hM (by first | rfl | (simp only [← nI_add, ← pk_mul] <;> rfl)) (by first | omega | exact Nat.mod_lt _ (by decide)) d_R_waiting_10 ?_
  have J2 : ∀ (ls : Array Slot) (H : Heap) (locs : List Loc), lv_has ls 3 [(0, .ref (a 0)), (1, .int (nI mn)), (2, .int tk)] → gm_M D A s (gr_W dk a) (if (u.1 2 (6 * mn + 5)) = true then (gm_sG (gm_sB u 5 mn false) 1 mn (0 : Int32)) else (if tk = (10 : Int32) then (s_R_gets (gm_sG (gm_sB u 5 mn false) 1 mn (0 : Int32)) mn 14) else (gm_sG u 1 mn tk))) H locs → W p l e rm_R_waiting s m args below meth c H locs 0 0 Q (F0 m 68 ls []) := by
    intro ls H locs hl hM
    have hq := hQ H locs 68 ls
    simp only [s_R_waiting] at hq
    exact hq hM d_R_waiting_68
  refine gm_ifz (b := (u.1 2 (6 * mn + 5))) (tgt := 31) hx hb d_R_waiting_11 rfl (fun h1 => ?_) (fun h1 => ?_)
  · refine lv_iload_n hx hb d_R_waiting_31 rfl (lv_at hl 2 rfl) ?_
    refine lv_bipush (v := 10) hx hb d_R_waiting_32 (by decide) ?_
    refine lv_icmp_ne (tgt := 61) hx hb d_R_waiting_34 rfl (fun h3 => ?_) (fun h3 => ?_)
    · refine lv_aload_n hx hb d_R_waiting_61 rfl (lv_at hl 0 rfl) ?_
      refine gf_R_32 hF hM d_R_waiting_62 ?_
      refine lv_iload_n hx hb d_R_waiting_65 rfl (lv_at hl 1 rfl) ?_
      refine lv_iload_n hx hb d_R_waiting_66 rfl (lv_at hl 2 rfl) ?_
      refine gq_waited (k := mn) hF hM rfl (by first | omega | exact Nat.mod_lt _ (by decide)) d_R_waiting_67 (fun H locs hM => ?_)
      have hJ := J2
      try simp only [if_neg (gm_nf h1), if_neg h3] at hJ
      exact hJ ls H locs hl hM
    · refine lv_aload_n hx hb d_R_waiting_37 rfl (lv_at hl 0 rfl) ?_
      refine gf_R_29 hF hM d_R_waiting_38 ?_
      refine lv_iload_n hx hb d_R_waiting_41 rfl (lv_at hl 1 rfl) ?_
      refine lv_iconst (v := 0) hx hb d_R_waiting_42 (by decide) ?_
      refine gq_waits (k := mn) hF hM rfl (by first | omega | exact Nat.mod_lt _ (by decide)) (v := false) rfl d_R_waiting_43 (fun H locs hM => ?_)
      refine lv_aload_n hx hb d_R_waiting_44 rfl (lv_at hl 0 rfl) ?_
      refine gf_R_32 hF hM d_R_waiting_45 ?_
      refine lv_iload_n hx hb d_R_waiting_48 rfl (lv_at hl 1 rfl) ?_
      refine lv_iconst (v := 0) hx hb d_R_waiting_49 (by decide) ?_
      refine gq_waited (k := mn) hF hM rfl (by first | omega | exact Nat.mod_lt _ (by decide)) d_R_waiting_50 (fun H locs hM => ?_)
      refine lv_aload_n hx hb d_R_waiting_51 rfl (lv_at hl 0 rfl) ?_
      refine lv_iload_n hx hb d_R_waiting_52 rfl (lv_at hl 1 rfl) ?_
      refine lv_bipush (v := 14) hx hb d_R_waiting_53 (by decide) ?_
      refine gm_Vv (As := [.int (nI mn), .int (nI 14)]) (rest := []) hF hM (c_R_gets (u := (gm_sG (gm_sB u 5 mn false) 1 mn (0 : Int32))) (mn := mn) (kn := 14) (by omega) (by omega) hp0) (gk_R_58 hts ⟨by decide, by decide⟩) (gv_R hF hM rfl) rfl hl.1 rfl (Nat.le_of_ble_eq_true rfl) ⟨Nat.zero_le _, Nat.zero_le _⟩ d_R_waiting_55 (fun H locs hM => ?_)
      refine lv_goto (tgt := 68) hx hb d_R_waiting_58 rfl ?_
      have hJ := J2
      try simp only [if_neg (gm_nf h1), if_pos h3] at hJ
      exact hJ ls H locs hl hM
  · refine lv_aload_n hx hb d_R_waiting_14 rfl (lv_at hl 0 rfl) ?_
    refine gf_R_29 hF hM d_R_waiting_15 ?_
    refine lv_iload_n hx hb d_R_waiting_18 rfl (lv_at hl 1 rfl) ?_
    refine lv_iconst (v := 0) hx hb d_R_waiting_19 (by decide) ?_
    refine gq_waits (k := mn) hF hM rfl (by first | omega | exact Nat.mod_lt _ (by decide)) (v := false) rfl d_R_waiting_20 (fun H locs hM => ?_)
    refine lv_aload_n hx hb d_R_waiting_21 rfl (lv_at hl 0 rfl) ?_
    refine gf_R_32 hF hM d_R_waiting_22 ?_
    refine lv_iload_n hx hb d_R_waiting_25 rfl (lv_at hl 1 rfl) ?_
    refine lv_iconst (v := 0) hx hb d_R_waiting_26 (by decide) ?_
    refine gq_waited (k := mn) hF hM rfl (by first | omega | exact Nat.mod_lt _ (by decide)) d_R_waiting_27 (fun H locs hM => ?_)
    refine lv_goto (tgt := 68) hx hb d_R_waiting_28 rfl ?_
    have hJ := J2
    try simp only [if_pos h1] at hJ
    exact hJ ls H locs hl hM
theorem gr_waiting_N {u : gm_St} {mn : Nat} {tk : Int32} : (s_R_waiting u mn tk).2.2.1 0 ≤ u.2.2.1 0 + 1 := by
  unfold s_R_waiting
  split
  · exact Nat.le_succ _
  · split
    · exact gr_gets_N
    · exact Nat.le_succ _
theorem d_R_watch_0 : decode b_R_watch 0 = .ok (.bipush 6, 2) := by decide +kernel
theorem d_R_watch_2 : decode b_R_watch 2 = .ok (.istore_n 2, 1) := by decide +kernel
theorem d_R_watch_3 : decode b_R_watch 3 = .ok (.iload_n 2, 1) := by decide +kernel
theorem d_R_watch_4 : decode b_R_watch 4 = .ok (.bipush 16, 2) := by decide +kernel
theorem d_R_watch_6 : decode b_R_watch 6 = .ok (.if_icmp .ge 108, 3) := by decide +kernel
theorem d_R_watch_9 : decode b_R_watch 9 = .ok (.iload_n 2, 1) := by decide +kernel
theorem d_R_watch_10 : decode b_R_watch 10 = .ok (.bipush 14, 2) := by decide +kernel
theorem d_R_watch_12 : decode b_R_watch 12 = .ok (.if_icmp .ne 28, 3) := by decide +kernel
theorem d_R_watch_15 : decode b_R_watch 15 = .ok (.aload_n 0, 1) := by decide +kernel
theorem d_R_watch_16 : decode b_R_watch 16 = .ok (.getfield 29, 3) := by decide +kernel
theorem d_R_watch_19 : decode b_R_watch 19 = .ok (.iload_n 1, 1) := by decide +kernel
theorem d_R_watch_20 : decode b_R_watch 20 = .ok (.baload, 1) := by decide +kernel
theorem d_R_watch_21 : decode b_R_watch 21 = .ok (.ifCond .eq 87, 3) := by decide +kernel
theorem d_R_watch_24 : decode b_R_watch 24 = .ok (.aload_n 0, 1) := by decide +kernel
theorem d_R_watch_25 : decode b_R_watch 25 = .ok (.iload_n 1, 1) := by decide +kernel
theorem d_R_watch_26 : decode b_R_watch 26 = .ok (.aload_n 0, 1) := by decide +kernel
theorem d_R_watch_27 : decode b_R_watch 27 = .ok (.getfield 32, 3) := by decide +kernel
theorem d_R_watch_30 : decode b_R_watch 30 = .ok (.iload_n 1, 1) := by decide +kernel
theorem d_R_watch_31 : decode b_R_watch 31 = .ok (.iaload, 1) := by decide +kernel
theorem d_R_watch_32 : decode b_R_watch 32 = .ok (.iconst 1, 1) := by decide +kernel
theorem d_R_watch_33 : decode b_R_watch 33 = .ok (.iadd, 1) := by decide +kernel
theorem d_R_watch_34 : decode b_R_watch 34 = .ok (.invokevirtual 87, 3) := by decide +kernel
theorem d_R_watch_37 : decode b_R_watch 37 = .ok (.goto 71, 3) := by decide +kernel
theorem d_R_watch_40 : decode b_R_watch 40 = .ok (.aload_n 0, 1) := by decide +kernel
theorem d_R_watch_41 : decode b_R_watch 41 = .ok (.iload_n 1, 1) := by decide +kernel
theorem d_R_watch_42 : decode b_R_watch 42 = .ok (.iload_n 2, 1) := by decide +kernel
theorem d_R_watch_43 : decode b_R_watch 43 = .ok (.invokevirtual 90, 3) := by decide +kernel
theorem d_R_watch_46 : decode b_R_watch 46 = .ok (.ifCond .eq 19, 3) := by decide +kernel
theorem d_R_watch_49 : decode b_R_watch 49 = .ok (.aload_n 0, 1) := by decide +kernel
theorem d_R_watch_50 : decode b_R_watch 50 = .ok (.getfield 25, 3) := by decide +kernel
theorem d_R_watch_53 : decode b_R_watch 53 = .ok (.bipush 16, 2) := by decide +kernel
theorem d_R_watch_55 : decode b_R_watch 55 = .ok (.iload_n 1, 1) := by decide +kernel
theorem d_R_watch_56 : decode b_R_watch 56 = .ok (.imul, 1) := by decide +kernel
theorem d_R_watch_57 : decode b_R_watch 57 = .ok (.iload_n 2, 1) := by decide +kernel
theorem d_R_watch_58 : decode b_R_watch 58 = .ok (.iadd, 1) := by decide +kernel
theorem d_R_watch_59 : decode b_R_watch 59 = .ok (.iaload, 1) := by decide +kernel
theorem d_R_watch_60 : decode b_R_watch 60 = .ok (.iconst 1, 1) := by decide +kernel
theorem d_R_watch_61 : decode b_R_watch 61 = .ok (.iadd, 1) := by decide +kernel
theorem d_R_watch_62 : decode b_R_watch 62 = .ok (.goto 4, 3) := by decide +kernel
theorem d_R_watch_65 : decode b_R_watch 65 = .ok (.iconst 0, 1) := by decide +kernel
theorem d_R_watch_66 : decode b_R_watch 66 = .ok (.istore_n 3, 1) := by decide +kernel
theorem d_R_watch_67 : decode b_R_watch 67 = .ok (.aload_n 0, 1) := by decide +kernel
theorem d_R_watch_68 : decode b_R_watch 68 = .ok (.getfield 25, 3) := by decide +kernel
theorem d_R_watch_71 : decode b_R_watch 71 = .ok (.bipush 16, 2) := by decide +kernel
theorem d_R_watch_73 : decode b_R_watch 73 = .ok (.iload_n 1, 1) := by decide +kernel
theorem d_R_watch_74 : decode b_R_watch 74 = .ok (.imul, 1) := by decide +kernel
theorem d_R_watch_75 : decode b_R_watch 75 = .ok (.iload_n 2, 1) := by decide +kernel
theorem d_R_watch_76 : decode b_R_watch 76 = .ok (.iadd, 1) := by decide +kernel
theorem d_R_watch_77 : decode b_R_watch 77 = .ok (.iload_n 3, 1) := by decide +kernel
theorem d_R_watch_78 : decode b_R_watch 78 = .ok (.iload_n 2, 1) := by decide +kernel
theorem d_R_watch_79 : decode b_R_watch 79 = .ok (.invokestatic 93, 3) := by decide +kernel
theorem d_R_watch_82 : decode b_R_watch 82 = .ok (.if_icmp .le 10, 3) := by decide +kernel
theorem d_R_watch_85 : decode b_R_watch 85 = .ok (.iload_n 2, 1) := by decide +kernel
theorem d_R_watch_86 : decode b_R_watch 86 = .ok (.invokestatic 93, 3) := by decide +kernel
theorem d_R_watch_89 : decode b_R_watch 89 = .ok (.goto 4, 3) := by decide +kernel
theorem d_R_watch_92 : decode b_R_watch 92 = .ok (.iload_n 3, 1) := by decide +kernel
theorem d_R_watch_93 : decode b_R_watch 93 = .ok (.iastore, 1) := by decide +kernel
theorem d_R_watch_94 : decode b_R_watch 94 = .ok (.iload_n 3, 1) := by decide +kernel
theorem d_R_watch_95 : decode b_R_watch 95 = .ok (.iload_n 2, 1) := by decide +kernel
theorem d_R_watch_96 : decode b_R_watch 96 = .ok (.invokestatic 93, 3) := by decide +kernel
theorem d_R_watch_99 : decode b_R_watch 99 = .ok (.if_icmp .lt 9, 3) := by decide +kernel
theorem d_R_watch_102 : decode b_R_watch 102 = .ok (.aload_n 0, 1) := by decide +kernel
theorem d_R_watch_103 : decode b_R_watch 103 = .ok (.iload_n 1, 1) := by decide +kernel
theorem d_R_watch_104 : decode b_R_watch 104 = .ok (.iload_n 2, 1) := by decide +kernel
theorem d_R_watch_105 : decode b_R_watch 105 = .ok (.invokevirtual 58, 3) := by decide +kernel
theorem d_R_watch_108 : decode b_R_watch 108 = .ok (.iinc 2 1, 3) := by decide +kernel
theorem d_R_watch_111 : decode b_R_watch 111 = .ok (.goto (-108), 3) := by decide +kernel
theorem d_R_watch_114 : decode b_R_watch 114 = .ok (.return_, 1) := by decide +kernel
def bd_R_watch (mn : Nat) (i : Nat) (u : gm_St) : gm_St := (if (nI i) = (14 : Int32) then (if (u.1 5 mn) = true then (s_R_waiting u mn ((u.2.1 1 mn) + (1 : Int32))) else u) else (if (if (v_R_condition u mn i) = true then ((u.2.1 0 (16 * mn + i)) + (1 : Int32)) else (0 : Int32)) < (v_R_limit (nI i)) then (gm_sG u 0 (16 * mn + i) (if (if (v_R_condition u mn i) = true then ((u.2.1 0 (16 * mn + i)) + (1 : Int32)) else (0 : Int32)) ≤ (v_R_limit (nI i)) then (if (v_R_condition u mn i) = true then ((u.2.1 0 (16 * mn + i)) + (1 : Int32)) else (0 : Int32)) else (v_R_limit (nI i)))) else (s_R_gets (gm_sG u 0 (16 * mn + i) (if (if (v_R_condition u mn i) = true then ((u.2.1 0 (16 * mn + i)) + (1 : Int32)) else (0 : Int32)) ≤ (v_R_limit (nI i)) then (if (v_R_condition u mn i) = true then ((u.2.1 0 (16 * mn + i)) + (1 : Int32)) else (0 : Int32)) else (v_R_limit (nI i)))) mn i)))
def lp_R_watch (mn : Nat) : Nat → Nat → gm_St → gm_St
  | 0, _, u => u
  | k + 1, i, u => lp_R_watch mn k (i + 1) (bd_R_watch mn i u)
def s_R_watch (u : gm_St) (mn : Nat) : gm_St := (lp_R_watch mn 10 6 u)
theorem gr_watch_N {mn i : Nat} {u : gm_St} : (bd_R_watch mn i u).2.2.1 0 ≤ u.2.2.1 0 + 1 := by
  unfold bd_R_watch
  split
  · split
    · exact gr_waiting_N
    · exact Nat.le_succ _
  · repeat' split
    all_goals first | exact Nat.le_succ _ | exact gr_gets_N
theorem gr_lpwatch_N {mn : Nat} : ∀ (k i : Nat) (u : gm_St), (lp_R_watch mn k i u).2.2.1 0 ≤ u.2.2.1 0 + k := by
  intro k
  induction k with
  | zero => intro i u; exact Nat.le_refl _
  | succ k ih => intro i u; simp only [lp_R_watch]; have h := ih (i + 1) (bd_R_watch mn i u); have h2 := gr_watch_N (mn := mn) (i := i) (u := u); omega
set_option maxRecDepth 100000 in
set_option maxHeartbeats 4000000 in
theorem c_R_watch {l : Launch} {D : va_G} {dk : Nat → ClassId} {a : Nat → Nat} {A : Nat → Prop} {lt : Nat} {u : gm_St} {mn : Nat} (h_mn : mn < 2) (hp0 : u.2.2.1 0 + 10 ≤ 1073741824) : gm_V l D (gm_ty dk) (gr_W dk a) A lt y_R_watch b_R_watch 4 rm_R_watch [.ref (a 0), .int (nI mn)] u (s_R_watch u mn) := by
  refine gm_enterV (by decide) (Nat.le_of_ble_eq_true rfl) ?_
  intro p e s m args below meth c ls Q H locs hF hM hl hQ
  have hx := hF.1
  have hb := hF.2.1
  have hml := hF.2.2.1
  have hown := hF.2.2.2.1
  have hts := hF.2.2.2.2.1
  have hl : lv_has ls 4 [(0, .ref (a 0)), (1, .int (nI mn))] := hl
  refine lv_bipush (v := 6) hx hb d_R_watch_0 (by decide) ?_
  refine lv_istore_n (lv' := [(2, .int (6 : Int32)), (0, .ref (a 0)), (1, .int (nI mn))]) hx hb d_R_watch_2 rfl hl (by decide) rfl (fun ls hl => ?_)
  have L1 : ∀ (k1 i1 : Nat) (w1 : gm_St) (ls : Array Slot) (H : Heap) (locs : List Loc), i1 + k1 = 16 → 6 ≤ i1 ∧ w1.2.2.1 0 + (16 - i1) ≤ 1073741824 → lv_has ls 4 [(2, .int (nI i1)), (0, .ref (a 0)), (1, .int (nI mn))] → gm_M D A s (gr_W dk a) w1 H locs → (∀ (ls : Array Slot) (H : Heap) (locs : List Loc), lv_has ls 4 [(2, .int (nI 16)), (0, .ref (a 0)), (1, .int (nI mn))] → gm_M D A s (gr_W dk a) (lp_R_watch mn k1 i1 w1) H locs → W p l e rm_R_watch s m args below meth c H locs 0 0 Q (F0 m 114 ls [])) → W p l e rm_R_watch s m args below meth c H locs 0 0 Q (F0 m 3 ls []) := by
    intro k1
    induction k1 with
    | zero =>
      intro i1 w1 ls H locs hk1 hI1 hl hM kk
      obtain rfl : i1 = 16 := by omega
      refine lv_iload_n hx hb d_R_watch_3 rfl (lv_at hl 0 rfl) ?_
      refine lv_bipush (v := 16) hx hb d_R_watch_4 (by decide) ?_
      refine lv_icmp_ge (tgt := 114) hx hb d_R_watch_6 rfl (fun _ => ?_) (fun h => absurd (by decide) h)
      exact kk ls H locs hl hM
    | succ k1 ih =>
      intro i1 w1 ls H locs hk1 hI1 hl hM kk
      refine lv_iload_n hx hb d_R_watch_3 rfl (lv_at hl 0 rfl) ?_
      refine lv_bipush (v := 16) hx hb d_R_watch_4 (by decide) ?_
      refine lv_icmp_ge (tgt := 114) hx hb d_R_watch_6 rfl (fun h => absurd h (nI_ge (a := i1) (b := 16) (by omega) (by first | decide | omega))) (fun _ => ?_)
      refine lv_iload_n hx hb d_R_watch_9 rfl (lv_at hl 0 rfl) ?_
      refine lv_bipush (v := 14) hx hb d_R_watch_10 (by decide) ?_
      have J3 : ∀ (ls : Array Slot) (H : Heap) (locs : List Loc), lv_has ls 4 [(0, .ref (a 0)), (1, .int (nI mn)), (2, .int (nI i1))] → gm_M D A s (gr_W dk a) (if (nI i1) = (14 : Int32) then (if (w1.1 5 mn) = true then (s_R_waiting w1 mn ((w1.2.1 1 mn) + (1 : Int32))) else w1) else (if (if (v_R_condition w1 mn i1) = true then ((w1.2.1 0 (16 * mn + i1)) + (1 : Int32)) else (0 : Int32)) < (v_R_limit (nI i1)) then (gm_sG w1 0 (16 * mn + i1) (if (if (v_R_condition w1 mn i1) = true then ((w1.2.1 0 (16 * mn + i1)) + (1 : Int32)) else (0 : Int32)) ≤ (v_R_limit (nI i1)) then (if (v_R_condition w1 mn i1) = true then ((w1.2.1 0 (16 * mn + i1)) + (1 : Int32)) else (0 : Int32)) else (v_R_limit (nI i1)))) else (s_R_gets (gm_sG w1 0 (16 * mn + i1) (if (if (v_R_condition w1 mn i1) = true then ((w1.2.1 0 (16 * mn + i1)) + (1 : Int32)) else (0 : Int32)) ≤ (v_R_limit (nI i1)) then (if (v_R_condition w1 mn i1) = true then ((w1.2.1 0 (16 * mn + i1)) + (1 : Int32)) else (0 : Int32)) else (v_R_limit (nI i1)))) mn i1))) H locs → W p l e rm_R_watch s m args below meth c H locs 0 0 Q (F0 m 108 ls []) := by
        intro ls H locs hl hM
        refine lv_iinc (k := 2) (v := (nI (i1 + 1))) (lv' := [(2, .int (nI (i1 + 1))), (0, .ref (a 0)), (1, .int (nI mn))]) hx hb d_R_watch_108 hl rfl (nI_1 _) (by decide) rfl (fun ls hl => ?_)
        refine lv_goto (tgt := 3) hx hb d_R_watch_111 rfl ?_
        have hK := kk
        simp only [lp_R_watch, bd_R_watch] at hK
        exact ih (i1 + 1) (if (nI i1) = (14 : Int32) then (if (w1.1 5 mn) = true then (s_R_waiting w1 mn ((w1.2.1 1 mn) + (1 : Int32))) else w1) else (if (if (v_R_condition w1 mn i1) = true then ((w1.2.1 0 (16 * mn + i1)) + (1 : Int32)) else (0 : Int32)) < (v_R_limit (nI i1)) then (gm_sG w1 0 (16 * mn + i1) (if (if (v_R_condition w1 mn i1) = true then ((w1.2.1 0 (16 * mn + i1)) + (1 : Int32)) else (0 : Int32)) ≤ (v_R_limit (nI i1)) then (if (v_R_condition w1 mn i1) = true then ((w1.2.1 0 (16 * mn + i1)) + (1 : Int32)) else (0 : Int32)) else (v_R_limit (nI i1)))) else (s_R_gets (gm_sG w1 0 (16 * mn + i1) (if (if (v_R_condition w1 mn i1) = true then ((w1.2.1 0 (16 * mn + i1)) + (1 : Int32)) else (0 : Int32)) ≤ (v_R_limit (nI i1)) then (if (v_R_condition w1 mn i1) = true then ((w1.2.1 0 (16 * mn + i1)) + (1 : Int32)) else (0 : Int32)) else (v_R_limit (nI i1)))) mn i1))) ls H locs (by omega) (by have hw := gr_watch_N (mn := mn) (i := i1) (u := w1); simp only [bd_R_watch] at hw; omega) hl hM hK
      refine lv_icmp_ne (tgt := 40) hx hb d_R_watch_12 rfl (fun h2 => ?_) (fun h2 => ?_)
      · refine lv_aload_n hx hb d_R_watch_40 rfl (lv_at hl 1 rfl) ?_
        refine lv_iload_n hx hb d_R_watch_41 rfl (lv_at hl 2 rfl) ?_
        refine lv_iload_n hx hb d_R_watch_42 rfl (lv_at hl 0 rfl) ?_
        refine gm_Vi (As := [.int (nI mn), .int (nI i1)]) (rest := []) hF hM (c_R_condition (u := w1) (mn := mn) (kn := i1) (by omega) (by omega)) (gk_R_90 hts ⟨by decide, by decide⟩) (gv_R hF hM rfl) rfl hl.1 rfl (Nat.le_of_ble_eq_true rfl) ⟨Nat.zero_le _, Nat.zero_le _⟩ d_R_watch_43 (fun H locs hM => ?_)
        have J5 : ∀ (ls : Array Slot) (H : Heap) (locs : List Loc), lv_has ls 4 [(0, .ref (a 0)), (1, .int (nI mn)), (2, .int (nI i1))] → gm_M D A s (gr_W dk a) w1 H locs → W p l e rm_R_watch s m args below meth c H locs 0 0 Q (F0 m 66 ls [.int (if (v_R_condition w1 mn i1) = true then ((w1.2.1 0 (16 * mn + i1)) + (1 : Int32)) else (0 : Int32))]) := by
          intro ls H locs hl hM
          refine lv_istore_n (lv' := [(3, .int (if (v_R_condition w1 mn i1) = true then ((w1.2.1 0 (16 * mn + i1)) + (1 : Int32)) else (0 : Int32))), (0, .ref (a 0)), (1, .int (nI mn)), (2, .int (nI i1))]) hx hb d_R_watch_66 rfl hl (by decide) rfl (fun ls hl => ?_)
          refine lv_aload_n hx hb d_R_watch_67 rfl (lv_at hl 1 rfl) ?_
          refine gf_R_25 hF hM d_R_watch_68 ?_
          refine lv_bipush (v := 16) hx hb d_R_watch_71 (by decide) ?_
          refine lv_iload_n hx hb d_R_watch_73 rfl (lv_at hl 2 rfl) ?_
          refine lv_imul hx hb d_R_watch_74 ?_
          refine lv_iload_n hx hb d_R_watch_75 rfl (lv_at hl 3 rfl) ?_
          refine lv_iadd hx hb d_R_watch_76 ?_
          refine lv_iload_n hx hb d_R_watch_77 rfl (lv_at hl 0 rfl) ?_
          refine lv_iload_n hx hb d_R_watch_78 rfl (lv_at hl 3 rfl) ?_
          refine gm_Si (As := [.int (nI i1)]) (rest := [.int (if (v_R_condition w1 mn i1) = true then ((w1.2.1 0 (16 * mn + i1)) + (1 : Int32)) else (0 : Int32)), .int (((16 : Int32) * (nI mn)) + (nI i1)), .ref (a 6)]) hF hM (c_R_limit (u := w1) (x := (nI i1)) ) (gk_R_93 hts ⟨by decide, by decide⟩) rfl hl.1 rfl (Nat.le_of_ble_eq_true rfl) ⟨Nat.zero_le _, Nat.zero_le _⟩ d_R_watch_79 (fun H locs hM => ?_)
          have J7 : ∀ (ls : Array Slot) (H : Heap) (locs : List Loc), lv_has ls 4 [(0, .ref (a 0)), (1, .int (nI mn)), (2, .int (nI i1)), (3, .int (if (v_R_condition w1 mn i1) = true then ((w1.2.1 0 (16 * mn + i1)) + (1 : Int32)) else (0 : Int32)))] → gm_M D A s (gr_W dk a) w1 H locs → W p l e rm_R_watch s m args below meth c H locs 0 0 Q (F0 m 93 ls [.int (if (if (v_R_condition w1 mn i1) = true then ((w1.2.1 0 (16 * mn + i1)) + (1 : Int32)) else (0 : Int32)) ≤ (v_R_limit (nI i1)) then (if (v_R_condition w1 mn i1) = true then ((w1.2.1 0 (16 * mn + i1)) + (1 : Int32)) else (0 : Int32)) else (v_R_limit (nI i1))), .int (((16 : Int32) * (nI mn)) + (nI i1)), .ref (a 6)]) := by
            intro ls H locs hl hM
            refine gq_held (k := (16 * mn + i1)) hF hM (by first | rfl | (simp only [← nI_add, ← pk_mul] <;> rfl)) (by first | omega | exact Nat.mod_lt _ (by decide)) d_R_watch_93 (fun H locs hM => ?_)
            refine lv_iload_n hx hb d_R_watch_94 rfl (lv_at hl 3 rfl) ?_
            refine lv_iload_n hx hb d_R_watch_95 rfl (lv_at hl 2 rfl) ?_
            refine gm_Si (As := [.int (nI i1)]) (rest := [.int (if (v_R_condition w1 mn i1) = true then ((w1.2.1 0 (16 * mn + i1)) + (1 : Int32)) else (0 : Int32))]) hF hM (c_R_limit (u := (gm_sG w1 0 (16 * mn + i1) (if (if (v_R_condition w1 mn i1) = true then ((w1.2.1 0 (16 * mn + i1)) + (1 : Int32)) else (0 : Int32)) ≤ (v_R_limit (nI i1)) then (if (v_R_condition w1 mn i1) = true then ((w1.2.1 0 (16 * mn + i1)) + (1 : Int32)) else (0 : Int32)) else (v_R_limit (nI i1))))) (x := (nI i1)) ) (gk_R_93 hts ⟨by decide, by decide⟩) rfl hl.1 rfl (Nat.le_of_ble_eq_true rfl) ⟨Nat.zero_le _, Nat.zero_le _⟩ d_R_watch_96 (fun H locs hM => ?_)
            refine lv_icmp_lt (tgt := 108) hx hb d_R_watch_99 rfl (fun h8 => ?_) (fun h8 => ?_)
            · have hJ := J3
              try simp only [if_neg h2, if_pos h8] at hJ
              exact hJ ls H locs (lv_sub hl [0, 1, 2] rfl) hM
            · refine lv_aload_n hx hb d_R_watch_102 rfl (lv_at hl 0 rfl) ?_
              refine lv_iload_n hx hb d_R_watch_103 rfl (lv_at hl 1 rfl) ?_
              refine lv_iload_n hx hb d_R_watch_104 rfl (lv_at hl 2 rfl) ?_
              refine gm_Vv (As := [.int (nI mn), .int (nI i1)]) (rest := []) hF hM (c_R_gets (u := (gm_sG w1 0 (16 * mn + i1) (if (if (v_R_condition w1 mn i1) = true then ((w1.2.1 0 (16 * mn + i1)) + (1 : Int32)) else (0 : Int32)) ≤ (v_R_limit (nI i1)) then (if (v_R_condition w1 mn i1) = true then ((w1.2.1 0 (16 * mn + i1)) + (1 : Int32)) else (0 : Int32)) else (v_R_limit (nI i1))))) (mn := mn) (kn := i1) (by omega) (by omega) (by show w1.2.2.1 0 + 1 ≤ 1073741824; omega)) (gk_R_58 hts ⟨by decide, by decide⟩) (gv_R hF hM rfl) rfl hl.1 rfl (Nat.le_of_ble_eq_true rfl) ⟨Nat.zero_le _, Nat.zero_le _⟩ d_R_watch_105 (fun H locs hM => ?_)
              have hJ := J3
              try simp only [if_neg h2, if_neg h8] at hJ
              exact hJ ls H locs (lv_sub hl [0, 1, 2] rfl) hM
          refine lv_icmp_le (tgt := 92) hx hb d_R_watch_82 rfl (fun h6 => ?_) (fun h6 => ?_)
          · refine lv_iload_n hx hb d_R_watch_92 rfl (lv_at hl 0 rfl) ?_
            have hJ := J7
            try simp only [if_pos h6] at hJ
            exact hJ ls H locs (lv_sub hl [1, 2, 3, 0] rfl) hM
          · refine lv_iload_n hx hb d_R_watch_85 rfl (lv_at hl 3 rfl) ?_
            refine gm_Si (As := [.int (nI i1)]) (rest := [.int (((16 : Int32) * (nI mn)) + (nI i1)), .ref (a 6)]) hF hM (c_R_limit (u := w1) (x := (nI i1)) ) (gk_R_93 hts ⟨by decide, by decide⟩) rfl hl.1 rfl (Nat.le_of_ble_eq_true rfl) ⟨Nat.zero_le _, Nat.zero_le _⟩ d_R_watch_86 (fun H locs hM => ?_)
            refine lv_goto (tgt := 93) hx hb d_R_watch_89 rfl ?_
            have hJ := J7
            try simp only [if_neg h6] at hJ
            exact hJ ls H locs (lv_sub hl [1, 2, 3, 0] rfl) hM
        refine gm_ifz (b := (v_R_condition w1 mn i1)) (tgt := 65) hx hb d_R_watch_46 rfl (fun h4 => ?_) (fun h4 => ?_)
        · refine lv_iconst (v := 0) hx hb d_R_watch_65 (by decide) ?_
          have hJ := J5
          try simp only [if_neg (gm_nf h4)] at hJ
          exact hJ ls H locs (lv_sub hl [1, 2, 0] rfl) hM
        · refine lv_aload_n hx hb d_R_watch_49 rfl (lv_at hl 1 rfl) ?_
          refine gf_R_25 hF hM d_R_watch_50 ?_
          refine lv_bipush (v := 16) hx hb d_R_watch_53 (by decide) ?_
          refine lv_iload_n hx hb d_R_watch_55 rfl (lv_at hl 2 rfl) ?_
          refine lv_imul hx hb d_R_watch_56 ?_
          refine lv_iload_n hx hb d_R_watch_57 rfl (lv_at hl 0 rfl) ?_
          refine lv_iadd hx hb d_R_watch_58 ?_
          refine ga_held (k := (16 * mn + i1)) hF hM (by first | rfl | (simp only [← nI_add, ← pk_mul] <;> rfl)) (by first | omega | exact Nat.mod_lt _ (by decide)) d_R_watch_59 ?_
          refine lv_iconst (v := 1) hx hb d_R_watch_60 (by decide) ?_
          refine lv_iadd hx hb d_R_watch_61 ?_
          refine lv_goto (tgt := 66) hx hb d_R_watch_62 rfl ?_
          have hJ := J5
          try simp only [if_pos h4] at hJ
          exact hJ ls H locs (lv_sub hl [1, 2, 0] rfl) hM
      · refine lv_aload_n hx hb d_R_watch_15 rfl (lv_at hl 1 rfl) ?_
        refine gf_R_29 hF hM d_R_watch_16 ?_
        refine lv_iload_n hx hb d_R_watch_19 rfl (lv_at hl 2 rfl) ?_
        refine ga_waits (k := mn) hF hM rfl (by first | omega | exact Nat.mod_lt _ (by decide)) d_R_watch_20 ?_
        refine gm_ifz (b := (w1.1 5 mn)) (tgt := 108) hx hb d_R_watch_21 rfl (fun h9 => ?_) (fun h9 => ?_)
        · have hJ := J3
          try simp only [if_pos h2, if_neg (gm_nf h9)] at hJ
          exact hJ ls H locs (lv_sub hl [1, 2, 0] rfl) hM
        · refine lv_aload_n hx hb d_R_watch_24 rfl (lv_at hl 1 rfl) ?_
          refine lv_iload_n hx hb d_R_watch_25 rfl (lv_at hl 2 rfl) ?_
          refine lv_aload_n hx hb d_R_watch_26 rfl (lv_at hl 1 rfl) ?_
          refine gf_R_32 hF hM d_R_watch_27 ?_
          refine lv_iload_n hx hb d_R_watch_30 rfl (lv_at hl 2 rfl) ?_
          refine ga_waited (k := mn) hF hM rfl (by first | omega | exact Nat.mod_lt _ (by decide)) d_R_watch_31 ?_
          refine lv_iconst (v := 1) hx hb d_R_watch_32 (by decide) ?_
          refine lv_iadd hx hb d_R_watch_33 ?_
          refine gm_Vv (As := [.int (nI mn), .int ((w1.2.1 1 mn) + (1 : Int32))]) (rest := []) hF hM (c_R_waiting (u := w1) (mn := mn) (tk := ((w1.2.1 1 mn) + (1 : Int32))) (by omega) (by omega)) (gk_R_87 hts ⟨by decide, by decide⟩) (gv_R hF hM rfl) rfl hl.1 rfl (Nat.le_of_ble_eq_true rfl) ⟨Nat.zero_le _, Nat.zero_le _⟩ d_R_watch_34 (fun H locs hM => ?_)
          refine lv_goto (tgt := 108) hx hb d_R_watch_37 rfl ?_
          have hJ := J3
          try simp only [if_pos h2, if_pos h9] at hJ
          exact hJ ls H locs (lv_sub hl [1, 2, 0] rfl) hM
  refine L1 10 6 u ls H locs (by omega) (by omega) hl hM (fun ls H locs hl hM => ?_)
  have hq := hQ H locs 114 ls
  simp only [s_R_watch] at hq
  exact hq hM d_R_watch_114
