def pc_i1 (x : Int32) : Int32 := (x - (((x).toUInt32 >>> (((1 : Int32)).toUInt32 &&& Int32.toUInt32 31)).toInt32 &&& (1431655765 : Int32)))
def pc_i2 (x : Int32) : Int32 := ((x &&& (858993459 : Int32)) + (((x).toUInt32 >>> (((2 : Int32)).toUInt32 &&& Int32.toUInt32 31)).toInt32 &&& (858993459 : Int32)))
def pc_i3 (x : Int32) : Int32 := ((x + ((x).toUInt32 >>> (((4 : Int32)).toUInt32 &&& Int32.toUInt32 31)).toInt32) &&& (252645135 : Int32))
def pc_i4 (x : Int32) : Int32 := (x + ((x).toUInt32 >>> (((8 : Int32)).toUInt32 &&& Int32.toUInt32 31)).toInt32)
def pc_i5 (x : Int32) : Int32 := (x + ((x).toUInt32 >>> (((16 : Int32)).toUInt32 &&& Int32.toUInt32 31)).toInt32)
theorem d_I_bitCount_0 : decode b_I_bitCount 0 = .ok (.iload_n 0, 1) := by decide +kernel
theorem d_I_bitCount_1 : decode b_I_bitCount 1 = .ok (.iload_n 0, 1) := by decide +kernel
theorem d_I_bitCount_2 : decode b_I_bitCount 2 = .ok (.iconst 1, 1) := by decide +kernel
theorem d_I_bitCount_3 : decode b_I_bitCount 3 = .ok (.iushr, 1) := by decide +kernel
theorem d_I_bitCount_4 : decode b_I_bitCount 4 = .ok (.ldc_w 265, 3) := by decide +kernel
theorem d_I_bitCount_7 : decode b_I_bitCount 7 = .ok (.iand, 1) := by decide +kernel
theorem d_I_bitCount_8 : decode b_I_bitCount 8 = .ok (.isub, 1) := by decide +kernel
theorem d_I_bitCount_9 : decode b_I_bitCount 9 = .ok (.istore_n 0, 1) := by decide +kernel
theorem d_I_bitCount_10 : decode b_I_bitCount 10 = .ok (.iload_n 0, 1) := by decide +kernel
theorem d_I_bitCount_11 : decode b_I_bitCount 11 = .ok (.ldc_w 266, 3) := by decide +kernel
theorem d_I_bitCount_14 : decode b_I_bitCount 14 = .ok (.iand, 1) := by decide +kernel
theorem d_I_bitCount_15 : decode b_I_bitCount 15 = .ok (.iload_n 0, 1) := by decide +kernel
theorem d_I_bitCount_16 : decode b_I_bitCount 16 = .ok (.iconst 2, 1) := by decide +kernel
theorem d_I_bitCount_17 : decode b_I_bitCount 17 = .ok (.iushr, 1) := by decide +kernel
theorem d_I_bitCount_18 : decode b_I_bitCount 18 = .ok (.ldc_w 266, 3) := by decide +kernel
theorem d_I_bitCount_21 : decode b_I_bitCount 21 = .ok (.iand, 1) := by decide +kernel
theorem d_I_bitCount_22 : decode b_I_bitCount 22 = .ok (.iadd, 1) := by decide +kernel
theorem d_I_bitCount_23 : decode b_I_bitCount 23 = .ok (.istore_n 0, 1) := by decide +kernel
theorem d_I_bitCount_24 : decode b_I_bitCount 24 = .ok (.iload_n 0, 1) := by decide +kernel
theorem d_I_bitCount_25 : decode b_I_bitCount 25 = .ok (.iload_n 0, 1) := by decide +kernel
theorem d_I_bitCount_26 : decode b_I_bitCount 26 = .ok (.iconst 4, 1) := by decide +kernel
theorem d_I_bitCount_27 : decode b_I_bitCount 27 = .ok (.iushr, 1) := by decide +kernel
theorem d_I_bitCount_28 : decode b_I_bitCount 28 = .ok (.iadd, 1) := by decide +kernel
theorem d_I_bitCount_29 : decode b_I_bitCount 29 = .ok (.ldc_w 267, 3) := by decide +kernel
theorem d_I_bitCount_32 : decode b_I_bitCount 32 = .ok (.iand, 1) := by decide +kernel
theorem d_I_bitCount_33 : decode b_I_bitCount 33 = .ok (.istore_n 0, 1) := by decide +kernel
theorem d_I_bitCount_34 : decode b_I_bitCount 34 = .ok (.iload_n 0, 1) := by decide +kernel
theorem d_I_bitCount_35 : decode b_I_bitCount 35 = .ok (.iload_n 0, 1) := by decide +kernel
theorem d_I_bitCount_36 : decode b_I_bitCount 36 = .ok (.bipush 8, 2) := by decide +kernel
theorem d_I_bitCount_38 : decode b_I_bitCount 38 = .ok (.iushr, 1) := by decide +kernel
theorem d_I_bitCount_39 : decode b_I_bitCount 39 = .ok (.iadd, 1) := by decide +kernel
theorem d_I_bitCount_40 : decode b_I_bitCount 40 = .ok (.istore_n 0, 1) := by decide +kernel
theorem d_I_bitCount_41 : decode b_I_bitCount 41 = .ok (.iload_n 0, 1) := by decide +kernel
theorem d_I_bitCount_42 : decode b_I_bitCount 42 = .ok (.iload_n 0, 1) := by decide +kernel
theorem d_I_bitCount_43 : decode b_I_bitCount 43 = .ok (.bipush 16, 2) := by decide +kernel
theorem d_I_bitCount_45 : decode b_I_bitCount 45 = .ok (.iushr, 1) := by decide +kernel
theorem d_I_bitCount_46 : decode b_I_bitCount 46 = .ok (.iadd, 1) := by decide +kernel
theorem d_I_bitCount_47 : decode b_I_bitCount 47 = .ok (.istore_n 0, 1) := by decide +kernel
theorem d_I_bitCount_48 : decode b_I_bitCount 48 = .ok (.iload_n 0, 1) := by decide +kernel
theorem d_I_bitCount_49 : decode b_I_bitCount 49 = .ok (.bipush 63, 2) := by decide +kernel
theorem d_I_bitCount_51 : decode b_I_bitCount 51 = .ok (.iand, 1) := by decide +kernel
theorem d_I_bitCount_52 : decode b_I_bitCount 52 = .ok (.ireturn, 1) := by decide +kernel
def v_I_bitCount (x : Int32) : Int32 := ((pc_i5 (pc_i4 (pc_i3 (pc_i2 (pc_i1 x))))) &&& (63 : Int32))
set_option maxRecDepth 100000 in
set_option maxHeartbeats 4000000 in
theorem c_I_bitCount {l : Launch} {D : va_G} {dk : Nat → ClassId} {Wd : gm_St → va_W} {A : Nat → Prop} {lt : Nat} {u : gm_St} {x : Int32} : gm_I l D (gm_ty dk) Wd A lt y_I_bitCount b_I_bitCount 1 (some .int) rm_I_bitCount [.int x] u (v_I_bitCount x) u := by
  refine gm_enterI (by decide) (Nat.le_of_ble_eq_true rfl) ?_
  intro p e s m args below meth c ls Q H locs hF hM hl hQ
  have hx := hF.1
  have hb := hF.2.1
  have hml := hF.2.2.1
  have hown := hF.2.2.2.1
  have hts := hF.2.2.2.2.1
  have hl : lv_has ls 1 [(0, .int x)] := hl
  refine lv_iload_n hx hb d_I_bitCount_0 rfl (lv_at hl 0 rfl) ?_
  refine lv_iload_n hx hb d_I_bitCount_1 rfl (lv_at hl 0 rfl) ?_
  refine lv_iconst (v := 1) hx hb d_I_bitCount_2 (by decide) ?_
  refine lv_iushr hx hb d_I_bitCount_3 rfl ?_
  refine lv_ldcw (v := 1431655765) hx hb hown (hts _ (gm_in 150 (by decide +kernel) rfl)) d_I_bitCount_4 ?_
  refine lv_iand hx hb d_I_bitCount_7 ?_
  refine lv_isub hx hb d_I_bitCount_8 ?_
  refine gm_tp (y := (pc_i1 x)) rfl ?_
  refine lv_istore_n (lv' := [(0, .int (pc_i1 x))]) hx hb d_I_bitCount_9 rfl hl (by decide) rfl (fun ls hl => ?_)
  refine lv_iload_n hx hb d_I_bitCount_10 rfl (lv_at hl 0 rfl) ?_
  refine lv_ldcw (v := 858993459) hx hb hown (hts _ (gm_in 151 (by decide +kernel) rfl)) d_I_bitCount_11 ?_
  refine lv_iand hx hb d_I_bitCount_14 ?_
  refine lv_iload_n hx hb d_I_bitCount_15 rfl (lv_at hl 0 rfl) ?_
  refine lv_iconst (v := 2) hx hb d_I_bitCount_16 (by decide) ?_
  refine lv_iushr hx hb d_I_bitCount_17 rfl ?_
  refine lv_ldcw (v := 858993459) hx hb hown (hts _ (gm_in 151 (by decide +kernel) rfl)) d_I_bitCount_18 ?_
  refine lv_iand hx hb d_I_bitCount_21 ?_
  refine lv_iadd hx hb d_I_bitCount_22 ?_
  refine gm_tp (y := (pc_i2 (pc_i1 x))) rfl ?_
  refine lv_istore_n (lv' := [(0, .int (pc_i2 (pc_i1 x)))]) hx hb d_I_bitCount_23 rfl hl (by decide) rfl (fun ls hl => ?_)
  refine lv_iload_n hx hb d_I_bitCount_24 rfl (lv_at hl 0 rfl) ?_
  refine lv_iload_n hx hb d_I_bitCount_25 rfl (lv_at hl 0 rfl) ?_
  refine lv_iconst (v := 4) hx hb d_I_bitCount_26 (by decide) ?_
  refine lv_iushr hx hb d_I_bitCount_27 rfl ?_
  refine lv_iadd hx hb d_I_bitCount_28 ?_
  refine lv_ldcw (v := 252645135) hx hb hown (hts _ (gm_in 152 (by decide +kernel) rfl)) d_I_bitCount_29 ?_
  refine lv_iand hx hb d_I_bitCount_32 ?_
  refine gm_tp (y := (pc_i3 (pc_i2 (pc_i1 x)))) rfl ?_
  refine lv_istore_n (lv' := [(0, .int (pc_i3 (pc_i2 (pc_i1 x))))]) hx hb d_I_bitCount_33 rfl hl (by decide) rfl (fun ls hl => ?_)
  refine lv_iload_n hx hb d_I_bitCount_34 rfl (lv_at hl 0 rfl) ?_
  refine lv_iload_n hx hb d_I_bitCount_35 rfl (lv_at hl 0 rfl) ?_
  refine lv_bipush (v := 8) hx hb d_I_bitCount_36 (by decide) ?_
  refine lv_iushr hx hb d_I_bitCount_38 rfl ?_
  refine lv_iadd hx hb d_I_bitCount_39 ?_
  refine gm_tp (y := (pc_i4 (pc_i3 (pc_i2 (pc_i1 x))))) rfl ?_
  refine lv_istore_n (lv' := [(0, .int (pc_i4 (pc_i3 (pc_i2 (pc_i1 x)))))]) hx hb d_I_bitCount_40 rfl hl (by decide) rfl (fun ls hl => ?_)
  refine lv_iload_n hx hb d_I_bitCount_41 rfl (lv_at hl 0 rfl) ?_
  refine lv_iload_n hx hb d_I_bitCount_42 rfl (lv_at hl 0 rfl) ?_
  refine lv_bipush (v := 16) hx hb d_I_bitCount_43 (by decide) ?_
  refine lv_iushr hx hb d_I_bitCount_45 rfl ?_
  refine lv_iadd hx hb d_I_bitCount_46 ?_
  refine gm_tp (y := (pc_i5 (pc_i4 (pc_i3 (pc_i2 (pc_i1 x)))))) rfl ?_
  refine lv_istore_n (lv' := [(0, .int (pc_i5 (pc_i4 (pc_i3 (pc_i2 (pc_i1 x))))))]) hx hb d_I_bitCount_47 rfl hl (by decide) rfl (fun ls hl => ?_)
  refine lv_iload_n hx hb d_I_bitCount_48 rfl (lv_at hl 0 rfl) ?_
  refine lv_bipush (v := 63) hx hb d_I_bitCount_49 (by decide) ?_
  refine lv_iand hx hb d_I_bitCount_51 ?_
  have hq := hQ H locs 52 ls
  simp only [v_I_bitCount] at hq
  exact hq hM d_I_bitCount_52
theorem d_S_reset_0 : decode b_S_reset 0 = .ok (.aload_n 0, 1) := by decide +kernel
theorem d_S_reset_1 : decode b_S_reset 1 = .ok (.iconst 0, 1) := by decide +kernel
theorem d_S_reset_2 : decode b_S_reset 2 = .ok (.putfield 15, 3) := by decide +kernel
theorem d_S_reset_5 : decode b_S_reset 5 = .ok (.aload_n 0, 1) := by decide +kernel
theorem d_S_reset_6 : decode b_S_reset 6 = .ok (.iconst 0, 1) := by decide +kernel
theorem d_S_reset_7 : decode b_S_reset 7 = .ok (.putfield 19, 3) := by decide +kernel
theorem d_S_reset_10 : decode b_S_reset 10 = .ok (.aload_n 0, 1) := by decide +kernel
theorem d_S_reset_11 : decode b_S_reset 11 = .ok (.bipush 7, 2) := by decide +kernel
theorem d_S_reset_13 : decode b_S_reset 13 = .ok (.putfield 9, 3) := by decide +kernel
theorem d_S_reset_16 : decode b_S_reset 16 = .ok (.return_, 1) := by decide +kernel
def s_S_reset (u : gm_St) (i : Nat) : gm_St := (gm_sG (gm_sB (gm_sB u 0 i false) 1 i false) 0 i (7 : Int32))
set_option maxRecDepth 100000 in
set_option maxHeartbeats 4000000 in
theorem c_S_reset {l : Launch} {D : va_G} {dk : Nat → ClassId} {a : Nat → Nat} {A : Nat → Prop} {lt : Nat} {u : gm_St} {i : Nat} (hi : i < 12) : gm_V l D (gm_ty dk) (gm_W dk a) A lt y_S_reset b_S_reset 1 rm_S_reset [.ref (a (9 + i))] u (s_S_reset u i) := by
  refine gm_enterV (by decide) (Nat.le_of_ble_eq_true rfl) ?_
  intro p e s m args below meth c ls Q H locs hF hM hl hQ
  have hx := hF.1
  have hb := hF.2.1
  have hml := hF.2.2.1
  have hown := hF.2.2.2.1
  have hts := hF.2.2.2.2.1
  have hl : lv_has ls 1 [(0, .ref (a (9 + i)))] := hl
  refine lv_aload_n hx hb d_S_reset_0 rfl (lv_at hl 0 rfl) ?_
  refine lv_iconst (v := 0) hx hb d_S_reset_1 (by decide) ?_
  refine gp_S_15 hF hM (by omega) (x := false) rfl d_S_reset_2 (fun H locs hM => ?_)
  refine lv_aload_n hx hb d_S_reset_5 rfl (lv_at hl 0 rfl) ?_
  refine lv_iconst (v := 0) hx hb d_S_reset_6 (by decide) ?_
  refine gp_S_19 hF hM (by omega) (x := false) rfl d_S_reset_7 (fun H locs hM => ?_)
  refine lv_aload_n hx hb d_S_reset_10 rfl (lv_at hl 0 rfl) ?_
  refine lv_bipush (v := 7) hx hb d_S_reset_11 (by decide) ?_
  refine gp_S_9 hF hM (by omega) d_S_reset_13 (fun H locs hM => ?_)
  have hq := hQ H locs 16 ls
  simp only [s_S_reset] at hq
  exact hq hM d_S_reset_16
theorem d_S_voteOfThree_0 : decode b_S_voteOfThree 0 = .ok (.aload_n 0, 1) := by decide +kernel
theorem d_S_voteOfThree_1 : decode b_S_voteOfThree 1 = .ok (.iload_n 1, 1) := by decide +kernel
theorem d_S_voteOfThree_2 : decode b_S_voteOfThree 2 = .ok (.invokestatic 29, 3) := by decide +kernel
theorem d_S_voteOfThree_5 : decode b_S_voteOfThree 5 = .ok (.iconst 2, 1) := by decide +kernel
theorem d_S_voteOfThree_6 : decode b_S_voteOfThree 6 = .ok (.if_icmp .lt 7, 3) := by decide +kernel
theorem d_S_voteOfThree_9 : decode b_S_voteOfThree 9 = .ok (.iconst 1, 1) := by decide +kernel
theorem d_S_voteOfThree_10 : decode b_S_voteOfThree 10 = .ok (.goto 4, 3) := by decide +kernel
theorem d_S_voteOfThree_13 : decode b_S_voteOfThree 13 = .ok (.iconst 0, 1) := by decide +kernel
theorem d_S_voteOfThree_14 : decode b_S_voteOfThree 14 = .ok (.putfield 15, 3) := by decide +kernel
theorem d_S_voteOfThree_17 : decode b_S_voteOfThree 17 = .ok (.aload_n 0, 1) := by decide +kernel
theorem d_S_voteOfThree_18 : decode b_S_voteOfThree 18 = .ok (.aload_n 0, 1) := by decide +kernel
theorem d_S_voteOfThree_19 : decode b_S_voteOfThree 19 = .ok (.getfield 15, 3) := by decide +kernel
theorem d_S_voteOfThree_22 : decode b_S_voteOfThree 22 = .ok (.ifCond .eq 7, 3) := by decide +kernel
theorem d_S_voteOfThree_25 : decode b_S_voteOfThree 25 = .ok (.iload_n 1, 1) := by decide +kernel
theorem d_S_voteOfThree_26 : decode b_S_voteOfThree 26 = .ok (.goto 9, 3) := by decide +kernel
theorem d_S_voteOfThree_29 : decode b_S_voteOfThree 29 = .ok (.bipush 7, 2) := by decide +kernel
theorem d_S_voteOfThree_31 : decode b_S_voteOfThree 31 = .ok (.iload_n 1, 1) := by decide +kernel
theorem d_S_voteOfThree_32 : decode b_S_voteOfThree 32 = .ok (.iconst (-1), 1) := by decide +kernel
theorem d_S_voteOfThree_33 : decode b_S_voteOfThree 33 = .ok (.ixor, 1) := by decide +kernel
theorem d_S_voteOfThree_34 : decode b_S_voteOfThree 34 = .ok (.iand, 1) := by decide +kernel
theorem d_S_voteOfThree_35 : decode b_S_voteOfThree 35 = .ok (.putfield 9, 3) := by decide +kernel
theorem d_S_voteOfThree_38 : decode b_S_voteOfThree 38 = .ok (.return_, 1) := by decide +kernel
def s_S_voteOfThree (u : gm_St) (i : Nat) (ch : Int32) : gm_St := (gm_sG (gm_sB u 0 i (if (v_I_bitCount ch) < (2 : Int32) then false else true)) 0 i (if ((gm_sB u 0 i (if (v_I_bitCount ch) < (2 : Int32) then false else true)).1 0 i) = true then ch else ((7 : Int32) &&& (ch ^^^ (-1 : Int32)))))
set_option maxRecDepth 100000 in
set_option maxHeartbeats 4000000 in
theorem c_S_voteOfThree {l : Launch} {D : va_G} {dk : Nat → ClassId} {a : Nat → Nat} {A : Nat → Prop} {lt : Nat} {u : gm_St} {i : Nat} {ch : Int32} (hi : i < 12) : gm_V l D (gm_ty dk) (gm_W dk a) A lt y_S_voteOfThree b_S_voteOfThree 2 rm_S_voteOfThree [.ref (a (9 + i)), .int ch] u (s_S_voteOfThree u i ch) := by
  refine gm_enterV (by decide) (Nat.le_of_ble_eq_true rfl) ?_
  intro p e s m args below meth c ls Q H locs hF hM hl hQ
  have hx := hF.1
  have hb := hF.2.1
  have hml := hF.2.2.1
  have hown := hF.2.2.2.1
  have hts := hF.2.2.2.2.1
  have hl : lv_has ls 2 [(0, .ref (a (9 + i))), (1, .int ch)] := hl
  refine lv_aload_n hx hb d_S_voteOfThree_0 rfl (lv_at hl 0 rfl) ?_
  refine lv_iload_n hx hb d_S_voteOfThree_1 rfl (lv_at hl 1 rfl) ?_
  refine gm_Si (As := [.int ch]) (rest := [.ref (a (9 + i))]) hF hM (c_I_bitCount (u := u) (x := ch) ) (gk_S_29 hts ⟨by decide, by decide⟩) rfl hl.1 rfl (Nat.le_of_ble_eq_true rfl) ⟨Nat.zero_le _, Nat.zero_le _⟩ d_S_voteOfThree_2 (fun H locs hM => ?_)
  refine lv_iconst (v := 2) hx hb d_S_voteOfThree_5 (by decide) ?_
  have J2 : ∀ (ls : Array Slot) (H : Heap) (locs : List Loc), lv_has ls 2 [(0, .ref (a (9 + i))), (1, .int ch)] → gm_M D A s (gm_W dk a) u H locs → W p l e rm_S_voteOfThree s m args below meth c H locs 0 0 Q (F0 m 14 ls [.int (gm_b (if (v_I_bitCount ch) < (2 : Int32) then false else true)), .ref (a (9 + i))]) := by
    intro ls H locs hl hM
    refine gp_S_15 hF hM (by omega) (x := (if (v_I_bitCount ch) < (2 : Int32) then false else true)) rfl d_S_voteOfThree_14 (fun H locs hM => ?_)
    refine lv_aload_n hx hb d_S_voteOfThree_17 rfl (lv_at hl 0 rfl) ?_
    refine lv_aload_n hx hb d_S_voteOfThree_18 rfl (lv_at hl 0 rfl) ?_
    refine gf_S_15 hF hM (by omega) d_S_voteOfThree_19 ?_
    have J4 : ∀ (ls : Array Slot) (H : Heap) (locs : List Loc), lv_has ls 2 [(0, .ref (a (9 + i))), (1, .int ch)] → gm_M D A s (gm_W dk a) (gm_sB u 0 i (if (v_I_bitCount ch) < (2 : Int32) then false else true)) H locs → W p l e rm_S_voteOfThree s m args below meth c H locs 0 0 Q (F0 m 35 ls [.int (if ((gm_sB u 0 i (if (v_I_bitCount ch) < (2 : Int32) then false else true)).1 0 i) = true then ch else ((7 : Int32) &&& (ch ^^^ (-1 : Int32)))), .ref (a (9 + i))]) := by
      intro ls H locs hl hM
      refine gp_S_9 hF hM (by omega) d_S_voteOfThree_35 (fun H locs hM => ?_)
      have hq := hQ H locs 38 ls
      simp only [s_S_voteOfThree] at hq
      exact hq hM d_S_voteOfThree_38
    refine gm_ifz (b := ((gm_sB u 0 i (if (v_I_bitCount ch) < (2 : Int32) then false else true)).1 0 i)) (tgt := 29) hx hb d_S_voteOfThree_22 rfl (fun h3 => ?_) (fun h3 => ?_)
    · refine lv_bipush (v := 7) hx hb d_S_voteOfThree_29 (by decide) ?_
      refine lv_iload_n hx hb d_S_voteOfThree_31 rfl (lv_at hl 1 rfl) ?_
      refine lv_iconst (v := -1) hx hb d_S_voteOfThree_32 (by decide) ?_
      refine lv_ixor hx hb d_S_voteOfThree_33 ?_
      refine lv_iand hx hb d_S_voteOfThree_34 ?_
      have hJ := J4
      try simp only [if_neg (gm_nf h3)] at hJ
      exact hJ ls H locs hl hM
    · refine lv_iload_n hx hb d_S_voteOfThree_25 rfl (lv_at hl 1 rfl) ?_
      refine lv_goto (tgt := 35) hx hb d_S_voteOfThree_26 rfl ?_
      have hJ := J4
      try simp only [if_pos h3] at hJ
      exact hJ ls H locs hl hM
  refine lv_icmp_lt (tgt := 13) hx hb d_S_voteOfThree_6 rfl (fun h1 => ?_) (fun h1 => ?_)
  · refine lv_iconst (v := 0) hx hb d_S_voteOfThree_13 (by decide) ?_
    have hJ := J2
    try simp only [if_pos h1] at hJ
    exact hJ ls H locs hl hM
  · refine lv_iconst (v := 1) hx hb d_S_voteOfThree_9 (by decide) ?_
    refine lv_goto (tgt := 14) hx hb d_S_voteOfThree_10 rfl ?_
    have hJ := J2
    try simp only [if_neg h1] at hJ
    exact hJ ls H locs hl hM
theorem d_S_voteOfTwo_0 : decode b_S_voteOfTwo 0 = .ok (.iload_n 1, 1) := by decide +kernel
theorem d_S_voteOfTwo_1 : decode b_S_voteOfTwo 1 = .ok (.aload_n 0, 1) := by decide +kernel
theorem d_S_voteOfTwo_2 : decode b_S_voteOfTwo 2 = .ok (.getfield 9, 3) := by decide +kernel
theorem d_S_voteOfTwo_5 : decode b_S_voteOfTwo 5 = .ok (.if_icmp .ne 11, 3) := by decide +kernel
theorem d_S_voteOfTwo_8 : decode b_S_voteOfTwo 8 = .ok (.aload_n 0, 1) := by decide +kernel
theorem d_S_voteOfTwo_9 : decode b_S_voteOfTwo 9 = .ok (.iconst 1, 1) := by decide +kernel
theorem d_S_voteOfTwo_10 : decode b_S_voteOfTwo 10 = .ok (.putfield 15, 3) := by decide +kernel
theorem d_S_voteOfTwo_13 : decode b_S_voteOfTwo 13 = .ok (.goto 20, 3) := by decide +kernel
theorem d_S_voteOfTwo_16 : decode b_S_voteOfTwo 16 = .ok (.iload_n 1, 1) := by decide +kernel
theorem d_S_voteOfTwo_17 : decode b_S_voteOfTwo 17 = .ok (.ifCond .ne 11, 3) := by decide +kernel
theorem d_S_voteOfTwo_20 : decode b_S_voteOfTwo 20 = .ok (.aload_n 0, 1) := by decide +kernel
theorem d_S_voteOfTwo_21 : decode b_S_voteOfTwo 21 = .ok (.iconst 0, 1) := by decide +kernel
theorem d_S_voteOfTwo_22 : decode b_S_voteOfTwo 22 = .ok (.putfield 15, 3) := by decide +kernel
theorem d_S_voteOfTwo_25 : decode b_S_voteOfTwo 25 = .ok (.goto 8, 3) := by decide +kernel
theorem d_S_voteOfTwo_28 : decode b_S_voteOfTwo 28 = .ok (.aload_n 0, 1) := by decide +kernel
theorem d_S_voteOfTwo_29 : decode b_S_voteOfTwo 29 = .ok (.iconst 1, 1) := by decide +kernel
theorem d_S_voteOfTwo_30 : decode b_S_voteOfTwo 30 = .ok (.putfield 19, 3) := by decide +kernel
theorem d_S_voteOfTwo_33 : decode b_S_voteOfTwo 33 = .ok (.return_, 1) := by decide +kernel
def s_S_voteOfTwo (u : gm_St) (i : Nat) (ch : Int32) : gm_St := (if ch = (u.2.1 0 i) then (gm_sB u 0 i true) else (if ch = 0 then (gm_sB u 0 i false) else (gm_sB u 1 i true)))
set_option maxRecDepth 100000 in
set_option maxHeartbeats 4000000 in
theorem c_S_voteOfTwo {l : Launch} {D : va_G} {dk : Nat → ClassId} {a : Nat → Nat} {A : Nat → Prop} {lt : Nat} {u : gm_St} {i : Nat} {ch : Int32} (hi : i < 12) : gm_V l D (gm_ty dk) (gm_W dk a) A lt y_S_voteOfTwo b_S_voteOfTwo 2 rm_S_voteOfTwo [.ref (a (9 + i)), .int ch] u (s_S_voteOfTwo u i ch) := by
  refine gm_enterV (by decide) (Nat.le_of_ble_eq_true rfl) ?_
  intro p e s m args below meth c ls Q H locs hF hM hl hQ
  have hx := hF.1
  have hb := hF.2.1
  have hml := hF.2.2.1
  have hown := hF.2.2.2.1
  have hts := hF.2.2.2.2.1
  have hl : lv_has ls 2 [(0, .ref (a (9 + i))), (1, .int ch)] := hl
  refine lv_iload_n hx hb d_S_voteOfTwo_0 rfl (lv_at hl 1 rfl) ?_
  refine lv_aload_n hx hb d_S_voteOfTwo_1 rfl (lv_at hl 0 rfl) ?_
  refine gf_S_9 hF hM (by omega) d_S_voteOfTwo_2 ?_
  have J2 : ∀ (ls : Array Slot) (H : Heap) (locs : List Loc), lv_has ls 2 [(0, .ref (a (9 + i))), (1, .int ch)] → gm_M D A s (gm_W dk a) (if ch = (u.2.1 0 i) then (gm_sB u 0 i true) else (if ch = 0 then (gm_sB u 0 i false) else (gm_sB u 1 i true))) H locs → W p l e rm_S_voteOfTwo s m args below meth c H locs 0 0 Q (F0 m 33 ls []) := by
    intro ls H locs hl hM
    have hq := hQ H locs 33 ls
    simp only [s_S_voteOfTwo] at hq
    exact hq hM d_S_voteOfTwo_33
  refine lv_icmp_ne (tgt := 16) hx hb d_S_voteOfTwo_5 rfl (fun h1 => ?_) (fun h1 => ?_)
  · refine lv_iload_n hx hb d_S_voteOfTwo_16 rfl (lv_at hl 1 rfl) ?_
    refine lv_if_ne (tgt := 28) hx hb d_S_voteOfTwo_17 rfl (fun h3 => ?_) (fun h3 => ?_)
    · refine lv_aload_n hx hb d_S_voteOfTwo_28 rfl (lv_at hl 0 rfl) ?_
      refine lv_iconst (v := 1) hx hb d_S_voteOfTwo_29 (by decide) ?_
      refine gp_S_19 hF hM (by omega) (x := true) rfl d_S_voteOfTwo_30 (fun H locs hM => ?_)
      have hJ := J2
      try simp only [if_neg h1, if_neg h3] at hJ
      exact hJ ls H locs hl hM
    · refine lv_aload_n hx hb d_S_voteOfTwo_20 rfl (lv_at hl 0 rfl) ?_
      refine lv_iconst (v := 0) hx hb d_S_voteOfTwo_21 (by decide) ?_
      refine gp_S_15 hF hM (by omega) (x := false) rfl d_S_voteOfTwo_22 (fun H locs hM => ?_)
      refine lv_goto (tgt := 33) hx hb d_S_voteOfTwo_25 rfl ?_
      have hJ := J2
      try simp only [if_neg h1, if_pos h3] at hJ
      exact hJ ls H locs hl hM
  · refine lv_aload_n hx hb d_S_voteOfTwo_8 rfl (lv_at hl 0 rfl) ?_
    refine lv_iconst (v := 1) hx hb d_S_voteOfTwo_9 (by decide) ?_
    refine gp_S_15 hF hM (by omega) (x := true) rfl d_S_voteOfTwo_10 (fun H locs hM => ?_)
    refine lv_goto (tgt := 33) hx hb d_S_voteOfTwo_13 rfl ?_
    have hJ := J2
    try simp only [if_pos h1] at hJ
    exact hJ ls H locs hl hM
theorem d_S_vote_0 : decode b_S_vote 0 = .ok (.aload_n 0, 1) := by decide +kernel
theorem d_S_vote_1 : decode b_S_vote 1 = .ok (.getfield 19, 3) := by decide +kernel
theorem d_S_vote_4 : decode b_S_vote 4 = .ok (.ifCond .eq 5, 3) := by decide +kernel
theorem d_S_vote_7 : decode b_S_vote 7 = .ok (.iconst 0, 1) := by decide +kernel
theorem d_S_vote_8 : decode b_S_vote 8 = .ok (.ireturn, 1) := by decide +kernel
theorem d_S_vote_9 : decode b_S_vote 9 = .ok (.aload_n 0, 1) := by decide +kernel
theorem d_S_vote_10 : decode b_S_vote 10 = .ok (.getfield 9, 3) := by decide +kernel
theorem d_S_vote_13 : decode b_S_vote 13 = .ok (.bipush 7, 2) := by decide +kernel
theorem d_S_vote_15 : decode b_S_vote 15 = .ok (.if_icmp .ne 11, 3) := by decide +kernel
theorem d_S_vote_18 : decode b_S_vote 18 = .ok (.aload_n 0, 1) := by decide +kernel
theorem d_S_vote_19 : decode b_S_vote 19 = .ok (.iload_n 1, 1) := by decide +kernel
theorem d_S_vote_20 : decode b_S_vote 20 = .ok (.invokevirtual 22, 3) := by decide +kernel
theorem d_S_vote_23 : decode b_S_vote 23 = .ok (.goto 13, 3) := by decide +kernel
theorem d_S_vote_26 : decode b_S_vote 26 = .ok (.aload_n 0, 1) := by decide +kernel
theorem d_S_vote_27 : decode b_S_vote 27 = .ok (.iload_n 1, 1) := by decide +kernel
theorem d_S_vote_28 : decode b_S_vote 28 = .ok (.aload_n 0, 1) := by decide +kernel
theorem d_S_vote_29 : decode b_S_vote 29 = .ok (.getfield 9, 3) := by decide +kernel
theorem d_S_vote_32 : decode b_S_vote 32 = .ok (.iand, 1) := by decide +kernel
theorem d_S_vote_33 : decode b_S_vote 33 = .ok (.invokevirtual 26, 3) := by decide +kernel
theorem d_S_vote_36 : decode b_S_vote 36 = .ok (.aload_n 0, 1) := by decide +kernel
theorem d_S_vote_37 : decode b_S_vote 37 = .ok (.getfield 19, 3) := by decide +kernel
theorem d_S_vote_40 : decode b_S_vote 40 = .ok (.ireturn, 1) := by decide +kernel
def v_S_vote (u : gm_St) (i : Nat) (ch : Int32) : Bool := (if (u.1 1 i) = true then false else ((if (u.2.1 0 i) = (7 : Int32) then (s_S_voteOfThree u i ch) else (s_S_voteOfTwo u i (ch &&& (u.2.1 0 i)))).1 1 i))
def s_S_vote (u : gm_St) (i : Nat) (ch : Int32) : gm_St := (if (u.1 1 i) = true then u else (if (u.2.1 0 i) = (7 : Int32) then (s_S_voteOfThree u i ch) else (s_S_voteOfTwo u i (ch &&& (u.2.1 0 i)))))
set_option maxRecDepth 100000 in
set_option maxHeartbeats 4000000 in
theorem c_S_vote {l : Launch} {D : va_G} {dk : Nat → ClassId} {a : Nat → Nat} {A : Nat → Prop} {lt : Nat} {u : gm_St} {i : Nat} {ch : Int32} (hi : i < 12) : gm_I l D (gm_ty dk) (gm_W dk a) A lt y_S_vote b_S_vote 2 (some .boolean) rm_S_vote [.ref (a (9 + i)), .int ch] u (gm_b (v_S_vote u i ch)) (s_S_vote u i ch) := by
  refine gm_enterZ (by decide) (Nat.le_of_ble_eq_true rfl) ?_
  intro p e s m args below meth c ls Q H locs hF hM hl hQ
  have hx := hF.1
  have hb := hF.2.1
  have hml := hF.2.2.1
  have hown := hF.2.2.2.1
  have hts := hF.2.2.2.2.1
  have hl : lv_has ls 2 [(0, .ref (a (9 + i))), (1, .int ch)] := hl
  refine lv_aload_n hx hb d_S_vote_0 rfl (lv_at hl 0 rfl) ?_
  refine gf_S_19 hF hM (by omega) d_S_vote_1 ?_
  refine gm_ifz (b := (u.1 1 i)) (tgt := 9) hx hb d_S_vote_4 rfl (fun h1 => ?_) (fun h1 => ?_)
  · refine lv_aload_n hx hb d_S_vote_9 rfl (lv_at hl 0 rfl) ?_
    refine gf_S_9 hF hM (by omega) d_S_vote_10 ?_
    refine lv_bipush (v := 7) hx hb d_S_vote_13 (by decide) ?_
    have J3 : ∀ (ls : Array Slot) (H : Heap) (locs : List Loc), lv_has ls 2 [(0, .ref (a (9 + i))), (1, .int ch)] → gm_M D A s (gm_W dk a) (if (u.2.1 0 i) = (7 : Int32) then (s_S_voteOfThree u i ch) else (s_S_voteOfTwo u i (ch &&& (u.2.1 0 i)))) H locs → W p l e rm_S_vote s m args below meth c H locs 0 0 Q (F0 m 36 ls []) := by
      intro ls H locs hl hM
      refine lv_aload_n hx hb d_S_vote_36 rfl (lv_at hl 0 rfl) ?_
      refine gf_S_19 hF hM (by omega) d_S_vote_37 ?_
      have hq := hQ H locs 40 ls
      simp only [v_S_vote, s_S_vote, if_neg (gm_nf h1)] at hq
      exact hq hM d_S_vote_40
    refine lv_icmp_ne (tgt := 26) hx hb d_S_vote_15 rfl (fun h2 => ?_) (fun h2 => ?_)
    · refine lv_aload_n hx hb d_S_vote_26 rfl (lv_at hl 0 rfl) ?_
      refine lv_iload_n hx hb d_S_vote_27 rfl (lv_at hl 1 rfl) ?_
      refine lv_aload_n hx hb d_S_vote_28 rfl (lv_at hl 0 rfl) ?_
      refine gf_S_9 hF hM (by omega) d_S_vote_29 ?_
      refine lv_iand hx hb d_S_vote_32 ?_
      refine gm_Vv (As := [.int (ch &&& (u.2.1 0 i))]) (rest := []) hF hM (c_S_voteOfTwo (u := u) (i := i) (ch := (ch &&& (u.2.1 0 i))) (by omega)) (gk_S_26 hts ⟨by decide, by decide⟩) (gv_S hF hM (by omega) rfl) rfl hl.1 rfl (Nat.le_of_ble_eq_true rfl) ⟨Nat.zero_le _, Nat.zero_le _⟩ d_S_vote_33 (fun H locs hM => ?_)
      have hJ := J3
      try simp only [if_neg h2] at hJ
      exact hJ ls H locs hl hM
    · refine lv_aload_n hx hb d_S_vote_18 rfl (lv_at hl 0 rfl) ?_
      refine lv_iload_n hx hb d_S_vote_19 rfl (lv_at hl 1 rfl) ?_
      refine gm_Vv (As := [.int ch]) (rest := []) hF hM (c_S_voteOfThree (u := u) (i := i) (ch := ch) (by omega)) (gk_S_22 hts ⟨by decide, by decide⟩) (gv_S hF hM (by omega) rfl) rfl hl.1 rfl (Nat.le_of_ble_eq_true rfl) ⟨Nat.zero_le _, Nat.zero_le _⟩ d_S_vote_20 (fun H locs hM => ?_)
      refine lv_goto (tgt := 36) hx hb d_S_vote_23 rfl ?_
      have hJ := J3
      try simp only [if_pos h2] at hJ
      exact hJ ls H locs hl hM
  · refine lv_iconst (v := 0) hx hb d_S_vote_7 (by decide) ?_
    have hq := hQ H locs 8 ls
    simp only [v_S_vote, s_S_vote, if_pos h1] at hq
    exact hq hM d_S_vote_8
theorem d_S_summary_0 : decode b_S_summary 0 = .ok (.aload_n 0, 1) := by decide +kernel
theorem d_S_summary_1 : decode b_S_summary 1 = .ok (.getfield 15, 3) := by decide +kernel
theorem d_S_summary_4 : decode b_S_summary 4 = .ok (.ifCond .eq 7, 3) := by decide +kernel
theorem d_S_summary_7 : decode b_S_summary 7 = .ok (.iconst 1, 1) := by decide +kernel
theorem d_S_summary_8 : decode b_S_summary 8 = .ok (.goto 4, 3) := by decide +kernel
theorem d_S_summary_11 : decode b_S_summary 11 = .ok (.iconst 0, 1) := by decide +kernel
theorem d_S_summary_12 : decode b_S_summary 12 = .ok (.aload_n 0, 1) := by decide +kernel
theorem d_S_summary_13 : decode b_S_summary 13 = .ok (.getfield 19, 3) := by decide +kernel
theorem d_S_summary_16 : decode b_S_summary 16 = .ok (.ifCond .eq 7, 3) := by decide +kernel
theorem d_S_summary_19 : decode b_S_summary 19 = .ok (.iconst 2, 1) := by decide +kernel
theorem d_S_summary_20 : decode b_S_summary 20 = .ok (.goto 4, 3) := by decide +kernel
theorem d_S_summary_23 : decode b_S_summary 23 = .ok (.iconst 0, 1) := by decide +kernel
theorem d_S_summary_24 : decode b_S_summary 24 = .ok (.iadd, 1) := by decide +kernel
theorem d_S_summary_25 : decode b_S_summary 25 = .ok (.iconst 4, 1) := by decide +kernel
theorem d_S_summary_26 : decode b_S_summary 26 = .ok (.aload_n 0, 1) := by decide +kernel
theorem d_S_summary_27 : decode b_S_summary 27 = .ok (.getfield 9, 3) := by decide +kernel
theorem d_S_summary_30 : decode b_S_summary 30 = .ok (.imul, 1) := by decide +kernel
theorem d_S_summary_31 : decode b_S_summary 31 = .ok (.iadd, 1) := by decide +kernel
theorem d_S_summary_32 : decode b_S_summary 32 = .ok (.ireturn, 1) := by decide +kernel
def v_S_summary (u : gm_St) (i : Nat) : Int32 := (((gm_b (if (u.1 0 i) = true then true else false)) + (if (u.1 1 i) = true then (2 : Int32) else (0 : Int32))) + ((4 : Int32) * (u.2.1 0 i)))
set_option maxRecDepth 100000 in
set_option maxHeartbeats 4000000 in
theorem c_S_summary {l : Launch} {D : va_G} {dk : Nat → ClassId} {a : Nat → Nat} {A : Nat → Prop} {lt : Nat} {u : gm_St} {i : Nat} (hi : i < 12) : gm_I l D (gm_ty dk) (gm_W dk a) A lt y_S_summary b_S_summary 1 (some .int) rm_S_summary [.ref (a (9 + i))] u (v_S_summary u i) u := by
  refine gm_enterI (by decide) (Nat.le_of_ble_eq_true rfl) ?_
  intro p e s m args below meth c ls Q H locs hF hM hl hQ
  have hx := hF.1
  have hb := hF.2.1
  have hml := hF.2.2.1
  have hown := hF.2.2.2.1
  have hts := hF.2.2.2.2.1
  have hl : lv_has ls 1 [(0, .ref (a (9 + i)))] := hl
  refine lv_aload_n hx hb d_S_summary_0 rfl (lv_at hl 0 rfl) ?_
  refine gf_S_15 hF hM (by omega) d_S_summary_1 ?_
  have J2 : ∀ (ls : Array Slot) (H : Heap) (locs : List Loc), lv_has ls 1 [(0, .ref (a (9 + i)))] → gm_M D A s (gm_W dk a) u H locs → W p l e rm_S_summary s m args below meth c H locs 0 0 Q (F0 m 12 ls [.int (gm_b (if (u.1 0 i) = true then true else false))]) := by
    intro ls H locs hl hM
    refine lv_aload_n hx hb d_S_summary_12 rfl (lv_at hl 0 rfl) ?_
    refine gf_S_19 hF hM (by omega) d_S_summary_13 ?_
    have J4 : ∀ (ls : Array Slot) (H : Heap) (locs : List Loc), lv_has ls 1 [(0, .ref (a (9 + i)))] → gm_M D A s (gm_W dk a) u H locs → W p l e rm_S_summary s m args below meth c H locs 0 0 Q (F0 m 24 ls [.int (if (u.1 1 i) = true then (2 : Int32) else (0 : Int32)), .int (gm_b (if (u.1 0 i) = true then true else false))]) := by
      intro ls H locs hl hM
      refine lv_iadd hx hb d_S_summary_24 ?_
      refine lv_iconst (v := 4) hx hb d_S_summary_25 (by decide) ?_
      refine lv_aload_n hx hb d_S_summary_26 rfl (lv_at hl 0 rfl) ?_
      refine gf_S_9 hF hM (by omega) d_S_summary_27 ?_
      refine lv_imul hx hb d_S_summary_30 ?_
      refine lv_iadd hx hb d_S_summary_31 ?_
      have hq := hQ H locs 32 ls
      simp only [v_S_summary] at hq
      exact hq hM d_S_summary_32
    refine gm_ifz (b := (u.1 1 i)) (tgt := 23) hx hb d_S_summary_16 rfl (fun h3 => ?_) (fun h3 => ?_)
    · refine lv_iconst (v := 0) hx hb d_S_summary_23 (by decide) ?_
      have hJ := J4
      try simp only [if_neg (gm_nf h3)] at hJ
      exact hJ ls H locs hl hM
    · refine lv_iconst (v := 2) hx hb d_S_summary_19 (by decide) ?_
      refine lv_goto (tgt := 24) hx hb d_S_summary_20 rfl ?_
      have hJ := J4
      try simp only [if_pos h3] at hJ
      exact hJ ls H locs hl hM
  refine gm_ifz (b := (u.1 0 i)) (tgt := 11) hx hb d_S_summary_4 rfl (fun h1 => ?_) (fun h1 => ?_)
  · refine lv_iconst (v := 0) hx hb d_S_summary_11 (by decide) ?_
    have hJ := J2
    try simp only [if_neg (gm_nf h1)] at hJ
    exact hJ ls H locs hl hM
  · refine lv_iconst (v := 1) hx hb d_S_summary_7 (by decide) ?_
    refine lv_goto (tgt := 12) hx hb d_S_summary_8 rfl ?_
    have hJ := J2
    try simp only [if_pos h1] at hJ
    exact hJ ls H locs hl hM
