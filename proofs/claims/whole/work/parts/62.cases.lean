section LWC
variable {p : Program} {l : Launch} {e : Env} {s : State} {m : MethodId} {args : Array Value} {below : List Frame} {meth : Method} {c : Code} {H : Heap} {locs : List Loc} {Q : State → Prop} {cells slots i : Nat} {ls : Array Slot}
variable {D : va_G} {dk : Nat → ClassId} {a b : Nat → Nat} {lt bb L : Nat} {xs : Nat → Int32} {u v : gm_St}
set_option maxRecDepth 100000 in
set_option maxHeartbeats 4000000 in
theorem lw_case_0 (hF : gl_F p s m args meth c D dk a b lt bb L xs) (hl : lv_has ls 4 [(3, .int (nI i)), (2, .ref (b 0)), (1, .ref (a 0)), (0, .ref bb)]) (hi : i + 3 ≤ L) (hL : L ≤ 1536) (hR : gl_R u v) (hn : 3 * v.2.2.1 0 ≤ 3200 * i) (hN : gl_N s D dk a b u v H locs) (hf : cells ≤ room_1.cells ∧ slots ≤ room_1.slots)
    (kk : ∀ (H : Heap) (locs : List Loc) (u' v' : gm_St), gl_R u' v' → 3 * v'.2.2.1 0 ≤ 3200 * (i + 3) → gl_N s D dk a b u' v' H locs → W p l e room_1 s m args below meth c H locs cells slots Q (F0 m 463 ls [])) : W p l e room_1 s m args below meth c H locs cells slots Q (F0 m 104 ls []) := by
  have hx := hF.1
  have hb := hF.2.1
  have hts := hF.2.2.2.2.1
  by_cases h0 : xs (i + 1) = 0
  · refine lv_aload_n hx hb d_L_law_104 rfl (lv_at hl 2 rfl) ?_
    refine lv_aload_n hx hb d_L_law_105 rfl (lv_at hl 3 rfl) ?_
    refine lv_iload_n hx hb d_L_law_106 rfl (lv_at hl 0 rfl) ?_
    refine lv_iconst (v := 1) hx hb d_L_law_107 (by decide) ?_
    refine lv_iadd hx hb d_L_law_108 ?_
    refine gl_sld (k := i + 1) hF hN (nI_add i 1) (by omega) (by omega) d_L_law_109 ?_
    refine lv_if_eq (tgt := 117) hx hb d_L_law_110 rfl (fun _ => ?_) (fun h => absurd h0 h)
    refine lv_iconst (v := 0) hx hb d_L_law_117 (by decide) ?_
    refine gl_Gi (As := [.int (gm_b false)]) (rest := []) hF hN (c_G_handle (u := u) (dw := false) ) (gk_L_13 hts ⟨by decide, by decide⟩) rfl hl.1 rfl (Nat.le_of_ble_eq_true rfl) hf d_L_law_118 (fun H locs hN => ?_)
    refine lv_aload_n hx hb d_L_law_121 rfl (lv_at hl 1 rfl) ?_
    refine lv_aload_n hx hb d_L_law_122 rfl (lv_at hl 3 rfl) ?_
    refine lv_iload_n hx hb d_L_law_123 rfl (lv_at hl 0 rfl) ?_
    refine lv_iconst (v := 1) hx hb d_L_law_124 (by decide) ?_
    refine lv_iadd hx hb d_L_law_125 ?_
    refine gl_sld (k := i + 1) hF hN (nI_add i 1) (by omega) (by omega) d_L_law_126 ?_
    refine lv_if_eq (tgt := 134) hx hb d_L_law_127 rfl (fun _ => ?_) (fun h => absurd h0 h)
    refine lv_iconst (v := 0) hx hb d_L_law_134 (by decide) ?_
    refine gl_Ri (As := [.int (gm_b false)]) (rest := [.int (gm_b (v_G_handle u false))]) hF hN (c_R_handle (u := v) (dw := false) ) (gk_L_17 hts ⟨by decide, by decide⟩) rfl hl.1 rfl (Nat.le_of_ble_eq_true rfl) hf d_L_law_135 (fun H locs hN => ?_)
    refine lv_icmp_eq (tgt := 463) hx hb d_L_law_138 rfl (fun _ => ?_) (fun h => absurd (congrArg gm_b (op_handle false hR).1) h)
    exact kk H locs _ _ (op_handle false hR).2.1 (by rw [(op_handle false hR).2.2]; omega) hN
  · refine lv_aload_n hx hb d_L_law_104 rfl (lv_at hl 2 rfl) ?_
    refine lv_aload_n hx hb d_L_law_105 rfl (lv_at hl 3 rfl) ?_
    refine lv_iload_n hx hb d_L_law_106 rfl (lv_at hl 0 rfl) ?_
    refine lv_iconst (v := 1) hx hb d_L_law_107 (by decide) ?_
    refine lv_iadd hx hb d_L_law_108 ?_
    refine gl_sld (k := i + 1) hF hN (nI_add i 1) (by omega) (by omega) d_L_law_109 ?_
    refine lv_if_eq (tgt := 117) hx hb d_L_law_110 rfl (fun h => absurd h h0) (fun _ => ?_)
    refine lv_iconst (v := 1) hx hb d_L_law_113 (by decide) ?_
    refine lv_goto (tgt := 118) hx hb d_L_law_114 rfl ?_
    refine gl_Gi (As := [.int (gm_b true)]) (rest := []) hF hN (c_G_handle (u := u) (dw := true) ) (gk_L_13 hts ⟨by decide, by decide⟩) rfl hl.1 rfl (Nat.le_of_ble_eq_true rfl) hf d_L_law_118 (fun H locs hN => ?_)
    refine lv_aload_n hx hb d_L_law_121 rfl (lv_at hl 1 rfl) ?_
    refine lv_aload_n hx hb d_L_law_122 rfl (lv_at hl 3 rfl) ?_
    refine lv_iload_n hx hb d_L_law_123 rfl (lv_at hl 0 rfl) ?_
    refine lv_iconst (v := 1) hx hb d_L_law_124 (by decide) ?_
    refine lv_iadd hx hb d_L_law_125 ?_
    refine gl_sld (k := i + 1) hF hN (nI_add i 1) (by omega) (by omega) d_L_law_126 ?_
    refine lv_if_eq (tgt := 134) hx hb d_L_law_127 rfl (fun h => absurd h h0) (fun _ => ?_)
    refine lv_iconst (v := 1) hx hb d_L_law_130 (by decide) ?_
    refine lv_goto (tgt := 135) hx hb d_L_law_131 rfl ?_
    refine gl_Ri (As := [.int (gm_b true)]) (rest := [.int (gm_b (v_G_handle u true))]) hF hN (c_R_handle (u := v) (dw := true) ) (gk_L_17 hts ⟨by decide, by decide⟩) rfl hl.1 rfl (Nat.le_of_ble_eq_true rfl) hf d_L_law_135 (fun H locs hN => ?_)
    refine lv_icmp_eq (tgt := 463) hx hb d_L_law_138 rfl (fun _ => ?_) (fun h => absurd (congrArg gm_b (op_handle true hR).1) h)
    exact kk H locs _ _ (op_handle true hR).2.1 (by rw [(op_handle true hR).2.2]; omega) hN
set_option maxRecDepth 100000 in
set_option maxHeartbeats 4000000 in
theorem lw_case_1 (hF : gl_F p s m args meth c D dk a b lt bb L xs) (hl : lv_has ls 4 [(3, .int (nI i)), (2, .ref (b 0)), (1, .ref (a 0)), (0, .ref bb)]) (hi : i + 3 ≤ L) (hL : L ≤ 1536) (hR : gl_R u v) (hn : 3 * v.2.2.1 0 ≤ 3200 * i) (hN : gl_N s D dk a b u v H locs) (hf : cells ≤ room_1.cells ∧ slots ≤ room_1.slots)
    (kk : ∀ (H : Heap) (locs : List Loc) (u' v' : gm_St), gl_R u' v' → 3 * v'.2.2.1 0 ≤ 3200 * (i + 3) → gl_N s D dk a b u' v' H locs → W p l e room_1 s m args below meth c H locs cells slots Q (F0 m 463 ls [])) : W p l e room_1 s m args below meth c H locs cells slots Q (F0 m 143 ls []) := by
  have hx := hF.1
  have hb := hF.2.1
  have hts := hF.2.2.2.2.1
  refine lv_aload_n hx hb d_L_law_143 rfl (lv_at hl 2 rfl) ?_
  refine lv_aload_n hx hb d_L_law_144 rfl (lv_at hl 3 rfl) ?_
  refine lv_iload_n hx hb d_L_law_145 rfl (lv_at hl 0 rfl) ?_
  refine lv_iconst (v := 1) hx hb d_L_law_146 (by decide) ?_
  refine lv_iadd hx hb d_L_law_147 ?_
  refine gl_sld (k := i + 1) hF hN (nI_add i 1) (by omega) (by omega) d_L_law_148 ?_
  refine lv_aload_n hx hb d_L_law_149 rfl (lv_at hl 3 rfl) ?_
  refine lv_iload_n hx hb d_L_law_150 rfl (lv_at hl 0 rfl) ?_
  refine lv_iconst (v := 2) hx hb d_L_law_151 (by decide) ?_
  refine lv_iadd hx hb d_L_law_152 ?_
  refine gl_sld (k := i + 2) hF hN (nI_add i 2) (by omega) (by omega) d_L_law_153 ?_
  refine gl_Gi (As := [.int (xs (i + 1)), .int (xs (i + 2))]) (rest := []) hF hN (c_G_tick (u := u) (ch := (xs (i + 1))) (xn := (xs (i + 2))) (ok_of hR)) (gk_L_18 hts ⟨by decide, by decide⟩) rfl hl.1 rfl (Nat.le_of_ble_eq_true rfl) hf d_L_law_154 (fun H locs hN => ?_)
  refine lv_aload_n hx hb d_L_law_157 rfl (lv_at hl 1 rfl) ?_
  refine lv_aload_n hx hb d_L_law_158 rfl (lv_at hl 3 rfl) ?_
  refine lv_iload_n hx hb d_L_law_159 rfl (lv_at hl 0 rfl) ?_
  refine lv_iconst (v := 1) hx hb d_L_law_160 (by decide) ?_
  refine lv_iadd hx hb d_L_law_161 ?_
  refine gl_sld (k := i + 1) hF hN (nI_add i 1) (by omega) (by omega) d_L_law_162 ?_
  refine lv_aload_n hx hb d_L_law_163 rfl (lv_at hl 3 rfl) ?_
  refine lv_iload_n hx hb d_L_law_164 rfl (lv_at hl 0 rfl) ?_
  refine lv_iconst (v := 2) hx hb d_L_law_165 (by decide) ?_
  refine lv_iadd hx hb d_L_law_166 ?_
  refine gl_sld (k := i + 2) hF hN (nI_add i 2) (by omega) (by omega) d_L_law_167 ?_
  refine gl_Ri (As := [.int (xs (i + 1)), .int (xs (i + 2))]) (rest := [.int (v_G_tick u (xs (i + 1)) (xs (i + 2)))]) hF hN (c_R_tick (u := v) (ch := (xs (i + 1))) (xn := (xs (i + 2))) (by omega)) (gk_L_22 hts ⟨by decide, by decide⟩) rfl hl.1 rfl (Nat.le_of_ble_eq_true rfl) hf d_L_law_168 (fun H locs hN => ?_)
  refine lv_icmp_eq (tgt := 463) hx hb d_L_law_171 rfl (fun _ => ?_) (fun h => absurd (op_tick (xs (i + 1)) (xs (i + 2)) hR).1 h)
  exact kk H locs _ _ (op_tick (xs (i + 1)) (xs (i + 2)) hR).2 (by have hq := op_tick_N (r := v) (xs (i + 1)) (xs (i + 2)); omega) hN
set_option maxRecDepth 100000 in
set_option maxHeartbeats 4000000 in
theorem lw_case_2 (hF : gl_F p s m args meth c D dk a b lt bb L xs) (hl : lv_has ls 4 [(3, .int (nI i)), (2, .ref (b 0)), (1, .ref (a 0)), (0, .ref bb)]) (hi : i + 3 ≤ L) (hL : L ≤ 1536) (hR : gl_R u v) (hn : 3 * v.2.2.1 0 ≤ 3200 * i) (hN : gl_N s D dk a b u v H locs) (hf : cells ≤ room_1.cells ∧ slots ≤ room_1.slots)
    (kk : ∀ (H : Heap) (locs : List Loc) (u' v' : gm_St), gl_R u' v' → 3 * v'.2.2.1 0 ≤ 3200 * (i + 3) → gl_N s D dk a b u' v' H locs → W p l e room_1 s m args below meth c H locs cells slots Q (F0 m 463 ls [])) : W p l e room_1 s m args below meth c H locs cells slots Q (F0 m 176 ls []) := by
  have hx := hF.1
  have hb := hF.2.1
  have hts := hF.2.2.2.2.1
  refine lv_aload_n hx hb d_L_law_176 rfl (lv_at hl 2 rfl) ?_
  refine lv_aload_n hx hb d_L_law_177 rfl (lv_at hl 3 rfl) ?_
  refine lv_iload_n hx hb d_L_law_178 rfl (lv_at hl 0 rfl) ?_
  refine lv_iconst (v := 1) hx hb d_L_law_179 (by decide) ?_
  refine lv_iadd hx hb d_L_law_180 ?_
  refine gl_sld (k := i + 1) hF hN (nI_add i 1) (by omega) (by omega) d_L_law_181 ?_
  refine gl_Gi (As := [.int (xs (i + 1))]) (rest := []) hF hN (c_G_fail (u := u) (x := (xs (i + 1))) ) (gk_L_23 hts ⟨by decide, by decide⟩) rfl hl.1 rfl (Nat.le_of_ble_eq_true rfl) hf d_L_law_182 (fun H locs hN => ?_)
  refine lv_aload_n hx hb d_L_law_185 rfl (lv_at hl 1 rfl) ?_
  refine lv_aload_n hx hb d_L_law_186 rfl (lv_at hl 3 rfl) ?_
  refine lv_iload_n hx hb d_L_law_187 rfl (lv_at hl 0 rfl) ?_
  refine lv_iconst (v := 1) hx hb d_L_law_188 (by decide) ?_
  refine lv_iadd hx hb d_L_law_189 ?_
  refine gl_sld (k := i + 1) hF hN (nI_add i 1) (by omega) (by omega) d_L_law_190 ?_
  refine gl_Ri (As := [.int (xs (i + 1))]) (rest := [.int (gm_b (v_G_fail u (xs (i + 1))))]) hF hN (c_R_fail (u := v) (x := (xs (i + 1))) ) (gk_L_27 hts ⟨by decide, by decide⟩) rfl hl.1 rfl (Nat.le_of_ble_eq_true rfl) hf d_L_law_191 (fun H locs hN => ?_)
  refine lv_icmp_eq (tgt := 463) hx hb d_L_law_194 rfl (fun _ => ?_) (fun h => absurd (congrArg gm_b (opx_fail (xs (i + 1)) hR).1) h)
  exact kk H locs _ _ (opx_fail (xs (i + 1)) hR).2.1 (by rw [(opx_fail (xs (i + 1)) hR).2.2]; omega) hN
set_option maxRecDepth 100000 in
set_option maxHeartbeats 4000000 in
theorem lw_case_3 (hF : gl_F p s m args meth c D dk a b lt bb L xs) (hl : lv_has ls 4 [(3, .int (nI i)), (2, .ref (b 0)), (1, .ref (a 0)), (0, .ref bb)]) (hi : i + 3 ≤ L) (hL : L ≤ 1536) (hR : gl_R u v) (hn : 3 * v.2.2.1 0 ≤ 3200 * i) (hN : gl_N s D dk a b u v H locs) (hf : cells ≤ room_1.cells ∧ slots ≤ room_1.slots)
    (kk : ∀ (H : Heap) (locs : List Loc) (u' v' : gm_St), gl_R u' v' → 3 * v'.2.2.1 0 ≤ 3200 * (i + 3) → gl_N s D dk a b u' v' H locs → W p l e room_1 s m args below meth c H locs cells slots Q (F0 m 463 ls [])) : W p l e room_1 s m args below meth c H locs cells slots Q (F0 m 199 ls []) := by
  have hx := hF.1
  have hb := hF.2.1
  have hts := hF.2.2.2.2.1
  refine lv_aload_n hx hb d_L_law_199 rfl (lv_at hl 2 rfl) ?_
  refine lv_aload_n hx hb d_L_law_200 rfl (lv_at hl 3 rfl) ?_
  refine lv_iload_n hx hb d_L_law_201 rfl (lv_at hl 0 rfl) ?_
  refine lv_iconst (v := 1) hx hb d_L_law_202 (by decide) ?_
  refine lv_iadd hx hb d_L_law_203 ?_
  refine gl_sld (k := i + 1) hF hN (nI_add i 1) (by omega) (by omega) d_L_law_204 ?_
  refine gl_Gi (As := [.int (xs (i + 1))]) (rest := []) hF hN (c_G_replace (u := u) (x := (xs (i + 1))) ) (gk_L_28 hts ⟨by decide, by decide⟩) rfl hl.1 rfl (Nat.le_of_ble_eq_true rfl) hf d_L_law_205 (fun H locs hN => ?_)
  refine lv_aload_n hx hb d_L_law_208 rfl (lv_at hl 1 rfl) ?_
  refine lv_aload_n hx hb d_L_law_209 rfl (lv_at hl 3 rfl) ?_
  refine lv_iload_n hx hb d_L_law_210 rfl (lv_at hl 0 rfl) ?_
  refine lv_iconst (v := 1) hx hb d_L_law_211 (by decide) ?_
  refine lv_iadd hx hb d_L_law_212 ?_
  refine gl_sld (k := i + 1) hF hN (nI_add i 1) (by omega) (by omega) d_L_law_213 ?_
  refine gl_Ri (As := [.int (xs (i + 1))]) (rest := [.int (gm_b (v_G_replace u (xs (i + 1))))]) hF hN (c_R_replace (u := v) (x := (xs (i + 1))) ) (gk_L_31 hts ⟨by decide, by decide⟩) rfl hl.1 rfl (Nat.le_of_ble_eq_true rfl) hf d_L_law_214 (fun H locs hN => ?_)
  refine lv_icmp_eq (tgt := 463) hx hb d_L_law_217 rfl (fun _ => ?_) (fun h => absurd (congrArg gm_b (opx_replace (xs (i + 1)) hR).1) h)
  exact kk H locs _ _ (opx_replace (xs (i + 1)) hR).2.1 (by rw [(opx_replace (xs (i + 1)) hR).2.2]; omega) hN
set_option maxRecDepth 100000 in
set_option maxHeartbeats 4000000 in
theorem lw_case_4 (hF : gl_F p s m args meth c D dk a b lt bb L xs) (hl : lv_has ls 4 [(3, .int (nI i)), (2, .ref (b 0)), (1, .ref (a 0)), (0, .ref bb)]) (hi : i + 3 ≤ L) (hL : L ≤ 1536) (hR : gl_R u v) (hn : 3 * v.2.2.1 0 ≤ 3200 * i) (hN : gl_N s D dk a b u v H locs) (hf : cells ≤ room_1.cells ∧ slots ≤ room_1.slots)
    (kk : ∀ (H : Heap) (locs : List Loc) (u' v' : gm_St), gl_R u' v' → 3 * v'.2.2.1 0 ≤ 3200 * (i + 3) → gl_N s D dk a b u' v' H locs → W p l e room_1 s m args below meth c H locs cells slots Q (F0 m 463 ls [])) : W p l e room_1 s m args below meth c H locs cells slots Q (F0 m 222 ls []) := by
  have hx := hF.1
  have hb := hF.2.1
  have hts := hF.2.2.2.2.1
  refine lv_aload_n hx hb d_L_law_222 rfl (lv_at hl 2 rfl) ?_
  refine lv_aload_n hx hb d_L_law_223 rfl (lv_at hl 3 rfl) ?_
  refine lv_iload_n hx hb d_L_law_224 rfl (lv_at hl 0 rfl) ?_
  refine lv_iconst (v := 1) hx hb d_L_law_225 (by decide) ?_
  refine lv_iadd hx hb d_L_law_226 ?_
  refine gl_sld (k := i + 1) hF hN (nI_add i 1) (by omega) (by omega) d_L_law_227 ?_
  refine gl_Gi (As := [.int (xs (i + 1))]) (rest := []) hF hN (c_G_works (u := u) (x := (xs (i + 1))) ) (gk_L_32 hts ⟨by decide, by decide⟩) rfl hl.1 rfl (Nat.le_of_ble_eq_true rfl) hf d_L_law_228 (fun H locs hN => ?_)
  refine lv_aload_n hx hb d_L_law_231 rfl (lv_at hl 1 rfl) ?_
  refine lv_aload_n hx hb d_L_law_232 rfl (lv_at hl 3 rfl) ?_
  refine lv_iload_n hx hb d_L_law_233 rfl (lv_at hl 0 rfl) ?_
  refine lv_iconst (v := 1) hx hb d_L_law_234 (by decide) ?_
  refine lv_iadd hx hb d_L_law_235 ?_
  refine gl_sld (k := i + 1) hF hN (nI_add i 1) (by omega) (by omega) d_L_law_236 ?_
  refine gl_Ri (As := [.int (xs (i + 1))]) (rest := [.int (gm_b (v_G_works u (xs (i + 1))))]) hF hN (c_R_works (u := v) (x := (xs (i + 1))) ) (gk_L_35 hts ⟨by decide, by decide⟩) rfl hl.1 rfl (Nat.le_of_ble_eq_true rfl) hf d_L_law_237 (fun H locs hN => ?_)
  refine lv_icmp_eq (tgt := 463) hx hb d_L_law_240 rfl (fun _ => ?_) (fun h => absurd (congrArg gm_b (op_works (xs (i + 1)) hR)) h)
  exact kk H locs u v hR (by omega) hN
set_option maxRecDepth 100000 in
set_option maxHeartbeats 4000000 in
theorem lw_case_5 (hF : gl_F p s m args meth c D dk a b lt bb L xs) (hl : lv_has ls 4 [(3, .int (nI i)), (2, .ref (b 0)), (1, .ref (a 0)), (0, .ref bb)]) (hi : i + 3 ≤ L) (hL : L ≤ 1536) (hR : gl_R u v) (hn : 3 * v.2.2.1 0 ≤ 3200 * i) (hN : gl_N s D dk a b u v H locs) (hf : cells ≤ room_1.cells ∧ slots ≤ room_1.slots)
    (kk : ∀ (H : Heap) (locs : List Loc) (u' v' : gm_St), gl_R u' v' → 3 * v'.2.2.1 0 ≤ 3200 * (i + 3) → gl_N s D dk a b u' v' H locs → W p l e room_1 s m args below meth c H locs cells slots Q (F0 m 463 ls [])) : W p l e room_1 s m args below meth c H locs cells slots Q (F0 m 245 ls []) := by
  have hx := hF.1
  have hb := hF.2.1
  have hts := hF.2.2.2.2.1
  refine lv_aload_n hx hb d_L_law_245 rfl (lv_at hl 2 rfl) ?_
  refine gl_Gi (As := []) (rest := []) hF hN (c_G_time (u := u)  ) (gk_L_36 hts ⟨by decide, by decide⟩) rfl hl.1 rfl (Nat.le_of_ble_eq_true rfl) hf d_L_law_246 (fun H locs hN => ?_)
  refine lv_aload_n hx hb d_L_law_249 rfl (lv_at hl 1 rfl) ?_
  refine gl_Ri (As := []) (rest := [.int (v_G_time u )]) hF hN (c_R_time (u := v)  ) (gk_L_40 hts ⟨by decide, by decide⟩) rfl hl.1 rfl (Nat.le_of_ble_eq_true rfl) hf d_L_law_250 (fun H locs hN => ?_)
  refine lv_icmp_eq (tgt := 463) hx hb d_L_law_253 rfl (fun _ => ?_) (fun h => absurd (op_time hR) h)
  exact kk H locs u v hR (by omega) hN
set_option maxRecDepth 100000 in
set_option maxHeartbeats 4000000 in
theorem lw_case_6 (hF : gl_F p s m args meth c D dk a b lt bb L xs) (hl : lv_has ls 4 [(3, .int (nI i)), (2, .ref (b 0)), (1, .ref (a 0)), (0, .ref bb)]) (hi : i + 3 ≤ L) (hL : L ≤ 1536) (hR : gl_R u v) (hn : 3 * v.2.2.1 0 ≤ 3200 * i) (hN : gl_N s D dk a b u v H locs) (hf : cells ≤ room_1.cells ∧ slots ≤ room_1.slots)
    (kk : ∀ (H : Heap) (locs : List Loc) (u' v' : gm_St), gl_R u' v' → 3 * v'.2.2.1 0 ≤ 3200 * (i + 3) → gl_N s D dk a b u' v' H locs → W p l e room_1 s m args below meth c H locs cells slots Q (F0 m 463 ls [])) : W p l e room_1 s m args below meth c H locs cells slots Q (F0 m 258 ls []) := by
  have hx := hF.1
  have hb := hF.2.1
  have hts := hF.2.2.2.2.1
  refine lv_aload_n hx hb d_L_law_258 rfl (lv_at hl 2 rfl) ?_
  refine lv_aload_n hx hb d_L_law_259 rfl (lv_at hl 3 rfl) ?_
  refine lv_iload_n hx hb d_L_law_260 rfl (lv_at hl 0 rfl) ?_
  refine lv_iconst (v := 1) hx hb d_L_law_261 (by decide) ?_
  refine lv_iadd hx hb d_L_law_262 ?_
  refine gl_sld (k := i + 1) hF hN (nI_add i 1) (by omega) (by omega) d_L_law_263 ?_
  refine gl_Gi (As := [.int (xs (i + 1))]) (rest := []) hF hN (c_G_valves (u := u) (x := (xs (i + 1))) ) (gk_L_41 hts ⟨by decide, by decide⟩) rfl hl.1 rfl (Nat.le_of_ble_eq_true rfl) hf d_L_law_264 (fun H locs hN => ?_)
  refine lv_aload_n hx hb d_L_law_267 rfl (lv_at hl 1 rfl) ?_
  refine lv_aload_n hx hb d_L_law_268 rfl (lv_at hl 3 rfl) ?_
  refine lv_iload_n hx hb d_L_law_269 rfl (lv_at hl 0 rfl) ?_
  refine lv_iconst (v := 1) hx hb d_L_law_270 (by decide) ?_
  refine lv_iadd hx hb d_L_law_271 ?_
  refine gl_sld (k := i + 1) hF hN (nI_add i 1) (by omega) (by omega) d_L_law_272 ?_
  refine gl_Ri (As := [.int (xs (i + 1))]) (rest := [.int (v_G_valves u (xs (i + 1)))]) hF hN (c_R_valves (u := v) (x := (xs (i + 1))) ) (gk_L_45 hts ⟨by decide, by decide⟩) rfl hl.1 rfl (Nat.le_of_ble_eq_true rfl) hf d_L_law_273 (fun H locs hN => ?_)
  refine lv_icmp_eq (tgt := 463) hx hb d_L_law_276 rfl (fun _ => ?_) (fun h => absurd (op_valves (xs (i + 1)) hR) h)
  exact kk H locs u v hR (by omega) hN
set_option maxRecDepth 100000 in
set_option maxHeartbeats 4000000 in
theorem lw_case_7 (hF : gl_F p s m args meth c D dk a b lt bb L xs) (hl : lv_has ls 4 [(3, .int (nI i)), (2, .ref (b 0)), (1, .ref (a 0)), (0, .ref bb)]) (hi : i + 3 ≤ L) (hL : L ≤ 1536) (hR : gl_R u v) (hn : 3 * v.2.2.1 0 ≤ 3200 * i) (hN : gl_N s D dk a b u v H locs) (hf : cells ≤ room_1.cells ∧ slots ≤ room_1.slots)
    (kk : ∀ (H : Heap) (locs : List Loc) (u' v' : gm_St), gl_R u' v' → 3 * v'.2.2.1 0 ≤ 3200 * (i + 3) → gl_N s D dk a b u' v' H locs → W p l e room_1 s m args below meth c H locs cells slots Q (F0 m 463 ls [])) : W p l e room_1 s m args below meth c H locs cells slots Q (F0 m 281 ls []) := by
  have hx := hF.1
  have hb := hF.2.1
  have hts := hF.2.2.2.2.1
  refine lv_aload_n hx hb d_L_law_281 rfl (lv_at hl 2 rfl) ?_
  refine lv_aload_n hx hb d_L_law_282 rfl (lv_at hl 3 rfl) ?_
  refine lv_iload_n hx hb d_L_law_283 rfl (lv_at hl 0 rfl) ?_
  refine lv_iconst (v := 1) hx hb d_L_law_284 (by decide) ?_
  refine lv_iadd hx hb d_L_law_285 ?_
  refine gl_sld (k := i + 1) hF hN (nI_add i 1) (by omega) (by omega) d_L_law_286 ?_
  refine lv_aload_n hx hb d_L_law_287 rfl (lv_at hl 3 rfl) ?_
  refine lv_iload_n hx hb d_L_law_288 rfl (lv_at hl 0 rfl) ?_
  refine lv_iconst (v := 2) hx hb d_L_law_289 (by decide) ?_
  refine lv_iadd hx hb d_L_law_290 ?_
  refine gl_sld (k := i + 2) hF hN (nI_add i 2) (by omega) (by omega) d_L_law_291 ?_
  refine gl_Gi (As := [.int (xs (i + 1)), .int (xs (i + 2))]) (rest := []) hF hN (c_G_sensor (u := u) (x := (xs (i + 1))) (y := (xs (i + 2))) ) (gk_L_46 hts ⟨by decide, by decide⟩) rfl hl.1 rfl (Nat.le_of_ble_eq_true rfl) hf d_L_law_292 (fun H locs hN => ?_)
  refine lv_aload_n hx hb d_L_law_295 rfl (lv_at hl 1 rfl) ?_
  refine lv_aload_n hx hb d_L_law_296 rfl (lv_at hl 3 rfl) ?_
  refine lv_iload_n hx hb d_L_law_297 rfl (lv_at hl 0 rfl) ?_
  refine lv_iconst (v := 1) hx hb d_L_law_298 (by decide) ?_
  refine lv_iadd hx hb d_L_law_299 ?_
  refine gl_sld (k := i + 1) hF hN (nI_add i 1) (by omega) (by omega) d_L_law_300 ?_
  refine lv_aload_n hx hb d_L_law_301 rfl (lv_at hl 3 rfl) ?_
  refine lv_iload_n hx hb d_L_law_302 rfl (lv_at hl 0 rfl) ?_
  refine lv_iconst (v := 2) hx hb d_L_law_303 (by decide) ?_
  refine lv_iadd hx hb d_L_law_304 ?_
  refine gl_sld (k := i + 2) hF hN (nI_add i 2) (by omega) (by omega) d_L_law_305 ?_
  refine gl_Ri (As := [.int (xs (i + 1)), .int (xs (i + 2))]) (rest := [.int (v_G_sensor u (xs (i + 1)) (xs (i + 2)))]) hF hN (c_R_sensor (u := v) (x := (xs (i + 1))) (y := (xs (i + 2))) ) (gk_L_49 hts ⟨by decide, by decide⟩) rfl hl.1 rfl (Nat.le_of_ble_eq_true rfl) hf d_L_law_306 (fun H locs hN => ?_)
  refine lv_icmp_eq (tgt := 463) hx hb d_L_law_309 rfl (fun _ => ?_) (fun h => absurd (op_sensor (xs (i + 1)) (xs (i + 2)) hR) h)
  exact kk H locs u v hR (by omega) hN
set_option maxRecDepth 100000 in
set_option maxHeartbeats 4000000 in
theorem lw_case_8 (hF : gl_F p s m args meth c D dk a b lt bb L xs) (hl : lv_has ls 4 [(3, .int (nI i)), (2, .ref (b 0)), (1, .ref (a 0)), (0, .ref bb)]) (hi : i + 3 ≤ L) (hL : L ≤ 1536) (hR : gl_R u v) (hn : 3 * v.2.2.1 0 ≤ 3200 * i) (hN : gl_N s D dk a b u v H locs) (hf : cells ≤ room_1.cells ∧ slots ≤ room_1.slots)
    (kk : ∀ (H : Heap) (locs : List Loc) (u' v' : gm_St), gl_R u' v' → 3 * v'.2.2.1 0 ≤ 3200 * (i + 3) → gl_N s D dk a b u' v' H locs → W p l e room_1 s m args below meth c H locs cells slots Q (F0 m 463 ls [])) : W p l e room_1 s m args below meth c H locs cells slots Q (F0 m 314 ls []) := by
  have hx := hF.1
  have hb := hF.2.1
  have hts := hF.2.2.2.2.1
  refine lv_aload_n hx hb d_L_law_314 rfl (lv_at hl 2 rfl) ?_
  refine lv_aload_n hx hb d_L_law_315 rfl (lv_at hl 3 rfl) ?_
  refine lv_iload_n hx hb d_L_law_316 rfl (lv_at hl 0 rfl) ?_
  refine lv_iconst (v := 1) hx hb d_L_law_317 (by decide) ?_
  refine lv_iadd hx hb d_L_law_318 ?_
  refine gl_sld (k := i + 1) hF hN (nI_add i 1) (by omega) (by omega) d_L_law_319 ?_
  refine gl_Gi (As := [.int (xs (i + 1))]) (rest := []) hF hN (c_G_anomalies (u := u) (x := (xs (i + 1))) ) (gk_L_50 hts ⟨by decide, by decide⟩) rfl hl.1 rfl (Nat.le_of_ble_eq_true rfl) hf d_L_law_320 (fun H locs hN => ?_)
  refine lv_aload_n hx hb d_L_law_323 rfl (lv_at hl 1 rfl) ?_
  refine lv_aload_n hx hb d_L_law_324 rfl (lv_at hl 3 rfl) ?_
  refine lv_iload_n hx hb d_L_law_325 rfl (lv_at hl 0 rfl) ?_
  refine lv_iconst (v := 1) hx hb d_L_law_326 (by decide) ?_
  refine lv_iadd hx hb d_L_law_327 ?_
  refine gl_sld (k := i + 1) hF hN (nI_add i 1) (by omega) (by omega) d_L_law_328 ?_
  refine gl_Ri (As := [.int (xs (i + 1))]) (rest := [.int (v_G_anomalies u (xs (i + 1)))]) hF hN (c_R_anomalies (u := v) (x := (xs (i + 1))) ) (gk_L_53 hts ⟨by decide, by decide⟩) rfl hl.1 rfl (Nat.le_of_ble_eq_true rfl) hf d_L_law_329 (fun H locs hN => ?_)
  refine lv_icmp_eq (tgt := 463) hx hb d_L_law_332 rfl (fun _ => ?_) (fun h => absurd (op_anom (xs (i + 1)) hR) h)
  exact kk H locs u v hR (by omega) hN
set_option maxRecDepth 100000 in
set_option maxHeartbeats 4000000 in
theorem lw_case_9 (hF : gl_F p s m args meth c D dk a b lt bb L xs) (hl : lv_has ls 4 [(3, .int (nI i)), (2, .ref (b 0)), (1, .ref (a 0)), (0, .ref bb)]) (hi : i + 3 ≤ L) (hL : L ≤ 1536) (hR : gl_R u v) (hn : 3 * v.2.2.1 0 ≤ 3200 * i) (hN : gl_N s D dk a b u v H locs) (hf : cells ≤ room_1.cells ∧ slots ≤ room_1.slots)
    (kk : ∀ (H : Heap) (locs : List Loc) (u' v' : gm_St), gl_R u' v' → 3 * v'.2.2.1 0 ≤ 3200 * (i + 3) → gl_N s D dk a b u' v' H locs → W p l e room_1 s m args below meth c H locs cells slots Q (F0 m 463 ls [])) : W p l e room_1 s m args below meth c H locs cells slots Q (F0 m 337 ls []) := by
  have hx := hF.1
  have hb := hF.2.1
  have hts := hF.2.2.2.2.1
  refine lv_aload_n hx hb d_L_law_337 rfl (lv_at hl 2 rfl) ?_
  refine lv_aload_n hx hb d_L_law_338 rfl (lv_at hl 3 rfl) ?_
  refine lv_iload_n hx hb d_L_law_339 rfl (lv_at hl 0 rfl) ?_
  refine lv_iconst (v := 1) hx hb d_L_law_340 (by decide) ?_
  refine lv_iadd hx hb d_L_law_341 ?_
  refine gl_sld (k := i + 1) hF hN (nI_add i 1) (by omega) (by omega) d_L_law_342 ?_
  refine lv_aload_n hx hb d_L_law_343 rfl (lv_at hl 3 rfl) ?_
  refine lv_iload_n hx hb d_L_law_344 rfl (lv_at hl 0 rfl) ?_
  refine lv_iconst (v := 2) hx hb d_L_law_345 (by decide) ?_
  refine lv_iadd hx hb d_L_law_346 ?_
  refine gl_sld (k := i + 2) hF hN (nI_add i 2) (by omega) (by omega) d_L_law_347 ?_
  refine gl_Gi (As := [.int (xs (i + 1)), .int (xs (i + 2))]) (rest := []) hF hN (c_G_running (u := u) (x := (xs (i + 1))) (y := (xs (i + 2))) ) (gk_L_54 hts ⟨by decide, by decide⟩) rfl hl.1 rfl (Nat.le_of_ble_eq_true rfl) hf d_L_law_348 (fun H locs hN => ?_)
  refine lv_aload_n hx hb d_L_law_351 rfl (lv_at hl 1 rfl) ?_
  refine lv_aload_n hx hb d_L_law_352 rfl (lv_at hl 3 rfl) ?_
  refine lv_iload_n hx hb d_L_law_353 rfl (lv_at hl 0 rfl) ?_
  refine lv_iconst (v := 1) hx hb d_L_law_354 (by decide) ?_
  refine lv_iadd hx hb d_L_law_355 ?_
  refine gl_sld (k := i + 1) hF hN (nI_add i 1) (by omega) (by omega) d_L_law_356 ?_
  refine lv_aload_n hx hb d_L_law_357 rfl (lv_at hl 3 rfl) ?_
  refine lv_iload_n hx hb d_L_law_358 rfl (lv_at hl 0 rfl) ?_
  refine lv_iconst (v := 2) hx hb d_L_law_359 (by decide) ?_
  refine lv_iadd hx hb d_L_law_360 ?_
  refine gl_sld (k := i + 2) hF hN (nI_add i 2) (by omega) (by omega) d_L_law_361 ?_
  refine gl_Ri (As := [.int (xs (i + 1)), .int (xs (i + 2))]) (rest := [.int (v_G_running u (xs (i + 1)) (xs (i + 2)))]) hF hN (c_R_running (u := v) (x := (xs (i + 1))) (y := (xs (i + 2))) ) (gk_L_57 hts ⟨by decide, by decide⟩) rfl hl.1 rfl (Nat.le_of_ble_eq_true rfl) hf d_L_law_362 (fun H locs hN => ?_)
  refine lv_icmp_eq (tgt := 463) hx hb d_L_law_365 rfl (fun _ => ?_) (fun h => absurd (op_running (xs (i + 1)) (xs (i + 2)) hR) h)
  exact kk H locs u v hR (by omega) hN
set_option maxRecDepth 100000 in
set_option maxHeartbeats 4000000 in
theorem lw_case_10 (hF : gl_F p s m args meth c D dk a b lt bb L xs) (hl : lv_has ls 4 [(3, .int (nI i)), (2, .ref (b 0)), (1, .ref (a 0)), (0, .ref bb)]) (hi : i + 3 ≤ L) (hL : L ≤ 1536) (hR : gl_R u v) (hn : 3 * v.2.2.1 0 ≤ 3200 * i) (hN : gl_N s D dk a b u v H locs) (hf : cells ≤ room_1.cells ∧ slots ≤ room_1.slots)
    (kk : ∀ (H : Heap) (locs : List Loc) (u' v' : gm_St), gl_R u' v' → 3 * v'.2.2.1 0 ≤ 3200 * (i + 3) → gl_N s D dk a b u' v' H locs → W p l e room_1 s m args below meth c H locs cells slots Q (F0 m 463 ls [])) : W p l e room_1 s m args below meth c H locs cells slots Q (F0 m 370 ls []) := by
  have hx := hF.1
  have hb := hF.2.1
  have hts := hF.2.2.2.2.1
  refine lv_aload_n hx hb d_L_law_370 rfl (lv_at hl 2 rfl) ?_
  refine gl_Gi (As := []) (rest := []) hF hN (c_G_lights (u := u)  ) (gk_L_58 hts ⟨by decide, by decide⟩) rfl hl.1 rfl (Nat.le_of_ble_eq_true rfl) hf d_L_law_371 (fun H locs hN => ?_)
  refine lv_aload_n hx hb d_L_law_374 rfl (lv_at hl 1 rfl) ?_
  refine gl_Ri (As := []) (rest := [.int (v_G_lights u )]) hF hN (c_R_lights (u := v)  ) (gk_L_61 hts ⟨by decide, by decide⟩) rfl hl.1 rfl (Nat.le_of_ble_eq_true rfl) hf d_L_law_375 (fun H locs hN => ?_)
  refine lv_icmp_eq (tgt := 463) hx hb d_L_law_378 rfl (fun _ => ?_) (fun h => absurd (op_lights hR) h)
  exact kk H locs u v hR (by omega) hN
set_option maxRecDepth 100000 in
set_option maxHeartbeats 4000000 in
theorem lw_case_11 (hF : gl_F p s m args meth c D dk a b lt bb L xs) (hl : lv_has ls 4 [(3, .int (nI i)), (2, .ref (b 0)), (1, .ref (a 0)), (0, .ref bb)]) (hi : i + 3 ≤ L) (hL : L ≤ 1536) (hR : gl_R u v) (hn : 3 * v.2.2.1 0 ≤ 3200 * i) (hN : gl_N s D dk a b u v H locs) (hf : cells ≤ room_1.cells ∧ slots ≤ room_1.slots)
    (kk : ∀ (H : Heap) (locs : List Loc) (u' v' : gm_St), gl_R u' v' → 3 * v'.2.2.1 0 ≤ 3200 * (i + 3) → gl_N s D dk a b u' v' H locs → W p l e room_1 s m args below meth c H locs cells slots Q (F0 m 463 ls [])) : W p l e room_1 s m args below meth c H locs cells slots Q (F0 m 383 ls []) := by
  have hx := hF.1
  have hb := hF.2.1
  have hts := hF.2.2.2.2.1
  refine lv_aload_n hx hb d_L_law_383 rfl (lv_at hl 2 rfl) ?_
  refine lv_aload_n hx hb d_L_law_384 rfl (lv_at hl 3 rfl) ?_
  refine lv_iload_n hx hb d_L_law_385 rfl (lv_at hl 0 rfl) ?_
  refine lv_iconst (v := 1) hx hb d_L_law_386 (by decide) ?_
  refine lv_iadd hx hb d_L_law_387 ?_
  refine gl_sld (k := i + 1) hF hN (nI_add i 1) (by omega) (by omega) d_L_law_388 ?_
  refine gl_Gl (As := [.int (xs (i + 1))]) (rest := []) hF hN (c_G_entry (u := u) (x := (xs (i + 1))) (ok_of hR)) (gk_L_62 hts ⟨by decide, by decide⟩) rfl hl.1 rfl (Nat.le_of_ble_eq_true rfl) hf d_L_law_389 (fun H locs hN => ?_)
  refine lv_aload_n hx hb d_L_law_392 rfl (lv_at hl 1 rfl) ?_
  refine lv_aload_n hx hb d_L_law_393 rfl (lv_at hl 3 rfl) ?_
  refine lv_iload_n hx hb d_L_law_394 rfl (lv_at hl 0 rfl) ?_
  refine lv_iconst (v := 1) hx hb d_L_law_395 (by decide) ?_
  refine lv_iadd hx hb d_L_law_396 ?_
  refine gl_sld (k := i + 1) hF hN (nI_add i 1) (by omega) (by omega) d_L_law_397 ?_
  refine gl_Rl (As := [.int (xs (i + 1))]) (rest := [.long (v_G_entry u (xs (i + 1)))]) hF hN (c_R_entry (u := v) (x := (xs (i + 1))) (by omega)) (gk_L_66 hts ⟨by decide, by decide⟩) rfl hl.1 rfl (Nat.le_of_ble_eq_true rfl) hf d_L_law_398 (fun H locs hN => ?_)
  refine W.lcmp hx hb d_L_law_401 ?_
  refine lv_if_eq (tgt := 463) hx hb d_L_law_402 rfl (fun _ => ?_) (fun h => absurd (by rw [(op_entry (xs (i + 1)) hR (by omega))]; exact cmp_self _) h)
  exact kk H locs u v hR (by omega) hN
set_option maxRecDepth 100000 in
set_option maxHeartbeats 4000000 in
theorem lw_case_12 (hF : gl_F p s m args meth c D dk a b lt bb L xs) (hl : lv_has ls 4 [(3, .int (nI i)), (2, .ref (b 0)), (1, .ref (a 0)), (0, .ref bb)]) (hi : i + 3 ≤ L) (hL : L ≤ 1536) (hR : gl_R u v) (hn : 3 * v.2.2.1 0 ≤ 3200 * i) (hN : gl_N s D dk a b u v H locs) (hf : cells ≤ room_1.cells ∧ slots ≤ room_1.slots)
    (kk : ∀ (H : Heap) (locs : List Loc) (u' v' : gm_St), gl_R u' v' → 3 * v'.2.2.1 0 ≤ 3200 * (i + 3) → gl_N s D dk a b u' v' H locs → W p l e room_1 s m args below meth c H locs cells slots Q (F0 m 463 ls [])) : W p l e room_1 s m args below meth c H locs cells slots Q (F0 m 407 ls []) := by
  have hx := hF.1
  have hb := hF.2.1
  have hts := hF.2.2.2.2.1
  refine lv_aload_n hx hb d_L_law_407 rfl (lv_at hl 2 rfl) ?_
  refine lv_aload_n hx hb d_L_law_408 rfl (lv_at hl 3 rfl) ?_
  refine lv_iload_n hx hb d_L_law_409 rfl (lv_at hl 0 rfl) ?_
  refine lv_iconst (v := 1) hx hb d_L_law_410 (by decide) ?_
  refine lv_iadd hx hb d_L_law_411 ?_
  refine gl_sld (k := i + 1) hF hN (nI_add i 1) (by omega) (by omega) d_L_law_412 ?_
  refine lv_aload_n hx hb d_L_law_413 rfl (lv_at hl 3 rfl) ?_
  refine lv_iload_n hx hb d_L_law_414 rfl (lv_at hl 0 rfl) ?_
  refine lv_iconst (v := 2) hx hb d_L_law_415 (by decide) ?_
  refine lv_iadd hx hb d_L_law_416 ?_
  refine gl_sld (k := i + 2) hF hN (nI_add i 2) (by omega) (by omega) d_L_law_417 ?_
  refine gl_Gi (As := [.int (xs (i + 1)), .int (xs (i + 2))]) (rest := []) hF hN (c_G_word (u := u) (x := (xs (i + 1))) (y := (xs (i + 2))) ) (gk_L_67 hts ⟨by decide, by decide⟩) rfl hl.1 rfl (Nat.le_of_ble_eq_true rfl) hf d_L_law_418 (fun H locs hN => ?_)
  refine lv_aload_n hx hb d_L_law_421 rfl (lv_at hl 1 rfl) ?_
  refine lv_aload_n hx hb d_L_law_422 rfl (lv_at hl 3 rfl) ?_
  refine lv_iload_n hx hb d_L_law_423 rfl (lv_at hl 0 rfl) ?_
  refine lv_iconst (v := 1) hx hb d_L_law_424 (by decide) ?_
  refine lv_iadd hx hb d_L_law_425 ?_
  refine gl_sld (k := i + 1) hF hN (nI_add i 1) (by omega) (by omega) d_L_law_426 ?_
  refine lv_aload_n hx hb d_L_law_427 rfl (lv_at hl 3 rfl) ?_
  refine lv_iload_n hx hb d_L_law_428 rfl (lv_at hl 0 rfl) ?_
  refine lv_iconst (v := 2) hx hb d_L_law_429 (by decide) ?_
  refine lv_iadd hx hb d_L_law_430 ?_
  refine gl_sld (k := i + 2) hF hN (nI_add i 2) (by omega) (by omega) d_L_law_431 ?_
  refine gl_Ri (As := [.int (xs (i + 1)), .int (xs (i + 2))]) (rest := [.int (v_G_word u (xs (i + 1)) (xs (i + 2)))]) hF hN (c_R_word (u := v) (x := (xs (i + 1))) (y := (xs (i + 2))) ) (gk_L_70 hts ⟨by decide, by decide⟩) rfl hl.1 rfl (Nat.le_of_ble_eq_true rfl) hf d_L_law_432 (fun H locs hN => ?_)
  refine lv_icmp_eq (tgt := 463) hx hb d_L_law_435 rfl (fun _ => ?_) (fun h => absurd (op_word (xs (i + 1)) (xs (i + 2)) hR) h)
  exact kk H locs u v hR (by omega) hN
set_option maxRecDepth 100000 in
set_option maxHeartbeats 4000000 in
theorem lw_case_13 (hF : gl_F p s m args meth c D dk a b lt bb L xs) (hl : lv_has ls 4 [(3, .int (nI i)), (2, .ref (b 0)), (1, .ref (a 0)), (0, .ref bb)]) (hi : i + 3 ≤ L) (hL : L ≤ 1536) (hR : gl_R u v) (hn : 3 * v.2.2.1 0 ≤ 3200 * i) (hN : gl_N s D dk a b u v H locs) (hf : cells ≤ room_1.cells ∧ slots ≤ room_1.slots)
    (kk : ∀ (H : Heap) (locs : List Loc) (u' v' : gm_St), gl_R u' v' → 3 * v'.2.2.1 0 ≤ 3200 * (i + 3) → gl_N s D dk a b u' v' H locs → W p l e room_1 s m args below meth c H locs cells slots Q (F0 m 463 ls [])) : W p l e room_1 s m args below meth c H locs cells slots Q (F0 m 440 ls []) := by
  have hx := hF.1
  have hb := hF.2.1
  have hts := hF.2.2.2.2.1
  refine lv_aload_n hx hb d_L_law_440 rfl (lv_at hl 2 rfl) ?_
  refine lv_aload_n hx hb d_L_law_441 rfl (lv_at hl 3 rfl) ?_
  refine lv_iload_n hx hb d_L_law_442 rfl (lv_at hl 0 rfl) ?_
  refine lv_iconst (v := 1) hx hb d_L_law_443 (by decide) ?_
  refine lv_iadd hx hb d_L_law_444 ?_
  refine gl_sld (k := i + 1) hF hN (nI_add i 1) (by omega) (by omega) d_L_law_445 ?_
  refine gl_Gi (As := [.int (xs (i + 1))]) (rest := []) hF hN (c_G_label (u := u) (wo := (xs (i + 1))) ) (gk_L_71 hts ⟨by decide, by decide⟩) rfl hl.1 rfl (Nat.le_of_ble_eq_true rfl) hf d_L_law_446 (fun H locs hN => ?_)
  refine lv_aload_n hx hb d_L_law_449 rfl (lv_at hl 1 rfl) ?_
  refine lv_aload_n hx hb d_L_law_450 rfl (lv_at hl 3 rfl) ?_
  refine lv_iload_n hx hb d_L_law_451 rfl (lv_at hl 0 rfl) ?_
  refine lv_iconst (v := 1) hx hb d_L_law_452 (by decide) ?_
  refine lv_iadd hx hb d_L_law_453 ?_
  refine gl_sld (k := i + 1) hF hN (nI_add i 1) (by omega) (by omega) d_L_law_454 ?_
  refine gl_Ri (As := [.int (xs (i + 1))]) (rest := [.int (v_G_label u (xs (i + 1)))]) hF hN (c_R_label (u := v) (wo := (xs (i + 1))) ) (gk_L_74 hts ⟨by decide, by decide⟩) rfl hl.1 rfl (Nat.le_of_ble_eq_true rfl) hf d_L_law_455 (fun H locs hN => ?_)
  refine lv_icmp_eq (tgt := 463) hx hb d_L_law_458 rfl (fun _ => ?_) (fun h => absurd (op_label u v (xs (i + 1))) h)
  exact kk H locs u v hR (by omega) hN
end LWC
