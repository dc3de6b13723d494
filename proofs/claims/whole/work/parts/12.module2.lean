theorem d_M_voteAll_0 : decode b_M_voteAll 0 = .ok (.iconst 0, 1) := by decide +kernel
theorem d_M_voteAll_1 : decode b_M_voteAll 1 = .ok (.istore_n 2, 1) := by decide +kernel
theorem d_M_voteAll_2 : decode b_M_voteAll 2 = .ok (.iconst 0, 1) := by decide +kernel
theorem d_M_voteAll_3 : decode b_M_voteAll 3 = .ok (.istore_n 3, 1) := by decide +kernel
theorem d_M_voteAll_4 : decode b_M_voteAll 4 = .ok (.iload_n 3, 1) := by decide +kernel
theorem d_M_voteAll_5 : decode b_M_voteAll 5 = .ok (.bipush 6, 2) := by decide +kernel
theorem d_M_voteAll_7 : decode b_M_voteAll 7 = .ok (.if_icmp .ge 35, 3) := by decide +kernel
theorem d_M_voteAll_10 : decode b_M_voteAll 10 = .ok (.aload_n 0, 1) := by decide +kernel
theorem d_M_voteAll_11 : decode b_M_voteAll 11 = .ok (.getfield 11, 3) := by decide +kernel
theorem d_M_voteAll_14 : decode b_M_voteAll 14 = .ok (.iload_n 3, 1) := by decide +kernel
theorem d_M_voteAll_15 : decode b_M_voteAll 15 = .ok (.aaload, 1) := by decide +kernel
theorem d_M_voteAll_16 : decode b_M_voteAll 16 = .ok (.iload_n 1, 1) := by decide +kernel
theorem d_M_voteAll_17 : decode b_M_voteAll 17 = .ok (.iconst 3, 1) := by decide +kernel
theorem d_M_voteAll_18 : decode b_M_voteAll 18 = .ok (.iload_n 3, 1) := by decide +kernel
theorem d_M_voteAll_19 : decode b_M_voteAll 19 = .ok (.imul, 1) := by decide +kernel
theorem d_M_voteAll_20 : decode b_M_voteAll 20 = .ok (.ishr, 1) := by decide +kernel
theorem d_M_voteAll_21 : decode b_M_voteAll 21 = .ok (.bipush 7, 2) := by decide +kernel
theorem d_M_voteAll_23 : decode b_M_voteAll 23 = .ok (.iand, 1) := by decide +kernel
theorem d_M_voteAll_24 : decode b_M_voteAll 24 = .ok (.invokevirtual 67, 3) := by decide +kernel
theorem d_M_voteAll_27 : decode b_M_voteAll 27 = .ok (.ifCond .eq 9, 3) := by decide +kernel
theorem d_M_voteAll_30 : decode b_M_voteAll 30 = .ok (.iload_n 2, 1) := by decide +kernel
theorem d_M_voteAll_31 : decode b_M_voteAll 31 = .ok (.iconst 1, 1) := by decide +kernel
theorem d_M_voteAll_32 : decode b_M_voteAll 32 = .ok (.iload_n 3, 1) := by decide +kernel
theorem d_M_voteAll_33 : decode b_M_voteAll 33 = .ok (.ishl, 1) := by decide +kernel
theorem d_M_voteAll_34 : decode b_M_voteAll 34 = .ok (.ior, 1) := by decide +kernel
theorem d_M_voteAll_35 : decode b_M_voteAll 35 = .ok (.istore_n 2, 1) := by decide +kernel
theorem d_M_voteAll_36 : decode b_M_voteAll 36 = .ok (.iinc 3 1, 3) := by decide +kernel
theorem d_M_voteAll_39 : decode b_M_voteAll 39 = .ok (.goto (-35), 3) := by decide +kernel
theorem d_M_voteAll_42 : decode b_M_voteAll 42 = .ok (.iload_n 2, 1) := by decide +kernel
theorem d_M_voteAll_43 : decode b_M_voteAll 43 = .ok (.ireturn, 1) := by decide +kernel
def lp_M_voteAll (m : Nat) (ch : Int32) : Nat → Nat → Int32 → gm_St → Int32 × gm_St
  | 0, _, x, u => (x, u)
  | k + 1, i, x, u => lp_M_voteAll m ch k (i + 1) (if (v_S_vote u (6 * m + i) ((ch >>> (((3 : Int32) * (nI i)) &&& 31)) &&& (7 : Int32))) = true then (x ||| ((1 : Int32) <<< ((nI i) &&& 31))) else x) (s_S_vote u (6 * m + i) ((ch >>> (((3 : Int32) * (nI i)) &&& 31)) &&& (7 : Int32)))
def v_M_voteAll (u : gm_St) (m : Nat) (ch : Int32) : Int32 := ((lp_M_voteAll m ch 6 0 (0 : Int32) u).1)
def s_M_voteAll (u : gm_St) (m : Nat) (ch : Int32) : gm_St := ((lp_M_voteAll m ch 6 0 (0 : Int32) u).2)
set_option maxRecDepth 100000 in
set_option maxHeartbeats 4000000 in
theorem c_M_voteAll {l : Launch} {D : va_G} {dk : Nat → ClassId} {a : Nat → Nat} {A : Nat → Prop} {lt : Nat} {u : gm_St} {m : Nat} {ch : Int32} (hm : m < 2) : gm_I l D (gm_ty dk) (gm_W dk a) A lt y_M_voteAll b_M_voteAll 4 (some .int) rm_M_voteAll [.ref (a (3 + m)), .int ch] u (v_M_voteAll u m ch) (s_M_voteAll u m ch) := by
  refine gm_enterI (by decide) (Nat.le_of_ble_eq_true rfl) ?_
  intro p e s mm args below meth c ls Q H locs hF hM hl hQ
  have hx := hF.1
  have hb := hF.2.1
  have hml := hF.2.2.1
  have hown := hF.2.2.2.1
  have hts := hF.2.2.2.2.1
  have hl : lv_has ls 4 [(0, .ref (a (3 + m))), (1, .int ch)] := hl
  refine lv_iconst (v := 0) hx hb d_M_voteAll_0 (by decide) ?_
  refine lv_istore_n (lv' := [(2, .int (0 : Int32)), (0, .ref (a (3 + m))), (1, .int ch)]) hx hb d_M_voteAll_1 rfl hl (by decide) rfl (fun ls hl => ?_)
  refine lv_iconst (v := 0) hx hb d_M_voteAll_2 (by decide) ?_
  refine lv_istore_n (lv' := [(3, .int (0 : Int32)), (2, .int (0 : Int32)), (0, .ref (a (3 + m))), (1, .int ch)]) hx hb d_M_voteAll_3 rfl hl (by decide) rfl (fun ls hl => ?_)
  have L1 : ∀ (k1 i1 : Nat) (x1 : Int32) (w1 : gm_St) (ls : Array Slot) (H : Heap) (locs : List Loc), i1 + k1 = 6 → lv_has ls 4 [(3, .int (nI i1)), (2, .int x1), (0, .ref (a (3 + m))), (1, .int ch)] → gm_M D A s (gm_W dk a) w1 H locs → (∀ (ls : Array Slot) (H : Heap) (locs : List Loc), lv_has ls 4 [(3, .int (nI 6)), (2, .int ((lp_M_voteAll m ch k1 i1 x1 w1).1)), (0, .ref (a (3 + m))), (1, .int ch)] → gm_M D A s (gm_W dk a) ((lp_M_voteAll m ch k1 i1 x1 w1).2) H locs → W p l e rm_M_voteAll s mm args below meth c H locs 0 0 Q (F0 mm 42 ls [])) → W p l e rm_M_voteAll s mm args below meth c H locs 0 0 Q (F0 mm 4 ls []) := by
    intro k1
    induction k1 with
    | zero =>
      intro i1 x1 w1 ls H locs hk1 hl hM kk
      obtain rfl : i1 = 6 := by omega
      refine lv_iload_n hx hb d_M_voteAll_4 rfl (lv_at hl 0 rfl) ?_
      refine lv_bipush (v := 6) hx hb d_M_voteAll_5 (by decide) ?_
      refine lv_icmp_ge (tgt := 42) hx hb d_M_voteAll_7 rfl (fun _ => ?_) (fun h => absurd (by decide) h)
      exact kk ls H locs hl hM
    | succ k1 ih =>
      intro i1 x1 w1 ls H locs hk1 hl hM kk
      refine lv_iload_n hx hb d_M_voteAll_4 rfl (lv_at hl 0 rfl) ?_
      refine lv_bipush (v := 6) hx hb d_M_voteAll_5 (by decide) ?_
      refine lv_icmp_ge (tgt := 42) hx hb d_M_voteAll_7 rfl (fun h => absurd h (nI_ge (a := i1) (b := 6) (by omega) (by first | decide | omega))) (fun _ => ?_)
      refine lv_aload_n hx hb d_M_voteAll_10 rfl (lv_at hl 2 rfl) ?_
      refine gf_M_11 hF hM (by omega) d_M_voteAll_11 ?_
      refine lv_iload_n hx hb d_M_voteAll_14 rfl (lv_at hl 0 rfl) ?_
      refine ga_sens (k := i1) hF hM (by omega) rfl (by omega) d_M_voteAll_15 ?_
      refine lv_iload_n hx hb d_M_voteAll_16 rfl (lv_at hl 3 rfl) ?_
      refine lv_iconst (v := 3) hx hb d_M_voteAll_17 (by decide) ?_
      refine lv_iload_n hx hb d_M_voteAll_18 rfl (lv_at hl 0 rfl) ?_
      refine lv_imul hx hb d_M_voteAll_19 ?_
      refine lv_ishr hx hb d_M_voteAll_20 ?_
      refine lv_bipush (v := 7) hx hb d_M_voteAll_21 (by decide) ?_
      refine lv_iand hx hb d_M_voteAll_23 ?_
      refine gm_Vi (As := [.int ((ch >>> (((3 : Int32) * (nI i1)) &&& 31)) &&& (7 : Int32))]) (rest := []) hF hM (c_S_vote (u := w1) (i := (6 * m + i1)) (ch := ((ch >>> (((3 : Int32) * (nI i1)) &&& 31)) &&& (7 : Int32))) (by omega)) (gk_M_67 hts ⟨by decide, by decide⟩) (gv_S hF hM (by omega) rfl) rfl hl.1 rfl (Nat.le_of_ble_eq_true rfl) ⟨Nat.zero_le _, Nat.zero_le _⟩ d_M_voteAll_24 (fun H locs hM => ?_)
      have J3 : ∀ (ls : Array Slot) (H : Heap) (locs : List Loc), lv_has ls 4 [(0, .ref (a (3 + m))), (1, .int ch), (2, .int (if (v_S_vote w1 (6 * m + i1) ((ch >>> (((3 : Int32) * (nI i1)) &&& 31)) &&& (7 : Int32))) = true then (x1 ||| ((1 : Int32) <<< ((nI i1) &&& 31))) else x1)), (3, .int (nI i1))] → gm_M D A s (gm_W dk a) (s_S_vote w1 (6 * m + i1) ((ch >>> (((3 : Int32) * (nI i1)) &&& 31)) &&& (7 : Int32))) H locs → W p l e rm_M_voteAll s mm args below meth c H locs 0 0 Q (F0 mm 36 ls []) := by
        intro ls H locs hl hM
        refine lv_iinc (k := 3) (v := (nI (i1 + 1))) (lv' := [(3, .int (nI (i1 + 1))), (0, .ref (a (3 + m))), (1, .int ch), (2, .int (if (v_S_vote w1 (6 * m + i1) ((ch >>> (((3 : Int32) * (nI i1)) &&& 31)) &&& (7 : Int32))) = true then (x1 ||| ((1 : Int32) <<< ((nI i1) &&& 31))) else x1))]) hx hb d_M_voteAll_36 hl rfl (nI_1 _) (by decide) rfl (fun ls hl => ?_)
        refine lv_goto (tgt := 4) hx hb d_M_voteAll_39 rfl ?_
        have hK := kk
        simp only [lp_M_voteAll] at hK
        exact ih (i1 + 1) (if (v_S_vote w1 (6 * m + i1) ((ch >>> (((3 : Int32) * (nI i1)) &&& 31)) &&& (7 : Int32))) = true then (x1 ||| ((1 : Int32) <<< ((nI i1) &&& 31))) else x1) (s_S_vote w1 (6 * m + i1) ((ch >>> (((3 : Int32) * (nI i1)) &&& 31)) &&& (7 : Int32))) ls H locs (by omega) (lv_sub hl [0, 3, 1, 2] rfl) hM hK
      refine gm_ifz (b := (v_S_vote w1 (6 * m + i1) ((ch >>> (((3 : Int32) * (nI i1)) &&& 31)) &&& (7 : Int32)))) (tgt := 36) hx hb d_M_voteAll_27 rfl (fun h2 => ?_) (fun h2 => ?_)
      · have hJ := J3
        try simp only [if_neg (gm_nf h2)] at hJ
        exact hJ ls H locs (lv_sub hl [2, 3, 1, 0] rfl) hM
      · refine lv_iload_n hx hb d_M_voteAll_30 rfl (lv_at hl 1 rfl) ?_
        refine lv_iconst (v := 1) hx hb d_M_voteAll_31 (by decide) ?_
        refine lv_iload_n hx hb d_M_voteAll_32 rfl (lv_at hl 0 rfl) ?_
        refine lv_ishl hx hb d_M_voteAll_33 ?_
        refine lv_ior hx hb d_M_voteAll_34 ?_
        refine lv_istore_n (lv' := [(2, .int (x1 ||| ((1 : Int32) <<< ((nI i1) &&& 31)))), (3, .int (nI i1)), (0, .ref (a (3 + m))), (1, .int ch)]) hx hb d_M_voteAll_35 rfl hl (by decide) rfl (fun ls hl => ?_)
        have hJ := J3
        try simp only [if_pos h2] at hJ
        exact hJ ls H locs (lv_sub hl [2, 3, 0, 1] rfl) hM
  refine L1 6 0 (0 : Int32) u ls H locs (by omega) hl hM (fun ls H locs hl hM => ?_)
  refine lv_iload_n hx hb d_M_voteAll_42 rfl (lv_at hl 1 rfl) ?_
  have hq := hQ H locs 43 ls
  simp only [v_M_voteAll, s_M_voteAll] at hq
  exact hq hM d_M_voteAll_43
theorem d_M_conditionHolds_0 : decode b_M_conditionHolds 0 = .ok (.iload_n 1, 1) := by decide +kernel
theorem d_M_conditionHolds_1 : decode b_M_conditionHolds 1 = .ok (.tableswitch 241 6 15 #[55, 77, 99, 122, 145, 168, 191, 213, 241, 235], 55) := by decide +kernel
theorem d_M_conditionHolds_56 : decode b_M_conditionHolds 56 = .ok (.aload_n 0, 1) := by decide +kernel
theorem d_M_conditionHolds_57 : decode b_M_conditionHolds 57 = .ok (.iconst 2, 1) := by decide +kernel
theorem d_M_conditionHolds_58 : decode b_M_conditionHolds 58 = .ok (.invokevirtual 99, 3) := by decide +kernel
theorem d_M_conditionHolds_61 : decode b_M_conditionHolds 61 = .ok (.ifCond .eq 15, 3) := by decide +kernel
theorem d_M_conditionHolds_64 : decode b_M_conditionHolds 64 = .ok (.aload_n 0, 1) := by decide +kernel
theorem d_M_conditionHolds_65 : decode b_M_conditionHolds 65 = .ok (.iconst 2, 1) := by decide +kernel
theorem d_M_conditionHolds_66 : decode b_M_conditionHolds 66 = .ok (.invokevirtual 78, 3) := by decide +kernel
theorem d_M_conditionHolds_69 : decode b_M_conditionHolds 69 = .ok (.ifCond .ne 7, 3) := by decide +kernel
theorem d_M_conditionHolds_72 : decode b_M_conditionHolds 72 = .ok (.iconst 1, 1) := by decide +kernel
theorem d_M_conditionHolds_73 : decode b_M_conditionHolds 73 = .ok (.goto 4, 3) := by decide +kernel
theorem d_M_conditionHolds_76 : decode b_M_conditionHolds 76 = .ok (.iconst 0, 1) := by decide +kernel
theorem d_M_conditionHolds_77 : decode b_M_conditionHolds 77 = .ok (.ireturn, 1) := by decide +kernel
theorem d_M_conditionHolds_78 : decode b_M_conditionHolds 78 = .ok (.aload_n 0, 1) := by decide +kernel
theorem d_M_conditionHolds_79 : decode b_M_conditionHolds 79 = .ok (.iconst 4, 1) := by decide +kernel
theorem d_M_conditionHolds_80 : decode b_M_conditionHolds 80 = .ok (.invokevirtual 99, 3) := by decide +kernel
theorem d_M_conditionHolds_83 : decode b_M_conditionHolds 83 = .ok (.ifCond .eq 15, 3) := by decide +kernel
theorem d_M_conditionHolds_86 : decode b_M_conditionHolds 86 = .ok (.aload_n 0, 1) := by decide +kernel
theorem d_M_conditionHolds_87 : decode b_M_conditionHolds 87 = .ok (.iconst 3, 1) := by decide +kernel
theorem d_M_conditionHolds_88 : decode b_M_conditionHolds 88 = .ok (.invokevirtual 78, 3) := by decide +kernel
theorem d_M_conditionHolds_91 : decode b_M_conditionHolds 91 = .ok (.ifCond .ne 7, 3) := by decide +kernel
theorem d_M_conditionHolds_94 : decode b_M_conditionHolds 94 = .ok (.iconst 1, 1) := by decide +kernel
theorem d_M_conditionHolds_95 : decode b_M_conditionHolds 95 = .ok (.goto 4, 3) := by decide +kernel
theorem d_M_conditionHolds_98 : decode b_M_conditionHolds 98 = .ok (.iconst 0, 1) := by decide +kernel
theorem d_M_conditionHolds_99 : decode b_M_conditionHolds 99 = .ok (.ireturn, 1) := by decide +kernel
theorem d_M_conditionHolds_100 : decode b_M_conditionHolds 100 = .ok (.aload_n 0, 1) := by decide +kernel
theorem d_M_conditionHolds_101 : decode b_M_conditionHolds 101 = .ok (.bipush 8, 2) := by decide +kernel
theorem d_M_conditionHolds_103 : decode b_M_conditionHolds 103 = .ok (.invokevirtual 99, 3) := by decide +kernel
theorem d_M_conditionHolds_106 : decode b_M_conditionHolds 106 = .ok (.ifCond .eq 15, 3) := by decide +kernel
theorem d_M_conditionHolds_109 : decode b_M_conditionHolds 109 = .ok (.aload_n 0, 1) := by decide +kernel
theorem d_M_conditionHolds_110 : decode b_M_conditionHolds 110 = .ok (.iconst 1, 1) := by decide +kernel
theorem d_M_conditionHolds_111 : decode b_M_conditionHolds 111 = .ok (.invokevirtual 78, 3) := by decide +kernel
theorem d_M_conditionHolds_114 : decode b_M_conditionHolds 114 = .ok (.ifCond .eq 7, 3) := by decide +kernel
theorem d_M_conditionHolds_117 : decode b_M_conditionHolds 117 = .ok (.iconst 1, 1) := by decide +kernel
theorem d_M_conditionHolds_118 : decode b_M_conditionHolds 118 = .ok (.goto 4, 3) := by decide +kernel
theorem d_M_conditionHolds_121 : decode b_M_conditionHolds 121 = .ok (.iconst 0, 1) := by decide +kernel
theorem d_M_conditionHolds_122 : decode b_M_conditionHolds 122 = .ok (.ireturn, 1) := by decide +kernel
theorem d_M_conditionHolds_123 : decode b_M_conditionHolds 123 = .ok (.aload_n 0, 1) := by decide +kernel
theorem d_M_conditionHolds_124 : decode b_M_conditionHolds 124 = .ok (.bipush 8, 2) := by decide +kernel
theorem d_M_conditionHolds_126 : decode b_M_conditionHolds 126 = .ok (.invokevirtual 99, 3) := by decide +kernel
theorem d_M_conditionHolds_129 : decode b_M_conditionHolds 129 = .ok (.ifCond .eq 15, 3) := by decide +kernel
theorem d_M_conditionHolds_132 : decode b_M_conditionHolds 132 = .ok (.aload_n 0, 1) := by decide +kernel
theorem d_M_conditionHolds_133 : decode b_M_conditionHolds 133 = .ok (.iconst 0, 1) := by decide +kernel
theorem d_M_conditionHolds_134 : decode b_M_conditionHolds 134 = .ok (.invokevirtual 78, 3) := by decide +kernel
theorem d_M_conditionHolds_137 : decode b_M_conditionHolds 137 = .ok (.ifCond .ne 7, 3) := by decide +kernel
theorem d_M_conditionHolds_140 : decode b_M_conditionHolds 140 = .ok (.iconst 1, 1) := by decide +kernel
theorem d_M_conditionHolds_141 : decode b_M_conditionHolds 141 = .ok (.goto 4, 3) := by decide +kernel
theorem d_M_conditionHolds_144 : decode b_M_conditionHolds 144 = .ok (.iconst 0, 1) := by decide +kernel
theorem d_M_conditionHolds_145 : decode b_M_conditionHolds 145 = .ok (.ireturn, 1) := by decide +kernel
theorem d_M_conditionHolds_146 : decode b_M_conditionHolds 146 = .ok (.aload_n 0, 1) := by decide +kernel
theorem d_M_conditionHolds_147 : decode b_M_conditionHolds 147 = .ok (.bipush 16, 2) := by decide +kernel
theorem d_M_conditionHolds_149 : decode b_M_conditionHolds 149 = .ok (.invokevirtual 99, 3) := by decide +kernel
theorem d_M_conditionHolds_152 : decode b_M_conditionHolds 152 = .ok (.ifCond .eq 15, 3) := by decide +kernel
theorem d_M_conditionHolds_155 : decode b_M_conditionHolds 155 = .ok (.aload_n 0, 1) := by decide +kernel
theorem d_M_conditionHolds_156 : decode b_M_conditionHolds 156 = .ok (.iconst 0, 1) := by decide +kernel
theorem d_M_conditionHolds_157 : decode b_M_conditionHolds 157 = .ok (.invokevirtual 78, 3) := by decide +kernel
theorem d_M_conditionHolds_160 : decode b_M_conditionHolds 160 = .ok (.ifCond .eq 7, 3) := by decide +kernel
theorem d_M_conditionHolds_163 : decode b_M_conditionHolds 163 = .ok (.iconst 1, 1) := by decide +kernel
theorem d_M_conditionHolds_164 : decode b_M_conditionHolds 164 = .ok (.goto 4, 3) := by decide +kernel
theorem d_M_conditionHolds_167 : decode b_M_conditionHolds 167 = .ok (.iconst 0, 1) := by decide +kernel
theorem d_M_conditionHolds_168 : decode b_M_conditionHolds 168 = .ok (.ireturn, 1) := by decide +kernel
theorem d_M_conditionHolds_169 : decode b_M_conditionHolds 169 = .ok (.aload_n 0, 1) := by decide +kernel
theorem d_M_conditionHolds_170 : decode b_M_conditionHolds 170 = .ok (.bipush 16, 2) := by decide +kernel
theorem d_M_conditionHolds_172 : decode b_M_conditionHolds 172 = .ok (.invokevirtual 99, 3) := by decide +kernel
theorem d_M_conditionHolds_175 : decode b_M_conditionHolds 175 = .ok (.ifCond .eq 15, 3) := by decide +kernel
theorem d_M_conditionHolds_178 : decode b_M_conditionHolds 178 = .ok (.aload_n 0, 1) := by decide +kernel
theorem d_M_conditionHolds_179 : decode b_M_conditionHolds 179 = .ok (.iconst 1, 1) := by decide +kernel
theorem d_M_conditionHolds_180 : decode b_M_conditionHolds 180 = .ok (.invokevirtual 78, 3) := by decide +kernel
theorem d_M_conditionHolds_183 : decode b_M_conditionHolds 183 = .ok (.ifCond .ne 7, 3) := by decide +kernel
theorem d_M_conditionHolds_186 : decode b_M_conditionHolds 186 = .ok (.iconst 1, 1) := by decide +kernel
theorem d_M_conditionHolds_187 : decode b_M_conditionHolds 187 = .ok (.goto 4, 3) := by decide +kernel
theorem d_M_conditionHolds_190 : decode b_M_conditionHolds 190 = .ok (.iconst 0, 1) := by decide +kernel
theorem d_M_conditionHolds_191 : decode b_M_conditionHolds 191 = .ok (.ireturn, 1) := by decide +kernel
theorem d_M_conditionHolds_192 : decode b_M_conditionHolds 192 = .ok (.aload_n 0, 1) := by decide +kernel
theorem d_M_conditionHolds_193 : decode b_M_conditionHolds 193 = .ok (.iconst 1, 1) := by decide +kernel
theorem d_M_conditionHolds_194 : decode b_M_conditionHolds 194 = .ok (.invokevirtual 99, 3) := by decide +kernel
theorem d_M_conditionHolds_197 : decode b_M_conditionHolds 197 = .ok (.ifCond .eq 15, 3) := by decide +kernel
theorem d_M_conditionHolds_200 : decode b_M_conditionHolds 200 = .ok (.aload_n 0, 1) := by decide +kernel
theorem d_M_conditionHolds_201 : decode b_M_conditionHolds 201 = .ok (.iconst 4, 1) := by decide +kernel
theorem d_M_conditionHolds_202 : decode b_M_conditionHolds 202 = .ok (.invokevirtual 78, 3) := by decide +kernel
theorem d_M_conditionHolds_205 : decode b_M_conditionHolds 205 = .ok (.ifCond .ne 7, 3) := by decide +kernel
theorem d_M_conditionHolds_208 : decode b_M_conditionHolds 208 = .ok (.iconst 1, 1) := by decide +kernel
theorem d_M_conditionHolds_209 : decode b_M_conditionHolds 209 = .ok (.goto 4, 3) := by decide +kernel
theorem d_M_conditionHolds_212 : decode b_M_conditionHolds 212 = .ok (.iconst 0, 1) := by decide +kernel
theorem d_M_conditionHolds_213 : decode b_M_conditionHolds 213 = .ok (.ireturn, 1) := by decide +kernel
theorem d_M_conditionHolds_214 : decode b_M_conditionHolds 214 = .ok (.aload_n 0, 1) := by decide +kernel
theorem d_M_conditionHolds_215 : decode b_M_conditionHolds 215 = .ok (.iconst 1, 1) := by decide +kernel
theorem d_M_conditionHolds_216 : decode b_M_conditionHolds 216 = .ok (.invokevirtual 99, 3) := by decide +kernel
theorem d_M_conditionHolds_219 : decode b_M_conditionHolds 219 = .ok (.ifCond .ne 15, 3) := by decide +kernel
theorem d_M_conditionHolds_222 : decode b_M_conditionHolds 222 = .ok (.aload_n 0, 1) := by decide +kernel
theorem d_M_conditionHolds_223 : decode b_M_conditionHolds 223 = .ok (.iconst 4, 1) := by decide +kernel
theorem d_M_conditionHolds_224 : decode b_M_conditionHolds 224 = .ok (.invokevirtual 78, 3) := by decide +kernel
theorem d_M_conditionHolds_227 : decode b_M_conditionHolds 227 = .ok (.ifCond .eq 7, 3) := by decide +kernel
theorem d_M_conditionHolds_230 : decode b_M_conditionHolds 230 = .ok (.iconst 1, 1) := by decide +kernel
theorem d_M_conditionHolds_231 : decode b_M_conditionHolds 231 = .ok (.goto 4, 3) := by decide +kernel
theorem d_M_conditionHolds_234 : decode b_M_conditionHolds 234 = .ok (.iconst 0, 1) := by decide +kernel
theorem d_M_conditionHolds_235 : decode b_M_conditionHolds 235 = .ok (.ireturn, 1) := by decide +kernel
theorem d_M_conditionHolds_236 : decode b_M_conditionHolds 236 = .ok (.aload_n 0, 1) := by decide +kernel
theorem d_M_conditionHolds_237 : decode b_M_conditionHolds 237 = .ok (.iconst 5, 1) := by decide +kernel
theorem d_M_conditionHolds_238 : decode b_M_conditionHolds 238 = .ok (.invokevirtual 78, 3) := by decide +kernel
theorem d_M_conditionHolds_241 : decode b_M_conditionHolds 241 = .ok (.ireturn, 1) := by decide +kernel
theorem d_M_conditionHolds_242 : decode b_M_conditionHolds 242 = .ok (.iconst 0, 1) := by decide +kernel
theorem d_M_conditionHolds_243 : decode b_M_conditionHolds 243 = .ok (.ireturn, 1) := by decide +kernel
def v_M_conditionHolds (u : gm_St) (m : Nat) (kn : Nat) : Bool := (match kn with | 6 => (if (v_M_isSwitchedOn u m (2 : Int32)) = true then (if (v_M_isOn u m 2) = true then false else true) else false) | 7 => (if (v_M_isSwitchedOn u m (4 : Int32)) = true then (if (v_M_isOn u m 3) = true then false else true) else false) | 8 => (if (v_M_isSwitchedOn u m (8 : Int32)) = true then (if (v_M_isOn u m 1) = true then true else false) else false) | 9 => (if (v_M_isSwitchedOn u m (8 : Int32)) = true then (if (v_M_isOn u m 0) = true then false else true) else false) | 10 => (if (v_M_isSwitchedOn u m (16 : Int32)) = true then (if (v_M_isOn u m 0) = true then true else false) else false) | 11 => (if (v_M_isSwitchedOn u m (16 : Int32)) = true then (if (v_M_isOn u m 1) = true then false else true) else false) | 12 => (if (v_M_isSwitchedOn u m (1 : Int32)) = true then (if (v_M_isOn u m 4) = true then false else true) else false) | 13 => (if (v_M_isSwitchedOn u m (1 : Int32)) = true then false else (if (v_M_isOn u m 4) = true then true else false)) | 15 => (v_M_isOn u m 5) | _ => false)
set_option maxRecDepth 100000 in
set_option maxHeartbeats 4000000 in
theorem c_M_conditionHolds {l : Launch} {D : va_G} {dk : Nat → ClassId} {a : Nat → Nat} {A : Nat → Prop} {lt : Nat} {u : gm_St} {m : Nat} {kn : Nat} (hm : m < 2) (h_kn : 6 ≤ kn ∧ kn < 16) : gm_I l D (gm_ty dk) (gm_W dk a) A lt y_M_conditionHolds b_M_conditionHolds 2 (some .boolean) rm_M_conditionHolds [.ref (a (3 + m)), .int (nI kn)] u (gm_b (v_M_conditionHolds u m kn)) u := by
  refine gm_enterZ (by decide) (Nat.le_of_ble_eq_true rfl) ?_
  intro p e s mm args below meth c ls Q H locs hF hM hl hQ
  have hx := hF.1
  have hb := hF.2.1
  have hml := hF.2.2.1
  have hown := hF.2.2.2.1
  have hts := hF.2.2.2.2.1
  have hl : lv_has ls 2 [(0, .ref (a (3 + m))), (1, .int (nI kn))] := hl
  refine lv_iload_n hx hb d_M_conditionHolds_0 rfl (lv_at hl 1 rfl) ?_
  rcases (by omega : kn = 6 ∨ kn = 7 ∨ kn = 8 ∨ kn = 9 ∨ kn = 10 ∨ kn = 11 ∨ kn = 12 ∨ kn = 13 ∨ kn = 14 ∨ kn = 15) with rfl | rfl | rfl | rfl | rfl | rfl | rfl | rfl | rfl | rfl
  · refine lv_tableIn (off := 55) (tgt := 56) hx hb d_M_conditionHolds_1 (by decide) (by decide) (by decide +kernel) rfl ?_
    refine lv_aload_n hx hb d_M_conditionHolds_56 rfl (lv_at hl 0 rfl) ?_
    refine lv_iconst (v := 2) hx hb d_M_conditionHolds_57 (by decide) ?_
    refine gm_Vi (As := [.int (2 : Int32)]) (rest := []) hF hM (c_M_isSwitchedOn (u := u) (m := m) (vn := (2 : Int32)) (by omega)) (gk_M_99 hts ⟨by decide, by decide⟩) (gv_M hF hM (by omega) rfl) rfl hl.1 rfl (Nat.le_of_ble_eq_true rfl) ⟨Nat.zero_le _, Nat.zero_le _⟩ d_M_conditionHolds_58 (fun H locs hM => ?_)
    have J2 : ∀ (ls : Array Slot) (H : Heap) (locs : List Loc), lv_has ls 2 [(0, .ref (a (3 + m))), (1, .int (nI 6))] → gm_M D A s (gm_W dk a) u H locs → W p l e rm_M_conditionHolds s mm args below meth c H locs 0 0 Q (F0 mm 77 ls [.int (gm_b (if (v_M_isSwitchedOn u m (2 : Int32)) = true then (if (v_M_isOn u m 2) = true then false else true) else false))]) := by
      intro ls H locs hl hM
      have hq := hQ H locs 77 ls
      simp only [v_M_conditionHolds] at hq
      exact hq hM d_M_conditionHolds_77
    refine gm_ifz (b := (v_M_isSwitchedOn u m (2 : Int32))) (tgt := 76) hx hb d_M_conditionHolds_61 rfl (fun h1 => ?_) (fun h1 => ?_)
    · refine lv_iconst (v := 0) hx hb d_M_conditionHolds_76 (by decide) ?_
      have hJ := J2
      try simp only [if_neg (gm_nf h1)] at hJ
      exact hJ ls H locs hl hM
    · refine lv_aload_n hx hb d_M_conditionHolds_64 rfl (lv_at hl 0 rfl) ?_
      refine lv_iconst (v := 2) hx hb d_M_conditionHolds_65 (by decide) ?_
      refine gm_Vi (As := [.int (nI 2)]) (rest := []) hF hM (c_M_isOn (u := u) (m := m) (sn := 2) (by omega) (by omega)) (gk_M_78 hts ⟨by decide, by decide⟩) (gv_M hF hM (by omega) rfl) rfl hl.1 rfl (Nat.le_of_ble_eq_true rfl) ⟨Nat.zero_le _, Nat.zero_le _⟩ d_M_conditionHolds_66 (fun H locs hM => ?_)
      refine gm_ifn (b := (v_M_isOn u m 2)) (tgt := 76) hx hb d_M_conditionHolds_69 rfl (fun h3 => ?_) (fun h3 => ?_)
      · refine lv_iconst (v := 0) hx hb d_M_conditionHolds_76 (by decide) ?_
        have hJ := J2
        try simp only [if_pos h1, if_pos h3] at hJ
        exact hJ ls H locs hl hM
      · refine lv_iconst (v := 1) hx hb d_M_conditionHolds_72 (by decide) ?_
        refine lv_goto (tgt := 77) hx hb d_M_conditionHolds_73 rfl ?_
        have hJ := J2
        try simp only [if_pos h1, if_neg (gm_nf h3)] at hJ
        exact hJ ls H locs hl hM
  · refine lv_tableIn (off := 77) (tgt := 78) hx hb d_M_conditionHolds_1 (by decide) (by decide) (by decide +kernel) rfl ?_
    refine lv_aload_n hx hb d_M_conditionHolds_78 rfl (lv_at hl 0 rfl) ?_
    refine lv_iconst (v := 4) hx hb d_M_conditionHolds_79 (by decide) ?_
    refine gm_Vi (As := [.int (4 : Int32)]) (rest := []) hF hM (c_M_isSwitchedOn (u := u) (m := m) (vn := (4 : Int32)) (by omega)) (gk_M_99 hts ⟨by decide, by decide⟩) (gv_M hF hM (by omega) rfl) rfl hl.1 rfl (Nat.le_of_ble_eq_true rfl) ⟨Nat.zero_le _, Nat.zero_le _⟩ d_M_conditionHolds_80 (fun H locs hM => ?_)
    have J5 : ∀ (ls : Array Slot) (H : Heap) (locs : List Loc), lv_has ls 2 [(0, .ref (a (3 + m))), (1, .int (nI 7))] → gm_M D A s (gm_W dk a) u H locs → W p l e rm_M_conditionHolds s mm args below meth c H locs 0 0 Q (F0 mm 99 ls [.int (gm_b (if (v_M_isSwitchedOn u m (4 : Int32)) = true then (if (v_M_isOn u m 3) = true then false else true) else false))]) := by
      intro ls H locs hl hM
      have hq := hQ H locs 99 ls
      simp only [v_M_conditionHolds] at hq
      exact hq hM d_M_conditionHolds_99
    refine gm_ifz (b := (v_M_isSwitchedOn u m (4 : Int32))) (tgt := 98) hx hb d_M_conditionHolds_83 rfl (fun h4 => ?_) (fun h4 => ?_)
    · refine lv_iconst (v := 0) hx hb d_M_conditionHolds_98 (by decide) ?_
      have hJ := J5
      try simp only [if_neg (gm_nf h4)] at hJ
      exact hJ ls H locs hl hM
    · refine lv_aload_n hx hb d_M_conditionHolds_86 rfl (lv_at hl 0 rfl) ?_
      refine lv_iconst (v := 3) hx hb d_M_conditionHolds_87 (by decide) ?_
      refine gm_Vi (As := [.int (nI 3)]) (rest := []) hF hM (c_M_isOn (u := u) (m := m) (sn := 3) (by omega) (by omega)) (gk_M_78 hts ⟨by decide, by decide⟩) (gv_M hF hM (by omega) rfl) rfl hl.1 rfl (Nat.le_of_ble_eq_true rfl) ⟨Nat.zero_le _, Nat.zero_le _⟩ d_M_conditionHolds_88 (fun H locs hM => ?_)
      refine gm_ifn (b := (v_M_isOn u m 3)) (tgt := 98) hx hb d_M_conditionHolds_91 rfl (fun h6 => ?_) (fun h6 => ?_)
      · refine lv_iconst (v := 0) hx hb d_M_conditionHolds_98 (by decide) ?_
        have hJ := J5
        try simp only [if_pos h4, if_pos h6] at hJ
        exact hJ ls H locs hl hM
      · refine lv_iconst (v := 1) hx hb d_M_conditionHolds_94 (by decide) ?_
        refine lv_goto (tgt := 99) hx hb d_M_conditionHolds_95 rfl ?_
        have hJ := J5
        try simp only [if_pos h4, if_neg (gm_nf h6)] at hJ
        exact hJ ls H locs hl hM
  · refine lv_tableIn (off := 99) (tgt := 100) hx hb d_M_conditionHolds_1 (by decide) (by decide) (by decide +kernel) rfl ?_
    refine lv_aload_n hx hb d_M_conditionHolds_100 rfl (lv_at hl 0 rfl) ?_
    refine lv_bipush (v := 8) hx hb d_M_conditionHolds_101 (by decide) ?_
    refine gm_Vi (As := [.int (8 : Int32)]) (rest := []) hF hM (c_M_isSwitchedOn (u := u) (m := m) (vn := (8 : Int32)) (by omega)) (gk_M_99 hts ⟨by decide, by decide⟩) (gv_M hF hM (by omega) rfl) rfl hl.1 rfl (Nat.le_of_ble_eq_true rfl) ⟨Nat.zero_le _, Nat.zero_le _⟩ d_M_conditionHolds_103 (fun H locs hM => ?_)
    have J8 : ∀ (ls : Array Slot) (H : Heap) (locs : List Loc), lv_has ls 2 [(0, .ref (a (3 + m))), (1, .int (nI 8))] → gm_M D A s (gm_W dk a) u H locs → W p l e rm_M_conditionHolds s mm args below meth c H locs 0 0 Q (F0 mm 122 ls [.int (gm_b (if (v_M_isSwitchedOn u m (8 : Int32)) = true then (if (v_M_isOn u m 1) = true then true else false) else false))]) := by
      intro ls H locs hl hM
      have hq := hQ H locs 122 ls
      simp only [v_M_conditionHolds] at hq
      exact hq hM d_M_conditionHolds_122
    refine gm_ifz (b := (v_M_isSwitchedOn u m (8 : Int32))) (tgt := 121) hx hb d_M_conditionHolds_106 rfl (fun h7 => ?_) (fun h7 => ?_)
    · refine lv_iconst (v := 0) hx hb d_M_conditionHolds_121 (by decide) ?_
      have hJ := J8
      try simp only [if_neg (gm_nf h7)] at hJ
      exact hJ ls H locs hl hM
    · refine lv_aload_n hx hb d_M_conditionHolds_109 rfl (lv_at hl 0 rfl) ?_
      refine lv_iconst (v := 1) hx hb d_M_conditionHolds_110 (by decide) ?_
      refine gm_Vi (As := [.int (nI 1)]) (rest := []) hF hM (c_M_isOn (u := u) (m := m) (sn := 1) (by omega) (by omega)) (gk_M_78 hts ⟨by decide, by decide⟩) (gv_M hF hM (by omega) rfl) rfl hl.1 rfl (Nat.le_of_ble_eq_true rfl) ⟨Nat.zero_le _, Nat.zero_le _⟩ d_M_conditionHolds_111 (fun H locs hM => ?_)
      refine gm_ifz (b := (v_M_isOn u m 1)) (tgt := 121) hx hb d_M_conditionHolds_114 rfl (fun h9 => ?_) (fun h9 => ?_)
      · refine lv_iconst (v := 0) hx hb d_M_conditionHolds_121 (by decide) ?_
        have hJ := J8
        try simp only [if_pos h7, if_neg (gm_nf h9)] at hJ
        exact hJ ls H locs hl hM
      · refine lv_iconst (v := 1) hx hb d_M_conditionHolds_117 (by decide) ?_
        refine lv_goto (tgt := 122) hx hb d_M_conditionHolds_118 rfl ?_
        have hJ := J8
        try simp only [if_pos h7, if_pos h9] at hJ
        exact hJ ls H locs hl hM
  · refine lv_tableIn (off := 122) (tgt := 123) hx hb d_M_conditionHolds_1 (by decide) (by decide) (by decide +kernel) rfl ?_
    refine lv_aload_n hx hb d_M_conditionHolds_123 rfl (lv_at hl 0 rfl) ?_
    refine lv_bipush (v := 8) hx hb d_M_conditionHolds_124 (by decide) ?_
    refine gm_Vi (As := [.int (8 : Int32)]) (rest := []) hF hM (c_M_isSwitchedOn (u := u) (m := m) (vn := (8 : Int32)) (by omega)) (gk_M_99 hts ⟨by decide, by decide⟩) (gv_M hF hM (by omega) rfl) rfl hl.1 rfl (Nat.le_of_ble_eq_true rfl) ⟨Nat.zero_le _, Nat.zero_le _⟩ d_M_conditionHolds_126 (fun H locs hM => ?_)
    have J11 : ∀ (ls : Array Slot) (H : Heap) (locs : List Loc), lv_has ls 2 [(0, .ref (a (3 + m))), (1, .int (nI 9))] → gm_M D A s (gm_W dk a) u H locs → W p l e rm_M_conditionHolds s mm args below meth c H locs 0 0 Q (F0 mm 145 ls [.int (gm_b (if (v_M_isSwitchedOn u m (8 : Int32)) = true then (if (v_M_isOn u m 0) = true then false else true) else false))]) := by
      intro ls H locs hl hM
      have hq := hQ H locs 145 ls
      simp only [v_M_conditionHolds] at hq
      exact hq hM d_M_conditionHolds_145
    refine gm_ifz (b := (v_M_isSwitchedOn u m (8 : Int32))) (tgt := 144) hx hb d_M_conditionHolds_129 rfl (fun h10 => ?_) (fun h10 => ?_)
    · refine lv_iconst (v := 0) hx hb d_M_conditionHolds_144 (by decide) ?_
      have hJ := J11
      try simp only [if_neg (gm_nf h10)] at hJ
      exact hJ ls H locs hl hM
    · refine lv_aload_n hx hb d_M_conditionHolds_132 rfl (lv_at hl 0 rfl) ?_
      refine lv_iconst (v := 0) hx hb d_M_conditionHolds_133 (by decide) ?_
      refine gm_Vi (As := [.int (nI 0)]) (rest := []) hF hM (c_M_isOn (u := u) (m := m) (sn := 0) (by omega) (by omega)) (gk_M_78 hts ⟨by decide, by decide⟩) (gv_M hF hM (by omega) rfl) rfl hl.1 rfl (Nat.le_of_ble_eq_true rfl) ⟨Nat.zero_le _, Nat.zero_le _⟩ d_M_conditionHolds_134 (fun H locs hM => ?_)
      refine gm_ifn (b := (v_M_isOn u m 0)) (tgt := 144) hx hb d_M_conditionHolds_137 rfl (fun h12 => ?_) (fun h12 => ?_)
      · refine lv_iconst (v := 0) hx hb d_M_conditionHolds_144 (by decide) ?_
        have hJ := J11
        try simp only [if_pos h10, if_pos h12] at hJ
        exact hJ ls H locs hl hM
      · refine lv_iconst (v := 1) hx hb d_M_conditionHolds_140 (by decide) ?_
        refine lv_goto (tgt := 145) hx hb d_M_conditionHolds_141 rfl ?_
        have hJ := J11
        try simp only [if_pos h10, if_neg (gm_nf h12)] at hJ
        exact hJ ls H locs hl hM
  · refine lv_tableIn (off := 145) (tgt := 146) hx hb d_M_conditionHolds_1 (by decide) (by decide) (by decide +kernel) rfl ?_
    refine lv_aload_n hx hb d_M_conditionHolds_146 rfl (lv_at hl 0 rfl) ?_
    refine lv_bipush (v := 16) hx hb d_M_conditionHolds_147 (by decide) ?_
    refine gm_Vi (As := [.int (16 : Int32)]) (rest := []) hF hM (c_M_isSwitchedOn (u := u) (m := m) (vn := (16 : Int32)) (by omega)) (gk_M_99 hts ⟨by decide, by decide⟩) (gv_M hF hM (by omega) rfl) rfl hl.1 rfl (Nat.le_of_ble_eq_true rfl) ⟨Nat.zero_le _, Nat.zero_le _⟩ d_M_conditionHolds_149 (fun H locs hM => ?_)
    have J14 : ∀ (ls : Array Slot) (H : Heap) (locs : List Loc), lv_has ls 2 [(0, .ref (a (3 + m))), (1, .int (nI 10))] → gm_M D A s (gm_W dk a) u H locs → W p l e rm_M_conditionHolds s mm args below meth c H locs 0 0 Q (F0 mm 168 ls [.int (gm_b (if (v_M_isSwitchedOn u m (16 : Int32)) = true then (if (v_M_isOn u m 0) = true then true else false) else false))]) := by
      intro ls H locs hl hM
      have hq := hQ H locs 168 ls
      simp only [v_M_conditionHolds] at hq
      exact hq hM d_M_conditionHolds_168
    refine gm_ifz (b := (v_M_isSwitchedOn u m (16 : Int32))) (tgt := 167) hx hb d_M_conditionHolds_152 rfl (fun h13 => ?_) (fun h13 => ?_)
    · refine lv_iconst (v := 0) hx hb d_M_conditionHolds_167 (by decide) ?_
      have hJ := J14
      try simp only [if_neg (gm_nf h13)] at hJ
      exact hJ ls H locs hl hM
    · refine lv_aload_n hx hb d_M_conditionHolds_155 rfl (lv_at hl 0 rfl) ?_
      refine lv_iconst (v := 0) hx hb d_M_conditionHolds_156 (by decide) ?_
      refine gm_Vi (As := [.int (nI 0)]) (rest := []) hF hM (c_M_isOn (u := u) (m := m) (sn := 0) (by omega) (by omega)) (gk_M_78 hts ⟨by decide, by decide⟩) (gv_M hF hM (by omega) rfl) rfl hl.1 rfl (Nat.le_of_ble_eq_true rfl) ⟨Nat.zero_le _, Nat.zero_le _⟩ d_M_conditionHolds_157 (fun H locs hM => ?_)
      refine gm_ifz (b := (v_M_isOn u m 0)) (tgt := 167) hx hb d_M_conditionHolds_160 rfl (fun h15 => ?_) (fun h15 => ?_)
      · refine lv_iconst (v := 0) hx hb d_M_conditionHolds_167 (by decide) ?_
        have hJ := J14
        try simp only [if_pos h13, if_neg (gm_nf h15)] at hJ
        exact hJ ls H locs hl hM
      · refine lv_iconst (v := 1) hx hb d_M_conditionHolds_163 (by decide) ?_
        refine lv_goto (tgt := 168) hx hb d_M_conditionHolds_164 rfl ?_
        have hJ := J14
        try simp only [if_pos h13, if_pos h15] at hJ
        exact hJ ls H locs hl hM
  · refine lv_tableIn (off := 168) (tgt := 169) hx hb d_M_conditionHolds_1 (by decide) (by decide) (by decide +kernel) rfl ?_
    refine lv_aload_n hx hb d_M_conditionHolds_169 rfl (lv_at hl 0 rfl) ?_
    refine lv_bipush (v := 16) hx hb d_M_conditionHolds_170 (by decide) ?_
    refine gm_Vi (As := [.int (16 : Int32)]) (rest := []) hF hM (c_M_isSwitchedOn (u := u) (m := m) (vn := (16 : Int32)) (by omega)) (gk_M_99 hts ⟨by decide, by decide⟩) (gv_M hF hM (by omega) rfl) rfl hl.1 rfl (Nat.le_of_ble_eq_true rfl) ⟨Nat.zero_le _, Nat.zero_le _⟩ d_M_conditionHolds_172 (fun H locs hM => ?_)
    have J17 : ∀ (ls : Array Slot) (H : Heap) (locs : List Loc), lv_has ls 2 [(0, .ref (a (3 + m))), (1, .int (nI 11))] → gm_M D A s (gm_W dk a) u H locs → W p l e rm_M_conditionHolds s mm args below meth c H locs 0 0 Q (F0 mm 191 ls [.int (gm_b (if (v_M_isSwitchedOn u m (16 : Int32)) = true then (if (v_M_isOn u m 1) = true then false else true) else false))]) := by
      intro ls H locs hl hM
      have hq := hQ H locs 191 ls
      simp only [v_M_conditionHolds] at hq
      exact hq hM d_M_conditionHolds_191
    refine gm_ifz (b := (v_M_isSwitchedOn u m (16 : Int32))) (tgt := 190) hx hb d_M_conditionHolds_175 rfl (fun h16 => ?_) (fun h16 => ?_)
    · refine lv_iconst (v := 0) hx hb d_M_conditionHolds_190 (by decide) ?_
      have hJ := J17
      try simp only [if_neg (gm_nf h16)] at hJ
      exact hJ ls H locs hl hM
    · refine lv_aload_n hx hb d_M_conditionHolds_178 rfl (lv_at hl 0 rfl) ?_
      refine lv_iconst (v := 1) hx hb d_M_conditionHolds_179 (by decide) ?_
      refine gm_Vi (As := [.int (nI 1)]) (rest := []) hF hM (c_M_isOn (u := u) (m := m) (sn := 1) (by omega) (by omega)) (gk_M_78 hts ⟨by decide, by decide⟩) (gv_M hF hM (by omega) rfl) rfl hl.1 rfl (Nat.le_of_ble_eq_true rfl) ⟨Nat.zero_le _, Nat.zero_le _⟩ d_M_conditionHolds_180 (fun H locs hM => ?_)
      refine gm_ifn (b := (v_M_isOn u m 1)) (tgt := 190) hx hb d_M_conditionHolds_183 rfl (fun h18 => ?_) (fun h18 => ?_)
      · refine lv_iconst (v := 0) hx hb d_M_conditionHolds_190 (by decide) ?_
        have hJ := J17
        try simp only [if_pos h16, if_pos h18] at hJ
        exact hJ ls H locs hl hM
      · refine lv_iconst (v := 1) hx hb d_M_conditionHolds_186 (by decide) ?_
        refine lv_goto (tgt := 191) hx hb d_M_conditionHolds_187 rfl ?_
        have hJ := J17
        try simp only [if_pos h16, if_neg (gm_nf h18)] at hJ
        exact hJ ls H locs hl hM
  · refine lv_tableIn (off := 191) (tgt := 192) hx hb d_M_conditionHolds_1 (by decide) (by decide) (by decide +kernel) rfl ?_
    refine lv_aload_n hx hb d_M_conditionHolds_192 rfl (lv_at hl 0 rfl) ?_
    refine lv_iconst (v := 1) hx hb d_M_conditionHolds_193 (by decide) ?_
    refine gm_Vi (As := [.int (1 : Int32)]) (rest := []) hF hM (c_M_isSwitchedOn (u := u) (m := m) (vn := (1 : Int32)) (by omega)) (gk_M_99 hts ⟨by decide, by decide⟩) (gv_M hF hM (by omega) rfl) rfl hl.1 rfl (Nat.le_of_ble_eq_true rfl) ⟨Nat.zero_le _, Nat.zero_le _⟩ d_M_conditionHolds_194 (fun H locs hM => ?_)
    have J20 : ∀ (ls : Array Slot) (H : Heap) (locs : List Loc), lv_has ls 2 [(0, .ref (a (3 + m))), (1, .int (nI 12))] → gm_M D A s (gm_W dk a) u H locs → W p l e rm_M_conditionHolds s mm args below meth c H locs 0 0 Q (F0 mm 213 ls [.int (gm_b (if (v_M_isSwitchedOn u m (1 : Int32)) = true then (if (v_M_isOn u m 4) = true then false else true) else false))]) := by
      intro ls H locs hl hM
      have hq := hQ H locs 213 ls
      simp only [v_M_conditionHolds] at hq
      exact hq hM d_M_conditionHolds_213
    refine gm_ifz (b := (v_M_isSwitchedOn u m (1 : Int32))) (tgt := 212) hx hb d_M_conditionHolds_197 rfl (fun h19 => ?_) (fun h19 => ?_)
    · refine lv_iconst (v := 0) hx hb d_M_conditionHolds_212 (by decide) ?_
      have hJ := J20
      try simp only [if_neg (gm_nf h19)] at hJ
      exact hJ ls H locs hl hM
    · refine lv_aload_n hx hb d_M_conditionHolds_200 rfl (lv_at hl 0 rfl) ?_
      refine lv_iconst (v := 4) hx hb d_M_conditionHolds_201 (by decide) ?_
      refine gm_Vi (As := [.int (nI 4)]) (rest := []) hF hM (c_M_isOn (u := u) (m := m) (sn := 4) (by omega) (by omega)) (gk_M_78 hts ⟨by decide, by decide⟩) (gv_M hF hM (by omega) rfl) rfl hl.1 rfl (Nat.le_of_ble_eq_true rfl) ⟨Nat.zero_le _, Nat.zero_le _⟩ d_M_conditionHolds_202 (fun H locs hM => ?_)
      refine gm_ifn (b := (v_M_isOn u m 4)) (tgt := 212) hx hb d_M_conditionHolds_205 rfl (fun h21 => ?_) (fun h21 => ?_)
      · refine lv_iconst (v := 0) hx hb d_M_conditionHolds_212 (by decide) ?_
        have hJ := J20
        try simp only [if_pos h19, if_pos h21] at hJ
        exact hJ ls H locs hl hM
      · refine lv_iconst (v := 1) hx hb d_M_conditionHolds_208 (by decide) ?_
        refine lv_goto (tgt := 213) hx hb d_M_conditionHolds_209 rfl ?_
        have hJ := J20
        try simp only [if_pos h19, if_neg (gm_nf h21)] at hJ
        exact hJ ls H locs hl hM
  · refine lv_tableIn (off := 213) (tgt := 214) hx hb d_M_conditionHolds_1 (by decide) (by decide) (by decide +kernel) rfl ?_
    refine lv_aload_n hx hb d_M_conditionHolds_214 rfl (lv_at hl 0 rfl) ?_
    refine lv_iconst (v := 1) hx hb d_M_conditionHolds_215 (by decide) ?_
    refine gm_Vi (As := [.int (1 : Int32)]) (rest := []) hF hM (c_M_isSwitchedOn (u := u) (m := m) (vn := (1 : Int32)) (by omega)) (gk_M_99 hts ⟨by decide, by decide⟩) (gv_M hF hM (by omega) rfl) rfl hl.1 rfl (Nat.le_of_ble_eq_true rfl) ⟨Nat.zero_le _, Nat.zero_le _⟩ d_M_conditionHolds_216 (fun H locs hM => ?_)
    have J23 : ∀ (ls : Array Slot) (H : Heap) (locs : List Loc), lv_has ls 2 [(0, .ref (a (3 + m))), (1, .int (nI 13))] → gm_M D A s (gm_W dk a) u H locs → W p l e rm_M_conditionHolds s mm args below meth c H locs 0 0 Q (F0 mm 235 ls [.int (gm_b (if (v_M_isSwitchedOn u m (1 : Int32)) = true then false else (if (v_M_isOn u m 4) = true then true else false)))]) := by
      intro ls H locs hl hM
      have hq := hQ H locs 235 ls
      simp only [v_M_conditionHolds] at hq
      exact hq hM d_M_conditionHolds_235
    refine gm_ifn (b := (v_M_isSwitchedOn u m (1 : Int32))) (tgt := 234) hx hb d_M_conditionHolds_219 rfl (fun h22 => ?_) (fun h22 => ?_)
    · refine lv_iconst (v := 0) hx hb d_M_conditionHolds_234 (by decide) ?_
      have hJ := J23
      try simp only [if_pos h22] at hJ
      exact hJ ls H locs hl hM
    · refine lv_aload_n hx hb d_M_conditionHolds_222 rfl (lv_at hl 0 rfl) ?_
      refine lv_iconst (v := 4) hx hb d_M_conditionHolds_223 (by decide) ?_
      refine gm_Vi (As := [.int (nI 4)]) (rest := []) hF hM (c_M_isOn (u := u) (m := m) (sn := 4) (by omega) (by omega)) (gk_M_78 hts ⟨by decide, by decide⟩) (gv_M hF hM (by omega) rfl) rfl hl.1 rfl (Nat.le_of_ble_eq_true rfl) ⟨Nat.zero_le _, Nat.zero_le _⟩ d_M_conditionHolds_224 (fun H locs hM => ?_)
      refine gm_ifz (b := (v_M_isOn u m 4)) (tgt := 234) hx hb d_M_conditionHolds_227 rfl (fun h24 => ?_) (fun h24 => ?_)
      · refine lv_iconst (v := 0) hx hb d_M_conditionHolds_234 (by decide) ?_
        have hJ := J23
        try simp only [if_neg (gm_nf h22), if_neg (gm_nf h24)] at hJ
        exact hJ ls H locs hl hM
      · refine lv_iconst (v := 1) hx hb d_M_conditionHolds_230 (by decide) ?_
        refine lv_goto (tgt := 235) hx hb d_M_conditionHolds_231 rfl ?_
        have hJ := J23
        try simp only [if_neg (gm_nf h22), if_pos h24] at hJ
        exact hJ ls H locs hl hM
  · refine lv_tableIn (off := 241) (tgt := 242) hx hb d_M_conditionHolds_1 (by decide) (by decide) (by decide +kernel) rfl ?_
    refine lv_iconst (v := 0) hx hb d_M_conditionHolds_242 (by decide) ?_
    have hq := hQ H locs 243 ls
    simp only [v_M_conditionHolds] at hq
    exact hq hM d_M_conditionHolds_243
  · refine lv_tableIn (off := 235) (tgt := 236) hx hb d_M_conditionHolds_1 (by decide) (by decide) (by decide +kernel) rfl ?_
    refine lv_aload_n hx hb d_M_conditionHolds_236 rfl (lv_at hl 0 rfl) ?_
    refine lv_iconst (v := 5) hx hb d_M_conditionHolds_237 (by decide) ?_
    refine gm_Vi (As := [.int (nI 5)]) (rest := []) hF hM (c_M_isOn (u := u) (m := m) (sn := 5) (by omega) (by omega)) (gk_M_78 hts ⟨by decide, by decide⟩) (gv_M hF hM (by omega) rfl) rfl hl.1 rfl (Nat.le_of_ble_eq_true rfl) ⟨Nat.zero_le _, Nat.zero_le _⟩ d_M_conditionHolds_238 (fun H locs hM => ?_)
    have hq := hQ H locs 241 ls
    simp only [v_M_conditionHolds] at hq
    exact hq hM d_M_conditionHolds_241
theorem d_M_watchConditions_0 : decode b_M_watchConditions 0 = .ok (.iconst 0, 1) := by decide +kernel
theorem d_M_watchConditions_1 : decode b_M_watchConditions 1 = .ok (.istore_n 1, 1) := by decide +kernel
theorem d_M_watchConditions_2 : decode b_M_watchConditions 2 = .ok (.bipush 6, 2) := by decide +kernel
theorem d_M_watchConditions_4 : decode b_M_watchConditions 4 = .ok (.istore_n 2, 1) := by decide +kernel
theorem d_M_watchConditions_5 : decode b_M_watchConditions 5 = .ok (.iload_n 2, 1) := by decide +kernel
theorem d_M_watchConditions_6 : decode b_M_watchConditions 6 = .ok (.bipush 16, 2) := by decide +kernel
theorem d_M_watchConditions_8 : decode b_M_watchConditions 8 = .ok (.if_icmp .ge 69, 3) := by decide +kernel
theorem d_M_watchConditions_11 : decode b_M_watchConditions 11 = .ok (.iload_n 2, 1) := by decide +kernel
theorem d_M_watchConditions_12 : decode b_M_watchConditions 12 = .ok (.bipush 14, 2) := by decide +kernel
theorem d_M_watchConditions_14 : decode b_M_watchConditions 14 = .ok (.if_icmp .eq 57, 3) := by decide +kernel
theorem d_M_watchConditions_17 : decode b_M_watchConditions 17 = .ok (.aload_n 0, 1) := by decide +kernel
theorem d_M_watchConditions_18 : decode b_M_watchConditions 18 = .ok (.getfield 17, 3) := by decide +kernel
theorem d_M_watchConditions_21 : decode b_M_watchConditions 21 = .ok (.iload_n 2, 1) := by decide +kernel
theorem d_M_watchConditions_22 : decode b_M_watchConditions 22 = .ok (.aload_n 0, 1) := by decide +kernel
theorem d_M_watchConditions_23 : decode b_M_watchConditions 23 = .ok (.iload_n 2, 1) := by decide +kernel
theorem d_M_watchConditions_24 : decode b_M_watchConditions 24 = .ok (.invokevirtual 90, 3) := by decide +kernel
theorem d_M_watchConditions_27 : decode b_M_watchConditions 27 = .ok (.ifCond .eq 22, 3) := by decide +kernel
theorem d_M_watchConditions_30 : decode b_M_watchConditions 30 = .ok (.aload_n 0, 1) := by decide +kernel
theorem d_M_watchConditions_31 : decode b_M_watchConditions 31 = .ok (.getfield 17, 3) := by decide +kernel
theorem d_M_watchConditions_34 : decode b_M_watchConditions 34 = .ok (.iload_n 2, 1) := by decide +kernel
theorem d_M_watchConditions_35 : decode b_M_watchConditions 35 = .ok (.iaload, 1) := by decide +kernel
theorem d_M_watchConditions_36 : decode b_M_watchConditions 36 = .ok (.iconst 1, 1) := by decide +kernel
theorem d_M_watchConditions_37 : decode b_M_watchConditions 37 = .ok (.iadd, 1) := by decide +kernel
theorem d_M_watchConditions_38 : decode b_M_watchConditions 38 = .ok (.getstatic 93, 3) := by decide +kernel
theorem d_M_watchConditions_41 : decode b_M_watchConditions 41 = .ok (.iload_n 2, 1) := by decide +kernel
theorem d_M_watchConditions_42 : decode b_M_watchConditions 42 = .ok (.iaload, 1) := by decide +kernel
theorem d_M_watchConditions_43 : decode b_M_watchConditions 43 = .ok (.invokestatic 96, 3) := by decide +kernel
theorem d_M_watchConditions_46 : decode b_M_watchConditions 46 = .ok (.goto 4, 3) := by decide +kernel
theorem d_M_watchConditions_49 : decode b_M_watchConditions 49 = .ok (.iconst 0, 1) := by decide +kernel
theorem d_M_watchConditions_50 : decode b_M_watchConditions 50 = .ok (.iastore, 1) := by decide +kernel
theorem d_M_watchConditions_51 : decode b_M_watchConditions 51 = .ok (.aload_n 0, 1) := by decide +kernel
theorem d_M_watchConditions_52 : decode b_M_watchConditions 52 = .ok (.getfield 17, 3) := by decide +kernel
theorem d_M_watchConditions_55 : decode b_M_watchConditions 55 = .ok (.iload_n 2, 1) := by decide +kernel
theorem d_M_watchConditions_56 : decode b_M_watchConditions 56 = .ok (.iaload, 1) := by decide +kernel
theorem d_M_watchConditions_57 : decode b_M_watchConditions 57 = .ok (.getstatic 93, 3) := by decide +kernel
theorem d_M_watchConditions_60 : decode b_M_watchConditions 60 = .ok (.iload_n 2, 1) := by decide +kernel
theorem d_M_watchConditions_61 : decode b_M_watchConditions 61 = .ok (.iaload, 1) := by decide +kernel
theorem d_M_watchConditions_62 : decode b_M_watchConditions 62 = .ok (.if_icmp .ne 9, 3) := by decide +kernel
theorem d_M_watchConditions_65 : decode b_M_watchConditions 65 = .ok (.iload_n 1, 1) := by decide +kernel
theorem d_M_watchConditions_66 : decode b_M_watchConditions 66 = .ok (.iconst 1, 1) := by decide +kernel
theorem d_M_watchConditions_67 : decode b_M_watchConditions 67 = .ok (.iload_n 2, 1) := by decide +kernel
theorem d_M_watchConditions_68 : decode b_M_watchConditions 68 = .ok (.ishl, 1) := by decide +kernel
theorem d_M_watchConditions_69 : decode b_M_watchConditions 69 = .ok (.ior, 1) := by decide +kernel
theorem d_M_watchConditions_70 : decode b_M_watchConditions 70 = .ok (.istore_n 1, 1) := by decide +kernel
theorem d_M_watchConditions_71 : decode b_M_watchConditions 71 = .ok (.iinc 2 1, 3) := by decide +kernel
theorem d_M_watchConditions_74 : decode b_M_watchConditions 74 = .ok (.goto (-69), 3) := by decide +kernel
theorem d_M_watchConditions_77 : decode b_M_watchConditions 77 = .ok (.iload_n 1, 1) := by decide +kernel
theorem d_M_watchConditions_78 : decode b_M_watchConditions 78 = .ok (.ireturn, 1) := by decide +kernel
def lp_M_watchC (m : Nat) : Nat → Nat → Int32 → gm_St → Int32 × gm_St
  | 0, _, x, u => (x, u)
  | k + 1, i, x, u => lp_M_watchC m k (i + 1) (if (nI i) = (14 : Int32) then x else (if ((gm_sG u (1 + m) i (if (v_M_conditionHolds u m i) = true then (if (gm_lim i) < ((u.2.1 (1 + m) i) + (1 : Int32)) then (gm_lim i) else ((u.2.1 (1 + m) i) + (1 : Int32))) else (0 : Int32))).2.1 (1 + m) i) = (gm_lim i) then (x ||| ((1 : Int32) <<< ((nI i) &&& 31))) else x)) (if (nI i) = (14 : Int32) then u else (if ((gm_sG u (1 + m) i (if (v_M_conditionHolds u m i) = true then (if (gm_lim i) < ((u.2.1 (1 + m) i) + (1 : Int32)) then (gm_lim i) else ((u.2.1 (1 + m) i) + (1 : Int32))) else (0 : Int32))).2.1 (1 + m) i) = (gm_lim i) then (gm_sG u (1 + m) i (if (v_M_conditionHolds u m i) = true then (if (gm_lim i) < ((u.2.1 (1 + m) i) + (1 : Int32)) then (gm_lim i) else ((u.2.1 (1 + m) i) + (1 : Int32))) else (0 : Int32))) else (gm_sG u (1 + m) i (if (v_M_conditionHolds u m i) = true then (if (gm_lim i) < ((u.2.1 (1 + m) i) + (1 : Int32)) then (gm_lim i) else ((u.2.1 (1 + m) i) + (1 : Int32))) else (0 : Int32)))))
def v_M_watchConditions (u : gm_St) (m : Nat) : Int32 := ((lp_M_watchC m 10 6 (0 : Int32) u).1)
def s_M_watchConditions (u : gm_St) (m : Nat) : gm_St := ((lp_M_watchC m 10 6 (0 : Int32) u).2)
set_option maxRecDepth 100000 in
set_option maxHeartbeats 4000000 in
theorem c_M_watchConditions {l : Launch} {D : va_G} {dk : Nat → ClassId} {a : Nat → Nat} {A : Nat → Prop} {lt : Nat} {u : gm_St} {m : Nat} (hm : m < 2) : gm_I l D (gm_ty dk) (gm_W dk a) A lt y_M_watchConditions b_M_watchConditions 3 (some .int) rm_M_watchConditions [.ref (a (3 + m))] u (v_M_watchConditions u m) (s_M_watchConditions u m) := by
  refine gm_enterI (by decide) (Nat.le_of_ble_eq_true rfl) ?_
  intro p e s mm args below meth c ls Q H locs hF hM hl hQ
  have hx := hF.1
  have hb := hF.2.1
  have hml := hF.2.2.1
  have hown := hF.2.2.2.1
  have hts := hF.2.2.2.2.1
  have hl : lv_has ls 3 [(0, .ref (a (3 + m)))] := hl
  refine lv_iconst (v := 0) hx hb d_M_watchConditions_0 (by decide) ?_
  refine lv_istore_n (lv' := [(1, .int (0 : Int32)), (0, .ref (a (3 + m)))]) hx hb d_M_watchConditions_1 rfl hl (by decide) rfl (fun ls hl => ?_)
  refine lv_bipush (v := 6) hx hb d_M_watchConditions_2 (by decide) ?_
  refine lv_istore_n (lv' := [(2, .int (6 : Int32)), (1, .int (0 : Int32)), (0, .ref (a (3 + m)))]) hx hb d_M_watchConditions_4 rfl hl (by decide) rfl (fun ls hl => ?_)
  have L1 : ∀ (k1 i1 : Nat) (x1 : Int32) (w1 : gm_St) (ls : Array Slot) (H : Heap) (locs : List Loc), i1 + k1 = 16 → 6 ≤ i1 → lv_has ls 3 [(2, .int (nI i1)), (1, .int x1), (0, .ref (a (3 + m)))] → gm_M D A s (gm_W dk a) w1 H locs → (∀ (ls : Array Slot) (H : Heap) (locs : List Loc), lv_has ls 3 [(2, .int (nI 16)), (1, .int ((lp_M_watchC m k1 i1 x1 w1).1)), (0, .ref (a (3 + m)))] → gm_M D A s (gm_W dk a) ((lp_M_watchC m k1 i1 x1 w1).2) H locs → W p l e rm_M_watchConditions s mm args below meth c H locs 0 0 Q (F0 mm 77 ls [])) → W p l e rm_M_watchConditions s mm args below meth c H locs 0 0 Q (F0 mm 5 ls []) := by
    intro k1
    induction k1 with
    | zero =>
      intro i1 x1 w1 ls H locs hk1 hI1 hl hM kk
      obtain rfl : i1 = 16 := by omega
      refine lv_iload_n hx hb d_M_watchConditions_5 rfl (lv_at hl 0 rfl) ?_
      refine lv_bipush (v := 16) hx hb d_M_watchConditions_6 (by decide) ?_
      refine lv_icmp_ge (tgt := 77) hx hb d_M_watchConditions_8 rfl (fun _ => ?_) (fun h => absurd (by decide) h)
      exact kk ls H locs hl hM
    | succ k1 ih =>
      intro i1 x1 w1 ls H locs hk1 hI1 hl hM kk
      refine lv_iload_n hx hb d_M_watchConditions_5 rfl (lv_at hl 0 rfl) ?_
      refine lv_bipush (v := 16) hx hb d_M_watchConditions_6 (by decide) ?_
      refine lv_icmp_ge (tgt := 77) hx hb d_M_watchConditions_8 rfl (fun h => absurd h (nI_ge (a := i1) (b := 16) (by omega) (by first | decide | omega))) (fun _ => ?_)
      refine lv_iload_n hx hb d_M_watchConditions_11 rfl (lv_at hl 0 rfl) ?_
      refine lv_bipush (v := 14) hx hb d_M_watchConditions_12 (by decide) ?_
      have J3 : ∀ (ls : Array Slot) (H : Heap) (locs : List Loc), lv_has ls 3 [(0, .ref (a (3 + m))), (1, .int (if (nI i1) = (14 : Int32) then x1 else (if ((gm_sG w1 (1 + m) i1 (if (v_M_conditionHolds w1 m i1) = true then (if (gm_lim i1) < ((w1.2.1 (1 + m) i1) + (1 : Int32)) then (gm_lim i1) else ((w1.2.1 (1 + m) i1) + (1 : Int32))) else (0 : Int32))).2.1 (1 + m) i1) = (gm_lim i1) then (x1 ||| ((1 : Int32) <<< ((nI i1) &&& 31))) else x1))), (2, .int (nI i1))] → gm_M D A s (gm_W dk a) (if (nI i1) = (14 : Int32) then w1 else (if ((gm_sG w1 (1 + m) i1 (if (v_M_conditionHolds w1 m i1) = true then (if (gm_lim i1) < ((w1.2.1 (1 + m) i1) + (1 : Int32)) then (gm_lim i1) else ((w1.2.1 (1 + m) i1) + (1 : Int32))) else (0 : Int32))).2.1 (1 + m) i1) = (gm_lim i1) then (gm_sG w1 (1 + m) i1 (if (v_M_conditionHolds w1 m i1) = true then (if (gm_lim i1) < ((w1.2.1 (1 + m) i1) + (1 : Int32)) then (gm_lim i1) else ((w1.2.1 (1 + m) i1) + (1 : Int32))) else (0 : Int32))) else (gm_sG w1 (1 + m) i1 (if (v_M_conditionHolds w1 m i1) = true then (if (gm_lim i1) < ((w1.2.1 (1 + m) i1) + (1 : Int32)) then (gm_lim i1) else ((w1.2.1 (1 + m) i1) + (1 : Int32))) else (0 : Int32))))) H locs → W p l e rm_M_watchConditions s mm args below meth c H locs 0 0 Q (F0 mm 71 ls []) := by
        intro ls H locs hl hM
        refine lv_iinc (k := 2) (v := (nI (i1 + 1))) (lv' := [(2, .int (nI (i1 + 1))), (0, .ref (a (3 + m))), (1, .int (if (nI i1) = (14 : Int32) then x1 else (if ((gm_sG w1 (1 + m) i1 (if (v_M_conditionHolds w1 m i1) = true then (if (gm_lim i1) < ((w1.2.1 (1 + m) i1) + (1 : Int32)) then (gm_lim i1) else ((w1.2.1 (1 + m) i1) + (1 : Int32))) else (0 : Int32))).2.1 (1 + m) i1) = (gm_lim i1) then (x1 ||| ((1 : Int32) <<< ((nI i1) &&& 31))) else x1)))]) hx hb d_M_watchConditions_71 hl rfl (nI_1 _) (by decide) rfl (fun ls hl => ?_)
        refine lv_goto (tgt := 5) hx hb d_M_watchConditions_74 rfl ?_
        have hK := kk
        simp only [lp_M_watchC] at hK
        exact ih (i1 + 1) (if (nI i1) = (14 : Int32) then x1 else (if ((gm_sG w1 (1 + m) i1 (if (v_M_conditionHolds w1 m i1) = true then (if (gm_lim i1) < ((w1.2.1 (1 + m) i1) + (1 : Int32)) then (gm_lim i1) else ((w1.2.1 (1 + m) i1) + (1 : Int32))) else (0 : Int32))).2.1 (1 + m) i1) = (gm_lim i1) then (x1 ||| ((1 : Int32) <<< ((nI i1) &&& 31))) else x1)) (if (nI i1) = (14 : Int32) then w1 else (if ((gm_sG w1 (1 + m) i1 (if (v_M_conditionHolds w1 m i1) = true then (if (gm_lim i1) < ((w1.2.1 (1 + m) i1) + (1 : Int32)) then (gm_lim i1) else ((w1.2.1 (1 + m) i1) + (1 : Int32))) else (0 : Int32))).2.1 (1 + m) i1) = (gm_lim i1) then (gm_sG w1 (1 + m) i1 (if (v_M_conditionHolds w1 m i1) = true then (if (gm_lim i1) < ((w1.2.1 (1 + m) i1) + (1 : Int32)) then (gm_lim i1) else ((w1.2.1 (1 + m) i1) + (1 : Int32))) else (0 : Int32))) else (gm_sG w1 (1 + m) i1 (if (v_M_conditionHolds w1 m i1) = true then (if (gm_lim i1) < ((w1.2.1 (1 + m) i1) + (1 : Int32)) then (gm_lim i1) else ((w1.2.1 (1 + m) i1) + (1 : Int32))) else (0 : Int32))))) ls H locs (by omega) (by first | omega | assumption) (lv_sub hl [0, 2, 1] rfl) hM hK
      refine lv_icmp_eq (tgt := 71) hx hb d_M_watchConditions_14 rfl (fun h2 => ?_) (fun h2 => ?_)
      · have hJ := J3
        try simp only [if_pos h2] at hJ
        exact hJ ls H locs (lv_sub hl [2, 1, 0] rfl) hM
      · refine lv_aload_n hx hb d_M_watchConditions_17 rfl (lv_at hl 2 rfl) ?_
        refine gf_M_17 hF hM (by omega) d_M_watchConditions_18 ?_
        refine lv_iload_n hx hb d_M_watchConditions_21 rfl (lv_at hl 0 rfl) ?_
        refine lv_aload_n hx hb d_M_watchConditions_22 rfl (lv_at hl 2 rfl) ?_
        refine lv_iload_n hx hb d_M_watchConditions_23 rfl (lv_at hl 0 rfl) ?_
        refine gm_Vi (As := [.int (nI i1)]) (rest := [.int (nI i1), .ref (a (7 + m))]) hF hM (c_M_conditionHolds (u := w1) (m := m) (kn := i1) (by omega) (by omega)) (gk_M_90 hts ⟨by decide, by decide⟩) (gv_M hF hM (by omega) rfl) rfl hl.1 rfl (Nat.le_of_ble_eq_true rfl) ⟨Nat.zero_le _, Nat.zero_le _⟩ d_M_watchConditions_24 (fun H locs hM => ?_)
        have J5 : ∀ (ls : Array Slot) (H : Heap) (locs : List Loc), lv_has ls 3 [(0, .ref (a (3 + m))), (1, .int x1), (2, .int (nI i1))] → gm_M D A s (gm_W dk a) w1 H locs → W p l e rm_M_watchConditions s mm args below meth c H locs 0 0 Q (F0 mm 50 ls [.int (if (v_M_conditionHolds w1 m i1) = true then (if (gm_lim i1) < ((w1.2.1 (1 + m) i1) + (1 : Int32)) then (gm_lim i1) else ((w1.2.1 (1 + m) i1) + (1 : Int32))) else (0 : Int32)), .int (nI i1), .ref (a (7 + m))]) := by
          intro ls H locs hl hM
          refine gq_cnt (k := i1) hF hM (by omega) rfl (by omega) d_M_watchConditions_50 (fun H locs hM => ?_)
          refine lv_aload_n hx hb d_M_watchConditions_51 rfl (lv_at hl 0 rfl) ?_
          refine gf_M_17 hF hM (by omega) d_M_watchConditions_52 ?_
          refine lv_iload_n hx hb d_M_watchConditions_55 rfl (lv_at hl 2 rfl) ?_
          refine ga_cnt (k := i1) hF hM (by omega) rfl (by omega) d_M_watchConditions_56 ?_
          refine gf_M_93 hF hM d_M_watchConditions_57 ?_
          refine lv_iload_n hx hb d_M_watchConditions_60 rfl (lv_at hl 2 rfl) ?_
          refine ga_lim (k := i1) hF hM rfl (by omega) d_M_watchConditions_61 ?_
          refine lv_icmp_ne (tgt := 71) hx hb d_M_watchConditions_62 rfl (fun h6 => ?_) (fun h6 => ?_)
          · have hJ := J3
            try simp only [if_neg h2, if_neg h6] at hJ
            exact hJ ls H locs hl hM
          · refine lv_iload_n hx hb d_M_watchConditions_65 rfl (lv_at hl 1 rfl) ?_
            refine lv_iconst (v := 1) hx hb d_M_watchConditions_66 (by decide) ?_
            refine lv_iload_n hx hb d_M_watchConditions_67 rfl (lv_at hl 2 rfl) ?_
            refine lv_ishl hx hb d_M_watchConditions_68 ?_
            refine lv_ior hx hb d_M_watchConditions_69 ?_
            refine lv_istore_n (lv' := [(1, .int (x1 ||| ((1 : Int32) <<< ((nI i1) &&& 31)))), (0, .ref (a (3 + m))), (2, .int (nI i1))]) hx hb d_M_watchConditions_70 rfl hl (by decide) rfl (fun ls hl => ?_)
            have hJ := J3
            try simp only [if_neg h2, if_pos h6] at hJ
            exact hJ ls H locs (lv_sub hl [1, 0, 2] rfl) hM
        refine gm_ifz (b := (v_M_conditionHolds w1 m i1)) (tgt := 49) hx hb d_M_watchConditions_27 rfl (fun h4 => ?_) (fun h4 => ?_)
        · refine lv_iconst (v := 0) hx hb d_M_watchConditions_49 (by decide) ?_
          have hJ := J5
          try simp only [if_neg (gm_nf h4)] at hJ
          exact hJ ls H locs (lv_sub hl [2, 1, 0] rfl) hM
        · refine lv_aload_n hx hb d_M_watchConditions_30 rfl (lv_at hl 2 rfl) ?_
          refine gf_M_17 hF hM (by omega) d_M_watchConditions_31 ?_
          refine lv_iload_n hx hb d_M_watchConditions_34 rfl (lv_at hl 0 rfl) ?_
          refine ga_cnt (k := i1) hF hM (by omega) rfl (by omega) d_M_watchConditions_35 ?_
          refine lv_iconst (v := 1) hx hb d_M_watchConditions_36 (by decide) ?_
          refine lv_iadd hx hb d_M_watchConditions_37 ?_
          refine gf_M_93 hF hM d_M_watchConditions_38 ?_
          refine lv_iload_n hx hb d_M_watchConditions_41 rfl (lv_at hl 0 rfl) ?_
          refine ga_lim (k := i1) hF hM rfl (by omega) d_M_watchConditions_42 ?_
          refine va_mmin hx hb (by rw [hml]; exact hl.1.symm) hown (hts _ gw_ml_M_96) (hts _ gw_mst_min) (hts _ gw_mini) (hts _ gw_mcode_min) (Nat.le_of_ble_eq_true rfl) (Nat.le_of_ble_eq_true rfl) (Nat.zero_le _) (Nat.zero_le _) d_M_watchConditions_43 ?_
          refine lv_goto (tgt := 50) hx hb d_M_watchConditions_46 rfl ?_
          have hJ := J5
          try simp only [if_pos h4] at hJ
          exact hJ ls H locs (lv_sub hl [2, 1, 0] rfl) hM
  refine L1 10 6 (0 : Int32) u ls H locs (by omega) (by first | omega | assumption) hl hM (fun ls H locs hl hM => ?_)
  refine lv_iload_n hx hb d_M_watchConditions_77 rfl (lv_at hl 1 rfl) ?_
  have hq := hQ H locs 78 ls
  simp only [v_M_watchConditions, s_M_watchConditions] at hq
  exact hq hM d_M_watchConditions_78
theorem d_M_watchSwitch_0 : decode b_M_watchSwitch 0 = .ok (.aload_n 0, 1) := by decide +kernel
theorem d_M_watchSwitch_1 : decode b_M_watchSwitch 1 = .ok (.getfield 29, 3) := by decide +kernel
theorem d_M_watchSwitch_4 : decode b_M_watchSwitch 4 = .ok (.ifCond .ne 5, 3) := by decide +kernel
theorem d_M_watchSwitch_7 : decode b_M_watchSwitch 7 = .ok (.iconst 0, 1) := by decide +kernel
theorem d_M_watchSwitch_8 : decode b_M_watchSwitch 8 = .ok (.ireturn, 1) := by decide +kernel
theorem d_M_watchSwitch_9 : decode b_M_watchSwitch 9 = .ok (.aload_n 0, 1) := by decide +kernel
theorem d_M_watchSwitch_10 : decode b_M_watchSwitch 10 = .ok (.iconst 5, 1) := by decide +kernel
theorem d_M_watchSwitch_11 : decode b_M_watchSwitch 11 = .ok (.invokevirtual 78, 3) := by decide +kernel
theorem d_M_watchSwitch_14 : decode b_M_watchSwitch 14 = .ok (.ifCond .eq 9, 3) := by decide +kernel
theorem d_M_watchSwitch_17 : decode b_M_watchSwitch 17 = .ok (.aload_n 0, 1) := by decide +kernel
theorem d_M_watchSwitch_18 : decode b_M_watchSwitch 18 = .ok (.invokevirtual 45, 3) := by decide +kernel
theorem d_M_watchSwitch_21 : decode b_M_watchSwitch 21 = .ok (.iconst 0, 1) := by decide +kernel
theorem d_M_watchSwitch_22 : decode b_M_watchSwitch 22 = .ok (.ireturn, 1) := by decide +kernel
theorem d_M_watchSwitch_23 : decode b_M_watchSwitch 23 = .ok (.aload_n 0, 1) := by decide +kernel
theorem d_M_watchSwitch_24 : decode b_M_watchSwitch 24 = .ok (.getfield 17, 3) := by decide +kernel
theorem d_M_watchSwitch_27 : decode b_M_watchSwitch 27 = .ok (.bipush 14, 2) := by decide +kernel
theorem d_M_watchSwitch_29 : decode b_M_watchSwitch 29 = .ok (.dup2, 1) := by decide +kernel
theorem d_M_watchSwitch_30 : decode b_M_watchSwitch 30 = .ok (.iaload, 1) := by decide +kernel
theorem d_M_watchSwitch_31 : decode b_M_watchSwitch 31 = .ok (.iconst 1, 1) := by decide +kernel
theorem d_M_watchSwitch_32 : decode b_M_watchSwitch 32 = .ok (.iadd, 1) := by decide +kernel
theorem d_M_watchSwitch_33 : decode b_M_watchSwitch 33 = .ok (.iastore, 1) := by decide +kernel
theorem d_M_watchSwitch_34 : decode b_M_watchSwitch 34 = .ok (.aload_n 0, 1) := by decide +kernel
theorem d_M_watchSwitch_35 : decode b_M_watchSwitch 35 = .ok (.getfield 17, 3) := by decide +kernel
theorem d_M_watchSwitch_38 : decode b_M_watchSwitch 38 = .ok (.bipush 14, 2) := by decide +kernel
theorem d_M_watchSwitch_40 : decode b_M_watchSwitch 40 = .ok (.iaload, 1) := by decide +kernel
theorem d_M_watchSwitch_41 : decode b_M_watchSwitch 41 = .ok (.getstatic 93, 3) := by decide +kernel
theorem d_M_watchSwitch_44 : decode b_M_watchSwitch 44 = .ok (.bipush 14, 2) := by decide +kernel
theorem d_M_watchSwitch_46 : decode b_M_watchSwitch 46 = .ok (.iaload, 1) := by decide +kernel
theorem d_M_watchSwitch_47 : decode b_M_watchSwitch 47 = .ok (.if_icmp .ge 5, 3) := by decide +kernel
theorem d_M_watchSwitch_50 : decode b_M_watchSwitch 50 = .ok (.iconst 0, 1) := by decide +kernel
theorem d_M_watchSwitch_51 : decode b_M_watchSwitch 51 = .ok (.ireturn, 1) := by decide +kernel
theorem d_M_watchSwitch_52 : decode b_M_watchSwitch 52 = .ok (.aload_n 0, 1) := by decide +kernel
theorem d_M_watchSwitch_53 : decode b_M_watchSwitch 53 = .ok (.invokevirtual 45, 3) := by decide +kernel
theorem d_M_watchSwitch_56 : decode b_M_watchSwitch 56 = .ok (.sipush 16384, 3) := by decide +kernel
theorem d_M_watchSwitch_59 : decode b_M_watchSwitch 59 = .ok (.ireturn, 1) := by decide +kernel
def v_M_watchSwitch (u : gm_St) (m : Nat) : Int32 := (if (u.1 3 m) = true then (if (v_M_isOn u m 5) = true then (0 : Int32) else (if (gm_lim 14) ≤ ((gm_sG u (1 + m) 14 ((u.2.1 (1 + m) 14) + (1 : Int32))).2.1 (1 + m) 14) then (16384 : Int32) else (0 : Int32))) else (0 : Int32))
def s_M_watchSwitch (u : gm_St) (m : Nat) : gm_St := (if (u.1 3 m) = true then (if (v_M_isOn u m 5) = true then (s_M_endWait u m) else (if (gm_lim 14) ≤ ((gm_sG u (1 + m) 14 ((u.2.1 (1 + m) 14) + (1 : Int32))).2.1 (1 + m) 14) then (s_M_endWait (gm_sG u (1 + m) 14 ((u.2.1 (1 + m) 14) + (1 : Int32))) m) else (gm_sG u (1 + m) 14 ((u.2.1 (1 + m) 14) + (1 : Int32))))) else u)
set_option maxRecDepth 100000 in
set_option maxHeartbeats 4000000 in
theorem c_M_watchSwitch {l : Launch} {D : va_G} {dk : Nat → ClassId} {a : Nat → Nat} {A : Nat → Prop} {lt : Nat} {u : gm_St} {m : Nat} (hm : m < 2) : gm_I l D (gm_ty dk) (gm_W dk a) A lt y_M_watchSwitch b_M_watchSwitch 1 (some .int) rm_M_watchSwitch [.ref (a (3 + m))] u (v_M_watchSwitch u m) (s_M_watchSwitch u m) := by
  refine gm_enterI (by decide) (Nat.le_of_ble_eq_true rfl) ?_
  intro p e s mm args below meth c ls Q H locs hF hM hl hQ
  have hx := hF.1
  have hb := hF.2.1
  have hml := hF.2.2.1
  have hown := hF.2.2.2.1
  have hts := hF.2.2.2.2.1
  have hl : lv_has ls 1 [(0, .ref (a (3 + m)))] := hl
  refine lv_aload_n hx hb d_M_watchSwitch_0 rfl (lv_at hl 0 rfl) ?_
  refine gf_M_29 hF hM (by omega) d_M_watchSwitch_1 ?_
  refine gm_ifn (b := (u.1 3 m)) (tgt := 9) hx hb d_M_watchSwitch_4 rfl (fun h1 => ?_) (fun h1 => ?_)
  · refine lv_aload_n hx hb d_M_watchSwitch_9 rfl (lv_at hl 0 rfl) ?_
    refine lv_iconst (v := 5) hx hb d_M_watchSwitch_10 (by decide) ?_
    refine gm_Vi (As := [.int (nI 5)]) (rest := []) hF hM (c_M_isOn (u := u) (m := m) (sn := 5) (by omega) (by omega)) (gk_M_78 hts ⟨by decide, by decide⟩) (gv_M hF hM (by omega) rfl) rfl hl.1 rfl (Nat.le_of_ble_eq_true rfl) ⟨Nat.zero_le _, Nat.zero_le _⟩ d_M_watchSwitch_11 (fun H locs hM => ?_)
    refine gm_ifz (b := (v_M_isOn u m 5)) (tgt := 23) hx hb d_M_watchSwitch_14 rfl (fun h2 => ?_) (fun h2 => ?_)
    · refine lv_aload_n hx hb d_M_watchSwitch_23 rfl (lv_at hl 0 rfl) ?_
      refine gf_M_17 hF hM (by omega) d_M_watchSwitch_24 ?_
      refine lv_bipush (v := 14) hx hb d_M_watchSwitch_27 (by decide) ?_
      refine lv_dup2_11 hx hb d_M_watchSwitch_29 rfl rfl ?_
      refine ga_cnt (k := 14) hF hM (by omega) rfl (by omega) d_M_watchSwitch_30 ?_
      refine lv_iconst (v := 1) hx hb d_M_watchSwitch_31 (by decide) ?_
      refine lv_iadd hx hb d_M_watchSwitch_32 ?_
      refine gq_cnt (k := 14) hF hM (by omega) rfl (by omega) d_M_watchSwitch_33 (fun H locs hM => ?_)
      refine lv_aload_n hx hb d_M_watchSwitch_34 rfl (lv_at hl 0 rfl) ?_
      refine gf_M_17 hF hM (by omega) d_M_watchSwitch_35 ?_
      refine lv_bipush (v := 14) hx hb d_M_watchSwitch_38 (by decide) ?_
      refine ga_cnt (k := 14) hF hM (by omega) rfl (by omega) d_M_watchSwitch_40 ?_
      refine gf_M_93 hF hM d_M_watchSwitch_41 ?_
      refine lv_bipush (v := 14) hx hb d_M_watchSwitch_44 (by decide) ?_
      refine ga_lim (k := 14) hF hM rfl (by omega) d_M_watchSwitch_46 ?_
      refine lv_icmp_ge (tgt := 52) hx hb d_M_watchSwitch_47 rfl (fun h3 => ?_) (fun h3 => ?_)
      · refine lv_aload_n hx hb d_M_watchSwitch_52 rfl (lv_at hl 0 rfl) ?_
        refine gm_Vv (As := []) (rest := []) hF hM (c_M_endWait (u := (gm_sG u (1 + m) 14 ((u.2.1 (1 + m) 14) + (1 : Int32)))) (m := m) (by omega)) (gk_M_45 hts ⟨by decide, by decide⟩) (gv_M hF hM (by omega) rfl) rfl hl.1 rfl (Nat.le_of_ble_eq_true rfl) ⟨Nat.zero_le _, Nat.zero_le _⟩ d_M_watchSwitch_53 (fun H locs hM => ?_)
        refine lv_sipush (v := 16384) hx hb d_M_watchSwitch_56 (by decide) ?_
        have hq := hQ H locs 59 ls
        simp only [v_M_watchSwitch, s_M_watchSwitch, if_pos h1, if_neg (gm_nf h2), if_pos h3] at hq
        exact hq hM d_M_watchSwitch_59
      · refine lv_iconst (v := 0) hx hb d_M_watchSwitch_50 (by decide) ?_
        have hq := hQ H locs 51 ls
        simp only [v_M_watchSwitch, s_M_watchSwitch, if_pos h1, if_neg (gm_nf h2), if_neg h3] at hq
        exact hq hM d_M_watchSwitch_51
    · refine lv_aload_n hx hb d_M_watchSwitch_17 rfl (lv_at hl 0 rfl) ?_
      refine gm_Vv (As := []) (rest := []) hF hM (c_M_endWait (u := u) (m := m) (by omega)) (gk_M_45 hts ⟨by decide, by decide⟩) (gv_M hF hM (by omega) rfl) rfl hl.1 rfl (Nat.le_of_ble_eq_true rfl) ⟨Nat.zero_le _, Nat.zero_le _⟩ d_M_watchSwitch_18 (fun H locs hM => ?_)
      refine lv_iconst (v := 0) hx hb d_M_watchSwitch_21 (by decide) ?_
      have hq := hQ H locs 22 ls
      simp only [v_M_watchSwitch, s_M_watchSwitch, if_pos h1, if_pos h2] at hq
      exact hq hM d_M_watchSwitch_22
  · refine lv_iconst (v := 0) hx hb d_M_watchSwitch_7 (by decide) ?_
    have hq := hQ H locs 8 ls
    simp only [v_M_watchSwitch, s_M_watchSwitch, if_neg (gm_nf h1)] at hq
    exact hq hM d_M_watchSwitch_8
theorem d_M_step_0 : decode b_M_step 0 = .ok (.aload_n 0, 1) := by decide +kernel
theorem d_M_step_1 : decode b_M_step 1 = .ok (.getfield 21, 3) := by decide +kernel
theorem d_M_step_4 : decode b_M_step 4 = .ok (.ifCond .ne 5, 3) := by decide +kernel
theorem d_M_step_7 : decode b_M_step 7 = .ok (.iconst 0, 1) := by decide +kernel
theorem d_M_step_8 : decode b_M_step 8 = .ok (.ireturn, 1) := by decide +kernel
theorem d_M_step_9 : decode b_M_step 9 = .ok (.aload_n 0, 1) := by decide +kernel
theorem d_M_step_10 : decode b_M_step 10 = .ok (.iload_n 1, 1) := by decide +kernel
theorem d_M_step_11 : decode b_M_step 11 = .ok (.invokevirtual 48, 3) := by decide +kernel
theorem d_M_step_14 : decode b_M_step 14 = .ok (.istore_n 3, 1) := by decide +kernel
theorem d_M_step_15 : decode b_M_step 15 = .ok (.aload_n 0, 1) := by decide +kernel
theorem d_M_step_16 : decode b_M_step 16 = .ok (.aload_n 0, 1) := by decide +kernel
theorem d_M_step_17 : decode b_M_step 17 = .ok (.iload_n 2, 1) := by decide +kernel
theorem d_M_step_18 : decode b_M_step 18 = .ok (.invokevirtual 52, 3) := by decide +kernel
theorem d_M_step_21 : decode b_M_step 21 = .ok (.invokevirtual 56, 3) := by decide +kernel
theorem d_M_step_24 : decode b_M_step 24 = .ok (.iload_n 3, 1) := by decide +kernel
theorem d_M_step_25 : decode b_M_step 25 = .ok (.aload_n 0, 1) := by decide +kernel
theorem d_M_step_26 : decode b_M_step 26 = .ok (.invokevirtual 60, 3) := by decide +kernel
theorem d_M_step_29 : decode b_M_step 29 = .ok (.ior, 1) := by decide +kernel
theorem d_M_step_30 : decode b_M_step 30 = .ok (.istore_n 3, 1) := by decide +kernel
theorem d_M_step_31 : decode b_M_step 31 = .ok (.iload_n 3, 1) := by decide +kernel
theorem d_M_step_32 : decode b_M_step 32 = .ok (.aload_n 0, 1) := by decide +kernel
theorem d_M_step_33 : decode b_M_step 33 = .ok (.invokevirtual 64, 3) := by decide +kernel
theorem d_M_step_36 : decode b_M_step 36 = .ok (.ior, 1) := by decide +kernel
theorem d_M_step_37 : decode b_M_step 37 = .ok (.istore_n 3, 1) := by decide +kernel
theorem d_M_step_38 : decode b_M_step 38 = .ok (.iload_n 3, 1) := by decide +kernel
theorem d_M_step_39 : decode b_M_step 39 = .ok (.aload_n 0, 1) := by decide +kernel
theorem d_M_step_40 : decode b_M_step 40 = .ok (.getfield 42, 3) := by decide +kernel
theorem d_M_step_43 : decode b_M_step 43 = .ok (.iconst (-1), 1) := by decide +kernel
theorem d_M_step_44 : decode b_M_step 44 = .ok (.ixor, 1) := by decide +kernel
theorem d_M_step_45 : decode b_M_step 45 = .ok (.iand, 1) := by decide +kernel
theorem d_M_step_46 : decode b_M_step 46 = .ok (.istore 4, 2) := by decide +kernel
theorem d_M_step_48 : decode b_M_step 48 = .ok (.aload_n 0, 1) := by decide +kernel
theorem d_M_step_49 : decode b_M_step 49 = .ok (.dup, 1) := by decide +kernel
theorem d_M_step_50 : decode b_M_step 50 = .ok (.getfield 42, 3) := by decide +kernel
theorem d_M_step_53 : decode b_M_step 53 = .ok (.iload 4, 2) := by decide +kernel
theorem d_M_step_55 : decode b_M_step 55 = .ok (.ior, 1) := by decide +kernel
theorem d_M_step_56 : decode b_M_step 56 = .ok (.putfield 42, 3) := by decide +kernel
theorem d_M_step_59 : decode b_M_step 59 = .ok (.iload 4, 2) := by decide +kernel
theorem d_M_step_61 : decode b_M_step 61 = .ok (.ireturn, 1) := by decide +kernel
def v_M_step (u : gm_St) (m : Nat) (ch : Int32) (dw : Bool) : Int32 := (if (u.1 2 m) = true then ((((v_M_voteAll u m ch) ||| (v_M_watchConditions (s_M_switchValves (s_M_voteAll u m ch) m (v_M_wantedValves (s_M_voteAll u m ch) m dw)) m)) ||| (v_M_watchSwitch (s_M_watchConditions (s_M_switchValves (s_M_voteAll u m ch) m (v_M_wantedValves (s_M_voteAll u m ch) m dw)) m) m)) &&& (((s_M_watchSwitch (s_M_watchConditions (s_M_switchValves (s_M_voteAll u m ch) m (v_M_wantedValves (s_M_voteAll u m ch) m dw)) m) m).2.1 5 m) ^^^ (-1 : Int32))) else (0 : Int32))
def s_M_step (u : gm_St) (m : Nat) (ch : Int32) (dw : Bool) : gm_St := (if (u.1 2 m) = true then (gm_sG (s_M_watchSwitch (s_M_watchConditions (s_M_switchValves (s_M_voteAll u m ch) m (v_M_wantedValves (s_M_voteAll u m ch) m dw)) m) m) 5 m (((s_M_watchSwitch (s_M_watchConditions (s_M_switchValves (s_M_voteAll u m ch) m (v_M_wantedValves (s_M_voteAll u m ch) m dw)) m) m).2.1 5 m) ||| ((((v_M_voteAll u m ch) ||| (v_M_watchConditions (s_M_switchValves (s_M_voteAll u m ch) m (v_M_wantedValves (s_M_voteAll u m ch) m dw)) m)) ||| (v_M_watchSwitch (s_M_watchConditions (s_M_switchValves (s_M_voteAll u m ch) m (v_M_wantedValves (s_M_voteAll u m ch) m dw)) m) m)) &&& (((s_M_watchSwitch (s_M_watchConditions (s_M_switchValves (s_M_voteAll u m ch) m (v_M_wantedValves (s_M_voteAll u m ch) m dw)) m) m).2.1 5 m) ^^^ (-1 : Int32))))) else u)
set_option maxRecDepth 100000 in
set_option maxHeartbeats 4000000 in
theorem c_M_step {l : Launch} {D : va_G} {dk : Nat → ClassId} {a : Nat → Nat} {A : Nat → Prop} {lt : Nat} {u : gm_St} {m : Nat} {ch : Int32} {dw : Bool} (hm : m < 2) : gm_I l D (gm_ty dk) (gm_W dk a) A lt y_M_step b_M_step 5 (some .int) rm_M_step [.ref (a (3 + m)), .int ch, .int (gm_b dw)] u (v_M_step u m ch dw) (s_M_step u m ch dw) := by
  refine gm_enterI (by decide) (Nat.le_of_ble_eq_true rfl) ?_
  intro p e s mm args below meth c ls Q H locs hF hM hl hQ
  have hx := hF.1
  have hb := hF.2.1
  have hml := hF.2.2.1
  have hown := hF.2.2.2.1
  have hts := hF.2.2.2.2.1
  have hl : lv_has ls 5 [(0, .ref (a (3 + m))), (1, .int ch), (2, .int (gm_b dw))] := hl
  refine lv_aload_n hx hb d_M_step_0 rfl (lv_at hl 0 rfl) ?_
  refine gf_M_21 hF hM (by omega) d_M_step_1 ?_
  refine gm_ifn (b := (u.1 2 m)) (tgt := 9) hx hb d_M_step_4 rfl (fun h1 => ?_) (fun h1 => ?_)
  · refine lv_aload_n hx hb d_M_step_9 rfl (lv_at hl 0 rfl) ?_
    refine lv_iload_n hx hb d_M_step_10 rfl (lv_at hl 1 rfl) ?_
    refine gm_Vi (As := [.int ch]) (rest := []) hF hM (c_M_voteAll (u := u) (m := m) (ch := ch) (by omega)) (gk_M_48 hts ⟨by decide, by decide⟩) (gv_M hF hM (by omega) rfl) rfl hl.1 rfl (Nat.le_of_ble_eq_true rfl) ⟨Nat.zero_le _, Nat.zero_le _⟩ d_M_step_11 (fun H locs hM => ?_)
    refine lv_istore_n (lv' := [(3, .int (v_M_voteAll u m ch)), (0, .ref (a (3 + m))), (1, .int ch), (2, .int (gm_b dw))]) hx hb d_M_step_14 rfl hl (by decide) rfl (fun ls hl => ?_)
    refine lv_aload_n hx hb d_M_step_15 rfl (lv_at hl 1 rfl) ?_
    refine lv_aload_n hx hb d_M_step_16 rfl (lv_at hl 1 rfl) ?_
    refine lv_iload_n hx hb d_M_step_17 rfl (lv_at hl 3 rfl) ?_
    refine gm_Vi (As := [.int (gm_b dw)]) (rest := [.ref (a (3 + m))]) hF hM (c_M_wantedValves (u := (s_M_voteAll u m ch)) (m := m) (dw := dw) (by omega)) (gk_M_52 hts ⟨by decide, by decide⟩) (gv_M hF hM (by omega) rfl) rfl hl.1 rfl (Nat.le_of_ble_eq_true rfl) ⟨Nat.zero_le _, Nat.zero_le _⟩ d_M_step_18 (fun H locs hM => ?_)
    refine gm_Vv (As := [.int (v_M_wantedValves (s_M_voteAll u m ch) m dw)]) (rest := []) hF hM (c_M_switchValves (u := (s_M_voteAll u m ch)) (m := m) (wn := (v_M_wantedValves (s_M_voteAll u m ch) m dw)) (by omega)) (gk_M_56 hts ⟨by decide, by decide⟩) (gv_M hF hM (by omega) rfl) rfl hl.1 rfl (Nat.le_of_ble_eq_true rfl) ⟨Nat.zero_le _, Nat.zero_le _⟩ d_M_step_21 (fun H locs hM => ?_)
    refine lv_iload_n hx hb d_M_step_24 rfl (lv_at hl 0 rfl) ?_
    refine lv_aload_n hx hb d_M_step_25 rfl (lv_at hl 1 rfl) ?_
    refine gm_Vi (As := []) (rest := [.int (v_M_voteAll u m ch)]) hF hM (c_M_watchConditions (u := (s_M_switchValves (s_M_voteAll u m ch) m (v_M_wantedValves (s_M_voteAll u m ch) m dw))) (m := m) (by omega)) (gk_M_60 hts ⟨by decide, by decide⟩) (gv_M hF hM (by omega) rfl) rfl hl.1 rfl (Nat.le_of_ble_eq_true rfl) ⟨Nat.zero_le _, Nat.zero_le _⟩ d_M_step_26 (fun H locs hM => ?_)
    refine lv_ior hx hb d_M_step_29 ?_
    refine lv_istore_n (lv' := [(3, .int ((v_M_voteAll u m ch) ||| (v_M_watchConditions (s_M_switchValves (s_M_voteAll u m ch) m (v_M_wantedValves (s_M_voteAll u m ch) m dw)) m))), (0, .ref (a (3 + m))), (1, .int ch), (2, .int (gm_b dw))]) hx hb d_M_step_30 rfl hl (by decide) rfl (fun ls hl => ?_)
    refine lv_iload_n hx hb d_M_step_31 rfl (lv_at hl 0 rfl) ?_
    refine lv_aload_n hx hb d_M_step_32 rfl (lv_at hl 1 rfl) ?_
    refine gm_Vi (As := []) (rest := [.int ((v_M_voteAll u m ch) ||| (v_M_watchConditions (s_M_switchValves (s_M_voteAll u m ch) m (v_M_wantedValves (s_M_voteAll u m ch) m dw)) m))]) hF hM (c_M_watchSwitch (u := (s_M_watchConditions (s_M_switchValves (s_M_voteAll u m ch) m (v_M_wantedValves (s_M_voteAll u m ch) m dw)) m)) (m := m) (by omega)) (gk_M_64 hts ⟨by decide, by decide⟩) (gv_M hF hM (by omega) rfl) rfl hl.1 rfl (Nat.le_of_ble_eq_true rfl) ⟨Nat.zero_le _, Nat.zero_le _⟩ d_M_step_33 (fun H locs hM => ?_)
    refine lv_ior hx hb d_M_step_36 ?_
    refine lv_istore_n (lv' := [(3, .int (((v_M_voteAll u m ch) ||| (v_M_watchConditions (s_M_switchValves (s_M_voteAll u m ch) m (v_M_wantedValves (s_M_voteAll u m ch) m dw)) m)) ||| (v_M_watchSwitch (s_M_watchConditions (s_M_switchValves (s_M_voteAll u m ch) m (v_M_wantedValves (s_M_voteAll u m ch) m dw)) m) m))), (0, .ref (a (3 + m))), (1, .int ch), (2, .int (gm_b dw))]) hx hb d_M_step_37 rfl hl (by decide) rfl (fun ls hl => ?_)
    refine lv_iload_n hx hb d_M_step_38 rfl (lv_at hl 0 rfl) ?_
    refine lv_aload_n hx hb d_M_step_39 rfl (lv_at hl 1 rfl) ?_
    refine gf_M_42 hF hM (by omega) d_M_step_40 ?_
    refine lv_iconst (v := -1) hx hb d_M_step_43 (by decide) ?_
    refine lv_ixor hx hb d_M_step_44 ?_
    refine lv_iand hx hb d_M_step_45 ?_
    refine lv_istore (lv' := [(4, .int ((((v_M_voteAll u m ch) ||| (v_M_watchConditions (s_M_switchValves (s_M_voteAll u m ch) m (v_M_wantedValves (s_M_voteAll u m ch) m dw)) m)) ||| (v_M_watchSwitch (s_M_watchConditions (s_M_switchValves (s_M_voteAll u m ch) m (v_M_wantedValves (s_M_voteAll u m ch) m dw)) m) m)) &&& (((s_M_watchSwitch (s_M_watchConditions (s_M_switchValves (s_M_voteAll u m ch) m (v_M_wantedValves (s_M_voteAll u m ch) m dw)) m) m).2.1 5 m) ^^^ (-1 : Int32)))), (3, .int (((v_M_voteAll u m ch) ||| (v_M_watchConditions (s_M_switchValves (s_M_voteAll u m ch) m (v_M_wantedValves (s_M_voteAll u m ch) m dw)) m)) ||| (v_M_watchSwitch (s_M_watchConditions (s_M_switchValves (s_M_voteAll u m ch) m (v_M_wantedValves (s_M_voteAll u m ch) m dw)) m) m))), (0, .ref (a (3 + m))), (1, .int ch), (2, .int (gm_b dw))]) hx hb d_M_step_46 hl (by decide) rfl (fun ls hl => ?_)
    refine lv_aload_n hx hb d_M_step_48 rfl (lv_at hl 2 rfl) ?_
    refine lv_dup hx hb d_M_step_49 rfl ?_
    refine gf_M_42 hF hM (by omega) d_M_step_50 ?_
    refine lv_iload hx hb d_M_step_53 (lv_at hl 0 rfl) ?_
    refine lv_ior hx hb d_M_step_55 ?_
    refine gp_M_42 hF hM (by omega) d_M_step_56 (fun H locs hM => ?_)
    refine lv_iload hx hb d_M_step_59 (lv_at hl 0 rfl) ?_
    have hq := hQ H locs 61 ls
    simp only [v_M_step, s_M_step, if_pos h1] at hq
    exact hq hM d_M_step_61
  · refine lv_iconst (v := 0) hx hb d_M_step_7 (by decide) ?_
    have hq := hQ H locs 8 ls
    simp only [v_M_step, s_M_step, if_neg (gm_nf h1)] at hq
    exact hq hM d_M_step_8
theorem d_M_sensorsOn_0 : decode b_M_sensorsOn 0 = .ok (.iconst 0, 1) := by decide +kernel
theorem d_M_sensorsOn_1 : decode b_M_sensorsOn 1 = .ok (.istore_n 1, 1) := by decide +kernel
theorem d_M_sensorsOn_2 : decode b_M_sensorsOn 2 = .ok (.iconst 0, 1) := by decide +kernel
theorem d_M_sensorsOn_3 : decode b_M_sensorsOn 3 = .ok (.istore_n 2, 1) := by decide +kernel
theorem d_M_sensorsOn_4 : decode b_M_sensorsOn 4 = .ok (.iload_n 2, 1) := by decide +kernel
theorem d_M_sensorsOn_5 : decode b_M_sensorsOn 5 = .ok (.bipush 6, 2) := by decide +kernel
theorem d_M_sensorsOn_7 : decode b_M_sensorsOn 7 = .ok (.if_icmp .ge 31, 3) := by decide +kernel
theorem d_M_sensorsOn_10 : decode b_M_sensorsOn 10 = .ok (.iload_n 1, 1) := by decide +kernel
theorem d_M_sensorsOn_11 : decode b_M_sensorsOn 11 = .ok (.aload_n 0, 1) := by decide +kernel
theorem d_M_sensorsOn_12 : decode b_M_sensorsOn 12 = .ok (.getfield 11, 3) := by decide +kernel
theorem d_M_sensorsOn_15 : decode b_M_sensorsOn 15 = .ok (.iload_n 2, 1) := by decide +kernel
theorem d_M_sensorsOn_16 : decode b_M_sensorsOn 16 = .ok (.aaload, 1) := by decide +kernel
theorem d_M_sensorsOn_17 : decode b_M_sensorsOn 17 = .ok (.getfield 102, 3) := by decide +kernel
theorem d_M_sensorsOn_20 : decode b_M_sensorsOn 20 = .ok (.ifCond .eq 9, 3) := by decide +kernel
theorem d_M_sensorsOn_23 : decode b_M_sensorsOn 23 = .ok (.iconst 1, 1) := by decide +kernel
theorem d_M_sensorsOn_24 : decode b_M_sensorsOn 24 = .ok (.iload_n 2, 1) := by decide +kernel
theorem d_M_sensorsOn_25 : decode b_M_sensorsOn 25 = .ok (.ishl, 1) := by decide +kernel
theorem d_M_sensorsOn_26 : decode b_M_sensorsOn 26 = .ok (.goto 4, 3) := by decide +kernel
theorem d_M_sensorsOn_29 : decode b_M_sensorsOn 29 = .ok (.iconst 0, 1) := by decide +kernel
theorem d_M_sensorsOn_30 : decode b_M_sensorsOn 30 = .ok (.ior, 1) := by decide +kernel
theorem d_M_sensorsOn_31 : decode b_M_sensorsOn 31 = .ok (.istore_n 1, 1) := by decide +kernel
theorem d_M_sensorsOn_32 : decode b_M_sensorsOn 32 = .ok (.iinc 2 1, 3) := by decide +kernel
theorem d_M_sensorsOn_35 : decode b_M_sensorsOn 35 = .ok (.goto (-31), 3) := by decide +kernel
theorem d_M_sensorsOn_38 : decode b_M_sensorsOn 38 = .ok (.iload_n 1, 1) := by decide +kernel
theorem d_M_sensorsOn_39 : decode b_M_sensorsOn 39 = .ok (.ireturn, 1) := by decide +kernel
def lp_M_sensorsOn (u : gm_St) (m : Nat) : Nat → Nat → Int32 → Int32
  | 0, _, x => x
  | k + 1, i, x => lp_M_sensorsOn u m k (i + 1) (x ||| (if (u.1 0 (6 * m + i)) = true then ((1 : Int32) <<< ((nI i) &&& 31)) else (0 : Int32)))
def v_M_sensorsOn (u : gm_St) (m : Nat) : Int32 := (lp_M_sensorsOn u m 6 0 (0 : Int32))
set_option maxRecDepth 100000 in
set_option maxHeartbeats 4000000 in
theorem c_M_sensorsOn {l : Launch} {D : va_G} {dk : Nat → ClassId} {a : Nat → Nat} {A : Nat → Prop} {lt : Nat} {u : gm_St} {m : Nat} (hm : m < 2) : gm_I l D (gm_ty dk) (gm_W dk a) A lt y_M_sensorsOn b_M_sensorsOn 3 (some .int) rm_M_sensorsOn [.ref (a (3 + m))] u (v_M_sensorsOn u m) u := by
  refine gm_enterI (by decide) (Nat.le_of_ble_eq_true rfl) ?_
  intro p e s mm args below meth c ls Q H locs hF hM hl hQ
  have hx := hF.1
  have hb := hF.2.1
  have hml := hF.2.2.1
  have hown := hF.2.2.2.1
  have hts := hF.2.2.2.2.1
  have hl : lv_has ls 3 [(0, .ref (a (3 + m)))] := hl
  refine lv_iconst (v := 0) hx hb d_M_sensorsOn_0 (by decide) ?_
  refine lv_istore_n (lv' := [(1, .int (0 : Int32)), (0, .ref (a (3 + m)))]) hx hb d_M_sensorsOn_1 rfl hl (by decide) rfl (fun ls hl => ?_)
  refine lv_iconst (v := 0) hx hb d_M_sensorsOn_2 (by decide) ?_
  refine lv_istore_n (lv' := [(2, .int (0 : Int32)), (1, .int (0 : Int32)), (0, .ref (a (3 + m)))]) hx hb d_M_sensorsOn_3 rfl hl (by decide) rfl (fun ls hl => ?_)
  have L1 : ∀ (k1 i1 : Nat) (x1 : Int32) (ls : Array Slot) (H : Heap) (locs : List Loc), i1 + k1 = 6 → lv_has ls 3 [(2, .int (nI i1)), (1, .int x1), (0, .ref (a (3 + m)))] → gm_M D A s (gm_W dk a) u H locs → (∀ (ls : Array Slot) (H : Heap) (locs : List Loc), lv_has ls 3 [(2, .int (nI 6)), (1, .int (lp_M_sensorsOn u m k1 i1 x1)), (0, .ref (a (3 + m)))] → gm_M D A s (gm_W dk a) u H locs → W p l e rm_M_sensorsOn s mm args below meth c H locs 0 0 Q (F0 mm 38 ls [])) → W p l e rm_M_sensorsOn s mm args below meth c H locs 0 0 Q (F0 mm 4 ls []) := by
    intro k1
    induction k1 with
    | zero =>
      intro i1 x1 ls H locs hk1 hl hM kk
      obtain rfl : i1 = 6 := by omega
      refine lv_iload_n hx hb d_M_sensorsOn_4 rfl (lv_at hl 0 rfl) ?_
      refine lv_bipush (v := 6) hx hb d_M_sensorsOn_5 (by decide) ?_
      refine lv_icmp_ge (tgt := 38) hx hb d_M_sensorsOn_7 rfl (fun _ => ?_) (fun h => absurd (by decide) h)
      exact kk ls H locs hl hM
    | succ k1 ih =>
      intro i1 x1 ls H locs hk1 hl hM kk
      refine lv_iload_n hx hb d_M_sensorsOn_4 rfl (lv_at hl 0 rfl) ?_
      refine lv_bipush (v := 6) hx hb d_M_sensorsOn_5 (by decide) ?_
      refine lv_icmp_ge (tgt := 38) hx hb d_M_sensorsOn_7 rfl (fun h => absurd h (nI_ge (a := i1) (b := 6) (by omega) (by first | decide | omega))) (fun _ => ?_)
      refine lv_iload_n hx hb d_M_sensorsOn_10 rfl (lv_at hl 1 rfl) ?_
      refine lv_aload_n hx hb d_M_sensorsOn_11 rfl (lv_at hl 2 rfl) ?_
      refine gf_M_11 hF hM (by omega) d_M_sensorsOn_12 ?_
      refine lv_iload_n hx hb d_M_sensorsOn_15 rfl (lv_at hl 0 rfl) ?_
      refine ga_sens (k := i1) hF hM (by omega) rfl (by omega) d_M_sensorsOn_16 ?_
      refine gf_M_102 hF hM (by omega) d_M_sensorsOn_17 ?_
      have J3 : ∀ (ls : Array Slot) (H : Heap) (locs : List Loc), lv_has ls 3 [(0, .ref (a (3 + m))), (1, .int x1), (2, .int (nI i1))] → gm_M D A s (gm_W dk a) u H locs → W p l e rm_M_sensorsOn s mm args below meth c H locs 0 0 Q (F0 mm 30 ls [.int (if (u.1 0 (6 * m + i1)) = true then ((1 : Int32) <<< ((nI i1) &&& 31)) else (0 : Int32)), .int x1]) := by
        intro ls H locs hl hM
        refine lv_ior hx hb d_M_sensorsOn_30 ?_
        refine lv_istore_n (lv' := [(1, .int (x1 ||| (if (u.1 0 (6 * m + i1)) = true then ((1 : Int32) <<< ((nI i1) &&& 31)) else (0 : Int32)))), (0, .ref (a (3 + m))), (2, .int (nI i1))]) hx hb d_M_sensorsOn_31 rfl hl (by decide) rfl (fun ls hl => ?_)
        refine lv_iinc (k := 2) (v := (nI (i1 + 1))) (lv' := [(2, .int (nI (i1 + 1))), (1, .int (x1 ||| (if (u.1 0 (6 * m + i1)) = true then ((1 : Int32) <<< ((nI i1) &&& 31)) else (0 : Int32)))), (0, .ref (a (3 + m)))]) hx hb d_M_sensorsOn_32 hl rfl (nI_1 _) (by decide) rfl (fun ls hl => ?_)
        refine lv_goto (tgt := 4) hx hb d_M_sensorsOn_35 rfl ?_
        have hK := kk
        simp only [lp_M_sensorsOn] at hK
        exact ih (i1 + 1) (x1 ||| (if (u.1 0 (6 * m + i1)) = true then ((1 : Int32) <<< ((nI i1) &&& 31)) else (0 : Int32))) ls H locs (by omega) hl hM hK
      refine gm_ifz (b := (u.1 0 (6 * m + i1))) (tgt := 29) hx hb d_M_sensorsOn_20 rfl (fun h2 => ?_) (fun h2 => ?_)
      · refine lv_iconst (v := 0) hx hb d_M_sensorsOn_29 (by decide) ?_
        have hJ := J3
        try simp only [if_neg (gm_nf h2)] at hJ
        exact hJ ls H locs (lv_sub hl [2, 1, 0] rfl) hM
      · refine lv_iconst (v := 1) hx hb d_M_sensorsOn_23 (by decide) ?_
        refine lv_iload_n hx hb d_M_sensorsOn_24 rfl (lv_at hl 0 rfl) ?_
        refine lv_ishl hx hb d_M_sensorsOn_25 ?_
        refine lv_goto (tgt := 30) hx hb d_M_sensorsOn_26 rfl ?_
        have hJ := J3
        try simp only [if_pos h2] at hJ
        exact hJ ls H locs (lv_sub hl [2, 1, 0] rfl) hM
  refine L1 6 0 (0 : Int32) ls H locs (by omega) hl hM (fun ls H locs hl hM => ?_)
  refine lv_iload_n hx hb d_M_sensorsOn_38 rfl (lv_at hl 1 rfl) ?_
  have hq := hQ H locs 39 ls
  simp only [v_M_sensorsOn] at hq
  exact hq hM d_M_sensorsOn_39
theorem d_M_sensorsBroken_0 : decode b_M_sensorsBroken 0 = .ok (.iconst 0, 1) := by decide +kernel
theorem d_M_sensorsBroken_1 : decode b_M_sensorsBroken 1 = .ok (.istore_n 1, 1) := by decide +kernel
theorem d_M_sensorsBroken_2 : decode b_M_sensorsBroken 2 = .ok (.iconst 0, 1) := by decide +kernel
theorem d_M_sensorsBroken_3 : decode b_M_sensorsBroken 3 = .ok (.istore_n 2, 1) := by decide +kernel
theorem d_M_sensorsBroken_4 : decode b_M_sensorsBroken 4 = .ok (.iload_n 2, 1) := by decide +kernel
theorem d_M_sensorsBroken_5 : decode b_M_sensorsBroken 5 = .ok (.bipush 6, 2) := by decide +kernel
theorem d_M_sensorsBroken_7 : decode b_M_sensorsBroken 7 = .ok (.if_icmp .ge 31, 3) := by decide +kernel
theorem d_M_sensorsBroken_10 : decode b_M_sensorsBroken 10 = .ok (.iload_n 1, 1) := by decide +kernel
theorem d_M_sensorsBroken_11 : decode b_M_sensorsBroken 11 = .ok (.aload_n 0, 1) := by decide +kernel
theorem d_M_sensorsBroken_12 : decode b_M_sensorsBroken 12 = .ok (.getfield 11, 3) := by decide +kernel
theorem d_M_sensorsBroken_15 : decode b_M_sensorsBroken 15 = .ok (.iload_n 2, 1) := by decide +kernel
theorem d_M_sensorsBroken_16 : decode b_M_sensorsBroken 16 = .ok (.aaload, 1) := by decide +kernel
theorem d_M_sensorsBroken_17 : decode b_M_sensorsBroken 17 = .ok (.getfield 105, 3) := by decide +kernel
theorem d_M_sensorsBroken_20 : decode b_M_sensorsBroken 20 = .ok (.ifCond .eq 9, 3) := by decide +kernel
theorem d_M_sensorsBroken_23 : decode b_M_sensorsBroken 23 = .ok (.iconst 1, 1) := by decide +kernel
theorem d_M_sensorsBroken_24 : decode b_M_sensorsBroken 24 = .ok (.iload_n 2, 1) := by decide +kernel
theorem d_M_sensorsBroken_25 : decode b_M_sensorsBroken 25 = .ok (.ishl, 1) := by decide +kernel
theorem d_M_sensorsBroken_26 : decode b_M_sensorsBroken 26 = .ok (.goto 4, 3) := by decide +kernel
theorem d_M_sensorsBroken_29 : decode b_M_sensorsBroken 29 = .ok (.iconst 0, 1) := by decide +kernel
theorem d_M_sensorsBroken_30 : decode b_M_sensorsBroken 30 = .ok (.ior, 1) := by decide +kernel
theorem d_M_sensorsBroken_31 : decode b_M_sensorsBroken 31 = .ok (.istore_n 1, 1) := by decide +kernel
theorem d_M_sensorsBroken_32 : decode b_M_sensorsBroken 32 = .ok (.iinc 2 1, 3) := by decide +kernel
theorem d_M_sensorsBroken_35 : decode b_M_sensorsBroken 35 = .ok (.goto (-31), 3) := by decide +kernel
theorem d_M_sensorsBroken_38 : decode b_M_sensorsBroken 38 = .ok (.iload_n 1, 1) := by decide +kernel
theorem d_M_sensorsBroken_39 : decode b_M_sensorsBroken 39 = .ok (.ireturn, 1) := by decide +kernel
def lp_M_sensorsBroken (u : gm_St) (m : Nat) : Nat → Nat → Int32 → Int32
  | 0, _, x => x
  | k + 1, i, x => lp_M_sensorsBroken u m k (i + 1) (x ||| (if (u.1 1 (6 * m + i)) = true then ((1 : Int32) <<< ((nI i) &&& 31)) else (0 : Int32)))
def v_M_sensorsBroken (u : gm_St) (m : Nat) : Int32 := (lp_M_sensorsBroken u m 6 0 (0 : Int32))
set_option maxRecDepth 100000 in
set_option maxHeartbeats 4000000 in
theorem c_M_sensorsBroken {l : Launch} {D : va_G} {dk : Nat → ClassId} {a : Nat → Nat} {A : Nat → Prop} {lt : Nat} {u : gm_St} {m : Nat} (hm : m < 2) : gm_I l D (gm_ty dk) (gm_W dk a) A lt y_M_sensorsBroken b_M_sensorsBroken 3 (some .int) rm_M_sensorsBroken [.ref (a (3 + m))] u (v_M_sensorsBroken u m) u := by
  refine gm_enterI (by decide) (Nat.le_of_ble_eq_true rfl) ?_
  intro p e s mm args below meth c ls Q H locs hF hM hl hQ
  have hx := hF.1
  have hb := hF.2.1
  have hml := hF.2.2.1
  have hown := hF.2.2.2.1
  have hts := hF.2.2.2.2.1
  have hl : lv_has ls 3 [(0, .ref (a (3 + m)))] := hl
  refine lv_iconst (v := 0) hx hb d_M_sensorsBroken_0 (by decide) ?_
  refine lv_istore_n (lv' := [(1, .int (0 : Int32)), (0, .ref (a (3 + m)))]) hx hb d_M_sensorsBroken_1 rfl hl (by decide) rfl (fun ls hl => ?_)
  refine lv_iconst (v := 0) hx hb d_M_sensorsBroken_2 (by decide) ?_
  refine lv_istore_n (lv' := [(2, .int (0 : Int32)), (1, .int (0 : Int32)), (0, .ref (a (3 + m)))]) hx hb d_M_sensorsBroken_3 rfl hl (by decide) rfl (fun ls hl => ?_)
  have L1 : ∀ (k1 i1 : Nat) (x1 : Int32) (ls : Array Slot) (H : Heap) (locs : List Loc), i1 + k1 = 6 → lv_has ls 3 [(2, .int (nI i1)), (1, .int x1), (0, .ref (a (3 + m)))] → gm_M D A s (gm_W dk a) u H locs → (∀ (ls : Array Slot) (H : Heap) (locs : List Loc), lv_has ls 3 [(2, .int (nI 6)), (1, .int (lp_M_sensorsBroken u m k1 i1 x1)), (0, .ref (a (3 + m)))] → gm_M D A s (gm_W dk a) u H locs → W p l e rm_M_sensorsBroken s mm args below meth c H locs 0 0 Q (F0 mm 38 ls [])) → W p l e rm_M_sensorsBroken s mm args below meth c H locs 0 0 Q (F0 mm 4 ls []) := by
    intro k1
    induction k1 with
    | zero =>
      intro i1 x1 ls H locs hk1 hl hM kk
      obtain rfl : i1 = 6 := by omega
      refine lv_iload_n hx hb d_M_sensorsBroken_4 rfl (lv_at hl 0 rfl) ?_
      refine lv_bipush (v := 6) hx hb d_M_sensorsBroken_5 (by decide) ?_
      refine lv_icmp_ge (tgt := 38) hx hb d_M_sensorsBroken_7 rfl (fun _ => ?_) (fun h => absurd (by decide) h)
      exact kk ls H locs hl hM
    | succ k1 ih =>
      intro i1 x1 ls H locs hk1 hl hM kk
      refine lv_iload_n hx hb d_M_sensorsBroken_4 rfl (lv_at hl 0 rfl) ?_
      refine lv_bipush (v := 6) hx hb d_M_sensorsBroken_5 (by decide) ?_
      refine lv_icmp_ge (tgt := 38) hx hb d_M_sensorsBroken_7 rfl (fun h => absurd h (nI_ge (a := i1) (b := 6) (by omega) (by first | decide | omega))) (fun _ => ?_)
      refine lv_iload_n hx hb d_M_sensorsBroken_10 rfl (lv_at hl 1 rfl) ?_
      refine lv_aload_n hx hb d_M_sensorsBroken_11 rfl (lv_at hl 2 rfl) ?_
      refine gf_M_11 hF hM (by omega) d_M_sensorsBroken_12 ?_
      refine lv_iload_n hx hb d_M_sensorsBroken_15 rfl (lv_at hl 0 rfl) ?_
      refine ga_sens (k := i1) hF hM (by omega) rfl (by omega) d_M_sensorsBroken_16 ?_
      refine gf_M_105 hF hM (by omega) d_M_sensorsBroken_17 ?_
      have J3 : ∀ (ls : Array Slot) (H : Heap) (locs : List Loc), lv_has ls 3 [(0, .ref (a (3 + m))), (1, .int x1), (2, .int (nI i1))] → gm_M D A s (gm_W dk a) u H locs → W p l e rm_M_sensorsBroken s mm args below meth c H locs 0 0 Q (F0 mm 30 ls [.int (if (u.1 1 (6 * m + i1)) = true then ((1 : Int32) <<< ((nI i1) &&& 31)) else (0 : Int32)), .int x1]) := by
        intro ls H locs hl hM
        refine lv_ior hx hb d_M_sensorsBroken_30 ?_
        refine lv_istore_n (lv' := [(1, .int (x1 ||| (if (u.1 1 (6 * m + i1)) = true then ((1 : Int32) <<< ((nI i1) &&& 31)) else (0 : Int32)))), (0, .ref (a (3 + m))), (2, .int (nI i1))]) hx hb d_M_sensorsBroken_31 rfl hl (by decide) rfl (fun ls hl => ?_)
        refine lv_iinc (k := 2) (v := (nI (i1 + 1))) (lv' := [(2, .int (nI (i1 + 1))), (1, .int (x1 ||| (if (u.1 1 (6 * m + i1)) = true then ((1 : Int32) <<< ((nI i1) &&& 31)) else (0 : Int32)))), (0, .ref (a (3 + m)))]) hx hb d_M_sensorsBroken_32 hl rfl (nI_1 _) (by decide) rfl (fun ls hl => ?_)
        refine lv_goto (tgt := 4) hx hb d_M_sensorsBroken_35 rfl ?_
        have hK := kk
        simp only [lp_M_sensorsBroken] at hK
        exact ih (i1 + 1) (x1 ||| (if (u.1 1 (6 * m + i1)) = true then ((1 : Int32) <<< ((nI i1) &&& 31)) else (0 : Int32))) ls H locs (by omega) hl hM hK
      refine gm_ifz (b := (u.1 1 (6 * m + i1))) (tgt := 29) hx hb d_M_sensorsBroken_20 rfl (fun h2 => ?_) (fun h2 => ?_)
      · refine lv_iconst (v := 0) hx hb d_M_sensorsBroken_29 (by decide) ?_
        have hJ := J3
        try simp only [if_neg (gm_nf h2)] at hJ
        exact hJ ls H locs (lv_sub hl [2, 1, 0] rfl) hM
      · refine lv_iconst (v := 1) hx hb d_M_sensorsBroken_23 (by decide) ?_
        refine lv_iload_n hx hb d_M_sensorsBroken_24 rfl (lv_at hl 0 rfl) ?_
        refine lv_ishl hx hb d_M_sensorsBroken_25 ?_
        refine lv_goto (tgt := 30) hx hb d_M_sensorsBroken_26 rfl ?_
        have hJ := J3
        try simp only [if_pos h2] at hJ
        exact hJ ls H locs (lv_sub hl [2, 1, 0] rfl) hM
  refine L1 6 0 (0 : Int32) ls H locs (by omega) hl hM (fun ls H locs hl hM => ?_)
  refine lv_iload_n hx hb d_M_sensorsBroken_38 rfl (lv_at hl 1 rfl) ?_
  have hq := hQ H locs 39 ls
  simp only [v_M_sensorsBroken] at hq
  exact hq hM d_M_sensorsBroken_39
theorem d_M_status_0 : decode b_M_status 0 = .ok (.aload_n 0, 1) := by decide +kernel
theorem d_M_status_1 : decode b_M_status 1 = .ok (.getfield 21, 3) := by decide +kernel
theorem d_M_status_4 : decode b_M_status 4 = .ok (.ifCond .ne 5, 3) := by decide +kernel
theorem d_M_status_7 : decode b_M_status 7 = .ok (.iconst 0, 1) := by decide +kernel
theorem d_M_status_8 : decode b_M_status 8 = .ok (.ireturn, 1) := by decide +kernel
theorem d_M_status_9 : decode b_M_status 9 = .ok (.aload_n 0, 1) := by decide +kernel
theorem d_M_status_10 : decode b_M_status 10 = .ok (.getfield 42, 3) := by decide +kernel
theorem d_M_status_13 : decode b_M_status 13 = .ok (.ifCond .eq 7, 3) := by decide +kernel
theorem d_M_status_16 : decode b_M_status 16 = .ok (.iconst 1, 1) := by decide +kernel
theorem d_M_status_17 : decode b_M_status 17 = .ok (.goto 4, 3) := by decide +kernel
theorem d_M_status_20 : decode b_M_status 20 = .ok (.iconst 3, 1) := by decide +kernel
theorem d_M_status_21 : decode b_M_status 21 = .ok (.ireturn, 1) := by decide +kernel
def v_M_status (u : gm_St) (m : Nat) : Int32 := (if (u.1 2 m) = true then (if (u.2.1 5 m) = 0 then (3 : Int32) else (1 : Int32)) else (0 : Int32))
set_option maxRecDepth 100000 in
set_option maxHeartbeats 4000000 in
theorem c_M_status {l : Launch} {D : va_G} {dk : Nat → ClassId} {a : Nat → Nat} {A : Nat → Prop} {lt : Nat} {u : gm_St} {m : Nat} (hm : m < 2) : gm_I l D (gm_ty dk) (gm_W dk a) A lt y_M_status b_M_status 1 (some .int) rm_M_status [.ref (a (3 + m))] u (v_M_status u m) u := by
  refine gm_enterI (by decide) (Nat.le_of_ble_eq_true rfl) ?_
  intro p e s mm args below meth c ls Q H locs hF hM hl hQ
  have hx := hF.1
  have hb := hF.2.1
  have hml := hF.2.2.1
  have hown := hF.2.2.2.1
  have hts := hF.2.2.2.2.1
  have hl : lv_has ls 1 [(0, .ref (a (3 + m)))] := hl
  refine lv_aload_n hx hb d_M_status_0 rfl (lv_at hl 0 rfl) ?_
  refine gf_M_21 hF hM (by omega) d_M_status_1 ?_
  refine gm_ifn (b := (u.1 2 m)) (tgt := 9) hx hb d_M_status_4 rfl (fun h1 => ?_) (fun h1 => ?_)
  · refine lv_aload_n hx hb d_M_status_9 rfl (lv_at hl 0 rfl) ?_
    refine gf_M_42 hF hM (by omega) d_M_status_10 ?_
    have J3 : ∀ (ls : Array Slot) (H : Heap) (locs : List Loc), lv_has ls 1 [(0, .ref (a (3 + m)))] → gm_M D A s (gm_W dk a) u H locs → W p l e rm_M_status s mm args below meth c H locs 0 0 Q (F0 mm 21 ls [.int (if (u.2.1 5 m) = 0 then (3 : Int32) else (1 : Int32))]) := by
      intro ls H locs hl hM
      have hq := hQ H locs 21 ls
      simp only [v_M_status, if_pos h1] at hq
      exact hq hM d_M_status_21
    refine lv_if_eq (tgt := 20) hx hb d_M_status_13 rfl (fun h2 => ?_) (fun h2 => ?_)
    · refine lv_iconst (v := 3) hx hb d_M_status_20 (by decide) ?_
      have hJ := J3
      try simp only [if_pos h2] at hJ
      exact hJ ls H locs hl hM
    · refine lv_iconst (v := 1) hx hb d_M_status_16 (by decide) ?_
      refine lv_goto (tgt := 21) hx hb d_M_status_17 rfl ?_
      have hJ := J3
      try simp only [if_neg h2] at hJ
      exact hJ ls H locs hl hM
  · refine lv_iconst (v := 0) hx hb d_M_status_7 (by decide) ?_
    have hq := hQ H locs 8 ls
    simp only [v_M_status, if_neg (gm_nf h1)] at hq
    exact hq hM d_M_status_8
