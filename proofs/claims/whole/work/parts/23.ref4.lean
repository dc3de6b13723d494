theorem d_R_sensor_0 : decode b_R_sensor 0 = .ok (.iload_n 1, 1) := by decide +kernel
theorem d_R_sensor_1 : decode b_R_sensor 1 = .ok (.invokestatic 109, 3) := by decide +kernel
theorem d_R_sensor_4 : decode b_R_sensor 4 = .ok (.ifCond .eq 12, 3) := by decide +kernel
theorem d_R_sensor_7 : decode b_R_sensor 7 = .ok (.iload_n 2, 1) := by decide +kernel
theorem d_R_sensor_8 : decode b_R_sensor 8 = .ok (.ifCond .lt 8, 3) := by decide +kernel
theorem d_R_sensor_11 : decode b_R_sensor 11 = .ok (.iload_n 2, 1) := by decide +kernel
theorem d_R_sensor_12 : decode b_R_sensor 12 = .ok (.iconst 5, 1) := by decide +kernel
theorem d_R_sensor_13 : decode b_R_sensor 13 = .ok (.if_icmp .le 5, 3) := by decide +kernel
theorem d_R_sensor_16 : decode b_R_sensor 16 = .ok (.iconst (-1), 1) := by decide +kernel
theorem d_R_sensor_17 : decode b_R_sensor 17 = .ok (.ireturn, 1) := by decide +kernel
theorem d_R_sensor_18 : decode b_R_sensor 18 = .ok (.aload_n 0, 1) := by decide +kernel
theorem d_R_sensor_19 : decode b_R_sensor 19 = .ok (.getfield 16, 3) := by decide +kernel
theorem d_R_sensor_22 : decode b_R_sensor 22 = .ok (.bipush 6, 2) := by decide +kernel
theorem d_R_sensor_24 : decode b_R_sensor 24 = .ok (.iload_n 1, 1) := by decide +kernel
theorem d_R_sensor_25 : decode b_R_sensor 25 = .ok (.imul, 1) := by decide +kernel
theorem d_R_sensor_26 : decode b_R_sensor 26 = .ok (.iload_n 2, 1) := by decide +kernel
theorem d_R_sensor_27 : decode b_R_sensor 27 = .ok (.iadd, 1) := by decide +kernel
theorem d_R_sensor_28 : decode b_R_sensor 28 = .ok (.baload, 1) := by decide +kernel
theorem d_R_sensor_29 : decode b_R_sensor 29 = .ok (.ifCond .eq 7, 3) := by decide +kernel
theorem d_R_sensor_32 : decode b_R_sensor 32 = .ok (.iconst 1, 1) := by decide +kernel
theorem d_R_sensor_33 : decode b_R_sensor 33 = .ok (.goto 4, 3) := by decide +kernel
theorem d_R_sensor_36 : decode b_R_sensor 36 = .ok (.iconst 0, 1) := by decide +kernel
theorem d_R_sensor_37 : decode b_R_sensor 37 = .ok (.aload_n 0, 1) := by decide +kernel
theorem d_R_sensor_38 : decode b_R_sensor 38 = .ok (.getfield 19, 3) := by decide +kernel
theorem d_R_sensor_41 : decode b_R_sensor 41 = .ok (.bipush 6, 2) := by decide +kernel
theorem d_R_sensor_43 : decode b_R_sensor 43 = .ok (.iload_n 1, 1) := by decide +kernel
theorem d_R_sensor_44 : decode b_R_sensor 44 = .ok (.imul, 1) := by decide +kernel
theorem d_R_sensor_45 : decode b_R_sensor 45 = .ok (.iload_n 2, 1) := by decide +kernel
theorem d_R_sensor_46 : decode b_R_sensor 46 = .ok (.iadd, 1) := by decide +kernel
theorem d_R_sensor_47 : decode b_R_sensor 47 = .ok (.baload, 1) := by decide +kernel
theorem d_R_sensor_48 : decode b_R_sensor 48 = .ok (.ifCond .eq 7, 3) := by decide +kernel
theorem d_R_sensor_51 : decode b_R_sensor 51 = .ok (.iconst 2, 1) := by decide +kernel
theorem d_R_sensor_52 : decode b_R_sensor 52 = .ok (.goto 4, 3) := by decide +kernel
theorem d_R_sensor_55 : decode b_R_sensor 55 = .ok (.iconst 0, 1) := by decide +kernel
theorem d_R_sensor_56 : decode b_R_sensor 56 = .ok (.iadd, 1) := by decide +kernel
theorem d_R_sensor_57 : decode b_R_sensor 57 = .ok (.istore_n 3, 1) := by decide +kernel
theorem d_R_sensor_58 : decode b_R_sensor 58 = .ok (.iconst 0, 1) := by decide +kernel
theorem d_R_sensor_59 : decode b_R_sensor 59 = .ok (.istore 4, 2) := by decide +kernel
theorem d_R_sensor_61 : decode b_R_sensor 61 = .ok (.iload 4, 2) := by decide +kernel
theorem d_R_sensor_63 : decode b_R_sensor 63 = .ok (.iconst 3, 1) := by decide +kernel
theorem d_R_sensor_64 : decode b_R_sensor 64 = .ok (.if_icmp .ge 39, 3) := by decide +kernel
theorem d_R_sensor_67 : decode b_R_sensor 67 = .ok (.aload_n 0, 1) := by decide +kernel
theorem d_R_sensor_68 : decode b_R_sensor 68 = .ok (.getfield 13, 3) := by decide +kernel
theorem d_R_sensor_71 : decode b_R_sensor 71 = .ok (.bipush 18, 2) := by decide +kernel
theorem d_R_sensor_73 : decode b_R_sensor 73 = .ok (.iload_n 1, 1) := by decide +kernel
theorem d_R_sensor_74 : decode b_R_sensor 74 = .ok (.imul, 1) := by decide +kernel
theorem d_R_sensor_75 : decode b_R_sensor 75 = .ok (.iconst 3, 1) := by decide +kernel
theorem d_R_sensor_76 : decode b_R_sensor 76 = .ok (.iload_n 2, 1) := by decide +kernel
theorem d_R_sensor_77 : decode b_R_sensor 77 = .ok (.imul, 1) := by decide +kernel
theorem d_R_sensor_78 : decode b_R_sensor 78 = .ok (.iadd, 1) := by decide +kernel
theorem d_R_sensor_79 : decode b_R_sensor 79 = .ok (.iload 4, 2) := by decide +kernel
theorem d_R_sensor_81 : decode b_R_sensor 81 = .ok (.iadd, 1) := by decide +kernel
theorem d_R_sensor_82 : decode b_R_sensor 82 = .ok (.baload, 1) := by decide +kernel
theorem d_R_sensor_83 : decode b_R_sensor 83 = .ok (.ifCond .eq 7, 3) := by decide +kernel
theorem d_R_sensor_86 : decode b_R_sensor 86 = .ok (.iload_n 3, 1) := by decide +kernel
theorem d_R_sensor_87 : decode b_R_sensor 87 = .ok (.goto 9, 3) := by decide +kernel
theorem d_R_sensor_90 : decode b_R_sensor 90 = .ok (.iload_n 3, 1) := by decide +kernel
theorem d_R_sensor_91 : decode b_R_sensor 91 = .ok (.iconst 4, 1) := by decide +kernel
theorem d_R_sensor_92 : decode b_R_sensor 92 = .ok (.iload 4, 2) := by decide +kernel
theorem d_R_sensor_94 : decode b_R_sensor 94 = .ok (.ishl, 1) := by decide +kernel
theorem d_R_sensor_95 : decode b_R_sensor 95 = .ok (.iadd, 1) := by decide +kernel
theorem d_R_sensor_96 : decode b_R_sensor 96 = .ok (.istore_n 3, 1) := by decide +kernel
theorem d_R_sensor_97 : decode b_R_sensor 97 = .ok (.iinc 4 1, 3) := by decide +kernel
theorem d_R_sensor_100 : decode b_R_sensor 100 = .ok (.goto (-39), 3) := by decide +kernel
theorem d_R_sensor_103 : decode b_R_sensor 103 = .ok (.iload_n 3, 1) := by decide +kernel
theorem d_R_sensor_104 : decode b_R_sensor 104 = .ok (.ireturn, 1) := by decide +kernel
def lp_R_sensor (u : gm_St) (mn : Nat) (sn : Nat) : Nat → Nat → Int32 → Int32
  | 0, _, z => z
  | k + 1, i, z => lp_R_sensor u mn sn k (i + 1) (if (u.1 1 (18 * mn + (3 * sn) + i)) = true then z else (z + ((4 : Int32) <<< ((nI i) &&& 31))))
def v_R_sensor (u : gm_St) (x : Int32) (y : Int32) : Int32 := (if (v_R_isModule x) = true then (if y < 0 then (-1 : Int32) else (if y ≤ (5 : Int32) then (lp_R_sensor u x.toNatClampNeg y.toNatClampNeg 3 0 ((gm_b (if (u.1 2 (6 * x.toNatClampNeg + y.toNatClampNeg)) = true then true else false)) + (if (u.1 3 (6 * x.toNatClampNeg + y.toNatClampNeg)) = true then (2 : Int32) else (0 : Int32)))) else (-1 : Int32))) else (-1 : Int32))
set_option maxRecDepth 100000 in
set_option maxHeartbeats 4000000 in
theorem c_R_sensor {l : Launch} {D : va_G} {dk : Nat → ClassId} {a : Nat → Nat} {A : Nat → Prop} {lt : Nat} {u : gm_St} {x : Int32} {y : Int32} : gm_I l D (gm_ty dk) (gr_W dk a) A lt y_R_sensor b_R_sensor 5 (some .int) rm_R_sensor [.ref (a 0), .int x, .int y] u (v_R_sensor u x y) u := by
  refine gm_enterI (by decide) (Nat.le_of_ble_eq_true rfl) ?_
  intro p e s m args below meth c ls Q H locs hF hM hl hQ
  have hx := hF.1
  have hb := hF.2.1
  have hml := hF.2.2.1
  have hown := hF.2.2.2.1
  have hts := hF.2.2.2.2.1
  have hl : lv_has ls 5 [(0, .ref (a 0)), (1, .int x), (2, .int y)] := hl
  refine lv_iload_n hx hb d_R_sensor_0 rfl (lv_at hl 1 rfl) ?_
  refine gm_Si (As := [.int x]) (rest := []) hF hM (c_R_isModule (u := u) (x := x) ) (gk_R_109 hts ⟨by decide, by decide⟩) rfl hl.1 rfl (Nat.le_of_ble_eq_true rfl) ⟨Nat.zero_le _, Nat.zero_le _⟩ d_R_sensor_1 (fun H locs hM => ?_)
  refine gm_ifz (b := (v_R_isModule x)) (tgt := 16) hx hb d_R_sensor_4 rfl (fun h1 => ?_) (fun h1 => ?_)
  · refine lv_iconst (v := -1) hx hb d_R_sensor_16 (by decide) ?_
    have hq := hQ H locs 17 ls
    simp only [v_R_sensor, if_neg (gm_nf h1)] at hq
    exact hq hM d_R_sensor_17
  · obtain ⟨n, h_n, rfl⟩ := gr_isME h1
    refine lv_iload_n hx hb d_R_sensor_7 rfl (lv_at hl 2 rfl) ?_
    refine lv_if_lt (tgt := 16) hx hb d_R_sensor_8 rfl (fun h2 => ?_) (fun h2 => ?_)
    · refine lv_iconst (v := -1) hx hb d_R_sensor_16 (by decide) ?_
      have hq := hQ H locs 17 ls
      simp only [v_R_sensor, if_pos h1, nI_clamp (show n < 2 ^ 31 by omega), if_pos h2] at hq
      exact hq hM d_R_sensor_17
    · refine lv_iload_n hx hb d_R_sensor_11 rfl (lv_at hl 2 rfl) ?_
      refine lv_iconst (v := 5) hx hb d_R_sensor_12 (by decide) ?_
      refine lv_icmp_le (tgt := 18) hx hb d_R_sensor_13 rfl (fun h3 => ?_) (fun h3 => ?_)
      · obtain ⟨q, h_q, rfl⟩ := gm_ixL (lo := 0) (n := 5) h2 h3 (by decide) (by decide)
        refine lv_aload_n hx hb d_R_sensor_18 rfl (lv_at hl 0 rfl) ?_
        refine gf_R_16 hF hM d_R_sensor_19 ?_
        refine lv_bipush (v := 6) hx hb d_R_sensor_22 (by decide) ?_
        refine lv_iload_n hx hb d_R_sensor_24 rfl (lv_at hl 1 rfl) ?_
        refine lv_imul hx hb d_R_sensor_25 ?_
        refine lv_iload_n hx hb d_R_sensor_26 rfl (lv_at hl 2 rfl) ?_
        refine lv_iadd hx hb d_R_sensor_27 ?_
        refine ga_value (k := (6 * n + q)) hF hM (by first | rfl | (simp only [← nI_add, ← pk_mul] <;> rfl)) (by first | omega | exact Nat.mod_lt _ (by decide)) d_R_sensor_28 ?_
        have J5 : ∀ (ls : Array Slot) (H : Heap) (locs : List Loc), lv_has ls 5 [(0, .ref (a 0)), (1, .int (nI n)), (2, .int (nI q))] → gm_M D A s (gr_W dk a) u H locs → W p l e rm_R_sensor s m args below meth c H locs 0 0 Q (F0 m 37 ls [.int (gm_b (if (u.1 2 (6 * n + q)) = true then true else false))]) := by
          intro ls H locs hl hM
          refine lv_aload_n hx hb d_R_sensor_37 rfl (lv_at hl 0 rfl) ?_
          refine gf_R_19 hF hM d_R_sensor_38 ?_
          refine lv_bipush (v := 6) hx hb d_R_sensor_41 (by decide) ?_
          refine lv_iload_n hx hb d_R_sensor_43 rfl (lv_at hl 1 rfl) ?_
          refine lv_imul hx hb d_R_sensor_44 ?_
          refine lv_iload_n hx hb d_R_sensor_45 rfl (lv_at hl 2 rfl) ?_
          refine lv_iadd hx hb d_R_sensor_46 ?_
          refine ga_broken (k := (6 * n + q)) hF hM (by first | rfl | (simp only [← nI_add, ← pk_mul] <;> rfl)) (by first | omega | exact Nat.mod_lt _ (by decide)) d_R_sensor_47 ?_
          have J7 : ∀ (ls : Array Slot) (H : Heap) (locs : List Loc), lv_has ls 5 [(0, .ref (a 0)), (1, .int (nI n)), (2, .int (nI q))] → gm_M D A s (gr_W dk a) u H locs → W p l e rm_R_sensor s m args below meth c H locs 0 0 Q (F0 m 56 ls [.int (if (u.1 3 (6 * n + q)) = true then (2 : Int32) else (0 : Int32)), .int (gm_b (if (u.1 2 (6 * n + q)) = true then true else false))]) := by
            intro ls H locs hl hM
            refine lv_iadd hx hb d_R_sensor_56 ?_
            refine lv_istore_n (lv' := [(3, .int ((gm_b (if (u.1 2 (6 * n + q)) = true then true else false)) + (if (u.1 3 (6 * n + q)) = true then (2 : Int32) else (0 : Int32)))), (0, .ref (a 0)), (1, .int (nI n)), (2, .int (nI q))]) hx hb d_R_sensor_57 rfl hl (by decide) rfl (fun ls hl => ?_)
            refine lv_iconst (v := 0) hx hb d_R_sensor_58 (by decide) ?_
            refine lv_istore (lv' := [(4, .int (0 : Int32)), (3, .int ((gm_b (if (u.1 2 (6 * n + q)) = true then true else false)) + (if (u.1 3 (6 * n + q)) = true then (2 : Int32) else (0 : Int32)))), (0, .ref (a 0)), (1, .int (nI n)), (2, .int (nI q))]) hx hb d_R_sensor_59 hl (by decide) rfl (fun ls hl => ?_)
            have L8 : ∀ (k8 i8 : Nat) (z8 : Int32) (ls : Array Slot) (H : Heap) (locs : List Loc), i8 + k8 = 3 → lv_has ls 5 [(4, .int (nI i8)), (3, .int z8), (0, .ref (a 0)), (1, .int (nI n)), (2, .int (nI q))] → gm_M D A s (gr_W dk a) u H locs → (∀ (ls : Array Slot) (H : Heap) (locs : List Loc), lv_has ls 5 [(4, .int (nI 3)), (3, .int (lp_R_sensor u n q k8 i8 z8)), (0, .ref (a 0)), (1, .int (nI n)), (2, .int (nI q))] → gm_M D A s (gr_W dk a) u H locs → W p l e rm_R_sensor s m args below meth c H locs 0 0 Q (F0 m 103 ls [])) → W p l e rm_R_sensor s m args below meth c H locs 0 0 Q (F0 m 61 ls []) := by
              intro k8
              induction k8 with
              | zero =>
                intro i8 z8 ls H locs hk8 hl hM kk
                obtain rfl : i8 = 3 := by omega
                refine lv_iload hx hb d_R_sensor_61 (lv_at hl 0 rfl) ?_
                refine lv_iconst (v := 3) hx hb d_R_sensor_63 (by decide) ?_
                refine lv_icmp_ge (tgt := 103) hx hb d_R_sensor_64 rfl (fun _ => ?_) (fun h => absurd (by decide) h)
                exact kk ls H locs hl hM
              | succ k8 ih =>
                intro i8 z8 ls H locs hk8 hl hM kk
                refine lv_iload hx hb d_R_sensor_61 (lv_at hl 0 rfl) ?_
                refine lv_iconst (v := 3) hx hb d_R_sensor_63 (by decide) ?_
                refine lv_icmp_ge (tgt := 103) hx hb d_R_sensor_64 rfl (fun h => absurd h (nI_ge (a := i8) (b := 3) (by omega) (by first | decide | omega))) (fun _ => ?_)
                refine lv_aload_n hx hb d_R_sensor_67 rfl (lv_at hl 2 rfl) ?_
                refine gf_R_13 hF hM d_R_sensor_68 ?_
                refine lv_bipush (v := 18) hx hb d_R_sensor_71 (by decide) ?_
                refine lv_iload_n hx hb d_R_sensor_73 rfl (lv_at hl 3 rfl) ?_
                refine lv_imul hx hb d_R_sensor_74 ?_
                refine lv_iconst (v := 3) hx hb d_R_sensor_75 (by decide) ?_
                refine lv_iload_n hx hb d_R_sensor_76 rfl (lv_at hl 4 rfl) ?_
                refine lv_imul hx hb d_R_sensor_77 ?_
                refine lv_iadd hx hb d_R_sensor_78 ?_
                refine lv_iload hx hb d_R_sensor_79 (lv_at hl 0 rfl) ?_
                refine lv_iadd hx hb d_R_sensor_81 ?_
                refine ga_bad (k := (18 * n + (3 * q) + i8)) hF hM (by first | rfl | (simp only [← nI_add, ← pk_mul] <;> rfl)) (by first | omega | exact Nat.mod_lt _ (by decide)) d_R_sensor_82 ?_
                have J10 : ∀ (ls : Array Slot) (H : Heap) (locs : List Loc), lv_has ls 5 [(0, .ref (a 0)), (1, .int (nI n)), (2, .int (nI q)), (3, .int z8), (4, .int (nI i8))] → gm_M D A s (gr_W dk a) u H locs → W p l e rm_R_sensor s m args below meth c H locs 0 0 Q (F0 m 96 ls [.int (if (u.1 1 (18 * n + (3 * q) + i8)) = true then z8 else (z8 + ((4 : Int32) <<< ((nI i8) &&& 31))))]) := by
                  intro ls H locs hl hM
                  refine lv_istore_n (lv' := [(3, .int (if (u.1 1 (18 * n + (3 * q) + i8)) = true then z8 else (z8 + ((4 : Int32) <<< ((nI i8) &&& 31))))), (0, .ref (a 0)), (1, .int (nI n)), (2, .int (nI q)), (4, .int (nI i8))]) hx hb d_R_sensor_96 rfl hl (by decide) rfl (fun ls hl => ?_)
                  refine lv_iinc (k := 4) (v := (nI (i8 + 1))) (lv' := [(4, .int (nI (i8 + 1))), (3, .int (if (u.1 1 (18 * n + (3 * q) + i8)) = true then z8 else (z8 + ((4 : Int32) <<< ((nI i8) &&& 31))))), (0, .ref (a 0)), (1, .int (nI n)), (2, .int (nI q))]) hx hb d_R_sensor_97 hl rfl (nI_1 _) (by decide) rfl (fun ls hl => ?_)
                  refine lv_goto (tgt := 61) hx hb d_R_sensor_100 rfl ?_
                  have hK := kk
                  simp only [lp_R_sensor] at hK
                  exact ih (i8 + 1) (if (u.1 1 (18 * n + (3 * q) + i8)) = true then z8 else (z8 + ((4 : Int32) <<< ((nI i8) &&& 31)))) ls H locs (by omega) hl hM hK
                refine gm_ifz (b := (u.1 1 (18 * n + (3 * q) + i8))) (tgt := 90) hx hb d_R_sensor_83 rfl (fun h9 => ?_) (fun h9 => ?_)
                · refine lv_iload_n hx hb d_R_sensor_90 rfl (lv_at hl 1 rfl) ?_
                  refine lv_iconst (v := 4) hx hb d_R_sensor_91 (by decide) ?_
                  refine lv_iload hx hb d_R_sensor_92 (lv_at hl 0 rfl) ?_
                  refine lv_ishl hx hb d_R_sensor_94 ?_
                  refine lv_iadd hx hb d_R_sensor_95 ?_
                  have hJ := J10
                  try simp only [if_neg (gm_nf h9)] at hJ
                  exact hJ ls H locs (lv_sub hl [2, 3, 4, 1, 0] rfl) hM
                · refine lv_iload_n hx hb d_R_sensor_86 rfl (lv_at hl 1 rfl) ?_
                  refine lv_goto (tgt := 96) hx hb d_R_sensor_87 rfl ?_
                  have hJ := J10
                  try simp only [if_pos h9] at hJ
                  exact hJ ls H locs (lv_sub hl [2, 3, 4, 1, 0] rfl) hM
            refine L8 3 0 ((gm_b (if (u.1 2 (6 * n + q)) = true then true else false)) + (if (u.1 3 (6 * n + q)) = true then (2 : Int32) else (0 : Int32))) ls H locs (by omega) hl hM (fun ls H locs hl hM => ?_)
            refine lv_iload_n hx hb d_R_sensor_103 rfl (lv_at hl 1 rfl) ?_
            have hq := hQ H locs 104 ls
            simp only [v_R_sensor, if_pos h1, nI_clamp (show n < 2 ^ 31 by omega), if_neg h2, if_pos h3, nI_clamp (show q < 2 ^ 31 by omega)] at hq
            exact hq hM d_R_sensor_104
          refine gm_ifz (b := (u.1 3 (6 * n + q))) (tgt := 55) hx hb d_R_sensor_48 rfl (fun h6 => ?_) (fun h6 => ?_)
          · refine lv_iconst (v := 0) hx hb d_R_sensor_55 (by decide) ?_
            have hJ := J7
            try simp only [if_neg (gm_nf h6)] at hJ
            exact hJ ls H locs hl hM
          · refine lv_iconst (v := 2) hx hb d_R_sensor_51 (by decide) ?_
            refine lv_goto (tgt := 56) hx hb d_R_sensor_52 rfl ?_
            have hJ := J7
            try simp only [if_pos h6] at hJ
            exact hJ ls H locs hl hM
        refine gm_ifz (b := (u.1 2 (6 * n + q))) (tgt := 36) hx hb d_R_sensor_29 rfl (fun h4 => ?_) (fun h4 => ?_)
        · refine lv_iconst (v := 0) hx hb d_R_sensor_36 (by decide) ?_
          have hJ := J5
          try simp only [if_neg (gm_nf h4)] at hJ
          exact hJ ls H locs hl hM
        · refine lv_iconst (v := 1) hx hb d_R_sensor_32 (by decide) ?_
          refine lv_goto (tgt := 37) hx hb d_R_sensor_33 rfl ?_
          have hJ := J5
          try simp only [if_pos h4] at hJ
          exact hJ ls H locs hl hM
      · refine lv_iconst (v := -1) hx hb d_R_sensor_16 (by decide) ?_
        have hq := hQ H locs 17 ls
        simp only [v_R_sensor, if_pos h1, nI_clamp (show n < 2 ^ 31 by omega), if_neg h2, if_neg h3] at hq
        exact hq hM d_R_sensor_17
theorem d_R_anomalies_0 : decode b_R_anomalies 0 = .ok (.iload_n 1, 1) := by decide +kernel
theorem d_R_anomalies_1 : decode b_R_anomalies 1 = .ok (.invokestatic 109, 3) := by decide +kernel
theorem d_R_anomalies_4 : decode b_R_anomalies 4 = .ok (.ifCond .ne 5, 3) := by decide +kernel
theorem d_R_anomalies_7 : decode b_R_anomalies 7 = .ok (.iconst (-1), 1) := by decide +kernel
theorem d_R_anomalies_8 : decode b_R_anomalies 8 = .ok (.ireturn, 1) := by decide +kernel
theorem d_R_anomalies_9 : decode b_R_anomalies 9 = .ok (.iconst 0, 1) := by decide +kernel
theorem d_R_anomalies_10 : decode b_R_anomalies 10 = .ok (.istore_n 2, 1) := by decide +kernel
theorem d_R_anomalies_11 : decode b_R_anomalies 11 = .ok (.iconst 0, 1) := by decide +kernel
theorem d_R_anomalies_12 : decode b_R_anomalies 12 = .ok (.istore_n 3, 1) := by decide +kernel
theorem d_R_anomalies_13 : decode b_R_anomalies 13 = .ok (.iload_n 3, 1) := by decide +kernel
theorem d_R_anomalies_14 : decode b_R_anomalies 14 = .ok (.bipush 16, 2) := by decide +kernel
theorem d_R_anomalies_16 : decode b_R_anomalies 16 = .ok (.if_icmp .ge 33, 3) := by decide +kernel
theorem d_R_anomalies_19 : decode b_R_anomalies 19 = .ok (.aload_n 0, 1) := by decide +kernel
theorem d_R_anomalies_20 : decode b_R_anomalies 20 = .ok (.getfield 22, 3) := by decide +kernel
theorem d_R_anomalies_23 : decode b_R_anomalies 23 = .ok (.bipush 16, 2) := by decide +kernel
theorem d_R_anomalies_25 : decode b_R_anomalies 25 = .ok (.iload_n 1, 1) := by decide +kernel
theorem d_R_anomalies_26 : decode b_R_anomalies 26 = .ok (.imul, 1) := by decide +kernel
theorem d_R_anomalies_27 : decode b_R_anomalies 27 = .ok (.iload_n 3, 1) := by decide +kernel
theorem d_R_anomalies_28 : decode b_R_anomalies 28 = .ok (.iadd, 1) := by decide +kernel
theorem d_R_anomalies_29 : decode b_R_anomalies 29 = .ok (.baload, 1) := by decide +kernel
theorem d_R_anomalies_30 : decode b_R_anomalies 30 = .ok (.ifCond .eq 11, 3) := by decide +kernel
theorem d_R_anomalies_33 : decode b_R_anomalies 33 = .ok (.iload_n 2, 1) := by decide +kernel
theorem d_R_anomalies_34 : decode b_R_anomalies 34 = .ok (.iconst 1, 1) := by decide +kernel
theorem d_R_anomalies_35 : decode b_R_anomalies 35 = .ok (.iload_n 3, 1) := by decide +kernel
theorem d_R_anomalies_36 : decode b_R_anomalies 36 = .ok (.ishl, 1) := by decide +kernel
theorem d_R_anomalies_37 : decode b_R_anomalies 37 = .ok (.iadd, 1) := by decide +kernel
theorem d_R_anomalies_38 : decode b_R_anomalies 38 = .ok (.goto 4, 3) := by decide +kernel
theorem d_R_anomalies_41 : decode b_R_anomalies 41 = .ok (.iload_n 2, 1) := by decide +kernel
theorem d_R_anomalies_42 : decode b_R_anomalies 42 = .ok (.istore_n 2, 1) := by decide +kernel
theorem d_R_anomalies_43 : decode b_R_anomalies 43 = .ok (.iinc 3 1, 3) := by decide +kernel
theorem d_R_anomalies_46 : decode b_R_anomalies 46 = .ok (.goto (-33), 3) := by decide +kernel
theorem d_R_anomalies_49 : decode b_R_anomalies 49 = .ok (.iload_n 2, 1) := by decide +kernel
theorem d_R_anomalies_50 : decode b_R_anomalies 50 = .ok (.ireturn, 1) := by decide +kernel
def lp_R_anom (u : gm_St) (mn : Nat) : Nat → Nat → Int32 → Int32
  | 0, _, z => z
  | k + 1, i, z => lp_R_anom u mn k (i + 1) (if (u.1 4 (16 * mn + i)) = true then (z + ((1 : Int32) <<< ((nI i) &&& 31))) else z)
def v_R_anomalies (u : gm_St) (x : Int32) : Int32 := (if (v_R_isModule x) = true then (lp_R_anom u x.toNatClampNeg 16 0 (0 : Int32)) else (-1 : Int32))
set_option maxRecDepth 100000 in
set_option maxHeartbeats 4000000 in
theorem c_R_anomalies {l : Launch} {D : va_G} {dk : Nat → ClassId} {a : Nat → Nat} {A : Nat → Prop} {lt : Nat} {u : gm_St} {x : Int32} : gm_I l D (gm_ty dk) (gr_W dk a) A lt y_R_anomalies b_R_anomalies 4 (some .int) rm_R_anomalies [.ref (a 0), .int x] u (v_R_anomalies u x) u := by
  refine gm_enterI (by decide) (Nat.le_of_ble_eq_true rfl) ?_
  intro p e s m args below meth c ls Q H locs hF hM hl hQ
  have hx := hF.1
  have hb := hF.2.1
  have hml := hF.2.2.1
  have hown := hF.2.2.2.1
  have hts := hF.2.2.2.2.1
  have hl : lv_has ls 4 [(0, .ref (a 0)), (1, .int x)] := hl
  refine lv_iload_n hx hb d_R_anomalies_0 rfl (lv_at hl 1 rfl) ?_
  refine gm_Si (As := [.int x]) (rest := []) hF hM (c_R_isModule (u := u) (x := x) ) (gk_R_109 hts ⟨by decide, by decide⟩) rfl hl.1 rfl (Nat.le_of_ble_eq_true rfl) ⟨Nat.zero_le _, Nat.zero_le _⟩ d_R_anomalies_1 (fun H locs hM => ?_)
  refine gm_ifn (b := (v_R_isModule x)) (tgt := 9) hx hb d_R_anomalies_4 rfl (fun h1 => ?_) (fun h1 => ?_)
  · obtain ⟨n, h_n, rfl⟩ := gr_isME h1
    refine lv_iconst (v := 0) hx hb d_R_anomalies_9 (by decide) ?_
    refine lv_istore_n (lv' := [(2, .int (0 : Int32)), (0, .ref (a 0)), (1, .int (nI n))]) hx hb d_R_anomalies_10 rfl hl (by decide) rfl (fun ls hl => ?_)
    refine lv_iconst (v := 0) hx hb d_R_anomalies_11 (by decide) ?_
    refine lv_istore_n (lv' := [(3, .int (0 : Int32)), (2, .int (0 : Int32)), (0, .ref (a 0)), (1, .int (nI n))]) hx hb d_R_anomalies_12 rfl hl (by decide) rfl (fun ls hl => ?_)
    have L2 : ∀ (k2 i2 : Nat) (z2 : Int32) (ls : Array Slot) (H : Heap) (locs : List Loc), i2 + k2 = 16 → lv_has ls 4 [(3, .int (nI i2)), (2, .int z2), (0, .ref (a 0)), (1, .int (nI n))] → gm_M D A s (gr_W dk a) u H locs → (∀ (ls : Array Slot) (H : Heap) (locs : List Loc), lv_has ls 4 [(3, .int (nI 16)), (2, .int (lp_R_anom u n k2 i2 z2)), (0, .ref (a 0)), (1, .int (nI n))] → gm_M D A s (gr_W dk a) u H locs → W p l e rm_R_anomalies s m args below meth c H locs 0 0 Q (F0 m 49 ls [])) → W p l e rm_R_anomalies s m args below meth c H locs 0 0 Q (F0 m 13 ls []) := by
      intro k2
      induction k2 with
      | zero =>
        intro i2 z2 ls H locs hk2 hl hM kk
        obtain rfl : i2 = 16 := by omega
        refine lv_iload_n hx hb d_R_anomalies_13 rfl (lv_at hl 0 rfl) ?_
        refine lv_bipush (v := 16) hx hb d_R_anomalies_14 (by decide) ?_
        refine lv_icmp_ge (tgt := 49) hx hb d_R_anomalies_16 rfl (fun _ => ?_) (fun h => absurd (by decide) h)
        exact kk ls H locs hl hM
      | succ k2 ih =>
        intro i2 z2 ls H locs hk2 hl hM kk
        refine lv_iload_n hx hb d_R_anomalies_13 rfl (lv_at hl 0 rfl) ?_
        refine lv_bipush (v := 16) hx hb d_R_anomalies_14 (by decide) ?_
        refine lv_icmp_ge (tgt := 49) hx hb d_R_anomalies_16 rfl (fun h => absurd h (nI_ge (a := i2) (b := 16) (by omega) (by first | decide | omega))) (fun _ => ?_)
        refine lv_aload_n hx hb d_R_anomalies_19 rfl (lv_at hl 2 rfl) ?_
        refine gf_R_22 hF hM d_R_anomalies_20 ?_
        refine lv_bipush (v := 16) hx hb d_R_anomalies_23 (by decide) ?_
        refine lv_iload_n hx hb d_R_anomalies_25 rfl (lv_at hl 3 rfl) ?_
        refine lv_imul hx hb d_R_anomalies_26 ?_
        refine lv_iload_n hx hb d_R_anomalies_27 rfl (lv_at hl 0 rfl) ?_
        refine lv_iadd hx hb d_R_anomalies_28 ?_
        refine ga_had (k := (16 * n + i2)) hF hM (by first | rfl | (simp only [← nI_add, ← pk_mul] <;> rfl)) (by first | omega | exact Nat.mod_lt _ (by decide)) d_R_anomalies_29 ?_
        have J4 : ∀ (ls : Array Slot) (H : Heap) (locs : List Loc), lv_has ls 4 [(0, .ref (a 0)), (1, .int (nI n)), (2, .int z2), (3, .int (nI i2))] → gm_M D A s (gr_W dk a) u H locs → W p l e rm_R_anomalies s m args below meth c H locs 0 0 Q (F0 m 42 ls [.int (if (u.1 4 (16 * n + i2)) = true then (z2 + ((1 : Int32) <<< ((nI i2) &&& 31))) else z2)]) := by
          intro ls H locs hl hM
          refine lv_istore_n (lv' := [(2, .int (if (u.1 4 (16 * n + i2)) = true then (z2 + ((1 : Int32) <<< ((nI i2) &&& 31))) else z2)), (0, .ref (a 0)), (1, .int (nI n)), (3, .int (nI i2))]) hx hb d_R_anomalies_42 rfl hl (by decide) rfl (fun ls hl => ?_)
          refine lv_iinc (k := 3) (v := (nI (i2 + 1))) (lv' := [(3, .int (nI (i2 + 1))), (2, .int (if (u.1 4 (16 * n + i2)) = true then (z2 + ((1 : Int32) <<< ((nI i2) &&& 31))) else z2)), (0, .ref (a 0)), (1, .int (nI n))]) hx hb d_R_anomalies_43 hl rfl (nI_1 _) (by decide) rfl (fun ls hl => ?_)
          refine lv_goto (tgt := 13) hx hb d_R_anomalies_46 rfl ?_
          have hK := kk
          simp only [lp_R_anom] at hK
          exact ih (i2 + 1) (if (u.1 4 (16 * n + i2)) = true then (z2 + ((1 : Int32) <<< ((nI i2) &&& 31))) else z2) ls H locs (by omega) hl hM hK
        refine gm_ifz (b := (u.1 4 (16 * n + i2))) (tgt := 41) hx hb d_R_anomalies_30 rfl (fun h3 => ?_) (fun h3 => ?_)
        · refine lv_iload_n hx hb d_R_anomalies_41 rfl (lv_at hl 1 rfl) ?_
          have hJ := J4
          try simp only [if_neg (gm_nf h3)] at hJ
          exact hJ ls H locs (lv_sub hl [2, 3, 1, 0] rfl) hM
        · refine lv_iload_n hx hb d_R_anomalies_33 rfl (lv_at hl 1 rfl) ?_
          refine lv_iconst (v := 1) hx hb d_R_anomalies_34 (by decide) ?_
          refine lv_iload_n hx hb d_R_anomalies_35 rfl (lv_at hl 0 rfl) ?_
          refine lv_ishl hx hb d_R_anomalies_36 ?_
          refine lv_iadd hx hb d_R_anomalies_37 ?_
          refine lv_goto (tgt := 42) hx hb d_R_anomalies_38 rfl ?_
          have hJ := J4
          try simp only [if_pos h3] at hJ
          exact hJ ls H locs (lv_sub hl [2, 3, 1, 0] rfl) hM
    refine L2 16 0 (0 : Int32) ls H locs (by omega) hl hM (fun ls H locs hl hM => ?_)
    refine lv_iload_n hx hb d_R_anomalies_49 rfl (lv_at hl 1 rfl) ?_
    have hq := hQ H locs 50 ls
    simp only [v_R_anomalies, if_pos h1, nI_clamp (show n < 2 ^ 31 by omega)] at hq
    exact hq hM d_R_anomalies_50
  · refine lv_iconst (v := -1) hx hb d_R_anomalies_7 (by decide) ?_
    have hq := hQ H locs 8 ls
    simp only [v_R_anomalies, if_neg (gm_nf h1)] at hq
    exact hq hM d_R_anomalies_8
theorem d_R_running_0 : decode b_R_running 0 = .ok (.iload_n 1, 1) := by decide +kernel
theorem d_R_running_1 : decode b_R_running 1 = .ok (.invokestatic 109, 3) := by decide +kernel
theorem d_R_running_4 : decode b_R_running 4 = .ok (.ifCond .eq 15, 3) := by decide +kernel
theorem d_R_running_7 : decode b_R_running 7 = .ok (.iload_n 2, 1) := by decide +kernel
theorem d_R_running_8 : decode b_R_running 8 = .ok (.bipush 6, 2) := by decide +kernel
theorem d_R_running_10 : decode b_R_running 10 = .ok (.if_icmp .lt 9, 3) := by decide +kernel
theorem d_R_running_13 : decode b_R_running 13 = .ok (.iload_n 2, 1) := by decide +kernel
theorem d_R_running_14 : decode b_R_running 14 = .ok (.bipush 15, 2) := by decide +kernel
theorem d_R_running_16 : decode b_R_running 16 = .ok (.if_icmp .le 5, 3) := by decide +kernel
theorem d_R_running_19 : decode b_R_running 19 = .ok (.iconst (-1), 1) := by decide +kernel
theorem d_R_running_20 : decode b_R_running 20 = .ok (.ireturn, 1) := by decide +kernel
theorem d_R_running_21 : decode b_R_running 21 = .ok (.iload_n 2, 1) := by decide +kernel
theorem d_R_running_22 : decode b_R_running 22 = .ok (.bipush 14, 2) := by decide +kernel
theorem d_R_running_24 : decode b_R_running 24 = .ok (.if_icmp .ne 12, 3) := by decide +kernel
theorem d_R_running_27 : decode b_R_running 27 = .ok (.aload_n 0, 1) := by decide +kernel
theorem d_R_running_28 : decode b_R_running 28 = .ok (.getfield 32, 3) := by decide +kernel
theorem d_R_running_31 : decode b_R_running 31 = .ok (.iload_n 1, 1) := by decide +kernel
theorem d_R_running_32 : decode b_R_running 32 = .ok (.iaload, 1) := by decide +kernel
theorem d_R_running_33 : decode b_R_running 33 = .ok (.goto 14, 3) := by decide +kernel
theorem d_R_running_36 : decode b_R_running 36 = .ok (.aload_n 0, 1) := by decide +kernel
theorem d_R_running_37 : decode b_R_running 37 = .ok (.getfield 25, 3) := by decide +kernel
theorem d_R_running_40 : decode b_R_running 40 = .ok (.bipush 16, 2) := by decide +kernel
theorem d_R_running_42 : decode b_R_running 42 = .ok (.iload_n 1, 1) := by decide +kernel
theorem d_R_running_43 : decode b_R_running 43 = .ok (.imul, 1) := by decide +kernel
theorem d_R_running_44 : decode b_R_running 44 = .ok (.iload_n 2, 1) := by decide +kernel
theorem d_R_running_45 : decode b_R_running 45 = .ok (.iadd, 1) := by decide +kernel
theorem d_R_running_46 : decode b_R_running 46 = .ok (.iaload, 1) := by decide +kernel
theorem d_R_running_47 : decode b_R_running 47 = .ok (.ireturn, 1) := by decide +kernel
def v_R_running (u : gm_St) (x : Int32) (y : Int32) : Int32 := (if (v_R_isModule x) = true then (if y < (6 : Int32) then (-1 : Int32) else (if y ≤ (15 : Int32) then (if y = (14 : Int32) then (u.2.1 1 x.toNatClampNeg) else (u.2.1 0 (16 * x.toNatClampNeg + y.toNatClampNeg))) else (-1 : Int32))) else (-1 : Int32))
set_option maxRecDepth 100000 in
set_option maxHeartbeats 4000000 in
theorem c_R_running {l : Launch} {D : va_G} {dk : Nat → ClassId} {a : Nat → Nat} {A : Nat → Prop} {lt : Nat} {u : gm_St} {x : Int32} {y : Int32} : gm_I l D (gm_ty dk) (gr_W dk a) A lt y_R_running b_R_running 3 (some .int) rm_R_running [.ref (a 0), .int x, .int y] u (v_R_running u x y) u := by
  refine gm_enterI (by decide) (Nat.le_of_ble_eq_true rfl) ?_
  intro p e s m args below meth c ls Q H locs hF hM hl hQ
  have hx := hF.1
  have hb := hF.2.1
  have hml := hF.2.2.1
  have hown := hF.2.2.2.1
  have hts := hF.2.2.2.2.1
  have hl : lv_has ls 3 [(0, .ref (a 0)), (1, .int x), (2, .int y)] := hl
  refine lv_iload_n hx hb d_R_running_0 rfl (lv_at hl 1 rfl) ?_
  refine gm_Si (As := [.int x]) (rest := []) hF hM (c_R_isModule (u := u) (x := x) ) (gk_R_109 hts ⟨by decide, by decide⟩) rfl hl.1 rfl (Nat.le_of_ble_eq_true rfl) ⟨Nat.zero_le _, Nat.zero_le _⟩ d_R_running_1 (fun H locs hM => ?_)
  refine gm_ifz (b := (v_R_isModule x)) (tgt := 19) hx hb d_R_running_4 rfl (fun h1 => ?_) (fun h1 => ?_)
  · refine lv_iconst (v := -1) hx hb d_R_running_19 (by decide) ?_
    have hq := hQ H locs 20 ls
    simp only [v_R_running, if_neg (gm_nf h1)] at hq
    exact hq hM d_R_running_20
  · obtain ⟨n, h_n, rfl⟩ := gr_isME h1
    refine lv_iload_n hx hb d_R_running_7 rfl (lv_at hl 2 rfl) ?_
    refine lv_bipush (v := 6) hx hb d_R_running_8 (by decide) ?_
    refine lv_icmp_lt (tgt := 19) hx hb d_R_running_10 rfl (fun h2 => ?_) (fun h2 => ?_)
    · refine lv_iconst (v := -1) hx hb d_R_running_19 (by decide) ?_
      have hq := hQ H locs 20 ls
      simp only [v_R_running, if_pos h1, nI_clamp (show n < 2 ^ 31 by omega), if_pos h2] at hq
      exact hq hM d_R_running_20
    · refine lv_iload_n hx hb d_R_running_13 rfl (lv_at hl 2 rfl) ?_
      refine lv_bipush (v := 15) hx hb d_R_running_14 (by decide) ?_
      refine lv_icmp_le (tgt := 21) hx hb d_R_running_16 rfl (fun h3 => ?_) (fun h3 => ?_)
      · obtain ⟨q, h_q, rfl⟩ := gm_ixL (lo := 6) (n := 15) h2 h3 (by decide) (by decide)
        refine lv_iload_n hx hb d_R_running_21 rfl (lv_at hl 2 rfl) ?_
        refine lv_bipush (v := 14) hx hb d_R_running_22 (by decide) ?_
        have J5 : ∀ (ls : Array Slot) (H : Heap) (locs : List Loc), lv_has ls 3 [(0, .ref (a 0)), (1, .int (nI n)), (2, .int (nI q))] → gm_M D A s (gr_W dk a) u H locs → W p l e rm_R_running s m args below meth c H locs 0 0 Q (F0 m 47 ls [.int (if (nI q) = (14 : Int32) then (u.2.1 1 n) else (u.2.1 0 (16 * n + q)))]) := by
          intro ls H locs hl hM
          have hq := hQ H locs 47 ls
          simp only [v_R_running, if_pos h1, nI_clamp (show n < 2 ^ 31 by omega), if_neg h2, if_pos h3, nI_clamp (show q < 2 ^ 31 by omega)] at hq
          exact hq hM d_R_running_47
        refine lv_icmp_ne (tgt := 36) hx hb d_R_running_24 rfl (fun h4 => ?_) (fun h4 => ?_)
        · refine lv_aload_n hx hb d_R_running_36 rfl (lv_at hl 0 rfl) ?_
          refine gf_R_25 hF hM d_R_running_37 ?_
          refine lv_bipush (v := 16) hx hb d_R_running_40 (by decide) ?_
          refine lv_iload_n hx hb d_R_running_42 rfl (lv_at hl 1 rfl) ?_
          refine lv_imul hx hb d_R_running_43 ?_
          refine lv_iload_n hx hb d_R_running_44 rfl (lv_at hl 2 rfl) ?_
          refine lv_iadd hx hb d_R_running_45 ?_
          refine ga_held (k := (16 * n + q)) hF hM (by first | rfl | (simp only [← nI_add, ← pk_mul] <;> rfl)) (by first | omega | exact Nat.mod_lt _ (by decide)) d_R_running_46 ?_
          have hJ := J5
          try simp only [if_neg h4] at hJ
          exact hJ ls H locs hl hM
        · refine lv_aload_n hx hb d_R_running_27 rfl (lv_at hl 0 rfl) ?_
          refine gf_R_32 hF hM d_R_running_28 ?_
          refine lv_iload_n hx hb d_R_running_31 rfl (lv_at hl 1 rfl) ?_
          refine ga_waited (k := n) hF hM rfl (by first | omega | exact Nat.mod_lt _ (by decide)) d_R_running_32 ?_
          refine lv_goto (tgt := 47) hx hb d_R_running_33 rfl ?_
          have hJ := J5
          try simp only [if_pos h4] at hJ
          exact hJ ls H locs hl hM
      · refine lv_iconst (v := -1) hx hb d_R_running_19 (by decide) ?_
        have hq := hQ H locs 20 ls
        simp only [v_R_running, if_pos h1, nI_clamp (show n < 2 ^ 31 by omega), if_neg h2, if_neg h3] at hq
        exact hq hM d_R_running_20
theorem d_R_lights_0 : decode b_R_lights 0 = .ok (.iconst 0, 1) := by decide +kernel
theorem d_R_lights_1 : decode b_R_lights 1 = .ok (.istore_n 1, 1) := by decide +kernel
theorem d_R_lights_2 : decode b_R_lights 2 = .ok (.iconst 0, 1) := by decide +kernel
theorem d_R_lights_3 : decode b_R_lights 3 = .ok (.istore_n 2, 1) := by decide +kernel
theorem d_R_lights_4 : decode b_R_lights 4 = .ok (.iconst 0, 1) := by decide +kernel
theorem d_R_lights_5 : decode b_R_lights 5 = .ok (.istore_n 3, 1) := by decide +kernel
theorem d_R_lights_6 : decode b_R_lights 6 = .ok (.iload_n 3, 1) := by decide +kernel
theorem d_R_lights_7 : decode b_R_lights 7 = .ok (.iconst 2, 1) := by decide +kernel
theorem d_R_lights_8 : decode b_R_lights 8 = .ok (.if_icmp .ge 72, 3) := by decide +kernel
theorem d_R_lights_11 : decode b_R_lights 11 = .ok (.iload_n 1, 1) := by decide +kernel
theorem d_R_lights_12 : decode b_R_lights 12 = .ok (.ifCond .ne 38, 3) := by decide +kernel
theorem d_R_lights_15 : decode b_R_lights 15 = .ok (.aload_n 0, 1) := by decide +kernel
theorem d_R_lights_16 : decode b_R_lights 16 = .ok (.getfield 7, 3) := by decide +kernel
theorem d_R_lights_19 : decode b_R_lights 19 = .ok (.iload_n 3, 1) := by decide +kernel
theorem d_R_lights_20 : decode b_R_lights 20 = .ok (.baload, 1) := by decide +kernel
theorem d_R_lights_21 : decode b_R_lights 21 = .ok (.ifCond .ne 33, 3) := by decide +kernel
theorem d_R_lights_24 : decode b_R_lights 24 = .ok (.aload_n 0, 1) := by decide +kernel
theorem d_R_lights_25 : decode b_R_lights 25 = .ok (.getfield 16, 3) := by decide +kernel
theorem d_R_lights_28 : decode b_R_lights 28 = .ok (.bipush 6, 2) := by decide +kernel
theorem d_R_lights_30 : decode b_R_lights 30 = .ok (.iload_n 3, 1) := by decide +kernel
theorem d_R_lights_31 : decode b_R_lights 31 = .ok (.imul, 1) := by decide +kernel
theorem d_R_lights_32 : decode b_R_lights 32 = .ok (.baload, 1) := by decide +kernel
theorem d_R_lights_33 : decode b_R_lights 33 = .ok (.ifCond .eq 21, 3) := by decide +kernel
theorem d_R_lights_36 : decode b_R_lights 36 = .ok (.aload_n 0, 1) := by decide +kernel
theorem d_R_lights_37 : decode b_R_lights 37 = .ok (.getfield 16, 3) := by decide +kernel
theorem d_R_lights_40 : decode b_R_lights 40 = .ok (.bipush 6, 2) := by decide +kernel
theorem d_R_lights_42 : decode b_R_lights 42 = .ok (.iload_n 3, 1) := by decide +kernel
theorem d_R_lights_43 : decode b_R_lights 43 = .ok (.imul, 1) := by decide +kernel
theorem d_R_lights_44 : decode b_R_lights 44 = .ok (.iconst 1, 1) := by decide +kernel
theorem d_R_lights_45 : decode b_R_lights 45 = .ok (.iadd, 1) := by decide +kernel
theorem d_R_lights_46 : decode b_R_lights 46 = .ok (.baload, 1) := by decide +kernel
theorem d_R_lights_47 : decode b_R_lights 47 = .ok (.ifCond .ne 7, 3) := by decide +kernel
theorem d_R_lights_50 : decode b_R_lights 50 = .ok (.iconst 1, 1) := by decide +kernel
theorem d_R_lights_51 : decode b_R_lights 51 = .ok (.goto 4, 3) := by decide +kernel
theorem d_R_lights_54 : decode b_R_lights 54 = .ok (.iconst 0, 1) := by decide +kernel
theorem d_R_lights_55 : decode b_R_lights 55 = .ok (.istore_n 1, 1) := by decide +kernel
theorem d_R_lights_56 : decode b_R_lights 56 = .ok (.iload_n 2, 1) := by decide +kernel
theorem d_R_lights_57 : decode b_R_lights 57 = .ok (.ifCond .ne 11, 3) := by decide +kernel
theorem d_R_lights_60 : decode b_R_lights 60 = .ok (.aload_n 0, 1) := by decide +kernel
theorem d_R_lights_61 : decode b_R_lights 61 = .ok (.iload_n 3, 1) := by decide +kernel
theorem d_R_lights_62 : decode b_R_lights 62 = .ok (.invokevirtual 115, 3) := by decide +kernel
theorem d_R_lights_65 : decode b_R_lights 65 = .ok (.ifCond .eq 7, 3) := by decide +kernel
theorem d_R_lights_68 : decode b_R_lights 68 = .ok (.iconst 1, 1) := by decide +kernel
theorem d_R_lights_69 : decode b_R_lights 69 = .ok (.goto 4, 3) := by decide +kernel
theorem d_R_lights_72 : decode b_R_lights 72 = .ok (.iconst 0, 1) := by decide +kernel
theorem d_R_lights_73 : decode b_R_lights 73 = .ok (.istore_n 2, 1) := by decide +kernel
theorem d_R_lights_74 : decode b_R_lights 74 = .ok (.iinc 3 1, 3) := by decide +kernel
theorem d_R_lights_77 : decode b_R_lights 77 = .ok (.goto (-71), 3) := by decide +kernel
theorem d_R_lights_80 : decode b_R_lights 80 = .ok (.aload_n 0, 1) := by decide +kernel
theorem d_R_lights_81 : decode b_R_lights 81 = .ok (.iconst (-1), 1) := by decide +kernel
theorem d_R_lights_82 : decode b_R_lights 82 = .ok (.invokevirtual 118, 3) := by decide +kernel
theorem d_R_lights_85 : decode b_R_lights 85 = .ok (.iconst 1, 1) := by decide +kernel
theorem d_R_lights_86 : decode b_R_lights 86 = .ok (.if_icmp .le 7, 3) := by decide +kernel
theorem d_R_lights_89 : decode b_R_lights 89 = .ok (.iconst 1, 1) := by decide +kernel
theorem d_R_lights_90 : decode b_R_lights 90 = .ok (.goto 4, 3) := by decide +kernel
theorem d_R_lights_93 : decode b_R_lights 93 = .ok (.iconst 0, 1) := by decide +kernel
theorem d_R_lights_94 : decode b_R_lights 94 = .ok (.istore_n 3, 1) := by decide +kernel
theorem d_R_lights_95 : decode b_R_lights 95 = .ok (.iload_n 1, 1) := by decide +kernel
theorem d_R_lights_96 : decode b_R_lights 96 = .ok (.ifCond .eq 7, 3) := by decide +kernel
theorem d_R_lights_99 : decode b_R_lights 99 = .ok (.iconst 1, 1) := by decide +kernel
theorem d_R_lights_100 : decode b_R_lights 100 = .ok (.goto 4, 3) := by decide +kernel
theorem d_R_lights_103 : decode b_R_lights 103 = .ok (.iconst 0, 1) := by decide +kernel
theorem d_R_lights_104 : decode b_R_lights 104 = .ok (.iload_n 3, 1) := by decide +kernel
theorem d_R_lights_105 : decode b_R_lights 105 = .ok (.ifCond .eq 7, 3) := by decide +kernel
theorem d_R_lights_108 : decode b_R_lights 108 = .ok (.iconst 2, 1) := by decide +kernel
theorem d_R_lights_109 : decode b_R_lights 109 = .ok (.goto 4, 3) := by decide +kernel
theorem d_R_lights_112 : decode b_R_lights 112 = .ok (.iconst 0, 1) := by decide +kernel
theorem d_R_lights_113 : decode b_R_lights 113 = .ok (.iadd, 1) := by decide +kernel
theorem d_R_lights_114 : decode b_R_lights 114 = .ok (.iload_n 2, 1) := by decide +kernel
theorem d_R_lights_115 : decode b_R_lights 115 = .ok (.ifCond .eq 7, 3) := by decide +kernel
theorem d_R_lights_118 : decode b_R_lights 118 = .ok (.iconst 4, 1) := by decide +kernel
theorem d_R_lights_119 : decode b_R_lights 119 = .ok (.goto 4, 3) := by decide +kernel
theorem d_R_lights_122 : decode b_R_lights 122 = .ok (.iconst 0, 1) := by decide +kernel
theorem d_R_lights_123 : decode b_R_lights 123 = .ok (.iadd, 1) := by decide +kernel
theorem d_R_lights_124 : decode b_R_lights 124 = .ok (.ireturn, 1) := by decide +kernel
def lp_R_lights (u : gm_St) : Nat → Nat → Bool → Bool → Bool × Bool
  | 0, _, gb, rb => (gb, rb)
  | k + 1, i, gb, rb => lp_R_lights u k (i + 1) (if gb = true then true else (if (u.1 0 i) = true then false else (if (u.1 2 (6 * i)) = true then (if (u.1 2 (6 * i + 1)) = true then false else true) else false))) (if rb = true then true else (if (v_R_anomalies u (nI i)) = 0 then false else true))
def v_R_lights (u : gm_St) : Int32 := (((gm_b (if ((lp_R_lights u 2 0 false false).1) = true then true else false)) + (if (if (v_R_valves u (-1 : Int32)) ≤ (1 : Int32) then false else true) = true then (2 : Int32) else (0 : Int32))) + (if ((lp_R_lights u 2 0 false false).2) = true then (4 : Int32) else (0 : Int32)))
set_option maxRecDepth 100000 in
set_option maxHeartbeats 4000000 in
theorem c_R_lights {l : Launch} {D : va_G} {dk : Nat → ClassId} {a : Nat → Nat} {A : Nat → Prop} {lt : Nat} {u : gm_St} : gm_I l D (gm_ty dk) (gr_W dk a) A lt y_R_lights b_R_lights 4 (some .int) rm_R_lights [.ref (a 0)] u (v_R_lights u) u := by
  refine gm_enterI (by decide) (Nat.le_of_ble_eq_true rfl) ?_
  intro p e s m args below meth c ls Q H locs hF hM hl hQ
  have hx := hF.1
  have hb := hF.2.1
  have hml := hF.2.2.1
  have hown := hF.2.2.2.1
  have hts := hF.2.2.2.2.1
  have hl : lv_has ls 4 [(0, .ref (a 0))] := hl
  refine lv_iconst (v := 0) hx hb d_R_lights_0 (by decide) ?_
  refine lv_istore_n (lv' := [(1, .int (0 : Int32)), (0, .ref (a 0))]) hx hb d_R_lights_1 rfl hl (by decide) rfl (fun ls hl => ?_)
  refine lv_iconst (v := 0) hx hb d_R_lights_2 (by decide) ?_
  refine lv_istore_n (lv' := [(2, .int (0 : Int32)), (1, .int (0 : Int32)), (0, .ref (a 0))]) hx hb d_R_lights_3 rfl hl (by decide) rfl (fun ls hl => ?_)
  refine lv_iconst (v := 0) hx hb d_R_lights_4 (by decide) ?_
  refine lv_istore_n (lv' := [(3, .int (0 : Int32)), (2, .int (0 : Int32)), (1, .int (0 : Int32)), (0, .ref (a 0))]) hx hb d_R_lights_5 rfl hl (by decide) rfl (fun ls hl => ?_)
  have L1 : ∀ (k1 i1 : Nat) (gb1 : Bool) (rb1 : Bool) (ls : Array Slot) (H : Heap) (locs : List Loc), i1 + k1 = 2 → lv_has ls 4 [(3, .int (nI i1)), (2, .int (gm_b rb1)), (1, .int (gm_b gb1)), (0, .ref (a 0))] → gm_M D A s (gr_W dk a) u H locs → (∀ (ls : Array Slot) (H : Heap) (locs : List Loc), lv_has ls 4 [(3, .int (nI 2)), (2, .int (gm_b ((lp_R_lights u k1 i1 gb1 rb1).2))), (1, .int (gm_b ((lp_R_lights u k1 i1 gb1 rb1).1))), (0, .ref (a 0))] → gm_M D A s (gr_W dk a) u H locs → W p l e rm_R_lights s m args below meth c H locs 0 0 Q (F0 m 80 ls [])) → W p l e rm_R_lights s m args below meth c H locs 0 0 Q (F0 m 6 ls []) := by
    intro k1
    induction k1 with
    | zero =>
      intro i1 gb1 rb1 ls H locs hk1 hl hM kk
      obtain rfl : i1 = 2 := by omega
      refine lv_iload_n hx hb d_R_lights_6 rfl (lv_at hl 0 rfl) ?_
      refine lv_iconst (v := 2) hx hb d_R_lights_7 (by decide) ?_
      refine lv_icmp_ge (tgt := 80) hx hb d_R_lights_8 rfl (fun _ => ?_) (fun h => absurd (by decide) h)
      exact kk ls H locs hl hM
    | succ k1 ih =>
      intro i1 gb1 rb1 ls H locs hk1 hl hM kk
      refine lv_iload_n hx hb d_R_lights_6 rfl (lv_at hl 0 rfl) ?_
      refine lv_iconst (v := 2) hx hb d_R_lights_7 (by decide) ?_
      refine lv_icmp_ge (tgt := 80) hx hb d_R_lights_8 rfl (fun h => absurd h (nI_ge (a := i1) (b := 2) (by omega) (by first | decide | omega))) (fun _ => ?_)
      refine lv_iload_n hx hb d_R_lights_11 rfl (lv_at hl 2 rfl) ?_
      have J3 : ∀ (ls : Array Slot) (H : Heap) (locs : List Loc), lv_has ls 4 [(0, .ref (a 0)), (1, .int (gm_b gb1)), (2, .int (gm_b rb1)), (3, .int (nI i1))] → gm_M D A s (gr_W dk a) u H locs → W p l e rm_R_lights s m args below meth c H locs 0 0 Q (F0 m 55 ls [.int (gm_b (if gb1 = true then true else (if (u.1 0 i1) = true then false else (if (u.1 2 (6 * i1)) = true then (if (u.1 2 (6 * i1 + 1)) = true then false else true) else false))))]) := by
        intro ls H locs hl hM
        refine lv_istore_n (lv' := [(1, .int (gm_b (if gb1 = true then true else (if (u.1 0 i1) = true then false else (if (u.1 2 (6 * i1)) = true then (if (u.1 2 (6 * i1 + 1)) = true then false else true) else false))))), (0, .ref (a 0)), (2, .int (gm_b rb1)), (3, .int (nI i1))]) hx hb d_R_lights_55 rfl hl (by decide) rfl (fun ls hl => ?_)
        refine lv_iload_n hx hb d_R_lights_56 rfl (lv_at hl 2 rfl) ?_
        have J5 : ∀ (ls : Array Slot) (H : Heap) (locs : List Loc), lv_has ls 4 [(0, .ref (a 0)), (1, .int (gm_b (if gb1 = true then true else (if (u.1 0 i1) = true then false else (if (u.1 2 (6 * i1)) = true then (if (u.1 2 (6 * i1 + 1)) = true then false else true) else false))))), (2, .int (gm_b rb1)), (3, .int (nI i1))] → gm_M D A s (gr_W dk a) u H locs → W p l e rm_R_lights s m args below meth c H locs 0 0 Q (F0 m 73 ls [.int (gm_b (if rb1 = true then true else (if (v_R_anomalies u (nI i1)) = 0 then false else true)))]) := by
          intro ls H locs hl hM
          refine lv_istore_n (lv' := [(2, .int (gm_b (if rb1 = true then true else (if (v_R_anomalies u (nI i1)) = 0 then false else true)))), (0, .ref (a 0)), (1, .int (gm_b (if gb1 = true then true else (if (u.1 0 i1) = true then false else (if (u.1 2 (6 * i1)) = true then (if (u.1 2 (6 * i1 + 1)) = true then false else true) else false))))), (3, .int (nI i1))]) hx hb d_R_lights_73 rfl hl (by decide) rfl (fun ls hl => ?_)
          refine lv_iinc (k := 3) (v := (nI (i1 + 1))) (lv' := [(3, .int (nI (i1 + 1))), (2, .int (gm_b (if rb1 = true then true else (if (v_R_anomalies u (nI i1)) = 0 then false else true)))), (0, .ref (a 0)), (1, .int (gm_b (if gb1 = true then true else (if (u.1 0 i1) = true then false else (if (u.1 2 (6 * i1)) = true then (if (u.1 2 (6 * i1 + 1)) = true then false else true) else false)))))]) hx hb d_R_lights_74 hl rfl (nI_1 _) (by decide) rfl (fun ls hl => ?_)
          refine lv_goto (tgt := 6) hx hb d_R_lights_77 rfl ?_
          have hK := kk
          simp only [lp_R_lights] at hK
          exact ih (i1 + 1) (if gb1 = true then true else (if (u.1 0 i1) = true then false else (if (u.1 2 (6 * i1)) = true then (if (u.1 2 (6 * i1 + 1)) = true then false else true) else false))) (if rb1 = true then true else (if (v_R_anomalies u (nI i1)) = 0 then false else true)) ls H locs (by omega) (lv_sub hl [0, 1, 3, 2] rfl) hM hK
        refine gm_ifn (b := rb1) (tgt := 68) hx hb d_R_lights_57 rfl (fun h4 => ?_) (fun h4 => ?_)
        · refine lv_iconst (v := 1) hx hb d_R_lights_68 (by decide) ?_
          refine lv_goto (tgt := 73) hx hb d_R_lights_69 rfl ?_
          have hJ := J5
          try simp only [if_pos h4] at hJ
          exact hJ ls H locs (lv_sub hl [1, 0, 2, 3] rfl) hM
        · refine lv_aload_n hx hb d_R_lights_60 rfl (lv_at hl 1 rfl) ?_
          refine lv_iload_n hx hb d_R_lights_61 rfl (lv_at hl 3 rfl) ?_
          refine gm_Vi (As := [.int (nI i1)]) (rest := []) hF hM (c_R_anomalies (u := u) (x := (nI i1)) ) (gk_R_115 hts ⟨by decide, by decide⟩) (gv_R hF hM rfl) rfl hl.1 rfl (Nat.le_of_ble_eq_true rfl) ⟨Nat.zero_le _, Nat.zero_le _⟩ d_R_lights_62 (fun H locs hM => ?_)
          refine lv_if_eq (tgt := 72) hx hb d_R_lights_65 rfl (fun h6 => ?_) (fun h6 => ?_)
          · refine lv_iconst (v := 0) hx hb d_R_lights_72 (by decide) ?_
            have hJ := J5
            try simp only [if_neg (gm_nf h4), if_pos h6] at hJ
            exact hJ ls H locs (lv_sub hl [1, 0, 2, 3] rfl) hM
          · refine lv_iconst (v := 1) hx hb d_R_lights_68 (by decide) ?_
            refine lv_goto (tgt := 73) hx hb d_R_lights_69 rfl ?_
            have hJ := J5
            try simp only [if_neg (gm_nf h4), if_neg h6] at hJ
            exact hJ ls H locs (lv_sub hl [1, 0, 2, 3] rfl) hM
      refine gm_ifn (b := gb1) (tgt := 50) hx hb d_R_lights_12 rfl (fun h2 => ?_) (fun h2 => ?_)
      · refine lv_iconst (v := 1) hx hb d_R_lights_50 (by decide) ?_
        refine lv_goto (tgt := 55) hx hb d_R_lights_51 rfl ?_
        have hJ := J3
        try simp only [if_pos h2] at hJ
        exact hJ ls H locs (lv_sub hl [3, 2, 1, 0] rfl) hM
      · refine lv_aload_n hx hb d_R_lights_15 rfl (lv_at hl 3 rfl) ?_
        refine gf_R_7 hF hM d_R_lights_16 ?_
        refine lv_iload_n hx hb d_R_lights_19 rfl (lv_at hl 0 rfl) ?_
        refine ga_failed (k := i1) hF hM rfl (by first | omega | exact Nat.mod_lt _ (by decide)) d_R_lights_20 ?_
        refine gm_ifn (b := (u.1 0 i1)) (tgt := 54) hx hb d_R_lights_21 rfl (fun h7 => ?_) (fun h7 => ?_)
        · refine lv_iconst (v := 0) hx hb d_R_lights_54 (by decide) ?_
          have hJ := J3
          try simp only [if_neg (gm_nf h2), if_pos h7] at hJ
          exact hJ ls H locs (lv_sub hl [3, 2, 1, 0] rfl) hM
        · refine lv_aload_n hx hb d_R_lights_24 rfl (lv_at hl 3 rfl) ?_
          refine gf_R_16 hF hM d_R_lights_25 ?_
          refine lv_bipush (v := 6) hx hb d_R_lights_28 (by decide) ?_
          refine lv_iload_n hx hb d_R_lights_30 rfl (lv_at hl 0 rfl) ?_
          refine lv_imul hx hb d_R_lights_31 ?_
          refine ga_value (k := (6 * i1)) hF hM (by first | rfl | (simp only [← nI_add, ← pk_mul] <;> rfl)) (by first | omega | exact Nat.mod_lt _ (by decide)) d_R_lights_32 ?_
          refine gm_ifz (b := (u.1 2 (6 * i1))) (tgt := 54) hx hb d_R_lights_33 rfl (fun h8 => ?_) (fun h8 => ?_)
          · refine lv_iconst (v := 0) hx hb d_R_lights_54 (by decide) ?_
            have hJ := J3
            try simp only [if_neg (gm_nf h2), if_neg (gm_nf h7), if_neg (gm_nf h8)] at hJ
            exact hJ ls H locs (lv_sub hl [3, 2, 1, 0] rfl) hM
          · refine lv_aload_n hx hb d_R_lights_36 rfl (lv_at hl 3 rfl) ?_
            refine gf_R_16 hF hM d_R_lights_37 ?_
            refine lv_bipush (v := 6) hx hb d_R_lights_40 (by decide) ?_
            refine lv_iload_n hx hb d_R_lights_42 rfl (lv_at hl 0 rfl) ?_
            refine lv_imul hx hb d_R_lights_43 ?_
            refine lv_iconst (v := 1) hx hb d_R_lights_44 (by decide) ?_
            refine lv_iadd hx hb d_R_lights_45 ?_
            refine ga_value (k := (6 * i1 + 1)) hF hM (by first | rfl | (simp only [← nI_add, ← pk_mul] <;> rfl)) (by first | omega | exact Nat.mod_lt _ (by decide)) d_R_lights_46 ?_
            refine gm_ifn (b := (u.1 2 (6 * i1 + 1))) (tgt := 54) hx hb d_R_lights_47 rfl (fun h9 => ?_) (fun h9 => ?_)
            · refine lv_iconst (v := 0) hx hb d_R_lights_54 (by decide) ?_
              have hJ := J3
              try simp only [if_neg (gm_nf h2), if_neg (gm_nf h7), if_pos h8, if_pos h9] at hJ
              exact hJ ls H locs (lv_sub hl [3, 2, 1, 0] rfl) hM
            · refine lv_iconst (v := 1) hx hb d_R_lights_50 (by decide) ?_
              refine lv_goto (tgt := 55) hx hb d_R_lights_51 rfl ?_
              have hJ := J3
              try simp only [if_neg (gm_nf h2), if_neg (gm_nf h7), if_pos h8, if_neg (gm_nf h9)] at hJ
              exact hJ ls H locs (lv_sub hl [3, 2, 1, 0] rfl) hM
  refine L1 2 0 false false ls H locs (by omega) hl hM (fun ls H locs hl hM => ?_)
  refine lv_aload_n hx hb d_R_lights_80 rfl (lv_at hl 3 rfl) ?_
  refine lv_iconst (v := -1) hx hb d_R_lights_81 (by decide) ?_
  refine gm_Vi (As := [.int (-1 : Int32)]) (rest := []) hF hM (c_R_valves (u := u) (x := (-1 : Int32)) ) (gk_R_118 hts ⟨by decide, by decide⟩) (gv_R hF hM rfl) rfl hl.1 rfl (Nat.le_of_ble_eq_true rfl) ⟨Nat.zero_le _, Nat.zero_le _⟩ d_R_lights_82 (fun H locs hM => ?_)
  refine lv_iconst (v := 1) hx hb d_R_lights_85 (by decide) ?_
  have J11 : ∀ (ls : Array Slot) (H : Heap) (locs : List Loc), lv_has ls 4 [(0, .ref (a 0)), (1, .int (gm_b ((lp_R_lights u 2 0 false false).1))), (2, .int (gm_b ((lp_R_lights u 2 0 false false).2))), (3, .int (nI 2))] → gm_M D A s (gr_W dk a) u H locs → W p l e rm_R_lights s m args below meth c H locs 0 0 Q (F0 m 94 ls [.int (gm_b (if (v_R_valves u (-1 : Int32)) ≤ (1 : Int32) then false else true))]) := by
    intro ls H locs hl hM
    refine lv_istore_n (lv' := [(3, .int (gm_b (if (v_R_valves u (-1 : Int32)) ≤ (1 : Int32) then false else true))), (0, .ref (a 0)), (1, .int (gm_b ((lp_R_lights u 2 0 false false).1))), (2, .int (gm_b ((lp_R_lights u 2 0 false false).2)))]) hx hb d_R_lights_94 rfl hl (by decide) rfl (fun ls hl => ?_)
    refine lv_iload_n hx hb d_R_lights_95 rfl (lv_at hl 2 rfl) ?_
    have J13 : ∀ (ls : Array Slot) (H : Heap) (locs : List Loc), lv_has ls 4 [(0, .ref (a 0)), (1, .int (gm_b ((lp_R_lights u 2 0 false false).1))), (2, .int (gm_b ((lp_R_lights u 2 0 false false).2))), (3, .int (gm_b (if (v_R_valves u (-1 : Int32)) ≤ (1 : Int32) then false else true)))] → gm_M D A s (gr_W dk a) u H locs → W p l e rm_R_lights s m args below meth c H locs 0 0 Q (F0 m 104 ls [.int (gm_b (if ((lp_R_lights u 2 0 false false).1) = true then true else false))]) := by
      intro ls H locs hl hM
      refine lv_iload_n hx hb d_R_lights_104 rfl (lv_at hl 3 rfl) ?_
      have J15 : ∀ (ls : Array Slot) (H : Heap) (locs : List Loc), lv_has ls 4 [(0, .ref (a 0)), (1, .int (gm_b ((lp_R_lights u 2 0 false false).1))), (2, .int (gm_b ((lp_R_lights u 2 0 false false).2))), (3, .int (gm_b (if (v_R_valves u (-1 : Int32)) ≤ (1 : Int32) then false else true)))] → gm_M D A s (gr_W dk a) u H locs → W p l e rm_R_lights s m args below meth c H locs 0 0 Q (F0 m 113 ls [.int (if (if (v_R_valves u (-1 : Int32)) ≤ (1 : Int32) then false else true) = true then (2 : Int32) else (0 : Int32)), .int (gm_b (if ((lp_R_lights u 2 0 false false).1) = true then true else false))]) := by
        intro ls H locs hl hM
        refine lv_iadd hx hb d_R_lights_113 ?_
        refine lv_iload_n hx hb d_R_lights_114 rfl (lv_at hl 2 rfl) ?_
        have J17 : ∀ (ls : Array Slot) (H : Heap) (locs : List Loc), lv_has ls 4 [(0, .ref (a 0)), (1, .int (gm_b ((lp_R_lights u 2 0 false false).1))), (2, .int (gm_b ((lp_R_lights u 2 0 false false).2))), (3, .int (gm_b (if (v_R_valves u (-1 : Int32)) ≤ (1 : Int32) then false else true)))] → gm_M D A s (gr_W dk a) u H locs → W p l e rm_R_lights s m args below meth c H locs 0 0 Q (F0 m 123 ls [.int (if ((lp_R_lights u 2 0 false false).2) = true then (4 : Int32) else (0 : Int32)), .int ((gm_b (if ((lp_R_lights u 2 0 false false).1) = true then true else false)) + (if (if (v_R_valves u (-1 : Int32)) ≤ (1 : Int32) then false else true) = true then (2 : Int32) else (0 : Int32)))]) := by
          intro ls H locs hl hM
          refine lv_iadd hx hb d_R_lights_123 ?_
          have hq := hQ H locs 124 ls
          simp only [v_R_lights] at hq
          exact hq hM d_R_lights_124
        refine gm_ifz (b := ((lp_R_lights u 2 0 false false).2)) (tgt := 122) hx hb d_R_lights_115 rfl (fun h16 => ?_) (fun h16 => ?_)
        · refine lv_iconst (v := 0) hx hb d_R_lights_122 (by decide) ?_
          have hJ := J17
          try simp only [if_neg (gm_nf h16)] at hJ
          exact hJ ls H locs hl hM
        · refine lv_iconst (v := 4) hx hb d_R_lights_118 (by decide) ?_
          refine lv_goto (tgt := 123) hx hb d_R_lights_119 rfl ?_
          have hJ := J17
          try simp only [if_pos h16] at hJ
          exact hJ ls H locs hl hM
      refine gm_ifz (b := (if (v_R_valves u (-1 : Int32)) ≤ (1 : Int32) then false else true)) (tgt := 112) hx hb d_R_lights_105 rfl (fun h14 => ?_) (fun h14 => ?_)
      · refine lv_iconst (v := 0) hx hb d_R_lights_112 (by decide) ?_
        have hJ := J15
        try simp only [if_neg (gm_nf h14)] at hJ
        exact hJ ls H locs hl hM
      · refine lv_iconst (v := 2) hx hb d_R_lights_108 (by decide) ?_
        refine lv_goto (tgt := 113) hx hb d_R_lights_109 rfl ?_
        have hJ := J15
        try simp only [if_pos h14] at hJ
        exact hJ ls H locs hl hM
    refine gm_ifz (b := ((lp_R_lights u 2 0 false false).1)) (tgt := 103) hx hb d_R_lights_96 rfl (fun h12 => ?_) (fun h12 => ?_)
    · refine lv_iconst (v := 0) hx hb d_R_lights_103 (by decide) ?_
      have hJ := J13
      try simp only [if_neg (gm_nf h12)] at hJ
      exact hJ ls H locs (lv_sub hl [1, 2, 3, 0] rfl) hM
    · refine lv_iconst (v := 1) hx hb d_R_lights_99 (by decide) ?_
      refine lv_goto (tgt := 104) hx hb d_R_lights_100 rfl ?_
      have hJ := J13
      try simp only [if_pos h12] at hJ
      exact hJ ls H locs (lv_sub hl [1, 2, 3, 0] rfl) hM
  refine lv_icmp_le (tgt := 93) hx hb d_R_lights_86 rfl (fun h10 => ?_) (fun h10 => ?_)
  · refine lv_iconst (v := 0) hx hb d_R_lights_93 (by decide) ?_
    have hJ := J11
    try simp only [if_pos h10] at hJ
    exact hJ ls H locs (lv_sub hl [3, 2, 1, 0] rfl) hM
  · refine lv_iconst (v := 1) hx hb d_R_lights_89 (by decide) ?_
    refine lv_goto (tgt := 94) hx hb d_R_lights_90 rfl ?_
    have hJ := J11
    try simp only [if_neg h10] at hJ
    exact hJ ls H locs (lv_sub hl [3, 2, 1, 0] rfl) hM
theorem d_R_entry_0 : decode b_R_entry 0 = .ok (.aload_n 0, 1) := by decide +kernel
theorem d_R_entry_1 : decode b_R_entry 1 = .ok (.getfield 77, 3) := by decide +kernel
theorem d_R_entry_4 : decode b_R_entry 4 = .ok (.bipush 16, 2) := by decide +kernel
theorem d_R_entry_6 : decode b_R_entry 6 = .ok (.if_icmp .ge 10, 3) := by decide +kernel
theorem d_R_entry_9 : decode b_R_entry 9 = .ok (.aload_n 0, 1) := by decide +kernel
theorem d_R_entry_10 : decode b_R_entry 10 = .ok (.getfield 77, 3) := by decide +kernel
theorem d_R_entry_13 : decode b_R_entry 13 = .ok (.goto 5, 3) := by decide +kernel
theorem d_R_entry_16 : decode b_R_entry 16 = .ok (.bipush 16, 2) := by decide +kernel
theorem d_R_entry_18 : decode b_R_entry 18 = .ok (.istore_n 2, 1) := by decide +kernel
theorem d_R_entry_19 : decode b_R_entry 19 = .ok (.iload_n 1, 1) := by decide +kernel
theorem d_R_entry_20 : decode b_R_entry 20 = .ok (.ifCond .lt 8, 3) := by decide +kernel
theorem d_R_entry_23 : decode b_R_entry 23 = .ok (.iload_n 1, 1) := by decide +kernel
theorem d_R_entry_24 : decode b_R_entry 24 = .ok (.iload_n 2, 1) := by decide +kernel
theorem d_R_entry_25 : decode b_R_entry 25 = .ok (.if_icmp .lt 9, 3) := by decide +kernel
theorem d_R_entry_28 : decode b_R_entry 28 = .ok (.ldc2_w 121, 3) := by decide +kernel
theorem d_R_entry_31 : decode b_R_entry 31 = .ok (.goto 19, 3) := by decide +kernel
theorem d_R_entry_34 : decode b_R_entry 34 = .ok (.aload_n 0, 1) := by decide +kernel
theorem d_R_entry_35 : decode b_R_entry 35 = .ok (.getfield 38, 3) := by decide +kernel
theorem d_R_entry_38 : decode b_R_entry 38 = .ok (.aload_n 0, 1) := by decide +kernel
theorem d_R_entry_39 : decode b_R_entry 39 = .ok (.getfield 77, 3) := by decide +kernel
theorem d_R_entry_42 : decode b_R_entry 42 = .ok (.iconst 1, 1) := by decide +kernel
theorem d_R_entry_43 : decode b_R_entry 43 = .ok (.isub, 1) := by decide +kernel
theorem d_R_entry_44 : decode b_R_entry 44 = .ok (.iload_n 1, 1) := by decide +kernel
theorem d_R_entry_45 : decode b_R_entry 45 = .ok (.isub, 1) := by decide +kernel
theorem d_R_entry_46 : decode b_R_entry 46 = .ok (.bipush 16, 2) := by decide +kernel
theorem d_R_entry_48 : decode b_R_entry 48 = .ok (.irem, 1) := by decide +kernel
theorem d_R_entry_49 : decode b_R_entry 49 = .ok (.laload, 1) := by decide +kernel
theorem d_R_entry_50 : decode b_R_entry 50 = .ok (.lreturn, 1) := by decide +kernel
def v_R_entry (u : gm_St) (x : Int32) : Int64 := (if x < 0 then (-1 : Int64) else (if x < (if (16 : Int32) ≤ (nI (u.2.2.1 0)) then (16 : Int32) else (nI (u.2.2.1 0))) then (u.2.2.2 (((u.2.2.1 0) - 1 - x.toNatClampNeg) % 16)) else (-1 : Int64)))
set_option maxRecDepth 100000 in
set_option maxHeartbeats 4000000 in
theorem c_R_entry {l : Launch} {D : va_G} {dk : Nat → ClassId} {a : Nat → Nat} {A : Nat → Prop} {lt : Nat} {u : gm_St} {x : Int32} (hp0 : u.2.2.1 0 + 0 ≤ 1073741824) : gm_L l D (gm_ty dk) (gr_W dk a) A lt y_R_entry b_R_entry 3 (some .long) rm_R_entry [.ref (a 0), .int x] u (v_R_entry u x) u := by
  refine gm_enterL (by decide) (Nat.le_of_ble_eq_true rfl) ?_
  intro p e s m args below meth c ls Q H locs hF hM hl hQ
  have hx := hF.1
  have hb := hF.2.1
  have hml := hF.2.2.1
  have hown := hF.2.2.2.1
  have hts := hF.2.2.2.2.1
  have hl : lv_has ls 3 [(0, .ref (a 0)), (1, .int x)] := hl
  refine lv_aload_n hx hb d_R_entry_0 rfl (lv_at hl 0 rfl) ?_
  refine gf_R_77 hF hM d_R_entry_1 ?_
  refine lv_bipush (v := 16) hx hb d_R_entry_4 (by decide) ?_
  have J2 : ∀ (ls : Array Slot) (H : Heap) (locs : List Loc), lv_has ls 3 [(0, .ref (a 0)), (1, .int x)] → gm_M D A s (gr_W dk a) u H locs → W p l e rm_R_entry s m args below meth c H locs 0 0 Q (F0 m 18 ls [.int (if (16 : Int32) ≤ (nI (u.2.2.1 0)) then (16 : Int32) else (nI (u.2.2.1 0)))]) := by
    intro ls H locs hl hM
    refine lv_istore_n (lv' := [(2, .int (if (16 : Int32) ≤ (nI (u.2.2.1 0)) then (16 : Int32) else (nI (u.2.2.1 0)))), (0, .ref (a 0)), (1, .int x)]) hx hb d_R_entry_18 rfl hl (by decide) rfl (fun ls hl => ?_)
    refine lv_iload_n hx hb d_R_entry_19 rfl (lv_at hl 2 rfl) ?_
    have J4 : ∀ (ls : Array Slot) (H : Heap) (locs : List Loc), lv_has ls 3 [(0, .ref (a 0)), (1, .int x), (2, .int (if (16 : Int32) ≤ (nI (u.2.2.1 0)) then (16 : Int32) else (nI (u.2.2.1 0))))] → gm_M D A s (gr_W dk a) u H locs → W p l e rm_R_entry s m args below meth c H locs 0 0 Q (F0 m 50 ls [.long (if x < 0 then (-1 : Int64) else (if x < (if (16 : Int32) ≤ (nI (u.2.2.1 0)) then (16 : Int32) else (nI (u.2.2.1 0))) then (u.2.2.2 (((u.2.2.1 0) - 1 - x.toNatClampNeg) % 16)) else (-1 : Int64)))]) := by
      intro ls H locs hl hM
      have hq := hQ H locs 50 ls
      simp only [v_R_entry] at hq
      exact hq hM d_R_entry_50
    refine lv_if_lt (tgt := 28) hx hb d_R_entry_20 rfl (fun h3 => ?_) (fun h3 => ?_)
    · refine lv_ldc2 (v := -1) hx hb hown (hts _ (gm_in 467 (by decide +kernel) rfl)) d_R_entry_28 ?_
      refine lv_goto (tgt := 50) hx hb d_R_entry_31 rfl ?_
      have hJ := J4
      try simp only [if_pos h3] at hJ
      exact hJ ls H locs (lv_sub hl [1, 2, 0] rfl) hM
    · refine lv_iload_n hx hb d_R_entry_23 rfl (lv_at hl 2 rfl) ?_
      refine lv_iload_n hx hb d_R_entry_24 rfl (lv_at hl 0 rfl) ?_
      refine lv_icmp_lt (tgt := 34) hx hb d_R_entry_25 rfl (fun h5 => ?_) (fun h5 => ?_)
      · have hq_x := gr_kept h3 h5 hp0
        have hm_x := hq_x.1
        have ex_x := hq_x.2
        refine lv_aload_n hx hb d_R_entry_34 rfl (lv_at hl 1 rfl) ?_
        refine gf_R_38 hF hM d_R_entry_35 ?_
        refine lv_aload_n hx hb d_R_entry_38 rfl (lv_at hl 1 rfl) ?_
        refine gf_R_77 hF hM d_R_entry_39 ?_
        refine lv_iconst (v := 1) hx hb d_R_entry_42 (by decide) ?_
        refine lv_isub hx hb d_R_entry_43 ?_
        refine gm_tp (y := (nI ((u.2.2.1 0) - 1))) (gr_sub (b := 1) rfl rfl (by omega)) ?_
        refine lv_iload_n hx hb d_R_entry_44 rfl (lv_at hl 2 rfl) ?_
        refine lv_isub hx hb d_R_entry_45 ?_
        refine gm_tp (y := (nI ((u.2.2.1 0) - 1 - x.toNatClampNeg))) (gr_sub (b := x.toNatClampNeg) rfl ex_x (by omega)) ?_
        refine lv_bipush (v := 16) hx hb d_R_entry_46 (by decide) ?_
        refine lv_irem hx hb d_R_entry_48 (by decide) ?_
        refine gm_tp (y := (nI (((u.2.2.1 0) - 1 - x.toNatClampNeg) % 16))) (gm_rem rfl (by first | omega | (have := (‹gm_ok _›).1; omega) | exact Nat.lt_of_lt_of_le hp0 (by decide)) (by decide) (by decide)) ?_
        refine ga_rrec (k := (((u.2.2.1 0) - 1 - x.toNatClampNeg) % 16)) hF hM rfl (by first | omega | exact Nat.mod_lt _ (by decide)) d_R_entry_49 ?_
        have hJ := J4
        try simp only [if_neg h3, if_pos h5] at hJ
        exact hJ ls H locs (lv_sub hl [1, 2, 0] rfl) hM
      · refine lv_ldc2 (v := -1) hx hb hown (hts _ (gm_in 467 (by decide +kernel) rfl)) d_R_entry_28 ?_
        refine lv_goto (tgt := 50) hx hb d_R_entry_31 rfl ?_
        have hJ := J4
        try simp only [if_neg h3, if_neg h5] at hJ
        exact hJ ls H locs (lv_sub hl [1, 2, 0] rfl) hM
  refine lv_icmp_ge (tgt := 16) hx hb d_R_entry_6 rfl (fun h1 => ?_) (fun h1 => ?_)
  · refine lv_bipush (v := 16) hx hb d_R_entry_16 (by decide) ?_
    have hJ := J2
    try simp only [if_pos h1] at hJ
    exact hJ ls H locs hl hM
  · refine lv_aload_n hx hb d_R_entry_9 rfl (lv_at hl 0 rfl) ?_
    refine gf_R_77 hF hM d_R_entry_10 ?_
    refine lv_goto (tgt := 18) hx hb d_R_entry_13 rfl ?_
    have hJ := J2
    try simp only [if_neg h1] at hJ
    exact hJ ls H locs hl hM
theorem d_R_ones_0 : decode b_R_ones 0 = .ok (.iconst 0, 1) := by decide +kernel
theorem d_R_ones_1 : decode b_R_ones 1 = .ok (.istore_n 1, 1) := by decide +kernel
theorem d_R_ones_2 : decode b_R_ones 2 = .ok (.iconst 0, 1) := by decide +kernel
theorem d_R_ones_3 : decode b_R_ones 3 = .ok (.istore_n 2, 1) := by decide +kernel
theorem d_R_ones_4 : decode b_R_ones 4 = .ok (.iload_n 2, 1) := by decide +kernel
theorem d_R_ones_5 : decode b_R_ones 5 = .ok (.bipush 32, 2) := by decide +kernel
theorem d_R_ones_7 : decode b_R_ones 7 = .ok (.if_icmp .ge 17, 3) := by decide +kernel
theorem d_R_ones_10 : decode b_R_ones 10 = .ok (.iload_n 1, 1) := by decide +kernel
theorem d_R_ones_11 : decode b_R_ones 11 = .ok (.iload_n 0, 1) := by decide +kernel
theorem d_R_ones_12 : decode b_R_ones 12 = .ok (.iload_n 2, 1) := by decide +kernel
theorem d_R_ones_13 : decode b_R_ones 13 = .ok (.ishr, 1) := by decide +kernel
theorem d_R_ones_14 : decode b_R_ones 14 = .ok (.iconst 1, 1) := by decide +kernel
theorem d_R_ones_15 : decode b_R_ones 15 = .ok (.iand, 1) := by decide +kernel
theorem d_R_ones_16 : decode b_R_ones 16 = .ok (.iadd, 1) := by decide +kernel
theorem d_R_ones_17 : decode b_R_ones 17 = .ok (.istore_n 1, 1) := by decide +kernel
theorem d_R_ones_18 : decode b_R_ones 18 = .ok (.iinc 2 1, 3) := by decide +kernel
theorem d_R_ones_21 : decode b_R_ones 21 = .ok (.goto (-17), 3) := by decide +kernel
theorem d_R_ones_24 : decode b_R_ones 24 = .ok (.iload_n 1, 1) := by decide +kernel
theorem d_R_ones_25 : decode b_R_ones 25 = .ok (.ireturn, 1) := by decide +kernel
def lp_R_ones (x : Int32) : Nat → Nat → Int32 → Int32
  | 0, _, z => z
  | k + 1, i, z => lp_R_ones x k (i + 1) (z + ((x >>> ((nI i) &&& 31)) &&& (1 : Int32)))
def v_R_ones (x : Int32) : Int32 := (lp_R_ones x 32 0 (0 : Int32))
set_option maxRecDepth 100000 in
set_option maxHeartbeats 4000000 in
theorem c_R_ones {l : Launch} {D : va_G} {dk : Nat → ClassId} {Wd : gm_St → va_W} {A : Nat → Prop} {lt : Nat} {u : gm_St} {x : Int32} : gm_I l D (gm_ty dk) Wd A lt y_R_ones b_R_ones 3 (some .int) rm_R_ones [.int x] u (v_R_ones x) u := by
  refine gm_enterI (by decide) (Nat.le_of_ble_eq_true rfl) ?_
  intro p e s m args below meth c ls Q H locs hF hM hl hQ
  have hx := hF.1
  have hb := hF.2.1
  have hml := hF.2.2.1
  have hown := hF.2.2.2.1
  have hts := hF.2.2.2.2.1
  have hl : lv_has ls 3 [(0, .int x)] := hl
  refine lv_iconst (v := 0) hx hb d_R_ones_0 (by decide) ?_
  refine lv_istore_n (lv' := [(1, .int (0 : Int32)), (0, .int x)]) hx hb d_R_ones_1 rfl hl (by decide) rfl (fun ls hl => ?_)
  refine lv_iconst (v := 0) hx hb d_R_ones_2 (by decide) ?_
  refine lv_istore_n (lv' := [(2, .int (0 : Int32)), (1, .int (0 : Int32)), (0, .int x)]) hx hb d_R_ones_3 rfl hl (by decide) rfl (fun ls hl => ?_)
  have L1 : ∀ (k1 i1 : Nat) (z1 : Int32) (ls : Array Slot) (H : Heap) (locs : List Loc), i1 + k1 = 32 → lv_has ls 3 [(2, .int (nI i1)), (1, .int z1), (0, .int x)] → gm_M D A s Wd u H locs → (∀ (ls : Array Slot) (H : Heap) (locs : List Loc), lv_has ls 3 [(2, .int (nI 32)), (1, .int (lp_R_ones x k1 i1 z1)), (0, .int x)] → gm_M D A s Wd u H locs → W p l e rm_R_ones s m args below meth c H locs 0 0 Q (F0 m 24 ls [])) → W p l e rm_R_ones s m args below meth c H locs 0 0 Q (F0 m 4 ls []) := by
    intro k1
    induction k1 with
    | zero =>
      intro i1 z1 ls H locs hk1 hl hM kk
      obtain rfl : i1 = 32 := by omega
      refine lv_iload_n hx hb d_R_ones_4 rfl (lv_at hl 0 rfl) ?_
      refine lv_bipush (v := 32) hx hb d_R_ones_5 (by decide) ?_
      refine lv_icmp_ge (tgt := 24) hx hb d_R_ones_7 rfl (fun _ => ?_) (fun h => absurd (by decide) h)
      exact kk ls H locs hl hM
    | succ k1 ih =>
      intro i1 z1 ls H locs hk1 hl hM kk
      refine lv_iload_n hx hb d_R_ones_4 rfl (lv_at hl 0 rfl) ?_
      refine lv_bipush (v := 32) hx hb d_R_ones_5 (by decide) ?_
      refine lv_icmp_ge (tgt := 24) hx hb d_R_ones_7 rfl (fun h => absurd h (nI_ge (a := i1) (b := 32) (by omega) (by first | decide | omega))) (fun _ => ?_)
      refine lv_iload_n hx hb d_R_ones_10 rfl (lv_at hl 1 rfl) ?_
      refine lv_iload_n hx hb d_R_ones_11 rfl (lv_at hl 2 rfl) ?_
      refine lv_iload_n hx hb d_R_ones_12 rfl (lv_at hl 0 rfl) ?_
      refine lv_ishr hx hb d_R_ones_13 ?_
      refine lv_iconst (v := 1) hx hb d_R_ones_14 (by decide) ?_
      refine lv_iand hx hb d_R_ones_15 ?_
      refine lv_iadd hx hb d_R_ones_16 ?_
      refine lv_istore_n (lv' := [(1, .int (z1 + ((x >>> ((nI i1) &&& 31)) &&& (1 : Int32)))), (2, .int (nI i1)), (0, .int x)]) hx hb d_R_ones_17 rfl hl (by decide) rfl (fun ls hl => ?_)
      refine lv_iinc (k := 1) (v := (nI (i1 + 1))) (lv' := [(2, .int (nI (i1 + 1))), (1, .int (z1 + ((x >>> ((nI i1) &&& 31)) &&& (1 : Int32)))), (0, .int x)]) hx hb d_R_ones_18 hl rfl (nI_1 _) (by decide) rfl (fun ls hl => ?_)
      refine lv_goto (tgt := 4) hx hb d_R_ones_21 rfl ?_
      have hK := kk
      simp only [lp_R_ones] at hK
      exact ih (i1 + 1) (z1 + ((x >>> ((nI i1) &&& 31)) &&& (1 : Int32))) ls H locs (by omega) hl hM hK
  refine L1 32 0 (0 : Int32) ls H locs (by omega) hl hM (fun ls H locs hl hM => ?_)
  refine lv_iload_n hx hb d_R_ones_24 rfl (lv_at hl 1 rfl) ?_
  have hq := hQ H locs 25 ls
  simp only [v_R_ones] at hq
  exact hq hM d_R_ones_25
theorem d_R_word_0 : decode b_R_word 0 = .ok (.iload_n 2, 1) := by decide +kernel
theorem d_R_word_1 : decode b_R_word 1 = .ok (.invokestatic 109, 3) := by decide +kernel
theorem d_R_word_4 : decode b_R_word 4 = .ok (.ifCond .eq 14, 3) := by decide +kernel
theorem d_R_word_7 : decode b_R_word 7 = .ok (.iload_n 1, 1) := by decide +kernel
theorem d_R_word_8 : decode b_R_word 8 = .ok (.ifCond .lt 10, 3) := by decide +kernel
theorem d_R_word_11 : decode b_R_word 11 = .ok (.iload_n 1, 1) := by decide +kernel
theorem d_R_word_12 : decode b_R_word 12 = .ok (.sipush 255, 3) := by decide +kernel
theorem d_R_word_15 : decode b_R_word 15 = .ok (.if_icmp .le 5, 3) := by decide +kernel
theorem d_R_word_18 : decode b_R_word 18 = .ok (.iconst 0, 1) := by decide +kernel
theorem d_R_word_19 : decode b_R_word 19 = .ok (.ireturn, 1) := by decide +kernel
theorem d_R_word_20 : decode b_R_word 20 = .ok (.iload_n 1, 1) := by decide +kernel
theorem d_R_word_21 : decode b_R_word 21 = .ok (.iload_n 2, 1) := by decide +kernel
theorem d_R_word_22 : decode b_R_word 22 = .ok (.iconst 1, 1) := by decide +kernel
theorem d_R_word_23 : decode b_R_word 23 = .ok (.iadd, 1) := by decide +kernel
theorem d_R_word_24 : decode b_R_word 24 = .ok (.bipush 8, 2) := by decide +kernel
theorem d_R_word_26 : decode b_R_word 26 = .ok (.ishl, 1) := by decide +kernel
theorem d_R_word_27 : decode b_R_word 27 = .ok (.iadd, 1) := by decide +kernel
theorem d_R_word_28 : decode b_R_word 28 = .ok (.aload_n 0, 1) := by decide +kernel
theorem d_R_word_29 : decode b_R_word 29 = .ok (.iload_n 2, 1) := by decide +kernel
theorem d_R_word_30 : decode b_R_word 30 = .ok (.invokevirtual 112, 3) := by decide +kernel
theorem d_R_word_33 : decode b_R_word 33 = .ok (.bipush 10, 2) := by decide +kernel
theorem d_R_word_35 : decode b_R_word 35 = .ok (.ishl, 1) := by decide +kernel
theorem d_R_word_36 : decode b_R_word 36 = .ok (.iadd, 1) := by decide +kernel
theorem d_R_word_37 : decode b_R_word 37 = .ok (.istore_n 3, 1) := by decide +kernel
theorem d_R_word_38 : decode b_R_word 38 = .ok (.iconst 0, 1) := by decide +kernel
theorem d_R_word_39 : decode b_R_word 39 = .ok (.istore 4, 2) := by decide +kernel
theorem d_R_word_41 : decode b_R_word 41 = .ok (.iload 4, 2) := by decide +kernel
theorem d_R_word_43 : decode b_R_word 43 = .ok (.bipush 6, 2) := by decide +kernel
theorem d_R_word_45 : decode b_R_word 45 = .ok (.if_icmp .ge 67, 3) := by decide +kernel
theorem d_R_word_48 : decode b_R_word 48 = .ok (.aload_n 0, 1) := by decide +kernel
theorem d_R_word_49 : decode b_R_word 49 = .ok (.getfield 16, 3) := by decide +kernel
theorem d_R_word_52 : decode b_R_word 52 = .ok (.bipush 6, 2) := by decide +kernel
theorem d_R_word_54 : decode b_R_word 54 = .ok (.iload_n 2, 1) := by decide +kernel
theorem d_R_word_55 : decode b_R_word 55 = .ok (.imul, 1) := by decide +kernel
theorem d_R_word_56 : decode b_R_word 56 = .ok (.iload 4, 2) := by decide +kernel
theorem d_R_word_58 : decode b_R_word 58 = .ok (.iadd, 1) := by decide +kernel
theorem d_R_word_59 : decode b_R_word 59 = .ok (.baload, 1) := by decide +kernel
theorem d_R_word_60 : decode b_R_word 60 = .ok (.ifCond .eq 15, 3) := by decide +kernel
theorem d_R_word_63 : decode b_R_word 63 = .ok (.iload_n 3, 1) := by decide +kernel
theorem d_R_word_64 : decode b_R_word 64 = .ok (.iconst 1, 1) := by decide +kernel
theorem d_R_word_65 : decode b_R_word 65 = .ok (.bipush 15, 2) := by decide +kernel
theorem d_R_word_67 : decode b_R_word 67 = .ok (.iload 4, 2) := by decide +kernel
theorem d_R_word_69 : decode b_R_word 69 = .ok (.iadd, 1) := by decide +kernel
theorem d_R_word_70 : decode b_R_word 70 = .ok (.ishl, 1) := by decide +kernel
theorem d_R_word_71 : decode b_R_word 71 = .ok (.iadd, 1) := by decide +kernel
theorem d_R_word_72 : decode b_R_word 72 = .ok (.goto 4, 3) := by decide +kernel
theorem d_R_word_75 : decode b_R_word 75 = .ok (.iload_n 3, 1) := by decide +kernel
theorem d_R_word_76 : decode b_R_word 76 = .ok (.istore_n 3, 1) := by decide +kernel
theorem d_R_word_77 : decode b_R_word 77 = .ok (.aload_n 0, 1) := by decide +kernel
theorem d_R_word_78 : decode b_R_word 78 = .ok (.getfield 19, 3) := by decide +kernel
theorem d_R_word_81 : decode b_R_word 81 = .ok (.bipush 6, 2) := by decide +kernel
theorem d_R_word_83 : decode b_R_word 83 = .ok (.iload_n 2, 1) := by decide +kernel
theorem d_R_word_84 : decode b_R_word 84 = .ok (.imul, 1) := by decide +kernel
theorem d_R_word_85 : decode b_R_word 85 = .ok (.iload 4, 2) := by decide +kernel
theorem d_R_word_87 : decode b_R_word 87 = .ok (.iadd, 1) := by decide +kernel
theorem d_R_word_88 : decode b_R_word 88 = .ok (.baload, 1) := by decide +kernel
theorem d_R_word_89 : decode b_R_word 89 = .ok (.ifCond .eq 15, 3) := by decide +kernel
theorem d_R_word_92 : decode b_R_word 92 = .ok (.iload_n 3, 1) := by decide +kernel
theorem d_R_word_93 : decode b_R_word 93 = .ok (.iconst 1, 1) := by decide +kernel
theorem d_R_word_94 : decode b_R_word 94 = .ok (.bipush 21, 2) := by decide +kernel
theorem d_R_word_96 : decode b_R_word 96 = .ok (.iload 4, 2) := by decide +kernel
theorem d_R_word_98 : decode b_R_word 98 = .ok (.iadd, 1) := by decide +kernel
theorem d_R_word_99 : decode b_R_word 99 = .ok (.ishl, 1) := by decide +kernel
theorem d_R_word_100 : decode b_R_word 100 = .ok (.iadd, 1) := by decide +kernel
theorem d_R_word_101 : decode b_R_word 101 = .ok (.goto 4, 3) := by decide +kernel
theorem d_R_word_104 : decode b_R_word 104 = .ok (.iload_n 3, 1) := by decide +kernel
theorem d_R_word_105 : decode b_R_word 105 = .ok (.istore_n 3, 1) := by decide +kernel
theorem d_R_word_106 : decode b_R_word 106 = .ok (.iinc 4 1, 3) := by decide +kernel
theorem d_R_word_109 : decode b_R_word 109 = .ok (.goto (-68), 3) := by decide +kernel
theorem d_R_word_112 : decode b_R_word 112 = .ok (.aload_n 0, 1) := by decide +kernel
theorem d_R_word_113 : decode b_R_word 113 = .ok (.getfield 7, 3) := by decide +kernel
theorem d_R_word_116 : decode b_R_word 116 = .ok (.iload_n 2, 1) := by decide +kernel
theorem d_R_word_117 : decode b_R_word 117 = .ok (.baload, 1) := by decide +kernel
theorem d_R_word_118 : decode b_R_word 118 = .ok (.ifCond .eq 7, 3) := by decide +kernel
theorem d_R_word_121 : decode b_R_word 121 = .ok (.iconst 0, 1) := by decide +kernel
theorem d_R_word_122 : decode b_R_word 122 = .ok (.goto 16, 3) := by decide +kernel
theorem d_R_word_125 : decode b_R_word 125 = .ok (.aload_n 0, 1) := by decide +kernel
theorem d_R_word_126 : decode b_R_word 126 = .ok (.iload_n 2, 1) := by decide +kernel
theorem d_R_word_127 : decode b_R_word 127 = .ok (.invokevirtual 115, 3) := by decide +kernel
theorem d_R_word_130 : decode b_R_word 130 = .ok (.ifCond .eq 7, 3) := by decide +kernel
theorem d_R_word_133 : decode b_R_word 133 = .ok (.iconst 1, 1) := by decide +kernel
theorem d_R_word_134 : decode b_R_word 134 = .ok (.goto 4, 3) := by decide +kernel
theorem d_R_word_137 : decode b_R_word 137 = .ok (.iconst 3, 1) := by decide +kernel
theorem d_R_word_138 : decode b_R_word 138 = .ok (.istore 4, 2) := by decide +kernel
theorem d_R_word_140 : decode b_R_word 140 = .ok (.iload_n 3, 1) := by decide +kernel
theorem d_R_word_141 : decode b_R_word 141 = .ok (.iload 4, 2) := by decide +kernel
theorem d_R_word_143 : decode b_R_word 143 = .ok (.bipush 29, 2) := by decide +kernel
theorem d_R_word_145 : decode b_R_word 145 = .ok (.ishl, 1) := by decide +kernel
theorem d_R_word_146 : decode b_R_word 146 = .ok (.iadd, 1) := by decide +kernel
theorem d_R_word_147 : decode b_R_word 147 = .ok (.istore_n 3, 1) := by decide +kernel
theorem d_R_word_148 : decode b_R_word 148 = .ok (.iload_n 3, 1) := by decide +kernel
theorem d_R_word_149 : decode b_R_word 149 = .ok (.invokestatic 123, 3) := by decide +kernel
theorem d_R_word_152 : decode b_R_word 152 = .ok (.iconst 2, 1) := by decide +kernel
theorem d_R_word_153 : decode b_R_word 153 = .ok (.irem, 1) := by decide +kernel
theorem d_R_word_154 : decode b_R_word 154 = .ok (.iconst 1, 1) := by decide +kernel
theorem d_R_word_155 : decode b_R_word 155 = .ok (.if_icmp .ne 7, 3) := by decide +kernel
theorem d_R_word_158 : decode b_R_word 158 = .ok (.iload_n 3, 1) := by decide +kernel
theorem d_R_word_159 : decode b_R_word 159 = .ok (.goto 7, 3) := by decide +kernel
theorem d_R_word_162 : decode b_R_word 162 = .ok (.iload_n 3, 1) := by decide +kernel
theorem d_R_word_163 : decode b_R_word 163 = .ok (.ldc 126, 2) := by decide +kernel
theorem d_R_word_165 : decode b_R_word 165 = .ok (.ior, 1) := by decide +kernel
theorem d_R_word_166 : decode b_R_word 166 = .ok (.ireturn, 1) := by decide +kernel
def lp_R_word (u : gm_St) (mn : Nat) : Nat → Nat → Int32 → Int32
  | 0, _, z => z
  | k + 1, i, z => lp_R_word u mn k (i + 1) (if (u.1 3 (6 * mn + i)) = true then ((if (u.1 2 (6 * mn + i)) = true then (z + ((1 : Int32) <<< (((15 : Int32) + (nI i)) &&& 31))) else z) + ((1 : Int32) <<< (((21 : Int32) + (nI i)) &&& 31))) else (if (u.1 2 (6 * mn + i)) = true then (z + ((1 : Int32) <<< (((15 : Int32) + (nI i)) &&& 31))) else z))
def v_R_word (u : gm_St) (x : Int32) (y : Int32) : Int32 := (if (v_R_isModule y) = true then (if x < 0 then (0 : Int32) else (if x ≤ (255 : Int32) then (if ((v_R_ones ((lp_R_word u y.toNatClampNeg 6 0 ((x + ((y + (1 : Int32)) <<< ((8 : Int32) &&& 31))) + ((v_R_valvesOf u y.toNatClampNeg) <<< ((10 : Int32) &&& 31)))) + ((if (u.1 0 y.toNatClampNeg) = true then (0 : Int32) else (if (v_R_anomalies u y) = 0 then (3 : Int32) else (1 : Int32))) <<< ((29 : Int32) &&& 31)))) - (v_R_ones ((lp_R_word u y.toNatClampNeg 6 0 ((x + ((y + (1 : Int32)) <<< ((8 : Int32) &&& 31))) + ((v_R_valvesOf u y.toNatClampNeg) <<< ((10 : Int32) &&& 31)))) + ((if (u.1 0 y.toNatClampNeg) = true then (0 : Int32) else (if (v_R_anomalies u y) = 0 then (3 : Int32) else (1 : Int32))) <<< ((29 : Int32) &&& 31)))) / (2 : Int32) * (2 : Int32)) = (1 : Int32) then ((lp_R_word u y.toNatClampNeg 6 0 ((x + ((y + (1 : Int32)) <<< ((8 : Int32) &&& 31))) + ((v_R_valvesOf u y.toNatClampNeg) <<< ((10 : Int32) &&& 31)))) + ((if (u.1 0 y.toNatClampNeg) = true then (0 : Int32) else (if (v_R_anomalies u y) = 0 then (3 : Int32) else (1 : Int32))) <<< ((29 : Int32) &&& 31))) else (((lp_R_word u y.toNatClampNeg 6 0 ((x + ((y + (1 : Int32)) <<< ((8 : Int32) &&& 31))) + ((v_R_valvesOf u y.toNatClampNeg) <<< ((10 : Int32) &&& 31)))) + ((if (u.1 0 y.toNatClampNeg) = true then (0 : Int32) else (if (v_R_anomalies u y) = 0 then (3 : Int32) else (1 : Int32))) <<< ((29 : Int32) &&& 31))) ||| (-2147483648 : Int32))) else (0 : Int32))) else (0 : Int32))
set_option maxRecDepth 100000 in
set_option maxHeartbeats 4000000 in
theorem c_R_word {l : Launch} {D : va_G} {dk : Nat → ClassId} {a : Nat → Nat} {A : Nat → Prop} {lt : Nat} {u : gm_St} {x : Int32} {y : Int32} : gm_I l D (gm_ty dk) (gr_W dk a) A lt y_R_word b_R_word 5 (some .int) rm_R_word [.ref (a 0), .int x, .int y] u (v_R_word u x y) u := by
  refine gm_enterI (by decide) (Nat.le_of_ble_eq_true rfl) ?_
  intro p e s m args below meth c ls Q H locs hF hM hl hQ
  have hx := hF.1
  have hb := hF.2.1
  have hml := hF.2.2.1
  have hown := hF.2.2.2.1
  have hts := hF.2.2.2.2.1
  have hl : lv_has ls 5 [(0, .ref (a 0)), (1, .int x), (2, .int y)] := hl
  refine lv_iload_n hx hb d_R_word_0 rfl (lv_at hl 2 rfl) ?_
  refine gm_Si (As := [.int y]) (rest := []) hF hM (c_R_isModule (u := u) (x := y) ) (gk_R_109 hts ⟨by decide, by decide⟩) rfl hl.1 rfl (Nat.le_of_ble_eq_true rfl) ⟨Nat.zero_le _, Nat.zero_le _⟩ d_R_word_1 (fun H locs hM => ?_)
  refine gm_ifz (b := (v_R_isModule y)) (tgt := 18) hx hb d_R_word_4 rfl (fun h1 => ?_) (fun h1 => ?_)
  · refine lv_iconst (v := 0) hx hb d_R_word_18 (by decide) ?_
    have hq := hQ H locs 19 ls
    simp only [v_R_word, if_neg (gm_nf h1)] at hq
    exact hq hM d_R_word_19
  · obtain ⟨n, h_n, rfl⟩ := gr_isME h1
    refine lv_iload_n hx hb d_R_word_7 rfl (lv_at hl 1 rfl) ?_
    refine lv_if_lt (tgt := 18) hx hb d_R_word_8 rfl (fun h2 => ?_) (fun h2 => ?_)
    · refine lv_iconst (v := 0) hx hb d_R_word_18 (by decide) ?_
      have hq := hQ H locs 19 ls
      simp only [v_R_word, if_pos h1, nI_clamp (show n < 2 ^ 31 by omega), if_pos h2] at hq
      exact hq hM d_R_word_19
    · refine lv_iload_n hx hb d_R_word_11 rfl (lv_at hl 1 rfl) ?_
      refine lv_sipush (v := 255) hx hb d_R_word_12 (by decide) ?_
      refine lv_icmp_le (tgt := 20) hx hb d_R_word_15 rfl (fun h3 => ?_) (fun h3 => ?_)
      · refine lv_iload_n hx hb d_R_word_20 rfl (lv_at hl 1 rfl) ?_
        refine lv_iload_n hx hb d_R_word_21 rfl (lv_at hl 2 rfl) ?_
        refine lv_iconst (v := 1) hx hb d_R_word_22 (by decide) ?_
        refine lv_iadd hx hb d_R_word_23 ?_
        refine lv_bipush (v := 8) hx hb d_R_word_24 (by decide) ?_
        refine lv_ishl hx hb d_R_word_26 ?_
        refine lv_iadd hx hb d_R_word_27 ?_
        refine lv_aload_n hx hb d_R_word_28 rfl (lv_at hl 0 rfl) ?_
        refine lv_iload_n hx hb d_R_word_29 rfl (lv_at hl 2 rfl) ?_
        refine gm_Vi (As := [.int (nI n)]) (rest := [.int (x + (((nI n) + (1 : Int32)) <<< ((8 : Int32) &&& 31)))]) hF hM (c_R_valvesOf (u := u) (mn := n) (by omega)) (gk_R_112 hts ⟨by decide, by decide⟩) (gv_R hF hM rfl) rfl hl.1 rfl (Nat.le_of_ble_eq_true rfl) ⟨Nat.zero_le _, Nat.zero_le _⟩ d_R_word_30 (fun H locs hM => ?_)
        refine lv_bipush (v := 10) hx hb d_R_word_33 (by decide) ?_
        refine lv_ishl hx hb d_R_word_35 ?_
        refine lv_iadd hx hb d_R_word_36 ?_
        refine lv_istore_n (lv' := [(3, .int ((x + (((nI n) + (1 : Int32)) <<< ((8 : Int32) &&& 31))) + ((v_R_valvesOf u n) <<< ((10 : Int32) &&& 31)))), (0, .ref (a 0)), (1, .int x), (2, .int (nI n))]) hx hb d_R_word_37 rfl hl (by decide) rfl (fun ls hl => ?_)
        refine lv_iconst (v := 0) hx hb d_R_word_38 (by decide) ?_
        refine lv_istore (lv' := [(4, .int (0 : Int32)), (3, .int ((x + (((nI n) + (1 : Int32)) <<< ((8 : Int32) &&& 31))) + ((v_R_valvesOf u n) <<< ((10 : Int32) &&& 31)))), (0, .ref (a 0)), (1, .int x), (2, .int (nI n))]) hx hb d_R_word_39 hl (by decide) rfl (fun ls hl => ?_)
        have L4 : ∀ (k4 i4 : Nat) (z4 : Int32) (ls : Array Slot) (H : Heap) (locs : List Loc), i4 + k4 = 6 → lv_has ls 5 [(4, .int (nI i4)), (3, .int z4), (0, .ref (a 0)), (1, .int x), (2, .int (nI n))] → gm_M D A s (gr_W dk a) u H locs → (∀ (ls : Array Slot) (H : Heap) (locs : List Loc), lv_has ls 5 [(4, .int (nI 6)), (3, .int (lp_R_word u n k4 i4 z4)), (0, .ref (a 0)), (1, .int x), (2, .int (nI n))] → gm_M D A s (gr_W dk a) u H locs → W p l e rm_R_word s m args below meth c H locs 0 0 Q (F0 m 112 ls [])) → W p l e rm_R_word s m args below meth c H locs 0 0 Q (F0 m 41 ls []) := by
          intro k4
          induction k4 with
          | zero =>
            intro i4 z4 ls H locs hk4 hl hM kk
            obtain rfl : i4 = 6 := by omega
            refine lv_iload hx hb d_R_word_41 (lv_at hl 0 rfl) ?_
            refine lv_bipush (v := 6) hx hb d_R_word_43 (by decide) ?_
            refine lv_icmp_ge (tgt := 112) hx hb d_R_word_45 rfl (fun _ => ?_) (fun h => absurd (by decide) h)
            exact kk ls H locs hl hM
          | succ k4 ih =>
            intro i4 z4 ls H locs hk4 hl hM kk
            refine lv_iload hx hb d_R_word_41 (lv_at hl 0 rfl) ?_
            refine lv_bipush (v := 6) hx hb d_R_word_43 (by decide) ?_
            refine lv_icmp_ge (tgt := 112) hx hb d_R_word_45 rfl (fun h => absurd h (nI_ge (a := i4) (b := 6) (by omega) (by first | decide | omega))) (fun _ => ?_)
            refine lv_aload_n hx hb d_R_word_48 rfl (lv_at hl 2 rfl) ?_
            refine gf_R_16 hF hM d_R_word_49 ?_
            refine lv_bipush (v := 6) hx hb d_R_word_52 (by decide) ?_
            refine lv_iload_n hx hb d_R_word_54 rfl (lv_at hl 4 rfl) ?_
            refine lv_imul hx hb d_R_word_55 ?_
            refine lv_iload hx hb d_R_word_56 (lv_at hl 0 rfl) ?_
            refine lv_iadd hx hb d_R_word_58 ?_
            refine ga_value (k := (6 * n + i4)) hF hM (by first | rfl | (simp only [← nI_add, ← pk_mul] <;> rfl)) (by first | omega | exact Nat.mod_lt _ (by decide)) d_R_word_59 ?_
            have J6 : ∀ (ls : Array Slot) (H : Heap) (locs : List Loc), lv_has ls 5 [(0, .ref (a 0)), (1, .int x), (2, .int (nI n)), (3, .int z4), (4, .int (nI i4))] → gm_M D A s (gr_W dk a) u H locs → W p l e rm_R_word s m args below meth c H locs 0 0 Q (F0 m 76 ls [.int (if (u.1 2 (6 * n + i4)) = true then (z4 + ((1 : Int32) <<< (((15 : Int32) + (nI i4)) &&& 31))) else z4)]) := by
              intro ls H locs hl hM
              refine lv_istore_n (lv' := [(3, .int (if (u.1 2 (6 * n + i4)) = true then (z4 + ((1 : Int32) <<< (((15 : Int32) + (nI i4)) &&& 31))) else z4)), (0, .ref (a 0)), (1, .int x), (2, .int (nI n)), (4, .int (nI i4))]) hx hb d_R_word_76 rfl hl (by decide) rfl (fun ls hl => ?_)
              refine lv_aload_n hx hb d_R_word_77 rfl (lv_at hl 1 rfl) ?_
              refine gf_R_19 hF hM d_R_word_78 ?_
              refine lv_bipush (v := 6) hx hb d_R_word_81 (by decide) ?_
              refine lv_iload_n hx hb d_R_word_83 rfl (lv_at hl 3 rfl) ?_
              refine lv_imul hx hb d_R_word_84 ?_
              refine lv_iload hx hb d_R_word_85 (lv_at hl 4 rfl) ?_
              refine lv_iadd hx hb d_R_word_87 ?_
              refine ga_broken (k := (6 * n + i4)) hF hM (by first | rfl | (simp only [← nI_add, ← pk_mul] <;> rfl)) (by first | omega | exact Nat.mod_lt _ (by decide)) d_R_word_88 ?_
              have J8 : ∀ (ls : Array Slot) (H : Heap) (locs : List Loc), lv_has ls 5 [(0, .ref (a 0)), (1, .int x), (2, .int (nI n)), (3, .int (if (u.1 2 (6 * n + i4)) = true then (z4 + ((1 : Int32) <<< (((15 : Int32) + (nI i4)) &&& 31))) else z4)), (4, .int (nI i4))] → gm_M D A s (gr_W dk a) u H locs → W p l e rm_R_word s m args below meth c H locs 0 0 Q (F0 m 105 ls [.int (if (u.1 3 (6 * n + i4)) = true then ((if (u.1 2 (6 * n + i4)) = true then (z4 + ((1 : Int32) <<< (((15 : Int32) + (nI i4)) &&& 31))) else z4) + ((1 : Int32) <<< (((21 : Int32) + (nI i4)) &&& 31))) else (if (u.1 2 (6 * n + i4)) = true then (z4 + ((1 : Int32) <<< (((15 : Int32) + (nI i4)) &&& 31))) else z4))]) := by
                intro ls H locs hl hM
                refine lv_istore_n (lv' := [(3, .int (if (u.1 3 (6 * n + i4)) = true then ((if (u.1 2 (6 * n + i4)) = true then (z4 + ((1 : Int32) <<< (((15 : Int32) + (nI i4)) &&& 31))) else z4) + ((1 : Int32) <<< (((21 : Int32) + (nI i4)) &&& 31))) else (if (u.1 2 (6 * n + i4)) = true then (z4 + ((1 : Int32) <<< (((15 : Int32) + (nI i4)) &&& 31))) else z4))), (0, .ref (a 0)), (1, .int x), (2, .int (nI n)), (4, .int (nI i4))]) hx hb d_R_word_105 rfl hl (by decide) rfl (fun ls hl => ?_)
                refine lv_iinc (k := 4) (v := (nI (i4 + 1))) (lv' := [(4, .int (nI (i4 + 1))), (3, .int (if (u.1 3 (6 * n + i4)) = true then ((if (u.1 2 (6 * n + i4)) = true then (z4 + ((1 : Int32) <<< (((15 : Int32) + (nI i4)) &&& 31))) else z4) + ((1 : Int32) <<< (((21 : Int32) + (nI i4)) &&& 31))) else (if (u.1 2 (6 * n + i4)) = true then (z4 + ((1 : Int32) <<< (((15 : Int32) + (nI i4)) &&& 31))) else z4))), (0, .ref (a 0)), (1, .int x), (2, .int (nI n))]) hx hb d_R_word_106 hl rfl (nI_1 _) (by decide) rfl (fun ls hl => ?_)
                refine lv_goto (tgt := 41) hx hb d_R_word_109 rfl ?_
                have hK := kk
                simp only [lp_R_word] at hK
                exact ih (i4 + 1) (if (u.1 3 (6 * n + i4)) = true then ((if (u.1 2 (6 * n + i4)) = true then (z4 + ((1 : Int32) <<< (((15 : Int32) + (nI i4)) &&& 31))) else z4) + ((1 : Int32) <<< (((21 : Int32) + (nI i4)) &&& 31))) else (if (u.1 2 (6 * n + i4)) = true then (z4 + ((1 : Int32) <<< (((15 : Int32) + (nI i4)) &&& 31))) else z4)) ls H locs (by omega) hl hM hK
              refine gm_ifz (b := (u.1 3 (6 * n + i4))) (tgt := 104) hx hb d_R_word_89 rfl (fun h7 => ?_) (fun h7 => ?_)
              · refine lv_iload_n hx hb d_R_word_104 rfl (lv_at hl 0 rfl) ?_
                have hJ := J8
                try simp only [if_neg (gm_nf h7)] at hJ
                exact hJ ls H locs (lv_sub hl [1, 2, 3, 0, 4] rfl) hM
              · refine lv_iload_n hx hb d_R_word_92 rfl (lv_at hl 0 rfl) ?_
                refine lv_iconst (v := 1) hx hb d_R_word_93 (by decide) ?_
                refine lv_bipush (v := 21) hx hb d_R_word_94 (by decide) ?_
                refine lv_iload hx hb d_R_word_96 (lv_at hl 4 rfl) ?_
                refine lv_iadd hx hb d_R_word_98 ?_
                refine lv_ishl hx hb d_R_word_99 ?_
                refine lv_iadd hx hb d_R_word_100 ?_
                refine lv_goto (tgt := 105) hx hb d_R_word_101 rfl ?_
                have hJ := J8
                try simp only [if_pos h7] at hJ
                exact hJ ls H locs (lv_sub hl [1, 2, 3, 0, 4] rfl) hM
            refine gm_ifz (b := (u.1 2 (6 * n + i4))) (tgt := 75) hx hb d_R_word_60 rfl (fun h5 => ?_) (fun h5 => ?_)
            · refine lv_iload_n hx hb d_R_word_75 rfl (lv_at hl 1 rfl) ?_
              have hJ := J6
              try simp only [if_neg (gm_nf h5)] at hJ
              exact hJ ls H locs (lv_sub hl [2, 3, 4, 1, 0] rfl) hM
            · refine lv_iload_n hx hb d_R_word_63 rfl (lv_at hl 1 rfl) ?_
              refine lv_iconst (v := 1) hx hb d_R_word_64 (by decide) ?_
              refine lv_bipush (v := 15) hx hb d_R_word_65 (by decide) ?_
              refine lv_iload hx hb d_R_word_67 (lv_at hl 0 rfl) ?_
              refine lv_iadd hx hb d_R_word_69 ?_
              refine lv_ishl hx hb d_R_word_70 ?_
              refine lv_iadd hx hb d_R_word_71 ?_
              refine lv_goto (tgt := 76) hx hb d_R_word_72 rfl ?_
              have hJ := J6
              try simp only [if_pos h5] at hJ
              exact hJ ls H locs (lv_sub hl [2, 3, 4, 1, 0] rfl) hM
        refine L4 6 0 ((x + (((nI n) + (1 : Int32)) <<< ((8 : Int32) &&& 31))) + ((v_R_valvesOf u n) <<< ((10 : Int32) &&& 31))) ls H locs (by omega) hl hM (fun ls H locs hl hM => ?_)
        refine lv_aload_n hx hb d_R_word_112 rfl (lv_at hl 2 rfl) ?_
        refine gf_R_7 hF hM d_R_word_113 ?_
        refine lv_iload_n hx hb d_R_word_116 rfl (lv_at hl 4 rfl) ?_
        refine ga_failed (k := n) hF hM rfl (by first | omega | exact Nat.mod_lt _ (by decide)) d_R_word_117 ?_
        have J10 : ∀ (ls : Array Slot) (H : Heap) (locs : List Loc), lv_has ls 5 [(0, .ref (a 0)), (1, .int x), (2, .int (nI n)), (3, .int (lp_R_word u n 6 0 ((x + (((nI n) + (1 : Int32)) <<< ((8 : Int32) &&& 31))) + ((v_R_valvesOf u n) <<< ((10 : Int32) &&& 31))))), (4, .int (nI 6))] → gm_M D A s (gr_W dk a) u H locs → W p l e rm_R_word s m args below meth c H locs 0 0 Q (F0 m 138 ls [.int (if (u.1 0 n) = true then (0 : Int32) else (if (v_R_anomalies u (nI n)) = 0 then (3 : Int32) else (1 : Int32)))]) := by
          intro ls H locs hl hM
          refine lv_istore (lv' := [(4, .int (if (u.1 0 n) = true then (0 : Int32) else (if (v_R_anomalies u (nI n)) = 0 then (3 : Int32) else (1 : Int32)))), (0, .ref (a 0)), (1, .int x), (2, .int (nI n)), (3, .int (lp_R_word u n 6 0 ((x + (((nI n) + (1 : Int32)) <<< ((8 : Int32) &&& 31))) + ((v_R_valvesOf u n) <<< ((10 : Int32) &&& 31)))))]) hx hb d_R_word_138 hl (by decide) rfl (fun ls hl => ?_)
          refine lv_iload_n hx hb d_R_word_140 rfl (lv_at hl 4 rfl) ?_
          refine lv_iload hx hb d_R_word_141 (lv_at hl 0 rfl) ?_
          refine lv_bipush (v := 29) hx hb d_R_word_143 (by decide) ?_
          refine lv_ishl hx hb d_R_word_145 ?_
          refine lv_iadd hx hb d_R_word_146 ?_
          refine lv_istore_n (lv' := [(3, .int ((lp_R_word u n 6 0 ((x + (((nI n) + (1 : Int32)) <<< ((8 : Int32) &&& 31))) + ((v_R_valvesOf u n) <<< ((10 : Int32) &&& 31)))) + ((if (u.1 0 n) = true then (0 : Int32) else (if (v_R_anomalies u (nI n)) = 0 then (3 : Int32) else (1 : Int32))) <<< ((29 : Int32) &&& 31)))), (4, .int (if (u.1 0 n) = true then (0 : Int32) else (if (v_R_anomalies u (nI n)) = 0 then (3 : Int32) else (1 : Int32)))), (0, .ref (a 0)), (1, .int x), (2, .int (nI n))]) hx hb d_R_word_147 rfl hl (by decide) rfl (fun ls hl => ?_)
          refine lv_iload_n hx hb d_R_word_148 rfl (lv_at hl 0 rfl) ?_
          refine gm_Si (As := [.int ((lp_R_word u n 6 0 ((x + (((nI n) + (1 : Int32)) <<< ((8 : Int32) &&& 31))) + ((v_R_valvesOf u n) <<< ((10 : Int32) &&& 31)))) + ((if (u.1 0 n) = true then (0 : Int32) else (if (v_R_anomalies u (nI n)) = 0 then (3 : Int32) else (1 : Int32))) <<< ((29 : Int32) &&& 31)))]) (rest := []) hF hM (c_R_ones (u := u) (x := ((lp_R_word u n 6 0 ((x + (((nI n) + (1 : Int32)) <<< ((8 : Int32) &&& 31))) + ((v_R_valvesOf u n) <<< ((10 : Int32) &&& 31)))) + ((if (u.1 0 n) = true then (0 : Int32) else (if (v_R_anomalies u (nI n)) = 0 then (3 : Int32) else (1 : Int32))) <<< ((29 : Int32) &&& 31)))) ) (gk_R_123 hts ⟨by decide, by decide⟩) rfl hl.1 rfl (Nat.le_of_ble_eq_true rfl) ⟨Nat.zero_le _, Nat.zero_le _⟩ d_R_word_149 (fun H locs hM => ?_)
          refine lv_iconst (v := 2) hx hb d_R_word_152 (by decide) ?_
          refine lv_irem hx hb d_R_word_153 (by decide) ?_
          refine lv_iconst (v := 1) hx hb d_R_word_154 (by decide) ?_
          have J12 : ∀ (ls : Array Slot) (H : Heap) (locs : List Loc), lv_has ls 5 [(0, .ref (a 0)), (1, .int x), (2, .int (nI n)), (3, .int ((lp_R_word u n 6 0 ((x + (((nI n) + (1 : Int32)) <<< ((8 : Int32) &&& 31))) + ((v_R_valvesOf u n) <<< ((10 : Int32) &&& 31)))) + ((if (u.1 0 n) = true then (0 : Int32) else (if (v_R_anomalies u (nI n)) = 0 then (3 : Int32) else (1 : Int32))) <<< ((29 : Int32) &&& 31)))), (4, .int (if (u.1 0 n) = true then (0 : Int32) else (if (v_R_anomalies u (nI n)) = 0 then (3 : Int32) else (1 : Int32))))] → gm_M D A s (gr_W dk a) u H locs → W p l e rm_R_word s m args below meth c H locs 0 0 Q (F0 m 166 ls [.int (if ((v_R_ones ((lp_R_word u n 6 0 ((x + (((nI n) + (1 : Int32)) <<< ((8 : Int32) &&& 31))) + ((v_R_valvesOf u n) <<< ((10 : Int32) &&& 31)))) + ((if (u.1 0 n) = true then (0 : Int32) else (if (v_R_anomalies u (nI n)) = 0 then (3 : Int32) else (1 : Int32))) <<< ((29 : Int32) &&& 31)))) - (v_R_ones ((lp_R_word u n 6 0 ((x + (((nI n) + (1 : Int32)) <<< ((8 : Int32) &&& 31))) + ((v_R_valvesOf u n) <<< ((10 : Int32) &&& 31)))) + ((if (u.1 0 n) = true then (0 : Int32) else (if (v_R_anomalies u (nI n)) = 0 then (3 : Int32) else (1 : Int32))) <<< ((29 : Int32) &&& 31)))) / (2 : Int32) * (2 : Int32)) = (1 : Int32) then ((lp_R_word u n 6 0 ((x + (((nI n) + (1 : Int32)) <<< ((8 : Int32) &&& 31))) + ((v_R_valvesOf u n) <<< ((10 : Int32) &&& 31)))) + ((if (u.1 0 n) = true then (0 : Int32) else (if (v_R_anomalies u (nI n)) = 0 then (3 : Int32) else (1 : Int32))) <<< ((29 : Int32) &&& 31))) else (((lp_R_word u n 6 0 ((x + (((nI n) + (1 : Int32)) <<< ((8 : Int32) &&& 31))) + ((v_R_valvesOf u n) <<< ((10 : Int32) &&& 31)))) + ((if (u.1 0 n) = true then (0 : Int32) else (if (v_R_anomalies u (nI n)) = 0 then (3 : Int32) else (1 : Int32))) <<< ((29 : Int32) &&& 31))) ||| (-2147483648 : Int32)))]) := by
            intro ls H locs hl hM
            have hq := hQ H locs 166 ls
            simp only [v_R_word, if_pos h1, nI_clamp (show n < 2 ^ 31 by omega), if_neg h2, if_pos h3] at hq
            exact hq hM d_R_word_166
          refine lv_icmp_ne (tgt := 162) hx hb d_R_word_155 rfl (fun h11 => ?_) (fun h11 => ?_)
          · refine lv_iload_n hx hb d_R_word_162 rfl (lv_at hl 0 rfl) ?_
            refine lv_ldc (v := -2147483648) hx hb hown (hts _ (gm_in 475 (by decide +kernel) rfl)) d_R_word_163 ?_
            refine lv_ior hx hb d_R_word_165 ?_
            have hJ := J12
            try simp only [if_neg h11] at hJ
            exact hJ ls H locs (lv_sub hl [2, 3, 4, 0, 1] rfl) hM
          · refine lv_iload_n hx hb d_R_word_158 rfl (lv_at hl 0 rfl) ?_
            refine lv_goto (tgt := 166) hx hb d_R_word_159 rfl ?_
            have hJ := J12
            try simp only [if_pos h11] at hJ
            exact hJ ls H locs (lv_sub hl [2, 3, 4, 0, 1] rfl) hM
        refine gm_ifz (b := (u.1 0 n)) (tgt := 125) hx hb d_R_word_118 rfl (fun h9 => ?_) (fun h9 => ?_)
        · refine lv_aload_n hx hb d_R_word_125 rfl (lv_at hl 2 rfl) ?_
          refine lv_iload_n hx hb d_R_word_126 rfl (lv_at hl 4 rfl) ?_
          refine gm_Vi (As := [.int (nI n)]) (rest := []) hF hM (c_R_anomalies (u := u) (x := (nI n)) ) (gk_R_115 hts ⟨by decide, by decide⟩) (gv_R hF hM rfl) rfl hl.1 rfl (Nat.le_of_ble_eq_true rfl) ⟨Nat.zero_le _, Nat.zero_le _⟩ d_R_word_127 (fun H locs hM => ?_)
          refine lv_if_eq (tgt := 137) hx hb d_R_word_130 rfl (fun h13 => ?_) (fun h13 => ?_)
          · refine lv_iconst (v := 3) hx hb d_R_word_137 (by decide) ?_
            have hJ := J10
            try simp only [if_neg (gm_nf h9), if_pos h13] at hJ
            exact hJ ls H locs (lv_sub hl [2, 3, 4, 1, 0] rfl) hM
          · refine lv_iconst (v := 1) hx hb d_R_word_133 (by decide) ?_
            refine lv_goto (tgt := 138) hx hb d_R_word_134 rfl ?_
            have hJ := J10
            try simp only [if_neg (gm_nf h9), if_neg h13] at hJ
            exact hJ ls H locs (lv_sub hl [2, 3, 4, 1, 0] rfl) hM
        · refine lv_iconst (v := 0) hx hb d_R_word_121 (by decide) ?_
          refine lv_goto (tgt := 138) hx hb d_R_word_122 rfl ?_
          have hJ := J10
          try simp only [if_pos h9] at hJ
          exact hJ ls H locs (lv_sub hl [2, 3, 4, 1, 0] rfl) hM
      · refine lv_iconst (v := 0) hx hb d_R_word_18 (by decide) ?_
        have hq := hQ H locs 19 ls
        simp only [v_R_word, if_pos h1, nI_clamp (show n < 2 ^ 31 by omega), if_neg h2, if_neg h3] at hq
        exact hq hM d_R_word_19
theorem d_R_label_0 : decode b_R_label 0 = .ok (.iload_n 1, 1) := by decide +kernel
theorem d_R_label_1 : decode b_R_label 1 = .ok (.invokestatic 123, 3) := by decide +kernel
theorem d_R_label_4 : decode b_R_label 4 = .ok (.iconst 2, 1) := by decide +kernel
theorem d_R_label_5 : decode b_R_label 5 = .ok (.irem, 1) := by decide +kernel
theorem d_R_label_6 : decode b_R_label 6 = .ok (.ifCond .ne 5, 3) := by decide +kernel
theorem d_R_label_9 : decode b_R_label 9 = .ok (.iconst (-1), 1) := by decide +kernel
theorem d_R_label_10 : decode b_R_label 10 = .ok (.ireturn, 1) := by decide +kernel
theorem d_R_label_11 : decode b_R_label 11 = .ok (.iconst 0, 1) := by decide +kernel
theorem d_R_label_12 : decode b_R_label 12 = .ok (.istore_n 2, 1) := by decide +kernel
theorem d_R_label_13 : decode b_R_label 13 = .ok (.iconst 0, 1) := by decide +kernel
theorem d_R_label_14 : decode b_R_label 14 = .ok (.istore_n 3, 1) := by decide +kernel
theorem d_R_label_15 : decode b_R_label 15 = .ok (.iload_n 3, 1) := by decide +kernel
theorem d_R_label_16 : decode b_R_label 16 = .ok (.bipush 8, 2) := by decide +kernel
theorem d_R_label_18 : decode b_R_label 18 = .ok (.if_icmp .ge 22, 3) := by decide +kernel
theorem d_R_label_21 : decode b_R_label 21 = .ok (.iload_n 2, 1) := by decide +kernel
theorem d_R_label_22 : decode b_R_label 22 = .ok (.iload_n 1, 1) := by decide +kernel
theorem d_R_label_23 : decode b_R_label 23 = .ok (.iload_n 3, 1) := by decide +kernel
theorem d_R_label_24 : decode b_R_label 24 = .ok (.ishr, 1) := by decide +kernel
theorem d_R_label_25 : decode b_R_label 25 = .ok (.iconst 1, 1) := by decide +kernel
theorem d_R_label_26 : decode b_R_label 26 = .ok (.iand, 1) := by decide +kernel
theorem d_R_label_27 : decode b_R_label 27 = .ok (.bipush 7, 2) := by decide +kernel
theorem d_R_label_29 : decode b_R_label 29 = .ok (.iload_n 3, 1) := by decide +kernel
theorem d_R_label_30 : decode b_R_label 30 = .ok (.isub, 1) := by decide +kernel
theorem d_R_label_31 : decode b_R_label 31 = .ok (.ishl, 1) := by decide +kernel
theorem d_R_label_32 : decode b_R_label 32 = .ok (.iadd, 1) := by decide +kernel
theorem d_R_label_33 : decode b_R_label 33 = .ok (.istore_n 2, 1) := by decide +kernel
theorem d_R_label_34 : decode b_R_label 34 = .ok (.iinc 3 1, 3) := by decide +kernel
theorem d_R_label_37 : decode b_R_label 37 = .ok (.goto (-22), 3) := by decide +kernel
theorem d_R_label_40 : decode b_R_label 40 = .ok (.iload_n 2, 1) := by decide +kernel
theorem d_R_label_41 : decode b_R_label 41 = .ok (.ireturn, 1) := by decide +kernel
def lp_R_label (u : gm_St) (wo : Int32) : Nat → Nat → Int32 → Int32
  | 0, _, z => z
  | k + 1, i, z => lp_R_label u wo k (i + 1) (z + (((wo >>> ((nI i) &&& 31)) &&& (1 : Int32)) <<< (((7 : Int32) - (nI i)) &&& 31)))
def v_R_label (u : gm_St) (wo : Int32) : Int32 := (if ((v_R_ones wo) - (v_R_ones wo) / (2 : Int32) * (2 : Int32)) = 0 then (-1 : Int32) else (lp_R_label u wo 8 0 (0 : Int32)))
set_option maxRecDepth 100000 in
set_option maxHeartbeats 4000000 in
theorem c_R_label {l : Launch} {D : va_G} {dk : Nat → ClassId} {a : Nat → Nat} {A : Nat → Prop} {lt : Nat} {u : gm_St} {wo : Int32} : gm_I l D (gm_ty dk) (gr_W dk a) A lt y_R_label b_R_label 4 (some .int) rm_R_label [.ref (a 0), .int wo] u (v_R_label u wo) u := by
  refine gm_enterI (by decide) (Nat.le_of_ble_eq_true rfl) ?_
  intro p e s m args below meth c ls Q H locs hF hM hl hQ
  have hx := hF.1
  have hb := hF.2.1
  have hml := hF.2.2.1
  have hown := hF.2.2.2.1
  have hts := hF.2.2.2.2.1
  have hl : lv_has ls 4 [(0, .ref (a 0)), (1, .int wo)] := hl
  refine lv_iload_n hx hb d_R_label_0 rfl (lv_at hl 1 rfl) ?_
  refine gm_Si (As := [.int wo]) (rest := []) hF hM (c_R_ones (u := u) (x := wo) ) (gk_R_123 hts ⟨by decide, by decide⟩) rfl hl.1 rfl (Nat.le_of_ble_eq_true rfl) ⟨Nat.zero_le _, Nat.zero_le _⟩ d_R_label_1 (fun H locs hM => ?_)
  refine lv_iconst (v := 2) hx hb d_R_label_4 (by decide) ?_
  refine lv_irem hx hb d_R_label_5 (by decide) ?_
  refine lv_if_ne (tgt := 11) hx hb d_R_label_6 rfl (fun h1 => ?_) (fun h1 => ?_)
  · refine lv_iconst (v := 0) hx hb d_R_label_11 (by decide) ?_
    refine lv_istore_n (lv' := [(2, .int (0 : Int32)), (0, .ref (a 0)), (1, .int wo)]) hx hb d_R_label_12 rfl hl (by decide) rfl (fun ls hl => ?_)
    refine lv_iconst (v := 0) hx hb d_R_label_13 (by decide) ?_
    refine lv_istore_n (lv' := [(3, .int (0 : Int32)), (2, .int (0 : Int32)), (0, .ref (a 0)), (1, .int wo)]) hx hb d_R_label_14 rfl hl (by decide) rfl (fun ls hl => ?_)
    have L2 : ∀ (k2 i2 : Nat) (z2 : Int32) (ls : Array Slot) (H : Heap) (locs : List Loc), i2 + k2 = 8 → lv_has ls 4 [(3, .int (nI i2)), (2, .int z2), (0, .ref (a 0)), (1, .int wo)] → gm_M D A s (gr_W dk a) u H locs → (∀ (ls : Array Slot) (H : Heap) (locs : List Loc), lv_has ls 4 [(3, .int (nI 8)), (2, .int (lp_R_label u wo k2 i2 z2)), (0, .ref (a 0)), (1, .int wo)] → gm_M D A s (gr_W dk a) u H locs → W p l e rm_R_label s m args below meth c H locs 0 0 Q (F0 m 40 ls [])) → W p l e rm_R_label s m args below meth c H locs 0 0 Q (F0 m 15 ls []) := by
      intro k2
      induction k2 with
      | zero =>
        intro i2 z2 ls H locs hk2 hl hM kk
        obtain rfl : i2 = 8 := by omega
        refine lv_iload_n hx hb d_R_label_15 rfl (lv_at hl 0 rfl) ?_
        refine lv_bipush (v := 8) hx hb d_R_label_16 (by decide) ?_
        refine lv_icmp_ge (tgt := 40) hx hb d_R_label_18 rfl (fun _ => ?_) (fun h => absurd (by decide) h)
        exact kk ls H locs hl hM
      | succ k2 ih =>
        intro i2 z2 ls H locs hk2 hl hM kk
        refine lv_iload_n hx hb d_R_label_15 rfl (lv_at hl 0 rfl) ?_
        refine lv_bipush (v := 8) hx hb d_R_label_16 (by decide) ?_
        refine lv_icmp_ge (tgt := 40) hx hb d_R_label_18 rfl (fun h => absurd h (nI_ge (a := i2) (b := 8) (by omega) (by first | decide | omega))) (fun _ => ?_)
        refine lv_iload_n hx hb d_R_label_21 rfl (lv_at hl 1 rfl) ?_
        refine lv_iload_n hx hb d_R_label_22 rfl (lv_at hl 3 rfl) ?_
        refine lv_iload_n hx hb d_R_label_23 rfl (lv_at hl 0 rfl) ?_
        refine lv_ishr hx hb d_R_label_24 ?_
        refine lv_iconst (v := 1) hx hb d_R_label_25 (by decide) ?_
        refine lv_iand hx hb d_R_label_26 ?_
        refine lv_bipush (v := 7) hx hb d_R_label_27 (by decide) ?_
        refine lv_iload_n hx hb d_R_label_29 rfl (lv_at hl 0 rfl) ?_
        refine lv_isub hx hb d_R_label_30 ?_
        refine lv_ishl hx hb d_R_label_31 ?_
        refine lv_iadd hx hb d_R_label_32 ?_
        refine lv_istore_n (lv' := [(2, .int (z2 + (((wo >>> ((nI i2) &&& 31)) &&& (1 : Int32)) <<< (((7 : Int32) - (nI i2)) &&& 31)))), (3, .int (nI i2)), (0, .ref (a 0)), (1, .int wo)]) hx hb d_R_label_33 rfl hl (by decide) rfl (fun ls hl => ?_)
        refine lv_iinc (k := 1) (v := (nI (i2 + 1))) (lv' := [(3, .int (nI (i2 + 1))), (2, .int (z2 + (((wo >>> ((nI i2) &&& 31)) &&& (1 : Int32)) <<< (((7 : Int32) - (nI i2)) &&& 31)))), (0, .ref (a 0)), (1, .int wo)]) hx hb d_R_label_34 hl rfl (nI_1 _) (by decide) rfl (fun ls hl => ?_)
        refine lv_goto (tgt := 15) hx hb d_R_label_37 rfl ?_
        have hK := kk
        simp only [lp_R_label] at hK
        exact ih (i2 + 1) (z2 + (((wo >>> ((nI i2) &&& 31)) &&& (1 : Int32)) <<< (((7 : Int32) - (nI i2)) &&& 31))) ls H locs (by omega) hl hM hK
    refine L2 8 0 (0 : Int32) ls H locs (by omega) hl hM (fun ls H locs hl hM => ?_)
    refine lv_iload_n hx hb d_R_label_40 rfl (lv_at hl 1 rfl) ?_
    have hq := hQ H locs 41 ls
    simp only [v_R_label, if_neg h1] at hq
    exact hq hM d_R_label_41
  · refine lv_iconst (v := -1) hx hb d_R_label_9 (by decide) ?_
    have hq := hQ H locs 10 ls
    simp only [v_R_label, if_pos h1] at hq
    exact hq hM d_R_label_10
