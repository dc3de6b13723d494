theorem d_G_word_0 : decode b_G_word 0 = .ok (.iload_n 2, 1) := by decide +kernel
theorem d_G_word_1 : decode b_G_word 1 = .ok (.invokestatic 39, 3) := by decide +kernel
theorem d_G_word_4 : decode b_G_word 4 = .ok (.ifCond .eq 14, 3) := by decide +kernel
theorem d_G_word_7 : decode b_G_word 7 = .ok (.iload_n 1, 1) := by decide +kernel
theorem d_G_word_8 : decode b_G_word 8 = .ok (.ifCond .lt 10, 3) := by decide +kernel
theorem d_G_word_11 : decode b_G_word 11 = .ok (.iload_n 1, 1) := by decide +kernel
theorem d_G_word_12 : decode b_G_word 12 = .ok (.sipush 256, 3) := by decide +kernel
theorem d_G_word_15 : decode b_G_word 15 = .ok (.if_icmp .lt 5, 3) := by decide +kernel
theorem d_G_word_18 : decode b_G_word 18 = .ok (.iconst 0, 1) := by decide +kernel
theorem d_G_word_19 : decode b_G_word 19 = .ok (.ireturn, 1) := by decide +kernel
theorem d_G_word_20 : decode b_G_word 20 = .ok (.aload_n 0, 1) := by decide +kernel
theorem d_G_word_21 : decode b_G_word 21 = .ok (.getfield 11, 3) := by decide +kernel
theorem d_G_word_24 : decode b_G_word 24 = .ok (.iload_n 2, 1) := by decide +kernel
theorem d_G_word_25 : decode b_G_word 25 = .ok (.aaload, 1) := by decide +kernel
theorem d_G_word_26 : decode b_G_word 26 = .ok (.astore_n 3, 1) := by decide +kernel
theorem d_G_word_27 : decode b_G_word 27 = .ok (.iload_n 1, 1) := by decide +kernel
theorem d_G_word_28 : decode b_G_word 28 = .ok (.iload_n 2, 1) := by decide +kernel
theorem d_G_word_29 : decode b_G_word 29 = .ok (.iconst 1, 1) := by decide +kernel
theorem d_G_word_30 : decode b_G_word 30 = .ok (.iadd, 1) := by decide +kernel
theorem d_G_word_31 : decode b_G_word 31 = .ok (.bipush 8, 2) := by decide +kernel
theorem d_G_word_33 : decode b_G_word 33 = .ok (.ishl, 1) := by decide +kernel
theorem d_G_word_34 : decode b_G_word 34 = .ok (.ior, 1) := by decide +kernel
theorem d_G_word_35 : decode b_G_word 35 = .ok (.aload_n 3, 1) := by decide +kernel
theorem d_G_word_36 : decode b_G_word 36 = .ok (.getfield 57, 3) := by decide +kernel
theorem d_G_word_39 : decode b_G_word 39 = .ok (.bipush 10, 2) := by decide +kernel
theorem d_G_word_41 : decode b_G_word 41 = .ok (.ishl, 1) := by decide +kernel
theorem d_G_word_42 : decode b_G_word 42 = .ok (.ior, 1) := by decide +kernel
theorem d_G_word_43 : decode b_G_word 43 = .ok (.aload_n 3, 1) := by decide +kernel
theorem d_G_word_44 : decode b_G_word 44 = .ok (.invokevirtual 87, 3) := by decide +kernel
theorem d_G_word_47 : decode b_G_word 47 = .ok (.bipush 15, 2) := by decide +kernel
theorem d_G_word_49 : decode b_G_word 49 = .ok (.ishl, 1) := by decide +kernel
theorem d_G_word_50 : decode b_G_word 50 = .ok (.ior, 1) := by decide +kernel
theorem d_G_word_51 : decode b_G_word 51 = .ok (.aload_n 3, 1) := by decide +kernel
theorem d_G_word_52 : decode b_G_word 52 = .ok (.invokevirtual 90, 3) := by decide +kernel
theorem d_G_word_55 : decode b_G_word 55 = .ok (.bipush 21, 2) := by decide +kernel
theorem d_G_word_57 : decode b_G_word 57 = .ok (.ishl, 1) := by decide +kernel
theorem d_G_word_58 : decode b_G_word 58 = .ok (.ior, 1) := by decide +kernel
theorem d_G_word_59 : decode b_G_word 59 = .ok (.aload_n 3, 1) := by decide +kernel
theorem d_G_word_60 : decode b_G_word 60 = .ok (.invokevirtual 93, 3) := by decide +kernel
theorem d_G_word_63 : decode b_G_word 63 = .ok (.bipush 29, 2) := by decide +kernel
theorem d_G_word_65 : decode b_G_word 65 = .ok (.ishl, 1) := by decide +kernel
theorem d_G_word_66 : decode b_G_word 66 = .ok (.ior, 1) := by decide +kernel
theorem d_G_word_67 : decode b_G_word 67 = .ok (.istore 4, 2) := by decide +kernel
theorem d_G_word_69 : decode b_G_word 69 = .ok (.iload 4, 2) := by decide +kernel
theorem d_G_word_71 : decode b_G_word 71 = .ok (.invokestatic 96, 3) := by decide +kernel
theorem d_G_word_74 : decode b_G_word 74 = .ok (.ifCond .eq 8, 3) := by decide +kernel
theorem d_G_word_77 : decode b_G_word 77 = .ok (.iload 4, 2) := by decide +kernel
theorem d_G_word_79 : decode b_G_word 79 = .ok (.goto 8, 3) := by decide +kernel
theorem d_G_word_82 : decode b_G_word 82 = .ok (.iload 4, 2) := by decide +kernel
theorem d_G_word_84 : decode b_G_word 84 = .ok (.ldc 99, 2) := by decide +kernel
theorem d_G_word_86 : decode b_G_word 86 = .ok (.ior, 1) := by decide +kernel
theorem d_G_word_87 : decode b_G_word 87 = .ok (.ireturn, 1) := by decide +kernel
def v_G_word (u : gm_St) (x : Int32) (y : Int32) : Int32 := (if (v_G_isModule y) = true then (if x < 0 then (0 : Int32) else (if x < (256 : Int32) then (if (v_G_hasOddParity (((((x ||| ((y + (1 : Int32)) <<< ((8 : Int32) &&& 31))) ||| ((u.2.1 3 y.toNatClampNeg) <<< ((10 : Int32) &&& 31))) ||| ((v_M_sensorsOn u y.toNatClampNeg) <<< ((15 : Int32) &&& 31))) ||| ((v_M_sensorsBroken u y.toNatClampNeg) <<< ((21 : Int32) &&& 31))) ||| ((v_M_status u y.toNatClampNeg) <<< ((29 : Int32) &&& 31)))) = true then (((((x ||| ((y + (1 : Int32)) <<< ((8 : Int32) &&& 31))) ||| ((u.2.1 3 y.toNatClampNeg) <<< ((10 : Int32) &&& 31))) ||| ((v_M_sensorsOn u y.toNatClampNeg) <<< ((15 : Int32) &&& 31))) ||| ((v_M_sensorsBroken u y.toNatClampNeg) <<< ((21 : Int32) &&& 31))) ||| ((v_M_status u y.toNatClampNeg) <<< ((29 : Int32) &&& 31))) else ((((((x ||| ((y + (1 : Int32)) <<< ((8 : Int32) &&& 31))) ||| ((u.2.1 3 y.toNatClampNeg) <<< ((10 : Int32) &&& 31))) ||| ((v_M_sensorsOn u y.toNatClampNeg) <<< ((15 : Int32) &&& 31))) ||| ((v_M_sensorsBroken u y.toNatClampNeg) <<< ((21 : Int32) &&& 31))) ||| ((v_M_status u y.toNatClampNeg) <<< ((29 : Int32) &&& 31))) ||| (-2147483648 : Int32))) else (0 : Int32))) else (0 : Int32))
set_option maxRecDepth 100000 in
set_option maxHeartbeats 4000000 in
theorem c_G_word {l : Launch} {D : va_G} {dk : Nat → ClassId} {a : Nat → Nat} {A : Nat → Prop} {lt : Nat} {u : gm_St} {x : Int32} {y : Int32} : gm_I l D (gm_ty dk) (gm_W dk a) A lt y_G_word b_G_word 5 (some .int) rm_G_word [.ref (a 0), .int x, .int y] u (v_G_word u x y) u := by
  refine gm_enterI (by decide) (Nat.le_of_ble_eq_true rfl) ?_
  intro p e s m args below meth c ls Q H locs hF hM hl hQ
  have hx := hF.1
  have hb := hF.2.1
  have hml := hF.2.2.1
  have hown := hF.2.2.2.1
  have hts := hF.2.2.2.2.1
  have hl : lv_has ls 5 [(0, .ref (a 0)), (1, .int x), (2, .int y)] := hl
  refine lv_iload_n hx hb d_G_word_0 rfl (lv_at hl 2 rfl) ?_
  refine gm_Si (As := [.int y]) (rest := []) hF hM (c_G_isModule (u := u) (x := y) ) (gk_G_39 hts ⟨by decide, by decide⟩) rfl hl.1 rfl (Nat.le_of_ble_eq_true rfl) ⟨Nat.zero_le _, Nat.zero_le _⟩ d_G_word_1 (fun H locs hM => ?_)
  refine gm_ifz (b := (v_G_isModule y)) (tgt := 18) hx hb d_G_word_4 rfl (fun h1 => ?_) (fun h1 => ?_)
  · refine lv_iconst (v := 0) hx hb d_G_word_18 (by decide) ?_
    have hq := hQ H locs 19 ls
    simp only [v_G_word, if_neg (gm_nf h1)] at hq
    exact hq hM d_G_word_19
  · have hm_y := (gm_isM h1).1
    have ex_y := (gm_isM h1).2
    refine lv_iload_n hx hb d_G_word_7 rfl (lv_at hl 1 rfl) ?_
    refine lv_if_lt (tgt := 18) hx hb d_G_word_8 rfl (fun h2 => ?_) (fun h2 => ?_)
    · refine lv_iconst (v := 0) hx hb d_G_word_18 (by decide) ?_
      have hq := hQ H locs 19 ls
      simp only [v_G_word, if_pos h1, if_pos h2] at hq
      exact hq hM d_G_word_19
    · refine lv_iload_n hx hb d_G_word_11 rfl (lv_at hl 1 rfl) ?_
      refine lv_sipush (v := 256) hx hb d_G_word_12 (by decide) ?_
      refine lv_icmp_lt (tgt := 20) hx hb d_G_word_15 rfl (fun h3 => ?_) (fun h3 => ?_)
      · refine lv_aload_n hx hb d_G_word_20 rfl (lv_at hl 0 rfl) ?_
        refine gf_G_11 hF hM d_G_word_21 ?_
        refine lv_iload_n hx hb d_G_word_24 rfl (lv_at hl 2 rfl) ?_
        refine ga_mods (k := y.toNatClampNeg) hF hM ex_y (by first | omega | exact Nat.mod_lt _ (by decide)) d_G_word_25 ?_
        refine lv_astore_n (lv' := [(3, .ref (a (3 + y.toNatClampNeg))), (0, .ref (a 0)), (1, .int x), (2, .int y)]) hx hb d_G_word_26 rfl hl (by decide) rfl (fun ls hl => ?_)
        refine lv_iload_n hx hb d_G_word_27 rfl (lv_at hl 2 rfl) ?_
        refine lv_iload_n hx hb d_G_word_28 rfl (lv_at hl 3 rfl) ?_
        refine lv_iconst (v := 1) hx hb d_G_word_29 (by decide) ?_
        refine lv_iadd hx hb d_G_word_30 ?_
        refine lv_bipush (v := 8) hx hb d_G_word_31 (by decide) ?_
        refine lv_ishl hx hb d_G_word_33 ?_
        refine lv_ior hx hb d_G_word_34 ?_
        refine lv_aload_n hx hb d_G_word_35 rfl (lv_at hl 0 rfl) ?_
        refine gf_G_57 hF hM (by omega) d_G_word_36 ?_
        refine lv_bipush (v := 10) hx hb d_G_word_39 (by decide) ?_
        refine lv_ishl hx hb d_G_word_41 ?_
        refine lv_ior hx hb d_G_word_42 ?_
        refine lv_aload_n hx hb d_G_word_43 rfl (lv_at hl 0 rfl) ?_
        refine gm_Vi (As := []) (rest := [.int ((x ||| ((y + (1 : Int32)) <<< ((8 : Int32) &&& 31))) ||| ((u.2.1 3 y.toNatClampNeg) <<< ((10 : Int32) &&& 31)))]) hF hM (c_M_sensorsOn (u := u) (m := y.toNatClampNeg) (by omega)) (gk_G_87 hts ⟨by decide, by decide⟩) (gv_M hF hM (by omega) rfl) rfl hl.1 rfl (Nat.le_of_ble_eq_true rfl) ⟨Nat.zero_le _, Nat.zero_le _⟩ d_G_word_44 (fun H locs hM => ?_)
        refine lv_bipush (v := 15) hx hb d_G_word_47 (by decide) ?_
        refine lv_ishl hx hb d_G_word_49 ?_
        refine lv_ior hx hb d_G_word_50 ?_
        refine lv_aload_n hx hb d_G_word_51 rfl (lv_at hl 0 rfl) ?_
        refine gm_Vi (As := []) (rest := [.int (((x ||| ((y + (1 : Int32)) <<< ((8 : Int32) &&& 31))) ||| ((u.2.1 3 y.toNatClampNeg) <<< ((10 : Int32) &&& 31))) ||| ((v_M_sensorsOn u y.toNatClampNeg) <<< ((15 : Int32) &&& 31)))]) hF hM (c_M_sensorsBroken (u := u) (m := y.toNatClampNeg) (by omega)) (gk_G_90 hts ⟨by decide, by decide⟩) (gv_M hF hM (by omega) rfl) rfl hl.1 rfl (Nat.le_of_ble_eq_true rfl) ⟨Nat.zero_le _, Nat.zero_le _⟩ d_G_word_52 (fun H locs hM => ?_)
        refine lv_bipush (v := 21) hx hb d_G_word_55 (by decide) ?_
        refine lv_ishl hx hb d_G_word_57 ?_
        refine lv_ior hx hb d_G_word_58 ?_
        refine lv_aload_n hx hb d_G_word_59 rfl (lv_at hl 0 rfl) ?_
        refine gm_Vi (As := []) (rest := [.int ((((x ||| ((y + (1 : Int32)) <<< ((8 : Int32) &&& 31))) ||| ((u.2.1 3 y.toNatClampNeg) <<< ((10 : Int32) &&& 31))) ||| ((v_M_sensorsOn u y.toNatClampNeg) <<< ((15 : Int32) &&& 31))) ||| ((v_M_sensorsBroken u y.toNatClampNeg) <<< ((21 : Int32) &&& 31)))]) hF hM (c_M_status (u := u) (m := y.toNatClampNeg) (by omega)) (gk_G_93 hts ⟨by decide, by decide⟩) (gv_M hF hM (by omega) rfl) rfl hl.1 rfl (Nat.le_of_ble_eq_true rfl) ⟨Nat.zero_le _, Nat.zero_le _⟩ d_G_word_60 (fun H locs hM => ?_)
        refine lv_bipush (v := 29) hx hb d_G_word_63 (by decide) ?_
        refine lv_ishl hx hb d_G_word_65 ?_
        refine lv_ior hx hb d_G_word_66 ?_
        refine lv_istore (lv' := [(4, .int (((((x ||| ((y + (1 : Int32)) <<< ((8 : Int32) &&& 31))) ||| ((u.2.1 3 y.toNatClampNeg) <<< ((10 : Int32) &&& 31))) ||| ((v_M_sensorsOn u y.toNatClampNeg) <<< ((15 : Int32) &&& 31))) ||| ((v_M_sensorsBroken u y.toNatClampNeg) <<< ((21 : Int32) &&& 31))) ||| ((v_M_status u y.toNatClampNeg) <<< ((29 : Int32) &&& 31)))), (3, .ref (a (3 + y.toNatClampNeg))), (0, .ref (a 0)), (1, .int x), (2, .int y)]) hx hb d_G_word_67 hl (by decide) rfl (fun ls hl => ?_)
        refine lv_iload hx hb d_G_word_69 (lv_at hl 0 rfl) ?_
        refine gm_Si (As := [.int (((((x ||| ((y + (1 : Int32)) <<< ((8 : Int32) &&& 31))) ||| ((u.2.1 3 y.toNatClampNeg) <<< ((10 : Int32) &&& 31))) ||| ((v_M_sensorsOn u y.toNatClampNeg) <<< ((15 : Int32) &&& 31))) ||| ((v_M_sensorsBroken u y.toNatClampNeg) <<< ((21 : Int32) &&& 31))) ||| ((v_M_status u y.toNatClampNeg) <<< ((29 : Int32) &&& 31)))]) (rest := []) hF hM (c_G_hasOddParity (u := u) (x := (((((x ||| ((y + (1 : Int32)) <<< ((8 : Int32) &&& 31))) ||| ((u.2.1 3 y.toNatClampNeg) <<< ((10 : Int32) &&& 31))) ||| ((v_M_sensorsOn u y.toNatClampNeg) <<< ((15 : Int32) &&& 31))) ||| ((v_M_sensorsBroken u y.toNatClampNeg) <<< ((21 : Int32) &&& 31))) ||| ((v_M_status u y.toNatClampNeg) <<< ((29 : Int32) &&& 31)))) ) (gk_G_96 hts ⟨by decide, by decide⟩) rfl hl.1 rfl (Nat.le_of_ble_eq_true rfl) ⟨Nat.zero_le _, Nat.zero_le _⟩ d_G_word_71 (fun H locs hM => ?_)
        have J5 : ∀ (ls : Array Slot) (H : Heap) (locs : List Loc), lv_has ls 5 [(0, .ref (a 0)), (1, .int x), (2, .int y), (3, .ref (a (3 + y.toNatClampNeg))), (4, .int (((((x ||| ((y + (1 : Int32)) <<< ((8 : Int32) &&& 31))) ||| ((u.2.1 3 y.toNatClampNeg) <<< ((10 : Int32) &&& 31))) ||| ((v_M_sensorsOn u y.toNatClampNeg) <<< ((15 : Int32) &&& 31))) ||| ((v_M_sensorsBroken u y.toNatClampNeg) <<< ((21 : Int32) &&& 31))) ||| ((v_M_status u y.toNatClampNeg) <<< ((29 : Int32) &&& 31))))] → gm_M D A s (gm_W dk a) u H locs → W p l e rm_G_word s m args below meth c H locs 0 0 Q (F0 m 87 ls [.int (if (v_G_hasOddParity (((((x ||| ((y + (1 : Int32)) <<< ((8 : Int32) &&& 31))) ||| ((u.2.1 3 y.toNatClampNeg) <<< ((10 : Int32) &&& 31))) ||| ((v_M_sensorsOn u y.toNatClampNeg) <<< ((15 : Int32) &&& 31))) ||| ((v_M_sensorsBroken u y.toNatClampNeg) <<< ((21 : Int32) &&& 31))) ||| ((v_M_status u y.toNatClampNeg) <<< ((29 : Int32) &&& 31)))) = true then (((((x ||| ((y + (1 : Int32)) <<< ((8 : Int32) &&& 31))) ||| ((u.2.1 3 y.toNatClampNeg) <<< ((10 : Int32) &&& 31))) ||| ((v_M_sensorsOn u y.toNatClampNeg) <<< ((15 : Int32) &&& 31))) ||| ((v_M_sensorsBroken u y.toNatClampNeg) <<< ((21 : Int32) &&& 31))) ||| ((v_M_status u y.toNatClampNeg) <<< ((29 : Int32) &&& 31))) else ((((((x ||| ((y + (1 : Int32)) <<< ((8 : Int32) &&& 31))) ||| ((u.2.1 3 y.toNatClampNeg) <<< ((10 : Int32) &&& 31))) ||| ((v_M_sensorsOn u y.toNatClampNeg) <<< ((15 : Int32) &&& 31))) ||| ((v_M_sensorsBroken u y.toNatClampNeg) <<< ((21 : Int32) &&& 31))) ||| ((v_M_status u y.toNatClampNeg) <<< ((29 : Int32) &&& 31))) ||| (-2147483648 : Int32)))]) := by
          intro ls H locs hl hM
          have hq := hQ H locs 87 ls
          simp only [v_G_word, if_pos h1, if_neg h2, if_pos h3] at hq
          exact hq hM d_G_word_87
        refine gm_ifz (b := (v_G_hasOddParity (((((x ||| ((y + (1 : Int32)) <<< ((8 : Int32) &&& 31))) ||| ((u.2.1 3 y.toNatClampNeg) <<< ((10 : Int32) &&& 31))) ||| ((v_M_sensorsOn u y.toNatClampNeg) <<< ((15 : Int32) &&& 31))) ||| ((v_M_sensorsBroken u y.toNatClampNeg) <<< ((21 : Int32) &&& 31))) ||| ((v_M_status u y.toNatClampNeg) <<< ((29 : Int32) &&& 31))))) (tgt := 82) hx hb d_G_word_74 rfl (fun h4 => ?_) (fun h4 => ?_)
        · refine lv_iload hx hb d_G_word_82 (lv_at hl 0 rfl) ?_
          refine lv_ldc (v := -2147483648) hx hb hown (hts _ (gm_in 299 (by decide +kernel) rfl)) d_G_word_84 ?_
          refine lv_ior hx hb d_G_word_86 ?_
          have hJ := J5
          try simp only [if_neg (gm_nf h4)] at hJ
          exact hJ ls H locs (lv_sub hl [2, 3, 4, 1, 0] rfl) hM
        · refine lv_iload hx hb d_G_word_77 (lv_at hl 0 rfl) ?_
          refine lv_goto (tgt := 87) hx hb d_G_word_79 rfl ?_
          have hJ := J5
          try simp only [if_pos h4] at hJ
          exact hJ ls H locs (lv_sub hl [2, 3, 4, 1, 0] rfl) hM
      · refine lv_iconst (v := 0) hx hb d_G_word_18 (by decide) ?_
        have hq := hQ H locs 19 ls
        simp only [v_G_word, if_pos h1, if_neg h2, if_neg h3] at hq
        exact hq hM d_G_word_19
theorem d_G_label_0 : decode b_G_label 0 = .ok (.iload_n 1, 1) := by decide +kernel
theorem d_G_label_1 : decode b_G_label 1 = .ok (.invokestatic 96, 3) := by decide +kernel
theorem d_G_label_4 : decode b_G_label 4 = .ok (.ifCond .ne 5, 3) := by decide +kernel
theorem d_G_label_7 : decode b_G_label 7 = .ok (.iconst (-1), 1) := by decide +kernel
theorem d_G_label_8 : decode b_G_label 8 = .ok (.ireturn, 1) := by decide +kernel
theorem d_G_label_9 : decode b_G_label 9 = .ok (.iconst 0, 1) := by decide +kernel
theorem d_G_label_10 : decode b_G_label 10 = .ok (.istore_n 2, 1) := by decide +kernel
theorem d_G_label_11 : decode b_G_label 11 = .ok (.iconst 0, 1) := by decide +kernel
theorem d_G_label_12 : decode b_G_label 12 = .ok (.istore_n 3, 1) := by decide +kernel
theorem d_G_label_13 : decode b_G_label 13 = .ok (.iload_n 3, 1) := by decide +kernel
theorem d_G_label_14 : decode b_G_label 14 = .ok (.bipush 8, 2) := by decide +kernel
theorem d_G_label_16 : decode b_G_label 16 = .ok (.if_icmp .ge 19, 3) := by decide +kernel
theorem d_G_label_19 : decode b_G_label 19 = .ok (.iload_n 2, 1) := by decide +kernel
theorem d_G_label_20 : decode b_G_label 20 = .ok (.iconst 1, 1) := by decide +kernel
theorem d_G_label_21 : decode b_G_label 21 = .ok (.ishl, 1) := by decide +kernel
theorem d_G_label_22 : decode b_G_label 22 = .ok (.iload_n 1, 1) := by decide +kernel
theorem d_G_label_23 : decode b_G_label 23 = .ok (.iload_n 3, 1) := by decide +kernel
theorem d_G_label_24 : decode b_G_label 24 = .ok (.ishr, 1) := by decide +kernel
theorem d_G_label_25 : decode b_G_label 25 = .ok (.iconst 1, 1) := by decide +kernel
theorem d_G_label_26 : decode b_G_label 26 = .ok (.iand, 1) := by decide +kernel
theorem d_G_label_27 : decode b_G_label 27 = .ok (.ior, 1) := by decide +kernel
theorem d_G_label_28 : decode b_G_label 28 = .ok (.istore_n 2, 1) := by decide +kernel
theorem d_G_label_29 : decode b_G_label 29 = .ok (.iinc 3 1, 3) := by decide +kernel
theorem d_G_label_32 : decode b_G_label 32 = .ok (.goto (-19), 3) := by decide +kernel
theorem d_G_label_35 : decode b_G_label 35 = .ok (.iload_n 2, 1) := by decide +kernel
theorem d_G_label_36 : decode b_G_label 36 = .ok (.ireturn, 1) := by decide +kernel
def lp_G_label (u : gm_St) (wo : Int32) : Nat → Nat → Int32 → Int32
  | 0, _, x => x
  | k + 1, i, x => lp_G_label u wo k (i + 1) ((x <<< ((1 : Int32) &&& 31)) ||| ((wo >>> ((nI i) &&& 31)) &&& (1 : Int32)))
def v_G_label (u : gm_St) (wo : Int32) : Int32 := (if (v_G_hasOddParity wo) = true then (lp_G_label u wo 8 0 (0 : Int32)) else (-1 : Int32))
set_option maxRecDepth 100000 in
set_option maxHeartbeats 4000000 in
theorem c_G_label {l : Launch} {D : va_G} {dk : Nat → ClassId} {a : Nat → Nat} {A : Nat → Prop} {lt : Nat} {u : gm_St} {wo : Int32} : gm_I l D (gm_ty dk) (gm_W dk a) A lt y_G_label b_G_label 4 (some .int) rm_G_label [.ref (a 0), .int wo] u (v_G_label u wo) u := by
  refine gm_enterI (by decide) (Nat.le_of_ble_eq_true rfl) ?_
  intro p e s m args below meth c ls Q H locs hF hM hl hQ
  have hx := hF.1
  have hb := hF.2.1
  have hml := hF.2.2.1
  have hown := hF.2.2.2.1
  have hts := hF.2.2.2.2.1
  have hl : lv_has ls 4 [(0, .ref (a 0)), (1, .int wo)] := hl
  refine lv_iload_n hx hb d_G_label_0 rfl (lv_at hl 1 rfl) ?_
  refine gm_Si (As := [.int wo]) (rest := []) hF hM (c_G_hasOddParity (u := u) (x := wo) ) (gk_G_96 hts ⟨by decide, by decide⟩) rfl hl.1 rfl (Nat.le_of_ble_eq_true rfl) ⟨Nat.zero_le _, Nat.zero_le _⟩ d_G_label_1 (fun H locs hM => ?_)
  refine gm_ifn (b := (v_G_hasOddParity wo)) (tgt := 9) hx hb d_G_label_4 rfl (fun h1 => ?_) (fun h1 => ?_)
  · refine lv_iconst (v := 0) hx hb d_G_label_9 (by decide) ?_
    refine lv_istore_n (lv' := [(2, .int (0 : Int32)), (0, .ref (a 0)), (1, .int wo)]) hx hb d_G_label_10 rfl hl (by decide) rfl (fun ls hl => ?_)
    refine lv_iconst (v := 0) hx hb d_G_label_11 (by decide) ?_
    refine lv_istore_n (lv' := [(3, .int (0 : Int32)), (2, .int (0 : Int32)), (0, .ref (a 0)), (1, .int wo)]) hx hb d_G_label_12 rfl hl (by decide) rfl (fun ls hl => ?_)
    have L2 : ∀ (k2 i2 : Nat) (x2 : Int32) (ls : Array Slot) (H : Heap) (locs : List Loc), i2 + k2 = 8 → lv_has ls 4 [(3, .int (nI i2)), (2, .int x2), (0, .ref (a 0)), (1, .int wo)] → gm_M D A s (gm_W dk a) u H locs → (∀ (ls : Array Slot) (H : Heap) (locs : List Loc), lv_has ls 4 [(3, .int (nI 8)), (2, .int (lp_G_label u wo k2 i2 x2)), (0, .ref (a 0)), (1, .int wo)] → gm_M D A s (gm_W dk a) u H locs → W p l e rm_G_label s m args below meth c H locs 0 0 Q (F0 m 35 ls [])) → W p l e rm_G_label s m args below meth c H locs 0 0 Q (F0 m 13 ls []) := by
      intro k2
      induction k2 with
      | zero =>
        intro i2 x2 ls H locs hk2 hl hM kk
        obtain rfl : i2 = 8 := by omega
        refine lv_iload_n hx hb d_G_label_13 rfl (lv_at hl 0 rfl) ?_
        refine lv_bipush (v := 8) hx hb d_G_label_14 (by decide) ?_
        refine lv_icmp_ge (tgt := 35) hx hb d_G_label_16 rfl (fun _ => ?_) (fun h => absurd (by decide) h)
        exact kk ls H locs hl hM
      | succ k2 ih =>
        intro i2 x2 ls H locs hk2 hl hM kk
        refine lv_iload_n hx hb d_G_label_13 rfl (lv_at hl 0 rfl) ?_
        refine lv_bipush (v := 8) hx hb d_G_label_14 (by decide) ?_
        refine lv_icmp_ge (tgt := 35) hx hb d_G_label_16 rfl (fun h => absurd h (nI_ge (a := i2) (b := 8) (by omega) (by first | decide | omega))) (fun _ => ?_)
        refine lv_iload_n hx hb d_G_label_19 rfl (lv_at hl 1 rfl) ?_
        refine lv_iconst (v := 1) hx hb d_G_label_20 (by decide) ?_
        refine lv_ishl hx hb d_G_label_21 ?_
        refine lv_iload_n hx hb d_G_label_22 rfl (lv_at hl 3 rfl) ?_
        refine lv_iload_n hx hb d_G_label_23 rfl (lv_at hl 0 rfl) ?_
        refine lv_ishr hx hb d_G_label_24 ?_
        refine lv_iconst (v := 1) hx hb d_G_label_25 (by decide) ?_
        refine lv_iand hx hb d_G_label_26 ?_
        refine lv_ior hx hb d_G_label_27 ?_
        refine lv_istore_n (lv' := [(2, .int ((x2 <<< ((1 : Int32) &&& 31)) ||| ((wo >>> ((nI i2) &&& 31)) &&& (1 : Int32)))), (3, .int (nI i2)), (0, .ref (a 0)), (1, .int wo)]) hx hb d_G_label_28 rfl hl (by decide) rfl (fun ls hl => ?_)
        refine lv_iinc (k := 1) (v := (nI (i2 + 1))) (lv' := [(3, .int (nI (i2 + 1))), (2, .int ((x2 <<< ((1 : Int32) &&& 31)) ||| ((wo >>> ((nI i2) &&& 31)) &&& (1 : Int32)))), (0, .ref (a 0)), (1, .int wo)]) hx hb d_G_label_29 hl rfl (nI_1 _) (by decide) rfl (fun ls hl => ?_)
        refine lv_goto (tgt := 13) hx hb d_G_label_32 rfl ?_
        have hK := kk
        simp only [lp_G_label] at hK
        exact ih (i2 + 1) ((x2 <<< ((1 : Int32) &&& 31)) ||| ((wo >>> ((nI i2) &&& 31)) &&& (1 : Int32))) ls H locs (by omega) hl hM hK
    refine L2 8 0 (0 : Int32) ls H locs (by omega) hl hM (fun ls H locs hl hM => ?_)
    refine lv_iload_n hx hb d_G_label_35 rfl (lv_at hl 1 rfl) ?_
    have hq := hQ H locs 36 ls
    simp only [v_G_label, if_pos h1] at hq
    exact hq hM d_G_label_36
  · refine lv_iconst (v := -1) hx hb d_G_label_7 (by decide) ?_
    have hq := hQ H locs 8 ls
    simp only [v_G_label, if_neg (gm_nf h1)] at hq
    exact hq hM d_G_label_8
theorem d_G_handle_0 : decode b_G_handle 0 = .ok (.iload_n 1, 1) := by decide +kernel
theorem d_G_handle_1 : decode b_G_handle 1 = .ok (.aload_n 0, 1) := by decide +kernel
theorem d_G_handle_2 : decode b_G_handle 2 = .ok (.getfield 20, 3) := by decide +kernel
theorem d_G_handle_5 : decode b_G_handle 5 = .ok (.if_icmp .ne 5, 3) := by decide +kernel
theorem d_G_handle_8 : decode b_G_handle 8 = .ok (.iconst 0, 1) := by decide +kernel
theorem d_G_handle_9 : decode b_G_handle 9 = .ok (.ireturn, 1) := by decide +kernel
theorem d_G_handle_10 : decode b_G_handle 10 = .ok (.aload_n 0, 1) := by decide +kernel
theorem d_G_handle_11 : decode b_G_handle 11 = .ok (.iload_n 1, 1) := by decide +kernel
theorem d_G_handle_12 : decode b_G_handle 12 = .ok (.putfield 20, 3) := by decide +kernel
theorem d_G_handle_15 : decode b_G_handle 15 = .ok (.iconst 0, 1) := by decide +kernel
theorem d_G_handle_16 : decode b_G_handle 16 = .ok (.istore_n 2, 1) := by decide +kernel
theorem d_G_handle_17 : decode b_G_handle 17 = .ok (.iload_n 2, 1) := by decide +kernel
theorem d_G_handle_18 : decode b_G_handle 18 = .ok (.iconst 2, 1) := by decide +kernel
theorem d_G_handle_19 : decode b_G_handle 19 = .ok (.if_icmp .ge 18, 3) := by decide +kernel
theorem d_G_handle_22 : decode b_G_handle 22 = .ok (.aload_n 0, 1) := by decide +kernel
theorem d_G_handle_23 : decode b_G_handle 23 = .ok (.getfield 11, 3) := by decide +kernel
theorem d_G_handle_26 : decode b_G_handle 26 = .ok (.iload_n 2, 1) := by decide +kernel
theorem d_G_handle_27 : decode b_G_handle 27 = .ok (.aaload, 1) := by decide +kernel
theorem d_G_handle_28 : decode b_G_handle 28 = .ok (.invokevirtual 24, 3) := by decide +kernel
theorem d_G_handle_31 : decode b_G_handle 31 = .ok (.iinc 2 1, 3) := by decide +kernel
theorem d_G_handle_34 : decode b_G_handle 34 = .ok (.goto (-17), 3) := by decide +kernel
theorem d_G_handle_37 : decode b_G_handle 37 = .ok (.iconst 1, 1) := by decide +kernel
theorem d_G_handle_38 : decode b_G_handle 38 = .ok (.ireturn, 1) := by decide +kernel
def lp_G_handle : Nat → Nat → gm_St → gm_St
  | 0, _, u => u
  | k + 1, i, u => lp_G_handle k (i + 1) (s_M_beginWait u i)
def v_G_handle (u : gm_St) (dw : Bool) : Bool := (if dw = (u.1 5 0) then false else true)
def s_G_handle (u : gm_St) (dw : Bool) : gm_St := (if dw = (u.1 5 0) then u else (lp_G_handle 2 0 (gm_sB u 5 0 dw)))
set_option maxRecDepth 100000 in
set_option maxHeartbeats 4000000 in
theorem c_G_handle {l : Launch} {D : va_G} {dk : Nat → ClassId} {a : Nat → Nat} {A : Nat → Prop} {lt : Nat} {u : gm_St} {dw : Bool} : gm_I l D (gm_ty dk) (gm_W dk a) A lt y_G_handle b_G_handle 3 (some .boolean) rm_G_handle [.ref (a 0), .int (gm_b dw)] u (gm_b (v_G_handle u dw)) (s_G_handle u dw) := by
  refine gm_enterZ (by decide) (Nat.le_of_ble_eq_true rfl) ?_
  intro p e s m args below meth c ls Q H locs hF hM hl hQ
  have hx := hF.1
  have hb := hF.2.1
  have hml := hF.2.2.1
  have hown := hF.2.2.2.1
  have hts := hF.2.2.2.2.1
  have hl : lv_has ls 3 [(0, .ref (a 0)), (1, .int (gm_b dw))] := hl
  refine lv_iload_n hx hb d_G_handle_0 rfl (lv_at hl 1 rfl) ?_
  refine lv_aload_n hx hb d_G_handle_1 rfl (lv_at hl 0 rfl) ?_
  refine gf_G_20 hF hM d_G_handle_2 ?_
  refine gm_icn (b := dw) (d := (u.1 5 0)) (tgt := 10) hx hb d_G_handle_5 rfl (fun h1 => ?_) (fun h1 => ?_)
  · refine lv_aload_n hx hb d_G_handle_10 rfl (lv_at hl 0 rfl) ?_
    refine lv_iload_n hx hb d_G_handle_11 rfl (lv_at hl 1 rfl) ?_
    refine gp_G_20 hF hM (x := dw) rfl d_G_handle_12 (fun H locs hM => ?_)
    refine lv_iconst (v := 0) hx hb d_G_handle_15 (by decide) ?_
    refine lv_istore_n (lv' := [(2, .int (0 : Int32)), (0, .ref (a 0)), (1, .int (gm_b dw))]) hx hb d_G_handle_16 rfl hl (by decide) rfl (fun ls hl => ?_)
    have L2 : ∀ (k2 i2 : Nat) (w2 : gm_St) (ls : Array Slot) (H : Heap) (locs : List Loc), i2 + k2 = 2 → lv_has ls 3 [(2, .int (nI i2)), (0, .ref (a 0)), (1, .int (gm_b dw))] → gm_M D A s (gm_W dk a) w2 H locs → (∀ (ls : Array Slot) (H : Heap) (locs : List Loc), lv_has ls 3 [(2, .int (nI 2)), (0, .ref (a 0)), (1, .int (gm_b dw))] → gm_M D A s (gm_W dk a) (lp_G_handle k2 i2 w2) H locs → W p l e rm_G_handle s m args below meth c H locs 0 0 Q (F0 m 37 ls [])) → W p l e rm_G_handle s m args below meth c H locs 0 0 Q (F0 m 17 ls []) := by
      intro k2
      induction k2 with
      | zero =>
        intro i2 w2 ls H locs hk2 hl hM kk
        obtain rfl : i2 = 2 := by omega
        refine lv_iload_n hx hb d_G_handle_17 rfl (lv_at hl 0 rfl) ?_
        refine lv_iconst (v := 2) hx hb d_G_handle_18 (by decide) ?_
        refine lv_icmp_ge (tgt := 37) hx hb d_G_handle_19 rfl (fun _ => ?_) (fun h => absurd (by decide) h)
        exact kk ls H locs hl hM
      | succ k2 ih =>
        intro i2 w2 ls H locs hk2 hl hM kk
        refine lv_iload_n hx hb d_G_handle_17 rfl (lv_at hl 0 rfl) ?_
        refine lv_iconst (v := 2) hx hb d_G_handle_18 (by decide) ?_
        refine lv_icmp_ge (tgt := 37) hx hb d_G_handle_19 rfl (fun h => absurd h (nI_ge (a := i2) (b := 2) (by omega) (by first | decide | omega))) (fun _ => ?_)
        refine lv_aload_n hx hb d_G_handle_22 rfl (lv_at hl 1 rfl) ?_
        refine gf_G_11 hF hM d_G_handle_23 ?_
        refine lv_iload_n hx hb d_G_handle_26 rfl (lv_at hl 0 rfl) ?_
        refine ga_mods (k := i2) hF hM rfl (by first | omega | exact Nat.mod_lt _ (by decide)) d_G_handle_27 ?_
        refine gm_Vv (As := []) (rest := []) hF hM (c_M_beginWait (u := w2) (m := i2) (by omega)) (gk_G_24 hts ⟨by decide, by decide⟩) (gv_M hF hM (by omega) rfl) rfl hl.1 rfl (Nat.le_of_ble_eq_true rfl) ⟨Nat.zero_le _, Nat.zero_le _⟩ d_G_handle_28 (fun H locs hM => ?_)
        refine lv_iinc (k := 0) (v := (nI (i2 + 1))) (lv' := [(2, .int (nI (i2 + 1))), (0, .ref (a 0)), (1, .int (gm_b dw))]) hx hb d_G_handle_31 hl rfl (nI_1 _) (by decide) rfl (fun ls hl => ?_)
        refine lv_goto (tgt := 17) hx hb d_G_handle_34 rfl ?_
        have hK := kk
        simp only [lp_G_handle] at hK
        exact ih (i2 + 1) (s_M_beginWait w2 i2) ls H locs (by omega) hl hM hK
    refine L2 2 0 (gm_sB u 5 0 dw) ls H locs (by omega) hl hM (fun ls H locs hl hM => ?_)
    refine lv_iconst (v := 1) hx hb d_G_handle_37 (by decide) ?_
    have hq := hQ H locs 38 ls
    simp only [v_G_handle, s_G_handle, if_neg h1] at hq
    exact hq hM d_G_handle_38
  · refine lv_iconst (v := 0) hx hb d_G_handle_8 (by decide) ?_
    have hq := hQ H locs 9 ls
    simp only [v_G_handle, s_G_handle, if_pos h1] at hq
    exact hq hM d_G_handle_9
theorem d_G_entry_0 : decode b_G_entry 0 = .ok (.iload_n 1, 1) := by decide +kernel
theorem d_G_entry_1 : decode b_G_entry 1 = .ok (.ifCond .lt 11, 3) := by decide +kernel
theorem d_G_entry_4 : decode b_G_entry 4 = .ok (.iload_n 1, 1) := by decide +kernel
theorem d_G_entry_5 : decode b_G_entry 5 = .ok (.aload_n 0, 1) := by decide +kernel
theorem d_G_entry_6 : decode b_G_entry 6 = .ok (.getfield 79, 3) := by decide +kernel
theorem d_G_entry_9 : decode b_G_entry 9 = .ok (.if_icmp .lt 7, 3) := by decide +kernel
theorem d_G_entry_12 : decode b_G_entry 12 = .ok (.ldc2_w 82, 3) := by decide +kernel
theorem d_G_entry_15 : decode b_G_entry 15 = .ok (.lreturn, 1) := by decide +kernel
theorem d_G_entry_16 : decode b_G_entry 16 = .ok (.aload_n 0, 1) := by decide +kernel
theorem d_G_entry_17 : decode b_G_entry 17 = .ok (.getfield 15, 3) := by decide +kernel
theorem d_G_entry_20 : decode b_G_entry 20 = .ok (.aload_n 0, 1) := by decide +kernel
theorem d_G_entry_21 : decode b_G_entry 21 = .ok (.getfield 84, 3) := by decide +kernel
theorem d_G_entry_24 : decode b_G_entry 24 = .ok (.iload_n 1, 1) := by decide +kernel
theorem d_G_entry_25 : decode b_G_entry 25 = .ok (.isub, 1) := by decide +kernel
theorem d_G_entry_26 : decode b_G_entry 26 = .ok (.bipush 16, 2) := by decide +kernel
theorem d_G_entry_28 : decode b_G_entry 28 = .ok (.iadd, 1) := by decide +kernel
theorem d_G_entry_29 : decode b_G_entry 29 = .ok (.bipush 16, 2) := by decide +kernel
theorem d_G_entry_31 : decode b_G_entry 31 = .ok (.irem, 1) := by decide +kernel
theorem d_G_entry_32 : decode b_G_entry 32 = .ok (.laload, 1) := by decide +kernel
theorem d_G_entry_33 : decode b_G_entry 33 = .ok (.lreturn, 1) := by decide +kernel
def v_G_entry (u : gm_St) (x : Int32) : Int64 := (if x < 0 then (-1 : Int64) else (if x < (nI (u.2.2.1 0)) then (u.2.2.2 (((u.2.2.1 1) + 16 - x.toNatClampNeg) % 16)) else (-1 : Int64)))
set_option maxRecDepth 100000 in
set_option maxHeartbeats 4000000 in
theorem c_G_entry {l : Launch} {D : va_G} {dk : Nat → ClassId} {a : Nat → Nat} {A : Nat → Prop} {lt : Nat} {u : gm_St} {x : Int32} (hp0 : gm_ok u) : gm_L l D (gm_ty dk) (gm_W dk a) A lt y_G_entry b_G_entry 2 (some .long) rm_G_entry [.ref (a 0), .int x] u (v_G_entry u x) u := by
  refine gm_enterL (by decide) (Nat.le_of_ble_eq_true rfl) ?_
  intro p e s m args below meth c ls Q H locs hF hM hl hQ
  have hx := hF.1
  have hb := hF.2.1
  have hml := hF.2.2.1
  have hown := hF.2.2.2.1
  have hts := hF.2.2.2.2.1
  have hl : lv_has ls 2 [(0, .ref (a 0)), (1, .int x)] := hl
  have hk0 := hp0.1
  have hk1 := hp0.2
  refine lv_iload_n hx hb d_G_entry_0 rfl (lv_at hl 1 rfl) ?_
  refine lv_if_lt (tgt := 12) hx hb d_G_entry_1 rfl (fun h1 => ?_) (fun h1 => ?_)
  · refine lv_ldc2 (v := -1) hx hb hown (hts _ (gm_in 278 (by decide +kernel) rfl)) d_G_entry_12 ?_
    have hq := hQ H locs 15 ls
    simp only [v_G_entry, if_pos h1] at hq
    exact hq hM d_G_entry_15
  · refine lv_iload_n hx hb d_G_entry_4 rfl (lv_at hl 1 rfl) ?_
    refine lv_aload_n hx hb d_G_entry_5 rfl (lv_at hl 0 rfl) ?_
    refine gf_G_79 hF hM d_G_entry_6 ?_
    refine lv_icmp_lt (tgt := 16) hx hb d_G_entry_9 rfl (fun h2 => ?_) (fun h2 => ?_)
    · have hq_x := gm_ix (lo := 0) (n := (u.2.2.1 0)) h1 h2 (by omega) (by omega)
      have hm_x := hq_x.1
      have ex_x := hq_x.2
      refine lv_aload_n hx hb d_G_entry_16 rfl (lv_at hl 0 rfl) ?_
      refine gf_G_15 hF hM d_G_entry_17 ?_
      refine lv_aload_n hx hb d_G_entry_20 rfl (lv_at hl 0 rfl) ?_
      refine gf_G_84 hF hM d_G_entry_21 ?_
      refine lv_iload_n hx hb d_G_entry_24 rfl (lv_at hl 1 rfl) ?_
      refine lv_isub hx hb d_G_entry_25 ?_
      refine lv_bipush (v := 16) hx hb d_G_entry_26 (by decide) ?_
      refine lv_iadd hx hb d_G_entry_28 ?_
      refine gm_tp (y := (nI ((u.2.2.1 1) + 16 - x.toNatClampNeg))) (gm_ring ex_x (by omega)) ?_
      refine lv_bipush (v := 16) hx hb d_G_entry_29 (by decide) ?_
      refine lv_irem hx hb d_G_entry_31 (by decide) ?_
      refine gm_tp (y := (nI (((u.2.2.1 1) + 16 - x.toNatClampNeg) % 16))) (gm_rem rfl (by first | omega | (have := (‹gm_ok _›).1; omega) | exact Nat.lt_of_lt_of_le hp0 (by decide)) (by decide) (by decide)) ?_
      refine ga_recs (k := (((u.2.2.1 1) + 16 - x.toNatClampNeg) % 16)) hF hM rfl (by first | omega | exact Nat.mod_lt _ (by decide)) d_G_entry_32 ?_
      have hq := hQ H locs 33 ls
      simp only [v_G_entry, if_neg h1, if_pos h2] at hq
      exact hq hM d_G_entry_33
    · refine lv_ldc2 (v := -1) hx hb hown (hts _ (gm_in 278 (by decide +kernel) rfl)) d_G_entry_12 ?_
      have hq := hQ H locs 15 ls
      simp only [v_G_entry, if_neg h1, if_neg h2] at hq
      exact hq hM d_G_entry_15
theorem d_G_write_0 : decode b_G_write 0 = .ok (.iconst 0, 1) := by decide +kernel
theorem d_G_write_1 : decode b_G_write 1 = .ok (.istore_n 3, 1) := by decide +kernel
theorem d_G_write_2 : decode b_G_write 2 = .ok (.iload_n 3, 1) := by decide +kernel
theorem d_G_write_3 : decode b_G_write 3 = .ok (.bipush 16, 2) := by decide +kernel
theorem d_G_write_5 : decode b_G_write 5 = .ok (.if_icmp .ge 73, 3) := by decide +kernel
theorem d_G_write_8 : decode b_G_write 8 = .ok (.iload_n 2, 1) := by decide +kernel
theorem d_G_write_9 : decode b_G_write 9 = .ok (.iload_n 3, 1) := by decide +kernel
theorem d_G_write_10 : decode b_G_write 10 = .ok (.ishr, 1) := by decide +kernel
theorem d_G_write_11 : decode b_G_write 11 = .ok (.iconst 1, 1) := by decide +kernel
theorem d_G_write_12 : decode b_G_write 12 = .ok (.iand, 1) := by decide +kernel
theorem d_G_write_13 : decode b_G_write 13 = .ok (.iconst 1, 1) := by decide +kernel
theorem d_G_write_14 : decode b_G_write 14 = .ok (.if_icmp .ne 58, 3) := by decide +kernel
theorem d_G_write_17 : decode b_G_write 17 = .ok (.aload_n 0, 1) := by decide +kernel
theorem d_G_write_18 : decode b_G_write 18 = .ok (.aload_n 0, 1) := by decide +kernel
theorem d_G_write_19 : decode b_G_write 19 = .ok (.getfield 84, 3) := by decide +kernel
theorem d_G_write_22 : decode b_G_write 22 = .ok (.iconst 1, 1) := by decide +kernel
theorem d_G_write_23 : decode b_G_write 23 = .ok (.iadd, 1) := by decide +kernel
theorem d_G_write_24 : decode b_G_write 24 = .ok (.bipush 16, 2) := by decide +kernel
theorem d_G_write_26 : decode b_G_write 26 = .ok (.irem, 1) := by decide +kernel
theorem d_G_write_27 : decode b_G_write 27 = .ok (.putfield 84, 3) := by decide +kernel
theorem d_G_write_30 : decode b_G_write 30 = .ok (.aload_n 0, 1) := by decide +kernel
theorem d_G_write_31 : decode b_G_write 31 = .ok (.getfield 15, 3) := by decide +kernel
theorem d_G_write_34 : decode b_G_write 34 = .ok (.aload_n 0, 1) := by decide +kernel
theorem d_G_write_35 : decode b_G_write 35 = .ok (.getfield 84, 3) := by decide +kernel
theorem d_G_write_38 : decode b_G_write 38 = .ok (.aload_n 0, 1) := by decide +kernel
theorem d_G_write_39 : decode b_G_write 39 = .ok (.getfield 27, 3) := by decide +kernel
theorem d_G_write_42 : decode b_G_write 42 = .ok (.i2l, 1) := by decide +kernel
theorem d_G_write_43 : decode b_G_write 43 = .ok (.ldc2_w 106, 3) := by decide +kernel
theorem d_G_write_46 : decode b_G_write 46 = .ok (.lmul, 1) := by decide +kernel
theorem d_G_write_47 : decode b_G_write 47 = .ok (.iload_n 1, 1) := by decide +kernel
theorem d_G_write_48 : decode b_G_write 48 = .ok (.bipush 16, 2) := by decide +kernel
theorem d_G_write_50 : decode b_G_write 50 = .ok (.imul, 1) := by decide +kernel
theorem d_G_write_51 : decode b_G_write 51 = .ok (.i2l, 1) := by decide +kernel
theorem d_G_write_52 : decode b_G_write 52 = .ok (.ladd, 1) := by decide +kernel
theorem d_G_write_53 : decode b_G_write 53 = .ok (.iload_n 3, 1) := by decide +kernel
theorem d_G_write_54 : decode b_G_write 54 = .ok (.i2l, 1) := by decide +kernel
theorem d_G_write_55 : decode b_G_write 55 = .ok (.ladd, 1) := by decide +kernel
theorem d_G_write_56 : decode b_G_write 56 = .ok (.lastore, 1) := by decide +kernel
theorem d_G_write_57 : decode b_G_write 57 = .ok (.aload_n 0, 1) := by decide +kernel
theorem d_G_write_58 : decode b_G_write 58 = .ok (.aload_n 0, 1) := by decide +kernel
theorem d_G_write_59 : decode b_G_write 59 = .ok (.getfield 79, 3) := by decide +kernel
theorem d_G_write_62 : decode b_G_write 62 = .ok (.iconst 1, 1) := by decide +kernel
theorem d_G_write_63 : decode b_G_write 63 = .ok (.iadd, 1) := by decide +kernel
theorem d_G_write_64 : decode b_G_write 64 = .ok (.bipush 16, 2) := by decide +kernel
theorem d_G_write_66 : decode b_G_write 66 = .ok (.invokestatic 108, 3) := by decide +kernel
theorem d_G_write_69 : decode b_G_write 69 = .ok (.putfield 79, 3) := by decide +kernel
theorem d_G_write_72 : decode b_G_write 72 = .ok (.iinc 3 1, 3) := by decide +kernel
theorem d_G_write_75 : decode b_G_write 75 = .ok (.goto (-73), 3) := by decide +kernel
theorem d_G_write_78 : decode b_G_write 78 = .ok (.return_, 1) := by decide +kernel
def lp_G_write (mn : Nat) (g : Int32) : Nat → Nat → gm_St → gm_St
  | 0, _, u => u
  | k + 1, i, u => lp_G_write mn g k (i + 1) (if ((g >>> ((nI i) &&& 31)) &&& (1 : Int32)) = (1 : Int32) then (gm_sN (gm_sL (gm_sN u 1 (((u.2.2.1 1) + 1) % 16)) ((gm_sN u 1 (((u.2.2.1 1) + 1) % 16)).2.2.1 1) ((((((gm_sN u 1 (((u.2.2.1 1) + 1) % 16)).2.1 6 2)).toInt64 * (32 : Int64)) + (((nI mn) * (16 : Int32))).toInt64) + ((nI i)).toInt64)) 0 (min (((gm_sL (gm_sN u 1 (((u.2.2.1 1) + 1) % 16)) ((gm_sN u 1 (((u.2.2.1 1) + 1) % 16)).2.2.1 1) ((((((gm_sN u 1 (((u.2.2.1 1) + 1) % 16)).2.1 6 2)).toInt64 * (32 : Int64)) + (((nI mn) * (16 : Int32))).toInt64) + ((nI i)).toInt64)).2.2.1 0) + 1) 16)) else u)
def s_G_write (u : gm_St) (mn : Nat) (g : Int32) : gm_St := (lp_G_write mn g 16 0 u)
set_option maxRecDepth 100000 in
set_option maxHeartbeats 4000000 in
theorem c_G_write {l : Launch} {D : va_G} {dk : Nat → ClassId} {a : Nat → Nat} {A : Nat → Prop} {lt : Nat} {u : gm_St} {mn : Nat} {g : Int32} (h_mn : mn < 2) (hp0 : gm_ok u) : gm_V l D (gm_ty dk) (gm_W dk a) A lt y_G_write b_G_write 4 rm_G_write [.ref (a 0), .int (nI mn), .int g] u (s_G_write u mn g) := by
  refine gm_enterV (by decide) (Nat.le_of_ble_eq_true rfl) ?_
  intro p e s m args below meth c ls Q H locs hF hM hl hQ
  have hx := hF.1
  have hb := hF.2.1
  have hml := hF.2.2.1
  have hown := hF.2.2.2.1
  have hts := hF.2.2.2.2.1
  have hl : lv_has ls 4 [(0, .ref (a 0)), (1, .int (nI mn)), (2, .int g)] := hl
  refine lv_iconst (v := 0) hx hb d_G_write_0 (by decide) ?_
  refine lv_istore_n (lv' := [(3, .int (0 : Int32)), (0, .ref (a 0)), (1, .int (nI mn)), (2, .int g)]) hx hb d_G_write_1 rfl hl (by decide) rfl (fun ls hl => ?_)
  have L1 : ∀ (k1 i1 : Nat) (w1 : gm_St) (ls : Array Slot) (H : Heap) (locs : List Loc), i1 + k1 = 16 → gm_ok w1 → lv_has ls 4 [(3, .int (nI i1)), (0, .ref (a 0)), (1, .int (nI mn)), (2, .int g)] → gm_M D A s (gm_W dk a) w1 H locs → (∀ (ls : Array Slot) (H : Heap) (locs : List Loc), lv_has ls 4 [(3, .int (nI 16)), (0, .ref (a 0)), (1, .int (nI mn)), (2, .int g)] → gm_M D A s (gm_W dk a) (lp_G_write mn g k1 i1 w1) H locs → W p l e rm_G_write s m args below meth c H locs 0 0 Q (F0 m 78 ls [])) → W p l e rm_G_write s m args below meth c H locs 0 0 Q (F0 m 2 ls []) := by
    intro k1
    induction k1 with
    | zero =>
      intro i1 w1 ls H locs hk1 hI1 hl hM kk
      obtain rfl : i1 = 16 := by omega
      refine lv_iload_n hx hb d_G_write_2 rfl (lv_at hl 0 rfl) ?_
      refine lv_bipush (v := 16) hx hb d_G_write_3 (by decide) ?_
      refine lv_icmp_ge (tgt := 78) hx hb d_G_write_5 rfl (fun _ => ?_) (fun h => absurd (by decide) h)
      exact kk ls H locs hl hM
    | succ k1 ih =>
      intro i1 w1 ls H locs hk1 hI1 hl hM kk
      refine lv_iload_n hx hb d_G_write_2 rfl (lv_at hl 0 rfl) ?_
      refine lv_bipush (v := 16) hx hb d_G_write_3 (by decide) ?_
      refine lv_icmp_ge (tgt := 78) hx hb d_G_write_5 rfl (fun h => absurd h (nI_ge (a := i1) (b := 16) (by omega) (by first | decide | omega))) (fun _ => ?_)
      refine lv_iload_n hx hb d_G_write_8 rfl (lv_at hl 3 rfl) ?_
      refine lv_iload_n hx hb d_G_write_9 rfl (lv_at hl 0 rfl) ?_
      refine lv_ishr hx hb d_G_write_10 ?_
      refine lv_iconst (v := 1) hx hb d_G_write_11 (by decide) ?_
      refine lv_iand hx hb d_G_write_12 ?_
      refine lv_iconst (v := 1) hx hb d_G_write_13 (by decide) ?_
      have J3 : ∀ (ls : Array Slot) (H : Heap) (locs : List Loc), lv_has ls 4 [(0, .ref (a 0)), (1, .int (nI mn)), (2, .int g), (3, .int (nI i1))] → gm_M D A s (gm_W dk a) (if ((g >>> ((nI i1) &&& 31)) &&& (1 : Int32)) = (1 : Int32) then (gm_sN (gm_sL (gm_sN w1 1 (((w1.2.2.1 1) + 1) % 16)) ((gm_sN w1 1 (((w1.2.2.1 1) + 1) % 16)).2.2.1 1) ((((((gm_sN w1 1 (((w1.2.2.1 1) + 1) % 16)).2.1 6 2)).toInt64 * (32 : Int64)) + (((nI mn) * (16 : Int32))).toInt64) + ((nI i1)).toInt64)) 0 (min (((gm_sL (gm_sN w1 1 (((w1.2.2.1 1) + 1) % 16)) ((gm_sN w1 1 (((w1.2.2.1 1) + 1) % 16)).2.2.1 1) ((((((gm_sN w1 1 (((w1.2.2.1 1) + 1) % 16)).2.1 6 2)).toInt64 * (32 : Int64)) + (((nI mn) * (16 : Int32))).toInt64) + ((nI i1)).toInt64)).2.2.1 0) + 1) 16)) else w1) H locs → W p l e rm_G_write s m args below meth c H locs 0 0 Q (F0 m 72 ls []) := by
        intro ls H locs hl hM
        refine lv_iinc (k := 3) (v := (nI (i1 + 1))) (lv' := [(3, .int (nI (i1 + 1))), (0, .ref (a 0)), (1, .int (nI mn)), (2, .int g)]) hx hb d_G_write_72 hl rfl (nI_1 _) (by decide) rfl (fun ls hl => ?_)
        refine lv_goto (tgt := 2) hx hb d_G_write_75 rfl ?_
        have hK := kk
        simp only [lp_G_write] at hK
        exact ih (i1 + 1) (if ((g >>> ((nI i1) &&& 31)) &&& (1 : Int32)) = (1 : Int32) then (gm_sN (gm_sL (gm_sN w1 1 (((w1.2.2.1 1) + 1) % 16)) ((gm_sN w1 1 (((w1.2.2.1 1) + 1) % 16)).2.2.1 1) ((((((gm_sN w1 1 (((w1.2.2.1 1) + 1) % 16)).2.1 6 2)).toInt64 * (32 : Int64)) + (((nI mn) * (16 : Int32))).toInt64) + ((nI i1)).toInt64)) 0 (min (((gm_sL (gm_sN w1 1 (((w1.2.2.1 1) + 1) % 16)) ((gm_sN w1 1 (((w1.2.2.1 1) + 1) % 16)).2.2.1 1) ((((((gm_sN w1 1 (((w1.2.2.1 1) + 1) % 16)).2.1 6 2)).toInt64 * (32 : Int64)) + (((nI mn) * (16 : Int32))).toInt64) + ((nI i1)).toInt64)).2.2.1 0) + 1) 16)) else w1) ls H locs (by omega) (by first | assumption | (split <;> first | assumption | exact ⟨Nat.mod_lt _ (by decide), Nat.min_le_right _ _⟩)) hl hM hK
      refine lv_icmp_ne (tgt := 72) hx hb d_G_write_14 rfl (fun h2 => ?_) (fun h2 => ?_)
      · have hJ := J3
        try simp only [if_neg h2] at hJ
        exact hJ ls H locs (lv_sub hl [1, 2, 3, 0] rfl) hM
      · refine lv_aload_n hx hb d_G_write_17 rfl (lv_at hl 1 rfl) ?_
        refine lv_aload_n hx hb d_G_write_18 rfl (lv_at hl 1 rfl) ?_
        refine gf_G_84 hF hM d_G_write_19 ?_
        refine lv_iconst (v := 1) hx hb d_G_write_22 (by decide) ?_
        refine lv_iadd hx hb d_G_write_23 ?_
        refine lv_bipush (v := 16) hx hb d_G_write_24 (by decide) ?_
        refine lv_irem hx hb d_G_write_26 (by decide) ?_
        refine gm_tp (y := (nI (((w1.2.2.1 1) + 1) % 16))) (gm_rem (by first | rfl | (simp only [← nI_add, ← pk_mul] <;> rfl)) (by first | omega | (have := (‹gm_ok _›).1; omega) | exact Nat.lt_of_lt_of_le hp0 (by decide)) (by decide) (by decide)) ?_
        refine gp_G_84 hF hM (x := (((w1.2.2.1 1) + 1) % 16)) rfl d_G_write_27 (fun H locs hM => ?_)
        refine lv_aload_n hx hb d_G_write_30 rfl (lv_at hl 1 rfl) ?_
        refine gf_G_15 hF hM d_G_write_31 ?_
        refine lv_aload_n hx hb d_G_write_34 rfl (lv_at hl 1 rfl) ?_
        refine gf_G_84 hF hM d_G_write_35 ?_
        refine lv_aload_n hx hb d_G_write_38 rfl (lv_at hl 1 rfl) ?_
        refine gf_G_27 hF hM d_G_write_39 ?_
        refine lv_i2l hx hb d_G_write_42 rfl ?_
        refine lv_ldc2 (v := 32) hx hb hown (hts _ (gm_in 212 (by decide +kernel) rfl)) d_G_write_43 ?_
        refine lv_lmul hx hb d_G_write_46 ?_
        refine lv_iload_n hx hb d_G_write_47 rfl (lv_at hl 2 rfl) ?_
        refine lv_bipush (v := 16) hx hb d_G_write_48 (by decide) ?_
        refine lv_imul hx hb d_G_write_50 ?_
        refine lv_i2l hx hb d_G_write_51 rfl ?_
        refine lv_ladd hx hb d_G_write_52 ?_
        refine lv_iload_n hx hb d_G_write_53 rfl (lv_at hl 0 rfl) ?_
        refine lv_i2l hx hb d_G_write_54 rfl ?_
        refine lv_ladd hx hb d_G_write_55 ?_
        refine gq_recs (k := ((gm_sN w1 1 (((w1.2.2.1 1) + 1) % 16)).2.2.1 1)) hF hM rfl (by first | omega | exact Nat.mod_lt _ (by decide)) d_G_write_56 (fun H locs hM => ?_)
        refine lv_aload_n hx hb d_G_write_57 rfl (lv_at hl 1 rfl) ?_
        refine lv_aload_n hx hb d_G_write_58 rfl (lv_at hl 1 rfl) ?_
        refine gf_G_79 hF hM d_G_write_59 ?_
        refine lv_iconst (v := 1) hx hb d_G_write_62 (by decide) ?_
        refine lv_iadd hx hb d_G_write_63 ?_
        refine lv_bipush (v := 16) hx hb d_G_write_64 (by decide) ?_
        refine va_mmin hx hb (by rw [hml]; exact hl.1.symm) hown (hts _ gw_ml_G_108) (hts _ gw_mst_min) (hts _ gw_mini) (hts _ gw_mcode_min) (Nat.le_of_ble_eq_true rfl) (Nat.le_of_ble_eq_true rfl) (Nat.zero_le _) (Nat.zero_le _) d_G_write_66 ?_
        refine gm_tp (y := (nI (min (((gm_sL (gm_sN w1 1 (((w1.2.2.1 1) + 1) % 16)) ((gm_sN w1 1 (((w1.2.2.1 1) + 1) % 16)).2.2.1 1) ((((((gm_sN w1 1 (((w1.2.2.1 1) + 1) % 16)).2.1 6 2)).toInt64 * (32 : Int64)) + (((nI mn) * (16 : Int32))).toInt64) + ((nI i1)).toInt64)).2.2.1 0) + 1) 16))) (gm_min (by first | rfl | (simp only [← nI_add] <;> rfl)) (Nat.lt_of_le_of_lt (Nat.succ_le_succ hI1.2) (by decide))) ?_
        refine gp_G_79 hF hM (x := (min (((gm_sL (gm_sN w1 1 (((w1.2.2.1 1) + 1) % 16)) ((gm_sN w1 1 (((w1.2.2.1 1) + 1) % 16)).2.2.1 1) ((((((gm_sN w1 1 (((w1.2.2.1 1) + 1) % 16)).2.1 6 2)).toInt64 * (32 : Int64)) + (((nI mn) * (16 : Int32))).toInt64) + ((nI i1)).toInt64)).2.2.1 0) + 1) 16)) rfl d_G_write_69 (fun H locs hM => ?_)
        have hJ := J3
        try simp only [if_pos h2] at hJ
        exact hJ ls H locs (lv_sub hl [1, 2, 3, 0] rfl) hM
  refine L1 16 0 u ls H locs (by omega) hp0 hl hM (fun ls H locs hl hM => ?_)
  have hq := hQ H locs 78 ls
  simp only [s_G_write] at hq
  exact hq hM d_G_write_78
theorem gm_ok_lpw {mn : Nat} {g : Int32} : ∀ (k i : Nat) (u : gm_St), gm_ok u → gm_ok (lp_G_write mn g k i u) := by
  intro k
  induction k with
  | zero => intro i u h; exact h
  | succ k ih =>
    intro i u h
    simp only [lp_G_write]
    apply ih
    split <;> first | exact h | exact ⟨Nat.mod_lt _ (by decide), Nat.min_le_right _ _⟩
theorem gm_ok_write {u : gm_St} {mn : Nat} {g : Int32} (h : gm_ok u) : gm_ok (s_G_write u mn g) := gm_ok_lpw 16 0 u h
