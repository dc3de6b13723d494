theorem d_G_isModule_0 : decode b_G_isModule 0 = .ok (.iload_n 0, 1) := by decide +kernel
theorem d_G_isModule_1 : decode b_G_isModule 1 = .ok (.ifCond .lt 12, 3) := by decide +kernel
theorem d_G_isModule_4 : decode b_G_isModule 4 = .ok (.iload_n 0, 1) := by decide +kernel
theorem d_G_isModule_5 : decode b_G_isModule 5 = .ok (.iconst 2, 1) := by decide +kernel
theorem d_G_isModule_6 : decode b_G_isModule 6 = .ok (.if_icmp .ge 7, 3) := by decide +kernel
theorem d_G_isModule_9 : decode b_G_isModule 9 = .ok (.iconst 1, 1) := by decide +kernel
theorem d_G_isModule_10 : decode b_G_isModule 10 = .ok (.goto 4, 3) := by decide +kernel
theorem d_G_isModule_13 : decode b_G_isModule 13 = .ok (.iconst 0, 1) := by decide +kernel
theorem d_G_isModule_14 : decode b_G_isModule 14 = .ok (.ireturn, 1) := by decide +kernel
def v_G_isModule (x : Int32) : Bool := (if x < 0 then false else (if (2 : Int32) ≤ x then false else true))
set_option maxRecDepth 100000 in
set_option maxHeartbeats 4000000 in
theorem c_G_isModule {l : Launch} {D : va_G} {dk : Nat → ClassId} {Wd : gm_St → va_W} {A : Nat → Prop} {lt : Nat} {u : gm_St} {x : Int32} : gm_I l D (gm_ty dk) Wd A lt y_G_isModule b_G_isModule 1 (some .boolean) rm_G_isModule [.int x] u (gm_b (v_G_isModule x)) u := by
  refine gm_enterZ (by decide) (Nat.le_of_ble_eq_true rfl) ?_
  intro p e s m args below meth c ls Q H locs hF hM hl hQ
  have hx := hF.1
  have hb := hF.2.1
  have hml := hF.2.2.1
  have hown := hF.2.2.2.1
  have hts := hF.2.2.2.2.1
  have hl : lv_has ls 1 [(0, .int x)] := hl
  refine lv_iload_n hx hb d_G_isModule_0 rfl (lv_at hl 0 rfl) ?_
  have J2 : ∀ (ls : Array Slot) (H : Heap) (locs : List Loc), lv_has ls 1 [(0, .int x)] → gm_M D A s Wd u H locs → W p l e rm_G_isModule s m args below meth c H locs 0 0 Q (F0 m 14 ls [.int (gm_b (if x < 0 then false else (if (2 : Int32) ≤ x then false else true)))]) := by
    intro ls H locs hl hM
    have hq := hQ H locs 14 ls
    simp only [v_G_isModule] at hq
    exact hq hM d_G_isModule_14
  refine lv_if_lt (tgt := 13) hx hb d_G_isModule_1 rfl (fun h1 => ?_) (fun h1 => ?_)
  · refine lv_iconst (v := 0) hx hb d_G_isModule_13 (by decide) ?_
    have hJ := J2
    try simp only [if_pos h1] at hJ
    exact hJ ls H locs hl hM
  · refine lv_iload_n hx hb d_G_isModule_4 rfl (lv_at hl 0 rfl) ?_
    refine lv_iconst (v := 2) hx hb d_G_isModule_5 (by decide) ?_
    refine lv_icmp_ge (tgt := 13) hx hb d_G_isModule_6 rfl (fun h3 => ?_) (fun h3 => ?_)
    · refine lv_iconst (v := 0) hx hb d_G_isModule_13 (by decide) ?_
      have hJ := J2
      try simp only [if_neg h1, if_pos h3] at hJ
      exact hJ ls H locs hl hM
    · refine lv_iconst (v := 1) hx hb d_G_isModule_9 (by decide) ?_
      refine lv_goto (tgt := 14) hx hb d_G_isModule_10 rfl ?_
      have hJ := J2
      try simp only [if_neg h1, if_neg h3] at hJ
      exact hJ ls H locs hl hM
theorem gm_isM {x : Int32} (h : v_G_isModule x = true) : x.toNatClampNeg < 2 ∧ x = nI x.toNatClampNeg := by
  unfold v_G_isModule at h
  by_cases h0 : x < 0
  · rw [if_pos h0] at h; cases h
  · rw [if_neg h0] at h
    by_cases h2 : (2 : Int32) ≤ x
    · rw [if_pos h2] at h; cases h
    · have q := gm_ix (lo := 0) (n := 2) h0 (Int32.not_le.mp h2) (by decide) (by decide)
      exact ⟨q.1.2, q.2⟩
theorem d_G_hasOddParity_0 : decode b_G_hasOddParity 0 = .ok (.iload_n 0, 1) := by decide +kernel
theorem d_G_hasOddParity_1 : decode b_G_hasOddParity 1 = .ok (.invokestatic 100, 3) := by decide +kernel
theorem d_G_hasOddParity_4 : decode b_G_hasOddParity 4 = .ok (.iconst 1, 1) := by decide +kernel
theorem d_G_hasOddParity_5 : decode b_G_hasOddParity 5 = .ok (.iand, 1) := by decide +kernel
theorem d_G_hasOddParity_6 : decode b_G_hasOddParity 6 = .ok (.iconst 1, 1) := by decide +kernel
theorem d_G_hasOddParity_7 : decode b_G_hasOddParity 7 = .ok (.if_icmp .ne 7, 3) := by decide +kernel
theorem d_G_hasOddParity_10 : decode b_G_hasOddParity 10 = .ok (.iconst 1, 1) := by decide +kernel
theorem d_G_hasOddParity_11 : decode b_G_hasOddParity 11 = .ok (.goto 4, 3) := by decide +kernel
theorem d_G_hasOddParity_14 : decode b_G_hasOddParity 14 = .ok (.iconst 0, 1) := by decide +kernel
theorem d_G_hasOddParity_15 : decode b_G_hasOddParity 15 = .ok (.ireturn, 1) := by decide +kernel
def v_G_hasOddParity (x : Int32) : Bool := (if ((v_I_bitCount x) &&& (1 : Int32)) = (1 : Int32) then true else false)
set_option maxRecDepth 100000 in
set_option maxHeartbeats 4000000 in
theorem c_G_hasOddParity {l : Launch} {D : va_G} {dk : Nat → ClassId} {Wd : gm_St → va_W} {A : Nat → Prop} {lt : Nat} {u : gm_St} {x : Int32} : gm_I l D (gm_ty dk) Wd A lt y_G_hasOddParity b_G_hasOddParity 1 (some .boolean) rm_G_hasOddParity [.int x] u (gm_b (v_G_hasOddParity x)) u := by
  refine gm_enterZ (by decide) (Nat.le_of_ble_eq_true rfl) ?_
  intro p e s m args below meth c ls Q H locs hF hM hl hQ
  have hx := hF.1
  have hb := hF.2.1
  have hml := hF.2.2.1
  have hown := hF.2.2.2.1
  have hts := hF.2.2.2.2.1
  have hl : lv_has ls 1 [(0, .int x)] := hl
  refine lv_iload_n hx hb d_G_hasOddParity_0 rfl (lv_at hl 0 rfl) ?_
  refine gm_Si (As := [.int x]) (rest := []) hF hM (c_I_bitCount (u := u) (x := x) ) (gk_G_100 hts ⟨by decide, by decide⟩) rfl hl.1 rfl (Nat.le_of_ble_eq_true rfl) ⟨Nat.zero_le _, Nat.zero_le _⟩ d_G_hasOddParity_1 (fun H locs hM => ?_)
  refine lv_iconst (v := 1) hx hb d_G_hasOddParity_4 (by decide) ?_
  refine lv_iand hx hb d_G_hasOddParity_5 ?_
  refine lv_iconst (v := 1) hx hb d_G_hasOddParity_6 (by decide) ?_
  have J2 : ∀ (ls : Array Slot) (H : Heap) (locs : List Loc), lv_has ls 1 [(0, .int x)] → gm_M D A s Wd u H locs → W p l e rm_G_hasOddParity s m args below meth c H locs 0 0 Q (F0 m 15 ls [.int (gm_b (if ((v_I_bitCount x) &&& (1 : Int32)) = (1 : Int32) then true else false))]) := by
    intro ls H locs hl hM
    have hq := hQ H locs 15 ls
    simp only [v_G_hasOddParity] at hq
    exact hq hM d_G_hasOddParity_15
  refine lv_icmp_ne (tgt := 14) hx hb d_G_hasOddParity_7 rfl (fun h1 => ?_) (fun h1 => ?_)
  · refine lv_iconst (v := 0) hx hb d_G_hasOddParity_14 (by decide) ?_
    have hJ := J2
    try simp only [if_neg h1] at hJ
    exact hJ ls H locs hl hM
  · refine lv_iconst (v := 1) hx hb d_G_hasOddParity_10 (by decide) ?_
    refine lv_goto (tgt := 15) hx hb d_G_hasOddParity_11 rfl ?_
    have hJ := J2
    try simp only [if_pos h1] at hJ
    exact hJ ls H locs hl hM
theorem d_G_time_0 : decode b_G_time 0 = .ok (.aload_n 0, 1) := by decide +kernel
theorem d_G_time_1 : decode b_G_time 1 = .ok (.getfield 27, 3) := by decide +kernel
theorem d_G_time_4 : decode b_G_time 4 = .ok (.ireturn, 1) := by decide +kernel
def v_G_time (u : gm_St) : Int32 := (u.2.1 6 2)
set_option maxRecDepth 100000 in
set_option maxHeartbeats 4000000 in
theorem c_G_time {l : Launch} {D : va_G} {dk : Nat → ClassId} {a : Nat → Nat} {A : Nat → Prop} {lt : Nat} {u : gm_St} : gm_I l D (gm_ty dk) (gm_W dk a) A lt y_G_time b_G_time 1 (some .int) rm_G_time [.ref (a 0)] u (v_G_time u) u := by
  refine gm_enterI (by decide) (Nat.le_of_ble_eq_true rfl) ?_
  intro p e s m args below meth c ls Q H locs hF hM hl hQ
  have hx := hF.1
  have hb := hF.2.1
  have hml := hF.2.2.1
  have hown := hF.2.2.2.1
  have hts := hF.2.2.2.2.1
  have hl : lv_has ls 1 [(0, .ref (a 0))] := hl
  refine lv_aload_n hx hb d_G_time_0 rfl (lv_at hl 0 rfl) ?_
  refine gf_G_27 hF hM d_G_time_1 ?_
  have hq := hQ H locs 4 ls
  simp only [v_G_time] at hq
  exact hq hM d_G_time_4
theorem d_G_fail_0 : decode b_G_fail 0 = .ok (.iload_n 1, 1) := by decide +kernel
theorem d_G_fail_1 : decode b_G_fail 1 = .ok (.invokestatic 39, 3) := by decide +kernel
theorem d_G_fail_4 : decode b_G_fail 4 = .ok (.ifCond .eq 19, 3) := by decide +kernel
theorem d_G_fail_7 : decode b_G_fail 7 = .ok (.aload_n 0, 1) := by decide +kernel
theorem d_G_fail_8 : decode b_G_fail 8 = .ok (.getfield 11, 3) := by decide +kernel
theorem d_G_fail_11 : decode b_G_fail 11 = .ok (.iload_n 1, 1) := by decide +kernel
theorem d_G_fail_12 : decode b_G_fail 12 = .ok (.aaload, 1) := by decide +kernel
theorem d_G_fail_13 : decode b_G_fail 13 = .ok (.invokevirtual 43, 3) := by decide +kernel
theorem d_G_fail_16 : decode b_G_fail 16 = .ok (.ifCond .eq 7, 3) := by decide +kernel
theorem d_G_fail_19 : decode b_G_fail 19 = .ok (.iconst 1, 1) := by decide +kernel
theorem d_G_fail_20 : decode b_G_fail 20 = .ok (.goto 4, 3) := by decide +kernel
theorem d_G_fail_23 : decode b_G_fail 23 = .ok (.iconst 0, 1) := by decide +kernel
theorem d_G_fail_24 : decode b_G_fail 24 = .ok (.ireturn, 1) := by decide +kernel
def v_G_fail (u : gm_St) (x : Int32) : Bool := (if (v_G_isModule x) = true then (if (v_M_stop u x.toNatClampNeg) = true then true else false) else false)
def s_G_fail (u : gm_St) (x : Int32) : gm_St := (if (v_G_isModule x) = true then (if (v_M_stop u x.toNatClampNeg) = true then (s_M_stop u x.toNatClampNeg) else (s_M_stop u x.toNatClampNeg)) else u)
set_option maxRecDepth 100000 in
set_option maxHeartbeats 4000000 in
theorem c_G_fail {l : Launch} {D : va_G} {dk : Nat → ClassId} {a : Nat → Nat} {A : Nat → Prop} {lt : Nat} {u : gm_St} {x : Int32} : gm_I l D (gm_ty dk) (gm_W dk a) A lt y_G_fail b_G_fail 2 (some .boolean) rm_G_fail [.ref (a 0), .int x] u (gm_b (v_G_fail u x)) (s_G_fail u x) := by
  refine gm_enterZ (by decide) (Nat.le_of_ble_eq_true rfl) ?_
  intro p e s m args below meth c ls Q H locs hF hM hl hQ
  have hx := hF.1
  have hb := hF.2.1
  have hml := hF.2.2.1
  have hown := hF.2.2.2.1
  have hts := hF.2.2.2.2.1
  have hl : lv_has ls 2 [(0, .ref (a 0)), (1, .int x)] := hl
  refine lv_iload_n hx hb d_G_fail_0 rfl (lv_at hl 1 rfl) ?_
  refine gm_Si (As := [.int x]) (rest := []) hF hM (c_G_isModule (u := u) (x := x) ) (gk_G_39 hts ⟨by decide, by decide⟩) rfl hl.1 rfl (Nat.le_of_ble_eq_true rfl) ⟨Nat.zero_le _, Nat.zero_le _⟩ d_G_fail_1 (fun H locs hM => ?_)
  have J2 : ∀ (ls : Array Slot) (H : Heap) (locs : List Loc), lv_has ls 2 [(0, .ref (a 0)), (1, .int x)] → gm_M D A s (gm_W dk a) (if (v_G_isModule x) = true then (if (v_M_stop u x.toNatClampNeg) = true then (s_M_stop u x.toNatClampNeg) else (s_M_stop u x.toNatClampNeg)) else u) H locs → W p l e rm_G_fail s m args below meth c H locs 0 0 Q (F0 m 24 ls [.int (gm_b (if (v_G_isModule x) = true then (if (v_M_stop u x.toNatClampNeg) = true then true else false) else false))]) := by
    intro ls H locs hl hM
    have hq := hQ H locs 24 ls
    simp only [v_G_fail, s_G_fail] at hq
    exact hq hM d_G_fail_24
  refine gm_ifz (b := (v_G_isModule x)) (tgt := 23) hx hb d_G_fail_4 rfl (fun h1 => ?_) (fun h1 => ?_)
  · refine lv_iconst (v := 0) hx hb d_G_fail_23 (by decide) ?_
    have hJ := J2
    try simp only [if_neg (gm_nf h1)] at hJ
    exact hJ ls H locs hl hM
  · have hm_x := (gm_isM h1).1
    have ex_x := (gm_isM h1).2
    refine lv_aload_n hx hb d_G_fail_7 rfl (lv_at hl 0 rfl) ?_
    refine gf_G_11 hF hM d_G_fail_8 ?_
    refine lv_iload_n hx hb d_G_fail_11 rfl (lv_at hl 1 rfl) ?_
    refine ga_mods (k := x.toNatClampNeg) hF hM ex_x (by first | omega | exact Nat.mod_lt _ (by decide)) d_G_fail_12 ?_
    refine gm_Vi (As := []) (rest := []) hF hM (c_M_stop (u := u) (m := x.toNatClampNeg) (by omega)) (gk_G_43 hts ⟨by decide, by decide⟩) (gv_M hF hM (by omega) rfl) rfl hl.1 rfl (Nat.le_of_ble_eq_true rfl) ⟨Nat.zero_le _, Nat.zero_le _⟩ d_G_fail_13 (fun H locs hM => ?_)
    refine gm_ifz (b := (v_M_stop u x.toNatClampNeg)) (tgt := 23) hx hb d_G_fail_16 rfl (fun h3 => ?_) (fun h3 => ?_)
    · refine lv_iconst (v := 0) hx hb d_G_fail_23 (by decide) ?_
      have hJ := J2
      try simp only [if_pos h1, if_neg (gm_nf h3)] at hJ
      exact hJ ls H locs hl hM
    · refine lv_iconst (v := 1) hx hb d_G_fail_19 (by decide) ?_
      refine lv_goto (tgt := 24) hx hb d_G_fail_20 rfl ?_
      have hJ := J2
      try simp only [if_pos h1, if_pos h3] at hJ
      exact hJ ls H locs hl hM
theorem d_G_replace_0 : decode b_G_replace 0 = .ok (.iload_n 1, 1) := by decide +kernel
theorem d_G_replace_1 : decode b_G_replace 1 = .ok (.invokestatic 39, 3) := by decide +kernel
theorem d_G_replace_4 : decode b_G_replace 4 = .ok (.ifCond .ne 5, 3) := by decide +kernel
theorem d_G_replace_7 : decode b_G_replace 7 = .ok (.iconst 0, 1) := by decide +kernel
theorem d_G_replace_8 : decode b_G_replace 8 = .ok (.ireturn, 1) := by decide +kernel
theorem d_G_replace_9 : decode b_G_replace 9 = .ok (.aload_n 0, 1) := by decide +kernel
theorem d_G_replace_10 : decode b_G_replace 10 = .ok (.getfield 11, 3) := by decide +kernel
theorem d_G_replace_13 : decode b_G_replace 13 = .ok (.iload_n 1, 1) := by decide +kernel
theorem d_G_replace_14 : decode b_G_replace 14 = .ok (.aaload, 1) := by decide +kernel
theorem d_G_replace_15 : decode b_G_replace 15 = .ok (.invokevirtual 47, 3) := by decide +kernel
theorem d_G_replace_18 : decode b_G_replace 18 = .ok (.iconst 1, 1) := by decide +kernel
theorem d_G_replace_19 : decode b_G_replace 19 = .ok (.ireturn, 1) := by decide +kernel
def v_G_replace (u : gm_St) (x : Int32) : Bool := (if (v_G_isModule x) = true then true else false)
def s_G_replace (u : gm_St) (x : Int32) : gm_St := (if (v_G_isModule x) = true then (s_M_renew u x.toNatClampNeg) else u)
set_option maxRecDepth 100000 in
set_option maxHeartbeats 4000000 in
theorem c_G_replace {l : Launch} {D : va_G} {dk : Nat → ClassId} {a : Nat → Nat} {A : Nat → Prop} {lt : Nat} {u : gm_St} {x : Int32} : gm_I l D (gm_ty dk) (gm_W dk a) A lt y_G_replace b_G_replace 2 (some .boolean) rm_G_replace [.ref (a 0), .int x] u (gm_b (v_G_replace u x)) (s_G_replace u x) := by
  refine gm_enterZ (by decide) (Nat.le_of_ble_eq_true rfl) ?_
  intro p e s m args below meth c ls Q H locs hF hM hl hQ
  have hx := hF.1
  have hb := hF.2.1
  have hml := hF.2.2.1
  have hown := hF.2.2.2.1
  have hts := hF.2.2.2.2.1
  have hl : lv_has ls 2 [(0, .ref (a 0)), (1, .int x)] := hl
  refine lv_iload_n hx hb d_G_replace_0 rfl (lv_at hl 1 rfl) ?_
  refine gm_Si (As := [.int x]) (rest := []) hF hM (c_G_isModule (u := u) (x := x) ) (gk_G_39 hts ⟨by decide, by decide⟩) rfl hl.1 rfl (Nat.le_of_ble_eq_true rfl) ⟨Nat.zero_le _, Nat.zero_le _⟩ d_G_replace_1 (fun H locs hM => ?_)
  refine gm_ifn (b := (v_G_isModule x)) (tgt := 9) hx hb d_G_replace_4 rfl (fun h1 => ?_) (fun h1 => ?_)
  · have hm_x := (gm_isM h1).1
    have ex_x := (gm_isM h1).2
    refine lv_aload_n hx hb d_G_replace_9 rfl (lv_at hl 0 rfl) ?_
    refine gf_G_11 hF hM d_G_replace_10 ?_
    refine lv_iload_n hx hb d_G_replace_13 rfl (lv_at hl 1 rfl) ?_
    refine ga_mods (k := x.toNatClampNeg) hF hM ex_x (by first | omega | exact Nat.mod_lt _ (by decide)) d_G_replace_14 ?_
    refine gm_Vv (As := []) (rest := []) hF hM (c_M_renew (u := u) (m := x.toNatClampNeg) (by omega)) (gk_G_47 hts ⟨by decide, by decide⟩) (gv_M hF hM (by omega) rfl) rfl hl.1 rfl (Nat.le_of_ble_eq_true rfl) ⟨Nat.zero_le _, Nat.zero_le _⟩ d_G_replace_15 (fun H locs hM => ?_)
    refine lv_iconst (v := 1) hx hb d_G_replace_18 (by decide) ?_
    have hq := hQ H locs 19 ls
    simp only [v_G_replace, s_G_replace, if_pos h1] at hq
    exact hq hM d_G_replace_19
  · refine lv_iconst (v := 0) hx hb d_G_replace_7 (by decide) ?_
    have hq := hQ H locs 8 ls
    simp only [v_G_replace, s_G_replace, if_neg (gm_nf h1)] at hq
    exact hq hM d_G_replace_8
theorem d_G_works_0 : decode b_G_works 0 = .ok (.iload_n 1, 1) := by decide +kernel
theorem d_G_works_1 : decode b_G_works 1 = .ok (.invokestatic 39, 3) := by decide +kernel
theorem d_G_works_4 : decode b_G_works 4 = .ok (.ifCond .eq 19, 3) := by decide +kernel
theorem d_G_works_7 : decode b_G_works 7 = .ok (.aload_n 0, 1) := by decide +kernel
theorem d_G_works_8 : decode b_G_works 8 = .ok (.getfield 11, 3) := by decide +kernel
theorem d_G_works_11 : decode b_G_works 11 = .ok (.iload_n 1, 1) := by decide +kernel
theorem d_G_works_12 : decode b_G_works 12 = .ok (.aaload, 1) := by decide +kernel
theorem d_G_works_13 : decode b_G_works 13 = .ok (.getfield 50, 3) := by decide +kernel
theorem d_G_works_16 : decode b_G_works 16 = .ok (.ifCond .eq 7, 3) := by decide +kernel
theorem d_G_works_19 : decode b_G_works 19 = .ok (.iconst 1, 1) := by decide +kernel
theorem d_G_works_20 : decode b_G_works 20 = .ok (.goto 4, 3) := by decide +kernel
theorem d_G_works_23 : decode b_G_works 23 = .ok (.iconst 0, 1) := by decide +kernel
theorem d_G_works_24 : decode b_G_works 24 = .ok (.ireturn, 1) := by decide +kernel
def v_G_works (u : gm_St) (x : Int32) : Bool := (if (v_G_isModule x) = true then (if (u.1 2 x.toNatClampNeg) = true then true else false) else false)
set_option maxRecDepth 100000 in
set_option maxHeartbeats 4000000 in
theorem c_G_works {l : Launch} {D : va_G} {dk : Nat → ClassId} {a : Nat → Nat} {A : Nat → Prop} {lt : Nat} {u : gm_St} {x : Int32} : gm_I l D (gm_ty dk) (gm_W dk a) A lt y_G_works b_G_works 2 (some .boolean) rm_G_works [.ref (a 0), .int x] u (gm_b (v_G_works u x)) u := by
  refine gm_enterZ (by decide) (Nat.le_of_ble_eq_true rfl) ?_
  intro p e s m args below meth c ls Q H locs hF hM hl hQ
  have hx := hF.1
  have hb := hF.2.1
  have hml := hF.2.2.1
  have hown := hF.2.2.2.1
  have hts := hF.2.2.2.2.1
  have hl : lv_has ls 2 [(0, .ref (a 0)), (1, .int x)] := hl
  refine lv_iload_n hx hb d_G_works_0 rfl (lv_at hl 1 rfl) ?_
  refine gm_Si (As := [.int x]) (rest := []) hF hM (c_G_isModule (u := u) (x := x) ) (gk_G_39 hts ⟨by decide, by decide⟩) rfl hl.1 rfl (Nat.le_of_ble_eq_true rfl) ⟨Nat.zero_le _, Nat.zero_le _⟩ d_G_works_1 (fun H locs hM => ?_)
  have J2 : ∀ (ls : Array Slot) (H : Heap) (locs : List Loc), lv_has ls 2 [(0, .ref (a 0)), (1, .int x)] → gm_M D A s (gm_W dk a) u H locs → W p l e rm_G_works s m args below meth c H locs 0 0 Q (F0 m 24 ls [.int (gm_b (if (v_G_isModule x) = true then (if (u.1 2 x.toNatClampNeg) = true then true else false) else false))]) := by
    intro ls H locs hl hM
    have hq := hQ H locs 24 ls
    simp only [v_G_works] at hq
    exact hq hM d_G_works_24
  refine gm_ifz (b := (v_G_isModule x)) (tgt := 23) hx hb d_G_works_4 rfl (fun h1 => ?_) (fun h1 => ?_)
  · refine lv_iconst (v := 0) hx hb d_G_works_23 (by decide) ?_
    have hJ := J2
    try simp only [if_neg (gm_nf h1)] at hJ
    exact hJ ls H locs hl hM
  · have hm_x := (gm_isM h1).1
    have ex_x := (gm_isM h1).2
    refine lv_aload_n hx hb d_G_works_7 rfl (lv_at hl 0 rfl) ?_
    refine gf_G_11 hF hM d_G_works_8 ?_
    refine lv_iload_n hx hb d_G_works_11 rfl (lv_at hl 1 rfl) ?_
    refine ga_mods (k := x.toNatClampNeg) hF hM ex_x (by first | omega | exact Nat.mod_lt _ (by decide)) d_G_works_12 ?_
    refine gf_G_50 hF hM (by omega) d_G_works_13 ?_
    refine gm_ifz (b := (u.1 2 x.toNatClampNeg)) (tgt := 23) hx hb d_G_works_16 rfl (fun h3 => ?_) (fun h3 => ?_)
    · refine lv_iconst (v := 0) hx hb d_G_works_23 (by decide) ?_
      have hJ := J2
      try simp only [if_pos h1, if_neg (gm_nf h3)] at hJ
      exact hJ ls H locs hl hM
    · refine lv_iconst (v := 1) hx hb d_G_works_19 (by decide) ?_
      refine lv_goto (tgt := 24) hx hb d_G_works_20 rfl ?_
      have hJ := J2
      try simp only [if_pos h1, if_pos h3] at hJ
      exact hJ ls H locs hl hM
theorem d_G_valvesOfEither_0 : decode b_G_valvesOfEither 0 = .ok (.iconst 0, 1) := by decide +kernel
theorem d_G_valvesOfEither_1 : decode b_G_valvesOfEither 1 = .ok (.istore_n 1, 1) := by decide +kernel
theorem d_G_valvesOfEither_2 : decode b_G_valvesOfEither 2 = .ok (.iconst 0, 1) := by decide +kernel
theorem d_G_valvesOfEither_3 : decode b_G_valvesOfEither 3 = .ok (.istore_n 2, 1) := by decide +kernel
theorem d_G_valvesOfEither_4 : decode b_G_valvesOfEither 4 = .ok (.iload_n 2, 1) := by decide +kernel
theorem d_G_valvesOfEither_5 : decode b_G_valvesOfEither 5 = .ok (.iconst 2, 1) := by decide +kernel
theorem d_G_valvesOfEither_6 : decode b_G_valvesOfEither 6 = .ok (.if_icmp .ge 21, 3) := by decide +kernel
theorem d_G_valvesOfEither_9 : decode b_G_valvesOfEither 9 = .ok (.iload_n 1, 1) := by decide +kernel
theorem d_G_valvesOfEither_10 : decode b_G_valvesOfEither 10 = .ok (.aload_n 0, 1) := by decide +kernel
theorem d_G_valvesOfEither_11 : decode b_G_valvesOfEither 11 = .ok (.getfield 11, 3) := by decide +kernel
theorem d_G_valvesOfEither_14 : decode b_G_valvesOfEither 14 = .ok (.iload_n 2, 1) := by decide +kernel
theorem d_G_valvesOfEither_15 : decode b_G_valvesOfEither 15 = .ok (.aaload, 1) := by decide +kernel
theorem d_G_valvesOfEither_16 : decode b_G_valvesOfEither 16 = .ok (.getfield 57, 3) := by decide +kernel
theorem d_G_valvesOfEither_19 : decode b_G_valvesOfEither 19 = .ok (.ior, 1) := by decide +kernel
theorem d_G_valvesOfEither_20 : decode b_G_valvesOfEither 20 = .ok (.istore_n 1, 1) := by decide +kernel
theorem d_G_valvesOfEither_21 : decode b_G_valvesOfEither 21 = .ok (.iinc 2 1, 3) := by decide +kernel
theorem d_G_valvesOfEither_24 : decode b_G_valvesOfEither 24 = .ok (.goto (-20), 3) := by decide +kernel
theorem d_G_valvesOfEither_27 : decode b_G_valvesOfEither 27 = .ok (.iload_n 1, 1) := by decide +kernel
theorem d_G_valvesOfEither_28 : decode b_G_valvesOfEither 28 = .ok (.ireturn, 1) := by decide +kernel
def lp_G_vE (u : gm_St) : Nat → Nat → Int32 → Int32
  | 0, _, x => x
  | k + 1, i, x => lp_G_vE u k (i + 1) (x ||| (u.2.1 3 i))
def v_G_valvesOfEither (u : gm_St) : Int32 := (lp_G_vE u 2 0 (0 : Int32))
set_option maxRecDepth 100000 in
set_option maxHeartbeats 4000000 in
theorem c_G_valvesOfEither {l : Launch} {D : va_G} {dk : Nat → ClassId} {a : Nat → Nat} {A : Nat → Prop} {lt : Nat} {u : gm_St} : gm_I l D (gm_ty dk) (gm_W dk a) A lt y_G_valvesOfEither b_G_valvesOfEither 3 (some .int) rm_G_valvesOfEither [.ref (a 0)] u (v_G_valvesOfEither u) u := by
  refine gm_enterI (by decide) (Nat.le_of_ble_eq_true rfl) ?_
  intro p e s m args below meth c ls Q H locs hF hM hl hQ
  have hx := hF.1
  have hb := hF.2.1
  have hml := hF.2.2.1
  have hown := hF.2.2.2.1
  have hts := hF.2.2.2.2.1
  have hl : lv_has ls 3 [(0, .ref (a 0))] := hl
  refine lv_iconst (v := 0) hx hb d_G_valvesOfEither_0 (by decide) ?_
  refine lv_istore_n (lv' := [(1, .int (0 : Int32)), (0, .ref (a 0))]) hx hb d_G_valvesOfEither_1 rfl hl (by decide) rfl (fun ls hl => ?_)
  refine lv_iconst (v := 0) hx hb d_G_valvesOfEither_2 (by decide) ?_
  refine lv_istore_n (lv' := [(2, .int (0 : Int32)), (1, .int (0 : Int32)), (0, .ref (a 0))]) hx hb d_G_valvesOfEither_3 rfl hl (by decide) rfl (fun ls hl => ?_)
  have L1 : ∀ (k1 i1 : Nat) (x1 : Int32) (ls : Array Slot) (H : Heap) (locs : List Loc), i1 + k1 = 2 → lv_has ls 3 [(2, .int (nI i1)), (1, .int x1), (0, .ref (a 0))] → gm_M D A s (gm_W dk a) u H locs → (∀ (ls : Array Slot) (H : Heap) (locs : List Loc), lv_has ls 3 [(2, .int (nI 2)), (1, .int (lp_G_vE u k1 i1 x1)), (0, .ref (a 0))] → gm_M D A s (gm_W dk a) u H locs → W p l e rm_G_valvesOfEither s m args below meth c H locs 0 0 Q (F0 m 27 ls [])) → W p l e rm_G_valvesOfEither s m args below meth c H locs 0 0 Q (F0 m 4 ls []) := by
    intro k1
    induction k1 with
    | zero =>
      intro i1 x1 ls H locs hk1 hl hM kk
      obtain rfl : i1 = 2 := by omega
      refine lv_iload_n hx hb d_G_valvesOfEither_4 rfl (lv_at hl 0 rfl) ?_
      refine lv_iconst (v := 2) hx hb d_G_valvesOfEither_5 (by decide) ?_
      refine lv_icmp_ge (tgt := 27) hx hb d_G_valvesOfEither_6 rfl (fun _ => ?_) (fun h => absurd (by decide) h)
      exact kk ls H locs hl hM
    | succ k1 ih =>
      intro i1 x1 ls H locs hk1 hl hM kk
      refine lv_iload_n hx hb d_G_valvesOfEither_4 rfl (lv_at hl 0 rfl) ?_
      refine lv_iconst (v := 2) hx hb d_G_valvesOfEither_5 (by decide) ?_
      refine lv_icmp_ge (tgt := 27) hx hb d_G_valvesOfEither_6 rfl (fun h => absurd h (nI_ge (a := i1) (b := 2) (by omega) (by first | decide | omega))) (fun _ => ?_)
      refine lv_iload_n hx hb d_G_valvesOfEither_9 rfl (lv_at hl 1 rfl) ?_
      refine lv_aload_n hx hb d_G_valvesOfEither_10 rfl (lv_at hl 2 rfl) ?_
      refine gf_G_11 hF hM d_G_valvesOfEither_11 ?_
      refine lv_iload_n hx hb d_G_valvesOfEither_14 rfl (lv_at hl 0 rfl) ?_
      refine ga_mods (k := i1) hF hM rfl (by first | omega | exact Nat.mod_lt _ (by decide)) d_G_valvesOfEither_15 ?_
      refine gf_G_57 hF hM (by omega) d_G_valvesOfEither_16 ?_
      refine lv_ior hx hb d_G_valvesOfEither_19 ?_
      refine lv_istore_n (lv' := [(1, .int (x1 ||| (u.2.1 3 i1))), (2, .int (nI i1)), (0, .ref (a 0))]) hx hb d_G_valvesOfEither_20 rfl hl (by decide) rfl (fun ls hl => ?_)
      refine lv_iinc (k := 1) (v := (nI (i1 + 1))) (lv' := [(2, .int (nI (i1 + 1))), (1, .int (x1 ||| (u.2.1 3 i1))), (0, .ref (a 0))]) hx hb d_G_valvesOfEither_21 hl rfl (nI_1 _) (by decide) rfl (fun ls hl => ?_)
      refine lv_goto (tgt := 4) hx hb d_G_valvesOfEither_24 rfl ?_
      have hK := kk
      simp only [lp_G_vE] at hK
      exact ih (i1 + 1) (x1 ||| (u.2.1 3 i1)) ls H locs (by omega) hl hM hK
  refine L1 2 0 (0 : Int32) ls H locs (by omega) hl hM (fun ls H locs hl hM => ?_)
  refine lv_iload_n hx hb d_G_valvesOfEither_27 rfl (lv_at hl 1 rfl) ?_
  have hq := hQ H locs 28 ls
  simp only [v_G_valvesOfEither] at hq
  exact hq hM d_G_valvesOfEither_28
theorem d_G_valves_0 : decode b_G_valves 0 = .ok (.iload_n 1, 1) := by decide +kernel
theorem d_G_valves_1 : decode b_G_valves 1 = .ok (.iconst (-1), 1) := by decide +kernel
theorem d_G_valves_2 : decode b_G_valves 2 = .ok (.if_icmp .ne 8, 3) := by decide +kernel
theorem d_G_valves_5 : decode b_G_valves 5 = .ok (.aload_n 0, 1) := by decide +kernel
theorem d_G_valves_6 : decode b_G_valves 6 = .ok (.invokevirtual 53, 3) := by decide +kernel
theorem d_G_valves_9 : decode b_G_valves 9 = .ok (.ireturn, 1) := by decide +kernel
theorem d_G_valves_10 : decode b_G_valves 10 = .ok (.iload_n 1, 1) := by decide +kernel
theorem d_G_valves_11 : decode b_G_valves 11 = .ok (.invokestatic 39, 3) := by decide +kernel
theorem d_G_valves_14 : decode b_G_valves 14 = .ok (.ifCond .eq 15, 3) := by decide +kernel
theorem d_G_valves_17 : decode b_G_valves 17 = .ok (.aload_n 0, 1) := by decide +kernel
theorem d_G_valves_18 : decode b_G_valves 18 = .ok (.getfield 11, 3) := by decide +kernel
theorem d_G_valves_21 : decode b_G_valves 21 = .ok (.iload_n 1, 1) := by decide +kernel
theorem d_G_valves_22 : decode b_G_valves 22 = .ok (.aaload, 1) := by decide +kernel
theorem d_G_valves_23 : decode b_G_valves 23 = .ok (.getfield 57, 3) := by decide +kernel
theorem d_G_valves_26 : decode b_G_valves 26 = .ok (.goto 4, 3) := by decide +kernel
theorem d_G_valves_29 : decode b_G_valves 29 = .ok (.iconst (-1), 1) := by decide +kernel
theorem d_G_valves_30 : decode b_G_valves 30 = .ok (.ireturn, 1) := by decide +kernel
def v_G_valves (u : gm_St) (x : Int32) : Int32 := (if x = (-1 : Int32) then (v_G_valvesOfEither u ) else (if (v_G_isModule x) = true then (u.2.1 3 x.toNatClampNeg) else (-1 : Int32)))
set_option maxRecDepth 100000 in
set_option maxHeartbeats 4000000 in
theorem c_G_valves {l : Launch} {D : va_G} {dk : Nat → ClassId} {a : Nat → Nat} {A : Nat → Prop} {lt : Nat} {u : gm_St} {x : Int32} : gm_I l D (gm_ty dk) (gm_W dk a) A lt y_G_valves b_G_valves 2 (some .int) rm_G_valves [.ref (a 0), .int x] u (v_G_valves u x) u := by
  refine gm_enterI (by decide) (Nat.le_of_ble_eq_true rfl) ?_
  intro p e s m args below meth c ls Q H locs hF hM hl hQ
  have hx := hF.1
  have hb := hF.2.1
  have hml := hF.2.2.1
  have hown := hF.2.2.2.1
  have hts := hF.2.2.2.2.1
  have hl : lv_has ls 2 [(0, .ref (a 0)), (1, .int x)] := hl
  refine lv_iload_n hx hb d_G_valves_0 rfl (lv_at hl 1 rfl) ?_
  refine lv_iconst (v := -1) hx hb d_G_valves_1 (by decide) ?_
  refine lv_icmp_ne (tgt := 10) hx hb d_G_valves_2 rfl (fun h1 => ?_) (fun h1 => ?_)
  · refine lv_iload_n hx hb d_G_valves_10 rfl (lv_at hl 1 rfl) ?_
    refine gm_Si (As := [.int x]) (rest := []) hF hM (c_G_isModule (u := u) (x := x) ) (gk_G_39 hts ⟨by decide, by decide⟩) rfl hl.1 rfl (Nat.le_of_ble_eq_true rfl) ⟨Nat.zero_le _, Nat.zero_le _⟩ d_G_valves_11 (fun H locs hM => ?_)
    have J3 : ∀ (ls : Array Slot) (H : Heap) (locs : List Loc), lv_has ls 2 [(0, .ref (a 0)), (1, .int x)] → gm_M D A s (gm_W dk a) u H locs → W p l e rm_G_valves s m args below meth c H locs 0 0 Q (F0 m 30 ls [.int (if (v_G_isModule x) = true then (u.2.1 3 x.toNatClampNeg) else (-1 : Int32))]) := by
      intro ls H locs hl hM
      have hq := hQ H locs 30 ls
      simp only [v_G_valves, if_neg h1] at hq
      exact hq hM d_G_valves_30
    refine gm_ifz (b := (v_G_isModule x)) (tgt := 29) hx hb d_G_valves_14 rfl (fun h2 => ?_) (fun h2 => ?_)
    · refine lv_iconst (v := -1) hx hb d_G_valves_29 (by decide) ?_
      have hJ := J3
      try simp only [if_neg (gm_nf h2)] at hJ
      exact hJ ls H locs hl hM
    · have hm_x := (gm_isM h2).1
      have ex_x := (gm_isM h2).2
      refine lv_aload_n hx hb d_G_valves_17 rfl (lv_at hl 0 rfl) ?_
      refine gf_G_11 hF hM d_G_valves_18 ?_
      refine lv_iload_n hx hb d_G_valves_21 rfl (lv_at hl 1 rfl) ?_
      refine ga_mods (k := x.toNatClampNeg) hF hM ex_x (by first | omega | exact Nat.mod_lt _ (by decide)) d_G_valves_22 ?_
      refine gf_G_57 hF hM (by omega) d_G_valves_23 ?_
      refine lv_goto (tgt := 30) hx hb d_G_valves_26 rfl ?_
      have hJ := J3
      try simp only [if_pos h2] at hJ
      exact hJ ls H locs hl hM
  · refine lv_aload_n hx hb d_G_valves_5 rfl (lv_at hl 0 rfl) ?_
    refine gm_Vi (As := []) (rest := []) hF hM (c_G_valvesOfEither (u := u)  ) (gk_G_53 hts ⟨by decide, by decide⟩) (gv_G hF hM rfl) rfl hl.1 rfl (Nat.le_of_ble_eq_true rfl) ⟨Nat.zero_le _, Nat.zero_le _⟩ d_G_valves_6 (fun H locs hM => ?_)
    have hq := hQ H locs 9 ls
    simp only [v_G_valves, if_pos h1] at hq
    exact hq hM d_G_valves_9
theorem d_G_sensor_0 : decode b_G_sensor 0 = .ok (.iload_n 1, 1) := by decide +kernel
theorem d_G_sensor_1 : decode b_G_sensor 1 = .ok (.invokestatic 39, 3) := by decide +kernel
theorem d_G_sensor_4 : decode b_G_sensor 4 = .ok (.ifCond .eq 13, 3) := by decide +kernel
theorem d_G_sensor_7 : decode b_G_sensor 7 = .ok (.iload_n 2, 1) := by decide +kernel
theorem d_G_sensor_8 : decode b_G_sensor 8 = .ok (.ifCond .lt 9, 3) := by decide +kernel
theorem d_G_sensor_11 : decode b_G_sensor 11 = .ok (.iload_n 2, 1) := by decide +kernel
theorem d_G_sensor_12 : decode b_G_sensor 12 = .ok (.bipush 6, 2) := by decide +kernel
theorem d_G_sensor_14 : decode b_G_sensor 14 = .ok (.if_icmp .lt 5, 3) := by decide +kernel
theorem d_G_sensor_17 : decode b_G_sensor 17 = .ok (.iconst (-1), 1) := by decide +kernel
theorem d_G_sensor_18 : decode b_G_sensor 18 = .ok (.ireturn, 1) := by decide +kernel
theorem d_G_sensor_19 : decode b_G_sensor 19 = .ok (.aload_n 0, 1) := by decide +kernel
theorem d_G_sensor_20 : decode b_G_sensor 20 = .ok (.getfield 11, 3) := by decide +kernel
theorem d_G_sensor_23 : decode b_G_sensor 23 = .ok (.iload_n 1, 1) := by decide +kernel
theorem d_G_sensor_24 : decode b_G_sensor 24 = .ok (.aaload, 1) := by decide +kernel
theorem d_G_sensor_25 : decode b_G_sensor 25 = .ok (.getfield 60, 3) := by decide +kernel
theorem d_G_sensor_28 : decode b_G_sensor 28 = .ok (.iload_n 2, 1) := by decide +kernel
theorem d_G_sensor_29 : decode b_G_sensor 29 = .ok (.aaload, 1) := by decide +kernel
theorem d_G_sensor_30 : decode b_G_sensor 30 = .ok (.invokevirtual 64, 3) := by decide +kernel
theorem d_G_sensor_33 : decode b_G_sensor 33 = .ok (.ireturn, 1) := by decide +kernel
def v_G_sensor (u : gm_St) (x : Int32) (y : Int32) : Int32 := (if (v_G_isModule x) = true then (if y < 0 then (-1 : Int32) else (if y < (6 : Int32) then (v_S_summary u (6 * x.toNatClampNeg + y.toNatClampNeg)) else (-1 : Int32))) else (-1 : Int32))
set_option maxRecDepth 100000 in
set_option maxHeartbeats 4000000 in
theorem c_G_sensor {l : Launch} {D : va_G} {dk : Nat → ClassId} {a : Nat → Nat} {A : Nat → Prop} {lt : Nat} {u : gm_St} {x : Int32} {y : Int32} : gm_I l D (gm_ty dk) (gm_W dk a) A lt y_G_sensor b_G_sensor 3 (some .int) rm_G_sensor [.ref (a 0), .int x, .int y] u (v_G_sensor u x y) u := by
  refine gm_enterI (by decide) (Nat.le_of_ble_eq_true rfl) ?_
  intro p e s m args below meth c ls Q H locs hF hM hl hQ
  have hx := hF.1
  have hb := hF.2.1
  have hml := hF.2.2.1
  have hown := hF.2.2.2.1
  have hts := hF.2.2.2.2.1
  have hl : lv_has ls 3 [(0, .ref (a 0)), (1, .int x), (2, .int y)] := hl
  refine lv_iload_n hx hb d_G_sensor_0 rfl (lv_at hl 1 rfl) ?_
  refine gm_Si (As := [.int x]) (rest := []) hF hM (c_G_isModule (u := u) (x := x) ) (gk_G_39 hts ⟨by decide, by decide⟩) rfl hl.1 rfl (Nat.le_of_ble_eq_true rfl) ⟨Nat.zero_le _, Nat.zero_le _⟩ d_G_sensor_1 (fun H locs hM => ?_)
  refine gm_ifz (b := (v_G_isModule x)) (tgt := 17) hx hb d_G_sensor_4 rfl (fun h1 => ?_) (fun h1 => ?_)
  · refine lv_iconst (v := -1) hx hb d_G_sensor_17 (by decide) ?_
    have hq := hQ H locs 18 ls
    simp only [v_G_sensor, if_neg (gm_nf h1)] at hq
    exact hq hM d_G_sensor_18
  · have hm_x := (gm_isM h1).1
    have ex_x := (gm_isM h1).2
    refine lv_iload_n hx hb d_G_sensor_7 rfl (lv_at hl 2 rfl) ?_
    refine lv_if_lt (tgt := 17) hx hb d_G_sensor_8 rfl (fun h2 => ?_) (fun h2 => ?_)
    · refine lv_iconst (v := -1) hx hb d_G_sensor_17 (by decide) ?_
      have hq := hQ H locs 18 ls
      simp only [v_G_sensor, if_pos h1, if_pos h2] at hq
      exact hq hM d_G_sensor_18
    · refine lv_iload_n hx hb d_G_sensor_11 rfl (lv_at hl 2 rfl) ?_
      refine lv_bipush (v := 6) hx hb d_G_sensor_12 (by decide) ?_
      refine lv_icmp_lt (tgt := 19) hx hb d_G_sensor_14 rfl (fun h3 => ?_) (fun h3 => ?_)
      · have hq_y := gm_ix (lo := 0) (n := 6) h2 h3 (by omega) (by omega)
        have hm_y := hq_y.1
        have ex_y := hq_y.2
        refine lv_aload_n hx hb d_G_sensor_19 rfl (lv_at hl 0 rfl) ?_
        refine gf_G_11 hF hM d_G_sensor_20 ?_
        refine lv_iload_n hx hb d_G_sensor_23 rfl (lv_at hl 1 rfl) ?_
        refine ga_mods (k := x.toNatClampNeg) hF hM ex_x (by first | omega | exact Nat.mod_lt _ (by decide)) d_G_sensor_24 ?_
        refine gf_G_60 hF hM (by omega) d_G_sensor_25 ?_
        refine lv_iload_n hx hb d_G_sensor_28 rfl (lv_at hl 2 rfl) ?_
        refine ga_sens (k := y.toNatClampNeg) hF hM (by omega) ex_y (by first | omega | exact Nat.mod_lt _ (by decide)) d_G_sensor_29 ?_
        refine gm_Vi (As := []) (rest := []) hF hM (c_S_summary (u := u) (i := (6 * x.toNatClampNeg + y.toNatClampNeg)) (by omega)) (gk_G_64 hts ⟨by decide, by decide⟩) (gv_S hF hM (by omega) rfl) rfl hl.1 rfl (Nat.le_of_ble_eq_true rfl) ⟨Nat.zero_le _, Nat.zero_le _⟩ d_G_sensor_30 (fun H locs hM => ?_)
        have hq := hQ H locs 33 ls
        simp only [v_G_sensor, if_pos h1, if_neg h2, if_pos h3] at hq
        exact hq hM d_G_sensor_33
      · refine lv_iconst (v := -1) hx hb d_G_sensor_17 (by decide) ?_
        have hq := hQ H locs 18 ls
        simp only [v_G_sensor, if_pos h1, if_neg h2, if_neg h3] at hq
        exact hq hM d_G_sensor_18
theorem d_G_anomalies_0 : decode b_G_anomalies 0 = .ok (.iload_n 1, 1) := by decide +kernel
theorem d_G_anomalies_1 : decode b_G_anomalies 1 = .ok (.invokestatic 39, 3) := by decide +kernel
theorem d_G_anomalies_4 : decode b_G_anomalies 4 = .ok (.ifCond .eq 15, 3) := by decide +kernel
theorem d_G_anomalies_7 : decode b_G_anomalies 7 = .ok (.aload_n 0, 1) := by decide +kernel
theorem d_G_anomalies_8 : decode b_G_anomalies 8 = .ok (.getfield 11, 3) := by decide +kernel
theorem d_G_anomalies_11 : decode b_G_anomalies 11 = .ok (.iload_n 1, 1) := by decide +kernel
theorem d_G_anomalies_12 : decode b_G_anomalies 12 = .ok (.aaload, 1) := by decide +kernel
theorem d_G_anomalies_13 : decode b_G_anomalies 13 = .ok (.getfield 69, 3) := by decide +kernel
theorem d_G_anomalies_16 : decode b_G_anomalies 16 = .ok (.goto 4, 3) := by decide +kernel
theorem d_G_anomalies_19 : decode b_G_anomalies 19 = .ok (.iconst (-1), 1) := by decide +kernel
theorem d_G_anomalies_20 : decode b_G_anomalies 20 = .ok (.ireturn, 1) := by decide +kernel
def v_G_anomalies (u : gm_St) (x : Int32) : Int32 := (if (v_G_isModule x) = true then (u.2.1 5 x.toNatClampNeg) else (-1 : Int32))
set_option maxRecDepth 100000 in
set_option maxHeartbeats 4000000 in
theorem c_G_anomalies {l : Launch} {D : va_G} {dk : Nat → ClassId} {a : Nat → Nat} {A : Nat → Prop} {lt : Nat} {u : gm_St} {x : Int32} : gm_I l D (gm_ty dk) (gm_W dk a) A lt y_G_anomalies b_G_anomalies 2 (some .int) rm_G_anomalies [.ref (a 0), .int x] u (v_G_anomalies u x) u := by
  refine gm_enterI (by decide) (Nat.le_of_ble_eq_true rfl) ?_
  intro p e s m args below meth c ls Q H locs hF hM hl hQ
  have hx := hF.1
  have hb := hF.2.1
  have hml := hF.2.2.1
  have hown := hF.2.2.2.1
  have hts := hF.2.2.2.2.1
  have hl : lv_has ls 2 [(0, .ref (a 0)), (1, .int x)] := hl
  refine lv_iload_n hx hb d_G_anomalies_0 rfl (lv_at hl 1 rfl) ?_
  refine gm_Si (As := [.int x]) (rest := []) hF hM (c_G_isModule (u := u) (x := x) ) (gk_G_39 hts ⟨by decide, by decide⟩) rfl hl.1 rfl (Nat.le_of_ble_eq_true rfl) ⟨Nat.zero_le _, Nat.zero_le _⟩ d_G_anomalies_1 (fun H locs hM => ?_)
  have J2 : ∀ (ls : Array Slot) (H : Heap) (locs : List Loc), lv_has ls 2 [(0, .ref (a 0)), (1, .int x)] → gm_M D A s (gm_W dk a) u H locs → W p l e rm_G_anomalies s m args below meth c H locs 0 0 Q (F0 m 20 ls [.int (if (v_G_isModule x) = true then (u.2.1 5 x.toNatClampNeg) else (-1 : Int32))]) := by
    intro ls H locs hl hM
    have hq := hQ H locs 20 ls
    simp only [v_G_anomalies] at hq
    exact hq hM d_G_anomalies_20
  refine gm_ifz (b := (v_G_isModule x)) (tgt := 19) hx hb d_G_anomalies_4 rfl (fun h1 => ?_) (fun h1 => ?_)
  · refine lv_iconst (v := -1) hx hb d_G_anomalies_19 (by decide) ?_
    have hJ := J2
    try simp only [if_neg (gm_nf h1)] at hJ
    exact hJ ls H locs hl hM
  · have hm_x := (gm_isM h1).1
    have ex_x := (gm_isM h1).2
    refine lv_aload_n hx hb d_G_anomalies_7 rfl (lv_at hl 0 rfl) ?_
    refine gf_G_11 hF hM d_G_anomalies_8 ?_
    refine lv_iload_n hx hb d_G_anomalies_11 rfl (lv_at hl 1 rfl) ?_
    refine ga_mods (k := x.toNatClampNeg) hF hM ex_x (by first | omega | exact Nat.mod_lt _ (by decide)) d_G_anomalies_12 ?_
    refine gf_G_69 hF hM (by omega) d_G_anomalies_13 ?_
    refine lv_goto (tgt := 20) hx hb d_G_anomalies_16 rfl ?_
    have hJ := J2
    try simp only [if_pos h1] at hJ
    exact hJ ls H locs hl hM
theorem d_G_running_0 : decode b_G_running 0 = .ok (.iload_n 1, 1) := by decide +kernel
theorem d_G_running_1 : decode b_G_running 1 = .ok (.invokestatic 39, 3) := by decide +kernel
theorem d_G_running_4 : decode b_G_running 4 = .ok (.ifCond .eq 15, 3) := by decide +kernel
theorem d_G_running_7 : decode b_G_running 7 = .ok (.iload_n 2, 1) := by decide +kernel
theorem d_G_running_8 : decode b_G_running 8 = .ok (.bipush 6, 2) := by decide +kernel
theorem d_G_running_10 : decode b_G_running 10 = .ok (.if_icmp .lt 9, 3) := by decide +kernel
theorem d_G_running_13 : decode b_G_running 13 = .ok (.iload_n 2, 1) := by decide +kernel
theorem d_G_running_14 : decode b_G_running 14 = .ok (.bipush 16, 2) := by decide +kernel
theorem d_G_running_16 : decode b_G_running 16 = .ok (.if_icmp .lt 5, 3) := by decide +kernel
theorem d_G_running_19 : decode b_G_running 19 = .ok (.iconst (-1), 1) := by decide +kernel
theorem d_G_running_20 : decode b_G_running 20 = .ok (.ireturn, 1) := by decide +kernel
theorem d_G_running_21 : decode b_G_running 21 = .ok (.aload_n 0, 1) := by decide +kernel
theorem d_G_running_22 : decode b_G_running 22 = .ok (.getfield 11, 3) := by decide +kernel
theorem d_G_running_25 : decode b_G_running 25 = .ok (.iload_n 1, 1) := by decide +kernel
theorem d_G_running_26 : decode b_G_running 26 = .ok (.aaload, 1) := by decide +kernel
theorem d_G_running_27 : decode b_G_running 27 = .ok (.getfield 72, 3) := by decide +kernel
theorem d_G_running_30 : decode b_G_running 30 = .ok (.iload_n 2, 1) := by decide +kernel
theorem d_G_running_31 : decode b_G_running 31 = .ok (.iaload, 1) := by decide +kernel
theorem d_G_running_32 : decode b_G_running 32 = .ok (.ireturn, 1) := by decide +kernel
def v_G_running (u : gm_St) (x : Int32) (y : Int32) : Int32 := (if (v_G_isModule x) = true then (if y < (6 : Int32) then (-1 : Int32) else (if y < (16 : Int32) then (u.2.1 (1 + x.toNatClampNeg) y.toNatClampNeg) else (-1 : Int32))) else (-1 : Int32))
set_option maxRecDepth 100000 in
set_option maxHeartbeats 4000000 in
theorem c_G_running {l : Launch} {D : va_G} {dk : Nat → ClassId} {a : Nat → Nat} {A : Nat → Prop} {lt : Nat} {u : gm_St} {x : Int32} {y : Int32} : gm_I l D (gm_ty dk) (gm_W dk a) A lt y_G_running b_G_running 3 (some .int) rm_G_running [.ref (a 0), .int x, .int y] u (v_G_running u x y) u := by
  refine gm_enterI (by decide) (Nat.le_of_ble_eq_true rfl) ?_
  intro p e s m args below meth c ls Q H locs hF hM hl hQ
  have hx := hF.1
  have hb := hF.2.1
  have hml := hF.2.2.1
  have hown := hF.2.2.2.1
  have hts := hF.2.2.2.2.1
  have hl : lv_has ls 3 [(0, .ref (a 0)), (1, .int x), (2, .int y)] := hl
  refine lv_iload_n hx hb d_G_running_0 rfl (lv_at hl 1 rfl) ?_
  refine gm_Si (As := [.int x]) (rest := []) hF hM (c_G_isModule (u := u) (x := x) ) (gk_G_39 hts ⟨by decide, by decide⟩) rfl hl.1 rfl (Nat.le_of_ble_eq_true rfl) ⟨Nat.zero_le _, Nat.zero_le _⟩ d_G_running_1 (fun H locs hM => ?_)
  refine gm_ifz (b := (v_G_isModule x)) (tgt := 19) hx hb d_G_running_4 rfl (fun h1 => ?_) (fun h1 => ?_)
  · refine lv_iconst (v := -1) hx hb d_G_running_19 (by decide) ?_
    have hq := hQ H locs 20 ls
    simp only [v_G_running, if_neg (gm_nf h1)] at hq
    exact hq hM d_G_running_20
  · have hm_x := (gm_isM h1).1
    have ex_x := (gm_isM h1).2
    refine lv_iload_n hx hb d_G_running_7 rfl (lv_at hl 2 rfl) ?_
    refine lv_bipush (v := 6) hx hb d_G_running_8 (by decide) ?_
    refine lv_icmp_lt (tgt := 19) hx hb d_G_running_10 rfl (fun h2 => ?_) (fun h2 => ?_)
    · refine lv_iconst (v := -1) hx hb d_G_running_19 (by decide) ?_
      have hq := hQ H locs 20 ls
      simp only [v_G_running, if_pos h1, if_pos h2] at hq
      exact hq hM d_G_running_20
    · refine lv_iload_n hx hb d_G_running_13 rfl (lv_at hl 2 rfl) ?_
      refine lv_bipush (v := 16) hx hb d_G_running_14 (by decide) ?_
      refine lv_icmp_lt (tgt := 21) hx hb d_G_running_16 rfl (fun h3 => ?_) (fun h3 => ?_)
      · have hq_y := gm_ix (lo := 6) (n := 16) h2 h3 (by omega) (by omega)
        have hm_y := hq_y.1
        have ex_y := hq_y.2
        refine lv_aload_n hx hb d_G_running_21 rfl (lv_at hl 0 rfl) ?_
        refine gf_G_11 hF hM d_G_running_22 ?_
        refine lv_iload_n hx hb d_G_running_25 rfl (lv_at hl 1 rfl) ?_
        refine ga_mods (k := x.toNatClampNeg) hF hM ex_x (by first | omega | exact Nat.mod_lt _ (by decide)) d_G_running_26 ?_
        refine gf_G_72 hF hM (by omega) d_G_running_27 ?_
        refine lv_iload_n hx hb d_G_running_30 rfl (lv_at hl 2 rfl) ?_
        refine ga_cnt (k := y.toNatClampNeg) hF hM (by omega) ex_y (by first | omega | exact Nat.mod_lt _ (by decide)) d_G_running_31 ?_
        have hq := hQ H locs 32 ls
        simp only [v_G_running, if_pos h1, if_neg h2, if_pos h3] at hq
        exact hq hM d_G_running_32
      · refine lv_iconst (v := -1) hx hb d_G_running_19 (by decide) ?_
        have hq := hQ H locs 20 ls
        simp only [v_G_running, if_pos h1, if_neg h2, if_neg h3] at hq
        exact hq hM d_G_running_20
theorem d_G_lights_0 : decode b_G_lights 0 = .ok (.iconst 0, 1) := by decide +kernel
theorem d_G_lights_1 : decode b_G_lights 1 = .ok (.istore_n 1, 1) := by decide +kernel
theorem d_G_lights_2 : decode b_G_lights 2 = .ok (.iconst 0, 1) := by decide +kernel
theorem d_G_lights_3 : decode b_G_lights 3 = .ok (.istore_n 2, 1) := by decide +kernel
theorem d_G_lights_4 : decode b_G_lights 4 = .ok (.iload_n 2, 1) := by decide +kernel
theorem d_G_lights_5 : decode b_G_lights 5 = .ok (.iconst 2, 1) := by decide +kernel
theorem d_G_lights_6 : decode b_G_lights 6 = .ok (.if_icmp .ge 59, 3) := by decide +kernel
theorem d_G_lights_9 : decode b_G_lights 9 = .ok (.aload_n 0, 1) := by decide +kernel
theorem d_G_lights_10 : decode b_G_lights 10 = .ok (.getfield 11, 3) := by decide +kernel
theorem d_G_lights_13 : decode b_G_lights 13 = .ok (.iload_n 2, 1) := by decide +kernel
theorem d_G_lights_14 : decode b_G_lights 14 = .ok (.aaload, 1) := by decide +kernel
theorem d_G_lights_15 : decode b_G_lights 15 = .ok (.astore_n 3, 1) := by decide +kernel
theorem d_G_lights_16 : decode b_G_lights 16 = .ok (.aload_n 3, 1) := by decide +kernel
theorem d_G_lights_17 : decode b_G_lights 17 = .ok (.getfield 50, 3) := by decide +kernel
theorem d_G_lights_20 : decode b_G_lights 20 = .ok (.ifCond .eq 14, 3) := by decide +kernel
theorem d_G_lights_23 : decode b_G_lights 23 = .ok (.aload_n 3, 1) := by decide +kernel
theorem d_G_lights_24 : decode b_G_lights 24 = .ok (.invokevirtual 76, 3) := by decide +kernel
theorem d_G_lights_27 : decode b_G_lights 27 = .ok (.ifCond .eq 7, 3) := by decide +kernel
theorem d_G_lights_30 : decode b_G_lights 30 = .ok (.iload_n 1, 1) := by decide +kernel
theorem d_G_lights_31 : decode b_G_lights 31 = .ok (.iconst 1, 1) := by decide +kernel
theorem d_G_lights_32 : decode b_G_lights 32 = .ok (.ior, 1) := by decide +kernel
theorem d_G_lights_33 : decode b_G_lights 33 = .ok (.istore_n 1, 1) := by decide +kernel
theorem d_G_lights_34 : decode b_G_lights 34 = .ok (.aload_n 3, 1) := by decide +kernel
theorem d_G_lights_35 : decode b_G_lights 35 = .ok (.getfield 57, 3) := by decide +kernel
theorem d_G_lights_38 : decode b_G_lights 38 = .ok (.bipush 30, 2) := by decide +kernel
theorem d_G_lights_40 : decode b_G_lights 40 = .ok (.iand, 1) := by decide +kernel
theorem d_G_lights_41 : decode b_G_lights 41 = .ok (.ifCond .eq 7, 3) := by decide +kernel
theorem d_G_lights_44 : decode b_G_lights 44 = .ok (.iload_n 1, 1) := by decide +kernel
theorem d_G_lights_45 : decode b_G_lights 45 = .ok (.iconst 2, 1) := by decide +kernel
theorem d_G_lights_46 : decode b_G_lights 46 = .ok (.ior, 1) := by decide +kernel
theorem d_G_lights_47 : decode b_G_lights 47 = .ok (.istore_n 1, 1) := by decide +kernel
theorem d_G_lights_48 : decode b_G_lights 48 = .ok (.aload_n 3, 1) := by decide +kernel
theorem d_G_lights_49 : decode b_G_lights 49 = .ok (.getfield 69, 3) := by decide +kernel
theorem d_G_lights_52 : decode b_G_lights 52 = .ok (.ifCond .eq 7, 3) := by decide +kernel
theorem d_G_lights_55 : decode b_G_lights 55 = .ok (.iload_n 1, 1) := by decide +kernel
theorem d_G_lights_56 : decode b_G_lights 56 = .ok (.iconst 4, 1) := by decide +kernel
theorem d_G_lights_57 : decode b_G_lights 57 = .ok (.ior, 1) := by decide +kernel
theorem d_G_lights_58 : decode b_G_lights 58 = .ok (.istore_n 1, 1) := by decide +kernel
theorem d_G_lights_59 : decode b_G_lights 59 = .ok (.iinc 2 1, 3) := by decide +kernel
theorem d_G_lights_62 : decode b_G_lights 62 = .ok (.goto (-58), 3) := by decide +kernel
theorem d_G_lights_65 : decode b_G_lights 65 = .ok (.iload_n 1, 1) := by decide +kernel
theorem d_G_lights_66 : decode b_G_lights 66 = .ok (.ireturn, 1) := by decide +kernel
def lp_G_lights (u : gm_St) : Nat → Nat → Int32 → Int32
  | 0, _, x => x
  | k + 1, i, x => lp_G_lights u k (i + 1) (if (u.2.1 5 i) = 0 then (if ((u.2.1 3 i) &&& (30 : Int32)) = 0 then (if (u.1 2 i) = true then (if (v_M_gearsAreExtended u i) = true then (x ||| (1 : Int32)) else x) else x) else ((if (u.1 2 i) = true then (if (v_M_gearsAreExtended u i) = true then (x ||| (1 : Int32)) else x) else x) ||| (2 : Int32))) else ((if ((u.2.1 3 i) &&& (30 : Int32)) = 0 then (if (u.1 2 i) = true then (if (v_M_gearsAreExtended u i) = true then (x ||| (1 : Int32)) else x) else x) else ((if (u.1 2 i) = true then (if (v_M_gearsAreExtended u i) = true then (x ||| (1 : Int32)) else x) else x) ||| (2 : Int32))) ||| (4 : Int32)))
def v_G_lights (u : gm_St) : Int32 := (lp_G_lights u 2 0 (0 : Int32))
set_option maxRecDepth 100000 in
set_option maxHeartbeats 4000000 in
theorem c_G_lights {l : Launch} {D : va_G} {dk : Nat → ClassId} {a : Nat → Nat} {A : Nat → Prop} {lt : Nat} {u : gm_St} : gm_I l D (gm_ty dk) (gm_W dk a) A lt y_G_lights b_G_lights 4 (some .int) rm_G_lights [.ref (a 0)] u (v_G_lights u) u := by
  refine gm_enterI (by decide) (Nat.le_of_ble_eq_true rfl) ?_
  intro p e s m args below meth c ls Q H locs hF hM hl hQ
  have hx := hF.1
  have hb := hF.2.1
  have hml := hF.2.2.1
  have hown := hF.2.2.2.1
  have hts := hF.2.2.2.2.1
  have hl : lv_has ls 4 [(0, .ref (a 0))] := hl
  refine lv_iconst (v := 0) hx hb d_G_lights_0 (by decide) ?_
  refine lv_istore_n (lv' := [(1, .int (0 : Int32)), (0, .ref (a 0))]) hx hb d_G_lights_1 rfl hl (by decide) rfl (fun ls hl => ?_)
  refine lv_iconst (v := 0) hx hb d_G_lights_2 (by decide) ?_
  refine lv_istore_n (lv' := [(2, .int (0 : Int32)), (1, .int (0 : Int32)), (0, .ref (a 0))]) hx hb d_G_lights_3 rfl hl (by decide) rfl (fun ls hl => ?_)
  have L1 : ∀ (k1 i1 : Nat) (x1 : Int32) (ls : Array Slot) (H : Heap) (locs : List Loc), i1 + k1 = 2 → lv_has ls 4 [(2, .int (nI i1)), (1, .int x1), (0, .ref (a 0))] → gm_M D A s (gm_W dk a) u H locs → (∀ (ls : Array Slot) (H : Heap) (locs : List Loc), lv_has ls 4 [(2, .int (nI 2)), (1, .int (lp_G_lights u k1 i1 x1)), (0, .ref (a 0))] → gm_M D A s (gm_W dk a) u H locs → W p l e rm_G_lights s m args below meth c H locs 0 0 Q (F0 m 65 ls [])) → W p l e rm_G_lights s m args below meth c H locs 0 0 Q (F0 m 4 ls []) := by
    intro k1
    induction k1 with
    | zero =>
      intro i1 x1 ls H locs hk1 hl hM kk
      obtain rfl : i1 = 2 := by omega
      refine lv_iload_n hx hb d_G_lights_4 rfl (lv_at hl 0 rfl) ?_
      refine lv_iconst (v := 2) hx hb d_G_lights_5 (by decide) ?_
      refine lv_icmp_ge (tgt := 65) hx hb d_G_lights_6 rfl (fun _ => ?_) (fun h => absurd (by decide) h)
      exact kk ls H locs hl hM
    | succ k1 ih =>
      intro i1 x1 ls H locs hk1 hl hM kk
      refine lv_iload_n hx hb d_G_lights_4 rfl (lv_at hl 0 rfl) ?_
      refine lv_iconst (v := 2) hx hb d_G_lights_5 (by decide) ?_
      refine lv_icmp_ge (tgt := 65) hx hb d_G_lights_6 rfl (fun h => absurd h (nI_ge (a := i1) (b := 2) (by omega) (by first | decide | omega))) (fun _ => ?_)
      refine lv_aload_n hx hb d_G_lights_9 rfl (lv_at hl 2 rfl) ?_
      refine gf_G_11 hF hM d_G_lights_10 ?_
      refine lv_iload_n hx hb d_G_lights_13 rfl (lv_at hl 0 rfl) ?_
      refine ga_mods (k := i1) hF hM rfl (by first | omega | exact Nat.mod_lt _ (by decide)) d_G_lights_14 ?_
      refine lv_astore_n (lv' := [(3, .ref (a (3 + i1))), (2, .int (nI i1)), (1, .int x1), (0, .ref (a 0))]) hx hb d_G_lights_15 rfl hl (by decide) rfl (fun ls hl => ?_)
      refine lv_aload_n hx hb d_G_lights_16 rfl (lv_at hl 0 rfl) ?_
      refine gf_G_50 hF hM (by omega) d_G_lights_17 ?_
      have J3 : ∀ (ls : Array Slot) (H : Heap) (locs : List Loc), lv_has ls 4 [(0, .ref (a 0)), (1, .int (if (u.1 2 i1) = true then (if (v_M_gearsAreExtended u i1) = true then (x1 ||| (1 : Int32)) else x1) else x1)), (2, .int (nI i1)), (3, .ref (a (3 + i1)))] → gm_M D A s (gm_W dk a) u H locs → W p l e rm_G_lights s m args below meth c H locs 0 0 Q (F0 m 34 ls []) := by
        intro ls H locs hl hM
        refine lv_aload_n hx hb d_G_lights_34 rfl (lv_at hl 3 rfl) ?_
        refine gf_G_57 hF hM (by omega) d_G_lights_35 ?_
        refine lv_bipush (v := 30) hx hb d_G_lights_38 (by decide) ?_
        refine lv_iand hx hb d_G_lights_40 ?_
        have J5 : ∀ (ls : Array Slot) (H : Heap) (locs : List Loc), lv_has ls 4 [(0, .ref (a 0)), (1, .int (if ((u.2.1 3 i1) &&& (30 : Int32)) = 0 then (if (u.1 2 i1) = true then (if (v_M_gearsAreExtended u i1) = true then (x1 ||| (1 : Int32)) else x1) else x1) else ((if (u.1 2 i1) = true then (if (v_M_gearsAreExtended u i1) = true then (x1 ||| (1 : Int32)) else x1) else x1) ||| (2 : Int32)))), (2, .int (nI i1)), (3, .ref (a (3 + i1)))] → gm_M D A s (gm_W dk a) u H locs → W p l e rm_G_lights s m args below meth c H locs 0 0 Q (F0 m 48 ls []) := by
          intro ls H locs hl hM
          refine lv_aload_n hx hb d_G_lights_48 rfl (lv_at hl 3 rfl) ?_
          refine gf_G_69 hF hM (by omega) d_G_lights_49 ?_
          have J7 : ∀ (ls : Array Slot) (H : Heap) (locs : List Loc), lv_has ls 4 [(0, .ref (a 0)), (1, .int (if (u.2.1 5 i1) = 0 then (if ((u.2.1 3 i1) &&& (30 : Int32)) = 0 then (if (u.1 2 i1) = true then (if (v_M_gearsAreExtended u i1) = true then (x1 ||| (1 : Int32)) else x1) else x1) else ((if (u.1 2 i1) = true then (if (v_M_gearsAreExtended u i1) = true then (x1 ||| (1 : Int32)) else x1) else x1) ||| (2 : Int32))) else ((if ((u.2.1 3 i1) &&& (30 : Int32)) = 0 then (if (u.1 2 i1) = true then (if (v_M_gearsAreExtended u i1) = true then (x1 ||| (1 : Int32)) else x1) else x1) else ((if (u.1 2 i1) = true then (if (v_M_gearsAreExtended u i1) = true then (x1 ||| (1 : Int32)) else x1) else x1) ||| (2 : Int32))) ||| (4 : Int32)))), (2, .int (nI i1)), (3, .ref (a (3 + i1)))] → gm_M D A s (gm_W dk a) u H locs → W p l e rm_G_lights s m args below meth c H locs 0 0 Q (F0 m 59 ls []) := by
            intro ls H locs hl hM
            refine lv_iinc (k := 2) (v := (nI (i1 + 1))) (lv' := [(2, .int (nI (i1 + 1))), (0, .ref (a 0)), (1, .int (if (u.2.1 5 i1) = 0 then (if ((u.2.1 3 i1) &&& (30 : Int32)) = 0 then (if (u.1 2 i1) = true then (if (v_M_gearsAreExtended u i1) = true then (x1 ||| (1 : Int32)) else x1) else x1) else ((if (u.1 2 i1) = true then (if (v_M_gearsAreExtended u i1) = true then (x1 ||| (1 : Int32)) else x1) else x1) ||| (2 : Int32))) else ((if ((u.2.1 3 i1) &&& (30 : Int32)) = 0 then (if (u.1 2 i1) = true then (if (v_M_gearsAreExtended u i1) = true then (x1 ||| (1 : Int32)) else x1) else x1) else ((if (u.1 2 i1) = true then (if (v_M_gearsAreExtended u i1) = true then (x1 ||| (1 : Int32)) else x1) else x1) ||| (2 : Int32))) ||| (4 : Int32)))), (3, .ref (a (3 + i1)))]) hx hb d_G_lights_59 hl rfl (nI_1 _) (by decide) rfl (fun ls hl => ?_)
            refine lv_goto (tgt := 4) hx hb d_G_lights_62 rfl ?_
            have hK := kk
            simp only [lp_G_lights] at hK
            exact ih (i1 + 1) (if (u.2.1 5 i1) = 0 then (if ((u.2.1 3 i1) &&& (30 : Int32)) = 0 then (if (u.1 2 i1) = true then (if (v_M_gearsAreExtended u i1) = true then (x1 ||| (1 : Int32)) else x1) else x1) else ((if (u.1 2 i1) = true then (if (v_M_gearsAreExtended u i1) = true then (x1 ||| (1 : Int32)) else x1) else x1) ||| (2 : Int32))) else ((if ((u.2.1 3 i1) &&& (30 : Int32)) = 0 then (if (u.1 2 i1) = true then (if (v_M_gearsAreExtended u i1) = true then (x1 ||| (1 : Int32)) else x1) else x1) else ((if (u.1 2 i1) = true then (if (v_M_gearsAreExtended u i1) = true then (x1 ||| (1 : Int32)) else x1) else x1) ||| (2 : Int32))) ||| (4 : Int32))) ls H locs (by omega) (lv_sub hl [0, 2, 1] rfl) hM hK
          refine lv_if_eq (tgt := 59) hx hb d_G_lights_52 rfl (fun h6 => ?_) (fun h6 => ?_)
          · have hJ := J7
            try simp only [if_pos h6] at hJ
            exact hJ ls H locs hl hM
          · refine lv_iload_n hx hb d_G_lights_55 rfl (lv_at hl 1 rfl) ?_
            refine lv_iconst (v := 4) hx hb d_G_lights_56 (by decide) ?_
            refine lv_ior hx hb d_G_lights_57 ?_
            refine lv_istore_n (lv' := [(1, .int ((if ((u.2.1 3 i1) &&& (30 : Int32)) = 0 then (if (u.1 2 i1) = true then (if (v_M_gearsAreExtended u i1) = true then (x1 ||| (1 : Int32)) else x1) else x1) else ((if (u.1 2 i1) = true then (if (v_M_gearsAreExtended u i1) = true then (x1 ||| (1 : Int32)) else x1) else x1) ||| (2 : Int32))) ||| (4 : Int32))), (0, .ref (a 0)), (2, .int (nI i1)), (3, .ref (a (3 + i1)))]) hx hb d_G_lights_58 rfl hl (by decide) rfl (fun ls hl => ?_)
            have hJ := J7
            try simp only [if_neg h6] at hJ
            exact hJ ls H locs (lv_sub hl [1, 0, 2, 3] rfl) hM
        refine lv_if_eq (tgt := 48) hx hb d_G_lights_41 rfl (fun h4 => ?_) (fun h4 => ?_)
        · have hJ := J5
          try simp only [if_pos h4] at hJ
          exact hJ ls H locs hl hM
        · refine lv_iload_n hx hb d_G_lights_44 rfl (lv_at hl 1 rfl) ?_
          refine lv_iconst (v := 2) hx hb d_G_lights_45 (by decide) ?_
          refine lv_ior hx hb d_G_lights_46 ?_
          refine lv_istore_n (lv' := [(1, .int ((if (u.1 2 i1) = true then (if (v_M_gearsAreExtended u i1) = true then (x1 ||| (1 : Int32)) else x1) else x1) ||| (2 : Int32))), (0, .ref (a 0)), (2, .int (nI i1)), (3, .ref (a (3 + i1)))]) hx hb d_G_lights_47 rfl hl (by decide) rfl (fun ls hl => ?_)
          have hJ := J5
          try simp only [if_neg h4] at hJ
          exact hJ ls H locs (lv_sub hl [1, 0, 2, 3] rfl) hM
      refine gm_ifz (b := (u.1 2 i1)) (tgt := 34) hx hb d_G_lights_20 rfl (fun h2 => ?_) (fun h2 => ?_)
      · have hJ := J3
        try simp only [if_neg (gm_nf h2)] at hJ
        exact hJ ls H locs (lv_sub hl [3, 2, 1, 0] rfl) hM
      · refine lv_aload_n hx hb d_G_lights_23 rfl (lv_at hl 0 rfl) ?_
        refine gm_Vi (As := []) (rest := []) hF hM (c_M_gearsAreExtended (u := u) (m := i1) (by omega)) (gk_G_76 hts ⟨by decide, by decide⟩) (gv_M hF hM (by omega) rfl) rfl hl.1 rfl (Nat.le_of_ble_eq_true rfl) ⟨Nat.zero_le _, Nat.zero_le _⟩ d_G_lights_24 (fun H locs hM => ?_)
        refine gm_ifz (b := (v_M_gearsAreExtended u i1)) (tgt := 34) hx hb d_G_lights_27 rfl (fun h8 => ?_) (fun h8 => ?_)
        · have hJ := J3
          try simp only [if_pos h2, if_neg (gm_nf h8)] at hJ
          exact hJ ls H locs (lv_sub hl [3, 2, 1, 0] rfl) hM
        · refine lv_iload_n hx hb d_G_lights_30 rfl (lv_at hl 2 rfl) ?_
          refine lv_iconst (v := 1) hx hb d_G_lights_31 (by decide) ?_
          refine lv_ior hx hb d_G_lights_32 ?_
          refine lv_istore_n (lv' := [(1, .int (x1 ||| (1 : Int32))), (3, .ref (a (3 + i1))), (2, .int (nI i1)), (0, .ref (a 0))]) hx hb d_G_lights_33 rfl hl (by decide) rfl (fun ls hl => ?_)
          have hJ := J3
          try simp only [if_pos h2, if_pos h8] at hJ
          exact hJ ls H locs (lv_sub hl [3, 0, 2, 1] rfl) hM
  refine L1 2 0 (0 : Int32) ls H locs (by omega) hl hM (fun ls H locs hl hM => ?_)
  refine lv_iload_n hx hb d_G_lights_65 rfl (lv_at hl 1 rfl) ?_
  have hq := hQ H locs 66 ls
  simp only [v_G_lights] at hq
  exact hq hM d_G_lights_66
