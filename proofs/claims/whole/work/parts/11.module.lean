theorem d_M_isOn_0 : decode b_M_isOn 0 = .ok (.aload_n 0, 1) := by decide +kernel
theorem d_M_isOn_1 : decode b_M_isOn 1 = .ok (.getfield 11, 3) := by decide +kernel
theorem d_M_isOn_4 : decode b_M_isOn 4 = .ok (.iload_n 1, 1) := by decide +kernel
theorem d_M_isOn_5 : decode b_M_isOn 5 = .ok (.aaload, 1) := by decide +kernel
theorem d_M_isOn_6 : decode b_M_isOn 6 = .ok (.getfield 102, 3) := by decide +kernel
theorem d_M_isOn_9 : decode b_M_isOn 9 = .ok (.ireturn, 1) := by decide +kernel
def v_M_isOn (u : gm_St) (m : Nat) (sn : Nat) : Bool := (u.1 0 (6 * m + sn))
set_option maxRecDepth 100000 in
set_option maxHeartbeats 4000000 in
theorem c_M_isOn {l : Launch} {D : va_G} {dk : Nat → ClassId} {a : Nat → Nat} {A : Nat → Prop} {lt : Nat} {u : gm_St} {m : Nat} {sn : Nat} (hm : m < 2) (h_sn : sn < 6) : gm_I l D (gm_ty dk) (gm_W dk a) A lt y_M_isOn b_M_isOn 2 (some .boolean) rm_M_isOn [.ref (a (3 + m)), .int (nI sn)] u (gm_b (v_M_isOn u m sn)) u := by
  refine gm_enterZ (by decide) (Nat.le_of_ble_eq_true rfl) ?_
  intro p e s mm args below meth c ls Q H locs hF hM hl hQ
  have hx := hF.1
  have hb := hF.2.1
  have hml := hF.2.2.1
  have hown := hF.2.2.2.1
  have hts := hF.2.2.2.2.1
  have hl : lv_has ls 2 [(0, .ref (a (3 + m))), (1, .int (nI sn))] := hl
  refine lv_aload_n hx hb d_M_isOn_0 rfl (lv_at hl 0 rfl) ?_
  refine gf_M_11 hF hM (by omega) d_M_isOn_1 ?_
  refine lv_iload_n hx hb d_M_isOn_4 rfl (lv_at hl 1 rfl) ?_
  refine ga_sens (k := sn) hF hM (by omega) rfl (by omega) d_M_isOn_5 ?_
  refine gf_M_102 hF hM (by omega) d_M_isOn_6 ?_
  have hq := hQ H locs 9 ls
  simp only [v_M_isOn] at hq
  exact hq hM d_M_isOn_9
theorem d_M_isSwitchedOn_0 : decode b_M_isSwitchedOn 0 = .ok (.aload_n 0, 1) := by decide +kernel
theorem d_M_isSwitchedOn_1 : decode b_M_isSwitchedOn 1 = .ok (.getfield 35, 3) := by decide +kernel
theorem d_M_isSwitchedOn_4 : decode b_M_isSwitchedOn 4 = .ok (.iload_n 1, 1) := by decide +kernel
theorem d_M_isSwitchedOn_5 : decode b_M_isSwitchedOn 5 = .ok (.iand, 1) := by decide +kernel
theorem d_M_isSwitchedOn_6 : decode b_M_isSwitchedOn 6 = .ok (.ifCond .eq 7, 3) := by decide +kernel
theorem d_M_isSwitchedOn_9 : decode b_M_isSwitchedOn 9 = .ok (.iconst 1, 1) := by decide +kernel
theorem d_M_isSwitchedOn_10 : decode b_M_isSwitchedOn 10 = .ok (.goto 4, 3) := by decide +kernel
theorem d_M_isSwitchedOn_13 : decode b_M_isSwitchedOn 13 = .ok (.iconst 0, 1) := by decide +kernel
theorem d_M_isSwitchedOn_14 : decode b_M_isSwitchedOn 14 = .ok (.ireturn, 1) := by decide +kernel
def v_M_isSwitchedOn (u : gm_St) (m : Nat) (vn : Int32) : Bool := (if ((u.2.1 3 m) &&& vn) = 0 then false else true)
set_option maxRecDepth 100000 in
set_option maxHeartbeats 4000000 in
theorem c_M_isSwitchedOn {l : Launch} {D : va_G} {dk : Nat → ClassId} {a : Nat → Nat} {A : Nat → Prop} {lt : Nat} {u : gm_St} {m : Nat} {vn : Int32} (hm : m < 2) : gm_I l D (gm_ty dk) (gm_W dk a) A lt y_M_isSwitchedOn b_M_isSwitchedOn 2 (some .boolean) rm_M_isSwitchedOn [.ref (a (3 + m)), .int vn] u (gm_b (v_M_isSwitchedOn u m vn)) u := by
  refine gm_enterZ (by decide) (Nat.le_of_ble_eq_true rfl) ?_
  intro p e s mm args below meth c ls Q H locs hF hM hl hQ
  have hx := hF.1
  have hb := hF.2.1
  have hml := hF.2.2.1
  have hown := hF.2.2.2.1
  have hts := hF.2.2.2.2.1
  have hl : lv_has ls 2 [(0, .ref (a (3 + m))), (1, .int vn)] := hl
  refine lv_aload_n hx hb d_M_isSwitchedOn_0 rfl (lv_at hl 0 rfl) ?_
  refine gf_M_35 hF hM (by omega) d_M_isSwitchedOn_1 ?_
  refine lv_iload_n hx hb d_M_isSwitchedOn_4 rfl (lv_at hl 1 rfl) ?_
  refine lv_iand hx hb d_M_isSwitchedOn_5 ?_
  have J2 : ∀ (ls : Array Slot) (H : Heap) (locs : List Loc), lv_has ls 2 [(0, .ref (a (3 + m))), (1, .int vn)] → gm_M D A s (gm_W dk a) u H locs → W p l e rm_M_isSwitchedOn s mm args below meth c H locs 0 0 Q (F0 mm 14 ls [.int (gm_b (if ((u.2.1 3 m) &&& vn) = 0 then false else true))]) := by
    intro ls H locs hl hM
    have hq := hQ H locs 14 ls
    simp only [v_M_isSwitchedOn] at hq
    exact hq hM d_M_isSwitchedOn_14
  refine lv_if_eq (tgt := 13) hx hb d_M_isSwitchedOn_6 rfl (fun h1 => ?_) (fun h1 => ?_)
  · refine lv_iconst (v := 0) hx hb d_M_isSwitchedOn_13 (by decide) ?_
    have hJ := J2
    try simp only [if_pos h1] at hJ
    exact hJ ls H locs hl hM
  · refine lv_iconst (v := 1) hx hb d_M_isSwitchedOn_9 (by decide) ?_
    refine lv_goto (tgt := 14) hx hb d_M_isSwitchedOn_10 rfl ?_
    have hJ := J2
    try simp only [if_neg h1] at hJ
    exact hJ ls H locs hl hM
theorem d_M_gearsAreExtended_0 : decode b_M_gearsAreExtended 0 = .ok (.aload_n 0, 1) := by decide +kernel
theorem d_M_gearsAreExtended_1 : decode b_M_gearsAreExtended 1 = .ok (.iconst 0, 1) := by decide +kernel
theorem d_M_gearsAreExtended_2 : decode b_M_gearsAreExtended 2 = .ok (.invokevirtual 78, 3) := by decide +kernel
theorem d_M_gearsAreExtended_5 : decode b_M_gearsAreExtended 5 = .ok (.ifCond .eq 15, 3) := by decide +kernel
theorem d_M_gearsAreExtended_8 : decode b_M_gearsAreExtended 8 = .ok (.aload_n 0, 1) := by decide +kernel
theorem d_M_gearsAreExtended_9 : decode b_M_gearsAreExtended 9 = .ok (.iconst 1, 1) := by decide +kernel
theorem d_M_gearsAreExtended_10 : decode b_M_gearsAreExtended 10 = .ok (.invokevirtual 78, 3) := by decide +kernel
theorem d_M_gearsAreExtended_13 : decode b_M_gearsAreExtended 13 = .ok (.ifCond .ne 7, 3) := by decide +kernel
theorem d_M_gearsAreExtended_16 : decode b_M_gearsAreExtended 16 = .ok (.iconst 1, 1) := by decide +kernel
theorem d_M_gearsAreExtended_17 : decode b_M_gearsAreExtended 17 = .ok (.goto 4, 3) := by decide +kernel
theorem d_M_gearsAreExtended_20 : decode b_M_gearsAreExtended 20 = .ok (.iconst 0, 1) := by decide +kernel
theorem d_M_gearsAreExtended_21 : decode b_M_gearsAreExtended 21 = .ok (.ireturn, 1) := by decide +kernel
def v_M_gearsAreExtended (u : gm_St) (m : Nat) : Bool := (if (v_M_isOn u m 0) = true then (if (v_M_isOn u m 1) = true then false else true) else false)
set_option maxRecDepth 100000 in
set_option maxHeartbeats 4000000 in
theorem c_M_gearsAreExtended {l : Launch} {D : va_G} {dk : Nat → ClassId} {a : Nat → Nat} {A : Nat → Prop} {lt : Nat} {u : gm_St} {m : Nat} (hm : m < 2) : gm_I l D (gm_ty dk) (gm_W dk a) A lt y_M_gearsAreExtended b_M_gearsAreExtended 1 (some .boolean) rm_M_gearsAreExtended [.ref (a (3 + m))] u (gm_b (v_M_gearsAreExtended u m)) u := by
  refine gm_enterZ (by decide) (Nat.le_of_ble_eq_true rfl) ?_
  intro p e s mm args below meth c ls Q H locs hF hM hl hQ
  have hx := hF.1
  have hb := hF.2.1
  have hml := hF.2.2.1
  have hown := hF.2.2.2.1
  have hts := hF.2.2.2.2.1
  have hl : lv_has ls 1 [(0, .ref (a (3 + m)))] := hl
  refine lv_aload_n hx hb d_M_gearsAreExtended_0 rfl (lv_at hl 0 rfl) ?_
  refine lv_iconst (v := 0) hx hb d_M_gearsAreExtended_1 (by decide) ?_
  refine gm_Vi (As := [.int (nI 0)]) (rest := []) hF hM (c_M_isOn (u := u) (m := m) (sn := 0) (by omega) (by omega)) (gk_M_78 hts ⟨by decide, by decide⟩) (gv_M hF hM (by omega) rfl) rfl hl.1 rfl (Nat.le_of_ble_eq_true rfl) ⟨Nat.zero_le _, Nat.zero_le _⟩ d_M_gearsAreExtended_2 (fun H locs hM => ?_)
  have J2 : ∀ (ls : Array Slot) (H : Heap) (locs : List Loc), lv_has ls 1 [(0, .ref (a (3 + m)))] → gm_M D A s (gm_W dk a) u H locs → W p l e rm_M_gearsAreExtended s mm args below meth c H locs 0 0 Q (F0 mm 21 ls [.int (gm_b (if (v_M_isOn u m 0) = true then (if (v_M_isOn u m 1) = true then false else true) else false))]) := by
    intro ls H locs hl hM
    have hq := hQ H locs 21 ls
    simp only [v_M_gearsAreExtended] at hq
    exact hq hM d_M_gearsAreExtended_21
  refine gm_ifz (b := (v_M_isOn u m 0)) (tgt := 20) hx hb d_M_gearsAreExtended_5 rfl (fun h1 => ?_) (fun h1 => ?_)
  · refine lv_iconst (v := 0) hx hb d_M_gearsAreExtended_20 (by decide) ?_
    have hJ := J2
    try simp only [if_neg (gm_nf h1)] at hJ
    exact hJ ls H locs hl hM
  · refine lv_aload_n hx hb d_M_gearsAreExtended_8 rfl (lv_at hl 0 rfl) ?_
    refine lv_iconst (v := 1) hx hb d_M_gearsAreExtended_9 (by decide) ?_
    refine gm_Vi (As := [.int (nI 1)]) (rest := []) hF hM (c_M_isOn (u := u) (m := m) (sn := 1) (by omega) (by omega)) (gk_M_78 hts ⟨by decide, by decide⟩) (gv_M hF hM (by omega) rfl) rfl hl.1 rfl (Nat.le_of_ble_eq_true rfl) ⟨Nat.zero_le _, Nat.zero_le _⟩ d_M_gearsAreExtended_10 (fun H locs hM => ?_)
    refine gm_ifn (b := (v_M_isOn u m 1)) (tgt := 20) hx hb d_M_gearsAreExtended_13 rfl (fun h3 => ?_) (fun h3 => ?_)
    · refine lv_iconst (v := 0) hx hb d_M_gearsAreExtended_20 (by decide) ?_
      have hJ := J2
      try simp only [if_pos h1, if_pos h3] at hJ
      exact hJ ls H locs hl hM
    · refine lv_iconst (v := 1) hx hb d_M_gearsAreExtended_16 (by decide) ?_
      refine lv_goto (tgt := 21) hx hb d_M_gearsAreExtended_17 rfl ?_
      have hJ := J2
      try simp only [if_pos h1, if_neg (gm_nf h3)] at hJ
      exact hJ ls H locs hl hM
theorem d_M_gearsAreRetracted_0 : decode b_M_gearsAreRetracted 0 = .ok (.aload_n 0, 1) := by decide +kernel
theorem d_M_gearsAreRetracted_1 : decode b_M_gearsAreRetracted 1 = .ok (.iconst 1, 1) := by decide +kernel
theorem d_M_gearsAreRetracted_2 : decode b_M_gearsAreRetracted 2 = .ok (.invokevirtual 78, 3) := by decide +kernel
theorem d_M_gearsAreRetracted_5 : decode b_M_gearsAreRetracted 5 = .ok (.ifCond .eq 15, 3) := by decide +kernel
theorem d_M_gearsAreRetracted_8 : decode b_M_gearsAreRetracted 8 = .ok (.aload_n 0, 1) := by decide +kernel
theorem d_M_gearsAreRetracted_9 : decode b_M_gearsAreRetracted 9 = .ok (.iconst 0, 1) := by decide +kernel
theorem d_M_gearsAreRetracted_10 : decode b_M_gearsAreRetracted 10 = .ok (.invokevirtual 78, 3) := by decide +kernel
theorem d_M_gearsAreRetracted_13 : decode b_M_gearsAreRetracted 13 = .ok (.ifCond .ne 7, 3) := by decide +kernel
theorem d_M_gearsAreRetracted_16 : decode b_M_gearsAreRetracted 16 = .ok (.iconst 1, 1) := by decide +kernel
theorem d_M_gearsAreRetracted_17 : decode b_M_gearsAreRetracted 17 = .ok (.goto 4, 3) := by decide +kernel
theorem d_M_gearsAreRetracted_20 : decode b_M_gearsAreRetracted 20 = .ok (.iconst 0, 1) := by decide +kernel
theorem d_M_gearsAreRetracted_21 : decode b_M_gearsAreRetracted 21 = .ok (.ireturn, 1) := by decide +kernel
def v_M_gearsAreRetracted (u : gm_St) (m : Nat) : Bool := (if (v_M_isOn u m 1) = true then (if (v_M_isOn u m 0) = true then false else true) else false)
set_option maxRecDepth 100000 in
set_option maxHeartbeats 4000000 in
theorem c_M_gearsAreRetracted {l : Launch} {D : va_G} {dk : Nat → ClassId} {a : Nat → Nat} {A : Nat → Prop} {lt : Nat} {u : gm_St} {m : Nat} (hm : m < 2) : gm_I l D (gm_ty dk) (gm_W dk a) A lt y_M_gearsAreRetracted b_M_gearsAreRetracted 1 (some .boolean) rm_M_gearsAreRetracted [.ref (a (3 + m))] u (gm_b (v_M_gearsAreRetracted u m)) u := by
  refine gm_enterZ (by decide) (Nat.le_of_ble_eq_true rfl) ?_
  intro p e s mm args below meth c ls Q H locs hF hM hl hQ
  have hx := hF.1
  have hb := hF.2.1
  have hml := hF.2.2.1
  have hown := hF.2.2.2.1
  have hts := hF.2.2.2.2.1
  have hl : lv_has ls 1 [(0, .ref (a (3 + m)))] := hl
  refine lv_aload_n hx hb d_M_gearsAreRetracted_0 rfl (lv_at hl 0 rfl) ?_
  refine lv_iconst (v := 1) hx hb d_M_gearsAreRetracted_1 (by decide) ?_
  refine gm_Vi (As := [.int (nI 1)]) (rest := []) hF hM (c_M_isOn (u := u) (m := m) (sn := 1) (by omega) (by omega)) (gk_M_78 hts ⟨by decide, by decide⟩) (gv_M hF hM (by omega) rfl) rfl hl.1 rfl (Nat.le_of_ble_eq_true rfl) ⟨Nat.zero_le _, Nat.zero_le _⟩ d_M_gearsAreRetracted_2 (fun H locs hM => ?_)
  have J2 : ∀ (ls : Array Slot) (H : Heap) (locs : List Loc), lv_has ls 1 [(0, .ref (a (3 + m)))] → gm_M D A s (gm_W dk a) u H locs → W p l e rm_M_gearsAreRetracted s mm args below meth c H locs 0 0 Q (F0 mm 21 ls [.int (gm_b (if (v_M_isOn u m 1) = true then (if (v_M_isOn u m 0) = true then false else true) else false))]) := by
    intro ls H locs hl hM
    have hq := hQ H locs 21 ls
    simp only [v_M_gearsAreRetracted] at hq
    exact hq hM d_M_gearsAreRetracted_21
  refine gm_ifz (b := (v_M_isOn u m 1)) (tgt := 20) hx hb d_M_gearsAreRetracted_5 rfl (fun h1 => ?_) (fun h1 => ?_)
  · refine lv_iconst (v := 0) hx hb d_M_gearsAreRetracted_20 (by decide) ?_
    have hJ := J2
    try simp only [if_neg (gm_nf h1)] at hJ
    exact hJ ls H locs hl hM
  · refine lv_aload_n hx hb d_M_gearsAreRetracted_8 rfl (lv_at hl 0 rfl) ?_
    refine lv_iconst (v := 0) hx hb d_M_gearsAreRetracted_9 (by decide) ?_
    refine gm_Vi (As := [.int (nI 0)]) (rest := []) hF hM (c_M_isOn (u := u) (m := m) (sn := 0) (by omega) (by omega)) (gk_M_78 hts ⟨by decide, by decide⟩) (gv_M hF hM (by omega) rfl) rfl hl.1 rfl (Nat.le_of_ble_eq_true rfl) ⟨Nat.zero_le _, Nat.zero_le _⟩ d_M_gearsAreRetracted_10 (fun H locs hM => ?_)
    refine gm_ifn (b := (v_M_isOn u m 0)) (tgt := 20) hx hb d_M_gearsAreRetracted_13 rfl (fun h3 => ?_) (fun h3 => ?_)
    · refine lv_iconst (v := 0) hx hb d_M_gearsAreRetracted_20 (by decide) ?_
      have hJ := J2
      try simp only [if_pos h1, if_pos h3] at hJ
      exact hJ ls H locs hl hM
    · refine lv_iconst (v := 1) hx hb d_M_gearsAreRetracted_16 (by decide) ?_
      refine lv_goto (tgt := 21) hx hb d_M_gearsAreRetracted_17 rfl ?_
      have hJ := J2
      try simp only [if_pos h1, if_neg (gm_nf h3)] at hJ
      exact hJ ls H locs hl hM
theorem d_M_endWait_0 : decode b_M_endWait 0 = .ok (.aload_n 0, 1) := by decide +kernel
theorem d_M_endWait_1 : decode b_M_endWait 1 = .ok (.iconst 0, 1) := by decide +kernel
theorem d_M_endWait_2 : decode b_M_endWait 2 = .ok (.putfield 29, 3) := by decide +kernel
theorem d_M_endWait_5 : decode b_M_endWait 5 = .ok (.aload_n 0, 1) := by decide +kernel
theorem d_M_endWait_6 : decode b_M_endWait 6 = .ok (.getfield 17, 3) := by decide +kernel
theorem d_M_endWait_9 : decode b_M_endWait 9 = .ok (.bipush 14, 2) := by decide +kernel
theorem d_M_endWait_11 : decode b_M_endWait 11 = .ok (.iconst 0, 1) := by decide +kernel
theorem d_M_endWait_12 : decode b_M_endWait 12 = .ok (.iastore, 1) := by decide +kernel
theorem d_M_endWait_13 : decode b_M_endWait 13 = .ok (.return_, 1) := by decide +kernel
def s_M_endWait (u : gm_St) (m : Nat) : gm_St := (gm_sG (gm_sB u 3 m false) (1 + m) 14 (0 : Int32))
set_option maxRecDepth 100000 in
set_option maxHeartbeats 4000000 in
theorem c_M_endWait {l : Launch} {D : va_G} {dk : Nat → ClassId} {a : Nat → Nat} {A : Nat → Prop} {lt : Nat} {u : gm_St} {m : Nat} (hm : m < 2) : gm_V l D (gm_ty dk) (gm_W dk a) A lt y_M_endWait b_M_endWait 1 rm_M_endWait [.ref (a (3 + m))] u (s_M_endWait u m) := by
  refine gm_enterV (by decide) (Nat.le_of_ble_eq_true rfl) ?_
  intro p e s mm args below meth c ls Q H locs hF hM hl hQ
  have hx := hF.1
  have hb := hF.2.1
  have hml := hF.2.2.1
  have hown := hF.2.2.2.1
  have hts := hF.2.2.2.2.1
  have hl : lv_has ls 1 [(0, .ref (a (3 + m)))] := hl
  refine lv_aload_n hx hb d_M_endWait_0 rfl (lv_at hl 0 rfl) ?_
  refine lv_iconst (v := 0) hx hb d_M_endWait_1 (by decide) ?_
  refine gp_M_29 hF hM (by omega) (x := false) rfl d_M_endWait_2 (fun H locs hM => ?_)
  refine lv_aload_n hx hb d_M_endWait_5 rfl (lv_at hl 0 rfl) ?_
  refine gf_M_17 hF hM (by omega) d_M_endWait_6 ?_
  refine lv_bipush (v := 14) hx hb d_M_endWait_9 (by decide) ?_
  refine lv_iconst (v := 0) hx hb d_M_endWait_11 (by decide) ?_
  refine gq_cnt (k := 14) hF hM (by omega) rfl (by omega) d_M_endWait_12 (fun H locs hM => ?_)
  have hq := hQ H locs 13 ls
  simp only [s_M_endWait] at hq
  exact hq hM d_M_endWait_13
theorem d_M_beginWait_0 : decode b_M_beginWait 0 = .ok (.aload_n 0, 1) := by decide +kernel
theorem d_M_beginWait_1 : decode b_M_beginWait 1 = .ok (.aload_n 0, 1) := by decide +kernel
theorem d_M_beginWait_2 : decode b_M_beginWait 2 = .ok (.getfield 21, 3) := by decide +kernel
theorem d_M_beginWait_5 : decode b_M_beginWait 5 = .ok (.putfield 29, 3) := by decide +kernel
theorem d_M_beginWait_8 : decode b_M_beginWait 8 = .ok (.aload_n 0, 1) := by decide +kernel
theorem d_M_beginWait_9 : decode b_M_beginWait 9 = .ok (.getfield 17, 3) := by decide +kernel
theorem d_M_beginWait_12 : decode b_M_beginWait 12 = .ok (.bipush 14, 2) := by decide +kernel
theorem d_M_beginWait_14 : decode b_M_beginWait 14 = .ok (.iconst 0, 1) := by decide +kernel
theorem d_M_beginWait_15 : decode b_M_beginWait 15 = .ok (.iastore, 1) := by decide +kernel
theorem d_M_beginWait_16 : decode b_M_beginWait 16 = .ok (.return_, 1) := by decide +kernel
def s_M_beginWait (u : gm_St) (m : Nat) : gm_St := (gm_sG (gm_sB u 3 m (u.1 2 m)) (1 + m) 14 (0 : Int32))
set_option maxRecDepth 100000 in
set_option maxHeartbeats 4000000 in
theorem c_M_beginWait {l : Launch} {D : va_G} {dk : Nat → ClassId} {a : Nat → Nat} {A : Nat → Prop} {lt : Nat} {u : gm_St} {m : Nat} (hm : m < 2) : gm_V l D (gm_ty dk) (gm_W dk a) A lt y_M_beginWait b_M_beginWait 1 rm_M_beginWait [.ref (a (3 + m))] u (s_M_beginWait u m) := by
  refine gm_enterV (by decide) (Nat.le_of_ble_eq_true rfl) ?_
  intro p e s mm args below meth c ls Q H locs hF hM hl hQ
  have hx := hF.1
  have hb := hF.2.1
  have hml := hF.2.2.1
  have hown := hF.2.2.2.1
  have hts := hF.2.2.2.2.1
  have hl : lv_has ls 1 [(0, .ref (a (3 + m)))] := hl
  refine lv_aload_n hx hb d_M_beginWait_0 rfl (lv_at hl 0 rfl) ?_
  refine lv_aload_n hx hb d_M_beginWait_1 rfl (lv_at hl 0 rfl) ?_
  refine gf_M_21 hF hM (by omega) d_M_beginWait_2 ?_
  refine gp_M_29 hF hM (by omega) (x := (u.1 2 m)) rfl d_M_beginWait_5 (fun H locs hM => ?_)
  refine lv_aload_n hx hb d_M_beginWait_8 rfl (lv_at hl 0 rfl) ?_
  refine gf_M_17 hF hM (by omega) d_M_beginWait_9 ?_
  refine lv_bipush (v := 14) hx hb d_M_beginWait_12 (by decide) ?_
  refine lv_iconst (v := 0) hx hb d_M_beginWait_14 (by decide) ?_
  refine gq_cnt (k := 14) hF hM (by omega) rfl (by omega) d_M_beginWait_15 (fun H locs hM => ?_)
  have hq := hQ H locs 16 ls
  simp only [s_M_beginWait] at hq
  exact hq hM d_M_beginWait_16
theorem d_M_stop_0 : decode b_M_stop 0 = .ok (.aload_n 0, 1) := by decide +kernel
theorem d_M_stop_1 : decode b_M_stop 1 = .ok (.getfield 21, 3) := by decide +kernel
theorem d_M_stop_4 : decode b_M_stop 4 = .ok (.ifCond .ne 5, 3) := by decide +kernel
theorem d_M_stop_7 : decode b_M_stop 7 = .ok (.iconst 0, 1) := by decide +kernel
theorem d_M_stop_8 : decode b_M_stop 8 = .ok (.ireturn, 1) := by decide +kernel
theorem d_M_stop_9 : decode b_M_stop 9 = .ok (.aload_n 0, 1) := by decide +kernel
theorem d_M_stop_10 : decode b_M_stop 10 = .ok (.iconst 0, 1) := by decide +kernel
theorem d_M_stop_11 : decode b_M_stop 11 = .ok (.putfield 21, 3) := by decide +kernel
theorem d_M_stop_14 : decode b_M_stop 14 = .ok (.aload_n 0, 1) := by decide +kernel
theorem d_M_stop_15 : decode b_M_stop 15 = .ok (.iconst 0, 1) := by decide +kernel
theorem d_M_stop_16 : decode b_M_stop 16 = .ok (.putfield 35, 3) := by decide +kernel
theorem d_M_stop_19 : decode b_M_stop 19 = .ok (.aload_n 0, 1) := by decide +kernel
theorem d_M_stop_20 : decode b_M_stop 20 = .ok (.invokevirtual 45, 3) := by decide +kernel
theorem d_M_stop_23 : decode b_M_stop 23 = .ok (.iconst 1, 1) := by decide +kernel
theorem d_M_stop_24 : decode b_M_stop 24 = .ok (.ireturn, 1) := by decide +kernel
def v_M_stop (u : gm_St) (m : Nat) : Bool := (if (u.1 2 m) = true then true else false)
def s_M_stop (u : gm_St) (m : Nat) : gm_St := (if (u.1 2 m) = true then (s_M_endWait (gm_sG (gm_sB u 2 m false) 3 m (0 : Int32)) m) else u)
set_option maxRecDepth 100000 in
set_option maxHeartbeats 4000000 in
theorem c_M_stop {l : Launch} {D : va_G} {dk : Nat → ClassId} {a : Nat → Nat} {A : Nat → Prop} {lt : Nat} {u : gm_St} {m : Nat} (hm : m < 2) : gm_I l D (gm_ty dk) (gm_W dk a) A lt y_M_stop b_M_stop 1 (some .boolean) rm_M_stop [.ref (a (3 + m))] u (gm_b (v_M_stop u m)) (s_M_stop u m) := by
  refine gm_enterZ (by decide) (Nat.le_of_ble_eq_true rfl) ?_
  intro p e s mm args below meth c ls Q H locs hF hM hl hQ
  have hx := hF.1
  have hb := hF.2.1
  have hml := hF.2.2.1
  have hown := hF.2.2.2.1
  have hts := hF.2.2.2.2.1
  have hl : lv_has ls 1 [(0, .ref (a (3 + m)))] := hl
  refine lv_aload_n hx hb d_M_stop_0 rfl (lv_at hl 0 rfl) ?_
  refine gf_M_21 hF hM (by omega) d_M_stop_1 ?_
  refine gm_ifn (b := (u.1 2 m)) (tgt := 9) hx hb d_M_stop_4 rfl (fun h1 => ?_) (fun h1 => ?_)
  · refine lv_aload_n hx hb d_M_stop_9 rfl (lv_at hl 0 rfl) ?_
    refine lv_iconst (v := 0) hx hb d_M_stop_10 (by decide) ?_
    refine gp_M_21 hF hM (by omega) (x := false) rfl d_M_stop_11 (fun H locs hM => ?_)
    refine lv_aload_n hx hb d_M_stop_14 rfl (lv_at hl 0 rfl) ?_
    refine lv_iconst (v := 0) hx hb d_M_stop_15 (by decide) ?_
    refine gp_M_35 hF hM (by omega) d_M_stop_16 (fun H locs hM => ?_)
    refine lv_aload_n hx hb d_M_stop_19 rfl (lv_at hl 0 rfl) ?_
    refine gm_Vv (As := []) (rest := []) hF hM (c_M_endWait (u := (gm_sG (gm_sB u 2 m false) 3 m (0 : Int32))) (m := m) (by omega)) (gk_M_45 hts ⟨by decide, by decide⟩) (gv_M hF hM (by omega) rfl) rfl hl.1 rfl (Nat.le_of_ble_eq_true rfl) ⟨Nat.zero_le _, Nat.zero_le _⟩ d_M_stop_20 (fun H locs hM => ?_)
    refine lv_iconst (v := 1) hx hb d_M_stop_23 (by decide) ?_
    have hq := hQ H locs 24 ls
    simp only [v_M_stop, s_M_stop, if_pos h1] at hq
    exact hq hM d_M_stop_24
  · refine lv_iconst (v := 0) hx hb d_M_stop_7 (by decide) ?_
    have hq := hQ H locs 8 ls
    simp only [v_M_stop, s_M_stop, if_neg (gm_nf h1)] at hq
    exact hq hM d_M_stop_8
theorem d_M_renew_0 : decode b_M_renew 0 = .ok (.iconst 0, 1) := by decide +kernel
theorem d_M_renew_1 : decode b_M_renew 1 = .ok (.istore_n 1, 1) := by decide +kernel
theorem d_M_renew_2 : decode b_M_renew 2 = .ok (.iload_n 1, 1) := by decide +kernel
theorem d_M_renew_3 : decode b_M_renew 3 = .ok (.bipush 6, 2) := by decide +kernel
theorem d_M_renew_5 : decode b_M_renew 5 = .ok (.if_icmp .ge 18, 3) := by decide +kernel
theorem d_M_renew_8 : decode b_M_renew 8 = .ok (.aload_n 0, 1) := by decide +kernel
theorem d_M_renew_9 : decode b_M_renew 9 = .ok (.getfield 11, 3) := by decide +kernel
theorem d_M_renew_12 : decode b_M_renew 12 = .ok (.iload_n 1, 1) := by decide +kernel
theorem d_M_renew_13 : decode b_M_renew 13 = .ok (.aaload, 1) := by decide +kernel
theorem d_M_renew_14 : decode b_M_renew 14 = .ok (.invokevirtual 26, 3) := by decide +kernel
theorem d_M_renew_17 : decode b_M_renew 17 = .ok (.iinc 1 1, 3) := by decide +kernel
theorem d_M_renew_20 : decode b_M_renew 20 = .ok (.goto (-18), 3) := by decide +kernel
theorem d_M_renew_23 : decode b_M_renew 23 = .ok (.iconst 0, 1) := by decide +kernel
theorem d_M_renew_24 : decode b_M_renew 24 = .ok (.istore_n 1, 1) := by decide +kernel
theorem d_M_renew_25 : decode b_M_renew 25 = .ok (.iload_n 1, 1) := by decide +kernel
theorem d_M_renew_26 : decode b_M_renew 26 = .ok (.bipush 16, 2) := by decide +kernel
theorem d_M_renew_28 : decode b_M_renew 28 = .ok (.if_icmp .ge 16, 3) := by decide +kernel
theorem d_M_renew_31 : decode b_M_renew 31 = .ok (.aload_n 0, 1) := by decide +kernel
theorem d_M_renew_32 : decode b_M_renew 32 = .ok (.getfield 17, 3) := by decide +kernel
theorem d_M_renew_35 : decode b_M_renew 35 = .ok (.iload_n 1, 1) := by decide +kernel
theorem d_M_renew_36 : decode b_M_renew 36 = .ok (.iconst 0, 1) := by decide +kernel
theorem d_M_renew_37 : decode b_M_renew 37 = .ok (.iastore, 1) := by decide +kernel
theorem d_M_renew_38 : decode b_M_renew 38 = .ok (.iinc 1 1, 3) := by decide +kernel
theorem d_M_renew_41 : decode b_M_renew 41 = .ok (.goto (-16), 3) := by decide +kernel
theorem d_M_renew_44 : decode b_M_renew 44 = .ok (.aload_n 0, 1) := by decide +kernel
theorem d_M_renew_45 : decode b_M_renew 45 = .ok (.iconst 1, 1) := by decide +kernel
theorem d_M_renew_46 : decode b_M_renew 46 = .ok (.putfield 21, 3) := by decide +kernel
theorem d_M_renew_49 : decode b_M_renew 49 = .ok (.aload_n 0, 1) := by decide +kernel
theorem d_M_renew_50 : decode b_M_renew 50 = .ok (.iconst 0, 1) := by decide +kernel
theorem d_M_renew_51 : decode b_M_renew 51 = .ok (.putfield 29, 3) := by decide +kernel
theorem d_M_renew_54 : decode b_M_renew 54 = .ok (.aload_n 0, 1) := by decide +kernel
theorem d_M_renew_55 : decode b_M_renew 55 = .ok (.iconst 0, 1) := by decide +kernel
theorem d_M_renew_56 : decode b_M_renew 56 = .ok (.putfield 32, 3) := by decide +kernel
theorem d_M_renew_59 : decode b_M_renew 59 = .ok (.aload_n 0, 1) := by decide +kernel
theorem d_M_renew_60 : decode b_M_renew 60 = .ok (.iconst 0, 1) := by decide +kernel
theorem d_M_renew_61 : decode b_M_renew 61 = .ok (.putfield 35, 3) := by decide +kernel
theorem d_M_renew_64 : decode b_M_renew 64 = .ok (.aload_n 0, 1) := by decide +kernel
theorem d_M_renew_65 : decode b_M_renew 65 = .ok (.iconst 0, 1) := by decide +kernel
theorem d_M_renew_66 : decode b_M_renew 66 = .ok (.putfield 39, 3) := by decide +kernel
theorem d_M_renew_69 : decode b_M_renew 69 = .ok (.aload_n 0, 1) := by decide +kernel
theorem d_M_renew_70 : decode b_M_renew 70 = .ok (.iconst 0, 1) := by decide +kernel
theorem d_M_renew_71 : decode b_M_renew 71 = .ok (.putfield 42, 3) := by decide +kernel
theorem d_M_renew_74 : decode b_M_renew 74 = .ok (.return_, 1) := by decide +kernel
def lp_M_renew1 (m : Nat) : Nat → Nat → gm_St → gm_St
  | 0, _, u => u
  | k + 1, i, u => lp_M_renew1 m k (i + 1) (s_S_reset u (6 * m + i))
def lp_M_renew2 (m : Nat) : Nat → Nat → gm_St → gm_St
  | 0, _, u => u
  | k + 1, i, u => lp_M_renew2 m k (i + 1) (gm_sG u (1 + m) i (0 : Int32))
def s_M_renew (u : gm_St) (m : Nat) : gm_St := (gm_sG (gm_sG (gm_sG (gm_sB (gm_sB (gm_sB (lp_M_renew2 m 16 0 (lp_M_renew1 m 6 0 u)) 2 m true) 3 m false) 4 m false) 3 m (0 : Int32)) 4 m (0 : Int32)) 5 m (0 : Int32))
set_option maxRecDepth 100000 in
set_option maxHeartbeats 4000000 in
theorem c_M_renew {l : Launch} {D : va_G} {dk : Nat → ClassId} {a : Nat → Nat} {A : Nat → Prop} {lt : Nat} {u : gm_St} {m : Nat} (hm : m < 2) : gm_V l D (gm_ty dk) (gm_W dk a) A lt y_M_renew b_M_renew 2 rm_M_renew [.ref (a (3 + m))] u (s_M_renew u m) := by
  refine gm_enterV (by decide) (Nat.le_of_ble_eq_true rfl) ?_
  intro p e s mm args below meth c ls Q H locs hF hM hl hQ
  have hx := hF.1
  have hb := hF.2.1
  have hml := hF.2.2.1
  have hown := hF.2.2.2.1
  have hts := hF.2.2.2.2.1
  have hl : lv_has ls 2 [(0, .ref (a (3 + m)))] := hl
  refine lv_iconst (v := 0) hx hb d_M_renew_0 (by decide) ?_
  refine lv_istore_n (lv' := [(1, .int (0 : Int32)), (0, .ref (a (3 + m)))]) hx hb d_M_renew_1 rfl hl (by decide) rfl (fun ls hl => ?_)
  have L1 : ∀ (k1 i1 : Nat) (w1 : gm_St) (ls : Array Slot) (H : Heap) (locs : List Loc), i1 + k1 = 6 → lv_has ls 2 [(1, .int (nI i1)), (0, .ref (a (3 + m)))] → gm_M D A s (gm_W dk a) w1 H locs → (∀ (ls : Array Slot) (H : Heap) (locs : List Loc), lv_has ls 2 [(1, .int (nI 6)), (0, .ref (a (3 + m)))] → gm_M D A s (gm_W dk a) (lp_M_renew1 m k1 i1 w1) H locs → W p l e rm_M_renew s mm args below meth c H locs 0 0 Q (F0 mm 23 ls [])) → W p l e rm_M_renew s mm args below meth c H locs 0 0 Q (F0 mm 2 ls []) := by
    intro k1
    induction k1 with
    | zero =>
      intro i1 w1 ls H locs hk1 hl hM kk
      obtain rfl : i1 = 6 := by omega
      refine lv_iload_n hx hb d_M_renew_2 rfl (lv_at hl 0 rfl) ?_
      refine lv_bipush (v := 6) hx hb d_M_renew_3 (by decide) ?_
      refine lv_icmp_ge (tgt := 23) hx hb d_M_renew_5 rfl (fun _ => ?_) (fun h => absurd (by decide) h)
      exact kk ls H locs hl hM
    | succ k1 ih =>
      intro i1 w1 ls H locs hk1 hl hM kk
      refine lv_iload_n hx hb d_M_renew_2 rfl (lv_at hl 0 rfl) ?_
      refine lv_bipush (v := 6) hx hb d_M_renew_3 (by decide) ?_
      refine lv_icmp_ge (tgt := 23) hx hb d_M_renew_5 rfl (fun h => absurd h (nI_ge (a := i1) (b := 6) (by omega) (by first | decide | omega))) (fun _ => ?_)
      refine lv_aload_n hx hb d_M_renew_8 rfl (lv_at hl 1 rfl) ?_
      refine gf_M_11 hF hM (by omega) d_M_renew_9 ?_
      refine lv_iload_n hx hb d_M_renew_12 rfl (lv_at hl 0 rfl) ?_
      refine ga_sens (k := i1) hF hM (by omega) rfl (by omega) d_M_renew_13 ?_
      refine gm_Vv (As := []) (rest := []) hF hM (c_S_reset (u := w1) (i := (6 * m + i1)) (by omega)) (gk_M_26 hts ⟨by decide, by decide⟩) (gv_S hF hM (by omega) rfl) rfl hl.1 rfl (Nat.le_of_ble_eq_true rfl) ⟨Nat.zero_le _, Nat.zero_le _⟩ d_M_renew_14 (fun H locs hM => ?_)
      refine lv_iinc (k := 0) (v := (nI (i1 + 1))) (lv' := [(1, .int (nI (i1 + 1))), (0, .ref (a (3 + m)))]) hx hb d_M_renew_17 hl rfl (nI_1 _) (by decide) rfl (fun ls hl => ?_)
      refine lv_goto (tgt := 2) hx hb d_M_renew_20 rfl ?_
      have hK := kk
      simp only [lp_M_renew1] at hK
      exact ih (i1 + 1) (s_S_reset w1 (6 * m + i1)) ls H locs (by omega) hl hM hK
  refine L1 6 0 u ls H locs (by omega) hl hM (fun ls H locs hl hM => ?_)
  refine lv_iconst (v := 0) hx hb d_M_renew_23 (by decide) ?_
  refine lv_istore_n (lv' := [(1, .int (0 : Int32)), (0, .ref (a (3 + m)))]) hx hb d_M_renew_24 rfl hl (by decide) rfl (fun ls hl => ?_)
  have L2 : ∀ (k2 i2 : Nat) (w2 : gm_St) (ls : Array Slot) (H : Heap) (locs : List Loc), i2 + k2 = 16 → lv_has ls 2 [(1, .int (nI i2)), (0, .ref (a (3 + m)))] → gm_M D A s (gm_W dk a) w2 H locs → (∀ (ls : Array Slot) (H : Heap) (locs : List Loc), lv_has ls 2 [(1, .int (nI 16)), (0, .ref (a (3 + m)))] → gm_M D A s (gm_W dk a) (lp_M_renew2 m k2 i2 w2) H locs → W p l e rm_M_renew s mm args below meth c H locs 0 0 Q (F0 mm 44 ls [])) → W p l e rm_M_renew s mm args below meth c H locs 0 0 Q (F0 mm 25 ls []) := by
    intro k2
    induction k2 with
    | zero =>
      intro i2 w2 ls H locs hk2 hl hM kk
      obtain rfl : i2 = 16 := by omega
      refine lv_iload_n hx hb d_M_renew_25 rfl (lv_at hl 0 rfl) ?_
      refine lv_bipush (v := 16) hx hb d_M_renew_26 (by decide) ?_
      refine lv_icmp_ge (tgt := 44) hx hb d_M_renew_28 rfl (fun _ => ?_) (fun h => absurd (by decide) h)
      exact kk ls H locs hl hM
    | succ k2 ih =>
      intro i2 w2 ls H locs hk2 hl hM kk
      refine lv_iload_n hx hb d_M_renew_25 rfl (lv_at hl 0 rfl) ?_
      refine lv_bipush (v := 16) hx hb d_M_renew_26 (by decide) ?_
      refine lv_icmp_ge (tgt := 44) hx hb d_M_renew_28 rfl (fun h => absurd h (nI_ge (a := i2) (b := 16) (by omega) (by first | decide | omega))) (fun _ => ?_)
      refine lv_aload_n hx hb d_M_renew_31 rfl (lv_at hl 1 rfl) ?_
      refine gf_M_17 hF hM (by omega) d_M_renew_32 ?_
      refine lv_iload_n hx hb d_M_renew_35 rfl (lv_at hl 0 rfl) ?_
      refine lv_iconst (v := 0) hx hb d_M_renew_36 (by decide) ?_
      refine gq_cnt (k := i2) hF hM (by omega) rfl (by omega) d_M_renew_37 (fun H locs hM => ?_)
      refine lv_iinc (k := 0) (v := (nI (i2 + 1))) (lv' := [(1, .int (nI (i2 + 1))), (0, .ref (a (3 + m)))]) hx hb d_M_renew_38 hl rfl (nI_1 _) (by decide) rfl (fun ls hl => ?_)
      refine lv_goto (tgt := 25) hx hb d_M_renew_41 rfl ?_
      have hK := kk
      simp only [lp_M_renew2] at hK
      exact ih (i2 + 1) (gm_sG w2 (1 + m) i2 (0 : Int32)) ls H locs (by omega) hl hM hK
  refine L2 16 0 (lp_M_renew1 m 6 0 u) ls H locs (by omega) hl hM (fun ls H locs hl hM => ?_)
  refine lv_aload_n hx hb d_M_renew_44 rfl (lv_at hl 1 rfl) ?_
  refine lv_iconst (v := 1) hx hb d_M_renew_45 (by decide) ?_
  refine gp_M_21 hF hM (by omega) (x := true) rfl d_M_renew_46 (fun H locs hM => ?_)
  refine lv_aload_n hx hb d_M_renew_49 rfl (lv_at hl 1 rfl) ?_
  refine lv_iconst (v := 0) hx hb d_M_renew_50 (by decide) ?_
  refine gp_M_29 hF hM (by omega) (x := false) rfl d_M_renew_51 (fun H locs hM => ?_)
  refine lv_aload_n hx hb d_M_renew_54 rfl (lv_at hl 1 rfl) ?_
  refine lv_iconst (v := 0) hx hb d_M_renew_55 (by decide) ?_
  refine gp_M_32 hF hM (by omega) (x := false) rfl d_M_renew_56 (fun H locs hM => ?_)
  refine lv_aload_n hx hb d_M_renew_59 rfl (lv_at hl 1 rfl) ?_
  refine lv_iconst (v := 0) hx hb d_M_renew_60 (by decide) ?_
  refine gp_M_35 hF hM (by omega) d_M_renew_61 (fun H locs hM => ?_)
  refine lv_aload_n hx hb d_M_renew_64 rfl (lv_at hl 1 rfl) ?_
  refine lv_iconst (v := 0) hx hb d_M_renew_65 (by decide) ?_
  refine gp_M_39 hF hM (by omega) d_M_renew_66 (fun H locs hM => ?_)
  refine lv_aload_n hx hb d_M_renew_69 rfl (lv_at hl 1 rfl) ?_
  refine lv_iconst (v := 0) hx hb d_M_renew_70 (by decide) ?_
  refine gp_M_42 hF hM (by omega) d_M_renew_71 (fun H locs hM => ?_)
  have hq := hQ H locs 74 ls
  simp only [s_M_renew] at hq
  exact hq hM d_M_renew_74
theorem d_M_opposites_0 : decode b_M_opposites 0 = .ok (.iload_n 0, 1) := by decide +kernel
theorem d_M_opposites_1 : decode b_M_opposites 1 = .ok (.bipush 10, 2) := by decide +kernel
theorem d_M_opposites_3 : decode b_M_opposites 3 = .ok (.iand, 1) := by decide +kernel
theorem d_M_opposites_4 : decode b_M_opposites 4 = .ok (.iconst 1, 1) := by decide +kernel
theorem d_M_opposites_5 : decode b_M_opposites 5 = .ok (.ishl, 1) := by decide +kernel
theorem d_M_opposites_6 : decode b_M_opposites 6 = .ok (.iload_n 0, 1) := by decide +kernel
theorem d_M_opposites_7 : decode b_M_opposites 7 = .ok (.bipush 20, 2) := by decide +kernel
theorem d_M_opposites_9 : decode b_M_opposites 9 = .ok (.iand, 1) := by decide +kernel
theorem d_M_opposites_10 : decode b_M_opposites 10 = .ok (.iconst 1, 1) := by decide +kernel
theorem d_M_opposites_11 : decode b_M_opposites 11 = .ok (.ishr, 1) := by decide +kernel
theorem d_M_opposites_12 : decode b_M_opposites 12 = .ok (.ior, 1) := by decide +kernel
theorem d_M_opposites_13 : decode b_M_opposites 13 = .ok (.ireturn, 1) := by decide +kernel
def v_M_opposites (x : Int32) : Int32 := (((x &&& (10 : Int32)) <<< ((1 : Int32) &&& 31)) ||| ((x &&& (20 : Int32)) >>> ((1 : Int32) &&& 31)))
set_option maxRecDepth 100000 in
set_option maxHeartbeats 4000000 in
theorem c_M_opposites {l : Launch} {D : va_G} {dk : Nat → ClassId} {Wd : gm_St → va_W} {A : Nat → Prop} {lt : Nat} {u : gm_St} {x : Int32} : gm_I l D (gm_ty dk) Wd A lt y_M_opposites b_M_opposites 1 (some .int) rm_M_opposites [.int x] u (v_M_opposites x) u := by
  refine gm_enterI (by decide) (Nat.le_of_ble_eq_true rfl) ?_
  intro p e s m args below meth c ls Q H locs hF hM hl hQ
  have hx := hF.1
  have hb := hF.2.1
  have hml := hF.2.2.1
  have hown := hF.2.2.2.1
  have hts := hF.2.2.2.2.1
  have hl : lv_has ls 1 [(0, .int x)] := hl
  refine lv_iload_n hx hb d_M_opposites_0 rfl (lv_at hl 0 rfl) ?_
  refine lv_bipush (v := 10) hx hb d_M_opposites_1 (by decide) ?_
  refine lv_iand hx hb d_M_opposites_3 ?_
  refine lv_iconst (v := 1) hx hb d_M_opposites_4 (by decide) ?_
  refine lv_ishl hx hb d_M_opposites_5 ?_
  refine lv_iload_n hx hb d_M_opposites_6 rfl (lv_at hl 0 rfl) ?_
  refine lv_bipush (v := 20) hx hb d_M_opposites_7 (by decide) ?_
  refine lv_iand hx hb d_M_opposites_9 ?_
  refine lv_iconst (v := 1) hx hb d_M_opposites_10 (by decide) ?_
  refine lv_ishr hx hb d_M_opposites_11 ?_
  refine lv_ior hx hb d_M_opposites_12 ?_
  have hq := hQ H locs 13 ls
  simp only [v_M_opposites] at hq
  exact hq hM d_M_opposites_13
theorem d_M_wantedValves_0 : decode b_M_wantedValves 0 = .ok (.iload_n 1, 1) := by decide +kernel
theorem d_M_wantedValves_1 : decode b_M_wantedValves 1 = .ok (.ifCond .eq 10, 3) := by decide +kernel
theorem d_M_wantedValves_4 : decode b_M_wantedValves 4 = .ok (.aload_n 0, 1) := by decide +kernel
theorem d_M_wantedValves_5 : decode b_M_wantedValves 5 = .ok (.invokevirtual 71, 3) := by decide +kernel
theorem d_M_wantedValves_8 : decode b_M_wantedValves 8 = .ok (.goto 7, 3) := by decide +kernel
theorem d_M_wantedValves_11 : decode b_M_wantedValves 11 = .ok (.aload_n 0, 1) := by decide +kernel
theorem d_M_wantedValves_12 : decode b_M_wantedValves 12 = .ok (.invokevirtual 75, 3) := by decide +kernel
theorem d_M_wantedValves_15 : decode b_M_wantedValves 15 = .ok (.istore_n 2, 1) := by decide +kernel
theorem d_M_wantedValves_16 : decode b_M_wantedValves 16 = .ok (.iload_n 2, 1) := by decide +kernel
theorem d_M_wantedValves_17 : decode b_M_wantedValves 17 = .ok (.ifCond .eq 17, 3) := by decide +kernel
theorem d_M_wantedValves_20 : decode b_M_wantedValves 20 = .ok (.aload_n 0, 1) := by decide +kernel
theorem d_M_wantedValves_21 : decode b_M_wantedValves 21 = .ok (.iconst 3, 1) := by decide +kernel
theorem d_M_wantedValves_22 : decode b_M_wantedValves 22 = .ok (.invokevirtual 78, 3) := by decide +kernel
theorem d_M_wantedValves_25 : decode b_M_wantedValves 25 = .ok (.ifCond .eq 7, 3) := by decide +kernel
theorem d_M_wantedValves_28 : decode b_M_wantedValves 28 = .ok (.iconst 0, 1) := by decide +kernel
theorem d_M_wantedValves_29 : decode b_M_wantedValves 29 = .ok (.goto 4, 3) := by decide +kernel
theorem d_M_wantedValves_32 : decode b_M_wantedValves 32 = .ok (.iconst 4, 1) := by decide +kernel
theorem d_M_wantedValves_33 : decode b_M_wantedValves 33 = .ok (.ireturn, 1) := by decide +kernel
theorem d_M_wantedValves_34 : decode b_M_wantedValves 34 = .ok (.aload_n 0, 1) := by decide +kernel
theorem d_M_wantedValves_35 : decode b_M_wantedValves 35 = .ok (.iconst 2, 1) := by decide +kernel
theorem d_M_wantedValves_36 : decode b_M_wantedValves 36 = .ok (.invokevirtual 78, 3) := by decide +kernel
theorem d_M_wantedValves_39 : decode b_M_wantedValves 39 = .ok (.ifCond .ne 5, 3) := by decide +kernel
theorem d_M_wantedValves_42 : decode b_M_wantedValves 42 = .ok (.iconst 2, 1) := by decide +kernel
theorem d_M_wantedValves_43 : decode b_M_wantedValves 43 = .ok (.ireturn, 1) := by decide +kernel
theorem d_M_wantedValves_44 : decode b_M_wantedValves 44 = .ok (.iconst 2, 1) := by decide +kernel
theorem d_M_wantedValves_45 : decode b_M_wantedValves 45 = .ok (.iload_n 1, 1) := by decide +kernel
theorem d_M_wantedValves_46 : decode b_M_wantedValves 46 = .ok (.ifCond .eq 8, 3) := by decide +kernel
theorem d_M_wantedValves_49 : decode b_M_wantedValves 49 = .ok (.bipush 8, 2) := by decide +kernel
theorem d_M_wantedValves_51 : decode b_M_wantedValves 51 = .ok (.goto 5, 3) := by decide +kernel
theorem d_M_wantedValves_54 : decode b_M_wantedValves 54 = .ok (.bipush 16, 2) := by decide +kernel
theorem d_M_wantedValves_56 : decode b_M_wantedValves 56 = .ok (.ior, 1) := by decide +kernel
theorem d_M_wantedValves_57 : decode b_M_wantedValves 57 = .ok (.ireturn, 1) := by decide +kernel
def v_M_wantedValves (u : gm_St) (m : Nat) (dw : Bool) : Int32 := (if (if dw = true then (v_M_gearsAreExtended u m) else (v_M_gearsAreRetracted u m)) = true then (if (v_M_isOn u m 3) = true then (0 : Int32) else (4 : Int32)) else (if (v_M_isOn u m 2) = true then ((2 : Int32) ||| (if dw = true then (8 : Int32) else (16 : Int32))) else (2 : Int32)))
set_option maxRecDepth 100000 in
set_option maxHeartbeats 4000000 in
theorem c_M_wantedValves {l : Launch} {D : va_G} {dk : Nat → ClassId} {a : Nat → Nat} {A : Nat → Prop} {lt : Nat} {u : gm_St} {m : Nat} {dw : Bool} (hm : m < 2) : gm_I l D (gm_ty dk) (gm_W dk a) A lt y_M_wantedValves b_M_wantedValves 3 (some .int) rm_M_wantedValves [.ref (a (3 + m)), .int (gm_b dw)] u (v_M_wantedValves u m dw) u := by
  refine gm_enterI (by decide) (Nat.le_of_ble_eq_true rfl) ?_
  intro p e s mm args below meth c ls Q H locs hF hM hl hQ
  have hx := hF.1
  have hb := hF.2.1
  have hml := hF.2.2.1
  have hown := hF.2.2.2.1
  have hts := hF.2.2.2.2.1
  have hl : lv_has ls 3 [(0, .ref (a (3 + m))), (1, .int (gm_b dw))] := hl
  refine lv_iload_n hx hb d_M_wantedValves_0 rfl (lv_at hl 1 rfl) ?_
  have J2 : ∀ (ls : Array Slot) (H : Heap) (locs : List Loc), lv_has ls 3 [(0, .ref (a (3 + m))), (1, .int (gm_b dw))] → gm_M D A s (gm_W dk a) u H locs → W p l e rm_M_wantedValves s mm args below meth c H locs 0 0 Q (F0 mm 15 ls [.int (gm_b (if dw = true then (v_M_gearsAreExtended u m) else (v_M_gearsAreRetracted u m)))]) := by
    intro ls H locs hl hM
    refine lv_istore_n (lv' := [(2, .int (gm_b (if dw = true then (v_M_gearsAreExtended u m) else (v_M_gearsAreRetracted u m)))), (0, .ref (a (3 + m))), (1, .int (gm_b dw))]) hx hb d_M_wantedValves_15 rfl hl (by decide) rfl (fun ls hl => ?_)
    refine lv_iload_n hx hb d_M_wantedValves_16 rfl (lv_at hl 0 rfl) ?_
    refine gm_ifz (b := (if dw = true then (v_M_gearsAreExtended u m) else (v_M_gearsAreRetracted u m))) (tgt := 34) hx hb d_M_wantedValves_17 rfl (fun h3 => ?_) (fun h3 => ?_)
    · refine lv_aload_n hx hb d_M_wantedValves_34 rfl (lv_at hl 1 rfl) ?_
      refine lv_iconst (v := 2) hx hb d_M_wantedValves_35 (by decide) ?_
      refine gm_Vi (As := [.int (nI 2)]) (rest := []) hF hM (c_M_isOn (u := u) (m := m) (sn := 2) (by omega) (by omega)) (gk_M_78 hts ⟨by decide, by decide⟩) (gv_M hF hM (by omega) rfl) rfl hl.1 rfl (Nat.le_of_ble_eq_true rfl) ⟨Nat.zero_le _, Nat.zero_le _⟩ d_M_wantedValves_36 (fun H locs hM => ?_)
      refine gm_ifn (b := (v_M_isOn u m 2)) (tgt := 44) hx hb d_M_wantedValves_39 rfl (fun h4 => ?_) (fun h4 => ?_)
      · refine lv_iconst (v := 2) hx hb d_M_wantedValves_44 (by decide) ?_
        refine lv_iload_n hx hb d_M_wantedValves_45 rfl (lv_at hl 2 rfl) ?_
        have J6 : ∀ (ls : Array Slot) (H : Heap) (locs : List Loc), lv_has ls 3 [(0, .ref (a (3 + m))), (1, .int (gm_b dw)), (2, .int (gm_b (if dw = true then (v_M_gearsAreExtended u m) else (v_M_gearsAreRetracted u m))))] → gm_M D A s (gm_W dk a) u H locs → W p l e rm_M_wantedValves s mm args below meth c H locs 0 0 Q (F0 mm 56 ls [.int (if dw = true then (8 : Int32) else (16 : Int32)), .int (2 : Int32)]) := by
          intro ls H locs hl hM
          refine lv_ior hx hb d_M_wantedValves_56 ?_
          have hq := hQ H locs 57 ls
          simp only [v_M_wantedValves, if_neg (gm_nf h3), if_pos h4] at hq
          exact hq hM d_M_wantedValves_57
        refine gm_ifz (b := dw) (tgt := 54) hx hb d_M_wantedValves_46 rfl (fun h5 => ?_) (fun h5 => ?_)
        · refine lv_bipush (v := 16) hx hb d_M_wantedValves_54 (by decide) ?_
          have hJ := J6
          try simp only [if_neg (gm_nf h5)] at hJ
          try simp only [if_neg (gm_nf h5)] at hl
          try simp only [if_neg (gm_nf h5)] at hM
          try simp only [if_neg (gm_nf h5)]
          exact hJ ls H locs (lv_sub hl [1, 2, 0] rfl) hM
        · refine lv_bipush (v := 8) hx hb d_M_wantedValves_49 (by decide) ?_
          refine lv_goto (tgt := 56) hx hb d_M_wantedValves_51 rfl ?_
          have hJ := J6
          try simp only [if_pos h5] at hJ
          try simp only [if_pos h5] at hl
          try simp only [if_pos h5] at hM
          try simp only [if_pos h5]
          exact hJ ls H locs (lv_sub hl [1, 2, 0] rfl) hM
      · refine lv_iconst (v := 2) hx hb d_M_wantedValves_42 (by decide) ?_
        have hq := hQ H locs 43 ls
        simp only [v_M_wantedValves, if_neg (gm_nf h3), if_neg (gm_nf h4)] at hq
        exact hq hM d_M_wantedValves_43
    · refine lv_aload_n hx hb d_M_wantedValves_20 rfl (lv_at hl 1 rfl) ?_
      refine lv_iconst (v := 3) hx hb d_M_wantedValves_21 (by decide) ?_
      refine gm_Vi (As := [.int (nI 3)]) (rest := []) hF hM (c_M_isOn (u := u) (m := m) (sn := 3) (by omega) (by omega)) (gk_M_78 hts ⟨by decide, by decide⟩) (gv_M hF hM (by omega) rfl) rfl hl.1 rfl (Nat.le_of_ble_eq_true rfl) ⟨Nat.zero_le _, Nat.zero_le _⟩ d_M_wantedValves_22 (fun H locs hM => ?_)
      have J8 : ∀ (ls : Array Slot) (H : Heap) (locs : List Loc), lv_has ls 3 [(0, .ref (a (3 + m))), (1, .int (gm_b dw)), (2, .int (gm_b (if dw = true then (v_M_gearsAreExtended u m) else (v_M_gearsAreRetracted u m))))] → gm_M D A s (gm_W dk a) u H locs → W p l e rm_M_wantedValves s mm args below meth c H locs 0 0 Q (F0 mm 33 ls [.int (if (v_M_isOn u m 3) = true then (0 : Int32) else (4 : Int32))]) := by
        intro ls H locs hl hM
        have hq := hQ H locs 33 ls
        simp only [v_M_wantedValves, if_pos h3] at hq
        exact hq hM d_M_wantedValves_33
      refine gm_ifz (b := (v_M_isOn u m 3)) (tgt := 32) hx hb d_M_wantedValves_25 rfl (fun h7 => ?_) (fun h7 => ?_)
      · refine lv_iconst (v := 4) hx hb d_M_wantedValves_32 (by decide) ?_
        have hJ := J8
        try simp only [if_neg (gm_nf h7)] at hJ
        exact hJ ls H locs (lv_sub hl [1, 2, 0] rfl) hM
      · refine lv_iconst (v := 0) hx hb d_M_wantedValves_28 (by decide) ?_
        refine lv_goto (tgt := 33) hx hb d_M_wantedValves_29 rfl ?_
        have hJ := J8
        try simp only [if_pos h7] at hJ
        exact hJ ls H locs (lv_sub hl [1, 2, 0] rfl) hM
  refine gm_ifz (b := dw) (tgt := 11) hx hb d_M_wantedValves_1 rfl (fun h1 => ?_) (fun h1 => ?_)
  · refine lv_aload_n hx hb d_M_wantedValves_11 rfl (lv_at hl 0 rfl) ?_
    refine gm_Vi (As := []) (rest := []) hF hM (c_M_gearsAreRetracted (u := u) (m := m) (by omega)) (gk_M_75 hts ⟨by decide, by decide⟩) (gv_M hF hM (by omega) rfl) rfl hl.1 rfl (Nat.le_of_ble_eq_true rfl) ⟨Nat.zero_le _, Nat.zero_le _⟩ d_M_wantedValves_12 (fun H locs hM => ?_)
    have hJ := J2
    try simp only [if_neg (gm_nf h1)] at hJ
    exact hJ ls H locs hl hM
  · refine lv_aload_n hx hb d_M_wantedValves_4 rfl (lv_at hl 0 rfl) ?_
    refine gm_Vi (As := []) (rest := []) hF hM (c_M_gearsAreExtended (u := u) (m := m) (by omega)) (gk_M_71 hts ⟨by decide, by decide⟩) (gv_M hF hM (by omega) rfl) rfl hl.1 rfl (Nat.le_of_ble_eq_true rfl) ⟨Nat.zero_le _, Nat.zero_le _⟩ d_M_wantedValves_5 (fun H locs hM => ?_)
    refine lv_goto (tgt := 15) hx hb d_M_wantedValves_8 rfl ?_
    have hJ := J2
    try simp only [if_pos h1] at hJ
    exact hJ ls H locs hl hM
theorem d_M_switchValves_0 : decode b_M_switchValves 0 = .ok (.aload_n 0, 1) := by decide +kernel
theorem d_M_switchValves_1 : decode b_M_switchValves 1 = .ok (.getfield 35, 3) := by decide +kernel
theorem d_M_switchValves_4 : decode b_M_switchValves 4 = .ok (.iconst 1, 1) := by decide +kernel
theorem d_M_switchValves_5 : decode b_M_switchValves 5 = .ok (.iand, 1) := by decide +kernel
theorem d_M_switchValves_6 : decode b_M_switchValves 6 = .ok (.ifCond .eq 7, 3) := by decide +kernel
theorem d_M_switchValves_9 : decode b_M_switchValves 9 = .ok (.iconst 1, 1) := by decide +kernel
theorem d_M_switchValves_10 : decode b_M_switchValves 10 = .ok (.goto 4, 3) := by decide +kernel
theorem d_M_switchValves_13 : decode b_M_switchValves 13 = .ok (.iconst 0, 1) := by decide +kernel
theorem d_M_switchValves_14 : decode b_M_switchValves 14 = .ok (.istore_n 2, 1) := by decide +kernel
theorem d_M_switchValves_15 : decode b_M_switchValves 15 = .ok (.iload_n 1, 1) := by decide +kernel
theorem d_M_switchValves_16 : decode b_M_switchValves 16 = .ok (.ifCond .ne 10, 3) := by decide +kernel
theorem d_M_switchValves_19 : decode b_M_switchValves 19 = .ok (.aload_n 0, 1) := by decide +kernel
theorem d_M_switchValves_20 : decode b_M_switchValves 20 = .ok (.getfield 39, 3) := by decide +kernel
theorem d_M_switchValves_23 : decode b_M_switchValves 23 = .ok (.ifCond .le 7, 3) := by decide +kernel
theorem d_M_switchValves_26 : decode b_M_switchValves 26 = .ok (.iconst 1, 1) := by decide +kernel
theorem d_M_switchValves_27 : decode b_M_switchValves 27 = .ok (.goto 4, 3) := by decide +kernel
theorem d_M_switchValves_30 : decode b_M_switchValves 30 = .ok (.iconst 0, 1) := by decide +kernel
theorem d_M_switchValves_31 : decode b_M_switchValves 31 = .ok (.istore_n 3, 1) := by decide +kernel
theorem d_M_switchValves_32 : decode b_M_switchValves 32 = .ok (.iload_n 2, 1) := by decide +kernel
theorem d_M_switchValves_33 : decode b_M_switchValves 33 = .ok (.ifCond .eq 24, 3) := by decide +kernel
theorem d_M_switchValves_36 : decode b_M_switchValves 36 = .ok (.aload_n 0, 1) := by decide +kernel
theorem d_M_switchValves_37 : decode b_M_switchValves 37 = .ok (.getfield 32, 3) := by decide +kernel
theorem d_M_switchValves_40 : decode b_M_switchValves 40 = .ok (.ifCond .eq 17, 3) := by decide +kernel
theorem d_M_switchValves_43 : decode b_M_switchValves 43 = .ok (.iload_n 3, 1) := by decide +kernel
theorem d_M_switchValves_44 : decode b_M_switchValves 44 = .ok (.iload_n 1, 1) := by decide +kernel
theorem d_M_switchValves_45 : decode b_M_switchValves 45 = .ok (.aload_n 0, 1) := by decide +kernel
theorem d_M_switchValves_46 : decode b_M_switchValves 46 = .ok (.getfield 35, 3) := by decide +kernel
theorem d_M_switchValves_49 : decode b_M_switchValves 49 = .ok (.invokestatic 81, 3) := by decide +kernel
theorem d_M_switchValves_52 : decode b_M_switchValves 52 = .ok (.iconst (-1), 1) := by decide +kernel
theorem d_M_switchValves_53 : decode b_M_switchValves 53 = .ok (.ixor, 1) := by decide +kernel
theorem d_M_switchValves_54 : decode b_M_switchValves 54 = .ok (.iand, 1) := by decide +kernel
theorem d_M_switchValves_55 : decode b_M_switchValves 55 = .ok (.ior, 1) := by decide +kernel
theorem d_M_switchValves_56 : decode b_M_switchValves 56 = .ok (.istore_n 3, 1) := by decide +kernel
theorem d_M_switchValves_57 : decode b_M_switchValves 57 = .ok (.aload_n 0, 1) := by decide +kernel
theorem d_M_switchValves_58 : decode b_M_switchValves 58 = .ok (.iload_n 2, 1) := by decide +kernel
theorem d_M_switchValves_59 : decode b_M_switchValves 59 = .ok (.putfield 32, 3) := by decide +kernel
theorem d_M_switchValves_62 : decode b_M_switchValves 62 = .ok (.aload_n 0, 1) := by decide +kernel
theorem d_M_switchValves_63 : decode b_M_switchValves 63 = .ok (.iload_n 3, 1) := by decide +kernel
theorem d_M_switchValves_64 : decode b_M_switchValves 64 = .ok (.putfield 35, 3) := by decide +kernel
theorem d_M_switchValves_67 : decode b_M_switchValves 67 = .ok (.aload_n 0, 1) := by decide +kernel
theorem d_M_switchValves_68 : decode b_M_switchValves 68 = .ok (.iload_n 3, 1) := by decide +kernel
theorem d_M_switchValves_69 : decode b_M_switchValves 69 = .ok (.bipush 30, 2) := by decide +kernel
theorem d_M_switchValves_71 : decode b_M_switchValves 71 = .ok (.iand, 1) := by decide +kernel
theorem d_M_switchValves_72 : decode b_M_switchValves 72 = .ok (.ifCond .eq 8, 3) := by decide +kernel
theorem d_M_switchValves_75 : decode b_M_switchValves 75 = .ok (.bipush 10, 2) := by decide +kernel
theorem d_M_switchValves_77 : decode b_M_switchValves 77 = .ok (.goto 13, 3) := by decide +kernel
theorem d_M_switchValves_80 : decode b_M_switchValves 80 = .ok (.aload_n 0, 1) := by decide +kernel
theorem d_M_switchValves_81 : decode b_M_switchValves 81 = .ok (.getfield 39, 3) := by decide +kernel
theorem d_M_switchValves_84 : decode b_M_switchValves 84 = .ok (.iconst 1, 1) := by decide +kernel
theorem d_M_switchValves_85 : decode b_M_switchValves 85 = .ok (.isub, 1) := by decide +kernel
theorem d_M_switchValves_86 : decode b_M_switchValves 86 = .ok (.iconst 0, 1) := by decide +kernel
theorem d_M_switchValves_87 : decode b_M_switchValves 87 = .ok (.invokestatic 84, 3) := by decide +kernel
theorem d_M_switchValves_90 : decode b_M_switchValves 90 = .ok (.putfield 39, 3) := by decide +kernel
theorem d_M_switchValves_93 : decode b_M_switchValves 93 = .ok (.return_, 1) := by decide +kernel
def s_M_switchValves (u : gm_St) (m : Nat) (wn : Int32) : gm_St := (gm_sG (gm_sG (gm_sB u 4 m (if ((u.2.1 3 m) &&& (1 : Int32)) = 0 then false else true)) 3 m (if (if ((u.2.1 3 m) &&& (1 : Int32)) = 0 then false else true) = true then (if (u.1 4 m) = true then ((gm_b (if wn = 0 then (if (u.2.1 4 m) ≤ 0 then false else true) else true)) ||| (wn &&& ((v_M_opposites (u.2.1 3 m)) ^^^ (-1 : Int32)))) else (gm_b (if wn = 0 then (if (u.2.1 4 m) ≤ 0 then false else true) else true))) else (gm_b (if wn = 0 then (if (u.2.1 4 m) ≤ 0 then false else true) else true)))) 4 m (if ((if (if ((u.2.1 3 m) &&& (1 : Int32)) = 0 then false else true) = true then (if (u.1 4 m) = true then ((gm_b (if wn = 0 then (if (u.2.1 4 m) ≤ 0 then false else true) else true)) ||| (wn &&& ((v_M_opposites (u.2.1 3 m)) ^^^ (-1 : Int32)))) else (gm_b (if wn = 0 then (if (u.2.1 4 m) ≤ 0 then false else true) else true))) else (gm_b (if wn = 0 then (if (u.2.1 4 m) ≤ 0 then false else true) else true))) &&& (30 : Int32)) = 0 then (if (((gm_sG (gm_sB u 4 m (if ((u.2.1 3 m) &&& (1 : Int32)) = 0 then false else true)) 3 m (if (if ((u.2.1 3 m) &&& (1 : Int32)) = 0 then false else true) = true then (if (u.1 4 m) = true then ((gm_b (if wn = 0 then (if (u.2.1 4 m) ≤ 0 then false else true) else true)) ||| (wn &&& ((v_M_opposites (u.2.1 3 m)) ^^^ (-1 : Int32)))) else (gm_b (if wn = 0 then (if (u.2.1 4 m) ≤ 0 then false else true) else true))) else (gm_b (if wn = 0 then (if (u.2.1 4 m) ≤ 0 then false else true) else true)))).2.1 4 m) - (1 : Int32)) < (0 : Int32) then (0 : Int32) else (((gm_sG (gm_sB u 4 m (if ((u.2.1 3 m) &&& (1 : Int32)) = 0 then false else true)) 3 m (if (if ((u.2.1 3 m) &&& (1 : Int32)) = 0 then false else true) = true then (if (u.1 4 m) = true then ((gm_b (if wn = 0 then (if (u.2.1 4 m) ≤ 0 then false else true) else true)) ||| (wn &&& ((v_M_opposites (u.2.1 3 m)) ^^^ (-1 : Int32)))) else (gm_b (if wn = 0 then (if (u.2.1 4 m) ≤ 0 then false else true) else true))) else (gm_b (if wn = 0 then (if (u.2.1 4 m) ≤ 0 then false else true) else true)))).2.1 4 m) - (1 : Int32))) else (10 : Int32)))
set_option maxRecDepth 100000 in
set_option maxHeartbeats 4000000 in
theorem c_M_switchValves {l : Launch} {D : va_G} {dk : Nat → ClassId} {a : Nat → Nat} {A : Nat → Prop} {lt : Nat} {u : gm_St} {m : Nat} {wn : Int32} (hm : m < 2) : gm_V l D (gm_ty dk) (gm_W dk a) A lt y_M_switchValves b_M_switchValves 4 rm_M_switchValves [.ref (a (3 + m)), .int wn] u (s_M_switchValves u m wn) := by
  refine gm_enterV (by decide) (Nat.le_of_ble_eq_true rfl) ?_
  intro p e s mm args below meth c ls Q H locs hF hM hl hQ
  have hx := hF.1
  have hb := hF.2.1
  have hml := hF.2.2.1
  have hown := hF.2.2.2.1
  have hts := hF.2.2.2.2.1
  have hl : lv_has ls 4 [(0, .ref (a (3 + m))), (1, .int wn)] := hl
  refine lv_aload_n hx hb d_M_switchValves_0 rfl (lv_at hl 0 rfl) ?_
  refine gf_M_35 hF hM (by omega) d_M_switchValves_1 ?_
  refine lv_iconst (v := 1) hx hb d_M_switchValves_4 (by decide) ?_
  refine lv_iand hx hb d_M_switchValves_5 ?_
  have J2 : ∀ (ls : Array Slot) (H : Heap) (locs : List Loc), lv_has ls 4 [(0, .ref (a (3 + m))), (1, .int wn)] → gm_M D A s (gm_W dk a) u H locs → W p l e rm_M_switchValves s mm args below meth c H locs 0 0 Q (F0 mm 14 ls [.int (gm_b (if ((u.2.1 3 m) &&& (1 : Int32)) = 0 then false else true))]) := by
    intro ls H locs hl hM
    refine lv_istore_n (lv' := [(2, .int (gm_b (if ((u.2.1 3 m) &&& (1 : Int32)) = 0 then false else true))), (0, .ref (a (3 + m))), (1, .int wn)]) hx hb d_M_switchValves_14 rfl hl (by decide) rfl (fun ls hl => ?_)
    refine lv_iload_n hx hb d_M_switchValves_15 rfl (lv_at hl 2 rfl) ?_
    have J4 : ∀ (ls : Array Slot) (H : Heap) (locs : List Loc), lv_has ls 4 [(0, .ref (a (3 + m))), (1, .int wn), (2, .int (gm_b (if ((u.2.1 3 m) &&& (1 : Int32)) = 0 then false else true)))] → gm_M D A s (gm_W dk a) u H locs → W p l e rm_M_switchValves s mm args below meth c H locs 0 0 Q (F0 mm 31 ls [.int (gm_b (if wn = 0 then (if (u.2.1 4 m) ≤ 0 then false else true) else true))]) := by
      intro ls H locs hl hM
      refine lv_istore_n (lv' := [(3, .int (gm_b (if wn = 0 then (if (u.2.1 4 m) ≤ 0 then false else true) else true))), (0, .ref (a (3 + m))), (1, .int wn), (2, .int (gm_b (if ((u.2.1 3 m) &&& (1 : Int32)) = 0 then false else true)))]) hx hb d_M_switchValves_31 rfl hl (by decide) rfl (fun ls hl => ?_)
      refine lv_iload_n hx hb d_M_switchValves_32 rfl (lv_at hl 3 rfl) ?_
      have J6 : ∀ (ls : Array Slot) (H : Heap) (locs : List Loc), lv_has ls 4 [(0, .ref (a (3 + m))), (1, .int wn), (2, .int (gm_b (if ((u.2.1 3 m) &&& (1 : Int32)) = 0 then false else true))), (3, .int (if (if ((u.2.1 3 m) &&& (1 : Int32)) = 0 then false else true) = true then (if (u.1 4 m) = true then ((gm_b (if wn = 0 then (if (u.2.1 4 m) ≤ 0 then false else true) else true)) ||| (wn &&& ((v_M_opposites (u.2.1 3 m)) ^^^ (-1 : Int32)))) else (gm_b (if wn = 0 then (if (u.2.1 4 m) ≤ 0 then false else true) else true))) else (gm_b (if wn = 0 then (if (u.2.1 4 m) ≤ 0 then false else true) else true))))] → gm_M D A s (gm_W dk a) u H locs → W p l e rm_M_switchValves s mm args below meth c H locs 0 0 Q (F0 mm 57 ls []) := by
        intro ls H locs hl hM
        refine lv_aload_n hx hb d_M_switchValves_57 rfl (lv_at hl 0 rfl) ?_
        refine lv_iload_n hx hb d_M_switchValves_58 rfl (lv_at hl 2 rfl) ?_
        refine gp_M_32 hF hM (by omega) (x := (if ((u.2.1 3 m) &&& (1 : Int32)) = 0 then false else true)) rfl d_M_switchValves_59 (fun H locs hM => ?_)
        refine lv_aload_n hx hb d_M_switchValves_62 rfl (lv_at hl 0 rfl) ?_
        refine lv_iload_n hx hb d_M_switchValves_63 rfl (lv_at hl 3 rfl) ?_
        refine gp_M_35 hF hM (by omega) d_M_switchValves_64 (fun H locs hM => ?_)
        refine lv_aload_n hx hb d_M_switchValves_67 rfl (lv_at hl 0 rfl) ?_
        refine lv_iload_n hx hb d_M_switchValves_68 rfl (lv_at hl 3 rfl) ?_
        refine lv_bipush (v := 30) hx hb d_M_switchValves_69 (by decide) ?_
        refine lv_iand hx hb d_M_switchValves_71 ?_
        have J8 : ∀ (ls : Array Slot) (H : Heap) (locs : List Loc), lv_has ls 4 [(0, .ref (a (3 + m))), (1, .int wn), (2, .int (gm_b (if ((u.2.1 3 m) &&& (1 : Int32)) = 0 then false else true))), (3, .int (if (if ((u.2.1 3 m) &&& (1 : Int32)) = 0 then false else true) = true then (if (u.1 4 m) = true then ((gm_b (if wn = 0 then (if (u.2.1 4 m) ≤ 0 then false else true) else true)) ||| (wn &&& ((v_M_opposites (u.2.1 3 m)) ^^^ (-1 : Int32)))) else (gm_b (if wn = 0 then (if (u.2.1 4 m) ≤ 0 then false else true) else true))) else (gm_b (if wn = 0 then (if (u.2.1 4 m) ≤ 0 then false else true) else true))))] → gm_M D A s (gm_W dk a) (gm_sG (gm_sB u 4 m (if ((u.2.1 3 m) &&& (1 : Int32)) = 0 then false else true)) 3 m (if (if ((u.2.1 3 m) &&& (1 : Int32)) = 0 then false else true) = true then (if (u.1 4 m) = true then ((gm_b (if wn = 0 then (if (u.2.1 4 m) ≤ 0 then false else true) else true)) ||| (wn &&& ((v_M_opposites (u.2.1 3 m)) ^^^ (-1 : Int32)))) else (gm_b (if wn = 0 then (if (u.2.1 4 m) ≤ 0 then false else true) else true))) else (gm_b (if wn = 0 then (if (u.2.1 4 m) ≤ 0 then false else true) else true)))) H locs → W p l e rm_M_switchValves s mm args below meth c H locs 0 0 Q (F0 mm 90 ls [.int (if ((if (if ((u.2.1 3 m) &&& (1 : Int32)) = 0 then false else true) = true then (if (u.1 4 m) = true then ((gm_b (if wn = 0 then (if (u.2.1 4 m) ≤ 0 then false else true) else true)) ||| (wn &&& ((v_M_opposites (u.2.1 3 m)) ^^^ (-1 : Int32)))) else (gm_b (if wn = 0 then (if (u.2.1 4 m) ≤ 0 then false else true) else true))) else (gm_b (if wn = 0 then (if (u.2.1 4 m) ≤ 0 then false else true) else true))) &&& (30 : Int32)) = 0 then (if (((gm_sG (gm_sB u 4 m (if ((u.2.1 3 m) &&& (1 : Int32)) = 0 then false else true)) 3 m (if (if ((u.2.1 3 m) &&& (1 : Int32)) = 0 then false else true) = true then (if (u.1 4 m) = true then ((gm_b (if wn = 0 then (if (u.2.1 4 m) ≤ 0 then false else true) else true)) ||| (wn &&& ((v_M_opposites (u.2.1 3 m)) ^^^ (-1 : Int32)))) else (gm_b (if wn = 0 then (if (u.2.1 4 m) ≤ 0 then false else true) else true))) else (gm_b (if wn = 0 then (if (u.2.1 4 m) ≤ 0 then false else true) else true)))).2.1 4 m) - (1 : Int32)) < (0 : Int32) then (0 : Int32) else (((gm_sG (gm_sB u 4 m (if ((u.2.1 3 m) &&& (1 : Int32)) = 0 then false else true)) 3 m (if (if ((u.2.1 3 m) &&& (1 : Int32)) = 0 then false else true) = true then (if (u.1 4 m) = true then ((gm_b (if wn = 0 then (if (u.2.1 4 m) ≤ 0 then false else true) else true)) ||| (wn &&& ((v_M_opposites (u.2.1 3 m)) ^^^ (-1 : Int32)))) else (gm_b (if wn = 0 then (if (u.2.1 4 m) ≤ 0 then false else true) else true))) else (gm_b (if wn = 0 then (if (u.2.1 4 m) ≤ 0 then false else true) else true)))).2.1 4 m) - (1 : Int32))) else (10 : Int32)), .ref (a (3 + m))]) := by
          intro ls H locs hl hM
          refine gp_M_39 hF hM (by omega) d_M_switchValves_90 (fun H locs hM => ?_)
          have hq := hQ H locs 93 ls
          simp only [s_M_switchValves] at hq
          exact hq hM d_M_switchValves_93
        refine lv_if_eq (tgt := 80) hx hb d_M_switchValves_72 rfl (fun h7 => ?_) (fun h7 => ?_)
        · refine lv_aload_n hx hb d_M_switchValves_80 rfl (lv_at hl 0 rfl) ?_
          refine gf_M_39 hF hM (by omega) d_M_switchValves_81 ?_
          refine lv_iconst (v := 1) hx hb d_M_switchValves_84 (by decide) ?_
          refine lv_isub hx hb d_M_switchValves_85 ?_
          refine lv_iconst (v := 0) hx hb d_M_switchValves_86 (by decide) ?_
          refine va_mmax hx hb (by rw [hml]; exact hl.1.symm) hown (hts _ gw_ml_M_84) (hts _ gw_mst_max) (hts _ gw_mini) (hts _ gw_mcode_max) (Nat.le_of_ble_eq_true rfl) (Nat.le_of_ble_eq_true rfl) (Nat.zero_le _) (Nat.zero_le _) d_M_switchValves_87 ?_
          have hJ := J8
          try simp only [if_pos h7] at hJ
          exact hJ ls H locs hl hM
        · refine lv_bipush (v := 10) hx hb d_M_switchValves_75 (by decide) ?_
          refine lv_goto (tgt := 90) hx hb d_M_switchValves_77 rfl ?_
          have hJ := J8
          try simp only [if_neg h7] at hJ
          exact hJ ls H locs hl hM
      refine gm_ifz (b := (if ((u.2.1 3 m) &&& (1 : Int32)) = 0 then false else true)) (tgt := 57) hx hb d_M_switchValves_33 rfl (fun h5 => ?_) (fun h5 => ?_)
      · have hJ := J6
        try simp only [if_neg (gm_nf h5)] at hJ
        exact hJ ls H locs (lv_sub hl [1, 2, 3, 0] rfl) hM
      · refine lv_aload_n hx hb d_M_switchValves_36 rfl (lv_at hl 1 rfl) ?_
        refine gf_M_32 hF hM (by omega) d_M_switchValves_37 ?_
        refine gm_ifz (b := (u.1 4 m)) (tgt := 57) hx hb d_M_switchValves_40 rfl (fun h9 => ?_) (fun h9 => ?_)
        · have hJ := J6
          try simp only [if_pos h5, if_neg (gm_nf h9)] at hJ
          exact hJ ls H locs (lv_sub hl [1, 2, 3, 0] rfl) hM
        · refine lv_iload_n hx hb d_M_switchValves_43 rfl (lv_at hl 0 rfl) ?_
          refine lv_iload_n hx hb d_M_switchValves_44 rfl (lv_at hl 2 rfl) ?_
          refine lv_aload_n hx hb d_M_switchValves_45 rfl (lv_at hl 1 rfl) ?_
          refine gf_M_35 hF hM (by omega) d_M_switchValves_46 ?_
          refine gm_Si (As := [.int (u.2.1 3 m)]) (rest := [.int wn, .int (gm_b (if wn = 0 then (if (u.2.1 4 m) ≤ 0 then false else true) else true))]) hF hM (c_M_opposites (u := u) (x := (u.2.1 3 m)) ) (gk_M_81 hts ⟨by decide, by decide⟩) rfl hl.1 rfl (Nat.le_of_ble_eq_true rfl) ⟨Nat.zero_le _, Nat.zero_le _⟩ d_M_switchValves_49 (fun H locs hM => ?_)
          refine lv_iconst (v := -1) hx hb d_M_switchValves_52 (by decide) ?_
          refine lv_ixor hx hb d_M_switchValves_53 ?_
          refine lv_iand hx hb d_M_switchValves_54 ?_
          refine lv_ior hx hb d_M_switchValves_55 ?_
          refine lv_istore_n (lv' := [(3, .int ((gm_b (if wn = 0 then (if (u.2.1 4 m) ≤ 0 then false else true) else true)) ||| (wn &&& ((v_M_opposites (u.2.1 3 m)) ^^^ (-1 : Int32))))), (0, .ref (a (3 + m))), (1, .int wn), (2, .int (gm_b (if ((u.2.1 3 m) &&& (1 : Int32)) = 0 then false else true)))]) hx hb d_M_switchValves_56 rfl hl (by decide) rfl (fun ls hl => ?_)
          have hJ := J6
          try simp only [if_pos h5, if_pos h9] at hJ
          exact hJ ls H locs (lv_sub hl [1, 2, 3, 0] rfl) hM
    refine lv_if_ne (tgt := 26) hx hb d_M_switchValves_16 rfl (fun h3 => ?_) (fun h3 => ?_)
    · refine lv_iconst (v := 1) hx hb d_M_switchValves_26 (by decide) ?_
      refine lv_goto (tgt := 31) hx hb d_M_switchValves_27 rfl ?_
      have hJ := J4
      try simp only [if_neg h3] at hJ
      exact hJ ls H locs (lv_sub hl [1, 2, 0] rfl) hM
    · refine lv_aload_n hx hb d_M_switchValves_19 rfl (lv_at hl 1 rfl) ?_
      refine gf_M_39 hF hM (by omega) d_M_switchValves_20 ?_
      refine lv_if_le (tgt := 30) hx hb d_M_switchValves_23 rfl (fun h10 => ?_) (fun h10 => ?_)
      · refine lv_iconst (v := 0) hx hb d_M_switchValves_30 (by decide) ?_
        have hJ := J4
        try simp only [if_pos h3, if_pos h10] at hJ
        exact hJ ls H locs (lv_sub hl [1, 2, 0] rfl) hM
      · refine lv_iconst (v := 1) hx hb d_M_switchValves_26 (by decide) ?_
        refine lv_goto (tgt := 31) hx hb d_M_switchValves_27 rfl ?_
        have hJ := J4
        try simp only [if_pos h3, if_neg h10] at hJ
        exact hJ ls H locs (lv_sub hl [1, 2, 0] rfl) hM
  refine lv_if_eq (tgt := 13) hx hb d_M_switchValves_6 rfl (fun h1 => ?_) (fun h1 => ?_)
  · refine lv_iconst (v := 0) hx hb d_M_switchValves_13 (by decide) ?_
    have hJ := J2
    try simp only [if_pos h1] at hJ
    exact hJ ls H locs hl hM
  · refine lv_iconst (v := 1) hx hb d_M_switchValves_9 (by decide) ?_
    refine lv_goto (tgt := 14) hx hb d_M_switchValves_10 rfl ?_
    have hJ := J2
    try simp only [if_neg h1] at hJ
    exact hJ ls H locs hl hM
