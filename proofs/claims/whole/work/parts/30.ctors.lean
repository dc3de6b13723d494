-- what the constructors need beside steady words
def gm_Y (U : State) : Prop := va_Nw (.methodLinkNest "GearModules$OneModule" 25 y_S_init "GearModules") U ∧ va_AO "GearModules$Sensor" U ∧ va_AO "GearModules$OneModule" U
theorem gm_Y.calling {U : State} {g : JFrame} {mk : MethodId} {a : Array Value} (h : gm_Y U) : gm_Y (U.calling g mk a) := ⟨va_Nw.same rfl rfl h.1, va_AO.moved (u := U) (U := U.calling g mk a) (Vm.Alike.refl U.vm) h.2.1, va_AO.moved (u := U) (U := U.calling g mk a) (Vm.Alike.refl U.vm) h.2.2⟩
theorem gm_Y.go {s U : State} (h : gm_Y s) (hW : s.WarmedH U.vm) : gm_Y U := ⟨va_Nw.warmM hW h.1, va_AO.moved hW.alike h.2.1, va_AO.moved hW.alike h.2.2⟩
theorem d_S_init_0 : decode b_S_init 0 = .ok (.aload_n 0, 1) := by decide +kernel
theorem d_S_init_1 : decode b_S_init 1 = .ok (.invokespecial 3, 3) := by decide +kernel
theorem d_S_init_4 : decode b_S_init 4 = .ok (.aload_n 0, 1) := by decide +kernel
theorem d_S_init_5 : decode b_S_init 5 = .ok (.bipush 7, 2) := by decide +kernel
theorem d_S_init_7 : decode b_S_init 7 = .ok (.putfield 9, 3) := by decide +kernel
theorem d_S_init_10 : decode b_S_init 10 = .ok (.return_, 1) := by decide +kernel
def p_S_init (D : va_G) (A : Nat → Prop) (h0 : Nat) (t : State) : Prop := va_P D gm_cl [(h0, .inr (2, [.int 0, .int 0, .int 7]))] t.heap ∧ va_D A [(h0, .inr (2, [.int 0, .int 0, .int 7]))]
set_option maxRecDepth 100000 in
set_option maxHeartbeats 8000000 in
theorem c_S_init {l : Launch} {D : va_G} {A : Nat → Prop} {h0 : Nat} : Met l y_S_init (Cond.code y_S_init b_S_init 1 none :: gm_A) { frames := 1, cells := 0, slots := 0, locals := 20 } (va_Pc [.ref h0] (fun U => va_P D gm_cl [(h0, .inr (2, [.int 0, .int 0, .int 0]))] U.heap ∧ va_K D gm_cl [] U ∧ va_D A [(h0, .inr (2, [.int 0, .int 0, .int 0]))])) (va_Qv (fun _ : Unit => True) (fun _ t => p_S_init D A h0 t) A) 0 0 A := by
  refine Met.ofW (cc := b_S_init) (maxL := 1) (ret := none) (by decide) rfl ?_
  intro p e s m args below meth c s₁ B hml hv
  obtain ⟨rfl, hP, hK, hD⟩ := hv
  have hx := B.exec
  have hb := B.bytes
  have hr := B.returns
  have hts0 := atoms_spec B.pre
  have hts := fun w h => hts0 w (List.mem_cons_of_mem _ h)
  have hown : s.vm.findClass R_S = some m.cls := findClass_of_methodNamed B.named
  have hlocks := B.notSynchronized
  have hin : meth.name = "<init>" := (name_of_methodNamed B.named B.method).1
  have hS : va_S A s.heap s.heap [] := va_S.rf
  have hl := lv_entry ([.ref h0]) (n := 1) (Nat.le_of_ble_eq_true rfl)
  rw [lg_entry_eq]
  generalize (lg_sl ([.ref h0]) ++ List.replicate (1 - (lg_sl ([.ref h0])).length) Slot.unset).toArray = ls at hl ⊢
  have hl : lv_has ls 1 [(0, .ref h0)] := hl
  refine lv_aload_n hx hb d_S_init_0 rfl (lv_at hl 0 rfl) ?_
  refine W.objInit hx hb hown (hts _ (gm_in 55 (by decide +kernel) rfl)) (hts _ (gm_in 40 (by decide +kernel) rfl)) (hts _ (gm_in 41 (by decide +kernel) rfl)) rfl (by rw [hml]; exact hl.1) rfl d_S_init_1 (Nat.le_of_ble_eq_true rfl) (Nat.le_of_ble_eq_true rfl) ?_
  refine W.eq (g2 := F0 m 4 ls []) rfl ?_
  refine lv_aload_n hx hb d_S_init_4 rfl (lv_at hl 0 rfl) ?_
  refine lv_bipush (v := 7) hx hb d_S_init_5 (by decide) ?_
  refine va_put (D := D) (ci := 2) (v := .int 7) (ty := .int) (C := R_S) (T := F_S) (N := 3) (ref := "GearModules$Sensor") hx hb hts in_S t_S t_S_ok n_S hown hK hP hD hS 0 rfl rfl 2 (by decide) (hts _ (gm_in 60 (by decide +kernel) rfl)) (fun _ h9 => h9) rfl (by decide +kernel) rfl rfl (Nat.le_of_ble_eq_true rfl) d_S_init_7 (fun H locs hP hD hS => ?_)
  have hP : va_P D gm_cl [(h0, .inr (2, [.int 0, .int 0, .int 7]))] H := hP
  have hD : va_D A [(h0, .inr (2, [.int 0, .int 0, .int 7]))] := hD
  exact W.vret hx hb hr (fun t ht hW => ⟨⟨(), rfl, trivial, by rw [ht]; exact hP, hD⟩, hS.F ht⟩) hS.2.2 d_S_init_10
theorem d_M_init_0 : decode b_M_init 0 = .ok (.aload_n 0, 1) := by decide +kernel
theorem d_M_init_1 : decode b_M_init 1 = .ok (.invokespecial 3, 3) := by decide +kernel
theorem d_M_init_4 : decode b_M_init 4 = .ok (.aload_n 0, 1) := by decide +kernel
theorem d_M_init_5 : decode b_M_init 5 = .ok (.bipush 6, 2) := by decide +kernel
theorem d_M_init_7 : decode b_M_init 7 = .ok (.anewarray 9, 3) := by decide +kernel
theorem d_M_init_10 : decode b_M_init 10 = .ok (.putfield 11, 3) := by decide +kernel
theorem d_M_init_13 : decode b_M_init 13 = .ok (.aload_n 0, 1) := by decide +kernel
theorem d_M_init_14 : decode b_M_init 14 = .ok (.bipush 16, 2) := by decide +kernel
theorem d_M_init_16 : decode b_M_init 16 = .ok (.newarray .int, 2) := by decide +kernel
theorem d_M_init_18 : decode b_M_init 18 = .ok (.putfield 17, 3) := by decide +kernel
theorem d_M_init_21 : decode b_M_init 21 = .ok (.aload_n 0, 1) := by decide +kernel
theorem d_M_init_22 : decode b_M_init 22 = .ok (.iconst 1, 1) := by decide +kernel
theorem d_M_init_23 : decode b_M_init 23 = .ok (.putfield 21, 3) := by decide +kernel
theorem d_M_init_26 : decode b_M_init 26 = .ok (.iconst 0, 1) := by decide +kernel
theorem d_M_init_27 : decode b_M_init 27 = .ok (.istore_n 1, 1) := by decide +kernel
theorem d_M_init_28 : decode b_M_init 28 = .ok (.iload_n 1, 1) := by decide +kernel
theorem d_M_init_29 : decode b_M_init 29 = .ok (.bipush 6, 2) := by decide +kernel
theorem d_M_init_31 : decode b_M_init 31 = .ok (.if_icmp .ge 22, 3) := by decide +kernel
theorem d_M_init_34 : decode b_M_init 34 = .ok (.aload_n 0, 1) := by decide +kernel
theorem d_M_init_35 : decode b_M_init 35 = .ok (.getfield 11, 3) := by decide +kernel
theorem d_M_init_38 : decode b_M_init 38 = .ok (.iload_n 1, 1) := by decide +kernel
theorem d_M_init_39 : decode b_M_init 39 = .ok (.new 9, 3) := by decide +kernel
theorem d_M_init_42 : decode b_M_init 42 = .ok (.dup, 1) := by decide +kernel
theorem d_M_init_43 : decode b_M_init 43 = .ok (.invokespecial 25, 3) := by decide +kernel
theorem d_M_init_46 : decode b_M_init 46 = .ok (.aastore, 1) := by decide +kernel
theorem d_M_init_47 : decode b_M_init 47 = .ok (.iinc 1 1, 3) := by decide +kernel
theorem d_M_init_50 : decode b_M_init 50 = .ok (.goto (-22), 3) := by decide +kernel
theorem d_M_init_53 : decode b_M_init 53 = .ok (.return_, 1) := by decide +kernel
def p_M_init (D : va_G) (A : Nat → Prop) (h0 : Nat) (t : State) : Prop := ∃ (q1 : Nat) (c1 : ClassId) (q2 : Nat) (c2 : ClassId) (q3 : Nat) (q4 : Nat) (q5 : Nat) (q6 : Nat) (q7 : Nat) (q8 : Nat), va_P D gm_cl [(h0, .inr (1, [.ref q1, .ref q2, .int 1, .int 0, .int 0, .int 0, .int 0, .int 0])), (q1, .inl (c1, 6, .inr (.inr (.inr (.inr (va_up (va_up (va_up (va_up (va_up (va_up (fun _ => none) 0 (some q3)) 1 (some q4)) 2 (some q5)) 3 (some q6)) 4 (some q7)) 5 (some q8))))))), (q2, .inl (c2, 16, .inl (fun _ => 0))), (q3, .inr (2, [.int 0, .int 0, .int 7])), (q4, .inr (2, [.int 0, .int 0, .int 7])), (q5, .inr (2, [.int 0, .int 0, .int 7])), (q6, .inr (2, [.int 0, .int 0, .int 7])), (q7, .inr (2, [.int 0, .int 0, .int 7])), (q8, .inr (2, [.int 0, .int 0, .int 7]))] t.heap ∧ va_D A [(h0, .inr (1, [.ref q1, .ref q2, .int 1, .int 0, .int 0, .int 0, .int 0, .int 0])), (q1, .inl (c1, 6, .inr (.inr (.inr (.inr (va_up (va_up (va_up (va_up (va_up (va_up (fun _ => none) 0 (some q3)) 1 (some q4)) 2 (some q5)) 3 (some q6)) 4 (some q7)) 5 (some q8))))))), (q2, .inl (c2, 16, .inl (fun _ => 0))), (q3, .inr (2, [.int 0, .int 0, .int 7])), (q4, .inr (2, [.int 0, .int 0, .int 7])), (q5, .inr (2, [.int 0, .int 0, .int 7])), (q6, .inr (2, [.int 0, .int 0, .int 7])), (q7, .inr (2, [.int 0, .int 0, .int 7])), (q8, .inr (2, [.int 0, .int 0, .int 7]))] ∧ va_K D gm_cl [(c1, .object "GearModules$Sensor"), (c2, .int)] t
set_option maxRecDepth 100000 in
set_option maxHeartbeats 8000000 in
theorem c_M_init {l : Launch} {D : va_G} {A : Nat → Prop} {h0 sz : Nat} (hA0 : ∀ q, sz ≤ q → A q) : Met l y_M_init (Cond.code y_M_init b_M_init 2 none :: gm_A) { frames := 2, cells := 8, slots := 40, locals := 40 } (va_Pc [.ref h0] (fun U => sz ≤ U.heap.size ∧ va_P D gm_cl [(h0, .inr (1, [.null, .null, .int 0, .int 0, .int 0, .int 0, .int 0, .int 0]))] U.heap ∧ va_K D gm_cl [] U ∧ va_D A [(h0, .inr (1, [.null, .null, .int 0, .int 0, .int 0, .int 0, .int 0, .int 0]))] ∧ gm_Y U)) (va_Qv (fun _ : Unit => True) (fun _ t => p_M_init D A h0 t) A) 8 40 A := by
  refine Met.ofW (cc := b_M_init) (maxL := 2) (ret := none) (by decide) rfl ?_
  intro p e s m args below meth c s₁ B hml hv
  obtain ⟨rfl, hsz, hP, hK, hD, hY⟩ := hv
  have hx := B.exec
  have hb := B.bytes
  have hr := B.returns
  have hts0 := atoms_spec B.pre
  have hts := fun w h => hts0 w (List.mem_cons_of_mem _ h)
  have hown : s.vm.findClass R_M = some m.cls := findClass_of_methodNamed B.named
  have hlocks := B.notSynchronized
  have hin : meth.name = "<init>" := (name_of_methodNamed B.named B.method).1
  have hS : va_S A s.heap s.heap [] := va_S.rf
  have hA : ∀ q : Nat, s.heap.size ≤ q → A q := fun q h => hA0 q (Nat.le_trans hsz h)
  have hl := lv_entry ([.ref h0]) (n := 2) (Nat.le_of_ble_eq_true rfl)
  rw [lg_entry_eq]
  generalize (lg_sl ([.ref h0]) ++ List.replicate (2 - (lg_sl ([.ref h0])).length) Slot.unset).toArray = ls at hl ⊢
  have hl : lv_has ls 2 [(0, .ref h0)] := hl
  refine lv_aload_n hx hb d_M_init_0 rfl (lv_at hl 0 rfl) ?_
  refine W.objInit hx hb hown (hts _ (gm_in 48 (by decide +kernel) rfl)) (hts _ (gm_in 40 (by decide +kernel) rfl)) (hts _ (gm_in 41 (by decide +kernel) rfl)) rfl (by rw [hml]; exact hl.1) rfl d_M_init_1 (Nat.le_of_ble_eq_true rfl) (Nat.le_of_ble_eq_true rfl) ?_
  refine W.eq (g2 := F0 m 4 ls []) rfl ?_
  refine lv_aload_n hx hb d_M_init_4 rfl (lv_at hl 0 rfl) ?_
  refine lv_bipush (v := 6) hx hb d_M_init_5 (by decide) ?_
  refine va_newq (N' := 6) hx hb hown (hts _ (gm_in 49 (by decide +kernel) rfl)) hY.2.1 hK hP hD hS hA (by decide) rfl (by decide) (by decide) (by decide) d_M_init_7 (fun q1 c1 H hK hP hD hS => ?_)
  have hP : va_P D gm_cl [(h0, .inr (1, [.null, .null, .int 0, .int 0, .int 0, .int 0, .int 0, .int 0])), (q1, .inl (c1, 6, .inr (.inr (.inr (.inr (fun _ => none))))))] H := hP
  have hD : va_D A [(h0, .inr (1, [.null, .null, .int 0, .int 0, .int 0, .int 0, .int 0, .int 0])), (q1, .inl (c1, 6, .inr (.inr (.inr (.inr (fun _ => none))))))] := hD
  refine va_putF (D := D) (ci := 1) (v := .ref q1) (ty := .array (.object "GearModules$Sensor")) (C := R_M) (T := F_M) (N := 8) (ref := "GearModules$OneModule") hx hb hts in_M t_M t_M_ok n_M hown hK hP hD hS 0 rfl rfl 0 (by decide) (hts _ (gm_in 70 (by decide +kernel) rfl)) (fun _ h9 => h9) rfl hin rfl (by decide +kernel) rfl rfl (Nat.le_of_ble_eq_true rfl) d_M_init_10 (fun H locs hP hD hS => ?_)
  have hP : va_P D gm_cl [(h0, .inr (1, [.ref q1, .null, .int 0, .int 0, .int 0, .int 0, .int 0, .int 0])), (q1, .inl (c1, 6, .inr (.inr (.inr (.inr (fun _ => none))))))] H := hP
  have hD : va_D A [(h0, .inr (1, [.ref q1, .null, .int 0, .int 0, .int 0, .int 0, .int 0, .int 0])), (q1, .inl (c1, 6, .inr (.inr (.inr (.inr (fun _ => none))))))] := hD
  refine lv_aload_n hx hb d_M_init_13 rfl (lv_at hl 0 rfl) ?_
  refine lv_bipush (v := 16) hx hb d_M_init_14 (by decide) ?_
  refine va_newa (ty := .int) (a0 := (16, .inl (fun _ => 0))) (N' := 16) hx hb (hts _ (gm_in 69 (by decide +kernel) rfl)) rfl hK hP hD hS hA (fun _ => rfl) (by decide) rfl (by decide) (by decide) (by decide) d_M_init_16 (fun q2 c2 H hK hP hD hS => ?_)
  have hP : va_P D gm_cl [(h0, .inr (1, [.ref q1, .null, .int 0, .int 0, .int 0, .int 0, .int 0, .int 0])), (q1, .inl (c1, 6, .inr (.inr (.inr (.inr (fun _ => none)))))), (q2, .inl (c2, 16, .inl (fun _ => 0)))] H := hP
  have hD : va_D A [(h0, .inr (1, [.ref q1, .null, .int 0, .int 0, .int 0, .int 0, .int 0, .int 0])), (q1, .inl (c1, 6, .inr (.inr (.inr (.inr (fun _ => none)))))), (q2, .inl (c2, 16, .inl (fun _ => 0)))] := hD
  refine va_putF (D := D) (ci := 1) (v := .ref q2) (ty := .array .int) (C := R_M) (T := F_M) (N := 8) (ref := "GearModules$OneModule") hx hb hts in_M t_M t_M_ok n_M hown hK hP hD hS 0 rfl rfl 1 (by decide) (hts _ (gm_in 72 (by decide +kernel) rfl)) (fun _ h9 => h9) rfl hin rfl (by decide +kernel) rfl rfl (Nat.le_of_ble_eq_true rfl) d_M_init_18 (fun H locs hP hD hS => ?_)
  have hP : va_P D gm_cl [(h0, .inr (1, [.ref q1, .ref q2, .int 0, .int 0, .int 0, .int 0, .int 0, .int 0])), (q1, .inl (c1, 6, .inr (.inr (.inr (.inr (fun _ => none)))))), (q2, .inl (c2, 16, .inl (fun _ => 0)))] H := hP
  have hD : va_D A [(h0, .inr (1, [.ref q1, .ref q2, .int 0, .int 0, .int 0, .int 0, .int 0, .int 0])), (q1, .inl (c1, 6, .inr (.inr (.inr (.inr (fun _ => none)))))), (q2, .inl (c2, 16, .inl (fun _ => 0)))] := hD
  refine lv_aload_n hx hb d_M_init_21 rfl (lv_at hl 0 rfl) ?_
  refine lv_iconst (v := 1) hx hb d_M_init_22 (by decide) ?_
  refine va_put (D := D) (ci := 1) (v := .int 1) (ty := .boolean) (C := R_M) (T := F_M) (N := 8) (ref := "GearModules$OneModule") hx hb hts in_M t_M t_M_ok n_M hown hK hP hD hS 0 rfl rfl 2 (by decide) (hts _ (gm_in 74 (by decide +kernel) rfl)) (fun _ h9 => h9) rfl (by decide +kernel) rfl rfl (Nat.le_of_ble_eq_true rfl) d_M_init_23 (fun H locs hP hD hS => ?_)
  have hP : va_P D gm_cl [(h0, .inr (1, [.ref q1, .ref q2, .int 1, .int 0, .int 0, .int 0, .int 0, .int 0])), (q1, .inl (c1, 6, .inr (.inr (.inr (.inr (fun _ => none)))))), (q2, .inl (c2, 16, .inl (fun _ => 0)))] H := hP
  have hD : va_D A [(h0, .inr (1, [.ref q1, .ref q2, .int 1, .int 0, .int 0, .int 0, .int 0, .int 0])), (q1, .inl (c1, 6, .inr (.inr (.inr (.inr (fun _ => none)))))), (q2, .inl (c2, 16, .inl (fun _ => 0)))] := hD
  refine lv_iconst (v := 0) hx hb d_M_init_26 (by decide) ?_
  refine lv_istore_n (lv' := [(1, .int 0), (0, .ref h0)]) hx hb d_M_init_27 rfl hl (by decide) rfl (fun ls hl => ?_)
  refine lv_iload_n hx hb d_M_init_28 rfl (lv_at hl 0 rfl) ?_
  refine lv_bipush (v := 6) hx hb d_M_init_29 (by decide) ?_
  refine lv_icmp_ge (tgt := 53) hx hb d_M_init_31 rfl (fun h => absurd h (by decide)) (fun _ => ?_)
  refine lv_aload_n hx hb d_M_init_34 rfl (lv_at hl 1 rfl) ?_
  refine va_get (D := D) (ci := 1) (v := .ref q1) (C := R_M) (T := F_M) (N := 8) (ref := "GearModules$OneModule") hx hb hts in_M hown hK hP 0 rfl rfl 0 (by decide) (hts _ (gm_in 70 (by decide +kernel) rfl)) (fun _ h9 => h9) rfl d_M_init_35 ?_
  refine lv_iload_n hx hb d_M_init_38 rfl (lv_at hl 0 rfl) ?_
  refine va_new (ci := 2) (fs := [.int 0, .int 0, .int 0]) (C := R_S) (T := F_S) (N := 3) hx hb hts in_S t_S t_S_ok hown (hts _ (gm_in 49 (by decide +kernel) rfl)) (hts _ (gm_in 51 (by decide +kernel) rfl)) (hts _ (gm_in 30 (by decide +kernel) rfl)) hK hP hD hS hA rfl (fun j hj => by rcases (show j = 0 ∨ j = 1 ∨ j = 2 by omega) with rfl | rfl | rfl <;> rfl) (by decide) (by decide) d_M_init_39 (fun q3 H hP hD hS => ?_)
  have hP : va_P D gm_cl [(h0, .inr (1, [.ref q1, .ref q2, .int 1, .int 0, .int 0, .int 0, .int 0, .int 0])), (q1, .inl (c1, 6, .inr (.inr (.inr (.inr (fun _ => none)))))), (q2, .inl (c2, 16, .inl (fun _ => 0))), (q3, .inr (2, [.int 0, .int 0, .int 0]))] H := hP
  have hD : va_D A [(h0, .inr (1, [.ref q1, .ref q2, .int 1, .int 0, .int 0, .int 0, .int 0, .int 0])), (q1, .inl (c1, 6, .inr (.inr (.inr (.inr (fun _ => none)))))), (q2, .inl (c2, 16, .inl (fun _ => 0))), (q3, .inr (2, [.int 0, .int 0, .int 0]))] := hD
  refine lv_dup hx hb d_M_init_42 rfl ?_
  have hPc := hP.sub (ws' := [(q3, .inr (2, [.int 0, .int 0, .int 0]))]) [3] rfl
  have hDc := hD.sub (ws' := [(q3, .inr (2, [.int 0, .int 0, .int 0]))]) [3] (by decide) rfl
  have hFc := va_free (wc := [(q3, .inr (2, [.int 0, .int 0, .int 0]))]) hD hS hA [3] rfl
  refine va_callv (va_runIN (As := []) (rest := [.ref q3, .int 0, .ref q1]) (host := "GearModules") ⟨hx, hb, hml, hown, hts⟩ (c_S_init (D := D) (A := va_A [(q3, .inr (2, [.int 0, .int 0, .int 0]))] H.size) (h0 := q3)) ⟨va_cnB 0 hts (gm_good (gm_wsC (gm_in 54 (by decide +kernel) rfl))) rfl rfl rfl hY.1 (hts _ (gm_in 30 (by decide +kernel) rfl)) (by decide +kernel) ⟨Nat.le_of_ble_eq_true rfl, Nat.le_of_ble_eq_true rfl⟩, rfl, (hts _ (gm_in 53 (by decide +kernel) rfl))⟩ ⟨fun a U g mk q => ⟨q.1, q.2.1, va_K.moved (u := U) (U := U.calling g mk a) (Vm.Alike.refl U.vm) q.2.2.1, q.2.2.2⟩, fun U hU hW => ⟨rfl, by rw [hU]; exact hPc, va_K.moved hW.alike (hK.sub (tys' := []) [] rfl), hDc.self⟩⟩ rfl rfl hl.1 rfl (lv_room (Nat.le_of_ble_eq_true rfl)) d_M_init_43 ⟨by decide, by decide⟩) hS (fun q _ h => hFc q h) hFc (fun u t H1 locs ht hvm h5 hB hz1 hk1 hS => ?_)
  obtain ⟨hP1, hD1⟩ := hB
  rw [ht] at hP1
  obtain ⟨hP, hD⟩ := va_join (wr := [(h0, .inr (1, [.ref q1, .ref q2, .int 1, .int 0, .int 0, .int 0, .int 0, .int 0])), (q1, .inl (c1, 6, .inr (.inr (.inr (.inr (fun _ => none)))))), (q2, .inl (c2, 16, .inl (fun _ => 0)))]) (w1 := [(q3, .inr (2, [.int 0, .int 0, .int 7]))]) hP hD [3] [0, 1, 2] rfl rfl (by decide) (by decide) hk1 hFc hP1 hD1
  generalize H1 = H at hP hS ⊢
  have hP : va_P D gm_cl [(h0, .inr (1, [.ref q1, .ref q2, .int 1, .int 0, .int 0, .int 0, .int 0, .int 0])), (q1, .inl (c1, 6, .inr (.inr (.inr (.inr (fun _ => none)))))), (q2, .inl (c2, 16, .inl (fun _ => 0))), (q3, .inr (2, [.int 0, .int 0, .int 7]))] H := hP
  have hD : va_D A [(h0, .inr (1, [.ref q1, .ref q2, .int 1, .int 0, .int 0, .int 0, .int 0, .int 0])), (q1, .inl (c1, 6, .inr (.inr (.inr (.inr (fun _ => none)))))), (q2, .inl (c2, 16, .inl (fun _ => 0))), (q3, .inr (2, [.int 0, .int 0, .int 7]))] := hD
  refine va_astq hx hb hK hP hD hS 1 0 3 2 rfl rfl rfl rfl (vp_in_nI (n := 0) (N := 6) (by decide) (by decide)) d_M_init_46 (fun H locs hP hD hS => ?_)
  have hP : va_P D gm_cl [(h0, .inr (1, [.ref q1, .ref q2, .int 1, .int 0, .int 0, .int 0, .int 0, .int 0])), (q1, .inl (c1, 6, .inr (.inr (.inr (.inr (va_up (fun _ => none) 0 (some q3))))))), (q2, .inl (c2, 16, .inl (fun _ => 0))), (q3, .inr (2, [.int 0, .int 0, .int 7]))] H := hP
  have hD : va_D A [(h0, .inr (1, [.ref q1, .ref q2, .int 1, .int 0, .int 0, .int 0, .int 0, .int 0])), (q1, .inl (c1, 6, .inr (.inr (.inr (.inr (va_up (fun _ => none) 0 (some q3))))))), (q2, .inl (c2, 16, .inl (fun _ => 0))), (q3, .inr (2, [.int 0, .int 0, .int 7]))] := hD
  refine lv_iinc (k := 0) (v := 1) (lv' := [(1, .int 1), (0, .ref h0)]) hx hb d_M_init_47 hl rfl (by decide) (by decide) rfl (fun ls hl => ?_)
  refine lv_goto (tgt := 28) hx hb d_M_init_50 rfl ?_
  refine lv_iload_n hx hb d_M_init_28 rfl (lv_at hl 0 rfl) ?_
  refine lv_bipush (v := 6) hx hb d_M_init_29 (by decide) ?_
  refine lv_icmp_ge (tgt := 53) hx hb d_M_init_31 rfl (fun h => absurd h (by decide)) (fun _ => ?_)
  refine lv_aload_n hx hb d_M_init_34 rfl (lv_at hl 1 rfl) ?_
  refine va_get (D := D) (ci := 1) (v := .ref q1) (C := R_M) (T := F_M) (N := 8) (ref := "GearModules$OneModule") hx hb hts in_M hown hK hP 0 rfl rfl 0 (by decide) (hts _ (gm_in 70 (by decide +kernel) rfl)) (fun _ h9 => h9) rfl d_M_init_35 ?_
  refine lv_iload_n hx hb d_M_init_38 rfl (lv_at hl 0 rfl) ?_
  refine va_new (ci := 2) (fs := [.int 0, .int 0, .int 0]) (C := R_S) (T := F_S) (N := 3) hx hb hts in_S t_S t_S_ok hown (hts _ (gm_in 49 (by decide +kernel) rfl)) (hts _ (gm_in 51 (by decide +kernel) rfl)) (hts _ (gm_in 30 (by decide +kernel) rfl)) hK hP hD hS hA rfl (fun j hj => by rcases (show j = 0 ∨ j = 1 ∨ j = 2 by omega) with rfl | rfl | rfl <;> rfl) (by decide) (by decide) d_M_init_39 (fun q4 H hP hD hS => ?_)
  have hP : va_P D gm_cl [(h0, .inr (1, [.ref q1, .ref q2, .int 1, .int 0, .int 0, .int 0, .int 0, .int 0])), (q1, .inl (c1, 6, .inr (.inr (.inr (.inr (va_up (fun _ => none) 0 (some q3))))))), (q2, .inl (c2, 16, .inl (fun _ => 0))), (q3, .inr (2, [.int 0, .int 0, .int 7])), (q4, .inr (2, [.int 0, .int 0, .int 0]))] H := hP
  have hD : va_D A [(h0, .inr (1, [.ref q1, .ref q2, .int 1, .int 0, .int 0, .int 0, .int 0, .int 0])), (q1, .inl (c1, 6, .inr (.inr (.inr (.inr (va_up (fun _ => none) 0 (some q3))))))), (q2, .inl (c2, 16, .inl (fun _ => 0))), (q3, .inr (2, [.int 0, .int 0, .int 7])), (q4, .inr (2, [.int 0, .int 0, .int 0]))] := hD
  refine lv_dup hx hb d_M_init_42 rfl ?_
  have hPc := hP.sub (ws' := [(q4, .inr (2, [.int 0, .int 0, .int 0]))]) [4] rfl
  have hDc := hD.sub (ws' := [(q4, .inr (2, [.int 0, .int 0, .int 0]))]) [4] (by decide) rfl
  have hFc := va_free (wc := [(q4, .inr (2, [.int 0, .int 0, .int 0]))]) hD hS hA [4] rfl
  refine va_callv (va_runIN (As := []) (rest := [.ref q4, .int 1, .ref q1]) (host := "GearModules") ⟨hx, hb, hml, hown, hts⟩ (c_S_init (D := D) (A := va_A [(q4, .inr (2, [.int 0, .int 0, .int 0]))] H.size) (h0 := q4)) ⟨va_cnB 0 hts (gm_good (gm_wsC (gm_in 54 (by decide +kernel) rfl))) rfl rfl rfl hY.1 (hts _ (gm_in 30 (by decide +kernel) rfl)) (by decide +kernel) ⟨Nat.le_of_ble_eq_true rfl, Nat.le_of_ble_eq_true rfl⟩, rfl, (hts _ (gm_in 53 (by decide +kernel) rfl))⟩ ⟨fun a U g mk q => ⟨q.1, q.2.1, va_K.moved (u := U) (U := U.calling g mk a) (Vm.Alike.refl U.vm) q.2.2.1, q.2.2.2⟩, fun U hU hW => ⟨rfl, by rw [hU]; exact hPc, va_K.moved hW.alike (hK.sub (tys' := []) [] rfl), hDc.self⟩⟩ rfl rfl hl.1 rfl (lv_room (Nat.le_of_ble_eq_true rfl)) d_M_init_43 ⟨by decide, by decide⟩) hS (fun q _ h => hFc q h) hFc (fun u t H1 locs ht hvm h5 hB hz1 hk1 hS => ?_)
  obtain ⟨hP1, hD1⟩ := hB
  rw [ht] at hP1
  obtain ⟨hP, hD⟩ := va_join (wr := [(h0, .inr (1, [.ref q1, .ref q2, .int 1, .int 0, .int 0, .int 0, .int 0, .int 0])), (q1, .inl (c1, 6, .inr (.inr (.inr (.inr (va_up (fun _ => none) 0 (some q3))))))), (q2, .inl (c2, 16, .inl (fun _ => 0))), (q3, .inr (2, [.int 0, .int 0, .int 7]))]) (w1 := [(q4, .inr (2, [.int 0, .int 0, .int 7]))]) hP hD [4] [0, 1, 2, 3] rfl rfl (by decide) (by decide) hk1 hFc hP1 hD1
  generalize H1 = H at hP hS ⊢
  have hP : va_P D gm_cl [(h0, .inr (1, [.ref q1, .ref q2, .int 1, .int 0, .int 0, .int 0, .int 0, .int 0])), (q1, .inl (c1, 6, .inr (.inr (.inr (.inr (va_up (fun _ => none) 0 (some q3))))))), (q2, .inl (c2, 16, .inl (fun _ => 0))), (q3, .inr (2, [.int 0, .int 0, .int 7])), (q4, .inr (2, [.int 0, .int 0, .int 7]))] H := hP
  have hD : va_D A [(h0, .inr (1, [.ref q1, .ref q2, .int 1, .int 0, .int 0, .int 0, .int 0, .int 0])), (q1, .inl (c1, 6, .inr (.inr (.inr (.inr (va_up (fun _ => none) 0 (some q3))))))), (q2, .inl (c2, 16, .inl (fun _ => 0))), (q3, .inr (2, [.int 0, .int 0, .int 7])), (q4, .inr (2, [.int 0, .int 0, .int 7]))] := hD
  refine va_astq hx hb hK hP hD hS 1 0 4 2 rfl rfl rfl rfl (vp_in_nI (n := 1) (N := 6) (by decide) (by decide)) d_M_init_46 (fun H locs hP hD hS => ?_)
  have hP : va_P D gm_cl [(h0, .inr (1, [.ref q1, .ref q2, .int 1, .int 0, .int 0, .int 0, .int 0, .int 0])), (q1, .inl (c1, 6, .inr (.inr (.inr (.inr (va_up (va_up (fun _ => none) 0 (some q3)) 1 (some q4))))))), (q2, .inl (c2, 16, .inl (fun _ => 0))), (q3, .inr (2, [.int 0, .int 0, .int 7])), (q4, .inr (2, [.int 0, .int 0, .int 7]))] H := hP
  have hD : va_D A [(h0, .inr (1, [.ref q1, .ref q2, .int 1, .int 0, .int 0, .int 0, .int 0, .int 0])), (q1, .inl (c1, 6, .inr (.inr (.inr (.inr (va_up (va_up (fun _ => none) 0 (some q3)) 1 (some q4))))))), (q2, .inl (c2, 16, .inl (fun _ => 0))), (q3, .inr (2, [.int 0, .int 0, .int 7])), (q4, .inr (2, [.int 0, .int 0, .int 7]))] := hD
  refine lv_iinc (k := 0) (v := 2) (lv' := [(1, .int 2), (0, .ref h0)]) hx hb d_M_init_47 hl rfl (by decide) (by decide) rfl (fun ls hl => ?_)
  refine lv_goto (tgt := 28) hx hb d_M_init_50 rfl ?_
  refine lv_iload_n hx hb d_M_init_28 rfl (lv_at hl 0 rfl) ?_
  refine lv_bipush (v := 6) hx hb d_M_init_29 (by decide) ?_
  refine lv_icmp_ge (tgt := 53) hx hb d_M_init_31 rfl (fun h => absurd h (by decide)) (fun _ => ?_)
  refine lv_aload_n hx hb d_M_init_34 rfl (lv_at hl 1 rfl) ?_
  refine va_get (D := D) (ci := 1) (v := .ref q1) (C := R_M) (T := F_M) (N := 8) (ref := "GearModules$OneModule") hx hb hts in_M hown hK hP 0 rfl rfl 0 (by decide) (hts _ (gm_in 70 (by decide +kernel) rfl)) (fun _ h9 => h9) rfl d_M_init_35 ?_
  refine lv_iload_n hx hb d_M_init_38 rfl (lv_at hl 0 rfl) ?_
  refine va_new (ci := 2) (fs := [.int 0, .int 0, .int 0]) (C := R_S) (T := F_S) (N := 3) hx hb hts in_S t_S t_S_ok hown (hts _ (gm_in 49 (by decide +kernel) rfl)) (hts _ (gm_in 51 (by decide +kernel) rfl)) (hts _ (gm_in 30 (by decide +kernel) rfl)) hK hP hD hS hA rfl (fun j hj => by rcases (show j = 0 ∨ j = 1 ∨ j = 2 by omega) with rfl | rfl | rfl <;> rfl) (by decide) (by decide) d_M_init_39 (fun q5 H hP hD hS => ?_)
  have hP : va_P D gm_cl [(h0, .inr (1, [.ref q1, .ref q2, .int 1, .int 0, .int 0, .int 0, .int 0, .int 0])), (q1, .inl (c1, 6, .inr (.inr (.inr (.inr (va_up (va_up (fun _ => none) 0 (some q3)) 1 (some q4))))))), (q2, .inl (c2, 16, .inl (fun _ => 0))), (q3, .inr (2, [.int 0, .int 0, .int 7])), (q4, .inr (2, [.int 0, .int 0, .int 7])), (q5, .inr (2, [.int 0, .int 0, .int 0]))] H := hP
  have hD : va_D A [(h0, .inr (1, [.ref q1, .ref q2, .int 1, .int 0, .int 0, .int 0, .int 0, .int 0])), (q1, .inl (c1, 6, .inr (.inr (.inr (.inr (va_up (va_up (fun _ => none) 0 (some q3)) 1 (some q4))))))), (q2, .inl (c2, 16, .inl (fun _ => 0))), (q3, .inr (2, [.int 0, .int 0, .int 7])), (q4, .inr (2, [.int 0, .int 0, .int 7])), (q5, .inr (2, [.int 0, .int 0, .int 0]))] := hD
  refine lv_dup hx hb d_M_init_42 rfl ?_
  have hPc := hP.sub (ws' := [(q5, .inr (2, [.int 0, .int 0, .int 0]))]) [5] rfl
  have hDc := hD.sub (ws' := [(q5, .inr (2, [.int 0, .int 0, .int 0]))]) [5] (by decide) rfl
  have hFc := va_free (wc := [(q5, .inr (2, [.int 0, .int 0, .int 0]))]) hD hS hA [5] rfl
  refine va_callv (va_runIN (As := []) (rest := [.ref q5, .int 2, .ref q1]) (host := "GearModules") ⟨hx, hb, hml, hown, hts⟩ (c_S_init (D := D) (A := va_A [(q5, .inr (2, [.int 0, .int 0, .int 0]))] H.size) (h0 := q5)) ⟨va_cnB 0 hts (gm_good (gm_wsC (gm_in 54 (by decide +kernel) rfl))) rfl rfl rfl hY.1 (hts _ (gm_in 30 (by decide +kernel) rfl)) (by decide +kernel) ⟨Nat.le_of_ble_eq_true rfl, Nat.le_of_ble_eq_true rfl⟩, rfl, (hts _ (gm_in 53 (by decide +kernel) rfl))⟩ ⟨fun a U g mk q => ⟨q.1, q.2.1, va_K.moved (u := U) (U := U.calling g mk a) (Vm.Alike.refl U.vm) q.2.2.1, q.2.2.2⟩, fun U hU hW => ⟨rfl, by rw [hU]; exact hPc, va_K.moved hW.alike (hK.sub (tys' := []) [] rfl), hDc.self⟩⟩ rfl rfl hl.1 rfl (lv_room (Nat.le_of_ble_eq_true rfl)) d_M_init_43 ⟨by decide, by decide⟩) hS (fun q _ h => hFc q h) hFc (fun u t H1 locs ht hvm h5 hB hz1 hk1 hS => ?_)
  obtain ⟨hP1, hD1⟩ := hB
  rw [ht] at hP1
  obtain ⟨hP, hD⟩ := va_join (wr := [(h0, .inr (1, [.ref q1, .ref q2, .int 1, .int 0, .int 0, .int 0, .int 0, .int 0])), (q1, .inl (c1, 6, .inr (.inr (.inr (.inr (va_up (va_up (fun _ => none) 0 (some q3)) 1 (some q4))))))), (q2, .inl (c2, 16, .inl (fun _ => 0))), (q3, .inr (2, [.int 0, .int 0, .int 7])), (q4, .inr (2, [.int 0, .int 0, .int 7]))]) (w1 := [(q5, .inr (2, [.int 0, .int 0, .int 7]))]) hP hD [5] [0, 1, 2, 3, 4] rfl rfl (by decide) (by decide) hk1 hFc hP1 hD1
  generalize H1 = H at hP hS ⊢
  have hP : va_P D gm_cl [(h0, .inr (1, [.ref q1, .ref q2, .int 1, .int 0, .int 0, .int 0, .int 0, .int 0])), (q1, .inl (c1, 6, .inr (.inr (.inr (.inr (va_up (va_up (fun _ => none) 0 (some q3)) 1 (some q4))))))), (q2, .inl (c2, 16, .inl (fun _ => 0))), (q3, .inr (2, [.int 0, .int 0, .int 7])), (q4, .inr (2, [.int 0, .int 0, .int 7])), (q5, .inr (2, [.int 0, .int 0, .int 7]))] H := hP
  have hD : va_D A [(h0, .inr (1, [.ref q1, .ref q2, .int 1, .int 0, .int 0, .int 0, .int 0, .int 0])), (q1, .inl (c1, 6, .inr (.inr (.inr (.inr (va_up (va_up (fun _ => none) 0 (some q3)) 1 (some q4))))))), (q2, .inl (c2, 16, .inl (fun _ => 0))), (q3, .inr (2, [.int 0, .int 0, .int 7])), (q4, .inr (2, [.int 0, .int 0, .int 7])), (q5, .inr (2, [.int 0, .int 0, .int 7]))] := hD
  refine va_astq hx hb hK hP hD hS 1 0 5 2 rfl rfl rfl rfl (vp_in_nI (n := 2) (N := 6) (by decide) (by decide)) d_M_init_46 (fun H locs hP hD hS => ?_)
  have hP : va_P D gm_cl [(h0, .inr (1, [.ref q1, .ref q2, .int 1, .int 0, .int 0, .int 0, .int 0, .int 0])), (q1, .inl (c1, 6, .inr (.inr (.inr (.inr (va_up (va_up (va_up (fun _ => none) 0 (some q3)) 1 (some q4)) 2 (some q5))))))), (q2, .inl (c2, 16, .inl (fun _ => 0))), (q3, .inr (2, [.int 0, .int 0, .int 7])), (q4, .inr (2, [.int 0, .int 0, .int 7])), (q5, .inr (2, [.int 0, .int 0, .int 7]))] H := hP
  have hD : va_D A [(h0, .inr (1, [.ref q1, .ref q2, .int 1, .int 0, .int 0, .int 0, .int 0, .int 0])), (q1, .inl (c1, 6, .inr (.inr (.inr (.inr (va_up (va_up (va_up (fun _ => none) 0 (some q3)) 1 (some q4)) 2 (some q5))))))), (q2, .inl (c2, 16, .inl (fun _ => 0))), (q3, .inr (2, [.int 0, .int 0, .int 7])), (q4, .inr (2, [.int 0, .int 0, .int 7])), (q5, .inr (2, [.int 0, .int 0, .int 7]))] := hD
  refine lv_iinc (k := 0) (v := 3) (lv' := [(1, .int 3), (0, .ref h0)]) hx hb d_M_init_47 hl rfl (by decide) (by decide) rfl (fun ls hl => ?_)
  refine lv_goto (tgt := 28) hx hb d_M_init_50 rfl ?_
  refine lv_iload_n hx hb d_M_init_28 rfl (lv_at hl 0 rfl) ?_
  refine lv_bipush (v := 6) hx hb d_M_init_29 (by decide) ?_
  refine lv_icmp_ge (tgt := 53) hx hb d_M_init_31 rfl (fun h => absurd h (by decide)) (fun _ => ?_)
  refine lv_aload_n hx hb d_M_init_34 rfl (lv_at hl 1 rfl) ?_
  refine va_get (D := D) (ci := 1) (v := .ref q1) (C := R_M) (T := F_M) (N := 8) (ref := "GearModules$OneModule") hx hb hts in_M hown hK hP 0 rfl rfl 0 (by decide) (hts _ (gm_in 70 (by decide +kernel) rfl)) (fun _ h9 => h9) rfl d_M_init_35 ?_
  refine lv_iload_n hx hb d_M_init_38 rfl (lv_at hl 0 rfl) ?_
  refine va_new (ci := 2) (fs := [.int 0, .int 0, .int 0]) (C := R_S) (T := F_S) (N := 3) hx hb hts in_S t_S t_S_ok hown (hts _ (gm_in 49 (by decide +kernel) rfl)) (hts _ (gm_in 51 (by decide +kernel) rfl)) (hts _ (gm_in 30 (by decide +kernel) rfl)) hK hP hD hS hA rfl (fun j hj => by rcases (show j = 0 ∨ j = 1 ∨ j = 2 by omega) with rfl | rfl | rfl <;> rfl) (by decide) (by decide) d_M_init_39 (fun q6 H hP hD hS => ?_)
  have hP : va_P D gm_cl [(h0, .inr (1, [.ref q1, .ref q2, .int 1, .int 0, .int 0, .int 0, .int 0, .int 0])), (q1, .inl (c1, 6, .inr (.inr (.inr (.inr (va_up (va_up (va_up (fun _ => none) 0 (some q3)) 1 (some q4)) 2 (some q5))))))), (q2, .inl (c2, 16, .inl (fun _ => 0))), (q3, .inr (2, [.int 0, .int 0, .int 7])), (q4, .inr (2, [.int 0, .int 0, .int 7])), (q5, .inr (2, [.int 0, .int 0, .int 7])), (q6, .inr (2, [.int 0, .int 0, .int 0]))] H := hP
  have hD : va_D A [(h0, .inr (1, [.ref q1, .ref q2, .int 1, .int 0, .int 0, .int 0, .int 0, .int 0])), (q1, .inl (c1, 6, .inr (.inr (.inr (.inr (va_up (va_up (va_up (fun _ => none) 0 (some q3)) 1 (some q4)) 2 (some q5))))))), (q2, .inl (c2, 16, .inl (fun _ => 0))), (q3, .inr (2, [.int 0, .int 0, .int 7])), (q4, .inr (2, [.int 0, .int 0, .int 7])), (q5, .inr (2, [.int 0, .int 0, .int 7])), (q6, .inr (2, [.int 0, .int 0, .int 0]))] := hD
  refine lv_dup hx hb d_M_init_42 rfl ?_
  have hPc := hP.sub (ws' := [(q6, .inr (2, [.int 0, .int 0, .int 0]))]) [6] rfl
  have hDc := hD.sub (ws' := [(q6, .inr (2, [.int 0, .int 0, .int 0]))]) [6] (by decide) rfl
  have hFc := va_free (wc := [(q6, .inr (2, [.int 0, .int 0, .int 0]))]) hD hS hA [6] rfl
  refine va_callv (va_runIN (As := []) (rest := [.ref q6, .int 3, .ref q1]) (host := "GearModules") ⟨hx, hb, hml, hown, hts⟩ (c_S_init (D := D) (A := va_A [(q6, .inr (2, [.int 0, .int 0, .int 0]))] H.size) (h0 := q6)) ⟨va_cnB 0 hts (gm_good (gm_wsC (gm_in 54 (by decide +kernel) rfl))) rfl rfl rfl hY.1 (hts _ (gm_in 30 (by decide +kernel) rfl)) (by decide +kernel) ⟨Nat.le_of_ble_eq_true rfl, Nat.le_of_ble_eq_true rfl⟩, rfl, (hts _ (gm_in 53 (by decide +kernel) rfl))⟩ ⟨fun a U g mk q => ⟨q.1, q.2.1, va_K.moved (u := U) (U := U.calling g mk a) (Vm.Alike.refl U.vm) q.2.2.1, q.2.2.2⟩, fun U hU hW => ⟨rfl, by rw [hU]; exact hPc, va_K.moved hW.alike (hK.sub (tys' := []) [] rfl), hDc.self⟩⟩ rfl rfl hl.1 rfl (lv_room (Nat.le_of_ble_eq_true rfl)) d_M_init_43 ⟨by decide, by decide⟩) hS (fun q _ h => hFc q h) hFc (fun u t H1 locs ht hvm h5 hB hz1 hk1 hS => ?_)
  obtain ⟨hP1, hD1⟩ := hB
  rw [ht] at hP1
  obtain ⟨hP, hD⟩ := va_join (wr := [(h0, .inr (1, [.ref q1, .ref q2, .int 1, .int 0, .int 0, .int 0, .int 0, .int 0])), (q1, .inl (c1, 6, .inr (.inr (.inr (.inr (va_up (va_up (va_up (fun _ => none) 0 (some q3)) 1 (some q4)) 2 (some q5))))))), (q2, .inl (c2, 16, .inl (fun _ => 0))), (q3, .inr (2, [.int 0, .int 0, .int 7])), (q4, .inr (2, [.int 0, .int 0, .int 7])), (q5, .inr (2, [.int 0, .int 0, .int 7]))]) (w1 := [(q6, .inr (2, [.int 0, .int 0, .int 7]))]) hP hD [6] [0, 1, 2, 3, 4, 5] rfl rfl (by decide) (by decide) hk1 hFc hP1 hD1
  generalize H1 = H at hP hS ⊢
  have hP : va_P D gm_cl [(h0, .inr (1, [.ref q1, .ref q2, .int 1, .int 0, .int 0, .int 0, .int 0, .int 0])), (q1, .inl (c1, 6, .inr (.inr (.inr (.inr (va_up (va_up (va_up (fun _ => none) 0 (some q3)) 1 (some q4)) 2 (some q5))))))), (q2, .inl (c2, 16, .inl (fun _ => 0))), (q3, .inr (2, [.int 0, .int 0, .int 7])), (q4, .inr (2, [.int 0, .int 0, .int 7])), (q5, .inr (2, [.int 0, .int 0, .int 7])), (q6, .inr (2, [.int 0, .int 0, .int 7]))] H := hP
  have hD : va_D A [(h0, .inr (1, [.ref q1, .ref q2, .int 1, .int 0, .int 0, .int 0, .int 0, .int 0])), (q1, .inl (c1, 6, .inr (.inr (.inr (.inr (va_up (va_up (va_up (fun _ => none) 0 (some q3)) 1 (some q4)) 2 (some q5))))))), (q2, .inl (c2, 16, .inl (fun _ => 0))), (q3, .inr (2, [.int 0, .int 0, .int 7])), (q4, .inr (2, [.int 0, .int 0, .int 7])), (q5, .inr (2, [.int 0, .int 0, .int 7])), (q6, .inr (2, [.int 0, .int 0, .int 7]))] := hD
  refine va_astq hx hb hK hP hD hS 1 0 6 2 rfl rfl rfl rfl (vp_in_nI (n := 3) (N := 6) (by decide) (by decide)) d_M_init_46 (fun H locs hP hD hS => ?_)
  have hP : va_P D gm_cl [(h0, .inr (1, [.ref q1, .ref q2, .int 1, .int 0, .int 0, .int 0, .int 0, .int 0])), (q1, .inl (c1, 6, .inr (.inr (.inr (.inr (va_up (va_up (va_up (va_up (fun _ => none) 0 (some q3)) 1 (some q4)) 2 (some q5)) 3 (some q6))))))), (q2, .inl (c2, 16, .inl (fun _ => 0))), (q3, .inr (2, [.int 0, .int 0, .int 7])), (q4, .inr (2, [.int 0, .int 0, .int 7])), (q5, .inr (2, [.int 0, .int 0, .int 7])), (q6, .inr (2, [.int 0, .int 0, .int 7]))] H := hP
  have hD : va_D A [(h0, .inr (1, [.ref q1, .ref q2, .int 1, .int 0, .int 0, .int 0, .int 0, .int 0])), (q1, .inl (c1, 6, .inr (.inr (.inr (.inr (va_up (va_up (va_up (va_up (fun _ => none) 0 (some q3)) 1 (some q4)) 2 (some q5)) 3 (some q6))))))), (q2, .inl (c2, 16, .inl (fun _ => 0))), (q3, .inr (2, [.int 0, .int 0, .int 7])), (q4, .inr (2, [.int 0, .int 0, .int 7])), (q5, .inr (2, [.int 0, .int 0, .int 7])), (q6, .inr (2, [.int 0, .int 0, .int 7]))] := hD
  refine lv_iinc (k := 0) (v := 4) (lv' := [(1, .int 4), (0, .ref h0)]) hx hb d_M_init_47 hl rfl (by decide) (by decide) rfl (fun ls hl => ?_)
  refine lv_goto (tgt := 28) hx hb d_M_init_50 rfl ?_
  refine lv_iload_n hx hb d_M_init_28 rfl (lv_at hl 0 rfl) ?_
  refine lv_bipush (v := 6) hx hb d_M_init_29 (by decide) ?_
  refine lv_icmp_ge (tgt := 53) hx hb d_M_init_31 rfl (fun h => absurd h (by decide)) (fun _ => ?_)
  refine lv_aload_n hx hb d_M_init_34 rfl (lv_at hl 1 rfl) ?_
  refine va_get (D := D) (ci := 1) (v := .ref q1) (C := R_M) (T := F_M) (N := 8) (ref := "GearModules$OneModule") hx hb hts in_M hown hK hP 0 rfl rfl 0 (by decide) (hts _ (gm_in 70 (by decide +kernel) rfl)) (fun _ h9 => h9) rfl d_M_init_35 ?_
  refine lv_iload_n hx hb d_M_init_38 rfl (lv_at hl 0 rfl) ?_
  refine va_new (ci := 2) (fs := [.int 0, .int 0, .int 0]) (C := R_S) (T := F_S) (N := 3) hx hb hts in_S t_S t_S_ok hown (hts _ (gm_in 49 (by decide +kernel) rfl)) (hts _ (gm_in 51 (by decide +kernel) rfl)) (hts _ (gm_in 30 (by decide +kernel) rfl)) hK hP hD hS hA rfl (fun j hj => by rcases (show j = 0 ∨ j = 1 ∨ j = 2 by omega) with rfl | rfl | rfl <;> rfl) (by decide) (by decide) d_M_init_39 (fun q7 H hP hD hS => ?_)
  have hP : va_P D gm_cl [(h0, .inr (1, [.ref q1, .ref q2, .int 1, .int 0, .int 0, .int 0, .int 0, .int 0])), (q1, .inl (c1, 6, .inr (.inr (.inr (.inr (va_up (va_up (va_up (va_up (fun _ => none) 0 (some q3)) 1 (some q4)) 2 (some q5)) 3 (some q6))))))), (q2, .inl (c2, 16, .inl (fun _ => 0))), (q3, .inr (2, [.int 0, .int 0, .int 7])), (q4, .inr (2, [.int 0, .int 0, .int 7])), (q5, .inr (2, [.int 0, .int 0, .int 7])), (q6, .inr (2, [.int 0, .int 0, .int 7])), (q7, .inr (2, [.int 0, .int 0, .int 0]))] H := hP
  have hD : va_D A [(h0, .inr (1, [.ref q1, .ref q2, .int 1, .int 0, .int 0, .int 0, .int 0, .int 0])), (q1, .inl (c1, 6, .inr (.inr (.inr (.inr (va_up (va_up (va_up (va_up (fun _ => none) 0 (some q3)) 1 (some q4)) 2 (some q5)) 3 (some q6))))))), (q2, .inl (c2, 16, .inl (fun _ => 0))), (q3, .inr (2, [.int 0, .int 0, .int 7])), (q4, .inr (2, [.int 0, .int 0, .int 7])), (q5, .inr (2, [.int 0, .int 0, .int 7])), (q6, .inr (2, [.int 0, .int 0, .int 7])), (q7, .inr (2, [.int 0, .int 0, .int 0]))] := hD
  refine lv_dup hx hb d_M_init_42 rfl ?_
  have hPc := hP.sub (ws' := [(q7, .inr (2, [.int 0, .int 0, .int 0]))]) [7] rfl
  have hDc := hD.sub (ws' := [(q7, .inr (2, [.int 0, .int 0, .int 0]))]) [7] (by decide) rfl
  have hFc := va_free (wc := [(q7, .inr (2, [.int 0, .int 0, .int 0]))]) hD hS hA [7] rfl
  refine va_callv (va_runIN (As := []) (rest := [.ref q7, .int 4, .ref q1]) (host := "GearModules") ⟨hx, hb, hml, hown, hts⟩ (c_S_init (D := D) (A := va_A [(q7, .inr (2, [.int 0, .int 0, .int 0]))] H.size) (h0 := q7)) ⟨va_cnB 0 hts (gm_good (gm_wsC (gm_in 54 (by decide +kernel) rfl))) rfl rfl rfl hY.1 (hts _ (gm_in 30 (by decide +kernel) rfl)) (by decide +kernel) ⟨Nat.le_of_ble_eq_true rfl, Nat.le_of_ble_eq_true rfl⟩, rfl, (hts _ (gm_in 53 (by decide +kernel) rfl))⟩ ⟨fun a U g mk q => ⟨q.1, q.2.1, va_K.moved (u := U) (U := U.calling g mk a) (Vm.Alike.refl U.vm) q.2.2.1, q.2.2.2⟩, fun U hU hW => ⟨rfl, by rw [hU]; exact hPc, va_K.moved hW.alike (hK.sub (tys' := []) [] rfl), hDc.self⟩⟩ rfl rfl hl.1 rfl (lv_room (Nat.le_of_ble_eq_true rfl)) d_M_init_43 ⟨by decide, by decide⟩) hS (fun q _ h => hFc q h) hFc (fun u t H1 locs ht hvm h5 hB hz1 hk1 hS => ?_)
  obtain ⟨hP1, hD1⟩ := hB
  rw [ht] at hP1
  obtain ⟨hP, hD⟩ := va_join (wr := [(h0, .inr (1, [.ref q1, .ref q2, .int 1, .int 0, .int 0, .int 0, .int 0, .int 0])), (q1, .inl (c1, 6, .inr (.inr (.inr (.inr (va_up (va_up (va_up (va_up (fun _ => none) 0 (some q3)) 1 (some q4)) 2 (some q5)) 3 (some q6))))))), (q2, .inl (c2, 16, .inl (fun _ => 0))), (q3, .inr (2, [.int 0, .int 0, .int 7])), (q4, .inr (2, [.int 0, .int 0, .int 7])), (q5, .inr (2, [.int 0, .int 0, .int 7])), (q6, .inr (2, [.int 0, .int 0, .int 7]))]) (w1 := [(q7, .inr (2, [.int 0, .int 0, .int 7]))]) hP hD [7] [0, 1, 2, 3, 4, 5, 6] rfl rfl (by decide) (by decide) hk1 hFc hP1 hD1
  generalize H1 = H at hP hS ⊢
  have hP : va_P D gm_cl [(h0, .inr (1, [.ref q1, .ref q2, .int 1, .int 0, .int 0, .int 0, .int 0, .int 0])), (q1, .inl (c1, 6, .inr (.inr (.inr (.inr (va_up (va_up (va_up (va_up (fun _ => none) 0 (some q3)) 1 (some q4)) 2 (some q5)) 3 (some q6))))))), (q2, .inl (c2, 16, .inl (fun _ => 0))), (q3, .inr (2, [.int 0, .int 0, .int 7])), (q4, .inr (2, [.int 0, .int 0, .int 7])), (q5, .inr (2, [.int 0, .int 0, .int 7])), (q6, .inr (2, [.int 0, .int 0, .int 7])), (q7, .inr (2, [.int 0, .int 0, .int 7]))] H := hP
  have hD : va_D A [(h0, .inr (1, [.ref q1, .ref q2, .int 1, .int 0, .int 0, .int 0, .int 0, .int 0])), (q1, .inl (c1, 6, .inr (.inr (.inr (.inr (va_up (va_up (va_up (va_up (fun _ => none) 0 (some q3)) 1 (some q4)) 2 (some q5)) 3 (some q6))))))), (q2, .inl (c2, 16, .inl (fun _ => 0))), (q3, .inr (2, [.int 0, .int 0, .int 7])), (q4, .inr (2, [.int 0, .int 0, .int 7])), (q5, .inr (2, [.int 0, .int 0, .int 7])), (q6, .inr (2, [.int 0, .int 0, .int 7])), (q7, .inr (2, [.int 0, .int 0, .int 7]))] := hD
  refine va_astq hx hb hK hP hD hS 1 0 7 2 rfl rfl rfl rfl (vp_in_nI (n := 4) (N := 6) (by decide) (by decide)) d_M_init_46 (fun H locs hP hD hS => ?_)
  have hP : va_P D gm_cl [(h0, .inr (1, [.ref q1, .ref q2, .int 1, .int 0, .int 0, .int 0, .int 0, .int 0])), (q1, .inl (c1, 6, .inr (.inr (.inr (.inr (va_up (va_up (va_up (va_up (va_up (fun _ => none) 0 (some q3)) 1 (some q4)) 2 (some q5)) 3 (some q6)) 4 (some q7))))))), (q2, .inl (c2, 16, .inl (fun _ => 0))), (q3, .inr (2, [.int 0, .int 0, .int 7])), (q4, .inr (2, [.int 0, .int 0, .int 7])), (q5, .inr (2, [.int 0, .int 0, .int 7])), (q6, .inr (2, [.int 0, .int 0, .int 7])), (q7, .inr (2, [.int 0, .int 0, .int 7]))] H := hP
  have hD : va_D A [(h0, .inr (1, [.ref q1, .ref q2, .int 1, .int 0, .int 0, .int 0, .int 0, .int 0])), (q1, .inl (c1, 6, .inr (.inr (.inr (.inr (va_up (va_up (va_up (va_up (va_up (fun _ => none) 0 (some q3)) 1 (some q4)) 2 (some q5)) 3 (some q6)) 4 (some q7))))))), (q2, .inl (c2, 16, .inl (fun _ => 0))), (q3, .inr (2, [.int 0, .int 0, .int 7])), (q4, .inr (2, [.int 0, .int 0, .int 7])), (q5, .inr (2, [.int 0, .int 0, .int 7])), (q6, .inr (2, [.int 0, .int 0, .int 7])), (q7, .inr (2, [.int 0, .int 0, .int 7]))] := hD
  refine lv_iinc (k := 0) (v := 5) (lv' := [(1, .int 5), (0, .ref h0)]) hx hb d_M_init_47 hl rfl (by decide) (by decide) rfl (fun ls hl => ?_)
  refine lv_goto (tgt := 28) hx hb d_M_init_50 rfl ?_
  refine lv_iload_n hx hb d_M_init_28 rfl (lv_at hl 0 rfl) ?_
  refine lv_bipush (v := 6) hx hb d_M_init_29 (by decide) ?_
  refine lv_icmp_ge (tgt := 53) hx hb d_M_init_31 rfl (fun h => absurd h (by decide)) (fun _ => ?_)
  refine lv_aload_n hx hb d_M_init_34 rfl (lv_at hl 1 rfl) ?_
  refine va_get (D := D) (ci := 1) (v := .ref q1) (C := R_M) (T := F_M) (N := 8) (ref := "GearModules$OneModule") hx hb hts in_M hown hK hP 0 rfl rfl 0 (by decide) (hts _ (gm_in 70 (by decide +kernel) rfl)) (fun _ h9 => h9) rfl d_M_init_35 ?_
  refine lv_iload_n hx hb d_M_init_38 rfl (lv_at hl 0 rfl) ?_
  refine va_new (ci := 2) (fs := [.int 0, .int 0, .int 0]) (C := R_S) (T := F_S) (N := 3) hx hb hts in_S t_S t_S_ok hown (hts _ (gm_in 49 (by decide +kernel) rfl)) (hts _ (gm_in 51 (by decide +kernel) rfl)) (hts _ (gm_in 30 (by decide +kernel) rfl)) hK hP hD hS hA rfl (fun j hj => by rcases (show j = 0 ∨ j = 1 ∨ j = 2 by omega) with rfl | rfl | rfl <;> rfl) (by decide) (by decide) d_M_init_39 (fun q8 H hP hD hS => ?_)
  have hP : va_P D gm_cl [(h0, .inr (1, [.ref q1, .ref q2, .int 1, .int 0, .int 0, .int 0, .int 0, .int 0])), (q1, .inl (c1, 6, .inr (.inr (.inr (.inr (va_up (va_up (va_up (va_up (va_up (fun _ => none) 0 (some q3)) 1 (some q4)) 2 (some q5)) 3 (some q6)) 4 (some q7))))))), (q2, .inl (c2, 16, .inl (fun _ => 0))), (q3, .inr (2, [.int 0, .int 0, .int 7])), (q4, .inr (2, [.int 0, .int 0, .int 7])), (q5, .inr (2, [.int 0, .int 0, .int 7])), (q6, .inr (2, [.int 0, .int 0, .int 7])), (q7, .inr (2, [.int 0, .int 0, .int 7])), (q8, .inr (2, [.int 0, .int 0, .int 0]))] H := hP
  have hD : va_D A [(h0, .inr (1, [.ref q1, .ref q2, .int 1, .int 0, .int 0, .int 0, .int 0, .int 0])), (q1, .inl (c1, 6, .inr (.inr (.inr (.inr (va_up (va_up (va_up (va_up (va_up (fun _ => none) 0 (some q3)) 1 (some q4)) 2 (some q5)) 3 (some q6)) 4 (some q7))))))), (q2, .inl (c2, 16, .inl (fun _ => 0))), (q3, .inr (2, [.int 0, .int 0, .int 7])), (q4, .inr (2, [.int 0, .int 0, .int 7])), (q5, .inr (2, [.int 0, .int 0, .int 7])), (q6, .inr (2, [.int 0, .int 0, .int 7])), (q7, .inr (2, [.int 0, .int 0, .int 7])), (q8, .inr (2, [.int 0, .int 0, .int 0]))] := hD
  refine lv_dup hx hb d_M_init_42 rfl ?_
  have hPc := hP.sub (ws' := [(q8, .inr (2, [.int 0, .int 0, .int 0]))]) [8] rfl
  have hDc := hD.sub (ws' := [(q8, .inr (2, [.int 0, .int 0, .int 0]))]) [8] (by decide) rfl
  have hFc := va_free (wc := [(q8, .inr (2, [.int 0, .int 0, .int 0]))]) hD hS hA [8] rfl
  refine va_callv (va_runIN (As := []) (rest := [.ref q8, .int 5, .ref q1]) (host := "GearModules") ⟨hx, hb, hml, hown, hts⟩ (c_S_init (D := D) (A := va_A [(q8, .inr (2, [.int 0, .int 0, .int 0]))] H.size) (h0 := q8)) ⟨va_cnB 0 hts (gm_good (gm_wsC (gm_in 54 (by decide +kernel) rfl))) rfl rfl rfl hY.1 (hts _ (gm_in 30 (by decide +kernel) rfl)) (by decide +kernel) ⟨Nat.le_of_ble_eq_true rfl, Nat.le_of_ble_eq_true rfl⟩, rfl, (hts _ (gm_in 53 (by decide +kernel) rfl))⟩ ⟨fun a U g mk q => ⟨q.1, q.2.1, va_K.moved (u := U) (U := U.calling g mk a) (Vm.Alike.refl U.vm) q.2.2.1, q.2.2.2⟩, fun U hU hW => ⟨rfl, by rw [hU]; exact hPc, va_K.moved hW.alike (hK.sub (tys' := []) [] rfl), hDc.self⟩⟩ rfl rfl hl.1 rfl (lv_room (Nat.le_of_ble_eq_true rfl)) d_M_init_43 ⟨by decide, by decide⟩) hS (fun q _ h => hFc q h) hFc (fun u t H1 locs ht hvm h5 hB hz1 hk1 hS => ?_)
  obtain ⟨hP1, hD1⟩ := hB
  rw [ht] at hP1
  obtain ⟨hP, hD⟩ := va_join (wr := [(h0, .inr (1, [.ref q1, .ref q2, .int 1, .int 0, .int 0, .int 0, .int 0, .int 0])), (q1, .inl (c1, 6, .inr (.inr (.inr (.inr (va_up (va_up (va_up (va_up (va_up (fun _ => none) 0 (some q3)) 1 (some q4)) 2 (some q5)) 3 (some q6)) 4 (some q7))))))), (q2, .inl (c2, 16, .inl (fun _ => 0))), (q3, .inr (2, [.int 0, .int 0, .int 7])), (q4, .inr (2, [.int 0, .int 0, .int 7])), (q5, .inr (2, [.int 0, .int 0, .int 7])), (q6, .inr (2, [.int 0, .int 0, .int 7])), (q7, .inr (2, [.int 0, .int 0, .int 7]))]) (w1 := [(q8, .inr (2, [.int 0, .int 0, .int 7]))]) hP hD [8] [0, 1, 2, 3, 4, 5, 6, 7] rfl rfl (by decide) (by decide) hk1 hFc hP1 hD1
  generalize H1 = H at hP hS ⊢
  have hP : va_P D gm_cl [(h0, .inr (1, [.ref q1, .ref q2, .int 1, .int 0, .int 0, .int 0, .int 0, .int 0])), (q1, .inl (c1, 6, .inr (.inr (.inr (.inr (va_up (va_up (va_up (va_up (va_up (fun _ => none) 0 (some q3)) 1 (some q4)) 2 (some q5)) 3 (some q6)) 4 (some q7))))))), (q2, .inl (c2, 16, .inl (fun _ => 0))), (q3, .inr (2, [.int 0, .int 0, .int 7])), (q4, .inr (2, [.int 0, .int 0, .int 7])), (q5, .inr (2, [.int 0, .int 0, .int 7])), (q6, .inr (2, [.int 0, .int 0, .int 7])), (q7, .inr (2, [.int 0, .int 0, .int 7])), (q8, .inr (2, [.int 0, .int 0, .int 7]))] H := hP
  have hD : va_D A [(h0, .inr (1, [.ref q1, .ref q2, .int 1, .int 0, .int 0, .int 0, .int 0, .int 0])), (q1, .inl (c1, 6, .inr (.inr (.inr (.inr (va_up (va_up (va_up (va_up (va_up (fun _ => none) 0 (some q3)) 1 (some q4)) 2 (some q5)) 3 (some q6)) 4 (some q7))))))), (q2, .inl (c2, 16, .inl (fun _ => 0))), (q3, .inr (2, [.int 0, .int 0, .int 7])), (q4, .inr (2, [.int 0, .int 0, .int 7])), (q5, .inr (2, [.int 0, .int 0, .int 7])), (q6, .inr (2, [.int 0, .int 0, .int 7])), (q7, .inr (2, [.int 0, .int 0, .int 7])), (q8, .inr (2, [.int 0, .int 0, .int 7]))] := hD
  refine va_astq hx hb hK hP hD hS 1 0 8 2 rfl rfl rfl rfl (vp_in_nI (n := 5) (N := 6) (by decide) (by decide)) d_M_init_46 (fun H locs hP hD hS => ?_)
  have hP : va_P D gm_cl [(h0, .inr (1, [.ref q1, .ref q2, .int 1, .int 0, .int 0, .int 0, .int 0, .int 0])), (q1, .inl (c1, 6, .inr (.inr (.inr (.inr (va_up (va_up (va_up (va_up (va_up (va_up (fun _ => none) 0 (some q3)) 1 (some q4)) 2 (some q5)) 3 (some q6)) 4 (some q7)) 5 (some q8))))))), (q2, .inl (c2, 16, .inl (fun _ => 0))), (q3, .inr (2, [.int 0, .int 0, .int 7])), (q4, .inr (2, [.int 0, .int 0, .int 7])), (q5, .inr (2, [.int 0, .int 0, .int 7])), (q6, .inr (2, [.int 0, .int 0, .int 7])), (q7, .inr (2, [.int 0, .int 0, .int 7])), (q8, .inr (2, [.int 0, .int 0, .int 7]))] H := hP
  have hD : va_D A [(h0, .inr (1, [.ref q1, .ref q2, .int 1, .int 0, .int 0, .int 0, .int 0, .int 0])), (q1, .inl (c1, 6, .inr (.inr (.inr (.inr (va_up (va_up (va_up (va_up (va_up (va_up (fun _ => none) 0 (some q3)) 1 (some q4)) 2 (some q5)) 3 (some q6)) 4 (some q7)) 5 (some q8))))))), (q2, .inl (c2, 16, .inl (fun _ => 0))), (q3, .inr (2, [.int 0, .int 0, .int 7])), (q4, .inr (2, [.int 0, .int 0, .int 7])), (q5, .inr (2, [.int 0, .int 0, .int 7])), (q6, .inr (2, [.int 0, .int 0, .int 7])), (q7, .inr (2, [.int 0, .int 0, .int 7])), (q8, .inr (2, [.int 0, .int 0, .int 7]))] := hD
  refine lv_iinc (k := 0) (v := 6) (lv' := [(1, .int 6), (0, .ref h0)]) hx hb d_M_init_47 hl rfl (by decide) (by decide) rfl (fun ls hl => ?_)
  refine lv_goto (tgt := 28) hx hb d_M_init_50 rfl ?_
  refine lv_iload_n hx hb d_M_init_28 rfl (lv_at hl 0 rfl) ?_
  refine lv_bipush (v := 6) hx hb d_M_init_29 (by decide) ?_
  refine lv_icmp_ge (tgt := 53) hx hb d_M_init_31 rfl (fun _ => ?_) (fun h => absurd (by decide) h)
  have hK9 : va_K D gm_cl [(c1, .object "GearModules$Sensor"), (c2, .int)] s := hK
  refine W.widen (k := 8) (n := 40) (by decide) (by decide) ?_
  exact W.vret hx hb hr (fun t ht hW => ⟨⟨(), rfl, trivial, q1, c1, q2, c2, q3, q4, q5, q6, q7, q8, by rw [ht]; exact hP, hD, va_K.moved hW.alike hK9⟩, hS.F ht⟩) hS.2.2 d_M_init_53
