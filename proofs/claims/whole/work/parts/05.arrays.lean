section GMA
variable {p : Program} {l : Launch} {e : Env} {R : Room} {s : State} {m : MethodId} {args : Array Value} {below : List Frame} {meth : Method} {c : Code} {H : Heap} {locs : List Loc} {Q : State → Prop} {pc nL cells slots : Nat} {ls : Array Slot} {rest : List Value} {cc : ByteArray} {own : String} {ret : Option FieldType}
variable {D : va_G} {dk : Nat → ClassId} {a : Nat → Nat} {A : Nat → Prop} {lt : Nat} {u : gm_St} {k0 k : Nat}
theorem ga_cnt (hF : gm_F p s m args meth c own cc nL ret D (gm_ty dk) A lt) (hM : gm_M D A s (gm_W dk a) u H locs) (h0 : k0 < 2) {x : Int32} (hi : x = nI k) (hk : k < 16) (hdg : decode cc pc = .ok (.iaload, 1)) (kk : W p l e R s m args below meth c H locs cells slots Q (F0 m (pc + 1) ls (.int (u.2.1 (1 + k0) k) :: rest))) : W p l e R s m args below meth c H locs cells slots Q (F0 m pc ls (.int x :: .ref (a (7 + k0)) :: rest)) := by
  subst hi
  refine va_iald hF.1 hF.2.1 hF.2.2.2.2.2.2.2.1 hM.1 (7 + k0) 3 (gm_WC h0) rfl (vp_in_nI hk (by decide)) hdg ?_
  rw [nI_clamp (by omega)]
  exact kk
theorem gq_cnt (hF : gm_F p s m args meth c own cc nL ret D (gm_ty dk) A lt) (hM : gm_M D A s (gm_W dk a) u H locs) (h0 : k0 < 2) {x : Int32} (hi : x = nI k) (hk : k < 16) {z : Int32} (hdg : decode cc pc = .ok (.iastore, 1)) (kk : ∀ (H1 : Heap) (locs1 : List Loc), gm_M D A s (gm_W dk a) (gm_sG u (1 + k0) k z) H1 locs1 → W p l e R s m args below meth c H1 locs1 cells slots Q (F0 m (pc + 1) ls rest)) : W p l e R s m args below meth c H locs cells slots Q (F0 m pc ls (.int z :: .int x :: .ref (a (7 + k0)) :: rest)) := by
  subst hi
  refine va_iast hF.1 hF.2.1 hF.2.2.2.2.2.2.2.1 hM.1 hM.2.1 hM.2.2 (7 + k0) 3 (gm_WC h0) rfl (vp_in_nI hk (by decide)) hdg (fun H1 locs1 hP hD hS => ?_)
  rw [nI_clamp (by omega), gs_cnt h0] at hP hD
  exact kk H1 locs1 ⟨hP, hD, hS⟩
theorem ga_recs (hF : gm_F p s m args meth c own cc nL ret D (gm_ty dk) A lt) (hM : gm_M D A s (gm_W dk a) u H locs) {x : Int32} (hi : x = nI k) (hk : k < 16) (hdg : decode cc pc = .ok (.laload, 1)) (kk : W p l e R s m args below meth c H locs cells slots Q (F0 m (pc + 1) ls (.long (u.2.2.2 k) :: rest))) : W p l e R s m args below meth c H locs cells slots Q (F0 m pc ls (.int x :: .ref (a 2) :: rest)) := by
  subst hi
  refine va_lald hF.1 hF.2.1 hF.2.2.2.2.2.2.2.1 hM.1 (2) 1 rfl rfl (vp_in_nI hk (by decide)) hdg ?_
  rw [nI_clamp (by omega)]
  exact kk
theorem gq_recs (hF : gm_F p s m args meth c own cc nL ret D (gm_ty dk) A lt) (hM : gm_M D A s (gm_W dk a) u H locs) {x : Int32} (hi : x = nI k) (hk : k < 16) {z : Int64} (hdg : decode cc pc = .ok (.lastore, 1)) (kk : ∀ (H1 : Heap) (locs1 : List Loc), gm_M D A s (gm_W dk a) (gm_sL u k z) H1 locs1 → W p l e R s m args below meth c H1 locs1 cells slots Q (F0 m (pc + 1) ls rest)) : W p l e R s m args below meth c H locs cells slots Q (F0 m pc ls (.long z :: .int x :: .ref (a 2) :: rest)) := by
  subst hi
  refine va_last hF.1 hF.2.1 hF.2.2.2.2.2.2.2.1 hM.1 hM.2.1 hM.2.2 (2) 1 rfl rfl (vp_in_nI hk (by decide)) hdg (fun H1 locs1 hP hD hS => ?_)
  rw [nI_clamp (by omega), gs_recs] at hP hD
  exact kk H1 locs1 ⟨hP, hD, hS⟩
theorem ga_failed (hF : gm_F p s m args meth c own cc nL ret D (gm_ty dk) A lt) (hM : gm_M D A s (gr_W dk a) u H locs) {x : Int32} (hi : x = nI k) (hk : k < 2) (hdg : decode cc pc = .ok (.baload, 1)) (kk : W p l e R s m args below meth c H locs cells slots Q (F0 m (pc + 1) ls (.int (gm_b (u.1 0 k)) :: rest))) : W p l e R s m args below meth c H locs cells slots Q (F0 m pc ls (.int x :: .ref (a 1) :: rest)) := by
  subst hi
  refine va_zald hF.1 hF.2.1 hF.2.2.2.2.2.2.2.1 hM.1 (1) 4 rfl rfl (vp_in_nI hk (by decide)) hdg ?_
  rw [nI_clamp (by omega)]
  exact kk
theorem gq_failed (hF : gm_F p s m args meth c own cc nL ret D (gm_ty dk) A lt) (hM : gm_M D A s (gr_W dk a) u H locs) {x : Int32} (hi : x = nI k) (hk : k < 2) {z : Int32} {v : Bool} (hz : z = gm_b v) (hdg : decode cc pc = .ok (.bastore, 1)) (kk : ∀ (H1 : Heap) (locs1 : List Loc), gm_M D A s (gr_W dk a) (gm_sB u 0 k v) H1 locs1 → W p l e R s m args below meth c H1 locs1 cells slots Q (F0 m (pc + 1) ls rest)) : W p l e R s m args below meth c H locs cells slots Q (F0 m pc ls (.int z :: .int x :: .ref (a 1) :: rest)) := by
  subst hi
  subst hz
  refine va_zast hF.1 hF.2.1 hF.2.2.2.2.2.2.2.1 hM.1 hM.2.1 hM.2.2 (1) 4 rfl rfl (vp_in_nI hk (by decide)) hdg (fun H1 locs1 hP hD hS => ?_)
  rw [gm_vb, nI_clamp (by omega), gs_failed] at hP hD
  exact kk H1 locs1 ⟨hP, hD, hS⟩
theorem ga_bad (hF : gm_F p s m args meth c own cc nL ret D (gm_ty dk) A lt) (hM : gm_M D A s (gr_W dk a) u H locs) {x : Int32} (hi : x = nI k) (hk : k < 36) (hdg : decode cc pc = .ok (.baload, 1)) (kk : W p l e R s m args below meth c H locs cells slots Q (F0 m (pc + 1) ls (.int (gm_b (u.1 1 k)) :: rest))) : W p l e R s m args below meth c H locs cells slots Q (F0 m pc ls (.int x :: .ref (a 2) :: rest)) := by
  subst hi
  refine va_zald hF.1 hF.2.1 hF.2.2.2.2.2.2.2.1 hM.1 (2) 4 rfl rfl (vp_in_nI hk (by decide)) hdg ?_
  rw [nI_clamp (by omega)]
  exact kk
theorem gq_bad (hF : gm_F p s m args meth c own cc nL ret D (gm_ty dk) A lt) (hM : gm_M D A s (gr_W dk a) u H locs) {x : Int32} (hi : x = nI k) (hk : k < 36) {z : Int32} {v : Bool} (hz : z = gm_b v) (hdg : decode cc pc = .ok (.bastore, 1)) (kk : ∀ (H1 : Heap) (locs1 : List Loc), gm_M D A s (gr_W dk a) (gm_sB u 1 k v) H1 locs1 → W p l e R s m args below meth c H1 locs1 cells slots Q (F0 m (pc + 1) ls rest)) : W p l e R s m args below meth c H locs cells slots Q (F0 m pc ls (.int z :: .int x :: .ref (a 2) :: rest)) := by
  subst hi
  subst hz
  refine va_zast hF.1 hF.2.1 hF.2.2.2.2.2.2.2.1 hM.1 hM.2.1 hM.2.2 (2) 4 rfl rfl (vp_in_nI hk (by decide)) hdg (fun H1 locs1 hP hD hS => ?_)
  rw [gm_vb, nI_clamp (by omega), gs_bad] at hP hD
  exact kk H1 locs1 ⟨hP, hD, hS⟩
theorem ga_value (hF : gm_F p s m args meth c own cc nL ret D (gm_ty dk) A lt) (hM : gm_M D A s (gr_W dk a) u H locs) {x : Int32} (hi : x = nI k) (hk : k < 12) (hdg : decode cc pc = .ok (.baload, 1)) (kk : W p l e R s m args below meth c H locs cells slots Q (F0 m (pc + 1) ls (.int (gm_b (u.1 2 k)) :: rest))) : W p l e R s m args below meth c H locs cells slots Q (F0 m pc ls (.int x :: .ref (a 3) :: rest)) := by
  subst hi
  refine va_zald hF.1 hF.2.1 hF.2.2.2.2.2.2.2.1 hM.1 (3) 4 rfl rfl (vp_in_nI hk (by decide)) hdg ?_
  rw [nI_clamp (by omega)]
  exact kk
theorem gq_value (hF : gm_F p s m args meth c own cc nL ret D (gm_ty dk) A lt) (hM : gm_M D A s (gr_W dk a) u H locs) {x : Int32} (hi : x = nI k) (hk : k < 12) {z : Int32} {v : Bool} (hz : z = gm_b v) (hdg : decode cc pc = .ok (.bastore, 1)) (kk : ∀ (H1 : Heap) (locs1 : List Loc), gm_M D A s (gr_W dk a) (gm_sB u 2 k v) H1 locs1 → W p l e R s m args below meth c H1 locs1 cells slots Q (F0 m (pc + 1) ls rest)) : W p l e R s m args below meth c H locs cells slots Q (F0 m pc ls (.int z :: .int x :: .ref (a 3) :: rest)) := by
  subst hi
  subst hz
  refine va_zast hF.1 hF.2.1 hF.2.2.2.2.2.2.2.1 hM.1 hM.2.1 hM.2.2 (3) 4 rfl rfl (vp_in_nI hk (by decide)) hdg (fun H1 locs1 hP hD hS => ?_)
  rw [gm_vb, nI_clamp (by omega), gs_value] at hP hD
  exact kk H1 locs1 ⟨hP, hD, hS⟩
theorem ga_broken (hF : gm_F p s m args meth c own cc nL ret D (gm_ty dk) A lt) (hM : gm_M D A s (gr_W dk a) u H locs) {x : Int32} (hi : x = nI k) (hk : k < 12) (hdg : decode cc pc = .ok (.baload, 1)) (kk : W p l e R s m args below meth c H locs cells slots Q (F0 m (pc + 1) ls (.int (gm_b (u.1 3 k)) :: rest))) : W p l e R s m args below meth c H locs cells slots Q (F0 m pc ls (.int x :: .ref (a 4) :: rest)) := by
  subst hi
  refine va_zald hF.1 hF.2.1 hF.2.2.2.2.2.2.2.1 hM.1 (4) 4 rfl rfl (vp_in_nI hk (by decide)) hdg ?_
  rw [nI_clamp (by omega)]
  exact kk
theorem gq_broken (hF : gm_F p s m args meth c own cc nL ret D (gm_ty dk) A lt) (hM : gm_M D A s (gr_W dk a) u H locs) {x : Int32} (hi : x = nI k) (hk : k < 12) {z : Int32} {v : Bool} (hz : z = gm_b v) (hdg : decode cc pc = .ok (.bastore, 1)) (kk : ∀ (H1 : Heap) (locs1 : List Loc), gm_M D A s (gr_W dk a) (gm_sB u 3 k v) H1 locs1 → W p l e R s m args below meth c H1 locs1 cells slots Q (F0 m (pc + 1) ls rest)) : W p l e R s m args below meth c H locs cells slots Q (F0 m pc ls (.int z :: .int x :: .ref (a 4) :: rest)) := by
  subst hi
  subst hz
  refine va_zast hF.1 hF.2.1 hF.2.2.2.2.2.2.2.1 hM.1 hM.2.1 hM.2.2 (4) 4 rfl rfl (vp_in_nI hk (by decide)) hdg (fun H1 locs1 hP hD hS => ?_)
  rw [gm_vb, nI_clamp (by omega), gs_broken] at hP hD
  exact kk H1 locs1 ⟨hP, hD, hS⟩
theorem ga_had (hF : gm_F p s m args meth c own cc nL ret D (gm_ty dk) A lt) (hM : gm_M D A s (gr_W dk a) u H locs) {x : Int32} (hi : x = nI k) (hk : k < 32) (hdg : decode cc pc = .ok (.baload, 1)) (kk : W p l e R s m args below meth c H locs cells slots Q (F0 m (pc + 1) ls (.int (gm_b (u.1 4 k)) :: rest))) : W p l e R s m args below meth c H locs cells slots Q (F0 m pc ls (.int x :: .ref (a 5) :: rest)) := by
  subst hi
  refine va_zald hF.1 hF.2.1 hF.2.2.2.2.2.2.2.1 hM.1 (5) 4 rfl rfl (vp_in_nI hk (by decide)) hdg ?_
  rw [nI_clamp (by omega)]
  exact kk
theorem gq_had (hF : gm_F p s m args meth c own cc nL ret D (gm_ty dk) A lt) (hM : gm_M D A s (gr_W dk a) u H locs) {x : Int32} (hi : x = nI k) (hk : k < 32) {z : Int32} {v : Bool} (hz : z = gm_b v) (hdg : decode cc pc = .ok (.bastore, 1)) (kk : ∀ (H1 : Heap) (locs1 : List Loc), gm_M D A s (gr_W dk a) (gm_sB u 4 k v) H1 locs1 → W p l e R s m args below meth c H1 locs1 cells slots Q (F0 m (pc + 1) ls rest)) : W p l e R s m args below meth c H locs cells slots Q (F0 m pc ls (.int z :: .int x :: .ref (a 5) :: rest)) := by
  subst hi
  subst hz
  refine va_zast hF.1 hF.2.1 hF.2.2.2.2.2.2.2.1 hM.1 hM.2.1 hM.2.2 (5) 4 rfl rfl (vp_in_nI hk (by decide)) hdg (fun H1 locs1 hP hD hS => ?_)
  rw [gm_vb, nI_clamp (by omega), gs_had] at hP hD
  exact kk H1 locs1 ⟨hP, hD, hS⟩
theorem ga_held (hF : gm_F p s m args meth c own cc nL ret D (gm_ty dk) A lt) (hM : gm_M D A s (gr_W dk a) u H locs) {x : Int32} (hi : x = nI k) (hk : k < 32) (hdg : decode cc pc = .ok (.iaload, 1)) (kk : W p l e R s m args below meth c H locs cells slots Q (F0 m (pc + 1) ls (.int (u.2.1 0 k) :: rest))) : W p l e R s m args below meth c H locs cells slots Q (F0 m pc ls (.int x :: .ref (a 6) :: rest)) := by
  subst hi
  refine va_iald hF.1 hF.2.1 hF.2.2.2.2.2.2.2.1 hM.1 (6) 3 rfl rfl (vp_in_nI hk (by decide)) hdg ?_
  rw [nI_clamp (by omega)]
  exact kk
theorem gq_held (hF : gm_F p s m args meth c own cc nL ret D (gm_ty dk) A lt) (hM : gm_M D A s (gr_W dk a) u H locs) {x : Int32} (hi : x = nI k) (hk : k < 32) {z : Int32} (hdg : decode cc pc = .ok (.iastore, 1)) (kk : ∀ (H1 : Heap) (locs1 : List Loc), gm_M D A s (gr_W dk a) (gm_sG u 0 k z) H1 locs1 → W p l e R s m args below meth c H1 locs1 cells slots Q (F0 m (pc + 1) ls rest)) : W p l e R s m args below meth c H locs cells slots Q (F0 m pc ls (.int z :: .int x :: .ref (a 6) :: rest)) := by
  subst hi
  refine va_iast hF.1 hF.2.1 hF.2.2.2.2.2.2.2.1 hM.1 hM.2.1 hM.2.2 (6) 3 rfl rfl (vp_in_nI hk (by decide)) hdg (fun H1 locs1 hP hD hS => ?_)
  rw [nI_clamp (by omega), gs_held] at hP hD
  exact kk H1 locs1 ⟨hP, hD, hS⟩
theorem ga_waits (hF : gm_F p s m args meth c own cc nL ret D (gm_ty dk) A lt) (hM : gm_M D A s (gr_W dk a) u H locs) {x : Int32} (hi : x = nI k) (hk : k < 2) (hdg : decode cc pc = .ok (.baload, 1)) (kk : W p l e R s m args below meth c H locs cells slots Q (F0 m (pc + 1) ls (.int (gm_b (u.1 5 k)) :: rest))) : W p l e R s m args below meth c H locs cells slots Q (F0 m pc ls (.int x :: .ref (a 7) :: rest)) := by
  subst hi
  refine va_zald hF.1 hF.2.1 hF.2.2.2.2.2.2.2.1 hM.1 (7) 4 rfl rfl (vp_in_nI hk (by decide)) hdg ?_
  rw [nI_clamp (by omega)]
  exact kk
theorem gq_waits (hF : gm_F p s m args meth c own cc nL ret D (gm_ty dk) A lt) (hM : gm_M D A s (gr_W dk a) u H locs) {x : Int32} (hi : x = nI k) (hk : k < 2) {z : Int32} {v : Bool} (hz : z = gm_b v) (hdg : decode cc pc = .ok (.bastore, 1)) (kk : ∀ (H1 : Heap) (locs1 : List Loc), gm_M D A s (gr_W dk a) (gm_sB u 5 k v) H1 locs1 → W p l e R s m args below meth c H1 locs1 cells slots Q (F0 m (pc + 1) ls rest)) : W p l e R s m args below meth c H locs cells slots Q (F0 m pc ls (.int z :: .int x :: .ref (a 7) :: rest)) := by
  subst hi
  subst hz
  refine va_zast hF.1 hF.2.1 hF.2.2.2.2.2.2.2.1 hM.1 hM.2.1 hM.2.2 (7) 4 rfl rfl (vp_in_nI hk (by decide)) hdg (fun H1 locs1 hP hD hS => ?_)
  rw [gm_vb, nI_clamp (by omega), gs_waits] at hP hD
  exact kk H1 locs1 ⟨hP, hD, hS⟩
theorem ga_waited (hF : gm_F p s m args meth c own cc nL ret D (gm_ty dk) A lt) (hM : gm_M D A s (gr_W dk a) u H locs) {x : Int32} (hi : x = nI k) (hk : k < 2) (hdg : decode cc pc = .ok (.iaload, 1)) (kk : W p l e R s m args below meth c H locs cells slots Q (F0 m (pc + 1) ls (.int (u.2.1 1 k) :: rest))) : W p l e R s m args below meth c H locs cells slots Q (F0 m pc ls (.int x :: .ref (a 8) :: rest)) := by
  subst hi
  refine va_iald hF.1 hF.2.1 hF.2.2.2.2.2.2.2.1 hM.1 (8) 3 rfl rfl (vp_in_nI hk (by decide)) hdg ?_
  rw [nI_clamp (by omega)]
  exact kk
theorem gq_waited (hF : gm_F p s m args meth c own cc nL ret D (gm_ty dk) A lt) (hM : gm_M D A s (gr_W dk a) u H locs) {x : Int32} (hi : x = nI k) (hk : k < 2) {z : Int32} (hdg : decode cc pc = .ok (.iastore, 1)) (kk : ∀ (H1 : Heap) (locs1 : List Loc), gm_M D A s (gr_W dk a) (gm_sG u 1 k z) H1 locs1 → W p l e R s m args below meth c H1 locs1 cells slots Q (F0 m (pc + 1) ls rest)) : W p l e R s m args below meth c H locs cells slots Q (F0 m pc ls (.int z :: .int x :: .ref (a 8) :: rest)) := by
  subst hi
  refine va_iast hF.1 hF.2.1 hF.2.2.2.2.2.2.2.1 hM.1 hM.2.1 hM.2.2 (8) 3 rfl rfl (vp_in_nI hk (by decide)) hdg (fun H1 locs1 hP hD hS => ?_)
  rw [nI_clamp (by omega), gs_waited] at hP hD
  exact kk H1 locs1 ⟨hP, hD, hS⟩
theorem ga_past (hF : gm_F p s m args meth c own cc nL ret D (gm_ty dk) A lt) (hM : gm_M D A s (gr_W dk a) u H locs) {x : Int32} (hi : x = nI k) (hk : k < 22) (hdg : decode cc pc = .ok (.iaload, 1)) (kk : W p l e R s m args below meth c H locs cells slots Q (F0 m (pc + 1) ls (.int (u.2.1 2 k) :: rest))) : W p l e R s m args below meth c H locs cells slots Q (F0 m pc ls (.int x :: .ref (a 9) :: rest)) := by
  subst hi
  refine va_iald hF.1 hF.2.1 hF.2.2.2.2.2.2.2.1 hM.1 (9) 3 rfl rfl (vp_in_nI hk (by decide)) hdg ?_
  rw [nI_clamp (by omega)]
  exact kk
theorem gq_past (hF : gm_F p s m args meth c own cc nL ret D (gm_ty dk) A lt) (hM : gm_M D A s (gr_W dk a) u H locs) {x : Int32} (hi : x = nI k) (hk : k < 22) {z : Int32} (hdg : decode cc pc = .ok (.iastore, 1)) (kk : ∀ (H1 : Heap) (locs1 : List Loc), gm_M D A s (gr_W dk a) (gm_sG u 2 k z) H1 locs1 → W p l e R s m args below meth c H1 locs1 cells slots Q (F0 m (pc + 1) ls rest)) : W p l e R s m args below meth c H locs cells slots Q (F0 m pc ls (.int z :: .int x :: .ref (a 9) :: rest)) := by
  subst hi
  refine va_iast hF.1 hF.2.1 hF.2.2.2.2.2.2.2.1 hM.1 hM.2.1 hM.2.2 (9) 3 rfl rfl (vp_in_nI hk (by decide)) hdg (fun H1 locs1 hP hD hS => ?_)
  rw [nI_clamp (by omega), gs_past] at hP hD
  exact kk H1 locs1 ⟨hP, hD, hS⟩
theorem ga_rrec (hF : gm_F p s m args meth c own cc nL ret D (gm_ty dk) A lt) (hM : gm_M D A s (gr_W dk a) u H locs) {x : Int32} (hi : x = nI k) (hk : k < 16) (hdg : decode cc pc = .ok (.laload, 1)) (kk : W p l e R s m args below meth c H locs cells slots Q (F0 m (pc + 1) ls (.long (u.2.2.2 k) :: rest))) : W p l e R s m args below meth c H locs cells slots Q (F0 m pc ls (.int x :: .ref (a 10) :: rest)) := by
  subst hi
  refine va_lald hF.1 hF.2.1 hF.2.2.2.2.2.2.2.1 hM.1 (10) 1 rfl rfl (vp_in_nI hk (by decide)) hdg ?_
  rw [nI_clamp (by omega)]
  exact kk
theorem gq_rrec (hF : gm_F p s m args meth c own cc nL ret D (gm_ty dk) A lt) (hM : gm_M D A s (gr_W dk a) u H locs) {x : Int32} (hi : x = nI k) (hk : k < 16) {z : Int64} (hdg : decode cc pc = .ok (.lastore, 1)) (kk : ∀ (H1 : Heap) (locs1 : List Loc), gm_M D A s (gr_W dk a) (gm_sL u k z) H1 locs1 → W p l e R s m args below meth c H1 locs1 cells slots Q (F0 m (pc + 1) ls rest)) : W p l e R s m args below meth c H locs cells slots Q (F0 m pc ls (.long z :: .int x :: .ref (a 10) :: rest)) := by
  subst hi
  refine va_last hF.1 hF.2.1 hF.2.2.2.2.2.2.2.1 hM.1 hM.2.1 hM.2.2 (10) 1 rfl rfl (vp_in_nI hk (by decide)) hdg (fun H1 locs1 hP hD hS => ?_)
  rw [nI_clamp (by omega), gs_rrec] at hP hD
  exact kk H1 locs1 ⟨hP, hD, hS⟩
theorem ga_mods (hF : gm_F p s m args meth c own cc nL ret D (gm_ty dk) A lt) (hM : gm_M D A s (gm_W dk a) u H locs) {x : Int32} (hi : x = nI k) (hk : k < 2) (hdg : decode cc pc = .ok (.aaload, 1)) (kk : W p l e R s m args below meth c H locs cells slots Q (F0 m (pc + 1) ls (.ref (a (3 + k)) :: rest))) : W p l e R s m args below meth c H locs cells slots Q (F0 m pc ls (.int x :: .ref (a 1) :: rest)) := by
  subst hi
  refine va_aldq hF.1 hF.2.1 hF.2.2.2.2.2.2.2.1 hM.1 1 0 rfl rfl (vp_in_nI hk (by decide)) hdg ?_
  rw [nI_clamp (by omega), show va_rf (gm_refs a 3 2 k) = .ref (a (3 + k)) by simp [gm_refs, hk, va_rf]]
  exact kk
theorem ga_sens (hF : gm_F p s m args meth c own cc nL ret D (gm_ty dk) A lt) (hM : gm_M D A s (gm_W dk a) u H locs) (h0 : k0 < 2) {x : Int32} (hi : x = nI k) (hk : k < 6) (hdg : decode cc pc = .ok (.aaload, 1)) (kk : W p l e R s m args below meth c H locs cells slots Q (F0 m (pc + 1) ls (.ref (a (9 + (6 * k0 + k))) :: rest))) : W p l e R s m args below meth c H locs cells slots Q (F0 m pc ls (.int x :: .ref (a (5 + k0)) :: rest)) := by
  subst hi
  refine va_aldq hF.1 hF.2.1 hF.2.2.2.2.2.2.2.1 hM.1 (5 + k0) 2 (gm_WA h0) rfl (vp_in_nI hk (by decide)) hdg ?_
  rw [nI_clamp (by omega), show va_rf (gm_refs a (9 + 6 * k0) 6 k) = .ref (a (9 + (6 * k0 + k))) by simp [gm_refs, hk, va_rf, Nat.add_assoc]]
  exact kk
theorem ga_lim {Wd : gm_St → va_W} (hF : gm_F p s m args meth c own cc nL ret D (gm_ty dk) A lt) (hM : gm_M D A s Wd u H locs) {x : Int32} (hi : x = nI k) (hk : k < 16) (hdg : decode cc pc = .ok (.iaload, 1)) (kk : W p l e R s m args below meth c H locs cells slots Q (F0 m (pc + 1) ls (.int (gm_lim k) :: rest))) : W p l e R s m args below meth c H locs cells slots Q (F0 m pc ls (.int x :: .ref lt :: rest)) := by
  subst hi
  exact va_ti hF.1 hF.2.1 hF.2.2.2.2.2.2.2.2.2.2.2 hM.2.2 (vp_in_nI hk (by decide)) (by rw [nI_clamp (by omega)]) hdg kk
theorem gm_rem {x : Int32} {n d : Nat} (hx : x = nI n) (hn : n < 2 ^ 31) (h0 : 0 < d) (hd : d < 2 ^ 31) : x - x / nI d * nI d = nI (n % d) := by
  subst hx
  exact pk_rem hn h0 hd
theorem gm_nf {b : Bool} (h : b = false) : ¬ b = true := by rw [h]; decide
theorem gv_M {C : String} (hF : gm_F p s m args meth c own cc nL ret D (gm_ty dk) A lt) (hM : gm_M D A s (gm_W dk a) u H locs) (h0 : k0 < 2) (hC : C = "GearModules$OneModule") : gm_rv s H C (a (3 + k0)) := by
  subst hC
  exact va_recv (q := (R_M, F_M, 8)) hF.2.2.2.2.2.2.2.1 hM.1 (ci := 1) rfl (gm_WM h0)
theorem gv_S {C : String} (hF : gm_F p s m args meth c own cc nL ret D (gm_ty dk) A lt) (hM : gm_M D A s (gm_W dk a) u H locs) (h0 : k0 < 12) (hC : C = "GearModules$Sensor") : gm_rv s H C (a (9 + k0)) := by
  subst hC
  exact va_recv (q := (R_S, F_S, 3)) hF.2.2.2.2.2.2.2.1 hM.1 (ci := 2) rfl (gm_WS h0)
theorem gv_G {C : String} (hF : gm_F p s m args meth c own cc nL ret D (gm_ty dk) A lt) (hM : gm_M D A s (gm_W dk a) u H locs) (hC : C = "GearModules") : gm_rv s H C (a 0) := by
  subst hC
  exact va_recv (q := (R_G, F_G, 6)) hF.2.2.2.2.2.2.2.1 hM.1 (q0 := 0) (ci := 0) rfl rfl
theorem gv_R {C : String} (hF : gm_F p s m args meth c own cc nL ret D (gm_ty dk) A lt) (hM : gm_M D A s (gr_W dk a) u H locs) (hC : C = "GearModulesModel") : gm_rv s H C (a 0) := by
  subst hC
  exact va_recv (q := (R_R, F_R, 14)) hF.2.2.2.2.2.2.2.1 hM.1 (q0 := 0) (ci := 3) rfl rfl
end GMA
