-- the law's own walk: two worlds in one heap
def Ag (a : Nat → Nat) (q : Nat) : Prop := ∃ k, k < 21 ∧ q = a k
def Ar (a : Nat → Nat) (q : Nat) : Prop := ∃ k, k < 11 ∧ q = a k
def gl_F (p : Program) (s : State) (m : MethodId) (args : Array Value) (meth : Method) (c : Code) (D : va_G) (dk : Nat → ClassId) (a b : Nat → Nat) (lt bb L : Nat) (xs : Nat → Int32) : Prop :=
  p.tables.exec = Jvm.exec ∧ c.code = b_L_law ∧ c.maxLocals = 4 ∧ s.vm.findClass "GearModulesLaw" = some m.cls ∧ (∀ w ∈ gm_A, w.before args s = true) ∧ va_K D gm_cl (gm_ty dk) s ∧ gm_X (fun q => s.heap.size ≤ q) lt s ∧ (∀ q, Ag a q → s.heap.size ≤ q) ∧ (∀ q, Ar b q → s.heap.size ≤ q) ∧ (∀ q, Ag a q → ¬ Ar b q) ∧ va_X bb L xs s s.heap ∧ bb < s.heap.size
def gl_N (s : State) (D : va_G) (dk : Nat → ClassId) (a b : Nat → Nat) (u v : gm_St) (H : Heap) (locs : List Loc) : Prop :=
  va_P D gm_cl (gm_W dk a u) H ∧ va_P D gm_cl (gr_W dk b v) H ∧ va_D (Ag a) (gm_W dk a u) ∧ va_D (Ar b) (gr_W dk b v) ∧ va_S (fun q => s.heap.size ≤ q) s.heap H locs
section GLB
variable {p : Program} {l : Launch} {e : Env} {R : Room} {s : State} {m : MethodId} {args : Array Value} {below : List Frame} {meth : Method} {c : Code} {H : Heap} {locs : List Loc} {Q : State → Prop} {pc cells slots : Nat} {ls : Array Slot} {rest st0 : List Value}
variable {D : va_G} {dk : Nat → ClassId} {a b : Nat → Nat} {lt bb L : Nat} {xs : Nat → Int32} {u v u' v' : gm_St}
theorem gl_pre {Wd : gm_St → va_W} {A : Nat → Prop} {w : gm_St} (hK : va_K D gm_cl (gm_ty dk) s) (hX : gm_X (fun q => s.heap.size ≤ q) lt s) (hA : ∀ q, A q → s.heap.size ≤ q) (hP : va_P D gm_cl (Wd w) H) (hD : va_D A (Wd w)) (hS : va_S (fun q => s.heap.size ≤ q) s.heap H locs) (av : List Value) : PreS s H (va_Pc av (gm_C D (gm_ty dk) Wd A lt w)) av :=
  ⟨fun a U g mk q => ⟨q.1, q.2.1, va_K.moved (u := U) (U := U.calling g mk a) (Vm.Alike.refl U.vm) q.2.2.1, q.2.2.2.1, q.2.2.2.2.calling⟩,
   fun U hU hW => ⟨rfl, by rw [hU]; exact hP, va_K.moved hW.alike hK, hD, (hX.go hS hU hW).narrow hA⟩⟩
theorem gl_keep {ws : va_W} {A B : Nat → Prop} {H1 : Heap} (hP : va_P D gm_cl ws H) (hD : va_D B ws) (hd : ∀ q, A q → ¬ B q) (hk : ∀ q : Nat, q < H.size → ¬ A q → H1[q]? = H[q]?) : va_P D gm_cl ws H1 :=
  hP.kept (fun k q hq => hk q.1 (hP k q hq).lt (fun hA => hd q.1 hA (hD.2 k q hq)))
theorem gl_sld (hF : gl_F p s m args meth c D dk a b lt bb L xs) (hN : gl_N s D dk a b u v H locs) {x : Int32} {k : Nat} (hi : x = nI k) (hk : k < L) (hL : L < 2 ^ 31) (hdg : decode b_L_law pc = .ok (.iaload, 1)) (kk : W p l e R s m args below meth c H locs cells slots Q (F0 m (pc + 1) ls (.int (xs k) :: rest))) : W p l e R s m args below meth c H locs cells slots Q (F0 m pc ls (.int x :: .ref bb :: rest)) := by
  subst hi
  refine va_sld hF.1 hF.2.1 hF.2.2.2.2.2.2.2.2.2.2.1 hF.2.2.2.2.2.2.2.2.2.2.2 (Nat.not_le.mpr hF.2.2.2.2.2.2.2.2.2.2.2) hN.2.2.2.2 (vp_in_nI hk hL) hdg ?_
  rw [nI_clamp (by omega)]
  exact kk
variable {y : MethodName} {b1 : ByteArray} {n1 k index : Nat} {rm : Room} {As : List Value} {ret1 : Option FieldType}
theorem gl_Gi {r : Int32} (hF : gl_F p s m args meth c D dk a b lt bb L xs) (hN : gl_N s D dk a b u v H locs) (hC : gm_I l D (gm_ty dk) (gm_W dk a) (Ag a) lt y b1 n1 ret1 rm (.ref (a 0) :: As) u r u') (cw : CallW R s args "GearModulesLaw" "GearModules" index y b1 n1 ret1 (Cond.code y b1 n1 ret1 :: gm_A) rm 0 0 k) (hn : As.length = k) (hl : ls.size = 4) (hst : st0 = As.reverse ++ .ref (a 0) :: rest) (hW : (rest.map fun v => v.category).sum ≤ 8) (hf : cells ≤ R.cells ∧ slots ≤ R.slots) (hdg : decode b_L_law pc = .ok (.invokevirtual index, 3))
    (kk : ∀ (H1 : Heap) (locs1 : List Loc), gl_N s D dk a b u' v H1 locs1 → W p l e R s m args below meth c H1 locs1 cells slots Q (F0 m (pc + 3) ls (.int r :: rest))) : W p l e R s m args below meth c H locs cells slots Q (F0 m pc ls st0) := by
  obtain ⟨hx, hb, hml, hown, hts, hK, hX, hAg, hAr, hdis, -, -⟩ := hF
  obtain ⟨hPg, hPr, hDg, hDr, hS⟩ := hN
  have hpre := gl_pre hK hX hAg hPg hDg hS (.ref (a 0) :: As)
  refine va_calli (va_runV (As := As) (rest := rest) ⟨hx, hb, hml, hown, hts⟩ hC cw ⟨hpre.1, va_recv (q := (R_G, F_G, 6)) hK hPg (q0 := 0) (ci := 0) rfl rfl, hpre.2⟩ rfl hn hl hst (lv_room hW) hdg hf) hS (fun q _ h => hAg q h) (fun q h => hAg q h) (fun r' u1 t H1 locs1 ht hvm hp hB hz hk hS => ?_)
  obtain ⟨rfl, rfl⟩ := hp
  exact kk H1 locs1 ⟨by rw [← ht]; exact hB.1, gl_keep hPr hDr hdis hk, hB.2, hDr, hS⟩
theorem gl_Gl {r : Int64} (hF : gl_F p s m args meth c D dk a b lt bb L xs) (hN : gl_N s D dk a b u v H locs) (hC : gm_L l D (gm_ty dk) (gm_W dk a) (Ag a) lt y b1 n1 ret1 rm (.ref (a 0) :: As) u r u') (cw : CallW R s args "GearModulesLaw" "GearModules" index y b1 n1 ret1 (Cond.code y b1 n1 ret1 :: gm_A) rm 0 0 k) (hn : As.length = k) (hl : ls.size = 4) (hst : st0 = As.reverse ++ .ref (a 0) :: rest) (hW : (rest.map fun v => v.category).sum ≤ 8) (hf : cells ≤ R.cells ∧ slots ≤ R.slots) (hdg : decode b_L_law pc = .ok (.invokevirtual index, 3))
    (kk : ∀ (H1 : Heap) (locs1 : List Loc), gl_N s D dk a b u' v H1 locs1 → W p l e R s m args below meth c H1 locs1 cells slots Q (F0 m (pc + 3) ls (.long r :: rest))) : W p l e R s m args below meth c H locs cells slots Q (F0 m pc ls st0) := by
  obtain ⟨hx, hb, hml, hown, hts, hK, hX, hAg, hAr, hdis, -, -⟩ := hF
  obtain ⟨hPg, hPr, hDg, hDr, hS⟩ := hN
  have hpre := gl_pre hK hX hAg hPg hDg hS (.ref (a 0) :: As)
  refine va_calll (va_runV (As := As) (rest := rest) ⟨hx, hb, hml, hown, hts⟩ hC cw ⟨hpre.1, va_recv (q := (R_G, F_G, 6)) hK hPg (q0 := 0) (ci := 0) rfl rfl, hpre.2⟩ rfl hn hl hst (lv_room hW) hdg hf) hS (fun q _ h => hAg q h) (fun q h => hAg q h) (fun r' u1 t H1 locs1 ht hvm hp hB hz hk hS => ?_)
  obtain ⟨rfl, rfl⟩ := hp
  exact kk H1 locs1 ⟨by rw [← ht]; exact hB.1, gl_keep hPr hDr hdis hk, hB.2, hDr, hS⟩
theorem gl_Ri {r : Int32} (hF : gl_F p s m args meth c D dk a b lt bb L xs) (hN : gl_N s D dk a b u v H locs) (hC : gm_I l D (gm_ty dk) (gr_W dk b) (Ar b) lt y b1 n1 ret1 rm (.ref (b 0) :: As) v r v') (cw : CallW R s args "GearModulesLaw" "GearModulesModel" index y b1 n1 ret1 (Cond.code y b1 n1 ret1 :: gm_A) rm 0 0 k) (hn : As.length = k) (hl : ls.size = 4) (hst : st0 = As.reverse ++ .ref (b 0) :: rest) (hW : (rest.map fun v => v.category).sum ≤ 8) (hf : cells ≤ R.cells ∧ slots ≤ R.slots) (hdg : decode b_L_law pc = .ok (.invokevirtual index, 3))
    (kk : ∀ (H1 : Heap) (locs1 : List Loc), gl_N s D dk a b u v' H1 locs1 → W p l e R s m args below meth c H1 locs1 cells slots Q (F0 m (pc + 3) ls (.int r :: rest))) : W p l e R s m args below meth c H locs cells slots Q (F0 m pc ls st0) := by
  obtain ⟨hx, hb, hml, hown, hts, hK, hX, hAg, hAr, hdis, -, -⟩ := hF
  obtain ⟨hPg, hPr, hDg, hDr, hS⟩ := hN
  have hpre := gl_pre hK hX hAr hPr hDr hS (.ref (b 0) :: As)
  refine va_calli (va_runV (As := As) (rest := rest) ⟨hx, hb, hml, hown, hts⟩ hC cw ⟨hpre.1, va_recv (q := (R_R, F_R, 14)) hK hPr (q0 := 0) (ci := 3) rfl rfl, hpre.2⟩ rfl hn hl hst (lv_room hW) hdg hf) hS (fun q _ h => hAr q h) (fun q h => hAr q h) (fun r' u1 t H1 locs1 ht hvm hp hB hz hk hS => ?_)
  obtain ⟨rfl, rfl⟩ := hp
  exact kk H1 locs1 ⟨gl_keep hPg hDg (fun q h1 h2 => hdis q h2 h1) hk, by rw [← ht]; exact hB.1, hDg, hB.2, hS⟩
theorem gl_Rl {r : Int64} (hF : gl_F p s m args meth c D dk a b lt bb L xs) (hN : gl_N s D dk a b u v H locs) (hC : gm_L l D (gm_ty dk) (gr_W dk b) (Ar b) lt y b1 n1 ret1 rm (.ref (b 0) :: As) v r v') (cw : CallW R s args "GearModulesLaw" "GearModulesModel" index y b1 n1 ret1 (Cond.code y b1 n1 ret1 :: gm_A) rm 0 0 k) (hn : As.length = k) (hl : ls.size = 4) (hst : st0 = As.reverse ++ .ref (b 0) :: rest) (hW : (rest.map fun v => v.category).sum ≤ 8) (hf : cells ≤ R.cells ∧ slots ≤ R.slots) (hdg : decode b_L_law pc = .ok (.invokevirtual index, 3))
    (kk : ∀ (H1 : Heap) (locs1 : List Loc), gl_N s D dk a b u v' H1 locs1 → W p l e R s m args below meth c H1 locs1 cells slots Q (F0 m (pc + 3) ls (.long r :: rest))) : W p l e R s m args below meth c H locs cells slots Q (F0 m pc ls st0) := by
  obtain ⟨hx, hb, hml, hown, hts, hK, hX, hAg, hAr, hdis, -, -⟩ := hF
  obtain ⟨hPg, hPr, hDg, hDr, hS⟩ := hN
  have hpre := gl_pre hK hX hAr hPr hDr hS (.ref (b 0) :: As)
  refine va_calll (va_runV (As := As) (rest := rest) ⟨hx, hb, hml, hown, hts⟩ hC cw ⟨hpre.1, va_recv (q := (R_R, F_R, 14)) hK hPr (q0 := 0) (ci := 3) rfl rfl, hpre.2⟩ rfl hn hl hst (lv_room hW) hdg hf) hS (fun q _ h => hAr q h) (fun q h => hAr q h) (fun r' u1 t H1 locs1 ht hvm hp hB hz hk hS => ?_)
  obtain ⟨rfl, rfl⟩ := hp
  exact kk H1 locs1 ⟨gl_keep hPg hDg (fun q h1 h2 => hdis q h2 h1) hk, by rw [← ht]; exact hB.1, hDg, hB.2, hS⟩
end GLB
theorem cmp_self (x : Int64) : lg_cmp x x = 0 := by
  unfold lg_cmp
  rw [if_neg (fun h => Int64.lt_irrefl h), if_pos rfl]
