-- what a state is, for the program and for the reference: flags, ints, small numbers, records
abbrev gm_St : Type := (Nat → Nat → Bool) × (Nat → Nat → Int32) × (Nat → Nat) × (Nat → Int64)
def gm_b (b : Bool) : Int32 := if b = true then 1 else 0
def gm_sB (u : gm_St) (j i : Nat) (b : Bool) : gm_St := (fun x y => if x = j then (if y = i then b else u.1 x y) else u.1 x y, u.2)
def gm_sG (u : gm_St) (j i : Nat) (v : Int32) : gm_St := (u.1, fun x y => if x = j then (if y = i then v else u.2.1 x y) else u.2.1 x y, u.2.2)
def gm_sN (u : gm_St) (i : Nat) (v : Nat) : gm_St := (u.1, u.2.1, fun y => if y = i then v else u.2.2.1 y, u.2.2.2)
def gm_sL (u : gm_St) (i : Nat) (v : Int64) : gm_St := (u.1, u.2.1, u.2.2.1, fun y => if y = i then v else u.2.2.2 y)
theorem gm_b0 {b : Bool} : gm_b b = 0 ↔ b = false := by cases b <;> decide
theorem gm_b1 {b : Bool} : ¬ gm_b b = 0 ↔ b = true := by cases b <;> decide
theorem gm_bb {b d : Bool} : gm_b b = gm_b d ↔ b = d := by cases b <;> cases d <;> decide
theorem gm_nb (b : Bool) : narrow .boolean (.int (gm_b b)) = .int (gm_b b) := by cases b <;> rfl
theorem gm_fb (b : Bool) : fits .boolean (.int (gm_b b)) = true := by cases b <;> rfl
theorem gm_vb (b : Bool) : vp_nar .boolean (gm_b b) = gm_b b := by cases b <;> rfl
-- the words that stay true from call to call
def gm_A : List Cond := lw_tbl.filter goodWord
theorem gm_in (i : Nat) {w : Cond} (h : lw_tbl[i]? = some w) (hg : goodWord w = true) : w ∈ gm_A := List.mem_filter.mpr ⟨List.mem_of_getElem? h, hg⟩
theorem gm_good {ws : List Cond} (h : ∀ w ∈ ws, w ∈ gm_A) : GoodIn gm_A ws := fun w hw => ⟨h w hw, good_of_word (List.mem_filter.mp (h w hw)).2⟩
theorem gm_wsV {own C : String} {idx : Nat} {y : MethodName} {b : ByteArray} {n : Nat} {ret : Option FieldType} (h1 : Cond.methodLink own idx y ∈ gm_A) (h2 : Cond.instanceMethod y ∈ gm_A) (h3 : Cond.selects C y y ∈ gm_A) (h4 : Cond.initialized C ∈ gm_A) (h5 : Cond.code y b n ret ∈ gm_A) : ∀ w ∈ wsV own idx C y (Cond.code y b n ret :: gm_A), w ∈ gm_A := by
  intro w hw
  simp only [wsV, List.cons_append, List.nil_append, List.mem_cons] at hw
  rcases hw with rfl | rfl | rfl | rfl | rfl | h
  · exact h1
  · exact h2
  · exact h3
  · exact h4
  · exact h5
  · exact h
theorem gm_wsS {own : String} {idx : Nat} {y : MethodName} {b : ByteArray} {n : Nat} {ret : Option FieldType} (h1 : Cond.methodLink own idx y ∈ gm_A) (h2 : Cond.static y ∈ gm_A) (h4 : Cond.initialized y.cls ∈ gm_A) (h5 : Cond.code y b n ret ∈ gm_A) : ∀ w ∈ va_wsS own idx y (Cond.code y b n ret :: gm_A), w ∈ gm_A := by
  intro w hw
  simp only [va_wsS, List.cons_append, List.nil_append, List.mem_cons] at hw
  rcases hw with rfl | rfl | rfl | rfl | h
  · exact h1
  · exact h2
  · exact h4
  · exact h5
  · exact h
theorem gm_wsC {y : MethodName} {b : ByteArray} {n : Nat} {ret : Option FieldType} (h5 : Cond.code y b n ret ∈ gm_A) : ∀ w ∈ (Cond.code y b n ret :: gm_A), w ∈ gm_A := by
  intro w hw
  rcases List.mem_cons.mp hw with rfl | h
  · exact h5
  · exact h
theorem in_G : ∀ w ∈ u_ws R_G F_G 6, w ∈ gm_A := by
  intro w hw
  simp only [u_ws, List.mem_map, List.mem_range] at hw
  obtain ⟨k, hk, rfl⟩ := hw
  match k, hk with
  | 0, _ => exact gm_in 106 (by decide +kernel) (by decide +kernel)
  | 1, _ => exact gm_in 108 (by decide +kernel) (by decide +kernel)
  | 2, _ => exact gm_in 110 (by decide +kernel) (by decide +kernel)
  | 3, _ => exact gm_in 112 (by decide +kernel) (by decide +kernel)
  | 4, _ => exact gm_in 114 (by decide +kernel) (by decide +kernel)
  | 5, _ => exact gm_in 116 (by decide +kernel) (by decide +kernel)
  | _ + 6, h => exact absurd h (by omega)
theorem in_M : ∀ w ∈ u_ws R_M F_M 8, w ∈ gm_A := by
  intro w hw
  simp only [u_ws, List.mem_map, List.mem_range] at hw
  obtain ⟨k, hk, rfl⟩ := hw
  match k, hk with
  | 0, _ => exact gm_in 83 (by decide +kernel) (by decide +kernel)
  | 1, _ => exact gm_in 85 (by decide +kernel) (by decide +kernel)
  | 2, _ => exact gm_in 87 (by decide +kernel) (by decide +kernel)
  | 3, _ => exact gm_in 89 (by decide +kernel) (by decide +kernel)
  | 4, _ => exact gm_in 91 (by decide +kernel) (by decide +kernel)
  | 5, _ => exact gm_in 93 (by decide +kernel) (by decide +kernel)
  | 6, _ => exact gm_in 95 (by decide +kernel) (by decide +kernel)
  | 7, _ => exact gm_in 97 (by decide +kernel) (by decide +kernel)
  | _ + 8, h => exact absurd h (by omega)
theorem in_S : ∀ w ∈ u_ws R_S F_S 3, w ∈ gm_A := by
  intro w hw
  simp only [u_ws, List.mem_map, List.mem_range] at hw
  obtain ⟨k, hk, rfl⟩ := hw
  match k, hk with
  | 0, _ => exact gm_in 61 (by decide +kernel) (by decide +kernel)
  | 1, _ => exact gm_in 63 (by decide +kernel) (by decide +kernel)
  | 2, _ => exact gm_in 65 (by decide +kernel) (by decide +kernel)
  | _ + 3, h => exact absurd h (by omega)
theorem in_R : ∀ w ∈ u_ws R_R F_R 14, w ∈ gm_A := by
  intro w hw
  simp only [u_ws, List.mem_map, List.mem_range] at hw
  obtain ⟨k, hk, rfl⟩ := hw
  match k, hk with
  | 0, _ => exact gm_in 324 (by decide +kernel) (by decide +kernel)
  | 1, _ => exact gm_in 326 (by decide +kernel) (by decide +kernel)
  | 2, _ => exact gm_in 328 (by decide +kernel) (by decide +kernel)
  | 3, _ => exact gm_in 330 (by decide +kernel) (by decide +kernel)
  | 4, _ => exact gm_in 332 (by decide +kernel) (by decide +kernel)
  | 5, _ => exact gm_in 334 (by decide +kernel) (by decide +kernel)
  | 6, _ => exact gm_in 336 (by decide +kernel) (by decide +kernel)
  | 7, _ => exact gm_in 338 (by decide +kernel) (by decide +kernel)
  | 8, _ => exact gm_in 340 (by decide +kernel) (by decide +kernel)
  | 9, _ => exact gm_in 342 (by decide +kernel) (by decide +kernel)
  | 10, _ => exact gm_in 344 (by decide +kernel) (by decide +kernel)
  | 11, _ => exact gm_in 346 (by decide +kernel) (by decide +kernel)
  | 12, _ => exact gm_in 348 (by decide +kernel) (by decide +kernel)
  | 13, _ => exact gm_in 350 (by decide +kernel) (by decide +kernel)
  | _ + 14, h => exact absurd h (by omega)
-- what isn't a steady word, and goes from call to call as a premise: links between the nested classes, the table LIMITS
def gm_lim (j : Nat) : Int32 := match j with
  | 6 => 70 | 7 => 70 | 8 => 70 | 9 => 100 | 10 => 70 | 11 => 100 | 12 => 20 | 13 => 100 | 14 => 10 | 15 => 30 | _ => 0
def gm_X (A : Nat → Prop) (lt : Nat) (U : State) : Prop := (∀ q ∈ gm_fl, va_Nw (.fieldLinkNest q.1 q.2.1 q.2.2.1 q.2.2.2.1 q.2.2.2.2 "GearModules") U) ∧ (∀ q ∈ gm_ml, va_Nw (.methodLinkNest q.1 q.2.1 q.2.2 "GearModules") U) ∧ va_Z "GearModules" "LIMITS" "[I" (.ref lt) A U U.heap ∧ va_T .int lt 16 (fun j => .int (gm_lim j)) A U U.heap
theorem gm_X.calling {A : Nat → Prop} {lt : Nat} {U : State} {g : JFrame} {mk : MethodId} {a : Array Value} (h : gm_X A lt U) : gm_X A lt (U.calling g mk a) :=
  ⟨fun q hq => va_Nw.same rfl rfl (h.1 q hq), fun q hq => va_Nw.same rfl rfl (h.2.1 q hq), va_Z.moved (u := U) (U := U.calling g mk a) (Vm.Alike.refl U.vm) h.2.2.1, va_T.moved (u := U) (U := U.calling g mk a) (Vm.Alike.refl U.vm) h.2.2.2⟩
theorem gm_X.go {A : Nat → Prop} {lt : Nat} {s U : State} {H : Heap} {locs : List Loc} (h : gm_X A lt s) (hS : va_S A s.heap H locs) (hU : U.heap = H) (hW : s.WarmedH U.vm) : gm_X A lt U := by
  subst hU
  exact ⟨fun q hq => va_Nw.warmF hW (h.1 q hq), fun q hq => va_Nw.warmM hW (h.2.1 q hq), (va_Z.moved hW.alike h.2.2.1).kept hS.2.1, (va_T.moved hW.alike h.2.2.2).kept hS.2.1⟩
theorem gm_X.narrow {A B : Nat → Prop} {lt : Nat} {s : State} (h : gm_X A lt s) (hAB : ∀ q, B q → A q) : gm_X B lt s := ⟨h.1, h.2.1, h.2.2.1.narrow hAB, h.2.2.2.narrow hAB⟩
-- inside a method: what stays; what moves
def gm_F (p : Program) (s : State) (m : MethodId) (args : Array Value) (meth : Method) (c : Code) (own : String) (cc : ByteArray) (nL : Nat) (ret : Option FieldType) (D : va_G) (tys : List (ClassId × FieldType)) (A : Nat → Prop) (lt : Nat) : Prop :=
  p.tables.exec = Jvm.exec ∧ c.code = cc ∧ c.maxLocals = nL ∧ s.vm.findClass own = some m.cls ∧ (∀ w ∈ gm_A, w.before args s = true) ∧ meth.sig.returnType = ret ∧ meth.locks = false ∧ va_K D gm_cl tys s ∧ gm_X A lt s
def gm_M (D : va_G) (A : Nat → Prop) (s : State) (Wd : gm_St → va_W) (u : gm_St) (H : Heap) (locs : List Loc) : Prop := va_P D gm_cl (Wd u) H ∧ va_D A (Wd u) ∧ va_S A s.heap H locs
def gm_C (D : va_G) (tys : List (ClassId × FieldType)) (Wd : gm_St → va_W) (A : Nat → Prop) (lt : Nat) (u : gm_St) (U : State) : Prop := va_P D gm_cl (Wd u) U.heap ∧ va_K D gm_cl tys U ∧ va_D A (Wd u) ∧ gm_X A lt U
-- a method's contract: its answer, and the state behind it
def gm_I (l : Launch) (D : va_G) (tys : List (ClassId × FieldType)) (Wd : gm_St → va_W) (A : Nat → Prop) (lt : Nat) (y : MethodName) (b : ByteArray) (n : Nat) (ret : Option FieldType) (rm : Room) (av : List Value) (u : gm_St) (r : Int32) (u' : gm_St) : Prop :=
  Met l y (Cond.code y b n ret :: gm_A) rm (va_Pc av (gm_C D tys Wd A lt u)) (va_Qi (fun (r' : Int32) (v : gm_St) => r' = r ∧ v = u') (fun v t => va_P D gm_cl (Wd v) t.heap ∧ va_D A (Wd v)) A) 0 0 A
def gm_L (l : Launch) (D : va_G) (tys : List (ClassId × FieldType)) (Wd : gm_St → va_W) (A : Nat → Prop) (lt : Nat) (y : MethodName) (b : ByteArray) (n : Nat) (ret : Option FieldType) (rm : Room) (av : List Value) (u : gm_St) (r : Int64) (u' : gm_St) : Prop :=
  Met l y (Cond.code y b n ret :: gm_A) rm (va_Pc av (gm_C D tys Wd A lt u)) (va_Ql (fun (r' : Int64) (v : gm_St) => r' = r ∧ v = u') (fun v t => va_P D gm_cl (Wd v) t.heap ∧ va_D A (Wd v)) A) 0 0 A
def gm_V (l : Launch) (D : va_G) (tys : List (ClassId × FieldType)) (Wd : gm_St → va_W) (A : Nat → Prop) (lt : Nat) (y : MethodName) (b : ByteArray) (n : Nat) (rm : Room) (av : List Value) (u : gm_St) (u' : gm_St) : Prop :=
  Met l y (Cond.code y b n none :: gm_A) rm (va_Pc av (gm_C D tys Wd A lt u)) (va_Qv (fun (v : gm_St) => v = u') (fun v t => va_P D gm_cl (Wd v) t.heap ∧ va_D A (Wd v)) A) 0 0 A
section GM1
variable {l : Launch} {D : va_G} {tys : List (ClassId × FieldType)} {Wd : gm_St → va_W} {A : Nat → Prop} {lt : Nat} {y : MethodName} {b : ByteArray} {n : Nat} {rm : Room} {av : List Value} {u u' : gm_St}
theorem gm_enterI {r : Int32} (hy : plainName y.cls = true) (hn : (lg_sl av).length ≤ n)
    (body : ∀ (p : Program) (e : Env) (s : State) (m : MethodId) (args : Array Value) (below : List Frame) (meth : Method) (c : Code) (ls : Array Slot) (Q : State → Prop) (H : Heap) (locs : List Loc), gm_F p s m args meth c y.cls b n (some .int) D tys A lt → gm_M D A s Wd u H locs → lv_has ls n (lv_args 0 av) →
      (∀ (H : Heap) (locs : List Loc) (pc : Nat) (ls : Array Slot), gm_M D A s Wd u' H locs → decode b pc = .ok (.ireturn, 1) → W p l e rm s m args below meth c H locs 0 0 Q (F0 m pc ls [.int r])) →
      W p l e rm s m args below meth c H locs 0 0 Q (F0 m 0 ls [])) : gm_I l D tys Wd A lt y b n (some .int) rm av u r u' := by
  refine Met.ofW (cc := b) (maxL := n) (ret := some .int) hy rfl ?_
  intro p e s m args below meth c s₁ B hml hv
  obtain ⟨rfl, hP, hK, hD, hX⟩ := hv
  have hts := atoms_spec B.pre
  rw [lg_entry_eq]
  refine body p e s m _ below meth c _ _ _ _ ⟨B.exec, B.bytes, hml, findClass_of_methodNamed B.named, fun w h => hts w (List.mem_cons_of_mem _ h), B.returns, B.notSynchronized, hK, hX⟩ ⟨hP, hD, va_S.rf⟩ (lv_entry av hn) ?_
  intro H locs pc ls hM hd
  exact W.iret B.exec B.bytes B.returns (fun t ht hW => ⟨⟨r, u', rfl, ⟨rfl, rfl⟩, by rw [ht]; exact hM.1, hM.2.1⟩, hM.2.2.F ht⟩) hM.2.2.2.2 hd
theorem gm_enterZ {r : Bool} (hy : plainName y.cls = true) (hn : (lg_sl av).length ≤ n)
    (body : ∀ (p : Program) (e : Env) (s : State) (m : MethodId) (args : Array Value) (below : List Frame) (meth : Method) (c : Code) (ls : Array Slot) (Q : State → Prop) (H : Heap) (locs : List Loc), gm_F p s m args meth c y.cls b n (some .boolean) D tys A lt → gm_M D A s Wd u H locs → lv_has ls n (lv_args 0 av) →
      (∀ (H : Heap) (locs : List Loc) (pc : Nat) (ls : Array Slot), gm_M D A s Wd u' H locs → decode b pc = .ok (.ireturn, 1) → W p l e rm s m args below meth c H locs 0 0 Q (F0 m pc ls [.int (gm_b r)])) →
      W p l e rm s m args below meth c H locs 0 0 Q (F0 m 0 ls [])) : gm_I l D tys Wd A lt y b n (some .boolean) rm av u (gm_b r) u' := by
  refine Met.ofW (cc := b) (maxL := n) (ret := some .boolean) hy rfl ?_
  intro p e s m args below meth c s₁ B hml hv
  obtain ⟨rfl, hP, hK, hD, hX⟩ := hv
  have hts := atoms_spec B.pre
  rw [lg_entry_eq]
  refine body p e s m _ below meth c _ _ _ _ ⟨B.exec, B.bytes, hml, findClass_of_methodNamed B.named, fun w h => hts w (List.mem_cons_of_mem _ h), B.returns, B.notSynchronized, hK, hX⟩ ⟨hP, hD, va_S.rf⟩ (lv_entry av hn) ?_
  intro H locs pc ls hM hd
  exact W.zret B.exec B.bytes B.returns (gm_nb r) (fun t ht hW => ⟨⟨gm_b r, u', rfl, ⟨rfl, rfl⟩, by rw [ht]; exact hM.1, hM.2.1⟩, hM.2.2.F ht⟩) hM.2.2.2.2 hd
theorem gm_enterL {r : Int64} (hy : plainName y.cls = true) (hn : (lg_sl av).length ≤ n)
    (body : ∀ (p : Program) (e : Env) (s : State) (m : MethodId) (args : Array Value) (below : List Frame) (meth : Method) (c : Code) (ls : Array Slot) (Q : State → Prop) (H : Heap) (locs : List Loc), gm_F p s m args meth c y.cls b n (some .long) D tys A lt → gm_M D A s Wd u H locs → lv_has ls n (lv_args 0 av) →
      (∀ (H : Heap) (locs : List Loc) (pc : Nat) (ls : Array Slot), gm_M D A s Wd u' H locs → decode b pc = .ok (.lreturn, 1) → W p l e rm s m args below meth c H locs 0 0 Q (F0 m pc ls [.long r])) →
      W p l e rm s m args below meth c H locs 0 0 Q (F0 m 0 ls [])) : gm_L l D tys Wd A lt y b n (some .long) rm av u r u' := by
  refine Met.ofW (cc := b) (maxL := n) (ret := some .long) hy rfl ?_
  intro p e s m args below meth c s₁ B hml hv
  obtain ⟨rfl, hP, hK, hD, hX⟩ := hv
  have hts := atoms_spec B.pre
  rw [lg_entry_eq]
  refine body p e s m _ below meth c _ _ _ _ ⟨B.exec, B.bytes, hml, findClass_of_methodNamed B.named, fun w h => hts w (List.mem_cons_of_mem _ h), B.returns, B.notSynchronized, hK, hX⟩ ⟨hP, hD, va_S.rf⟩ (lv_entry av hn) ?_
  intro H locs pc ls hM hd
  exact W.lret B.exec B.bytes B.returns (fun t ht hW => ⟨⟨r, u', rfl, ⟨rfl, rfl⟩, by rw [ht]; exact hM.1, hM.2.1⟩, hM.2.2.F ht⟩) hM.2.2.2.2 hd
theorem gm_enterV (hy : plainName y.cls = true) (hn : (lg_sl av).length ≤ n)
    (body : ∀ (p : Program) (e : Env) (s : State) (m : MethodId) (args : Array Value) (below : List Frame) (meth : Method) (c : Code) (ls : Array Slot) (Q : State → Prop) (H : Heap) (locs : List Loc), gm_F p s m args meth c y.cls b n none D tys A lt → gm_M D A s Wd u H locs → lv_has ls n (lv_args 0 av) →
      (∀ (H : Heap) (locs : List Loc) (pc : Nat) (ls : Array Slot), gm_M D A s Wd u' H locs → decode b pc = .ok (.return_, 1) → W p l e rm s m args below meth c H locs 0 0 Q (F0 m pc ls [])) →
      W p l e rm s m args below meth c H locs 0 0 Q (F0 m 0 ls [])) : gm_V l D tys Wd A lt y b n rm av u u' := by
  refine Met.ofW (cc := b) (maxL := n) (ret := none) hy rfl ?_
  intro p e s m args below meth c s₁ B hml hv
  obtain ⟨rfl, hP, hK, hD, hX⟩ := hv
  have hts := atoms_spec B.pre
  rw [lg_entry_eq]
  refine body p e s m _ below meth c _ _ _ _ ⟨B.exec, B.bytes, hml, findClass_of_methodNamed B.named, fun w h => hts w (List.mem_cons_of_mem _ h), B.returns, B.notSynchronized, hK, hX⟩ ⟨hP, hD, va_S.rf⟩ (lv_entry av hn) ?_
  intro H locs pc ls hM hd
  exact W.vret B.exec B.bytes B.returns (fun t ht hW => ⟨⟨u', rfl, rfl, by rw [ht]; exact hM.1, hM.2.1⟩, hM.2.2.F ht⟩) hM.2.2.2.2 hd
end GM1
section GM2
variable {p : Program} {l : Launch} {e : Env} {R : Room} {s : State} {m : MethodId} {args : Array Value} {below : List Frame} {meth : Method} {c : Code} {H : Heap} {locs : List Loc} {Q : State → Prop} {pc nL cells slots : Nat} {ls : Array Slot} {rest st0 : List Value} {cc : ByteArray} {own : String} {ret : Option FieldType}
variable {D : va_G} {tys : List (ClassId × FieldType)} {Wd : gm_St → va_W} {A : Nat → Prop} {lt : Nat} {u u' : gm_St}
theorem gm_pre (hF : gm_F p s m args meth c own cc nL ret D tys A lt) (hM : gm_M D A s Wd u H locs) (av : List Value) : PreS s H (va_Pc av (gm_C D tys Wd A lt u)) av :=
  ⟨fun a U g mk q => ⟨q.1, q.2.1, va_K.moved (u := U) (U := U.calling g mk a) (Vm.Alike.refl U.vm) q.2.2.1, q.2.2.2.1, q.2.2.2.2.calling⟩,
   fun U hU hW => ⟨rfl, by rw [hU]; exact hM.1, va_K.moved hW.alike hF.2.2.2.2.2.2.2.1, hM.2.1, hF.2.2.2.2.2.2.2.2.go hM.2.2 hU hW⟩⟩
theorem gm_tp {x y : Int32} (h : x = y) (k : W p l e R s m args below meth c H locs cells slots Q (F0 m pc ls (.int y :: rest))) : W p l e R s m args below meth c H locs cells slots Q (F0 m pc ls (.int x :: rest)) := by subst h; exact k
theorem gm_ifz (hexec : p.tables.exec = Jvm.exec) (hb : c.code = cc) {b : Bool} {off : Int} {tgt : Nat} (hdg : decode cc pc = .ok (.ifCond .eq off, 3)) (ht : (pc : Int) + off = (tgt : Int)) (kt : b = false → W p l e R s m args below meth c H locs cells slots Q (F0 m tgt ls rest)) (kf : b = true → W p l e R s m args below meth c H locs cells slots Q (F0 m (pc + 3) ls rest)) : W p l e R s m args below meth c H locs cells slots Q (F0 m pc ls (.int (gm_b b) :: rest)) :=
  lv_if_eq hexec hb hdg ht (fun h => kt (gm_b0.mp h)) (fun h => kf (gm_b1.mp h))
theorem gm_ifn (hexec : p.tables.exec = Jvm.exec) (hb : c.code = cc) {b : Bool} {off : Int} {tgt : Nat} (hdg : decode cc pc = .ok (.ifCond .ne off, 3)) (ht : (pc : Int) + off = (tgt : Int)) (kt : b = true → W p l e R s m args below meth c H locs cells slots Q (F0 m tgt ls rest)) (kf : b = false → W p l e R s m args below meth c H locs cells slots Q (F0 m (pc + 3) ls rest)) : W p l e R s m args below meth c H locs cells slots Q (F0 m pc ls (.int (gm_b b) :: rest)) :=
  lv_if_ne hexec hb hdg ht (fun h => kt (gm_b1.mp h)) (fun h => kf (gm_b0.mp h))
theorem gm_icz (hexec : p.tables.exec = Jvm.exec) (hb : c.code = cc) {b d : Bool} {off : Int} {tgt : Nat} (hdg : decode cc pc = .ok (.if_icmp .eq off, 3)) (ht : (pc : Int) + off = (tgt : Int)) (kt : b = d → W p l e R s m args below meth c H locs cells slots Q (F0 m tgt ls rest)) (kf : ¬ b = d → W p l e R s m args below meth c H locs cells slots Q (F0 m (pc + 3) ls rest)) : W p l e R s m args below meth c H locs cells slots Q (F0 m pc ls (.int (gm_b d) :: .int (gm_b b) :: rest)) :=
  lv_icmp_eq hexec hb hdg ht (fun h => kt (gm_bb.mp h)) (fun h => kf (fun q => h (gm_bb.mpr q)))
theorem gm_icn (hexec : p.tables.exec = Jvm.exec) (hb : c.code = cc) {b d : Bool} {off : Int} {tgt : Nat} (hdg : decode cc pc = .ok (.if_icmp .ne off, 3)) (ht : (pc : Int) + off = (tgt : Int)) (kt : ¬ b = d → W p l e R s m args below meth c H locs cells slots Q (F0 m tgt ls rest)) (kf : b = d → W p l e R s m args below meth c H locs cells slots Q (F0 m (pc + 3) ls rest)) : W p l e R s m args below meth c H locs cells slots Q (F0 m pc ls (.int (gm_b d) :: .int (gm_b b) :: rest)) :=
  lv_icmp_ne hexec hb hdg ht (fun h => kt (fun q => h (gm_bb.mpr q))) (fun h => kf (gm_bb.mp h))
theorem gm_calli {r : Int32} {a : Array Value} (hM : gm_M D A s Wd u H locs) (hr : va_Run p l e R s m args below meth c H locs cells slots 0 0 (F0 m pc ls st0) rest (va_Qi (fun (r' : Int32) (v : gm_St) => r' = r ∧ v = u') (fun v t => va_P D gm_cl (Wd v) t.heap ∧ va_D A (Wd v)) A a) A)
    (kk : ∀ (H1 : Heap) (locs1 : List Loc), gm_M D A s Wd u' H1 locs1 → W p l e R s m args below meth c H1 locs1 cells slots Q (F0 m (pc + 3) ls (.int r :: rest))) : W p l e R s m args below meth c H locs cells slots Q (F0 m pc ls st0) := by
  refine va_calli hr hM.2.2 (fun q _ h => h) (fun q h => h) (fun r' u1 t H1 locs1 ht hvm hp hB hz hk hS => ?_)
  obtain ⟨rfl, rfl⟩ := hp
  exact kk H1 locs1 ⟨by rw [← ht]; exact hB.1, hB.2, hS⟩
theorem gm_calll {r : Int64} {a : Array Value} (hM : gm_M D A s Wd u H locs) (hr : va_Run p l e R s m args below meth c H locs cells slots 0 0 (F0 m pc ls st0) rest (va_Ql (fun (r' : Int64) (v : gm_St) => r' = r ∧ v = u') (fun v t => va_P D gm_cl (Wd v) t.heap ∧ va_D A (Wd v)) A a) A)
    (kk : ∀ (H1 : Heap) (locs1 : List Loc), gm_M D A s Wd u' H1 locs1 → W p l e R s m args below meth c H1 locs1 cells slots Q (F0 m (pc + 3) ls (.long r :: rest))) : W p l e R s m args below meth c H locs cells slots Q (F0 m pc ls st0) := by
  refine va_calll hr hM.2.2 (fun q _ h => h) (fun q h => h) (fun r' u1 t H1 locs1 ht hvm hp hB hz hk hS => ?_)
  obtain ⟨rfl, rfl⟩ := hp
  exact kk H1 locs1 ⟨by rw [← ht]; exact hB.1, hB.2, hS⟩
theorem gm_callv {a : Array Value} (hM : gm_M D A s Wd u H locs) (hr : va_Run p l e R s m args below meth c H locs cells slots 0 0 (F0 m pc ls st0) rest (va_Qv (fun (v : gm_St) => v = u') (fun v t => va_P D gm_cl (Wd v) t.heap ∧ va_D A (Wd v)) A a) A)
    (kk : ∀ (H1 : Heap) (locs1 : List Loc), gm_M D A s Wd u' H1 locs1 → W p l e R s m args below meth c H1 locs1 cells slots Q (F0 m (pc + 3) ls rest)) : W p l e R s m args below meth c H locs cells slots Q (F0 m pc ls st0) := by
  refine va_callv hr hM.2.2 (fun q _ h => h) (fun q h => h) (fun u1 t H1 locs1 ht hvm hp hB hz hk hS => ?_)
  subst hp
  exact kk H1 locs1 ⟨by rw [← ht]; exact hB.1, hB.2, hS⟩
abbrev gm_rv (s : State) (H : Heap) (C : String) (b : Addr) : Prop := ∃ cellB : Cell, H[b]? = some cellB ∧ cellB.vm.isStatics = false ∧ s.vm.findClass C = some cellB.cls
variable {y : MethodName} {b1 : ByteArray} {n1 k index : Nat} {rm : Room} {As : List Value} {b0 : Addr} {ret1 : Option FieldType} {C : String}
-- calls
theorem gm_Vi {r : Int32} (hF : gm_F p s m args meth c own cc nL ret D tys A lt) (hM : gm_M D A s Wd u H locs) (hC : gm_I l D tys Wd A lt y b1 n1 ret1 rm (.ref b0 :: As) u r u') (cw : CallW R s args own C index y b1 n1 ret1 (Cond.code y b1 n1 ret1 :: gm_A) rm 0 0 k) (hv : gm_rv s H C b0) (hn : As.length = k) (hl : ls.size = nL) (hst : st0 = As.reverse ++ .ref b0 :: rest) (hW : (rest.map fun v => v.category).sum ≤ 8) (hf : cells ≤ R.cells ∧ slots ≤ R.slots) (hdg : decode cc pc = .ok (.invokevirtual index, 3))
    (kk : ∀ (H1 : Heap) (locs1 : List Loc), gm_M D A s Wd u' H1 locs1 → W p l e R s m args below meth c H1 locs1 cells slots Q (F0 m (pc + 3) ls (.int r :: rest))) : W p l e R s m args below meth c H locs cells slots Q (F0 m pc ls st0) :=
  gm_calli hM (va_runV (As := As) (rest := rest) ⟨hF.1, hF.2.1, hF.2.2.1, hF.2.2.2.1, hF.2.2.2.2.1⟩ hC cw ⟨(gm_pre hF hM _).1, hv, (gm_pre hF hM _).2⟩ rfl hn hl hst (lv_room hW) hdg hf) kk
theorem gm_Vl {r : Int64} (hF : gm_F p s m args meth c own cc nL ret D tys A lt) (hM : gm_M D A s Wd u H locs) (hC : gm_L l D tys Wd A lt y b1 n1 ret1 rm (.ref b0 :: As) u r u') (cw : CallW R s args own C index y b1 n1 ret1 (Cond.code y b1 n1 ret1 :: gm_A) rm 0 0 k) (hv : gm_rv s H C b0) (hn : As.length = k) (hl : ls.size = nL) (hst : st0 = As.reverse ++ .ref b0 :: rest) (hW : (rest.map fun v => v.category).sum ≤ 8) (hf : cells ≤ R.cells ∧ slots ≤ R.slots) (hdg : decode cc pc = .ok (.invokevirtual index, 3))
    (kk : ∀ (H1 : Heap) (locs1 : List Loc), gm_M D A s Wd u' H1 locs1 → W p l e R s m args below meth c H1 locs1 cells slots Q (F0 m (pc + 3) ls (.long r :: rest))) : W p l e R s m args below meth c H locs cells slots Q (F0 m pc ls st0) :=
  gm_calll hM (va_runV (As := As) (rest := rest) ⟨hF.1, hF.2.1, hF.2.2.1, hF.2.2.2.1, hF.2.2.2.2.1⟩ hC cw ⟨(gm_pre hF hM _).1, hv, (gm_pre hF hM _).2⟩ rfl hn hl hst (lv_room hW) hdg hf) kk
theorem gm_Vv (hF : gm_F p s m args meth c own cc nL ret D tys A lt) (hM : gm_M D A s Wd u H locs) (hC : gm_V l D tys Wd A lt y b1 n1 rm (.ref b0 :: As) u u') (cw : CallW R s args own C index y b1 n1 none (Cond.code y b1 n1 none :: gm_A) rm 0 0 k) (hv : gm_rv s H C b0) (hn : As.length = k) (hl : ls.size = nL) (hst : st0 = As.reverse ++ .ref b0 :: rest) (hW : (rest.map fun v => v.category).sum ≤ 8) (hf : cells ≤ R.cells ∧ slots ≤ R.slots) (hdg : decode cc pc = .ok (.invokevirtual index, 3))
    (kk : ∀ (H1 : Heap) (locs1 : List Loc), gm_M D A s Wd u' H1 locs1 → W p l e R s m args below meth c H1 locs1 cells slots Q (F0 m (pc + 3) ls rest)) : W p l e R s m args below meth c H locs cells slots Q (F0 m pc ls st0) :=
  gm_callv hM (va_runV (As := As) (rest := rest) ⟨hF.1, hF.2.1, hF.2.2.1, hF.2.2.2.1, hF.2.2.2.2.1⟩ hC cw ⟨(gm_pre hF hM _).1, hv, (gm_pre hF hM _).2⟩ rfl hn hl hst (lv_room hW) hdg hf) kk
theorem gm_Si {r : Int32} (hF : gm_F p s m args meth c own cc nL ret D tys A lt) (hM : gm_M D A s Wd u H locs) (hC : gm_I l D tys Wd A lt y b1 n1 ret1 rm As u r u') (cw : CallB R s args own index y b1 n1 ret1 (Cond.code y b1 n1 ret1 :: gm_A) rm 0 0 k ∧ (Cond.static y).before args s = true) (hn : As.length = k) (hl : ls.size = nL) (hst : st0 = As.reverse ++ rest) (hW : (rest.map fun v => v.category).sum ≤ 8) (hf : cells ≤ R.cells ∧ slots ≤ R.slots) (hdg : decode cc pc = .ok (.invokestatic index, 3))
    (kk : ∀ (H1 : Heap) (locs1 : List Loc), gm_M D A s Wd u' H1 locs1 → W p l e R s m args below meth c H1 locs1 cells slots Q (F0 m (pc + 3) ls (.int r :: rest))) : W p l e R s m args below meth c H locs cells slots Q (F0 m pc ls st0) :=
  gm_calli hM (va_runS (As := As) (rest := rest) ⟨hF.1, hF.2.1, hF.2.2.1, hF.2.2.2.1, hF.2.2.2.2.1⟩ hC cw (gm_pre hF hM _) rfl hn hl hst (lv_room hW) hdg hf) kk
theorem gm_Ni {r : Int32} {host : String} (hF : gm_F p s m args meth c own cc nL ret D tys A lt) (hM : gm_M D A s Wd u H locs) (hC : gm_I l D tys Wd A lt y b1 n1 ret1 rm (.ref b0 :: As) u r u') (cw : va_CN R s args own index y host b1 n1 ret1 (Cond.code y b1 n1 ret1 :: gm_A) rm 0 0 k ∧ (Cond.instanceMethod y).before args s = true ∧ (Cond.selects C y y).before args s = true) (hv : gm_rv s H C b0) (hn : As.length = k) (hl : ls.size = nL) (hst : st0 = As.reverse ++ .ref b0 :: rest) (hW : (rest.map fun v => v.category).sum ≤ 8) (hf : cells ≤ R.cells ∧ slots ≤ R.slots) (hdg : decode cc pc = .ok (.invokevirtual index, 3))
    (kk : ∀ (H1 : Heap) (locs1 : List Loc), gm_M D A s Wd u' H1 locs1 → W p l e R s m args below meth c H1 locs1 cells slots Q (F0 m (pc + 3) ls (.int r :: rest))) : W p l e R s m args below meth c H locs cells slots Q (F0 m pc ls st0) :=
  gm_calli hM (va_runVN (As := As) (rest := rest) ⟨hF.1, hF.2.1, hF.2.2.1, hF.2.2.2.1, hF.2.2.2.2.1⟩ hC cw ⟨(gm_pre hF hM _).1, hv, (gm_pre hF hM _).2⟩ rfl hn hl hst (lv_room hW) hdg hf) kk
theorem gm_Nv {host : String} (hF : gm_F p s m args meth c own cc nL ret D tys A lt) (hM : gm_M D A s Wd u H locs) (hC : gm_V l D tys Wd A lt y b1 n1 rm (.ref b0 :: As) u u') (cw : va_CN R s args own index y host b1 n1 none (Cond.code y b1 n1 none :: gm_A) rm 0 0 k ∧ (Cond.instanceMethod y).before args s = true ∧ (Cond.selects C y y).before args s = true) (hv : gm_rv s H C b0) (hn : As.length = k) (hl : ls.size = nL) (hst : st0 = As.reverse ++ .ref b0 :: rest) (hW : (rest.map fun v => v.category).sum ≤ 8) (hf : cells ≤ R.cells ∧ slots ≤ R.slots) (hdg : decode cc pc = .ok (.invokevirtual index, 3))
    (kk : ∀ (H1 : Heap) (locs1 : List Loc), gm_M D A s Wd u' H1 locs1 → W p l e R s m args below meth c H1 locs1 cells slots Q (F0 m (pc + 3) ls rest)) : W p l e R s m args below meth c H locs cells slots Q (F0 m pc ls st0) :=
  gm_callv hM (va_runVN (As := As) (rest := rest) ⟨hF.1, hF.2.1, hF.2.2.1, hF.2.2.2.1, hF.2.2.2.2.1⟩ hC cw ⟨(gm_pre hF hM _).1, hv, (gm_pre hF hM _).2⟩ rfl hn hl hst (lv_room hW) hdg hf) kk
end GM2
