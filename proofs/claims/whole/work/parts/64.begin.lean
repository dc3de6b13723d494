/-! THE CLAIM OUT OF ONE WALK OF THE LAW'S BODY. Your part is whole_start (and what it stands on); all else here is the same for every law, but numbers. -/
def R_law : String := "GearModulesLaw"
def lw_P (b : Addr) (xs : List Int32) (args : Array Value) (s : State) : Prop := args = #[.ref b] ∧ s.IntsAt b xs ∧ xs.length ≤ 1536 ∧ (Jvm.Cond.and given_1 narrow_1).before args s = true
def lw_Q (_ : Array Value) (s : State) (o : Outcome) (t : State) : Prop := o = .returned (some (.int 1)) ∧ Framed s o t [] 600000 7302250
def lw_Z (below : List Frame) (a : Array Value) (s : State) : State → Prop := fun t => ∃ o, t.status = .running ∧ Ended t below o ∧ lw_Q a s o t
/-- the law's own end, with 1 on the stack, nothing written that was there before, its room as the claim has it -/
theorem lw_ret {p : Program} {l : Launch} {e : Env} {s : State} {m : MethodId} {below : List Frame} {meth : Method} {c : Code} {b : Nat} (hx : p.tables.exec = Jvm.exec) (hb : c.code = code) (hr : meth.sig.returnType = ret) (hlocks : meth.locks = false) {pc : Nat} {H : Heap} {ls : Array Slot} (hdg : decode code pc = .ok (.ireturn, 1)) : W p l e room_1 s m #[Value.ref b] below meth c H [] 600000 7302250 (lw_Z below #[Value.ref b] s) (F0 m pc ls [.int 1]) := by
  intro T hT X
  obtain ⟨fs, hret, hrun, hended, hW, hframe⟩ := X.leave (v := some (.int 1)) (hlocks := hlocks) (fun h => by rw [hr] at h; cases h)
  have hmeth' : T.vm.method? m = some meth := X.method'
  refine ⟨T.setFrames fs, ?_, .returned (some (.int 1)), hrun, hended, rfl, ⟨_, rfl⟩, hW, hframe⟩
  jvm_step X.here [X.here.top, hx, hb, hdg, hmeth', hr, ret, narrow_b1]
  (try refine ⟨rfl, ?_⟩); (try refine ⟨rfl, ?_⟩)
  first | (intro acts; rw [hret _ acts rfl rfl rfl]) | rw [hret _ _ rfl rfl rfl]
  exact Steps.refl _
/-- what holds at the law's entry: the machine, the code, the tables' words (any of lw_tbl by 'hts w (by decide +kernel)'), the script of L ints xs at the cell b, what the Statement gives of the start (any of its parts by flat_of_before) -/
def lw_At (p : Program) (s : State) (m : MethodId) (meth : Method) (c : Code) (b L : Nat) (xs : Nat → Int32) : Prop :=
  p.tables.exec = Jvm.exec ∧ c.code = code ∧ meth.sig.returnType = ret ∧ c.maxLocals = 4 ∧ s.vm.findClass R_law = some m.cls ∧ (∀ w ∈ lw_tbl, w.before #[Value.ref b] s = true) ∧ va_X b L xs s s.heap ∧ b < s.heap.size ∧ meth.locks = false ∧ (Jvm.Cond.and given_1 narrow_1).before #[Value.ref b] s = true
theorem ty_uniq {D : va_G} {tys : List (ClassId × FieldType)} {U : State} {i j : Nat} {c1 c2 : ClassId} {ty : FieldType} (hK : va_K D gm_cl tys U) (h1 : tys[i]? = some (c1, ty)) (h2 : tys[j]? = some (c2, ty)) : c1 = c2 := by
  have a1 := (hK.2 i _ h1).2
  have a2 := (hK.2 j _ h2).2
  cases ty with
  | object C =>
    obtain ⟨_, _, _, _, _, e1⟩ := a1
    obtain ⟨_, _, _, _, _, e2⟩ := a2
    exact Option.some.inj (e1.symm.trans e2)
  | _ => exact Option.some.inj (a1.symm.trans a2)
theorem refs2 {a : Nat → Nat} {o q0 q1 : Nat} (h0 : a o = q0) (h1 : a (o + 1) = q1) : va_up (va_up (fun _ => none) 0 (some q0)) 1 (some q1) = gm_refs a o 2 := by
  subst h0; subst h1
  funext j
  match j with
  | 0 => rfl
  | 1 => rfl
  | j + 2 =>
    have e0 : ¬ j + 2 = 0 := by omega
    have e1 : ¬ j + 2 = 1 := by omega
    have e2 : ¬ j + 2 < 2 := by omega
    simp [va_up, gm_refs]
theorem refs6 {a : Nat → Nat} {o q0 q1 q2 q3 q4 q5 : Nat} (h0 : a o = q0) (h1 : a (o + 1) = q1) (h2 : a (o + 2) = q2) (h3 : a (o + 3) = q3) (h4 : a (o + 4) = q4) (h5 : a (o + 5) = q5) : va_up (va_up (va_up (va_up (va_up (va_up (fun _ => none) 0 (some q0)) 1 (some q1)) 2 (some q2)) 3 (some q3)) 4 (some q4)) 5 (some q5) = gm_refs a o 6 := by
  subst h0; subst h1; subst h2; subst h3; subst h4; subst h5
  funext j
  match j with
  | 0 => rfl
  | 1 => rfl
  | 2 => rfl
  | 3 => rfl
  | 4 => rfl
  | 5 => rfl
  | j + 6 =>
    have e2 : ¬ j + 6 < 6 := by omega
    simp [va_up, gm_refs]
theorem gm_W_at {dk : Nat → ClassId} {a : Nat → Nat} {u : gm_St} {k : Nat} (h : k < 21) : ∃ e, (gm_W dk a u)[k]? = some (a k, e) := match k, h with
  | 0, _ => ⟨_, rfl⟩
  | 1, _ => ⟨_, rfl⟩
  | 2, _ => ⟨_, rfl⟩
  | 3, _ => ⟨_, rfl⟩
  | 4, _ => ⟨_, rfl⟩
  | 5, _ => ⟨_, rfl⟩
  | 6, _ => ⟨_, rfl⟩
  | 7, _ => ⟨_, rfl⟩
  | 8, _ => ⟨_, rfl⟩
  | 9, _ => ⟨_, rfl⟩
  | 10, _ => ⟨_, rfl⟩
  | 11, _ => ⟨_, rfl⟩
  | 12, _ => ⟨_, rfl⟩
  | 13, _ => ⟨_, rfl⟩
  | 14, _ => ⟨_, rfl⟩
  | 15, _ => ⟨_, rfl⟩
  | 16, _ => ⟨_, rfl⟩
  | 17, _ => ⟨_, rfl⟩
  | 18, _ => ⟨_, rfl⟩
  | 19, _ => ⟨_, rfl⟩
  | 20, _ => ⟨_, rfl⟩
  | _ + 21, h => absurd h (by omega)
theorem gr_W_at {dk : Nat → ClassId} {a : Nat → Nat} {u : gm_St} {k : Nat} (h : k < 11) : ∃ e, (gr_W dk a u)[k]? = some (a k, e) := match k, h with
  | 0, _ => ⟨_, rfl⟩
  | 1, _ => ⟨_, rfl⟩
  | 2, _ => ⟨_, rfl⟩
  | 3, _ => ⟨_, rfl⟩
  | 4, _ => ⟨_, rfl⟩
  | 5, _ => ⟨_, rfl⟩
  | 6, _ => ⟨_, rfl⟩
  | 7, _ => ⟨_, rfl⟩
  | 8, _ => ⟨_, rfl⟩
  | 9, _ => ⟨_, rfl⟩
  | 10, _ => ⟨_, rfl⟩
  | _ + 11, h => absurd h (by omega)
theorem gm_W_len {dk : Nat → ClassId} {a : Nat → Nat} {u : gm_St} : (gm_W dk a u).length = 21 := rfl
theorem gr_W_len {dk : Nat → ClassId} {a : Nat → Nat} {u : gm_St} : (gr_W dk a u).length = 11 := rfl
theorem gl_D {dk : Nat → ClassId} {a b : Nat → Nat} {u v : gm_St} {A : Nat → Prop} (h : va_D A (gm_W dk a u ++ gr_W dk b v)) : va_D (Ag a) (gm_W dk a u) ∧ va_D (Ar b) (gr_W dk b v) ∧ (∀ q, Ag a q → A q) ∧ (∀ q, Ar b q → A q) ∧ (∀ q, Ag a q → ¬ Ar b q) := by
  have lft : ∀ k q, (gm_W dk a u)[k]? = some q → (gm_W dk a u ++ gr_W dk b v)[k]? = some q := fun k q hk => by
    rw [List.getElem?_append_left (List.getElem?_eq_some_iff.mp hk).1]; exact hk
  have rgt : ∀ k q, (gr_W dk b v)[k]? = some q → (gm_W dk a u ++ gr_W dk b v)[21 + k]? = some q := fun k q hk => by
    rw [List.getElem?_append_right (by rw [gm_W_len]; omega), gm_W_len, show 21 + k - 21 = k by omega]; exact hk
  refine ⟨⟨fun i j p q hp hq e => h.1 i j p q (lft i p hp) (lft j q hq) e, fun k q hk => ?_⟩, ⟨fun i j p q hp hq e => by have := h.1 (21 + i) (21 + j) p q (rgt i p hp) (rgt j q hq) e; omega, fun k q hk => ?_⟩, ?_, ?_, ?_⟩
  · have hlt : k < 21 := (List.getElem?_eq_some_iff.mp hk).1
    obtain ⟨e, he⟩ := gm_W_at (dk := dk) (a := a) (u := u) hlt
    rw [hk] at he
    exact ⟨k, hlt, congrArg Prod.fst (Option.some.inj he)⟩
  · have hlt : k < 11 := (List.getElem?_eq_some_iff.mp hk).1
    obtain ⟨e, he⟩ := gr_W_at (dk := dk) (a := b) (u := v) hlt
    rw [hk] at he
    exact ⟨k, hlt, congrArg Prod.fst (Option.some.inj he)⟩
  · rintro q ⟨k, hk, rfl⟩
    obtain ⟨e, he⟩ := gm_W_at (dk := dk) (a := a) (u := u) hk
    exact h.2 k _ (lft k _ he)
  · rintro q ⟨k, hk, rfl⟩
    obtain ⟨e, he⟩ := gr_W_at (dk := dk) (a := b) (u := v) hk
    exact h.2 (21 + k) _ (rgt k _ he)
  · rintro q ⟨k, hk, rfl⟩ ⟨k', hk', e'⟩
    obtain ⟨e, he⟩ := gm_W_at (dk := dk) (a := a) (u := u) hk
    obtain ⟨f, hf⟩ := gr_W_at (dk := dk) (a := b) (u := v) hk'
    have := h.1 k (21 + k') _ _ (lft k _ he) (rgt k' _ hf) e'
    omega
set_option maxRecDepth 100000 in
theorem x_start {s : State} {b : Nat} (htbl : ∀ w ∈ lw_tbl, w.before #[Value.ref b] s = true) (hgv : (Jvm.Cond.and given_1 narrow_1).before #[Value.ref b] s = true) : ∃ lt : Nat, gm_X (fun q => s.heap.size ≤ q) lt s := by
  have hs := flat_of_before _ hgv
  have hA : ∀ a : Nat, a < s.heap.size → ¬ (fun q => s.heap.size ≤ q) a := fun a h => Nat.not_le.mpr h
  have harr : (Cond.arrayOf (Term.static "GearModules" "LIMITS" "[I") .int).before #[Value.ref b] s = true := hs _ (by decide +kernel)
  have hlen : (Term.length (Term.static "GearModules" "LIMITS" "[I")).eval #[Value.ref b] s none [] s = some (.int (Int32.ofNat 16)) := va_eqt (z := 16) (hs _ (by decide +kernel))
  have hel : ∀ j : Nat, j < 16 → (Term.elem (Term.static "GearModules" "LIMITS" "[I") (.int (Int32.ofNat j))).eval #[Value.ref b] s none [] s = some (.int (gm_lim j)) := fun j hj => match j, hj with
    | 0, _ => va_eqt (t := Term.elem (Term.static "GearModules" "LIMITS" "[I") (.int 0)) (z := 0) (hs _ (by decide +kernel))
    | 1, _ => va_eqt (t := Term.elem (Term.static "GearModules" "LIMITS" "[I") (.int 1)) (z := 0) (hs _ (by decide +kernel))
    | 2, _ => va_eqt (t := Term.elem (Term.static "GearModules" "LIMITS" "[I") (.int 2)) (z := 0) (hs _ (by decide +kernel))
    | 3, _ => va_eqt (t := Term.elem (Term.static "GearModules" "LIMITS" "[I") (.int 3)) (z := 0) (hs _ (by decide +kernel))
    | 4, _ => va_eqt (t := Term.elem (Term.static "GearModules" "LIMITS" "[I") (.int 4)) (z := 0) (hs _ (by decide +kernel))
    | 5, _ => va_eqt (t := Term.elem (Term.static "GearModules" "LIMITS" "[I") (.int 5)) (z := 0) (hs _ (by decide +kernel))
    | 6, _ => va_eqt (t := Term.elem (Term.static "GearModules" "LIMITS" "[I") (.int 6)) (z := 70) (hs _ (by decide +kernel))
    | 7, _ => va_eqt (t := Term.elem (Term.static "GearModules" "LIMITS" "[I") (.int 7)) (z := 70) (hs _ (by decide +kernel))
    | 8, _ => va_eqt (t := Term.elem (Term.static "GearModules" "LIMITS" "[I") (.int 8)) (z := 70) (hs _ (by decide +kernel))
    | 9, _ => va_eqt (t := Term.elem (Term.static "GearModules" "LIMITS" "[I") (.int 9)) (z := 100) (hs _ (by decide +kernel))
    | 10, _ => va_eqt (t := Term.elem (Term.static "GearModules" "LIMITS" "[I") (.int 10)) (z := 70) (hs _ (by decide +kernel))
    | 11, _ => va_eqt (t := Term.elem (Term.static "GearModules" "LIMITS" "[I") (.int 11)) (z := 100) (hs _ (by decide +kernel))
    | 12, _ => va_eqt (t := Term.elem (Term.static "GearModules" "LIMITS" "[I") (.int 12)) (z := 20) (hs _ (by decide +kernel))
    | 13, _ => va_eqt (t := Term.elem (Term.static "GearModules" "LIMITS" "[I") (.int 13)) (z := 100) (hs _ (by decide +kernel))
    | 14, _ => va_eqt (t := Term.elem (Term.static "GearModules" "LIMITS" "[I") (.int 14)) (z := 10) (hs _ (by decide +kernel))
    | 15, _ => va_eqt (t := Term.elem (Term.static "GearModules" "LIMITS" "[I") (.int 15)) (z := 30) (hs _ (by decide +kernel))
    | _ + 16, h => absurd h (by omega)
  obtain ⟨t, ht, hT⟩ := va_Tof (f := fun j => .int (gm_lim j)) (A := fun q => s.heap.size ≤ q) (by decide) harr hlen hel hA
  refine ⟨t, ?_, ?_, va_Zref (htbl _ (List.mem_of_getElem? (i := 196) (by decide +kernel))) (htbl _ (List.mem_of_getElem? (i := 28) (by decide +kernel))) ht hA, hT⟩
  · intro q hq
    simp only [gm_fl, List.mem_cons, List.not_mem_nil, or_false] at hq
    rcases hq with rfl | rfl | rfl | rfl | rfl | rfl | rfl | rfl
    · exact va_Nw.of rfl (htbl _ (List.mem_of_getElem? (i := 57) (by decide +kernel)))
    · exact va_Nw.of rfl (htbl _ (List.mem_of_getElem? (i := 59) (by decide +kernel)))
    · exact va_Nw.of rfl (htbl _ (List.mem_of_getElem? (i := 71) (by decide +kernel)))
    · exact va_Nw.of rfl (htbl _ (List.mem_of_getElem? (i := 73) (by decide +kernel)))
    · exact va_Nw.of rfl (htbl _ (List.mem_of_getElem? (i := 75) (by decide +kernel)))
    · exact va_Nw.of rfl (htbl _ (List.mem_of_getElem? (i := 79) (by decide +kernel)))
    · exact va_Nw.of rfl (htbl _ (List.mem_of_getElem? (i := 82) (by decide +kernel)))
    · exact va_Nw.of rfl (htbl _ (List.mem_of_getElem? (i := 195) (by decide +kernel)))
  · intro q hq
    simp only [gm_ml, List.mem_cons, List.not_mem_nil, or_false] at hq
    subst hq
    exact va_Nw.of rfl (htbl _ (List.mem_of_getElem? (i := 52) (by decide +kernel)))
theorem y_start {s : State} {b : Nat} (htbl : ∀ w ∈ lw_tbl, w.before #[Value.ref b] s = true) : gm_Y s := ⟨va_Nw.of rfl (htbl _ (List.mem_of_getElem? (i := 52) (by decide +kernel))), va_AO.of (htbl _ (List.mem_of_getElem? (i := 50) (by decide +kernel))), va_AO.of (htbl _ (List.mem_of_getElem? (i := 43) (by decide +kernel)))⟩
def gm_D (cG cM cS cR : ClassId) (iG iM iS iR : Nat → Nat) : va_G := (fun k => match k with | 0 => cG | 1 => cM | 2 => cS | _ => cR, fun k => match k with | 0 => iG | 1 => iM | 2 => iS | _ => iR)
theorem k_start {s : State} {b : Nat} (hts : ∀ w ∈ gm_A, w.before #[Value.ref b] s = true) : ∃ D : va_G, va_K D gm_cl [] s := by
  obtain ⟨cG, iG, kG⟩ := u_known (n := 6) hts in_G (hts _ (gm_in 35 (by decide +kernel) rfl))
  obtain ⟨cM, iM, kM⟩ := u_known (n := 8) hts in_M (hts _ (gm_in 44 (by decide +kernel) rfl))
  obtain ⟨cS, iS, kS⟩ := u_known (n := 3) hts in_S (hts _ (gm_in 51 (by decide +kernel) rfl))
  obtain ⟨cR, iR, kR⟩ := u_known (n := 14) hts in_R (hts _ (gm_in 305 (by decide +kernel) rfl))
  refine ⟨gm_D cG cM cS cR iG iM iS iR, fun k q hk => ?_, fun k q hk => by cases hk⟩
  match k, hk with
  | 0, hk => cases hk; exact kG
  | 1, hk => cases hk; exact kM
  | 2, hk => cases hk; exact kS
  | 3, hk => cases hk; exact kR
