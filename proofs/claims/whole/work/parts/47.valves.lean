/-- one of the moving valves is on -/
def mv (x : Int32) : Bool := bt x 1 || bt x 2 || bt x 3 || bt x 4
theorem was_bit (r : gm_St) (m : Nat) {v : Nat} (an : Nat) (hv : v < 32) : v_R_was r m (nI v) an = bt (r.2.1 2 (11 * m + an)) v := by
  unfold v_R_was
  by_cases h : bt (r.2.1 2 (11 * m + an)) v = true
  · rw [if_pos ((b_one1 _ hv).mpr h), h]
  · rw [if_neg (fun q => h ((b_one1 _ hv).mp q))]
    cases hb : bt (r.2.1 2 (11 * m + an)) v
    · rfl
    · exact absurd hb h
def anyb (f : Nat → Bool) : Nat → Nat → Bool
  | 0, _ => false
  | k + 1, i => f i || anyb f k (i + 1)
theorem anyb_iff (f : Nat → Bool) : ∀ k i, anyb f k i = true ↔ ∃ j, i ≤ j ∧ j < i + k ∧ f j = true := by
  intro k
  induction k with
  | zero => intro i; constructor
            · intro h; cases h
            · rintro ⟨j, h1, h2, _⟩; omega
  | succ k ih =>
    intro i
    simp only [anyb, Bool.or_eq_true, ih]
    constructor
    · rintro (h | ⟨j, h1, h2, h3⟩)
      · exact ⟨i, Nat.le_refl _, by omega, h⟩
      · exact ⟨j, by omega, by omega, h3⟩
    · rintro ⟨j, h1, h2, h3⟩
      by_cases e : j = i
      · subst e; exact Or.inl h3
      · exact Or.inr ⟨j, by omega, by omega, h3⟩
theorem vN2_eq (r : gm_St) (m v : Nat) : ∀ (k i : Nat) (gb : Bool), lp_R_vN2 r m v k i gb = (gb || anyb (fun a => v_R_was r m (nI v) a) k i) := by
  intro k
  induction k with
  | zero => intro i gb; simp [lp_R_vN2, anyb]
  | succ k ih =>
    intro i gb
    simp only [lp_R_vN2, anyb]
    rw [ih]
    cases gb <;> cases v_R_was r m (nI v) i <;> rfl
def onv (wv g0 g1 ov : Bool) : Bool := if wv = true then (if g0 = true then (if g1 = true then (if ov = true then false else true) else false) else false) else false
def rnX (vo : Int32) (g1 w1 w2 w3 w4 : Bool) : Int32 :=
  let x1 : Int32 := if onv w1 (bt vo 0) g1 (bt vo 2) = true then ((0 : Int32) ||| ((1 : Int32) <<< ((nI 1) &&& 31))) else 0
  let x2 : Int32 := if onv w2 (bt vo 0) g1 (bt vo 1) = true then (x1 ||| ((1 : Int32) <<< ((nI 2) &&& 31))) else x1
  let x3 : Int32 := if onv w3 (bt vo 0) g1 (bt vo 4) = true then (x2 ||| ((1 : Int32) <<< ((nI 3) &&& 31))) else x2
  if onv w4 (bt vo 0) g1 (bt vo 3) = true then (x3 ||| ((1 : Int32) <<< ((nI 4) &&& 31))) else x3
theorem vN_x (r : gm_St) (m : Nat) : (lp_R_vN r m 4 1 (0 : Int32) false).1 = rnX (r.2.1 2 (11 * m)) (bt (r.2.1 2 (11 * m + 1)) 0) (v_R_wanted r m (nI 1)) (v_R_wanted r m (nI 2)) (v_R_wanted r m (nI 3)) (v_R_wanted r m (nI 4)) := by
  simp only [lp_R_vN, Nat.reduceAdd]
  have o1 : v_R_opposite (nI 1) = nI 2 := by decide +kernel
  have o2 : v_R_opposite (nI 2) = nI 1 := by decide +kernel
  have o3 : v_R_opposite (nI 3) = nI 4 := by decide +kernel
  have o4 : v_R_opposite (nI 4) = nI 3 := by decide +kernel
  rw [o1, o2, o3, o4]
  have w0 : v_R_was r m (0 : Int32) 0 = bt (r.2.1 2 (11 * m)) 0 := was_bit r m (v := 0) 0 (by decide)
  have w1 : v_R_was r m (0 : Int32) 1 = bt (r.2.1 2 (11 * m + 1)) 0 := was_bit r m (v := 0) 1 (by decide)
  have q1 : v_R_was r m (nI 1) 0 = bt (r.2.1 2 (11 * m)) 1 := was_bit r m (v := 1) 0 (by decide)
  have q2 : v_R_was r m (nI 2) 0 = bt (r.2.1 2 (11 * m)) 2 := was_bit r m (v := 2) 0 (by decide)
  have q3 : v_R_was r m (nI 3) 0 = bt (r.2.1 2 (11 * m)) 3 := was_bit r m (v := 3) 0 (by decide)
  have q4 : v_R_was r m (nI 4) 0 = bt (r.2.1 2 (11 * m)) 4 := was_bit r m (v := 4) 0 (by decide)
  rw [w0, w1, q1, q2, q3, q4]
  rfl
/-- was any moving valve on at one of the last ten ticks -/
def mvs (r : gm_St) (m : Nat) : Bool := anyb (fun a => mv (r.2.1 2 (11 * m + a))) 10 0
theorem vN_g (r : gm_St) (m : Nat) : (lp_R_vN r m 4 1 (0 : Int32) false).2 = (v_R_wanted r m (nI 1) || v_R_wanted r m (nI 2) || v_R_wanted r m (nI 3) || v_R_wanted r m (nI 4) || mvs r m) := by
  simp only [lp_R_vN, Nat.reduceAdd, vN2_eq]
  have e : ∀ v, v < 32 → (fun a => v_R_was r m (nI v) a) = (fun a => bt (r.2.1 2 (11 * m + a)) v) := fun v hv => funext (fun a => was_bit r m a hv)
  rw [e 1 (by decide), e 2 (by decide), e 3 (by decide), e 4 (by decide)]
  have hm : mvs r m = (anyb (fun a => bt (r.2.1 2 (11 * m + a)) 1) 10 0 || anyb (fun a => bt (r.2.1 2 (11 * m + a)) 2) 10 0 || anyb (fun a => bt (r.2.1 2 (11 * m + a)) 3) 10 0 || anyb (fun a => bt (r.2.1 2 (11 * m + a)) 4) 10 0) := by
    rw [Bool.eq_iff_iff]
    unfold mvs
    simp only [Bool.or_eq_true, anyb_iff, mv]
    constructor
    · rintro ⟨j, h1, h2, ((h | h) | h) | h⟩
      · exact Or.inl (Or.inl (Or.inl ⟨j, h1, h2, h⟩))
      · exact Or.inl (Or.inl (Or.inr ⟨j, h1, h2, h⟩))
      · exact Or.inl (Or.inr ⟨j, h1, h2, h⟩)
      · exact Or.inr ⟨j, h1, h2, h⟩
    · rintro (((⟨j, h1, h2, h⟩ | ⟨j, h1, h2, h⟩) | ⟨j, h1, h2, h⟩) | ⟨j, h1, h2, h⟩)
      · exact ⟨j, h1, h2, Or.inl (Or.inl (Or.inl h))⟩
      · exact ⟨j, h1, h2, Or.inl (Or.inl (Or.inr h))⟩
      · exact ⟨j, h1, h2, Or.inl (Or.inr h)⟩
      · exact ⟨j, h1, h2, Or.inr h⟩
  rw [hm]
  generalize anyb (fun a => bt (r.2.1 2 (11 * m + a)) 1) 10 0 = a1
  generalize anyb (fun a => bt (r.2.1 2 (11 * m + a)) 2) 10 0 = a2
  generalize anyb (fun a => bt (r.2.1 2 (11 * m + a)) 3) 10 0 = a3
  generalize anyb (fun a => bt (r.2.1 2 (11 * m + a)) 4) 10 0 = a4
  generalize v_R_wanted r m (nI 1) = w1
  generalize v_R_wanted r m (nI 2) = w2
  generalize v_R_wanted r m (nI 3) = w3
  generalize v_R_wanted r m (nI 4) = w4
  revert a1 a2 a3 a4 w1 w2 w3 w4
  decide +kernel
def rt (dn e t : Bool) : Bool := if dn = true then (if e = true then (if t = true then false else true) else false) else (if t = true then (if e = true then false else true) else false)
def wC (rg cl op dn : Bool) : Int32 := if rg = true then (if cl = true then (0 : Int32) else (4 : Int32)) else (if op = true then ((2 : Int32) ||| (if dn = true then (8 : Int32) else (16 : Int32))) else (2 : Int32))
def wRf (rg cl op dn : Bool) (vn : Int32) : Bool := (if vn = (1 : Int32) then (if rg = true then false else true) else (if vn = (2 : Int32) then (if rg = true then (if cl = true then false else true) else false) else (if rg = true then false else (if op = true then (if dn = (if vn = (3 : Int32) then true else false) then true else false) else false))))
def nxC (vo wn : Int32) (gw gp : Bool) : Int32 := (if (if (vo &&& (1 : Int32)) = 0 then false else true) = true then (if gw = true then ((gm_b (if wn = 0 then gp else true)) ||| (wn &&& ((v_M_opposites vo) ^^^ (-1 : Int32)))) else (gm_b (if wn = 0 then gp else true))) else (gm_b (if wn = 0 then gp else true)))
def nxR (vo : Int32) (gw gp rg cl op dn : Bool) : Int32 :=
  if (wRf rg cl op dn (nI 1) || wRf rg cl op dn (nI 2) || wRf rg cl op dn (nI 3) || wRf rg cl op dn (nI 4) || gp) = true then (rnX vo gw (wRf rg cl op dn (nI 1)) (wRf rg cl op dn (nI 2)) (wRf rg cl op dn (nI 3)) (wRf rg cl op dn (nI 4))) ||| (1 : Int32) else rnX vo gw (wRf rg cl op dn (nI 1)) (wRf rg cl op dn (nI 2)) (wRf rg cl op dn (nI 3)) (wRf rg cl op dn (nI 4))
theorem nx_fin : ∀ (vo : Fin 32) (gw gp rg cl op dn : Bool), nxC (nI vo.val) (wC rg cl op dn) gw gp = nxR (nI vo.val) gw gp rg cl op dn ∧ (nxC (nI vo.val) (wC rg cl op dn) gw gp).toBitVec.toNat < 32 := by decide +kernel
