theorem gm_sB_self {u : gm_St} {j i : Nat} {b : Bool} (h : b = u.1 j i) : gm_sB u j i b = u := by
  subst h
  have e : (fun x y => if x = j then (if y = i then u.1 j i else u.1 x y) else u.1 x y) = u.1 := by
    funext x y
    by_cases h1 : x = j
    · subst h1
      rw [if_pos rfl]
      by_cases h2 : y = i
      · subst h2; rw [if_pos rfl]
      · rw [if_neg h2]
    · rw [if_neg h1]
  exact Prod.ext e rfl
theorem gm_sG_self {u : gm_St} {j i : Nat} {b : Int32} (h : b = u.2.1 j i) : gm_sG u j i b = u := by
  subst h
  have e : (fun x y => if x = j then (if y = i then u.2.1 j i else u.2.1 x y) else u.2.1 x y) = u.2.1 := by
    funext x y
    by_cases h1 : x = j
    · subst h1
      rw [if_pos rfl]
      by_cases h2 : y = i
      · subst h2; rw [if_pos rfl]
      · rw [if_neg h2]
    · rw [if_neg h1]
  exact Prod.ext rfl (Prod.ext e rfl)
/-- valid channels of the program, bad channels of the reference: at most one is bad -/
def gl_val (v : Int32) (b0 b1 b2 : Bool) : Prop := (v = 7 ∧ b0 = false ∧ b1 = false ∧ b2 = false) ∨ (v = 6 ∧ b0 = true ∧ b1 = false ∧ b2 = false) ∨ (v = 5 ∧ b0 = false ∧ b1 = true ∧ b2 = false) ∨ (v = 3 ∧ b0 = false ∧ b1 = false ∧ b2 = true)
def sy (b0 b1 b2 a0 a1 a2 ob : Bool) : Int32 :=
  let z0 : Int32 := if b0 = true then 0 else (if a0 = ob then (0 + (1 : Int32)) else 0)
  let z1 : Int32 := if b1 = true then z0 else (if a1 = ob then (z0 + (1 : Int32)) else z0)
  if b2 = true then z1 else (if a2 = ob then (z1 + (1 : Int32)) else z1)
theorem say_eq (r : gm_St) (m : Nat) {s : Nat} (hs : s < 6) (ob : Bool) : v_R_say r m s ob = sy (r.1 1 (18 * m + 3 * s)) (r.1 1 (18 * m + 3 * s + 1)) (r.1 1 (18 * m + 3 * s + 2)) (bt (r.2.1 3 1) (3 * s)) (bt (r.2.1 3 1) (3 * s + 1)) (bt (r.2.1 3 1) (3 * s + 2)) ob := by
  unfold v_R_say
  simp only [lp_R_say]
  rw [ch_bit r hs (c := 0) (by decide), ch_bit r hs (c := 0 + 1) (by decide), ch_bit r hs (c := 0 + 1 + 1) (by decide)]
  rfl
/-- the new values: on, broken, valid -/
def wV (on br : Bool) (va ch : Int32) : Bool × Bool × Int32 :=
  if br = true then (on, br, va) else
  if va = 7 then ((if v_I_bitCount ch < (2 : Int32) then false else true), false, (if (if v_I_bitCount ch < (2 : Int32) then false else true) = true then ch else ((7 : Int32) &&& (ch ^^^ (-1 : Int32))))) else
  if (ch &&& va) = va then (true, false, va) else if (ch &&& va) = 0 then (false, false, va) else (on, true, va)
theorem vote_c (c : gm_St) (i : Nat) (ch : Int32) : s_S_vote c i ch = gm_sG (gm_sB (gm_sB c 0 i (wV (c.1 0 i) (c.1 1 i) (c.2.1 0 i) ch).1) 1 i (wV (c.1 0 i) (c.1 1 i) (c.2.1 0 i) ch).2.1) 0 i (wV (c.1 0 i) (c.1 1 i) (c.2.1 0 i) ch).2.2 := by
  unfold s_S_vote wV
  by_cases h1 : c.1 1 i = true
  · rw [if_pos h1, if_pos h1]
    rw [gm_sB_self (u := c) rfl, gm_sB_self (u := c) rfl, gm_sG_self (u := c) rfl]
  · rw [if_neg h1, if_neg h1]
    have hf : c.1 1 i = false := by cases h : c.1 1 i <;> simp_all
    by_cases h7 : c.2.1 0 i = 7
    · rw [if_pos h7, if_pos h7]
      unfold s_S_voteOfThree
      have e : ∀ b : Bool, (gm_sB c 0 i b).1 0 i = b := fun b => by simp [gm_sB]
      rw [e]
      rw [gm_sB_self (u := gm_sB c 0 i _) (j := 1) (by simp [gm_sB, hf])]
    · rw [if_neg h7, if_neg h7]
      unfold s_S_voteOfTwo
      by_cases h2 : (ch &&& c.2.1 0 i) = c.2.1 0 i
      · rw [if_pos h2, if_pos h2]
        rw [gm_sB_self (u := gm_sB c 0 i _) (j := 1) (by simp [gm_sB, hf]), gm_sG_self (by simp [gm_sB])]
      · rw [if_neg h2, if_neg h2]
        by_cases h3 : (ch &&& c.2.1 0 i) = 0
        · rw [if_pos h3, if_pos h3]
          rw [gm_sB_self (u := gm_sB c 0 i _) (j := 1) (by simp [gm_sB, hf]), gm_sG_self (by simp [gm_sB])]
        · rw [if_neg h3, if_neg h3]
          rw [gm_sB_self (u := c) (j := 0) rfl, gm_sG_self (by simp [gm_sB])]
theorem vote_v (c : gm_St) (i : Nat) (ch : Int32) : v_S_vote c i ch = (if c.1 1 i = true then false else (wV (c.1 0 i) (c.1 1 i) (c.2.1 0 i) ch).2.1) := by
  unfold v_S_vote
  by_cases h1 : c.1 1 i = true
  · rw [if_pos h1, if_pos h1]
  · rw [if_neg h1, if_neg h1]
    have h := vote_c c i ch
    unfold s_S_vote at h
    rw [if_neg h1] at h
    rw [h]
    simp [gm_sB, gm_sG]
/-- the reference's new values: value, broken, bad; does it get the anomaly -/
def wR (on br b0 b1 b2 a0 a1 a2 : Bool) : Bool × Bool × Bool × Bool × Bool :=
  if br = true then (on, br, b0, b1, b2) else
  if sy b0 b1 b2 a0 a1 a2 true = sy b0 b1 b2 a0 a1 a2 false then (on, true, b0, b1, b2) else
  let v : Bool := if sy b0 b1 b2 a0 a1 a2 true ≤ sy b0 b1 b2 a0 a1 a2 false then false else true
  if sy b0 b1 b2 a0 a1 a2 true + sy b0 b1 b2 a0 a1 a2 false = (3 : Int32) then (v, false, (if a0 = v then false else true), (if a1 = v then false else true), (if a2 = v then false else true)) else (v, false, b0, b1, b2)
/-- both sides give the same -/
theorem vote_fin : ∀ on br a0 a1 a2 : Bool, ∀ q : Fin 4,
    let va : Int32 := match q with | 0 => 7 | 1 => 6 | 2 => 5 | 3 => 3
    let b0 : Bool := match q with | 1 => true | _ => false
    let b1 : Bool := match q with | 2 => true | _ => false
    let b2 : Bool := match q with | 3 => true | _ => false
    let C := wV on br va (ck a0 a1 a2)
    let R := wR on br b0 b1 b2 a0 a1 a2
    C.1 = R.1 ∧ C.2.1 = R.2.1 ∧ ((C.2.2 = 7 ∧ R.2.2 = (false, false, false)) ∨ (C.2.2 = 6 ∧ R.2.2 = (true, false, false)) ∨ (C.2.2 = 5 ∧ R.2.2 = (false, true, false)) ∨ (C.2.2 = 3 ∧ R.2.2 = (false, false, true))) := by decide +kernel
