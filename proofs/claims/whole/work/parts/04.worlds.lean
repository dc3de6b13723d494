-- the cells of a GearModules with its two modules and twelve sensors; the cells of the reference
def gm_refs (a : Nat → Nat) (o n : Nat) : Nat → Option Nat := fun j => if j < n then some (a (o + j)) else none
def gm_W (dk : Nat → ClassId) (a : Nat → Nat) (u : gm_St) : va_W := [(a 0, .inr (0, [.ref (a 1), .ref (a 2), .int (nI (u.2.2.1 0)), .int (nI (u.2.2.1 1)), .int (u.2.1 6 2), .int (gm_b (u.1 5 0))])),
  (a 1, .inl (dk 0, 2, .inr (.inr (.inr (.inr (gm_refs a 3 2)))))),
  (a 2, .inl (dk 1, 16, .inr (.inl u.2.2.2))),
  (a 3, .inr (1, [.ref (a 5), .ref (a 7), .int (gm_b (u.1 2 0)), .int (gm_b (u.1 3 0)), .int (gm_b (u.1 4 0)), .int (u.2.1 3 0), .int (u.2.1 4 0), .int (u.2.1 5 0)])),
  (a 4, .inr (1, [.ref (a 6), .ref (a 8), .int (gm_b (u.1 2 1)), .int (gm_b (u.1 3 1)), .int (gm_b (u.1 4 1)), .int (u.2.1 3 1), .int (u.2.1 4 1), .int (u.2.1 5 1)])),
  (a 5, .inl (dk 2, 6, .inr (.inr (.inr (.inr (gm_refs a 9 6)))))),
  (a 6, .inl (dk 2, 6, .inr (.inr (.inr (.inr (gm_refs a 15 6)))))),
  (a 7, .inl (dk 3, 16, .inl (u.2.1 1))),
  (a 8, .inl (dk 3, 16, .inl (u.2.1 2))),
  (a 9, .inr (2, [.int (gm_b (u.1 0 0)), .int (gm_b (u.1 1 0)), .int (u.2.1 0 0)])),
  (a 10, .inr (2, [.int (gm_b (u.1 0 1)), .int (gm_b (u.1 1 1)), .int (u.2.1 0 1)])),
  (a 11, .inr (2, [.int (gm_b (u.1 0 2)), .int (gm_b (u.1 1 2)), .int (u.2.1 0 2)])),
  (a 12, .inr (2, [.int (gm_b (u.1 0 3)), .int (gm_b (u.1 1 3)), .int (u.2.1 0 3)])),
  (a 13, .inr (2, [.int (gm_b (u.1 0 4)), .int (gm_b (u.1 1 4)), .int (u.2.1 0 4)])),
  (a 14, .inr (2, [.int (gm_b (u.1 0 5)), .int (gm_b (u.1 1 5)), .int (u.2.1 0 5)])),
  (a 15, .inr (2, [.int (gm_b (u.1 0 6)), .int (gm_b (u.1 1 6)), .int (u.2.1 0 6)])),
  (a 16, .inr (2, [.int (gm_b (u.1 0 7)), .int (gm_b (u.1 1 7)), .int (u.2.1 0 7)])),
  (a 17, .inr (2, [.int (gm_b (u.1 0 8)), .int (gm_b (u.1 1 8)), .int (u.2.1 0 8)])),
  (a 18, .inr (2, [.int (gm_b (u.1 0 9)), .int (gm_b (u.1 1 9)), .int (u.2.1 0 9)])),
  (a 19, .inr (2, [.int (gm_b (u.1 0 10)), .int (gm_b (u.1 1 10)), .int (u.2.1 0 10)])),
  (a 20, .inr (2, [.int (gm_b (u.1 0 11)), .int (gm_b (u.1 1 11)), .int (u.2.1 0 11)]))]
def gr_W (dk : Nat → ClassId) (a : Nat → Nat) (u : gm_St) : va_W := [(a 0, .inr (3, [.int (gm_b (u.1 6 0)), .int (u.2.1 3 0), .int (u.2.1 3 1), .ref (a 1), .ref (a 2), .ref (a 3), .ref (a 4), .ref (a 5), .ref (a 6), .ref (a 7), .ref (a 8), .ref (a 9), .int (nI (u.2.2.1 0)), .ref (a 10)])),
  (a 1, .inl (dk 4, 2, .inl (fun i => gm_b (u.1 0 i)))),
  (a 2, .inl (dk 4, 36, .inl (fun i => gm_b (u.1 1 i)))),
  (a 3, .inl (dk 4, 12, .inl (fun i => gm_b (u.1 2 i)))),
  (a 4, .inl (dk 4, 12, .inl (fun i => gm_b (u.1 3 i)))),
  (a 5, .inl (dk 4, 32, .inl (fun i => gm_b (u.1 4 i)))),
  (a 6, .inl (dk 3, 32, .inl (u.2.1 0))),
  (a 7, .inl (dk 4, 2, .inl (fun i => gm_b (u.1 5 i)))),
  (a 8, .inl (dk 3, 2, .inl (u.2.1 1))),
  (a 9, .inl (dk 3, 22, .inl (u.2.1 2))),
  (a 10, .inl (dk 1, 16, .inr (.inl u.2.2.2)))]
def gm_ty (dk : Nat → ClassId) : List (ClassId × FieldType) := [(dk 0, .object "GearModules$OneModule"), (dk 1, .long), (dk 2, .object "GearModules$Sensor"), (dk 3, .int), (dk 4, .boolean)]
section GMW
variable {dk : Nat → ClassId} {a : Nat → Nat} {u : gm_St} {k0 k : Nat}
theorem gm_WM (h : k0 < 2) : (gm_W dk a u)[3 + k0]? = some (a (3 + k0), .inr (1, [.ref (a (5 + k0)), .ref (a (7 + k0)), .int (gm_b (u.1 2 k0)), .int (gm_b (u.1 3 k0)), .int (gm_b (u.1 4 k0)), .int (u.2.1 3 k0), .int (u.2.1 4 k0), .int (u.2.1 5 k0)])) := match k0, h with
  | 0, _ => rfl
  | 1, _ => rfl
  | _ + 2, h => absurd h (by omega)
theorem gm_WS (h : k0 < 12) : (gm_W dk a u)[9 + k0]? = some (a (9 + k0), .inr (2, [.int (gm_b (u.1 0 k0)), .int (gm_b (u.1 1 k0)), .int (u.2.1 0 k0)])) := match k0, h with
  | 0, _ => rfl
  | 1, _ => rfl
  | 2, _ => rfl
  | 3, _ => rfl
  | 4, _ => rfl
  | 5, _ => rfl
  | 6, _ => rfl
  | 7, _ => rfl
  | 8, _ => rfl
  | 9, _ => rfl
  | 10, _ => rfl
  | 11, _ => rfl
  | _ + 12, h => absurd h (by omega)
theorem gm_WA (h : k0 < 2) : (gm_W dk a u)[5 + k0]? = some (a (5 + k0), .inl (dk 2, 6, .inr (.inr (.inr (.inr (gm_refs a (9 + 6 * k0) 6)))))) := match k0, h with
  | 0, _ => rfl
  | 1, _ => rfl
  | _ + 2, h => absurd h (by omega)
theorem gm_WC (h : k0 < 2) : (gm_W dk a u)[7 + k0]? = some (a (7 + k0), .inl (dk 3, 16, .inl (u.2.1 (1 + k0)))) := match k0, h with
  | 0, _ => rfl
  | 1, _ => rfl
  | _ + 2, h => absurd h (by omega)
theorem gs_G_kept {x : Nat} : (gm_W dk a u).set (0) (a (0), .inr (0, ([.ref (a 1), .ref (a 2), .int (nI (u.2.2.1 0)), .int (nI (u.2.2.1 1)), .int (u.2.1 6 2), .int (gm_b (u.1 5 0))] : List Value).set 2 (.int (nI x)))) = gm_W dk a (gm_sN u 0 x) := rfl
theorem gs_G_newest {x : Nat} : (gm_W dk a u).set (0) (a (0), .inr (0, ([.ref (a 1), .ref (a 2), .int (nI (u.2.2.1 0)), .int (nI (u.2.2.1 1)), .int (u.2.1 6 2), .int (gm_b (u.1 5 0))] : List Value).set 3 (.int (nI x)))) = gm_W dk a (gm_sN u 1 x) := rfl
theorem gs_G_ticks {x : Int32} : (gm_W dk a u).set (0) (a (0), .inr (0, ([.ref (a 1), .ref (a 2), .int (nI (u.2.2.1 0)), .int (nI (u.2.2.1 1)), .int (u.2.1 6 2), .int (gm_b (u.1 5 0))] : List Value).set 4 (.int x))) = gm_W dk a (gm_sG u 6 2 x) := rfl
theorem gs_G_handleDown {x : Bool} : (gm_W dk a u).set (0) (a (0), .inr (0, ([.ref (a 1), .ref (a 2), .int (nI (u.2.2.1 0)), .int (nI (u.2.2.1 1)), .int (u.2.1 6 2), .int (gm_b (u.1 5 0))] : List Value).set 5 (.int (gm_b x)))) = gm_W dk a (gm_sB u 5 0 x) := rfl
theorem gs_M_working {x : Bool} (h : k0 < 2) : (gm_W dk a u).set (3 + k0) (a (3 + k0), .inr (1, ([.ref (a (5 + k0)), .ref (a (7 + k0)), .int (gm_b (u.1 2 k0)), .int (gm_b (u.1 3 k0)), .int (gm_b (u.1 4 k0)), .int (u.2.1 3 k0), .int (u.2.1 4 k0), .int (u.2.1 5 k0)] : List Value).set 2 (.int (gm_b x)))) = gm_W dk a (gm_sB u 2 k0 x) := match k0, h with
  | 0, _ => rfl
  | 1, _ => rfl
  | _ + 2, h => absurd h (by omega)
theorem gs_M_waiting {x : Bool} (h : k0 < 2) : (gm_W dk a u).set (3 + k0) (a (3 + k0), .inr (1, ([.ref (a (5 + k0)), .ref (a (7 + k0)), .int (gm_b (u.1 2 k0)), .int (gm_b (u.1 3 k0)), .int (gm_b (u.1 4 k0)), .int (u.2.1 3 k0), .int (u.2.1 4 k0), .int (u.2.1 5 k0)] : List Value).set 3 (.int (gm_b x)))) = gm_W dk a (gm_sB u 3 k0 x) := match k0, h with
  | 0, _ => rfl
  | 1, _ => rfl
  | _ + 2, h => absurd h (by omega)
theorem gs_M_generalWasOn {x : Bool} (h : k0 < 2) : (gm_W dk a u).set (3 + k0) (a (3 + k0), .inr (1, ([.ref (a (5 + k0)), .ref (a (7 + k0)), .int (gm_b (u.1 2 k0)), .int (gm_b (u.1 3 k0)), .int (gm_b (u.1 4 k0)), .int (u.2.1 3 k0), .int (u.2.1 4 k0), .int (u.2.1 5 k0)] : List Value).set 4 (.int (gm_b x)))) = gm_W dk a (gm_sB u 4 k0 x) := match k0, h with
  | 0, _ => rfl
  | 1, _ => rfl
  | _ + 2, h => absurd h (by omega)
theorem gs_M_valvesOn {x : Int32} (h : k0 < 2) : (gm_W dk a u).set (3 + k0) (a (3 + k0), .inr (1, ([.ref (a (5 + k0)), .ref (a (7 + k0)), .int (gm_b (u.1 2 k0)), .int (gm_b (u.1 3 k0)), .int (gm_b (u.1 4 k0)), .int (u.2.1 3 k0), .int (u.2.1 4 k0), .int (u.2.1 5 k0)] : List Value).set 5 (.int x))) = gm_W dk a (gm_sG u 3 k0 x) := match k0, h with
  | 0, _ => rfl
  | 1, _ => rfl
  | _ + 2, h => absurd h (by omega)
theorem gs_M_generalStays {x : Int32} (h : k0 < 2) : (gm_W dk a u).set (3 + k0) (a (3 + k0), .inr (1, ([.ref (a (5 + k0)), .ref (a (7 + k0)), .int (gm_b (u.1 2 k0)), .int (gm_b (u.1 3 k0)), .int (gm_b (u.1 4 k0)), .int (u.2.1 3 k0), .int (u.2.1 4 k0), .int (u.2.1 5 k0)] : List Value).set 6 (.int x))) = gm_W dk a (gm_sG u 4 k0 x) := match k0, h with
  | 0, _ => rfl
  | 1, _ => rfl
  | _ + 2, h => absurd h (by omega)
theorem gs_M_found {x : Int32} (h : k0 < 2) : (gm_W dk a u).set (3 + k0) (a (3 + k0), .inr (1, ([.ref (a (5 + k0)), .ref (a (7 + k0)), .int (gm_b (u.1 2 k0)), .int (gm_b (u.1 3 k0)), .int (gm_b (u.1 4 k0)), .int (u.2.1 3 k0), .int (u.2.1 4 k0), .int (u.2.1 5 k0)] : List Value).set 7 (.int x))) = gm_W dk a (gm_sG u 5 k0 x) := match k0, h with
  | 0, _ => rfl
  | 1, _ => rfl
  | _ + 2, h => absurd h (by omega)
theorem gs_S_on {x : Bool} (h : k0 < 12) : (gm_W dk a u).set (9 + k0) (a (9 + k0), .inr (2, ([.int (gm_b (u.1 0 k0)), .int (gm_b (u.1 1 k0)), .int (u.2.1 0 k0)] : List Value).set 0 (.int (gm_b x)))) = gm_W dk a (gm_sB u 0 k0 x) := match k0, h with
  | 0, _ => rfl
  | 1, _ => rfl
  | 2, _ => rfl
  | 3, _ => rfl
  | 4, _ => rfl
  | 5, _ => rfl
  | 6, _ => rfl
  | 7, _ => rfl
  | 8, _ => rfl
  | 9, _ => rfl
  | 10, _ => rfl
  | 11, _ => rfl
  | _ + 12, h => absurd h (by omega)
theorem gs_S_broken {x : Bool} (h : k0 < 12) : (gm_W dk a u).set (9 + k0) (a (9 + k0), .inr (2, ([.int (gm_b (u.1 0 k0)), .int (gm_b (u.1 1 k0)), .int (u.2.1 0 k0)] : List Value).set 1 (.int (gm_b x)))) = gm_W dk a (gm_sB u 1 k0 x) := match k0, h with
  | 0, _ => rfl
  | 1, _ => rfl
  | 2, _ => rfl
  | 3, _ => rfl
  | 4, _ => rfl
  | 5, _ => rfl
  | 6, _ => rfl
  | 7, _ => rfl
  | 8, _ => rfl
  | 9, _ => rfl
  | 10, _ => rfl
  | 11, _ => rfl
  | _ + 12, h => absurd h (by omega)
theorem gs_S_valid {x : Int32} (h : k0 < 12) : (gm_W dk a u).set (9 + k0) (a (9 + k0), .inr (2, ([.int (gm_b (u.1 0 k0)), .int (gm_b (u.1 1 k0)), .int (u.2.1 0 k0)] : List Value).set 2 (.int x))) = gm_W dk a (gm_sG u 0 k0 x) := match k0, h with
  | 0, _ => rfl
  | 1, _ => rfl
  | 2, _ => rfl
  | 3, _ => rfl
  | 4, _ => rfl
  | 5, _ => rfl
  | 6, _ => rfl
  | 7, _ => rfl
  | 8, _ => rfl
  | 9, _ => rfl
  | 10, _ => rfl
  | 11, _ => rfl
  | _ + 12, h => absurd h (by omega)
theorem gs_R_down {x : Bool} : (gr_W dk a u).set (0) (a (0), .inr (3, ([.int (gm_b (u.1 6 0)), .int (u.2.1 3 0), .int (u.2.1 3 1), .ref (a 1), .ref (a 2), .ref (a 3), .ref (a 4), .ref (a 5), .ref (a 6), .ref (a 7), .ref (a 8), .ref (a 9), .int (nI (u.2.2.1 0)), .ref (a 10)] : List Value).set 0 (.int (gm_b x)))) = gr_W dk a (gm_sB u 6 0 x) := rfl
theorem gs_R_time {x : Int32} : (gr_W dk a u).set (0) (a (0), .inr (3, ([.int (gm_b (u.1 6 0)), .int (u.2.1 3 0), .int (u.2.1 3 1), .ref (a 1), .ref (a 2), .ref (a 3), .ref (a 4), .ref (a 5), .ref (a 6), .ref (a 7), .ref (a 8), .ref (a 9), .int (nI (u.2.2.1 0)), .ref (a 10)] : List Value).set 1 (.int x))) = gr_W dk a (gm_sG u 3 0 x) := rfl
theorem gs_R_channels {x : Int32} : (gr_W dk a u).set (0) (a (0), .inr (3, ([.int (gm_b (u.1 6 0)), .int (u.2.1 3 0), .int (u.2.1 3 1), .ref (a 1), .ref (a 2), .ref (a 3), .ref (a 4), .ref (a 5), .ref (a 6), .ref (a 7), .ref (a 8), .ref (a 9), .int (nI (u.2.2.1 0)), .ref (a 10)] : List Value).set 2 (.int x))) = gr_W dk a (gm_sG u 3 1 x) := rfl
theorem gs_R_written {x : Nat} : (gr_W dk a u).set (0) (a (0), .inr (3, ([.int (gm_b (u.1 6 0)), .int (u.2.1 3 0), .int (u.2.1 3 1), .ref (a 1), .ref (a 2), .ref (a 3), .ref (a 4), .ref (a 5), .ref (a 6), .ref (a 7), .ref (a 8), .ref (a 9), .int (nI (u.2.2.1 0)), .ref (a 10)] : List Value).set 12 (.int (nI x)))) = gr_W dk a (gm_sN u 0 x) := rfl
theorem gs_cnt {x : Int32} (h : k0 < 2) : (gm_W dk a u).set (7 + k0) (a (7 + k0), .inl (dk 3, 16, .inl (upd (u.2.1 (1 + k0)) k x))) = gm_W dk a (gm_sG u (1 + k0) k x) := match k0, h with
  | 0, _ => rfl
  | 1, _ => rfl
  | _ + 2, h => absurd h (by omega)
theorem gs_recs {x : Int64} : (gm_W dk a u).set 2 (a 2, .inl (dk 1, 16, .inr (.inl (vp_updL u.2.2.2 k x)))) = gm_W dk a (gm_sL u k x) := rfl
theorem gs_rrec {x : Int64} : (gr_W dk a u).set 10 (a 10, .inl (dk 1, 16, .inr (.inl (vp_updL u.2.2.2 k x)))) = gr_W dk a (gm_sL u k x) := rfl
theorem gs_eB {j : Nat} {x : Bool} : upd (fun i => gm_b (u.1 j i)) k (gm_b x) = (fun i => gm_b ((gm_sB u j k x).1 j i)) := by
  funext i
  simp only [upd, gm_sB, if_true]
  split <;> rfl
theorem gs_failed {x : Bool} : (gr_W dk a u).set 1 (a 1, .inl (dk 4, 2, .inl (upd (fun i => gm_b (u.1 0 i)) k (gm_b x)))) = gr_W dk a (gm_sB u 0 k x) := by
  rw [gs_eB]; rfl
theorem gs_bad {x : Bool} : (gr_W dk a u).set 2 (a 2, .inl (dk 4, 36, .inl (upd (fun i => gm_b (u.1 1 i)) k (gm_b x)))) = gr_W dk a (gm_sB u 1 k x) := by
  rw [gs_eB]; rfl
theorem gs_value {x : Bool} : (gr_W dk a u).set 3 (a 3, .inl (dk 4, 12, .inl (upd (fun i => gm_b (u.1 2 i)) k (gm_b x)))) = gr_W dk a (gm_sB u 2 k x) := by
  rw [gs_eB]; rfl
theorem gs_broken {x : Bool} : (gr_W dk a u).set 4 (a 4, .inl (dk 4, 12, .inl (upd (fun i => gm_b (u.1 3 i)) k (gm_b x)))) = gr_W dk a (gm_sB u 3 k x) := by
  rw [gs_eB]; rfl
theorem gs_had {x : Bool} : (gr_W dk a u).set 5 (a 5, .inl (dk 4, 32, .inl (upd (fun i => gm_b (u.1 4 i)) k (gm_b x)))) = gr_W dk a (gm_sB u 4 k x) := by
  rw [gs_eB]; rfl
theorem gs_waits {x : Bool} : (gr_W dk a u).set 7 (a 7, .inl (dk 4, 2, .inl (upd (fun i => gm_b (u.1 5 i)) k (gm_b x)))) = gr_W dk a (gm_sB u 5 k x) := by
  rw [gs_eB]; rfl
theorem gs_held {x : Int32} : (gr_W dk a u).set 6 (a 6, .inl (dk 3, 32, .inl (upd (u.2.1 0) k x))) = gr_W dk a (gm_sG u 0 k x) := rfl
theorem gs_waited {x : Int32} : (gr_W dk a u).set 8 (a 8, .inl (dk 3, 2, .inl (upd (u.2.1 1) k x))) = gr_W dk a (gm_sG u 1 k x) := rfl
theorem gs_past {x : Int32} : (gr_W dk a u).set 9 (a 9, .inl (dk 3, 22, .inl (upd (u.2.1 2) k x))) = gr_W dk a (gm_sG u 2 k x) := rfl
end GMW
