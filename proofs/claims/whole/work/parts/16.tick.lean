theorem d_G_tick_0 : decode b_G_tick 0 = .ok (.iload_n 2, 1) := by decide +kernel
theorem d_G_tick_1 : decode b_G_tick 1 = .ok (.iconst 1, 1) := by decide +kernel
theorem d_G_tick_2 : decode b_G_tick 2 = .ok (.if_icmp .lt 9, 3) := by decide +kernel
theorem d_G_tick_5 : decode b_G_tick 5 = .ok (.iload_n 2, 1) := by decide +kernel
theorem d_G_tick_6 : decode b_G_tick 6 = .ok (.bipush 100, 2) := by decide +kernel
theorem d_G_tick_8 : decode b_G_tick 8 = .ok (.if_icmp .le 5, 3) := by decide +kernel
theorem d_G_tick_11 : decode b_G_tick 11 = .ok (.iconst (-1), 1) := by decide +kernel
theorem d_G_tick_12 : decode b_G_tick 12 = .ok (.ireturn, 1) := by decide +kernel
theorem d_G_tick_13 : decode b_G_tick 13 = .ok (.iconst 0, 1) := by decide +kernel
theorem d_G_tick_14 : decode b_G_tick 14 = .ok (.istore_n 3, 1) := by decide +kernel
theorem d_G_tick_15 : decode b_G_tick 15 = .ok (.iload_n 3, 1) := by decide +kernel
theorem d_G_tick_16 : decode b_G_tick 16 = .ok (.iload_n 2, 1) := by decide +kernel
theorem d_G_tick_17 : decode b_G_tick 17 = .ok (.if_icmp .ge 55, 3) := by decide +kernel
theorem d_G_tick_20 : decode b_G_tick 20 = .ok (.aload_n 0, 1) := by decide +kernel
theorem d_G_tick_21 : decode b_G_tick 21 = .ok (.dup, 1) := by decide +kernel
theorem d_G_tick_22 : decode b_G_tick 22 = .ok (.getfield 27, 3) := by decide +kernel
theorem d_G_tick_25 : decode b_G_tick 25 = .ok (.iconst 1, 1) := by decide +kernel
theorem d_G_tick_26 : decode b_G_tick 26 = .ok (.iadd, 1) := by decide +kernel
theorem d_G_tick_27 : decode b_G_tick 27 = .ok (.putfield 27, 3) := by decide +kernel
theorem d_G_tick_30 : decode b_G_tick 30 = .ok (.iconst 0, 1) := by decide +kernel
theorem d_G_tick_31 : decode b_G_tick 31 = .ok (.istore 4, 2) := by decide +kernel
theorem d_G_tick_33 : decode b_G_tick 33 = .ok (.iload 4, 2) := by decide +kernel
theorem d_G_tick_35 : decode b_G_tick 35 = .ok (.iconst 2, 1) := by decide +kernel
theorem d_G_tick_36 : decode b_G_tick 36 = .ok (.if_icmp .ge 30, 3) := by decide +kernel
theorem d_G_tick_39 : decode b_G_tick 39 = .ok (.aload_n 0, 1) := by decide +kernel
theorem d_G_tick_40 : decode b_G_tick 40 = .ok (.iload 4, 2) := by decide +kernel
theorem d_G_tick_42 : decode b_G_tick 42 = .ok (.aload_n 0, 1) := by decide +kernel
theorem d_G_tick_43 : decode b_G_tick 43 = .ok (.getfield 11, 3) := by decide +kernel
theorem d_G_tick_46 : decode b_G_tick 46 = .ok (.iload 4, 2) := by decide +kernel
theorem d_G_tick_48 : decode b_G_tick 48 = .ok (.aaload, 1) := by decide +kernel
theorem d_G_tick_49 : decode b_G_tick 49 = .ok (.iload_n 1, 1) := by decide +kernel
theorem d_G_tick_50 : decode b_G_tick 50 = .ok (.aload_n 0, 1) := by decide +kernel
theorem d_G_tick_51 : decode b_G_tick 51 = .ok (.getfield 20, 3) := by decide +kernel
theorem d_G_tick_54 : decode b_G_tick 54 = .ok (.invokevirtual 31, 3) := by decide +kernel
theorem d_G_tick_57 : decode b_G_tick 57 = .ok (.invokevirtual 35, 3) := by decide +kernel
theorem d_G_tick_60 : decode b_G_tick 60 = .ok (.iinc 4 1, 3) := by decide +kernel
theorem d_G_tick_63 : decode b_G_tick 63 = .ok (.goto (-30), 3) := by decide +kernel
theorem d_G_tick_66 : decode b_G_tick 66 = .ok (.iinc 3 1, 3) := by decide +kernel
theorem d_G_tick_69 : decode b_G_tick 69 = .ok (.goto (-54), 3) := by decide +kernel
theorem d_G_tick_72 : decode b_G_tick 72 = .ok (.aload_n 0, 1) := by decide +kernel
theorem d_G_tick_73 : decode b_G_tick 73 = .ok (.getfield 27, 3) := by decide +kernel
theorem d_G_tick_76 : decode b_G_tick 76 = .ok (.ireturn, 1) := by decide +kernel
def lp_G_tick2 (ch : Int32) : Nat → Nat → gm_St → gm_St
  | 0, _, u => u
  | k + 1, i, u => lp_G_tick2 ch k (i + 1) (s_G_write (s_M_step u i ch (u.1 5 0)) i (v_M_step u i ch (u.1 5 0)))
def lp_G_tick (ch : Int32) : Nat → Nat → gm_St → gm_St
  | 0, _, u => u
  | k + 1, i, u => lp_G_tick ch k (i + 1) (lp_G_tick2 ch 2 0 (gm_sG u 6 2 ((u.2.1 6 2) + (1 : Int32))))
def v_G_tick (u : gm_St) (ch : Int32) (xn : Int32) : Int32 := (if xn < (1 : Int32) then (-1 : Int32) else (if xn ≤ (100 : Int32) then ((lp_G_tick ch xn.toNatClampNeg 0 u).2.1 6 2) else (-1 : Int32)))
def s_G_tick (u : gm_St) (ch : Int32) (xn : Int32) : gm_St := (if xn < (1 : Int32) then u else (if xn ≤ (100 : Int32) then (lp_G_tick ch xn.toNatClampNeg 0 u) else u))
theorem gm_ok_tick2 {ch : Int32} : ∀ (k i : Nat) (u : gm_St), gm_ok u → gm_ok (lp_G_tick2 ch k i u) := by
  intro k
  induction k with
  | zero => intro i u h; exact h
  | succ k ih => intro i u h; simp only [lp_G_tick2]; exact ih _ _ (gm_ok_write (gm_ok_step h))
set_option maxRecDepth 100000 in
set_option maxHeartbeats 4000000 in
theorem c_G_tick {l : Launch} {D : va_G} {dk : Nat → ClassId} {a : Nat → Nat} {A : Nat → Prop} {lt : Nat} {u : gm_St} {ch : Int32} {xn : Int32} (hp0 : gm_ok u) : gm_I l D (gm_ty dk) (gm_W dk a) A lt y_G_tick b_G_tick 5 (some .int) rm_G_tick [.ref (a 0), .int ch, .int xn] u (v_G_tick u ch xn) (s_G_tick u ch xn) := by
  refine gm_enterI (by decide) (Nat.le_of_ble_eq_true rfl) ?_
  intro p e s m args below meth c ls Q H locs hF hM hl hQ
  have hx := hF.1
  have hb := hF.2.1
  have hml := hF.2.2.1
  have hown := hF.2.2.2.1
  have hts := hF.2.2.2.2.1
  have hl : lv_has ls 5 [(0, .ref (a 0)), (1, .int ch), (2, .int xn)] := hl
  refine lv_iload_n hx hb d_G_tick_0 rfl (lv_at hl 2 rfl) ?_
  refine lv_iconst (v := 1) hx hb d_G_tick_1 (by decide) ?_
  refine lv_icmp_lt (tgt := 11) hx hb d_G_tick_2 rfl (fun h1 => ?_) (fun h1 => ?_)
  · refine lv_iconst (v := -1) hx hb d_G_tick_11 (by decide) ?_
    have hq := hQ H locs 12 ls
    simp only [v_G_tick, s_G_tick, if_pos h1] at hq
    exact hq hM d_G_tick_12
  · refine lv_iload_n hx hb d_G_tick_5 rfl (lv_at hl 2 rfl) ?_
    refine lv_bipush (v := 100) hx hb d_G_tick_6 (by decide) ?_
    refine lv_icmp_le (tgt := 13) hx hb d_G_tick_8 rfl (fun h2 => ?_) (fun h2 => ?_)
    · obtain ⟨n, hn, rfl⟩ := gm_ixL (lo := 1) (n := 100) h1 h2 (by decide) (by decide)
      refine lv_iconst (v := 0) hx hb d_G_tick_13 (by decide) ?_
      refine lv_istore_n (lv' := [(3, .int (0 : Int32)), (0, .ref (a 0)), (1, .int ch), (2, .int (nI n))]) hx hb d_G_tick_14 rfl hl (by decide) rfl (fun ls hl => ?_)
      have L3 : ∀ (k3 i3 : Nat) (w3 : gm_St) (ls : Array Slot) (H : Heap) (locs : List Loc), i3 + k3 = n → gm_ok w3 → lv_has ls 5 [(3, .int (nI i3)), (0, .ref (a 0)), (1, .int ch), (2, .int (nI n))] → gm_M D A s (gm_W dk a) w3 H locs → (∀ (ls : Array Slot) (H : Heap) (locs : List Loc), lv_has ls 5 [(3, .int (nI n)), (0, .ref (a 0)), (1, .int ch), (2, .int (nI n))] → gm_M D A s (gm_W dk a) (lp_G_tick ch k3 i3 w3) H locs → W p l e rm_G_tick s m args below meth c H locs 0 0 Q (F0 m 72 ls [])) → W p l e rm_G_tick s m args below meth c H locs 0 0 Q (F0 m 15 ls []) := by
        intro k3
        induction k3 with
        | zero =>
          intro i3 w3 ls H locs hk3 hI3 hl hM kk
          have hN : i3 = n := by omega
          refine lv_iload_n hx hb d_G_tick_15 rfl (lv_at hl 0 rfl) ?_
          refine lv_iload_n hx hb d_G_tick_16 rfl (lv_at hl 3 rfl) ?_
          refine lv_icmp_ge (tgt := 72) hx hb d_G_tick_17 rfl (fun _ => ?_) (fun h => absurd (by rw [hN]; exact nI_le (Nat.le_refl _) (by omega)) h)
          exact kk ls H locs (by rw [hN] at hl; exact hl) hM
        | succ k3 ih =>
          intro i3 w3 ls H locs hk3 hI3 hl hM kk
          refine lv_iload_n hx hb d_G_tick_15 rfl (lv_at hl 0 rfl) ?_
          refine lv_iload_n hx hb d_G_tick_16 rfl (lv_at hl 3 rfl) ?_
          refine lv_icmp_ge (tgt := 72) hx hb d_G_tick_17 rfl (fun h => absurd h (nI_ge (a := i3) (b := n) (by omega) (by first | decide | omega))) (fun _ => ?_)
          refine lv_aload_n hx hb d_G_tick_20 rfl (lv_at hl 1 rfl) ?_
          refine lv_dup hx hb d_G_tick_21 rfl ?_
          refine gf_G_27 hF hM d_G_tick_22 ?_
          refine lv_iconst (v := 1) hx hb d_G_tick_25 (by decide) ?_
          refine lv_iadd hx hb d_G_tick_26 ?_
          refine gp_G_27 hF hM d_G_tick_27 (fun H locs hM => ?_)
          refine lv_iconst (v := 0) hx hb d_G_tick_30 (by decide) ?_
          refine lv_istore (lv' := [(4, .int (0 : Int32)), (3, .int (nI i3)), (0, .ref (a 0)), (1, .int ch), (2, .int (nI n))]) hx hb d_G_tick_31 hl (by decide) rfl (fun ls hl => ?_)
          have L4 : ∀ (k4 i4 : Nat) (w4 : gm_St) (ls : Array Slot) (H : Heap) (locs : List Loc), i4 + k4 = 2 → gm_ok w4 → lv_has ls 5 [(4, .int (nI i4)), (3, .int (nI i3)), (0, .ref (a 0)), (1, .int ch), (2, .int (nI n))] → gm_M D A s (gm_W dk a) w4 H locs → (∀ (ls : Array Slot) (H : Heap) (locs : List Loc), lv_has ls 5 [(4, .int (nI 2)), (3, .int (nI i3)), (0, .ref (a 0)), (1, .int ch), (2, .int (nI n))] → gm_M D A s (gm_W dk a) (lp_G_tick2 ch k4 i4 w4) H locs → W p l e rm_G_tick s m args below meth c H locs 0 0 Q (F0 m 66 ls [])) → W p l e rm_G_tick s m args below meth c H locs 0 0 Q (F0 m 33 ls []) := by
            intro k4
            induction k4 with
            | zero =>
              intro i4 w4 ls H locs hk4 hI4 hl hM kk
              obtain rfl : i4 = 2 := by omega
              refine lv_iload hx hb d_G_tick_33 (lv_at hl 0 rfl) ?_
              refine lv_iconst (v := 2) hx hb d_G_tick_35 (by decide) ?_
              refine lv_icmp_ge (tgt := 66) hx hb d_G_tick_36 rfl (fun _ => ?_) (fun h => absurd (by decide) h)
              exact kk ls H locs hl hM
            | succ k4 ih =>
              intro i4 w4 ls H locs hk4 hI4 hl hM kk
              refine lv_iload hx hb d_G_tick_33 (lv_at hl 0 rfl) ?_
              refine lv_iconst (v := 2) hx hb d_G_tick_35 (by decide) ?_
              refine lv_icmp_ge (tgt := 66) hx hb d_G_tick_36 rfl (fun h => absurd h (nI_ge (a := i4) (b := 2) (by omega) (by first | decide | omega))) (fun _ => ?_)
              refine lv_aload_n hx hb d_G_tick_39 rfl (lv_at hl 2 rfl) ?_
              refine lv_iload hx hb d_G_tick_40 (lv_at hl 0 rfl) ?_
              refine lv_aload_n hx hb d_G_tick_42 rfl (lv_at hl 2 rfl) ?_
              refine gf_G_11 hF hM d_G_tick_43 ?_
              refine lv_iload hx hb d_G_tick_46 (lv_at hl 0 rfl) ?_
              refine ga_mods (k := i4) hF hM rfl (by first | omega | exact Nat.mod_lt _ (by decide)) d_G_tick_48 ?_
              refine lv_iload_n hx hb d_G_tick_49 rfl (lv_at hl 3 rfl) ?_
              refine lv_aload_n hx hb d_G_tick_50 rfl (lv_at hl 2 rfl) ?_
              refine gf_G_20 hF hM d_G_tick_51 ?_
              refine gm_Vi (As := [.int ch, .int (gm_b (w4.1 5 0))]) (rest := [.int (nI i4), .ref (a 0)]) hF hM (c_M_step (u := w4) (m := i4) (ch := ch) (dw := (w4.1 5 0)) (by omega)) (gk_G_31 hts ⟨by decide, by decide⟩) (gv_M hF hM (by omega) rfl) rfl hl.1 rfl (Nat.le_of_ble_eq_true rfl) ⟨Nat.zero_le _, Nat.zero_le _⟩ d_G_tick_54 (fun H locs hM => ?_)
              refine gm_Vv (As := [.int (nI i4), .int (v_M_step w4 i4 ch (w4.1 5 0))]) (rest := []) hF hM (c_G_write (u := (s_M_step w4 i4 ch (w4.1 5 0))) (mn := i4) (g := (v_M_step w4 i4 ch (w4.1 5 0))) (by omega) (gm_ok_step ‹gm_ok _›)) (gk_G_35 hts ⟨by decide, by decide⟩) (gv_G hF hM rfl) rfl hl.1 rfl (Nat.le_of_ble_eq_true rfl) ⟨Nat.zero_le _, Nat.zero_le _⟩ d_G_tick_57 (fun H locs hM => ?_)
              refine lv_iinc (k := 0) (v := (nI (i4 + 1))) (lv' := [(4, .int (nI (i4 + 1))), (3, .int (nI i3)), (0, .ref (a 0)), (1, .int ch), (2, .int (nI n))]) hx hb d_G_tick_60 hl rfl (nI_1 _) (by decide) rfl (fun ls hl => ?_)
              refine lv_goto (tgt := 33) hx hb d_G_tick_63 rfl ?_
              have hK := kk
              simp only [lp_G_tick2] at hK
              exact ih (i4 + 1) (s_G_write (s_M_step w4 i4 ch (w4.1 5 0)) i4 (v_M_step w4 i4 ch (w4.1 5 0))) ls H locs (by omega) (gm_ok_write (gm_ok_step hI4)) hl hM hK
          refine L4 2 0 (gm_sG w3 6 2 ((w3.2.1 6 2) + (1 : Int32))) ls H locs (by omega) hI3 hl hM (fun ls H locs hl hM => ?_)
          refine lv_iinc (k := 1) (v := (nI (i3 + 1))) (lv' := [(3, .int (nI (i3 + 1))), (4, .int (nI 2)), (0, .ref (a 0)), (1, .int ch), (2, .int (nI n))]) hx hb d_G_tick_66 hl rfl (nI_1 _) (by decide) rfl (fun ls hl => ?_)
          refine lv_goto (tgt := 15) hx hb d_G_tick_69 rfl ?_
          have hK := kk
          simp only [lp_G_tick] at hK
          exact ih (i3 + 1) (lp_G_tick2 ch 2 0 (gm_sG w3 6 2 ((w3.2.1 6 2) + (1 : Int32)))) ls H locs (by omega) (gm_ok_tick2 2 0 _ hI3) (lv_sub hl [0, 2, 3, 4] rfl) hM hK
      refine L3 n 0 u ls H locs (by omega) hp0 hl hM (fun ls H locs hl hM => ?_)
      refine lv_aload_n hx hb d_G_tick_72 rfl (lv_at hl 1 rfl) ?_
      refine gf_G_27 hF hM d_G_tick_73 ?_
      have hq := hQ H locs 76 ls
      simp only [v_G_tick, s_G_tick, if_neg h1, if_pos h2, nI_clamp (show n < 2 ^ 31 by omega)] at hq
      exact hq hM d_G_tick_76
    · refine lv_iconst (v := -1) hx hb d_G_tick_11 (by decide) ?_
      have hq := hQ H locs 12 ls
      simp only [v_G_tick, s_G_tick, if_neg h1, if_neg h2] at hq
      exact hq hM d_G_tick_12
