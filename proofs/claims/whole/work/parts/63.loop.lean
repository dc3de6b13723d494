section LWL
variable {p : Program} {l : Launch} {e : Env} {s : State} {m : MethodId} {args : Array Value} {below : List Frame} {meth : Method} {c : Code} {H : Heap} {locs : List Loc} {Q : State → Prop} {cells slots i : Nat} {ls : Array Slot}
variable {D : va_G} {dk : Nat → ClassId} {a b : Nat → Nat} {lt bb L : Nat} {xs : Nat → Int32} {u v : gm_St}
theorem len_gt {L i : Nat} (hL : L ≤ 1536) (hi : i ≤ 1536) : (Int32.ofNat L - (3 : Int32)) < nI i ↔ L < i + 3 := by
  have e := pk_sub_toInt (a := L) (b := 3) (by omega) (by decide)
  have e2 : (nI i).toInt = (i : Int) := nI_toInt (by omega)
  show (nI L - nI 3) < nI i ↔ _
  rw [Int32.lt_iff_toInt_lt, e, e2]
  omega
set_option maxRecDepth 100000 in
set_option maxHeartbeats 4000000 in
theorem lw_loop (hF : gl_F p s m args meth c D dk a b lt bb L xs) (hL : L ≤ 1536) (hf : cells ≤ room_1.cells ∧ slots ≤ room_1.slots) (kk : ∀ (ls : Array Slot) (H : Heap) (locs : List Loc), va_S (fun q => s.heap.size ≤ q) s.heap H locs → W p l e room_1 s m args below meth c H locs cells slots Q (F0 m 469 ls [])) : ∀ (k i : Nat) (ls : Array Slot) (H : Heap) (locs : List Loc) (u v : gm_St), L < i + 3 + 3 * k → i ≤ L → lv_has ls 4 [(3, .int (nI i)), (2, .ref (b 0)), (1, .ref (a 0)), (0, .ref bb)] → gl_R u v → 3 * v.2.2.1 0 ≤ 3200 * i → gl_N s D dk a b u v H locs → W p l e room_1 s m args below meth c H locs cells slots Q (F0 m 18 ls []) := by
  have hx := hF.1
  have hb := hF.2.1
  intro k
  induction k with
  | zero =>
    intro i ls H locs u v hk hiL hl hR hn hN
    refine lv_iload_n hx hb d_L_law_18 rfl (lv_at hl 0 rfl) ?_
    refine lv_aload_n hx hb d_L_law_19 rfl (lv_at hl 3 rfl) ?_
    refine va_slen hx hb hF.2.2.2.2.2.2.2.2.2.2.1 hF.2.2.2.2.2.2.2.2.2.2.2 (Nat.not_le.mpr hF.2.2.2.2.2.2.2.2.2.2.2) hN.2.2.2.2 d_L_law_20 ?_
    refine lv_iconst (v := 3) hx hb d_L_law_21 (by decide) ?_
    refine lv_isub hx hb d_L_law_22 ?_
    refine lv_icmp_gt (tgt := 469) hx hb d_L_law_23 rfl (fun _ => ?_) (fun h => absurd ((len_gt hL (by omega)).mpr (by omega)) h)
    exact kk ls H locs hN.2.2.2.2
  | succ k ih =>
    intro i ls H locs u v hk hiL hl hR hn hN
    refine lv_iload_n hx hb d_L_law_18 rfl (lv_at hl 0 rfl) ?_
    refine lv_aload_n hx hb d_L_law_19 rfl (lv_at hl 3 rfl) ?_
    refine va_slen hx hb hF.2.2.2.2.2.2.2.2.2.2.1 hF.2.2.2.2.2.2.2.2.2.2.2 (Nat.not_le.mpr hF.2.2.2.2.2.2.2.2.2.2.2) hN.2.2.2.2 d_L_law_20 ?_
    refine lv_iconst (v := 3) hx hb d_L_law_21 (by decide) ?_
    refine lv_isub hx hb d_L_law_22 ?_
    refine lv_icmp_gt (tgt := 469) hx hb d_L_law_23 rfl (fun _ => kk ls H locs hN.2.2.2.2) (fun h => ?_)
    have hi : i + 3 ≤ L := Nat.le_of_not_lt (fun q => h ((len_gt hL (by omega)).mpr q))
    have K : ∀ (H : Heap) (locs : List Loc) (u' v' : gm_St), gl_R u' v' → 3 * v'.2.2.1 0 ≤ 3200 * (i + 3) → gl_N s D dk a b u' v' H locs → W p l e room_1 s m args below meth c H locs cells slots Q (F0 m 463 ls []) := by
      intro H locs u' v' hR' hn' hN'
      refine lv_iinc (k := 0) (v := nI (i + 3)) (lv' := [(3, .int (nI (i + 3))), (2, .ref (b 0)), (1, .ref (a 0)), (0, .ref bb)]) hx hb d_L_law_463 hl rfl (nI_add i 3) (by decide) rfl (fun ls hl => ?_)
      refine lv_goto (tgt := 18) hx hb d_L_law_466 rfl ?_
      exact ih (i + 3) ls H locs u' v' (by omega) hi hl hR' hn' hN'
    refine lv_aload_n hx hb d_L_law_26 rfl (lv_at hl 3 rfl) ?_
    refine lv_iload_n hx hb d_L_law_27 rfl (lv_at hl 0 rfl) ?_
    refine gl_sld (k := i) hF hN rfl (by omega) (by omega) d_L_law_28 ?_
    refine lv_bipush (v := 15) hx hb d_L_law_29 (by decide) ?_
    refine lv_iand hx hb d_L_law_31 ?_
    obtain ⟨j, hj, ej⟩ := pk_andE (xs i) (m := 15) 4 (by decide)
    refine gm_tp (y := nI j) ej ?_
    rcases (by omega : j = 0 ∨ j = 1 ∨ j = 2 ∨ j = 3 ∨ j = 4 ∨ j = 5 ∨ j = 6 ∨ j = 7 ∨ j = 8 ∨ j = 9 ∨ j = 10 ∨ j = 11 ∨ j = 12 ∨ j = 13 ∨ j = 14 ∨ j = 15) with rfl | rfl | rfl | rfl | rfl | rfl | rfl | rfl | rfl | rfl | rfl | rfl | rfl | rfl | rfl | rfl
    · refine lv_tableIn (off := 72) (tgt := 104) hx hb d_L_law_32 (by decide) (by decide) (by decide +kernel) rfl ?_
      exact lw_case_0 hF hl hi hL hR hn hN hf K
    · refine lv_tableIn (off := 111) (tgt := 143) hx hb d_L_law_32 (by decide) (by decide) (by decide +kernel) rfl ?_
      exact lw_case_1 hF hl hi hL hR hn hN hf K
    · refine lv_tableIn (off := 144) (tgt := 176) hx hb d_L_law_32 (by decide) (by decide) (by decide +kernel) rfl ?_
      exact lw_case_2 hF hl hi hL hR hn hN hf K
    · refine lv_tableIn (off := 167) (tgt := 199) hx hb d_L_law_32 (by decide) (by decide) (by decide +kernel) rfl ?_
      exact lw_case_3 hF hl hi hL hR hn hN hf K
    · refine lv_tableIn (off := 190) (tgt := 222) hx hb d_L_law_32 (by decide) (by decide) (by decide +kernel) rfl ?_
      exact lw_case_4 hF hl hi hL hR hn hN hf K
    · refine lv_tableIn (off := 213) (tgt := 245) hx hb d_L_law_32 (by decide) (by decide) (by decide +kernel) rfl ?_
      exact lw_case_5 hF hl hi hL hR hn hN hf K
    · refine lv_tableIn (off := 226) (tgt := 258) hx hb d_L_law_32 (by decide) (by decide) (by decide +kernel) rfl ?_
      exact lw_case_6 hF hl hi hL hR hn hN hf K
    · refine lv_tableIn (off := 249) (tgt := 281) hx hb d_L_law_32 (by decide) (by decide) (by decide +kernel) rfl ?_
      exact lw_case_7 hF hl hi hL hR hn hN hf K
    · refine lv_tableIn (off := 282) (tgt := 314) hx hb d_L_law_32 (by decide) (by decide) (by decide +kernel) rfl ?_
      exact lw_case_8 hF hl hi hL hR hn hN hf K
    · refine lv_tableIn (off := 305) (tgt := 337) hx hb d_L_law_32 (by decide) (by decide) (by decide +kernel) rfl ?_
      exact lw_case_9 hF hl hi hL hR hn hN hf K
    · refine lv_tableIn (off := 338) (tgt := 370) hx hb d_L_law_32 (by decide) (by decide) (by decide +kernel) rfl ?_
      exact lw_case_10 hF hl hi hL hR hn hN hf K
    · refine lv_tableIn (off := 351) (tgt := 383) hx hb d_L_law_32 (by decide) (by decide) (by decide +kernel) rfl ?_
      exact lw_case_11 hF hl hi hL hR hn hN hf K
    · refine lv_tableIn (off := 375) (tgt := 407) hx hb d_L_law_32 (by decide) (by decide) (by decide +kernel) rfl ?_
      exact lw_case_12 hF hl hi hL hR hn hN hf K
    · refine lv_tableIn (off := 408) (tgt := 440) hx hb d_L_law_32 (by decide) (by decide) (by decide +kernel) rfl ?_
      exact lw_case_13 hF hl hi hL hR hn hN hf K
    · refine lv_tableOut (tgt := 463) hx hb d_L_law_32 (by decide) rfl ?_
      exact K H locs u v hR (by omega) hN
    · refine lv_tableOut (tgt := 463) hx hb d_L_law_32 (by decide) rfl ?_
      exact K H locs u v hR (by omega) hN
end LWL
