theorem k_L_has : rr_CK y_L_has b_L_has 2 (some .boolean) 1 := ⟨q_161, q_162, q_2, q_163, by decide, by decide, by decide +kernel⟩
set_option maxHeartbeats 4000000 in
set_option maxRecDepth 100000 in
/-- Loop.has -/
theorem c_L_has (l : Launch) (D : va_G) (cs : rr_C3) (h0 : Nat) (h3 : Nat) (v0 : Value) (v1 : Value) (v3 : Value) (on : Nat → Nat) (x : Int32) (hon : ∀ j, j < 16 → on j ≤ 1) : RO l y_L_has b_L_has 2 (some .boolean) 0 0 D cs [(h0, .inr (1, [v0, v1, .ref h3, v3])), (h3, .inl (cs.2.1, 16, .inl (fun j => nI (on j))))] [.ref h0, .int x] (fun r => r = nI (bq (ix 16 x < 16 ∧ on (ix 16 x) = 1))) := by
  refine RO.of (by decide) (Nat.le_of_ble_eq_true rfl) ?_
  intro p e s m args below meth c S hr hlk hK hP ls hl
  obtain ⟨hx, hb, hml, hown, ht⟩ := id S
  have hl : lv_has ls 2 [(0, .ref h0), (1, .int x)] := hl
  refine lv_iload_n hx hb d_L_has_0 rfl (lv_at hl 1 rfl) ?_
  refine lv_if_lt (tgt := 23) hx hb d_L_has_1 (by decide) (fun c1 => ?_) (fun c1 => ?_)
  · have e9 := ix_neg (n := 16) c1
    refine lv_iconst (v := nI 0) hx hb d_L_has_23 (by decide) ?_
    exact rr_retZ (v := 0) (by first | exact bq_le _ | omega) hx hb hr hlk (congrArg nI (bq_f (by first | omega | (rw [e9]; omega))).symm) d_L_has_24
  · refine lv_iload_n hx hb d_L_has_4 rfl (lv_at hl 1 rfl) ?_
    refine lv_bipush (v := nI 16) hx hb d_L_has_5 (by decide) ?_
    refine lv_icmp_ge (tgt := 23) hx hb d_L_has_7 (by decide) (fun c7 => ?_) (fun c7 => ?_)
    · have e9 := ix_big (n := 16) (by decide) c7
      refine lv_iconst (v := nI 0) hx hb d_L_has_23 (by decide) ?_
      exact rr_retZ (v := 0) (by first | exact bq_le _ | omega) hx hb hr hlk (congrArg nI (bq_f (by first | omega | (rw [e9]; omega))).symm) d_L_has_24
    · obtain ⟨j, hj, rfl⟩ := ix_of (n := 16) (by decide) c1 c7
      have e9 := ix_nI hj (by decide)
      have hon9 := hon _ hj
      refine lv_aload_n hx hb d_L_has_10 rfl (lv_at hl 0 rfl) ?_
      refine va_get (D := D) (ci := 1) (v := .ref h3) (C := R_L) (T := F_L) (N := 4) hx hb ht j_L hown hK.1 hP 0 rfl rfl 2 (by decide) (ht _ q_33) (fun _ h9 => h9) rfl d_L_has_11 ?_
      refine lv_iload_n hx hb d_L_has_14 rfl (lv_at hl 1 rfl) ?_
      refine rr_zald (q0 := 1) (n := 16) (f := (fun j => nI (on j))) (k := j) hx hb hK hP rfl (by omega) (by omega) d_L_has_15 ?_
      refine rr_if_eq (a := (on j)) (tgt := 23) (by omega) hx hb d_L_has_16 (by decide) (fun c16 => ?_) (fun c16 => ?_)
      · refine lv_iconst (v := nI 0) hx hb d_L_has_23 (by decide) ?_
        exact rr_retZ (v := 0) (by first | exact bq_le _ | omega) hx hb hr hlk (congrArg nI (bq_f (by first | omega | (rw [e9]; omega))).symm) d_L_has_24
      · refine lv_iconst (v := nI 1) hx hb d_L_has_19 (by decide) ?_
        refine lv_goto (tgt := 24) hx hb d_L_has_20 (by decide) ?_
        exact rr_retZ (v := 1) (by first | exact bq_le _ | omega) hx hb hr hlk (congrArg nI (bq_t (by first | omega | (rw [e9]; omega))).symm) d_L_has_24
theorem k_L_canStart : rr_CK y_L_canStart b_L_canStart 2 (some .boolean) 0 := ⟨q_453, q_454, q_2, q_455, by decide, by decide, by decide +kernel⟩
set_option maxHeartbeats 4000000 in
set_option maxRecDepth 100000 in
/-- Loop.canStart -/
theorem c_L_canStart (l : Launch) (D : va_G) (cs : rr_C3) (h0 : Nat) (h1 : Nat) (h3 : Nat) (v1 : Value) (st : Nat) (pl : Nat → Nat) (on : Nat → Nat) (hst : st ≤ 16) (hon : ∀ j, j < 16 → on j ≤ 1) (hpl : ∀ j, j < 16 → on j = 1 → pl j < 1200) : RO l y_L_canStart b_L_canStart 2 (some .boolean) 2 35 D cs [(h0, .inr (1, [.ref h1, v1, .ref h3, .int (nI st)])), (h1, .inl (cs.1, 16, .inl (fun j => nI (pl j)))), (h3, .inl (cs.2.1, 16, .inl (fun j => nI (on j))))] [.ref h0] (fun r => r = nI (bq (st < 16 ∧ nrN on pl 16 = 0))) := by
  refine RO.of (by decide) (Nat.le_of_ble_eq_true rfl) ?_
  intro p e s m args below meth c S hr hlk hK hP ls hl
  obtain ⟨hx, hb, hml, hown, ht⟩ := id S
  have hl : lv_has ls 2 [(0, .ref h0)] := hl
  refine lv_aload_n hx hb d_L_canStart_0 rfl (lv_at hl 0 rfl) ?_
  refine va_get (D := D) (ci := 1) (v := .int (nI st)) (C := R_L) (T := F_L) (N := 4) hx hb ht j_L hown hK.1 hP 0 rfl rfl 3 (by decide) (ht _ q_35) (fun _ h9 => h9) rfl d_L_canStart_1 ?_
  refine lv_bipush (v := nI 16) hx hb d_L_canStart_4 (by decide) ?_
  refine rr_icmp_lt (a := st) (b := 16) (tgt := 11) (by omega) (by omega) hx hb d_L_canStart_6 (by decide) (fun c6 => ?_) (fun c6 => ?_)
  · refine lv_iconst (v := nI 0) hx hb d_L_canStart_11 (by decide) ?_
    refine lv_istore_n (lv' := [(1, .int (nI 0)), (0, .ref h0)]) hx hb d_L_canStart_12 rfl hl (by decide) rfl (fun ls hl => ?_)
    refine rr_loop (fun i => [(1, .int (nI i)), (0, .ref h0)]) (fun i => nrN on pl i = 0) 0 16 (by omega) rfl (lv_sub hl [0, 1] rfl) (fun i ls hi_2 hI_3 hl ih_1 => ?_)
    have hl : lv_has ls 2 [(1, .int (nI i)), (0, .ref h0)] := hl
    have hi9 : nrN on pl i = 0 := hI_3
    refine lv_iload_n hx hb d_L_canStart_13 rfl (lv_at hl 0 rfl) ?_
    refine lv_bipush (v := nI 16) hx hb d_L_canStart_14 (by decide) ?_
    refine rr_icmp_ge (a := i) (b := 16) (tgt := 51) (by omega) (by omega) hx hb d_L_canStart_16 (by decide) (fun c16 => ?_) (fun c16 => ?_)
    · refine lv_iconst (v := nI 1) hx hb d_L_canStart_51 (by decide) ?_
      exact rr_retZ (v := 1) (by first | exact bq_le _ | omega) hx hb hr hlk (congrArg nI (bq_t (by rw [show (16 : Nat) = i from by omega]; omega)).symm) d_L_canStart_52
    · refine lv_aload_n hx hb d_L_canStart_19 rfl (lv_at hl 1 rfl) ?_
      refine va_get (D := D) (ci := 1) (v := .ref h3) (C := R_L) (T := F_L) (N := 4) hx hb ht j_L hown hK.1 hP 0 rfl rfl 2 (by decide) (ht _ q_33) (fun _ h9 => h9) rfl d_L_canStart_20 ?_
      refine lv_iload_n hx hb d_L_canStart_23 rfl (lv_at hl 0 rfl) ?_
      refine rr_zald (q0 := 2) (n := 16) (f := (fun j => nI (on j))) (k := i) hx hb hK hP rfl (by omega) (by omega) d_L_canStart_24 ?_
      have hon9 := hon i (by omega)
      refine rr_if_eq (a := (on i)) (tgt := 45) (by omega) hx hb d_L_canStart_25 (by decide) (fun c25 => ?_) (fun c25 => ?_)
      · refine lv_iinc (v := nI (i + 1)) (lv' := [(1, .int (nI (i + 1))), (0, .ref h0)]) hx hb d_L_canStart_45 hl (k := 0) rfl (nI_add i 1) (by decide) rfl (fun ls hl => ?_)
        refine lv_goto (tgt := 13) hx hb d_L_canStart_48 (by decide) ?_
        exact ih_1 ls (by omega) (by rw [nrN_s, hi9, bq_f (by omega)]) (by show lv_has ls 2 [(1, .int (nI (i + 1))), (0, .ref h0)]; skip; exact lv_sub hl [0, 1] rfl)
      · refine lv_aload_n hx hb d_L_canStart_28 rfl (lv_at hl 1 rfl) ?_
        refine va_get (D := D) (ci := 1) (v := .ref h1) (C := R_L) (T := F_L) (N := 4) hx hb ht j_L hown hK.1 hP 0 rfl rfl 0 (by decide) (ht _ q_29) (fun _ h9 => h9) rfl d_L_canStart_29 ?_
        refine lv_iload_n hx hb d_L_canStart_32 rfl (lv_at hl 0 rfl) ?_
        refine rr_iald (q0 := 1) (n := 16) (f := (fun j => nI (pl j))) (k := i) hx hb hK hP rfl (by omega) (by omega) d_L_canStart_33 ?_
        refine lv_iconst (v := nI 0) hx hb d_L_canStart_34 (by decide) ?_
        have hpl9 := hpl i (by omega) (by omega)
        have hgp9 := gpN_le (pl i) 0
        refine rr_rSN (As := [.int (nI (pl i)), .int (nI 0)]) (rest := []) (idx := 26) (host := "RopeVotes") S hK (c_V_gapBetween l D cs (pl i) 0 (by first | assumption | omega) (by first | assumption | omega)) k_V_gapBetween (List.mem_of_getElem? (i := 3) rfl) ⟨Nat.le_of_ble_eq_true rfl, Nat.le_of_ble_eq_true rfl⟩ ⟨Nat.le_of_ble_eq_true rfl, Nat.le_of_ble_eq_true rfl⟩ hl (Nat.le_of_ble_eq_true rfl) rfl d_L_canStart_35 (fun r9 hr9 => ?_)
        subst hr9
        refine lv_bipush (v := nI 60) hx hb d_L_canStart_38 (by decide) ?_
        refine rr_icmp_ge (a := (gpN (pl i) 0)) (b := 60) (tgt := 45) (by omega) (by omega) hx hb d_L_canStart_40 (by decide) (fun c40 => ?_) (fun c40 => ?_)
        · refine lv_iinc (v := nI (i + 1)) (lv' := [(1, .int (nI (i + 1))), (0, .ref h0)]) hx hb d_L_canStart_45 hl (k := 0) rfl (nI_add i 1) (by decide) rfl (fun ls hl => ?_)
          refine lv_goto (tgt := 13) hx hb d_L_canStart_48 (by decide) ?_
          exact ih_1 ls (by omega) (by rw [nrN_s, hi9, bq_f (by omega)]) (by show lv_has ls 2 [(1, .int (nI (i + 1))), (0, .ref h0)]; skip; exact lv_sub hl [0, 1] rfl)
        · refine lv_iconst (v := nI 0) hx hb d_L_canStart_43 (by decide) ?_
          exact rr_retZ (v := 0) (by first | exact bq_le _ | omega) hx hb hr hlk (congrArg nI (bq_f (fun q => nrN_pos (show i < 16 by omega) (by omega) (by omega) q.2)).symm) d_L_canStart_44
  · refine lv_iconst (v := nI 0) hx hb d_L_canStart_9 (by decide) ?_
    exact rr_retZ (v := 0) (by first | exact bq_le _ | omega) hx hb hr hlk (congrArg nI (bq_f (by omega)).symm) d_L_canStart_10
theorem k_L_countOn : rr_CK y_L_countOn b_L_countOn 3 (some .int) 0 := ⟨q_542, q_543, q_2, q_544, by decide, by decide, by decide +kernel⟩
set_option maxHeartbeats 4000000 in
set_option maxRecDepth 100000 in
/-- Loop.countOn -/
theorem c_L_countOn (l : Launch) (D : va_G) (cs : rr_C3) (h0 : Nat) (h3 : Nat) (v0 : Value) (v1 : Value) (v3 : Value) (on : Nat → Nat) (hon : ∀ j, j < 16 → on j ≤ 1) : RO l y_L_countOn b_L_countOn 3 (some .int) 0 0 D cs [(h0, .inr (1, [v0, v1, .ref h3, v3])), (h3, .inl (cs.2.1, 16, .inl (fun j => nI (on j))))] [.ref h0] (fun r => r = nI (ct on 16)) := by
  refine RO.of (by decide) (Nat.le_of_ble_eq_true rfl) ?_
  intro p e s m args below meth c S hr hlk hK hP ls hl
  obtain ⟨hx, hb, hml, hown, ht⟩ := id S
  have hl : lv_has ls 3 [(0, .ref h0)] := hl
  refine lv_iconst (v := nI 0) hx hb d_L_countOn_0 (by decide) ?_
  refine lv_istore_n (lv' := [(1, .int (nI 0)), (0, .ref h0)]) hx hb d_L_countOn_1 rfl hl (by decide) rfl (fun ls hl => ?_)
  refine lv_iconst (v := nI 0) hx hb d_L_countOn_2 (by decide) ?_
  refine lv_istore_n (lv' := [(2, .int (nI 0)), (1, .int (nI 0)), (0, .ref h0)]) hx hb d_L_countOn_3 rfl hl (by decide) rfl (fun ls hl => ?_)
  refine rr_loop (fun i => [(2, .int (nI i)), (1, .int (nI (ct on i))), (0, .ref h0)]) (fun i => True) 0 16 (by omega) trivial (lv_sub hl [0, 1, 2] rfl) (fun i ls hi_2 hI_3 hl ih_1 => ?_)
  have hl : lv_has ls 3 [(2, .int (nI i)), (1, .int (nI (ct on i))), (0, .ref h0)] := hl
  refine lv_iload_n hx hb d_L_countOn_4 rfl (lv_at hl 0 rfl) ?_
  refine lv_bipush (v := nI 16) hx hb d_L_countOn_5 (by decide) ?_
  refine rr_icmp_ge (a := i) (b := 16) (tgt := 28) (by omega) (by omega) hx hb d_L_countOn_7 (by decide) (fun c7 => ?_) (fun c7 => ?_)
  · refine lv_iload_n hx hb d_L_countOn_28 rfl (lv_at hl 1 rfl) ?_
    exact rr_ret hx hb hr hlk (by rw [show i = 16 from by omega]) d_L_countOn_29
  · refine lv_aload_n hx hb d_L_countOn_10 rfl (lv_at hl 2 rfl) ?_
    refine va_get (D := D) (ci := 1) (v := .ref h3) (C := R_L) (T := F_L) (N := 4) hx hb ht j_L hown hK.1 hP 0 rfl rfl 2 (by decide) (ht _ q_33) (fun _ h9 => h9) rfl d_L_countOn_11 ?_
    refine lv_iload_n hx hb d_L_countOn_14 rfl (lv_at hl 0 rfl) ?_
    refine rr_zald (q0 := 1) (n := 16) (f := (fun j => nI (on j))) (k := i) hx hb hK hP rfl (by omega) (by omega) d_L_countOn_15 ?_
    have hon9 := hon i (by omega)
    refine rr_if_eq (a := (on i)) (tgt := 22) (by omega) hx hb d_L_countOn_16 (by decide) (fun c16 => ?_) (fun c16 => ?_)
    · refine lv_iinc (v := nI (i + 1)) (lv' := [(2, .int (nI (i + 1))), (1, .int (nI (ct on i))), (0, .ref h0)]) hx hb d_L_countOn_22 hl (k := 0) rfl (nI_add i 1) (by decide) rfl (fun ls hl => ?_)
      refine lv_goto (tgt := 4) hx hb d_L_countOn_25 (by decide) ?_
      exact ih_1 ls (by omega) trivial (by show lv_has ls 3 [(2, .int (nI (i + 1))), (1, .int (nI (ct on (i + 1)))), (0, .ref h0)]; rw [show (nI (ct on (i + 1)) : Int32) = nI (ct on i) from congrArg nI (by rw [ct_s]; omega)]; exact lv_sub hl [0, 1, 2] rfl)
    · refine lv_iinc (v := nI (ct on i + 1)) (lv' := [(1, .int (nI (ct on i + 1))), (2, .int (nI i)), (0, .ref h0)]) hx hb d_L_countOn_19 hl (k := 1) rfl (nI_add (ct on i) 1) (by decide) rfl (fun ls hl => ?_)
      refine lv_iinc (v := nI (i + 1)) (lv' := [(2, .int (nI (i + 1))), (1, .int (nI (ct on i + 1))), (0, .ref h0)]) hx hb d_L_countOn_22 hl (k := 1) rfl (nI_add i 1) (by decide) rfl (fun ls hl => ?_)
      refine lv_goto (tgt := 4) hx hb d_L_countOn_25 (by decide) ?_
      exact ih_1 ls (by omega) trivial (by show lv_has ls 3 [(2, .int (nI (i + 1))), (1, .int (nI (ct on (i + 1)))), (0, .ref h0)]; rw [show (nI (ct on (i + 1)) : Int32) = nI (ct on i + 1) from congrArg nI (by rw [ct_s]; omega)]; exact lv_sub hl [0, 1, 2] rfl)
theorem k_L_leastGapOfPairs : rr_CK y_L_leastGapOfPairs b_L_leastGapOfPairs 5 (some .int) 0 := ⟨q_550, q_551, q_2, q_552, by decide, by decide, by decide +kernel⟩
set_option maxHeartbeats 4000000 in
set_option maxRecDepth 100000 in
/-- Loop.leastGapOfPairs -/
theorem c_L_leastGapOfPairs (l : Launch) (D : va_G) (cs : rr_C3) (h0 : Nat) (h1 : Nat) (h3 : Nat) (v1 : Value) (v3 : Value) (pl : Nat → Nat) (on : Nat → Nat) (hon : ∀ j, j < 16 → on j ≤ 1) (hpl : ∀ j, j < 16 → on j = 1 → pl j < 1200) : RO l y_L_leastGapOfPairs b_L_leastGapOfPairs 5 (some .int) 2 35 D cs [(h0, .inr (1, [.ref h1, v1, .ref h3, v3])), (h1, .inl (cs.1, 16, .inl (fun j => nI (pl j)))), (h3, .inl (cs.2.1, 16, .inl (fun j => nI (on j))))] [.ref h0] (fun r => r = mI (lgo on pl 16)) := by
  refine RO.of (by decide) (Nat.le_of_ble_eq_true rfl) ?_
  intro p e s m args below meth c S hr hlk hK hP ls hl
  obtain ⟨hx, hb, hml, hown, ht⟩ := id S
  have hl : lv_has ls 5 [(0, .ref h0)] := hl
  refine lv_iconst (v := (-1)) hx hb d_L_leastGapOfPairs_0 (by decide) ?_
  refine lv_istore_n (lv' := [(1, .int (-1)), (0, .ref h0)]) hx hb d_L_leastGapOfPairs_1 rfl hl (by decide) rfl (fun ls hl => ?_)
  refine lv_iconst (v := nI 0) hx hb d_L_leastGapOfPairs_2 (by decide) ?_
  refine lv_istore_n (lv' := [(2, .int (nI 0)), (1, .int (-1)), (0, .ref h0)]) hx hb d_L_leastGapOfPairs_3 rfl hl (by decide) rfl (fun ls hl => ?_)
  refine rr_loop (fun i => [(2, .int (nI i)), (1, .int (mI (lgo on pl i))), (0, .ref h0)]) (fun i => True) 0 16 (by omega) trivial (lv_sub hl [0, 1, 2] rfl) (fun i ls hi_2 hI_3 hl ih_1 => ?_)
  have hl : lv_has ls 5 [(2, .int (nI i)), (1, .int (mI (lgo on pl i))), (0, .ref h0)] := hl
  refine lv_iload_n hx hb d_L_leastGapOfPairs_4 rfl (lv_at hl 0 rfl) ?_
  refine lv_bipush (v := nI 16) hx hb d_L_leastGapOfPairs_5 (by decide) ?_
  refine rr_icmp_ge (a := i) (b := 16) (tgt := 81) (by omega) (by omega) hx hb d_L_leastGapOfPairs_7 (by decide) (fun c7 => ?_) (fun c7 => ?_)
  · refine lv_iload_n hx hb d_L_leastGapOfPairs_81 rfl (lv_at hl 1 rfl) ?_
    exact rr_ret hx hb hr hlk (by rw [show i = 16 from by omega]) d_L_leastGapOfPairs_82
  · refine lv_iconst (v := nI 0) hx hb d_L_leastGapOfPairs_10 (by decide) ?_
    refine lv_istore_n (lv' := [(3, .int (nI 0)), (2, .int (nI i)), (1, .int (mI (lgo on pl i))), (0, .ref h0)]) hx hb d_L_leastGapOfPairs_11 rfl hl (by decide) rfl (fun ls hl => ?_)
    refine rr_loop (fun j => [(3, .int (nI j)), (1, .int (mI (lgi on pl i (lgo on pl i) j))), (2, .int (nI i)), (0, .ref h0)]) (fun j => True) 0 i (by omega) trivial (lv_sub hl [0, 2, 1, 3] rfl) (fun j ls hi_5 hI_6 hl ih_4 => ?_)
    have hl : lv_has ls 5 [(3, .int (nI j)), (1, .int (mI (lgi on pl i (lgo on pl i) j))), (2, .int (nI i)), (0, .ref h0)] := hl
    refine lv_iload_n hx hb d_L_leastGapOfPairs_12 rfl (lv_at hl 0 rfl) ?_
    refine lv_iload_n hx hb d_L_leastGapOfPairs_13 rfl (lv_at hl 2 rfl) ?_
    refine rr_icmp_ge (a := j) (b := i) (tgt := 75) (by omega) (by omega) hx hb d_L_leastGapOfPairs_14 (by decide) (fun c14 => ?_) (fun c14 => ?_)
    · refine lv_iinc (v := nI (i + 1)) (lv' := [(2, .int (nI (i + 1))), (3, .int (nI j)), (1, .int (mI (lgi on pl i (lgo on pl i) j))), (0, .ref h0)]) hx hb d_L_leastGapOfPairs_75 hl (k := 2) rfl (nI_add i 1) (by decide) rfl (fun ls hl => ?_)
      refine lv_goto (tgt := 4) hx hb d_L_leastGapOfPairs_78 (by decide) ?_
      exact ih_1 ls (by omega) trivial (by show lv_has ls 5 [(2, .int (nI (i + 1))), (1, .int (mI (lgo on pl (i + 1)))), (0, .ref h0)]; rw [show (mI (lgo on pl (i + 1)) : Int32) = mI (lgi on pl i (lgo on pl i) j) from (by rw [show j = i from by omega]; rfl)]; exact lv_sub hl [0, 2, 3] rfl)
    · refine lv_aload_n hx hb d_L_leastGapOfPairs_17 rfl (lv_at hl 3 rfl) ?_
      refine va_get (D := D) (ci := 1) (v := .ref h3) (C := R_L) (T := F_L) (N := 4) hx hb ht j_L hown hK.1 hP 0 rfl rfl 2 (by decide) (ht _ q_33) (fun _ h9 => h9) rfl d_L_leastGapOfPairs_18 ?_
      refine lv_iload_n hx hb d_L_leastGapOfPairs_21 rfl (lv_at hl 2 rfl) ?_
      refine rr_zald (q0 := 2) (n := 16) (f := (fun j => nI (on j))) (k := i) hx hb hK hP rfl (by omega) (by omega) d_L_leastGapOfPairs_22 ?_
      have hon9 := hon i (by omega)
      refine rr_if_eq (a := (on i)) (tgt := 69) (by omega) hx hb d_L_leastGapOfPairs_23 (by decide) (fun c23 => ?_) (fun c23 => ?_)
      · refine lv_iinc (v := nI (j + 1)) (lv' := [(3, .int (nI (j + 1))), (1, .int (mI (lgi on pl i (lgo on pl i) j))), (2, .int (nI i)), (0, .ref h0)]) hx hb d_L_leastGapOfPairs_69 hl (k := 0) rfl (nI_add j 1) (by decide) rfl (fun ls hl => ?_)
        refine lv_goto (tgt := 12) hx hb d_L_leastGapOfPairs_72 (by decide) ?_
        exact ih_4 ls (by omega) trivial (by show lv_has ls 5 [(3, .int (nI (j + 1))), (1, .int (mI (lgi on pl i (lgo on pl i) (j + 1)))), (2, .int (nI i)), (0, .ref h0)]; rw [show (mI (lgi on pl i (lgo on pl i) (j + 1)) : Int32) = mI (lgi on pl i (lgo on pl i) j) from (by rw [lgi_f (by omega)])]; exact lv_sub hl [0, 1, 2, 3] rfl)
      · refine lv_aload_n hx hb d_L_leastGapOfPairs_26 rfl (lv_at hl 3 rfl) ?_
        refine va_get (D := D) (ci := 1) (v := .ref h3) (C := R_L) (T := F_L) (N := 4) hx hb ht j_L hown hK.1 hP 0 rfl rfl 2 (by decide) (ht _ q_33) (fun _ h9 => h9) rfl d_L_leastGapOfPairs_27 ?_
        refine lv_iload_n hx hb d_L_leastGapOfPairs_30 rfl (lv_at hl 0 rfl) ?_
        refine rr_zald (q0 := 2) (n := 16) (f := (fun j => nI (on j))) (k := j) hx hb hK hP rfl (by omega) (by omega) d_L_leastGapOfPairs_31 ?_
        have hon8 := hon j (by omega)
        refine rr_if_eq (a := (on j)) (tgt := 69) (by omega) hx hb d_L_leastGapOfPairs_32 (by decide) (fun c32 => ?_) (fun c32 => ?_)
        · refine lv_iinc (v := nI (j + 1)) (lv' := [(3, .int (nI (j + 1))), (1, .int (mI (lgi on pl i (lgo on pl i) j))), (2, .int (nI i)), (0, .ref h0)]) hx hb d_L_leastGapOfPairs_69 hl (k := 0) rfl (nI_add j 1) (by decide) rfl (fun ls hl => ?_)
          refine lv_goto (tgt := 12) hx hb d_L_leastGapOfPairs_72 (by decide) ?_
          exact ih_4 ls (by omega) trivial (by show lv_has ls 5 [(3, .int (nI (j + 1))), (1, .int (mI (lgi on pl i (lgo on pl i) (j + 1)))), (2, .int (nI i)), (0, .ref h0)]; rw [show (mI (lgi on pl i (lgo on pl i) (j + 1)) : Int32) = mI (lgi on pl i (lgo on pl i) j) from (by rw [lgi_f (by omega)])]; exact lv_sub hl [0, 1, 2, 3] rfl)
        · refine lv_aload_n hx hb d_L_leastGapOfPairs_35 rfl (lv_at hl 3 rfl) ?_
          refine va_get (D := D) (ci := 1) (v := .ref h1) (C := R_L) (T := F_L) (N := 4) hx hb ht j_L hown hK.1 hP 0 rfl rfl 0 (by decide) (ht _ q_29) (fun _ h9 => h9) rfl d_L_leastGapOfPairs_36 ?_
          refine lv_iload_n hx hb d_L_leastGapOfPairs_39 rfl (lv_at hl 2 rfl) ?_
          refine rr_iald (q0 := 1) (n := 16) (f := (fun j => nI (pl j))) (k := i) hx hb hK hP rfl (by omega) (by omega) d_L_leastGapOfPairs_40 ?_
          refine lv_aload_n hx hb d_L_leastGapOfPairs_41 rfl (lv_at hl 3 rfl) ?_
          refine va_get (D := D) (ci := 1) (v := .ref h1) (C := R_L) (T := F_L) (N := 4) hx hb ht j_L hown hK.1 hP 0 rfl rfl 0 (by decide) (ht _ q_29) (fun _ h9 => h9) rfl d_L_leastGapOfPairs_42 ?_
          refine lv_iload_n hx hb d_L_leastGapOfPairs_45 rfl (lv_at hl 0 rfl) ?_
          refine rr_iald (q0 := 1) (n := 16) (f := (fun j => nI (pl j))) (k := j) hx hb hK hP rfl (by omega) (by omega) d_L_leastGapOfPairs_46 ?_
          have hpl9 := hpl i (by omega) (by omega)
          have hpl8 := hpl j (by omega) (by omega)
          have hgp9 := gpN_le (pl i) (pl j)
          have hac9 : lgi on pl i (lgo on pl i) j ≤ 601 := lgi_le (lgo_le i) j
          refine rr_rSN (As := [.int (nI (pl i)), .int (nI (pl j))]) (rest := []) (idx := 26) (host := "RopeVotes") S hK (c_V_gapBetween l D cs (pl i) (pl j) (by first | assumption | omega) (by first | assumption | omega)) k_V_gapBetween (List.mem_of_getElem? (i := 3) rfl) ⟨Nat.le_of_ble_eq_true rfl, Nat.le_of_ble_eq_true rfl⟩ ⟨Nat.le_of_ble_eq_true rfl, Nat.le_of_ble_eq_true rfl⟩ hl (Nat.le_of_ble_eq_true rfl) rfl d_L_leastGapOfPairs_47 (fun r9 hr9 => ?_)
          subst hr9
          refine lv_istore (lv' := [(4, .int (nI (gpN (pl i) (pl j)))), (3, .int (nI j)), (1, .int (mI (lgi on pl i (lgo on pl i) j))), (2, .int (nI i)), (0, .ref h0)]) hx hb d_L_leastGapOfPairs_50 hl (by decide) rfl (fun ls hl => ?_)
          refine lv_iload_n hx hb d_L_leastGapOfPairs_52 rfl (lv_at hl 2 rfl) ?_
          refine lv_iconst (v := (-1)) hx hb d_L_leastGapOfPairs_53 (by decide) ?_
          refine lv_icmp_ne (tgt := 62) hx hb d_L_leastGapOfPairs_54 (by decide) (fun c54 => ?_) (fun c54 => ?_)
          · have hz9 : 0 < lgi on pl i (lgo on pl i) j := Nat.pos_of_ne_zero (fun z => c54 ((mI_m1 (by omega)).mpr z))
            refine lv_iload_n hx hb d_L_leastGapOfPairs_62 rfl (lv_at hl 2 rfl) ?_
            refine rr_top (show (mI (lgi on pl i (lgo on pl i) j) : Int32) = nI ((lgi on pl i (lgo on pl i) j) - 1) from mI_pos hz9) ?_
            refine lv_iload hx hb d_L_leastGapOfPairs_63 (lv_at hl 0 rfl) ?_
            refine va_mmin hx hb (by rw [hml]; exact hl.1.symm) hown (ht _ q_553) (ht _ q_330) (ht _ q_11) (ht _ q_331) (Nat.le_of_ble_eq_true rfl) (Nat.le_of_ble_eq_true rfl) (Nat.zero_le _) (Nat.zero_le _) d_L_leastGapOfPairs_65 ?_
            refine rr_top (rr_min (a := ((lgi on pl i (lgo on pl i) j) - 1)) (b := (gpN (pl i) (pl j))) (by omega) (by omega)) ?_
            refine lv_istore_n (lv' := [(1, .int (nI (min ((lgi on pl i (lgo on pl i) j) - 1) (gpN (pl i) (pl j))))), (4, .int (nI (gpN (pl i) (pl j)))), (3, .int (nI j)), (2, .int (nI i)), (0, .ref h0)]) hx hb d_L_leastGapOfPairs_68 rfl hl (by decide) rfl (fun ls hl => ?_)
            refine lv_iinc (v := nI (j + 1)) (lv' := [(3, .int (nI (j + 1))), (1, .int (nI (min ((lgi on pl i (lgo on pl i) j) - 1) (gpN (pl i) (pl j))))), (4, .int (nI (gpN (pl i) (pl j)))), (2, .int (nI i)), (0, .ref h0)]) hx hb d_L_leastGapOfPairs_69 hl (k := 2) rfl (nI_add j 1) (by decide) rfl (fun ls hl => ?_)
            refine lv_goto (tgt := 12) hx hb d_L_leastGapOfPairs_72 (by decide) ?_
            exact ih_4 ls (by omega) trivial (by show lv_has ls 5 [(3, .int (nI (j + 1))), (1, .int (mI (lgi on pl i (lgo on pl i) (j + 1)))), (2, .int (nI i)), (0, .ref h0)]; rw [show (mI (lgi on pl i (lgo on pl i) (j + 1)) : Int32) = nI (min ((lgi on pl i (lgo on pl i) j) - 1) (gpN (pl i) (pl j))) from (by rw [lgi_t (by omega), mgn_1 hz9])]; exact lv_sub hl [0, 1, 3, 4] rfl)
          · have hz9 : lgi on pl i (lgo on pl i) j = 0 := (mI_m1 (by omega)).mp c54
            refine lv_iload hx hb d_L_leastGapOfPairs_57 (lv_at hl 0 rfl) ?_
            refine lv_goto (tgt := 68) hx hb d_L_leastGapOfPairs_59 (by decide) ?_
            refine lv_istore_n (lv' := [(1, .int (nI (gpN (pl i) (pl j)))), (4, .int (nI (gpN (pl i) (pl j)))), (3, .int (nI j)), (2, .int (nI i)), (0, .ref h0)]) hx hb d_L_leastGapOfPairs_68 rfl hl (by decide) rfl (fun ls hl => ?_)
            refine lv_iinc (v := nI (j + 1)) (lv' := [(3, .int (nI (j + 1))), (1, .int (nI (gpN (pl i) (pl j)))), (4, .int (nI (gpN (pl i) (pl j)))), (2, .int (nI i)), (0, .ref h0)]) hx hb d_L_leastGapOfPairs_69 hl (k := 2) rfl (nI_add j 1) (by decide) rfl (fun ls hl => ?_)
            refine lv_goto (tgt := 12) hx hb d_L_leastGapOfPairs_72 (by decide) ?_
            exact ih_4 ls (by omega) trivial (by show lv_has ls 5 [(3, .int (nI (j + 1))), (1, .int (mI (lgi on pl i (lgo on pl i) (j + 1)))), (2, .int (nI i)), (0, .ref h0)]; rw [show (mI (lgi on pl i (lgo on pl i) (j + 1)) : Int32) = nI (gpN (pl i) (pl j)) from (by rw [lgi_t (by omega), mgn_0 hz9])]; exact lv_sub hl [0, 1, 3, 4] rfl)
theorem k_L_start : rr_CK y_L_start b_L_start 3 (some .int) 1 := ⟨q_463, q_464, q_2, q_465, by decide, by decide, by decide +kernel⟩
set_option maxHeartbeats 4000000 in
set_option maxRecDepth 100000 in
/-- Loop.start -/
theorem c_L_start (l : Launch) (D : va_G) (cs : rr_C3) (h0 : Nat) (h1 : Nat) (h2 : Nat) (h3 : Nat) (st : Nat) (pl : Nat → Nat) (ts : Nat → Nat) (on : Nat → Nat) (U : Nat) (hst : st < 16) (sz : Nat) : MI l y_L_start b_L_start 3 (some .int) 0 0 0 0 D cs [(h0, .inr (1, [.ref h1, .ref h2, .ref h3, .int (nI st)])), (h1, .inl (cs.1, 16, .inl (fun j => nI (pl j)))), (h2, .inl (cs.1, 16, .inl (fun j => nI (ts j)))), (h3, .inl (cs.2.1, 16, .inl (fun j => nI (on j))))] sz [.ref h0, .int (nI U)] (fun (r : Int32) (_ : Unit) => r = nI st) (fun _ : Unit => [(h0, .inr (1, [.ref h1, .ref h2, .ref h3, .int (nI (st + 1))])), (h1, .inl (cs.1, 16, .inl (fun j => nI ((va_up pl st 0) j)))), (h2, .inl (cs.1, 16, .inl (fun j => nI ((va_up ts st U) j)))), (h3, .inl (cs.2.1, 16, .inl (fun j => nI ((va_up on st 1) j))))]) := by
  refine MI.of (by decide) (Nat.le_of_ble_eq_true rfl) ?_
  intro p e s m args below meth c A S hr hlk hnm hK hP hD hA hS ls hl
  obtain ⟨hx, hb, hml, hown, ht⟩ := id S
  have hl : lv_has ls 3 [(0, .ref h0), (1, .int (nI U))] := hl
  have hS : va_S A s.heap s.heap [] := hS
  refine lv_aload_n hx hb d_L_start_0 rfl (lv_at hl 0 rfl) ?_
  refine va_get (D := D) (ci := 1) (v := .int (nI st)) (C := R_L) (T := F_L) (N := 4) hx hb ht j_L hown hK.1 hP 0 rfl rfl 3 (by decide) (ht _ q_35) (fun _ h9 => h9) rfl d_L_start_1 ?_
  refine lv_istore_n (lv' := [(2, .int (nI st)), (0, .ref h0), (1, .int (nI U))]) hx hb d_L_start_4 rfl hl (by decide) rfl (fun ls hl => ?_)
  refine lv_iload_n hx hb d_L_start_5 rfl (lv_at hl 0 rfl) ?_
  refine lv_bipush (v := nI 16) hx hb d_L_start_6 (by decide) ?_
  refine rr_icmp_ge (a := st) (b := 16) (tgt := 42) (by omega) (by omega) hx hb d_L_start_8 (by decide) (fun c8 => ?_) (fun c8 => ?_)
  · exact (by omega : False).elim
  · refine lv_aload_n hx hb d_L_start_11 rfl (lv_at hl 1 rfl) ?_
    refine lv_dup hx hb d_L_start_12 rfl ?_
    refine va_get (D := D) (ci := 1) (v := .int (nI st)) (C := R_L) (T := F_L) (N := 4) hx hb ht j_L hown hK.1 hP 0 rfl rfl 3 (by decide) (ht _ q_35) (fun _ h9 => h9) rfl d_L_start_13 ?_
    refine lv_iconst (v := nI 1) hx hb d_L_start_16 (by decide) ?_
    refine rr_iadd (a := st) (b := 1) hx hb d_L_start_17 ?_
    refine va_put (D := D) (ci := 1) (v := .int (nI (st + 1))) (ty := .int) (C := R_L) (T := F_L) (N := 4) hx hb ht j_L t_L t_L_ok n_L hown hK.1 hP hD hS 0 rfl rfl 3 (by decide) (ht _ q_35) (fun _ h9 => h9) rfl (by decide +kernel) rfl rfl (Nat.le_of_ble_eq_true rfl) d_L_start_18 (fun H locs hP hD hS => ?_)
    have hP : va_P D classes [(h0, .inr (1, [.ref h1, .ref h2, .ref h3, .int (nI (st + 1))])), (h1, .inl (cs.1, 16, .inl (fun j => nI (pl j)))), (h2, .inl (cs.1, 16, .inl (fun j => nI (ts j)))), (h3, .inl (cs.2.1, 16, .inl (fun j => nI (on j))))] H := hP
    have hD : va_D A [(h0, .inr (1, [.ref h1, .ref h2, .ref h3, .int (nI (st + 1))])), (h1, .inl (cs.1, 16, .inl (fun j => nI (pl j)))), (h2, .inl (cs.1, 16, .inl (fun j => nI (ts j)))), (h3, .inl (cs.2.1, 16, .inl (fun j => nI (on j))))] := hD
    refine lv_aload_n hx hb d_L_start_21 rfl (lv_at hl 1 rfl) ?_
    refine va_get (D := D) (ci := 1) (v := .ref h1) (C := R_L) (T := F_L) (N := 4) hx hb ht j_L hown hK.1 hP 0 rfl rfl 0 (by decide) (ht _ q_29) (fun _ h9 => h9) rfl d_L_start_22 ?_
    refine lv_iload_n hx hb d_L_start_25 rfl (lv_at hl 0 rfl) ?_
    refine lv_iconst (v := nI 0) hx hb d_L_start_26 (by decide) ?_
    refine rr_iast (q0 := 1) (n := 16) nI pl (k := st) (v := 0) hx hb hK hP hD hS rfl (by omega) (by omega) d_L_start_27 (fun H locs hP hD hS => ?_)
    have hP : va_P D classes [(h0, .inr (1, [.ref h1, .ref h2, .ref h3, .int (nI (st + 1))])), (h1, .inl (cs.1, 16, .inl (fun j => nI ((va_up pl st 0) j)))), (h2, .inl (cs.1, 16, .inl (fun j => nI (ts j)))), (h3, .inl (cs.2.1, 16, .inl (fun j => nI (on j))))] H := hP
    have hD : va_D A [(h0, .inr (1, [.ref h1, .ref h2, .ref h3, .int (nI (st + 1))])), (h1, .inl (cs.1, 16, .inl (fun j => nI ((va_up pl st 0) j)))), (h2, .inl (cs.1, 16, .inl (fun j => nI (ts j)))), (h3, .inl (cs.2.1, 16, .inl (fun j => nI (on j))))] := hD
    refine lv_aload_n hx hb d_L_start_28 rfl (lv_at hl 1 rfl) ?_
    refine va_get (D := D) (ci := 1) (v := .ref h2) (C := R_L) (T := F_L) (N := 4) hx hb ht j_L hown hK.1 hP 0 rfl rfl 1 (by decide) (ht _ q_31) (fun _ h9 => h9) rfl d_L_start_29 ?_
    refine lv_iload_n hx hb d_L_start_32 rfl (lv_at hl 0 rfl) ?_
    refine lv_iload_n hx hb d_L_start_33 rfl (lv_at hl 2 rfl) ?_
    refine rr_iast (q0 := 2) (n := 16) nI ts (k := st) (v := U) hx hb hK hP hD hS rfl (by omega) (by omega) d_L_start_34 (fun H locs hP hD hS => ?_)
    have hP : va_P D classes [(h0, .inr (1, [.ref h1, .ref h2, .ref h3, .int (nI (st + 1))])), (h1, .inl (cs.1, 16, .inl (fun j => nI ((va_up pl st 0) j)))), (h2, .inl (cs.1, 16, .inl (fun j => nI ((va_up ts st U) j)))), (h3, .inl (cs.2.1, 16, .inl (fun j => nI (on j))))] H := hP
    have hD : va_D A [(h0, .inr (1, [.ref h1, .ref h2, .ref h3, .int (nI (st + 1))])), (h1, .inl (cs.1, 16, .inl (fun j => nI ((va_up pl st 0) j)))), (h2, .inl (cs.1, 16, .inl (fun j => nI ((va_up ts st U) j)))), (h3, .inl (cs.2.1, 16, .inl (fun j => nI (on j))))] := hD
    refine lv_aload_n hx hb d_L_start_35 rfl (lv_at hl 1 rfl) ?_
    refine va_get (D := D) (ci := 1) (v := .ref h3) (C := R_L) (T := F_L) (N := 4) hx hb ht j_L hown hK.1 hP 0 rfl rfl 2 (by decide) (ht _ q_33) (fun _ h9 => h9) rfl d_L_start_36 ?_
    refine lv_iload_n hx hb d_L_start_39 rfl (lv_at hl 0 rfl) ?_
    refine lv_iconst (v := nI 1) hx hb d_L_start_40 (by decide) ?_
    refine rr_zast (q0 := 3) (n := 16) on (k := st) (v := 1) (by omega) hx hb hK hP hD hS rfl (by omega) (by omega) d_L_start_41 (fun H locs hP hD hS => ?_)
    have hP : va_P D classes [(h0, .inr (1, [.ref h1, .ref h2, .ref h3, .int (nI (st + 1))])), (h1, .inl (cs.1, 16, .inl (fun j => nI ((va_up pl st 0) j)))), (h2, .inl (cs.1, 16, .inl (fun j => nI ((va_up ts st U) j)))), (h3, .inl (cs.2.1, 16, .inl (fun j => nI ((va_up on st 1) j))))] H := hP
    have hD : va_D A [(h0, .inr (1, [.ref h1, .ref h2, .ref h3, .int (nI (st + 1))])), (h1, .inl (cs.1, 16, .inl (fun j => nI ((va_up pl st 0) j)))), (h2, .inl (cs.1, 16, .inl (fun j => nI ((va_up ts st U) j)))), (h3, .inl (cs.2.1, 16, .inl (fun j => nI ((va_up on st 1) j))))] := hD
    refine lv_iload_n hx hb d_L_start_42 rfl (lv_at hl 0 rfl) ?_
    exact rr_mret () hx hb hr hlk hP hD hS rfl d_L_start_43
