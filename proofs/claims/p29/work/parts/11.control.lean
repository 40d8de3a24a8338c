theorem k_C_isFresh : rr_CK y_C_isFresh b_C_isFresh 3 (some .boolean) 2 := ⟨q_286, q_287, q_5, q_288, by decide, by decide, by decide +kernel⟩
set_option maxHeartbeats 4000000 in
set_option maxRecDepth 100000 in
/-- Control.isFresh -/
theorem c_C_isFresh (l : Launch) (D : va_G) (cs : rr_C3) (h0 : Nat) (h2 : Nat) (v0 : Value) (vt : Nat → Nat) (k : Nat) (T : Nat) (hk : k < 7) (hvt : ∀ j, j < 7 → vt j ≤ T) (hT : T ≤ 1000) : RO l y_C_isFresh b_C_isFresh 3 (some .boolean) 0 0 D cs [(h0, .inr (0, [v0, .ref h2])), (h2, .inl (cs.1, 7, .inl (fun j => zI (vt j))))] [.ref h0, .int (nI k), .int (nI T)] (fun r => r = nI (bq (frP T vt k))) := by
  refine RO.of (by decide) (Nat.le_of_ble_eq_true rfl) ?_
  intro p e s m args below meth c S hr hlk hK hP ls hl
  obtain ⟨hx, hb, hml, hown, ht⟩ := id S
  have hl : lv_has ls 3 [(0, .ref h0), (1, .int (nI k)), (2, .int (nI T))] := hl
  have hvt9 := hvt k hk
  refine lv_aload_n hx hb d_C_isFresh_0 rfl (lv_at hl 0 rfl) ?_
  refine va_get (D := D) (ci := 0) (v := .ref h2) (C := R_C) (T := F_C) (N := 2) hx hb ht j_C hown hK.1 hP 0 rfl rfl 1 (by decide) (ht _ q_91) (fun _ h9 => h9) rfl d_C_isFresh_1 ?_
  refine lv_iload_n hx hb d_C_isFresh_4 rfl (lv_at hl 1 rfl) ?_
  refine rr_iald (q0 := 1) (n := 7) (f := (fun j => zI (vt j))) (k := k) hx hb hK hP rfl (by omega) (by omega) d_C_isFresh_5 ?_
  refine lv_iconst (v := (-1)) hx hb d_C_isFresh_6 (by decide) ?_
  refine lv_icmp_eq (tgt := 26) hx hb d_C_isFresh_7 (by decide) (fun c7 => ?_) (fun c7 => ?_)
  · have hz9 : vt k = 0 := (zI_m1 (by omega)).mp c7
    refine lv_iconst (v := nI 0) hx hb d_C_isFresh_26 (by decide) ?_
    exact rr_retZ (v := 0) (by first | exact bq_le _ | omega) hx hb hr hlk (congrArg nI (bq_f (by unfold frP; omega)).symm) d_C_isFresh_27
  · have hz9 : 0 < vt k := Nat.pos_of_ne_zero (fun z => c7 ((zI_m1 (by omega)).mpr z))
    refine lv_iload_n hx hb d_C_isFresh_10 rfl (lv_at hl 2 rfl) ?_
    refine lv_aload_n hx hb d_C_isFresh_11 rfl (lv_at hl 0 rfl) ?_
    refine va_get (D := D) (ci := 0) (v := .ref h2) (C := R_C) (T := F_C) (N := 2) hx hb ht j_C hown hK.1 hP 0 rfl rfl 1 (by decide) (ht _ q_91) (fun _ h9 => h9) rfl d_C_isFresh_12 ?_
    refine lv_iload_n hx hb d_C_isFresh_15 rfl (lv_at hl 1 rfl) ?_
    refine rr_iald (q0 := 1) (n := 7) (f := (fun j => zI (vt j))) (k := k) hx hb hK hP rfl (by omega) (by omega) d_C_isFresh_16 ?_
    refine rr_top (show (zI (vt k) : Int32) = nI (vt k) from zI_pos (by omega)) ?_
    refine rr_isub (a := T) (b := (vt k)) (by omega) hx hb d_C_isFresh_17 ?_
    refine lv_iconst (v := nI 3) hx hb d_C_isFresh_18 (by decide) ?_
    refine rr_icmp_gt (a := (T - (vt k))) (b := 3) (tgt := 26) (by omega) (by omega) hx hb d_C_isFresh_19 (by decide) (fun c19 => ?_) (fun c19 => ?_)
    · refine lv_iconst (v := nI 0) hx hb d_C_isFresh_26 (by decide) ?_
      exact rr_retZ (v := 0) (by first | exact bq_le _ | omega) hx hb hr hlk (congrArg nI (bq_f (by unfold frP; omega)).symm) d_C_isFresh_27
    · refine lv_iconst (v := nI 1) hx hb d_C_isFresh_22 (by decide) ?_
      refine lv_goto (tgt := 27) hx hb d_C_isFresh_23 (by decide) ?_
      exact rr_retZ (v := 1) (by first | exact bq_le _ | omega) hx hb hr hlk (congrArg nI (bq_t (by unfold frP; omega)).symm) d_C_isFresh_27
theorem k_C_freshSet : rr_CK y_C_freshSet b_C_freshSet 4 (some .int) 1 := ⟨q_355, q_356, q_5, q_357, by decide, by decide, by decide +kernel⟩
set_option maxHeartbeats 4000000 in
set_option maxRecDepth 100000 in
/-- Control.freshSet -/
theorem c_C_freshSet (l : Launch) (D : va_G) (cs : rr_C3) (h0 : Nat) (h2 : Nat) (v0 : Value) (vt : Nat → Nat) (T : Nat) (hvt : ∀ j, j < 7 → vt j ≤ T) (hT : T ≤ 1000) : RO l y_C_freshSet b_C_freshSet 4 (some .int) 1 22 D cs [(h0, .inr (0, [v0, .ref h2])), (h2, .inl (cs.1, 7, .inl (fun j => zI (vt j))))] [.ref h0, .int (nI T)] (fun r => r = fsI T vt 7) := by
  refine RO.of (by decide) (Nat.le_of_ble_eq_true rfl) ?_
  intro p e s m args below meth c S hr hlk hK hP ls hl
  obtain ⟨hx, hb, hml, hown, ht⟩ := id S
  have hl : lv_has ls 4 [(0, .ref h0), (1, .int (nI T))] := hl
  refine lv_iconst (v := nI 0) hx hb d_C_freshSet_0 (by decide) ?_
  refine lv_istore_n (lv' := [(2, .int (nI 0)), (0, .ref h0), (1, .int (nI T))]) hx hb d_C_freshSet_1 rfl hl (by decide) rfl (fun ls hl => ?_)
  refine lv_iconst (v := nI 0) hx hb d_C_freshSet_2 (by decide) ?_
  refine lv_istore_n (lv' := [(3, .int (nI 0)), (2, .int (nI 0)), (0, .ref h0), (1, .int (nI T))]) hx hb d_C_freshSet_3 rfl hl (by decide) rfl (fun ls hl => ?_)
  refine rr_loop (fun i => [(3, .int (nI i)), (2, .int (fsI T vt i)), (0, .ref h0), (1, .int (nI T))]) (fun i => True) 0 7 (by omega) trivial (by show lv_has ls 4 [(3, .int (nI 0)), (2, .int (fsI T vt 0)), (0, .ref h0), (1, .int (nI T))]; rw [show fsI T vt 0 = nI 0 from rfl]; exact lv_sub hl [0, 1, 2, 3] rfl) (fun i ls hi_2 hI_3 hl ih_1 => ?_)
  have hl : lv_has ls 4 [(3, .int (nI i)), (2, .int (fsI T vt i)), (0, .ref h0), (1, .int (nI T))] := hl
  refine lv_iload_n hx hb d_C_freshSet_4 rfl (lv_at hl 0 rfl) ?_
  refine lv_bipush (v := nI 7) hx hb d_C_freshSet_5 (by decide) ?_
  refine rr_icmp_ge (a := i) (b := 7) (tgt := 31) (by omega) (by omega) hx hb d_C_freshSet_7 (by decide) (fun c7 => ?_) (fun c7 => ?_)
  · refine lv_iload_n hx hb d_C_freshSet_31 rfl (lv_at hl 1 rfl) ?_
    exact rr_ret hx hb hr hlk (by rw [show i = 7 from by omega]) d_C_freshSet_32
  · refine lv_aload_n hx hb d_C_freshSet_10 rfl (lv_at hl 2 rfl) ?_
    refine lv_iload_n hx hb d_C_freshSet_11 rfl (lv_at hl 0 rfl) ?_
    refine lv_iload_n hx hb d_C_freshSet_12 rfl (lv_at hl 3 rfl) ?_
    refine rr_rV (As := [.int (nI i), .int (nI T)]) (rest := []) (idx := 18) (q0 := 0) (ci := 0) S hK hP (c_C_isFresh l D cs h0 h2 v0 vt i T (by first | assumption | omega) (by first | assumption | omega) (by first | assumption | omega)) k_C_isFresh [0, 1] rfl rfl rfl rfl q_285 ⟨Nat.le_of_ble_eq_true rfl, Nat.le_of_ble_eq_true rfl⟩ ⟨Nat.le_of_ble_eq_true rfl, Nat.le_of_ble_eq_true rfl⟩ hl (Nat.le_of_ble_eq_true rfl) rfl d_C_freshSet_13 (fun r9 hr9 => ?_)
    subst hr9
    refine rr_bq_eq (tgt := 25) hx hb d_C_freshSet_16 (by decide) (fun c16 => ?_) (fun c16 => ?_)
    · refine lv_iinc (v := nI (i + 1)) (lv' := [(3, .int (nI (i + 1))), (2, .int (fsI T vt i)), (0, .ref h0), (1, .int (nI T))]) hx hb d_C_freshSet_25 hl (k := 0) rfl (nI_add i 1) (by decide) rfl (fun ls hl => ?_)
      refine lv_goto (tgt := 4) hx hb d_C_freshSet_28 (by decide) ?_
      exact ih_1 ls (by omega) trivial (by show lv_has ls 4 [(3, .int (nI (i + 1))), (2, .int (fsI T vt (i + 1))), (0, .ref h0), (1, .int (nI T))]; rw [show (fsI T vt (i + 1) : Int32) = fsI T vt i from (by rw [fsI_f c16])]; exact lv_sub hl [0, 1, 2, 3] rfl)
    · refine lv_iload_n hx hb d_C_freshSet_19 rfl (lv_at hl 1 rfl) ?_
      refine lv_iconst (v := nI 1) hx hb d_C_freshSet_20 (by decide) ?_
      refine lv_iload_n hx hb d_C_freshSet_21 rfl (lv_at hl 0 rfl) ?_
      refine lv_ishl hx hb d_C_freshSet_22 ?_
      refine lv_ior hx hb d_C_freshSet_23 ?_
      refine lv_istore_n (lv' := [(2, .int ((fsI T vt i) ||| ((nI 1) <<< ((nI i) &&& 31)))), (3, .int (nI i)), (0, .ref h0), (1, .int (nI T))]) hx hb d_C_freshSet_24 rfl hl (by decide) rfl (fun ls hl => ?_)
      refine lv_iinc (v := nI (i + 1)) (lv' := [(3, .int (nI (i + 1))), (2, .int ((fsI T vt i) ||| ((nI 1) <<< ((nI i) &&& 31)))), (0, .ref h0), (1, .int (nI T))]) hx hb d_C_freshSet_25 hl (k := 1) rfl (nI_add i 1) (by decide) rfl (fun ls hl => ?_)
      refine lv_goto (tgt := 4) hx hb d_C_freshSet_28 (by decide) ?_
      exact ih_1 ls (by omega) trivial (by show lv_has ls 4 [(3, .int (nI (i + 1))), (2, .int (fsI T vt (i + 1))), (0, .ref h0), (1, .int (nI T))]; rw [show (fsI T vt (i + 1) : Int32) = (fsI T vt i) ||| ((nI 1) <<< ((nI i) &&& 31)) from (by rw [fsI_t c16])]; exact lv_sub hl [0, 1, 2, 3] rfl)
theorem k_C_countFresh : rr_CK y_C_countFresh b_C_countFresh 5 (some .int) 2 := ⟨q_282, q_283, q_5, q_284, by decide, by decide, by decide +kernel⟩
set_option maxHeartbeats 4000000 in
set_option maxRecDepth 100000 in
/-- Control.countFresh -/
theorem c_C_countFresh (l : Launch) (D : va_G) (cs : rr_C3) (h0 : Nat) (h1 : Nat) (h2 : Nat) (cb : Nat → Nat) (vt : Nat → Nat) (k : Nat) (T : Nat) (hk : k ≤ 2) (hcb : ∀ j, j < 7 → cb j ≤ 3) (hvt : ∀ j, j < 7 → vt j ≤ T) (hT : T ≤ 1000) : RO l y_C_countFresh b_C_countFresh 5 (some .int) 1 22 D cs [(h0, .inr (0, [.ref h1, .ref h2])), (h1, .inl (cs.1, 7, .inl (fun j => mI (cb j)))), (h2, .inl (cs.1, 7, .inl (fun j => zI (vt j))))] [.ref h0, .int (nI k), .int (nI T)] (fun r => r = nI (cfN T cb vt k 7)) := by
  refine RO.of (by decide) (Nat.le_of_ble_eq_true rfl) ?_
  intro p e s m args below meth c S hr hlk hK hP ls hl
  obtain ⟨hx, hb, hml, hown, ht⟩ := id S
  have hl : lv_has ls 5 [(0, .ref h0), (1, .int (nI k)), (2, .int (nI T))] := hl
  refine lv_iconst (v := nI 0) hx hb d_C_countFresh_0 (by decide) ?_
  refine lv_istore_n (lv' := [(3, .int (nI 0)), (0, .ref h0), (1, .int (nI k)), (2, .int (nI T))]) hx hb d_C_countFresh_1 rfl hl (by decide) rfl (fun ls hl => ?_)
  refine lv_iconst (v := nI 0) hx hb d_C_countFresh_2 (by decide) ?_
  refine lv_istore (lv' := [(4, .int (nI 0)), (3, .int (nI 0)), (0, .ref h0), (1, .int (nI k)), (2, .int (nI T))]) hx hb d_C_countFresh_3 hl (by decide) rfl (fun ls hl => ?_)
  refine rr_loop (fun i => [(4, .int (nI i)), (3, .int (nI (cfN T cb vt k i))), (0, .ref h0), (1, .int (nI k)), (2, .int (nI T))]) (fun i => True) 0 7 (by omega) trivial (lv_sub hl [0, 1, 2, 3, 4] rfl) (fun i ls hi_2 hI_3 hl ih_1 => ?_)
  have hl : lv_has ls 5 [(4, .int (nI i)), (3, .int (nI (cfN T cb vt k i))), (0, .ref h0), (1, .int (nI k)), (2, .int (nI T))] := hl
  refine lv_iload hx hb d_C_countFresh_5 (lv_at hl 0 rfl) ?_
  refine lv_bipush (v := nI 7) hx hb d_C_countFresh_7 (by decide) ?_
  refine rr_icmp_ge (a := i) (b := 7) (tgt := 42) (by omega) (by omega) hx hb d_C_countFresh_9 (by decide) (fun c9 => ?_) (fun c9 => ?_)
  · refine lv_iload_n hx hb d_C_countFresh_42 rfl (lv_at hl 1 rfl) ?_
    exact rr_ret hx hb hr hlk (by rw [show i = 7 from by omega]) d_C_countFresh_43
  · refine lv_aload_n hx hb d_C_countFresh_12 rfl (lv_at hl 2 rfl) ?_
    refine va_get (D := D) (ci := 0) (v := .ref h1) (C := R_C) (T := F_C) (N := 2) hx hb ht j_C hown hK.1 hP 0 rfl rfl 0 (by decide) (ht _ q_89) (fun _ h9 => h9) rfl d_C_countFresh_13 ?_
    refine lv_iload hx hb d_C_countFresh_16 (lv_at hl 0 rfl) ?_
    refine rr_iald (q0 := 1) (n := 7) (f := (fun j => mI (cb j))) (k := i) hx hb hK hP rfl (by omega) (by omega) d_C_countFresh_18 ?_
    refine lv_iload_n hx hb d_C_countFresh_19 rfl (lv_at hl 3 rfl) ?_
    have hcb9 := hcb i (by omega)
    refine lv_icmp_ne (tgt := 36) hx hb d_C_countFresh_20 (by decide) (fun c20 => ?_) (fun c20 => ?_)
    · have hz9 : ¬ cb i = k + 1 := fun z => c20 ((mI_eq (by omega) (by omega)).mpr z)
      refine lv_iinc (v := nI (i + 1)) (lv' := [(4, .int (nI (i + 1))), (3, .int (nI (cfN T cb vt k i))), (0, .ref h0), (1, .int (nI k)), (2, .int (nI T))]) hx hb d_C_countFresh_36 hl (k := 0) rfl (nI_add i 1) (by decide) rfl (fun ls hl => ?_)
      refine lv_goto (tgt := 5) hx hb d_C_countFresh_39 (by decide) ?_
      exact ih_1 ls (by omega) trivial (by show lv_has ls 5 [(4, .int (nI (i + 1))), (3, .int (nI (cfN T cb vt k (i + 1)))), (0, .ref h0), (1, .int (nI k)), (2, .int (nI T))]; rw [show (nI (cfN T cb vt k (i + 1)) : Int32) = nI (cfN T cb vt k i) from congrArg nI (by rw [cfN_s, bq_f (by omega), Nat.add_zero])]; exact lv_sub hl [0, 1, 2, 3, 4] rfl)
    · have hz9 : cb i = k + 1 := (mI_eq (by omega) (by omega)).mp c20
      refine lv_aload_n hx hb d_C_countFresh_23 rfl (lv_at hl 2 rfl) ?_
      refine lv_iload hx hb d_C_countFresh_24 (lv_at hl 0 rfl) ?_
      refine lv_iload_n hx hb d_C_countFresh_26 rfl (lv_at hl 4 rfl) ?_
      refine rr_rV (As := [.int (nI i), .int (nI T)]) (rest := []) (idx := 18) (q0 := 0) (ci := 0) S hK hP (c_C_isFresh l D cs h0 h2 (.ref h1) vt i T (by first | assumption | omega) (by first | assumption | omega) (by first | assumption | omega)) k_C_isFresh [0, 2] rfl rfl rfl rfl q_285 ⟨Nat.le_of_ble_eq_true rfl, Nat.le_of_ble_eq_true rfl⟩ ⟨Nat.le_of_ble_eq_true rfl, Nat.le_of_ble_eq_true rfl⟩ hl (Nat.le_of_ble_eq_true rfl) rfl d_C_countFresh_27 (fun r9 hr9 => ?_)
      subst hr9
      refine rr_bq_eq (tgt := 36) hx hb d_C_countFresh_30 (by decide) (fun c30 => ?_) (fun c30 => ?_)
      · refine lv_iinc (v := nI (i + 1)) (lv' := [(4, .int (nI (i + 1))), (3, .int (nI (cfN T cb vt k i))), (0, .ref h0), (1, .int (nI k)), (2, .int (nI T))]) hx hb d_C_countFresh_36 hl (k := 0) rfl (nI_add i 1) (by decide) rfl (fun ls hl => ?_)
        refine lv_goto (tgt := 5) hx hb d_C_countFresh_39 (by decide) ?_
        exact ih_1 ls (by omega) trivial (by show lv_has ls 5 [(4, .int (nI (i + 1))), (3, .int (nI (cfN T cb vt k (i + 1)))), (0, .ref h0), (1, .int (nI k)), (2, .int (nI T))]; rw [show (nI (cfN T cb vt k (i + 1)) : Int32) = nI (cfN T cb vt k i) from congrArg nI (by rw [cfN_s, bq_f (by omega), Nat.add_zero])]; exact lv_sub hl [0, 1, 2, 3, 4] rfl)
      · refine lv_iinc (v := nI (cfN T cb vt k i + 1)) (lv' := [(3, .int (nI (cfN T cb vt k i + 1))), (4, .int (nI i)), (0, .ref h0), (1, .int (nI k)), (2, .int (nI T))]) hx hb d_C_countFresh_33 hl (k := 1) rfl (nI_add (cfN T cb vt k i) 1) (by decide) rfl (fun ls hl => ?_)
        refine lv_iinc (v := nI (i + 1)) (lv' := [(4, .int (nI (i + 1))), (3, .int (nI (cfN T cb vt k i + 1))), (0, .ref h0), (1, .int (nI k)), (2, .int (nI T))]) hx hb d_C_countFresh_36 hl (k := 1) rfl (nI_add i 1) (by decide) rfl (fun ls hl => ?_)
        refine lv_goto (tgt := 5) hx hb d_C_countFresh_39 (by decide) ?_
        exact ih_1 ls (by omega) trivial (by show lv_has ls 5 [(4, .int (nI (i + 1))), (3, .int (nI (cfN T cb vt k (i + 1)))), (0, .ref h0), (1, .int (nI k)), (2, .int (nI T))]; rw [show (nI (cfN T cb vt k (i + 1)) : Int32) = nI (cfN T cb vt k i + 1) from congrArg nI (by rw [cfN_s, bq_t (by omega)])]; exact lv_sub hl [0, 1, 2, 3, 4] rfl)
theorem k_C_speedByVotes : rr_CK y_C_speedByVotes b_C_speedByVotes 5 (some .int) 1 := ⟨q_278, q_279, q_5, q_280, by decide, by decide, by decide +kernel⟩
set_option maxHeartbeats 4000000 in
set_option maxRecDepth 100000 in
/-- Control.speedByVotes -/
theorem c_C_speedByVotes (l : Launch) (D : va_G) (cs : rr_C3) (h0 : Nat) (h1 : Nat) (h2 : Nat) (cb : Nat → Nat) (vt : Nat → Nat) (T : Nat) (hcb : ∀ j, j < 7 → cb j ≤ 3) (hvt : ∀ j, j < 7 → vt j ≤ T) (hT : T ≤ 1000) : RO l y_C_speedByVotes b_C_speedByVotes 5 (some .int) 2 46 D cs [(h0, .inr (0, [.ref h1, .ref h2])), (h1, .inl (cs.1, 7, .inl (fun j => mI (cb j)))), (h2, .inl (cs.1, 7, .inl (fun j => zI (vt j))))] [.ref h0, .int (nI T)] (fun r => r = nI (dcN (cfN T cb vt 2 7) (cfN T cb vt 1 7) (cfN T cb vt 0 7))) := by
  refine RO.of (by decide) (Nat.le_of_ble_eq_true rfl) ?_
  intro p e s m args below meth c S hr hlk hK hP ls hl
  obtain ⟨hx, hb, hml, hown, ht⟩ := id S
  have hl : lv_has ls 5 [(0, .ref h0), (1, .int (nI T))] := hl
  have hf2 := cfN_le T cb vt 2 7
  have hf1 := cfN_le T cb vt 1 7
  have hf0 := cfN_le T cb vt 0 7
  refine lv_aload_n hx hb d_C_speedByVotes_0 rfl (lv_at hl 0 rfl) ?_
  refine lv_iconst (v := nI 2) hx hb d_C_speedByVotes_1 (by decide) ?_
  refine lv_iload_n hx hb d_C_speedByVotes_2 rfl (lv_at hl 1 rfl) ?_
  refine rr_rV (As := [.int (nI 2), .int (nI T)]) (rest := []) (idx := 22) (q0 := 0) (ci := 0) S hK hP (c_C_countFresh l D cs h0 h1 h2 cb vt 2 T (by first | assumption | omega) (by first | assumption | omega) (by first | assumption | omega) (by first | assumption | omega)) k_C_countFresh [0, 1, 2] rfl rfl rfl rfl q_281 ⟨Nat.le_of_ble_eq_true rfl, Nat.le_of_ble_eq_true rfl⟩ ⟨Nat.le_of_ble_eq_true rfl, Nat.le_of_ble_eq_true rfl⟩ hl (Nat.le_of_ble_eq_true rfl) rfl d_C_speedByVotes_3 (fun r9 hr9 => ?_)
  subst hr9
  refine lv_istore_n (lv' := [(2, .int (nI (cfN T cb vt 2 7))), (0, .ref h0), (1, .int (nI T))]) hx hb d_C_speedByVotes_6 rfl hl (by decide) rfl (fun ls hl => ?_)
  refine lv_aload_n hx hb d_C_speedByVotes_7 rfl (lv_at hl 1 rfl) ?_
  refine lv_iconst (v := nI 1) hx hb d_C_speedByVotes_8 (by decide) ?_
  refine lv_iload_n hx hb d_C_speedByVotes_9 rfl (lv_at hl 2 rfl) ?_
  refine rr_rV (As := [.int (nI 1), .int (nI T)]) (rest := []) (idx := 22) (q0 := 0) (ci := 0) S hK hP (c_C_countFresh l D cs h0 h1 h2 cb vt 1 T (by first | assumption | omega) (by first | assumption | omega) (by first | assumption | omega) (by first | assumption | omega)) k_C_countFresh [0, 1, 2] rfl rfl rfl rfl q_281 ⟨Nat.le_of_ble_eq_true rfl, Nat.le_of_ble_eq_true rfl⟩ ⟨Nat.le_of_ble_eq_true rfl, Nat.le_of_ble_eq_true rfl⟩ hl (Nat.le_of_ble_eq_true rfl) rfl d_C_speedByVotes_10 (fun r9 hr9 => ?_)
  subst hr9
  refine lv_istore_n (lv' := [(3, .int (nI (cfN T cb vt 1 7))), (2, .int (nI (cfN T cb vt 2 7))), (0, .ref h0), (1, .int (nI T))]) hx hb d_C_speedByVotes_13 rfl hl (by decide) rfl (fun ls hl => ?_)
  refine lv_aload_n hx hb d_C_speedByVotes_14 rfl (lv_at hl 2 rfl) ?_
  refine lv_iconst (v := nI 0) hx hb d_C_speedByVotes_15 (by decide) ?_
  refine lv_iload_n hx hb d_C_speedByVotes_16 rfl (lv_at hl 3 rfl) ?_
  refine rr_rV (As := [.int (nI 0), .int (nI T)]) (rest := []) (idx := 22) (q0 := 0) (ci := 0) S hK hP (c_C_countFresh l D cs h0 h1 h2 cb vt 0 T (by first | assumption | omega) (by first | assumption | omega) (by first | assumption | omega) (by first | assumption | omega)) k_C_countFresh [0, 1, 2] rfl rfl rfl rfl q_281 ⟨Nat.le_of_ble_eq_true rfl, Nat.le_of_ble_eq_true rfl⟩ ⟨Nat.le_of_ble_eq_true rfl, Nat.le_of_ble_eq_true rfl⟩ hl (Nat.le_of_ble_eq_true rfl) rfl d_C_speedByVotes_17 (fun r9 hr9 => ?_)
  subst hr9
  refine lv_istore (lv' := [(4, .int (nI (cfN T cb vt 0 7))), (3, .int (nI (cfN T cb vt 1 7))), (2, .int (nI (cfN T cb vt 2 7))), (0, .ref h0), (1, .int (nI T))]) hx hb d_C_speedByVotes_20 hl (by decide) rfl (fun ls hl => ?_)
  refine lv_iload_n hx hb d_C_speedByVotes_22 rfl (lv_at hl 2 rfl) ?_
  refine lv_iconst (v := nI 4) hx hb d_C_speedByVotes_23 (by decide) ?_
  refine rr_icmp_lt (a := (cfN T cb vt 2 7)) (b := 4) (tgt := 34) (by omega) (by omega) hx hb d_C_speedByVotes_24 (by decide) (fun c24 => ?_) (fun c24 => ?_)
  · refine lv_iload_n hx hb d_C_speedByVotes_34 rfl (lv_at hl 2 rfl) ?_
    refine lv_iload_n hx hb d_C_speedByVotes_35 rfl (lv_at hl 1 rfl) ?_
    refine rr_iadd (a := (cfN T cb vt 2 7)) (b := (cfN T cb vt 1 7)) hx hb d_C_speedByVotes_36 ?_
    refine lv_iconst (v := nI 4) hx hb d_C_speedByVotes_37 (by decide) ?_
    refine rr_icmp_lt (a := ((cfN T cb vt 2 7) + (cfN T cb vt 1 7))) (b := 4) (tgt := 51) (by omega) (by omega) hx hb d_C_speedByVotes_38 (by decide) (fun c38 => ?_) (fun c38 => ?_)
    · refine lv_iconst (v := nI 0) hx hb d_C_speedByVotes_51 (by decide) ?_
      exact rr_ret hx hb hr hlk (congrArg nI (by unfold dcN; repeat (first | omega | split))) d_C_speedByVotes_52
    · refine lv_iload hx hb d_C_speedByVotes_41 (lv_at hl 0 rfl) ?_
      refine lv_iconst (v := nI 1) hx hb d_C_speedByVotes_43 (by decide) ?_
      refine rr_icmp_gt (a := (cfN T cb vt 0 7)) (b := 1) (tgt := 51) (by omega) (by omega) hx hb d_C_speedByVotes_44 (by decide) (fun c44 => ?_) (fun c44 => ?_)
      · refine lv_iconst (v := nI 0) hx hb d_C_speedByVotes_51 (by decide) ?_
        exact rr_ret hx hb hr hlk (congrArg nI (by unfold dcN; repeat (first | omega | split))) d_C_speedByVotes_52
      · refine lv_iconst (v := nI 1) hx hb d_C_speedByVotes_47 (by decide) ?_
        refine lv_goto (tgt := 52) hx hb d_C_speedByVotes_48 (by decide) ?_
        exact rr_ret hx hb hr hlk (congrArg nI (by unfold dcN; repeat (first | omega | split))) d_C_speedByVotes_52
  · refine lv_iload hx hb d_C_speedByVotes_27 (lv_at hl 0 rfl) ?_
    refine rr_if_ne (a := (cfN T cb vt 0 7)) (tgt := 34) (by omega) hx hb d_C_speedByVotes_29 (by decide) (fun c29 => ?_) (fun c29 => ?_)
    · refine lv_iload_n hx hb d_C_speedByVotes_34 rfl (lv_at hl 2 rfl) ?_
      refine lv_iload_n hx hb d_C_speedByVotes_35 rfl (lv_at hl 1 rfl) ?_
      refine rr_iadd (a := (cfN T cb vt 2 7)) (b := (cfN T cb vt 1 7)) hx hb d_C_speedByVotes_36 ?_
      refine lv_iconst (v := nI 4) hx hb d_C_speedByVotes_37 (by decide) ?_
      refine rr_icmp_lt (a := ((cfN T cb vt 2 7) + (cfN T cb vt 1 7))) (b := 4) (tgt := 51) (by omega) (by omega) hx hb d_C_speedByVotes_38 (by decide) (fun c38 => ?_) (fun c38 => ?_)
      · refine lv_iconst (v := nI 0) hx hb d_C_speedByVotes_51 (by decide) ?_
        exact rr_ret hx hb hr hlk (congrArg nI (by unfold dcN; repeat (first | omega | split))) d_C_speedByVotes_52
      · refine lv_iload hx hb d_C_speedByVotes_41 (lv_at hl 0 rfl) ?_
        refine lv_iconst (v := nI 1) hx hb d_C_speedByVotes_43 (by decide) ?_
        refine rr_icmp_gt (a := (cfN T cb vt 0 7)) (b := 1) (tgt := 51) (by omega) (by omega) hx hb d_C_speedByVotes_44 (by decide) (fun c44 => ?_) (fun c44 => ?_)
        · refine lv_iconst (v := nI 0) hx hb d_C_speedByVotes_51 (by decide) ?_
          exact rr_ret hx hb hr hlk (congrArg nI (by unfold dcN; repeat (first | omega | split))) d_C_speedByVotes_52
        · refine lv_iconst (v := nI 1) hx hb d_C_speedByVotes_47 (by decide) ?_
          refine lv_goto (tgt := 52) hx hb d_C_speedByVotes_48 (by decide) ?_
          exact rr_ret hx hb hr hlk (congrArg nI (by unfold dcN; repeat (first | omega | split))) d_C_speedByVotes_52
    · refine lv_iconst (v := nI 2) hx hb d_C_speedByVotes_32 (by decide) ?_
      exact rr_ret hx hb hr hlk (congrArg nI (by unfold dcN; repeat (first | omega | split))) d_C_speedByVotes_33
