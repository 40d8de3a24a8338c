theorem k_V_isTower : rr_CS y_V_isTower b_V_isTower 1 (some .boolean) 1 := ⟨q_237, q_1, q_238, by decide, by decide, by decide +kernel⟩
set_option maxHeartbeats 4000000 in
set_option maxRecDepth 100000 in
/-- RopeVotes.isTower -/
theorem c_V_isTower (l : Launch) (D : va_G) (cs : rr_C3) (x : Int32)  : RO l y_V_isTower b_V_isTower 1 (some .boolean) 0 0 D cs [] [.int x] (fun r => r = nI (bq (ix 7 x < 7))) := by
  refine RO.of (by decide) (Nat.le_of_ble_eq_true rfl) ?_
  intro p e s m args below meth c S hr hlk hK hP ls hl
  obtain ⟨hx, hb, hml, hown, ht⟩ := id S
  have hl : lv_has ls 1 [(0, .int x)] := hl
  refine lv_iload_n hx hb d_V_isTower_0 rfl (lv_at hl 0 rfl) ?_
  refine lv_if_lt (tgt := 14) hx hb d_V_isTower_1 (by decide) (fun c1 => ?_) (fun c1 => ?_)
  · have e9 := ix_neg (n := 7) c1
    refine lv_iconst (v := nI 0) hx hb d_V_isTower_14 (by decide) ?_
    exact rr_retZ (v := 0) (by first | exact bq_le _ | omega) hx hb hr hlk (congrArg nI (bq_f (by omega)).symm) d_V_isTower_15
  · refine lv_iload_n hx hb d_V_isTower_4 rfl (lv_at hl 0 rfl) ?_
    refine lv_bipush (v := nI 7) hx hb d_V_isTower_5 (by decide) ?_
    refine lv_icmp_ge (tgt := 14) hx hb d_V_isTower_7 (by decide) (fun c7 => ?_) (fun c7 => ?_)
    · have e9 := ix_big (n := 7) (by decide) c7
      refine lv_iconst (v := nI 0) hx hb d_V_isTower_14 (by decide) ?_
      exact rr_retZ (v := 0) (by first | exact bq_le _ | omega) hx hb hr hlk (congrArg nI (bq_f (by omega)).symm) d_V_isTower_15
    · obtain ⟨j, hj, rfl⟩ := ix_of (n := 7) (by decide) c1 c7
      have e9 := ix_nI hj (by decide)
      refine lv_iconst (v := nI 1) hx hb d_V_isTower_10 (by decide) ?_
      refine lv_goto (tgt := 15) hx hb d_V_isTower_11 (by decide) ?_
      exact rr_retZ (v := 1) (by first | exact bq_le _ | omega) hx hb hr hlk (congrArg nI (bq_t (by omega)).symm) d_V_isTower_15
theorem k_V_isInBottom : rr_CS y_V_isInBottom b_V_isInBottom 1 (some .boolean) 1 := ⟨q_384, q_1, q_385, by decide, by decide, by decide +kernel⟩
set_option maxHeartbeats 4000000 in
set_option maxRecDepth 100000 in
/-- RopeVotes.isInBottom -/
theorem c_V_isInBottom (l : Launch) (D : va_G) (cs : rr_C3) (q : Nat) (hq : q < 1200) : RO l y_V_isInBottom b_V_isInBottom 1 (some .boolean) 0 0 D cs [] [.int (nI q)] (fun r => r = nI (bq (q < 20))) := by
  refine RO.of (by decide) (Nat.le_of_ble_eq_true rfl) ?_
  intro p e s m args below meth c S hr hlk hK hP ls hl
  obtain ⟨hx, hb, hml, hown, ht⟩ := id S
  have hl : lv_has ls 1 [(0, .int (nI q))] := hl
  refine lv_iload_n hx hb d_V_isInBottom_0 rfl (lv_at hl 0 rfl) ?_
  refine lv_if_lt (tgt := 14) hx hb d_V_isInBottom_1 (by decide) (fun c1 => absurd c1 (nI_pos (by omega))) (fun _ => ?_)
  refine lv_iload_n hx hb d_V_isInBottom_4 rfl (lv_at hl 0 rfl) ?_
  refine lv_bipush (v := nI 20) hx hb d_V_isInBottom_5 (by decide) ?_
  refine rr_icmp_ge (a := q) (b := 20) (tgt := 14) (by omega) (by omega) hx hb d_V_isInBottom_7 (by decide) (fun c7 => ?_) (fun c7 => ?_)
  · refine lv_iconst (v := nI 0) hx hb d_V_isInBottom_14 (by decide) ?_
    exact rr_retZ (v := 0) (by first | exact bq_le _ | omega) hx hb hr hlk (congrArg nI (bq_f (by omega)).symm) d_V_isInBottom_15
  · refine lv_iconst (v := nI 1) hx hb d_V_isInBottom_10 (by decide) ?_
    refine lv_goto (tgt := 15) hx hb d_V_isInBottom_11 (by decide) ?_
    exact rr_retZ (v := 1) (by first | exact bq_le _ | omega) hx hb hr hlk (congrArg nI (bq_t (by omega)).symm) d_V_isInBottom_15
theorem k_V_isInStation : rr_CS y_V_isInStation b_V_isInStation 1 (some .boolean) 1 := ⟨q_381, q_1, q_382, by decide, by decide, by decide +kernel⟩
set_option maxHeartbeats 4000000 in
set_option maxRecDepth 100000 in
/-- RopeVotes.isInStation -/
theorem c_V_isInStation (l : Launch) (D : va_G) (cs : rr_C3) (q : Nat) (hq : q < 1200) : RO l y_V_isInStation b_V_isInStation 1 (some .boolean) 1 20 D cs [] [.int (nI q)] (fun r => r = nI (bq (q < 20 ∨ 600 ≤ q ∧ q < 620))) := by
  refine RO.of (by decide) (Nat.le_of_ble_eq_true rfl) ?_
  intro p e s m args below meth c S hr hlk hK hP ls hl
  obtain ⟨hx, hb, hml, hown, ht⟩ := id S
  have hl : lv_has ls 1 [(0, .int (nI q))] := hl
  refine lv_iload_n hx hb d_V_isInStation_0 rfl (lv_at hl 0 rfl) ?_
  refine rr_rS (As := [.int (nI q)]) (rest := []) (idx := 86) S hK (c_V_isInBottom l D cs q (by first | assumption | omega)) k_V_isInBottom q_383 ⟨Nat.le_of_ble_eq_true rfl, Nat.le_of_ble_eq_true rfl⟩ ⟨Nat.le_of_ble_eq_true rfl, Nat.le_of_ble_eq_true rfl⟩ hl (Nat.le_of_ble_eq_true rfl) rfl d_V_isInStation_1 (fun r9 hr9 => ?_)
  subst hr9
  refine rr_bq_ne (tgt := 21) hx hb d_V_isInStation_4 (by decide) (fun c4 => ?_) (fun c4 => ?_)
  · refine lv_iconst (v := nI 1) hx hb d_V_isInStation_21 (by decide) ?_
    refine lv_goto (tgt := 26) hx hb d_V_isInStation_22 (by decide) ?_
    exact rr_retZ (v := 1) (by first | exact bq_le _ | omega) hx hb hr hlk (congrArg nI (bq_t (by omega)).symm) d_V_isInStation_26
  · refine lv_iload_n hx hb d_V_isInStation_7 rfl (lv_at hl 0 rfl) ?_
    refine lv_sipush (v := nI 600) hx hb d_V_isInStation_8 (by decide) ?_
    refine rr_icmp_lt (a := q) (b := 600) (tgt := 25) (by omega) (by omega) hx hb d_V_isInStation_11 (by decide) (fun c11 => ?_) (fun c11 => ?_)
    · refine lv_iconst (v := nI 0) hx hb d_V_isInStation_25 (by decide) ?_
      exact rr_retZ (v := 0) (by first | exact bq_le _ | omega) hx hb hr hlk (congrArg nI (bq_f (by omega)).symm) d_V_isInStation_26
    · refine lv_iload_n hx hb d_V_isInStation_14 rfl (lv_at hl 0 rfl) ?_
      refine lv_sipush (v := nI 620) hx hb d_V_isInStation_15 (by decide) ?_
      refine rr_icmp_ge (a := q) (b := 620) (tgt := 25) (by omega) (by omega) hx hb d_V_isInStation_18 (by decide) (fun c18 => ?_) (fun c18 => ?_)
      · refine lv_iconst (v := nI 0) hx hb d_V_isInStation_25 (by decide) ?_
        exact rr_retZ (v := 0) (by first | exact bq_le _ | omega) hx hb hr hlk (congrArg nI (bq_f (by omega)).symm) d_V_isInStation_26
      · refine lv_iconst (v := nI 1) hx hb d_V_isInStation_21 (by decide) ?_
        refine lv_goto (tgt := 26) hx hb d_V_isInStation_22 (by decide) ?_
        exact rr_retZ (v := 1) (by first | exact bq_le _ | omega) hx hb hr hlk (congrArg nI (bq_t (by omega)).symm) d_V_isInStation_26
theorem k_V_gapBetween : rr_CS y_V_gapBetween b_V_gapBetween 3 (some .int) 2 := ⟨q_457, q_1, q_458, by decide, by decide, by decide +kernel⟩
set_option maxHeartbeats 4000000 in
set_option maxRecDepth 100000 in
/-- RopeVotes.gapBetween -/
theorem c_V_gapBetween (l : Launch) (D : va_G) (cs : rr_C3) (a : Nat) (b : Nat) (ha : a < 1200) (hb9 : b < 1200) : RO l y_V_gapBetween b_V_gapBetween 3 (some .int) 1 13 D cs [] [.int (nI a), .int (nI b)] (fun r => r = nI (gpN a b)) := by
  refine RO.of (by decide) (Nat.le_of_ble_eq_true rfl) ?_
  intro p e s m args below meth c S hr hlk hK hP ls hl
  obtain ⟨hx, hb, hml, hown, ht⟩ := id S
  have hl : lv_has ls 3 [(0, .int (nI a)), (1, .int (nI b))] := hl
  refine lv_iload_n hx hb d_V_gapBetween_0 rfl (lv_at hl 0 rfl) ?_
  refine lv_iload_n hx hb d_V_gapBetween_1 rfl (lv_at hl 1 rfl) ?_
  refine lv_isub hx hb d_V_gapBetween_2 ?_
  refine va_mabs hx hb (by rw [hml]; exact hl.1.symm) hown (ht _ q_459) (ht _ q_327) (ht _ q_11) (ht _ q_328) (Nat.le_of_ble_eq_true rfl) (Nat.le_of_ble_eq_true rfl) (Nat.zero_le _) (Nat.zero_le _) d_V_gapBetween_3 ?_
  refine rr_top (show (if 0 ≤ (nI a) - (nI b) then (nI a) - (nI b) else 0 - ((nI a) - (nI b)) : Int32) = nI (adf a b) from adf_abs (by omega) (by omega)) ?_
  have hadf : adf a b < 1200 := adf_lt ha hb9
  refine lv_istore_n (lv' := [(2, .int (nI (adf a b))), (0, .int (nI a)), (1, .int (nI b))]) hx hb d_V_gapBetween_6 rfl hl (by decide) rfl (fun ls hl => ?_)
  refine lv_iload_n hx hb d_V_gapBetween_7 rfl (lv_at hl 0 rfl) ?_
  refine lv_sipush (v := nI 1200) hx hb d_V_gapBetween_8 (by decide) ?_
  refine lv_iload_n hx hb d_V_gapBetween_11 rfl (lv_at hl 0 rfl) ?_
  refine rr_isub (a := 1200) (b := (adf a b)) (by omega) hx hb d_V_gapBetween_12 ?_
  refine va_mmin hx hb (by rw [hml]; exact hl.1.symm) hown (ht _ q_460) (ht _ q_330) (ht _ q_11) (ht _ q_331) (Nat.le_of_ble_eq_true rfl) (Nat.le_of_ble_eq_true rfl) (Nat.zero_le _) (Nat.zero_le _) d_V_gapBetween_13 ?_
  refine rr_top (rr_min (a := (adf a b)) (b := (1200 - (adf a b))) (by omega) (by omega)) ?_
  exact rr_ret hx hb hr hlk rfl d_V_gapBetween_16
