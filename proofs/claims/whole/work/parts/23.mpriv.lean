theorem k_M_thrown : rr_CK y_M_thrown b_M_thrown 1 (some .int) 0 := ⟨q_655, q_656, q_7, q_657, by decide, by decide, by decide +kernel⟩
set_option maxHeartbeats 4000000 in
set_option maxRecDepth 100000 in
/-- the model: thrown -/
theorem c_M_thrown (l : Launch) (D : va_G) (cs : rr_C3) (a0 : Nat) (v0 : Value) (v1 : Value) (v2 : Value) (v3 : Value) (v4 : Value) (v5 : Value) (v6 : Value) (v7 : Value) (v8 : Value) (v9 : Value) (v10 : Value) (v11 : Value) (v12 : Value) (v13 : Value) (v14 : Value) (v15 : Value) (v16 : Value) (v17 : Value) (v18 : Value) (v19 : Value) (v20 : Value) (v21 : Value) (t9 : Nat)  : RO l y_M_thrown b_M_thrown 1 (some .int) 0 0 D cs [(a0, .inr (6, [v0, v1, v2, v3, v4, v5, v6, v7, v8, v9, v10, v11, v12, v13, v14, v15, v16, v17, v18, v19, v20, v21, .int (nI t9)]))] [.ref a0] (fun r => r = nI t9) := by
  refine RO.of (by decide) (Nat.le_of_ble_eq_true rfl) ?_
  intro p e s m args below meth c S hr hlk hK hP ls hl
  obtain ⟨hx, hb, hml, hown, ht⟩ := id S
  have hl : lv_has ls 1 [(0, .ref a0)] := hl
  refine lv_aload_n hx hb d_M_thrown_0 rfl (lv_at hl 0 rfl) ?_
  refine va_get (D := D) (ci := 6) (v := .int (nI t9)) (C := R_M) (T := F_M) (N := 23) hx hb ht j_M hown hK.1 hP 0 rfl rfl 22 (by decide) (ht _ q_606) (fun _ h9 => h9) rfl d_M_thrown_1 ?_
  exact rr_ret hx hb hr hlk rfl d_M_thrown_4
theorem k_M_in : rr_CS y_M_in b_M_in 3 (some .boolean) 3 := ⟨q_678, q_7, q_679, by decide, by decide, by decide +kernel⟩
set_option maxHeartbeats 4000000 in
set_option maxRecDepth 100000 in
/-- the model: in -/
theorem c_M_in (l : Launch) (D : va_G) (cs : rr_C3) (x : Int32) (lo : Int32) (hi : Int32)  : RO l y_M_in b_M_in 3 (some .boolean) 0 0 D cs [] [.int x, .int lo, .int hi] (fun r => r = nI (bq (lo ≤ x ∧ x ≤ hi))) := by
  refine RO.of (by decide) (Nat.le_of_ble_eq_true rfl) ?_
  intro p e s m args below meth c S hr hlk hK hP ls hl
  obtain ⟨hx, hb, hml, hown, ht⟩ := id S
  have hl : lv_has ls 3 [(0, .int x), (1, .int lo), (2, .int hi)] := hl
  refine lv_iload_n hx hb d_M_in_0 rfl (lv_at hl 0 rfl) ?_
  refine lv_iload_n hx hb d_M_in_1 rfl (lv_at hl 1 rfl) ?_
  refine lv_icmp_lt (tgt := 14) hx hb d_M_in_2 (by decide) (fun c2 => ?_) (fun c2 => ?_)
  · have k2 : (x).toInt < (lo).toInt := Int32.lt_iff_toInt_lt.mp c2
    refine lv_iconst (v := nI 0) hx hb d_M_in_14 (by decide) ?_
    exact rr_retZ (v := 0) (by first | exact bq_le _ | omega) hx hb hr hlk (congrArg nI (bq_f (fun z => by have z1 := Int32.le_iff_toInt_le.mp z.1; have z2 := Int32.le_iff_toInt_le.mp z.2; omega)).symm) d_M_in_15
  · have k2 : ¬ (x).toInt < (lo).toInt := fun z => c2 (Int32.lt_iff_toInt_lt.mpr z)
    refine lv_iload_n hx hb d_M_in_5 rfl (lv_at hl 0 rfl) ?_
    refine lv_iload_n hx hb d_M_in_6 rfl (lv_at hl 2 rfl) ?_
    refine lv_icmp_gt (tgt := 14) hx hb d_M_in_7 (by decide) (fun c7 => ?_) (fun c7 => ?_)
    · have k7 : (hi).toInt < (x).toInt := Int32.lt_iff_toInt_lt.mp c7
      refine lv_iconst (v := nI 0) hx hb d_M_in_14 (by decide) ?_
      exact rr_retZ (v := 0) (by first | exact bq_le _ | omega) hx hb hr hlk (congrArg nI (bq_f (fun z => by have z1 := Int32.le_iff_toInt_le.mp z.1; have z2 := Int32.le_iff_toInt_le.mp z.2; omega)).symm) d_M_in_15
    · have k7 : ¬ (hi).toInt < (x).toInt := fun z => c7 (Int32.lt_iff_toInt_lt.mpr z)
      refine lv_iconst (v := nI 1) hx hb d_M_in_10 (by decide) ?_
      refine lv_goto (tgt := 15) hx hb d_M_in_11 (by decide) ?_
      exact rr_retZ (v := 1) (by first | exact bq_le _ | omega) hx hb hr hlk (congrArg nI (bq_t ⟨Int32.le_iff_toInt_le.mpr (by omega), Int32.le_iff_toInt_le.mpr (by omega)⟩).symm) d_M_in_15
theorem k_M_isCar : rr_CK y_M_isCar b_M_isCar 2 (some .boolean) 1 := ⟨q_675, qs_M_isCar, q_7, q_676, by decide, by decide, by decide +kernel⟩
set_option maxHeartbeats 4000000 in
set_option maxRecDepth 100000 in
/-- the model: isCar -/
theorem c_M_isCar (l : Launch) (D : va_G) (cs : rr_C3) (a0 : Nat) (h5 : Nat) (v0 : Value) (v1 : Value) (v2 : Value) (v4 : Value) (v6 : Value) (v7 : Value) (v8 : Value) (v9 : Value) (v10 : Value) (v11 : Value) (v12 : Value) (v13 : Value) (v14 : Value) (v15 : Value) (v16 : Value) (v17 : Value) (v18 : Value) (v19 : Value) (v20 : Value) (v21 : Value) (v22 : Value) (n9 : Nat) (of : Nat → Nat) (x : Int32) (hn : n9 ≤ 16) (hof : ∀ j, j < 16 → of j ≤ 1) : RO l y_M_isCar b_M_isCar 2 (some .boolean) 1 22 D cs [(a0, .inr (6, [v0, v1, v2, .int (nI n9), v4, .ref h5, v6, v7, v8, v9, v10, v11, v12, v13, v14, v15, v16, v17, v18, v19, v20, v21, v22])), (h5, .inl (cs.1, 16, .inl (fun j => nI (of j))))] [.ref a0, .int x] (fun r => r = nI (bq (ix 16 x < n9 ∧ of (ix 16 x) = 0))) := by
  refine RO.of (by decide) (Nat.le_of_ble_eq_true rfl) ?_
  intro p e s m args below meth c S hr hlk hK hP ls hl
  obtain ⟨hx, hb, hml, hown, ht⟩ := id S
  have hl : lv_has ls 2 [(0, .ref a0), (1, .int x)] := hl
  refine lv_iload_n hx hb d_M_isCar_0 rfl (lv_at hl 1 rfl) ?_
  refine lv_iconst (v := nI 0) hx hb d_M_isCar_1 (by decide) ?_
  refine lv_aload_n hx hb d_M_isCar_2 rfl (lv_at hl 0 rfl) ?_
  refine va_get (D := D) (ci := 6) (v := .int (nI n9)) (C := R_M) (T := F_M) (N := 23) hx hb ht j_M hown hK.1 hP 0 rfl rfl 3 (by decide) (ht _ q_587) (fun _ h9 => h9) rfl d_M_isCar_3 ?_
  refine lv_iconst (v := nI 1) hx hb d_M_isCar_6 (by decide) ?_
  refine lv_isub hx hb d_M_isCar_7 ?_
  refine rr_rS (As := [.int x, .int (nI 0), .int ((nI n9) - (nI 1))]) (rest := []) (idx := 68) S hK (c_M_in l D cs x (nI 0) ((nI n9) - (nI 1)) ) k_M_in q_677 ⟨Nat.le_of_ble_eq_true rfl, Nat.le_of_ble_eq_true rfl⟩ ⟨Nat.le_of_ble_eq_true rfl, Nat.le_of_ble_eq_true rfl⟩ hl (Nat.le_of_ble_eq_true rfl) rfl d_M_isCar_8 (fun r9 hr9 => ?_)
  subst hr9
  refine rr_bq_eq (tgt := 27) hx hb d_M_isCar_11 (by decide) (fun c11 => ?_) (fun c11 => ?_)
  · have hq : ¬ ix 16 x < n9 := fun z => c11 ((ix_in1 (k := 16) (by decide) hn).mpr z)
    refine lv_iconst (v := nI 0) hx hb d_M_isCar_27 (by decide) ?_
    exact rr_retZ (v := 0) (by first | exact bq_le _ | omega) hx hb hr hlk (congrArg nI (bq_f (by omega)).symm) d_M_isCar_28
  · have hq := (ix_in1 (k := 16) (by decide) hn).mp c11
    have hv_x : x = nI (ix 16 x) := ix_lt (by decide) (show ix 16 x < 16 by omega)
    rw [hv_x] at hl
    have hof9 := hof _ (show ix 16 x < 16 by omega)
    refine lv_aload_n hx hb d_M_isCar_14 rfl (lv_at hl 0 rfl) ?_
    refine va_get (D := D) (ci := 6) (v := .ref h5) (C := R_M) (T := F_M) (N := 23) hx hb ht j_M hown hK.1 hP 0 rfl rfl 5 (by decide) (ht _ q_589) (fun _ h9 => h9) rfl d_M_isCar_15 ?_
    refine lv_iload_n hx hb d_M_isCar_18 rfl (lv_at hl 1 rfl) ?_
    refine rr_iald (q0 := 1) (n := 16) (f := (fun j => nI (of j))) (k := (ix 16 x)) hx hb hK hP rfl (by omega) (by omega) d_M_isCar_19 ?_
    refine rr_if_ne (a := (of (ix 16 x))) (tgt := 27) (by omega) hx hb d_M_isCar_20 (by decide) (fun c20 => ?_) (fun c20 => ?_)
    · refine lv_iconst (v := nI 0) hx hb d_M_isCar_27 (by decide) ?_
      exact rr_retZ (v := 0) (by first | exact bq_le _ | omega) hx hb hr hlk (congrArg nI (bq_f (by omega)).symm) d_M_isCar_28
    · refine lv_iconst (v := nI 1) hx hb d_M_isCar_23 (by decide) ?_
      refine lv_goto (tgt := 28) hx hb d_M_isCar_24 (by decide) ?_
      exact rr_retZ (v := 1) (by first | exact bq_le _ | omega) hx hb hr hlk (congrArg nI (bq_t (by omega)).symm) d_M_isCar_28
theorem k_M_placeOf : rr_CK y_M_placeOf b_M_placeOf 2 (some .int) 1 := ⟨q_664, qs_M_placeOf, q_7, q_665, by decide, by decide, by decide +kernel⟩
set_option maxHeartbeats 4000000 in
set_option maxRecDepth 100000 in
/-- the model: placeOf -/
theorem c_M_placeOf (l : Launch) (D : va_G) (cs : rr_C3) (a0 : Nat) (h4 : Nat) (v0 : Value) (v2 : Value) (v3 : Value) (v5 : Value) (v6 : Value) (v7 : Value) (v8 : Value) (v9 : Value) (v10 : Value) (v11 : Value) (v12 : Value) (v13 : Value) (v14 : Value) (v15 : Value) (v16 : Value) (v17 : Value) (v18 : Value) (v19 : Value) (v20 : Value) (v21 : Value) (v22 : Value) (U : Nat) (k : Nat) (ba : Nat → Nat) (hk : k < 16) (hba : ba k ≤ U) (hU : U ≤ 100000) : RO l y_M_placeOf b_M_placeOf 2 (some .int) 0 0 D cs [(a0, .inr (6, [v0, .int (nI U), v2, v3, .ref h4, v5, v6, v7, v8, v9, v10, v11, v12, v13, v14, v15, v16, v17, v18, v19, v20, v21, v22])), (h4, .inl (cs.1, 16, .inl (fun j => nI (ba j))))] [.ref a0, .int (nI k)] (fun r => r = nI ((U - ba k) % 1200)) := by
  refine RO.of (by decide) (Nat.le_of_ble_eq_true rfl) ?_
  intro p e s m args below meth c S hr hlk hK hP ls hl
  obtain ⟨hx, hb, hml, hown, ht⟩ := id S
  have hl : lv_has ls 2 [(0, .ref a0), (1, .int (nI k))] := hl
  refine lv_aload_n hx hb d_M_placeOf_0 rfl (lv_at hl 0 rfl) ?_
  refine va_get (D := D) (ci := 6) (v := .int (nI U)) (C := R_M) (T := F_M) (N := 23) hx hb ht j_M hown hK.1 hP 0 rfl rfl 1 (by decide) (ht _ q_585) (fun _ h9 => h9) rfl d_M_placeOf_1 ?_
  refine lv_aload_n hx hb d_M_placeOf_4 rfl (lv_at hl 0 rfl) ?_
  refine va_get (D := D) (ci := 6) (v := .ref h4) (C := R_M) (T := F_M) (N := 23) hx hb ht j_M hown hK.1 hP 0 rfl rfl 4 (by decide) (ht _ q_588) (fun _ h9 => h9) rfl d_M_placeOf_5 ?_
  refine lv_iload_n hx hb d_M_placeOf_8 rfl (lv_at hl 1 rfl) ?_
  refine rr_iald (q0 := 1) (n := 16) (f := (fun j => nI (ba j))) (k := k) hx hb hK hP rfl (by omega) (by omega) d_M_placeOf_9 ?_
  refine rr_isub (a := U) (b := (ba k)) (by omega) hx hb d_M_placeOf_10 ?_
  refine lv_sipush (v := nI 1200) hx hb d_M_placeOf_11 (by decide) ?_
  refine rr_irem (a := (U - (ba k))) (b := 1200) (by omega) (by omega) (by omega) hx hb d_M_placeOf_14 ?_
  exact rr_ret hx hb hr hlk rfl d_M_placeOf_15
theorem k_M_gap : rr_CS y_M_gap b_M_gap 3 (some .int) 2 := ⟨q_667, q_7, q_668, by decide, by decide, by decide +kernel⟩
set_option maxHeartbeats 4000000 in
set_option maxRecDepth 100000 in
/-- the model: gap -/
theorem c_M_gap (l : Launch) (D : va_G) (cs : rr_C3) (a : Nat) (b : Nat) (ha : a < 1200) (hb9 : b < 1200) : RO l y_M_gap b_M_gap 3 (some .int) 0 0 D cs [] [.int (nI a), .int (nI b)] (fun r => r = nI (gpN a b)) := by
  refine RO.of (by decide) (Nat.le_of_ble_eq_true rfl) ?_
  intro p e s m args below meth c S hr hlk hK hP ls hl
  obtain ⟨hx, hb, hml, hown, ht⟩ := id S
  have hl : lv_has ls 3 [(0, .int (nI a)), (1, .int (nI b))] := hl
  refine lv_iload_n hx hb d_M_gap_0 rfl (lv_at hl 0 rfl) ?_
  refine lv_iload_n hx hb d_M_gap_1 rfl (lv_at hl 1 rfl) ?_
  refine rr_icmp_le (a := a) (b := b) (tgt := 11) (by omega) (by omega) hx hb d_M_gap_2 (by decide) (fun c2 => ?_) (fun c2 => ?_)
  · refine lv_iload_n hx hb d_M_gap_11 rfl (lv_at hl 1 rfl) ?_
    refine lv_iload_n hx hb d_M_gap_12 rfl (lv_at hl 0 rfl) ?_
    refine rr_isub (a := b) (b := a) (by omega) hx hb d_M_gap_13 ?_
    refine lv_istore_n (lv' := [(2, .int (nI (b - a))), (0, .int (nI a)), (1, .int (nI b))]) hx hb d_M_gap_14 rfl hl (by decide) rfl (fun ls hl => ?_)
    refine lv_iload_n hx hb d_M_gap_15 rfl (lv_at hl 0 rfl) ?_
    refine lv_sipush (v := nI 1200) hx hb d_M_gap_16 (by decide) ?_
    refine lv_iload_n hx hb d_M_gap_19 rfl (lv_at hl 0 rfl) ?_
    refine rr_isub (a := 1200) (b := (b - a)) (by omega) hx hb d_M_gap_20 ?_
    refine rr_icmp_ge (a := (b - a)) (b := (1200 - (b - a))) (tgt := 28) (by omega) (by omega) hx hb d_M_gap_21 (by decide) (fun c21 => ?_) (fun c21 => ?_)
    · refine lv_sipush (v := nI 1200) hx hb d_M_gap_28 (by decide) ?_
      refine lv_iload_n hx hb d_M_gap_31 rfl (lv_at hl 0 rfl) ?_
      refine rr_isub (a := 1200) (b := (b - a)) (by omega) hx hb d_M_gap_32 ?_
      exact rr_ret hx hb hr hlk (congrArg nI (by unfold gpN adf; repeat (first | omega | split))) d_M_gap_33
    · refine lv_iload_n hx hb d_M_gap_24 rfl (lv_at hl 0 rfl) ?_
      refine lv_goto (tgt := 33) hx hb d_M_gap_25 (by decide) ?_
      exact rr_ret hx hb hr hlk (congrArg nI (by unfold gpN adf; repeat (first | omega | split))) d_M_gap_33
  · refine lv_iload_n hx hb d_M_gap_5 rfl (lv_at hl 0 rfl) ?_
    refine lv_iload_n hx hb d_M_gap_6 rfl (lv_at hl 1 rfl) ?_
    refine rr_isub (a := a) (b := b) (by omega) hx hb d_M_gap_7 ?_
    refine lv_goto (tgt := 14) hx hb d_M_gap_8 (by decide) ?_
    refine lv_istore_n (lv' := [(2, .int (nI (a - b))), (0, .int (nI a)), (1, .int (nI b))]) hx hb d_M_gap_14 rfl hl (by decide) rfl (fun ls hl => ?_)
    refine lv_iload_n hx hb d_M_gap_15 rfl (lv_at hl 0 rfl) ?_
    refine lv_sipush (v := nI 1200) hx hb d_M_gap_16 (by decide) ?_
    refine lv_iload_n hx hb d_M_gap_19 rfl (lv_at hl 0 rfl) ?_
    refine rr_isub (a := 1200) (b := (a - b)) (by omega) hx hb d_M_gap_20 ?_
    refine rr_icmp_ge (a := (a - b)) (b := (1200 - (a - b))) (tgt := 28) (by omega) (by omega) hx hb d_M_gap_21 (by decide) (fun c21 => ?_) (fun c21 => ?_)
    · refine lv_sipush (v := nI 1200) hx hb d_M_gap_28 (by decide) ?_
      refine lv_iload_n hx hb d_M_gap_31 rfl (lv_at hl 0 rfl) ?_
      refine rr_isub (a := 1200) (b := (a - b)) (by omega) hx hb d_M_gap_32 ?_
      exact rr_ret hx hb hr hlk (congrArg nI (by unfold gpN adf; repeat (first | omega | split))) d_M_gap_33
    · refine lv_iload_n hx hb d_M_gap_24 rfl (lv_at hl 0 rfl) ?_
      refine lv_goto (tgt := 33) hx hb d_M_gap_25 (by decide) ?_
      exact rr_ret hx hb hr hlk (congrArg nI (by unfold gpN adf; repeat (first | omega | split))) d_M_gap_33
theorem k_M_peopleIn : rr_CK y_M_peopleIn b_M_peopleIn 4 (some .int) 1 := ⟨q_682, qs_M_peopleIn, q_7, q_683, by decide, by decide, by decide +kernel⟩
set_option maxHeartbeats 4000000 in
set_option maxRecDepth 100000 in
/-- the model: peopleIn -/
theorem c_M_peopleIn (l : Launch) (D : va_G) (cs : rr_C3) (a0 : Nat) (h16 : Nat) (h17 : Nat) (h20 : Nat) (v0 : Value) (v1 : Value) (v2 : Value) (v3 : Value) (v4 : Value) (v5 : Value) (v6 : Value) (v7 : Value) (v8 : Value) (v9 : Value) (v10 : Value) (v11 : Value) (v12 : Value) (v13 : Value) (v14 : Value) (v18 : Value) (v19 : Value) (v21 : Value) (v22 : Value) (n9 : Nat) (k : Nat) (tc : Nat → Nat) (tp : Nat → Nat) (ar : Nat → Nat) (hn : n9 ≤ 60) (hk : k < 2 ^ 31) (htc : ∀ j, j < n9 → tc j < 16) (har : ∀ j, j < n9 → ar j ≤ 1000) : RO l y_M_peopleIn b_M_peopleIn 4 (some .int) 0 0 D cs [(a0, .inr (6, [v0, v1, v2, v3, v4, v5, v6, v7, v8, v9, v10, v11, v12, v13, v14, .int (nI n9), .ref h16, .ref h17, v18, v19, .ref h20, v21, v22])), (h16, .inl (cs.1, 60, .inl (fun j => nI (tc j)))), (h17, .inl (cs.1, 60, .inl (fun j => nI (tp j)))), (h20, .inl (cs.1, 60, .inl (fun j => nI (ar j))))] [.ref a0, .int (nI k)] (fun r => r = nI (ppN tc tp ar k n9)) := by
  refine RO.of (by decide) (Nat.le_of_ble_eq_true rfl) ?_
  intro p e s m args below meth c S hr hlk hK hP ls hl
  obtain ⟨hx, hb, hml, hown, ht⟩ := id S
  have hl : lv_has ls 4 [(0, .ref a0), (1, .int (nI k))] := hl
  refine lv_iconst (v := nI 0) hx hb d_M_peopleIn_0 (by decide) ?_
  refine lv_istore_n (lv' := [(2, .int (nI 0)), (0, .ref a0), (1, .int (nI k))]) hx hb d_M_peopleIn_1 rfl hl (by decide) rfl (fun ls hl => ?_)
  refine lv_iconst (v := nI 0) hx hb d_M_peopleIn_2 (by decide) ?_
  refine lv_istore_n (lv' := [(3, .int (nI 0)), (2, .int (nI 0)), (0, .ref a0), (1, .int (nI k))]) hx hb d_M_peopleIn_3 rfl hl (by decide) rfl (fun ls hl => ?_)
  refine rr_loop (fun i => [(3, .int (nI i)), (2, .int (nI (ppN tc tp ar k i))), (0, .ref a0), (1, .int (nI k))]) (fun i => True) 0 n9 (by omega) trivial (lv_sub hl [0, 1, 2, 3] rfl) (fun i ls hi_2 hI_3 hl ih_1 => ?_)
  have hl : lv_has ls 4 [(3, .int (nI i)), (2, .int (nI (ppN tc tp ar k i))), (0, .ref a0), (1, .int (nI k))] := hl
  refine lv_iload_n hx hb d_M_peopleIn_4 rfl (lv_at hl 0 rfl) ?_
  refine lv_aload_n hx hb d_M_peopleIn_5 rfl (lv_at hl 2 rfl) ?_
  refine va_get (D := D) (ci := 6) (v := .int (nI n9)) (C := R_M) (T := F_M) (N := 23) hx hb ht j_M hown hK.1 hP 0 rfl rfl 15 (by decide) (ht _ q_599) (fun _ h9 => h9) rfl d_M_peopleIn_6 ?_
  refine rr_icmp_ge (a := i) (b := n9) (tgt := 50) (by omega) (by omega) hx hb d_M_peopleIn_9 (by decide) (fun c9 => ?_) (fun c9 => ?_)
  · refine lv_iload_n hx hb d_M_peopleIn_50 rfl (lv_at hl 1 rfl) ?_
    exact rr_ret hx hb hr hlk (by rw [show i = n9 from by omega]) d_M_peopleIn_51
  · refine lv_iload_n hx hb d_M_peopleIn_12 rfl (lv_at hl 1 rfl) ?_
    refine lv_aload_n hx hb d_M_peopleIn_13 rfl (lv_at hl 2 rfl) ?_
    refine va_get (D := D) (ci := 6) (v := .ref h16) (C := R_M) (T := F_M) (N := 23) hx hb ht j_M hown hK.1 hP 0 rfl rfl 16 (by decide) (ht _ q_600) (fun _ h9 => h9) rfl d_M_peopleIn_14 ?_
    refine lv_iload_n hx hb d_M_peopleIn_17 rfl (lv_at hl 0 rfl) ?_
    refine rr_iald (q0 := 1) (n := 60) (f := (fun j => nI (tc j))) (k := i) hx hb hK hP rfl (by omega) (by omega) d_M_peopleIn_18 ?_
    refine lv_iload_n hx hb d_M_peopleIn_19 rfl (lv_at hl 3 rfl) ?_
    have htc9 := htc i (by omega)
    have har9 := har i (by omega)
    refine rr_icmp_ne (a := (tc i)) (b := k) (tgt := 41) (by omega) (by omega) hx hb d_M_peopleIn_20 (by decide) (fun c20 => ?_) (fun c20 => ?_)
    · refine lv_iconst (v := nI 0) hx hb d_M_peopleIn_41 (by decide) ?_
      refine rr_iadd (a := (ppN tc tp ar k i)) (b := 0) hx hb d_M_peopleIn_42 ?_
      refine lv_istore_n (lv' := [(2, .int (nI ((ppN tc tp ar k i) + 0))), (3, .int (nI i)), (0, .ref a0), (1, .int (nI k))]) hx hb d_M_peopleIn_43 rfl hl (by decide) rfl (fun ls hl => ?_)
      refine lv_iinc (v := nI (i + 1)) (lv' := [(3, .int (nI (i + 1))), (2, .int (nI ((ppN tc tp ar k i) + 0))), (0, .ref a0), (1, .int (nI k))]) hx hb d_M_peopleIn_44 hl (k := 1) rfl (nI_add i 1) (by decide) rfl (fun ls hl => ?_)
      refine lv_goto (tgt := 4) hx hb d_M_peopleIn_47 (by decide) ?_
      exact ih_1 ls (by omega) trivial (by show lv_has ls 4 [(3, .int (nI (i + 1))), (2, .int (nI (ppN tc tp ar k (i + 1)))), (0, .ref a0), (1, .int (nI k))]; rw [show (nI (ppN tc tp ar k (i + 1)) : Int32) = nI ((ppN tc tp ar k i) + 0) from congrArg nI (by rw [ppN_s, if_neg (by omega)])]; exact lv_sub hl [0, 1, 2, 3] rfl)
    · refine lv_aload_n hx hb d_M_peopleIn_23 rfl (lv_at hl 2 rfl) ?_
      refine va_get (D := D) (ci := 6) (v := .ref h20) (C := R_M) (T := F_M) (N := 23) hx hb ht j_M hown hK.1 hP 0 rfl rfl 20 (by decide) (ht _ q_604) (fun _ h9 => h9) rfl d_M_peopleIn_24 ?_
      refine lv_iload_n hx hb d_M_peopleIn_27 rfl (lv_at hl 0 rfl) ?_
      refine rr_iald (q0 := 3) (n := 60) (f := (fun j => nI (ar j))) (k := i) hx hb hK hP rfl (by omega) (by omega) d_M_peopleIn_28 ?_
      refine rr_if_ne (a := (ar i)) (tgt := 41) (by omega) hx hb d_M_peopleIn_29 (by decide) (fun c29 => ?_) (fun c29 => ?_)
      · refine lv_iconst (v := nI 0) hx hb d_M_peopleIn_41 (by decide) ?_
        refine rr_iadd (a := (ppN tc tp ar k i)) (b := 0) hx hb d_M_peopleIn_42 ?_
        refine lv_istore_n (lv' := [(2, .int (nI ((ppN tc tp ar k i) + 0))), (3, .int (nI i)), (0, .ref a0), (1, .int (nI k))]) hx hb d_M_peopleIn_43 rfl hl (by decide) rfl (fun ls hl => ?_)
        refine lv_iinc (v := nI (i + 1)) (lv' := [(3, .int (nI (i + 1))), (2, .int (nI ((ppN tc tp ar k i) + 0))), (0, .ref a0), (1, .int (nI k))]) hx hb d_M_peopleIn_44 hl (k := 1) rfl (nI_add i 1) (by decide) rfl (fun ls hl => ?_)
        refine lv_goto (tgt := 4) hx hb d_M_peopleIn_47 (by decide) ?_
        exact ih_1 ls (by omega) trivial (by show lv_has ls 4 [(3, .int (nI (i + 1))), (2, .int (nI (ppN tc tp ar k (i + 1)))), (0, .ref a0), (1, .int (nI k))]; rw [show (nI (ppN tc tp ar k (i + 1)) : Int32) = nI ((ppN tc tp ar k i) + 0) from congrArg nI (by rw [ppN_s, if_neg (by omega)])]; exact lv_sub hl [0, 1, 2, 3] rfl)
      · refine lv_aload_n hx hb d_M_peopleIn_32 rfl (lv_at hl 2 rfl) ?_
        refine va_get (D := D) (ci := 6) (v := .ref h17) (C := R_M) (T := F_M) (N := 23) hx hb ht j_M hown hK.1 hP 0 rfl rfl 17 (by decide) (ht _ q_601) (fun _ h9 => h9) rfl d_M_peopleIn_33 ?_
        refine lv_iload_n hx hb d_M_peopleIn_36 rfl (lv_at hl 0 rfl) ?_
        refine rr_iald (q0 := 2) (n := 60) (f := (fun j => nI (tp j))) (k := i) hx hb hK hP rfl (by omega) (by omega) d_M_peopleIn_37 ?_
        refine lv_goto (tgt := 42) hx hb d_M_peopleIn_38 (by decide) ?_
        refine rr_iadd (a := (ppN tc tp ar k i)) (b := (tp i)) hx hb d_M_peopleIn_42 ?_
        refine lv_istore_n (lv' := [(2, .int (nI ((ppN tc tp ar k i) + (tp i)))), (3, .int (nI i)), (0, .ref a0), (1, .int (nI k))]) hx hb d_M_peopleIn_43 rfl hl (by decide) rfl (fun ls hl => ?_)
        refine lv_iinc (v := nI (i + 1)) (lv' := [(3, .int (nI (i + 1))), (2, .int (nI ((ppN tc tp ar k i) + (tp i)))), (0, .ref a0), (1, .int (nI k))]) hx hb d_M_peopleIn_44 hl (k := 1) rfl (nI_add i 1) (by decide) rfl (fun ls hl => ?_)
        refine lv_goto (tgt := 4) hx hb d_M_peopleIn_47 (by decide) ?_
        exact ih_1 ls (by omega) trivial (by show lv_has ls 4 [(3, .int (nI (i + 1))), (2, .int (nI (ppN tc tp ar k (i + 1)))), (0, .ref a0), (1, .int (nI k))]; rw [show (nI (ppN tc tp ar k (i + 1)) : Int32) = nI ((ppN tc tp ar k i) + (tp i)) from congrArg nI (by rw [ppN_s, if_pos (by omega)])]; exact lv_sub hl [0, 1, 2, 3] rfl)
theorem k_M_isTower : rr_CS y_M_isTower b_M_isTower 1 (some .boolean) 1 := ⟨q_706, q_7, q_707, by decide, by decide, by decide +kernel⟩
set_option maxHeartbeats 4000000 in
set_option maxRecDepth 100000 in
/-- the model: isTower -/
theorem c_M_isTower (l : Launch) (D : va_G) (cs : rr_C3) (x : Int32)  : RO l y_M_isTower b_M_isTower 1 (some .boolean) 1 22 D cs [] [.int x] (fun r => r = nI (bq (ix 7 x < 7))) := by
  refine RO.of (by decide) (Nat.le_of_ble_eq_true rfl) ?_
  intro p e s m args below meth c S hr hlk hK hP ls hl
  obtain ⟨hx, hb, hml, hown, ht⟩ := id S
  have hl : lv_has ls 1 [(0, .int x)] := hl
  refine lv_iload_n hx hb d_M_isTower_0 rfl (lv_at hl 0 rfl) ?_
  refine lv_iconst (v := nI 0) hx hb d_M_isTower_1 (by decide) ?_
  refine lv_bipush (v := nI 6) hx hb d_M_isTower_2 (by decide) ?_
  refine rr_rS (As := [.int x, .int (nI 0), .int (nI 6)]) (rest := []) (idx := 68) S hK (c_M_in l D cs x (nI 0) (nI 6) ) k_M_in q_677 ⟨Nat.le_of_ble_eq_true rfl, Nat.le_of_ble_eq_true rfl⟩ ⟨Nat.le_of_ble_eq_true rfl, Nat.le_of_ble_eq_true rfl⟩ hl (Nat.le_of_ble_eq_true rfl) rfl d_M_isTower_4 (fun r9 hr9 => ?_)
  subst hr9
  exact rr_retZ (v := (bq ((nI 0) ≤ x ∧ x ≤ (nI 6)))) (by first | exact bq_le _ | omega) hx hb hr hlk (congrArg nI (bq_cong ((ix_in (k := 7) (lo := 0) (hi := 6) (by decide) (by decide) (by decide)).trans (by omega)))) d_M_isTower_7
theorem k_M_isInStation : rr_CS y_M_isInStation b_M_isInStation 1 (some .boolean) 1 := ⟨q_773, q_7, q_774, by decide, by decide, by decide +kernel⟩
set_option maxHeartbeats 4000000 in
set_option maxRecDepth 100000 in
/-- the model: isInStation -/
theorem c_M_isInStation (l : Launch) (D : va_G) (cs : rr_C3) (q9 : Nat) (hq9 : q9 < 1200) : RO l y_M_isInStation b_M_isInStation 1 (some .boolean) 0 0 D cs [] [.int (nI q9)] (fun r => r = nI (bq (q9 % 600 < 20))) := by
  refine RO.of (by decide) (Nat.le_of_ble_eq_true rfl) ?_
  intro p e s m args below meth c S hr hlk hK hP ls hl
  obtain ⟨hx, hb, hml, hown, ht⟩ := id S
  have hl : lv_has ls 1 [(0, .int (nI q9))] := hl
  refine lv_iload_n hx hb d_M_isInStation_0 rfl (lv_at hl 0 rfl) ?_
  refine lv_sipush (v := nI 600) hx hb d_M_isInStation_1 (by decide) ?_
  refine rr_irem (a := q9) (b := 600) (by omega) (by omega) (by omega) hx hb d_M_isInStation_4 ?_
  refine lv_bipush (v := nI 20) hx hb d_M_isInStation_5 (by decide) ?_
  refine rr_icmp_ge (a := (q9 % 600)) (b := 20) (tgt := 14) (by omega) (by omega) hx hb d_M_isInStation_7 (by decide) (fun c7 => ?_) (fun c7 => ?_)
  · refine lv_iconst (v := nI 0) hx hb d_M_isInStation_14 (by decide) ?_
    exact rr_retZ (v := 0) (by first | exact bq_le _ | omega) hx hb hr hlk (congrArg nI (bq_f (by omega)).symm) d_M_isInStation_15
  · refine lv_iconst (v := nI 1) hx hb d_M_isInStation_10 (by decide) ?_
    refine lv_goto (tgt := 15) hx hb d_M_isInStation_11 (by decide) ?_
    exact rr_retZ (v := 1) (by first | exact bq_le _ | omega) hx hb hr hlk (congrArg nI (bq_t (by omega)).symm) d_M_isInStation_15
theorem k_M_votesNow : rr_CK y_M_votesNow b_M_votesNow 2 (some .int) 1 := ⟨q_710, qs_M_votesNow, q_7, q_711, by decide, by decide, by decide +kernel⟩
set_option maxHeartbeats 4000000 in
set_option maxRecDepth 100000 in
/-- the model: votesNow -/
theorem c_M_votesNow (l : Launch) (D : va_G) (cs : rr_C3) (a0 : Nat) (h6 : Nat) (h7 : Nat) (h8 : Nat) (v0 : Value) (v1 : Value) (v2 : Value) (v3 : Value) (v4 : Value) (v5 : Value) (v9 : Value) (v10 : Value) (v11 : Value) (v12 : Value) (v13 : Value) (v14 : Value) (v15 : Value) (v16 : Value) (v17 : Value) (v18 : Value) (v19 : Value) (v20 : Value) (v21 : Value) (v22 : Value) (wi : Nat → Nat) (sl : Nat → Nat) (su : Nat → Nat) (k : Nat) (hk : k < 7) (hwb : ∀ j, j < 7 → wi j ≤ 150 ∧ sl j ≤ 150 ∧ su j ≤ 150) : RO l y_M_votesNow b_M_votesNow 2 (some .int) 0 0 D cs [(a0, .inr (6, [v0, v1, v2, v3, v4, v5, .ref h6, .ref h7, .ref h8, v9, v10, v11, v12, v13, v14, v15, v16, v17, v18, v19, v20, v21, v22])), (h6, .inl (cs.1, 7, .inl (fun j => nI (wi j)))), (h7, .inl (cs.1, 7, .inl (fun j => nI (sl j)))), (h8, .inl (cs.1, 7, .inl (fun j => nI (su j))))] [.ref a0, .int (nI k)] (fun r => r = nI (vnN wi sl su k)) := by
  refine RO.of (by decide) (Nat.le_of_ble_eq_true rfl) ?_
  intro p e s m args below meth c S hr hlk hK hP ls hl
  obtain ⟨hx, hb, hml, hown, ht⟩ := id S
  have hl : lv_has ls 2 [(0, .ref a0), (1, .int (nI k))] := hl
  have hwb9 := hwb k hk
  refine lv_aload_n hx hb d_M_votesNow_0 rfl (lv_at hl 0 rfl) ?_
  refine va_get (D := D) (ci := 6) (v := .ref h6) (C := R_M) (T := F_M) (N := 23) hx hb ht j_M hown hK.1 hP 0 rfl rfl 6 (by decide) (ht _ q_590) (fun _ h9 => h9) rfl d_M_votesNow_1 ?_
  refine lv_iload_n hx hb d_M_votesNow_4 rfl (lv_at hl 1 rfl) ?_
  refine rr_iald (q0 := 1) (n := 7) (f := (fun j => nI (wi j))) (k := k) hx hb hK hP rfl (by omega) (by omega) d_M_votesNow_5 ?_
  refine lv_aload_n hx hb d_M_votesNow_6 rfl (lv_at hl 0 rfl) ?_
  refine va_get (D := D) (ci := 6) (v := .ref h7) (C := R_M) (T := F_M) (N := 23) hx hb ht j_M hown hK.1 hP 0 rfl rfl 7 (by decide) (ht _ q_591) (fun _ h9 => h9) rfl d_M_votesNow_7 ?_
  refine lv_iload_n hx hb d_M_votesNow_10 rfl (lv_at hl 1 rfl) ?_
  refine rr_iald (q0 := 2) (n := 7) (f := (fun j => nI (sl j))) (k := k) hx hb hK hP rfl (by omega) (by omega) d_M_votesNow_11 ?_
  refine rr_icmp_ge (a := (wi k)) (b := (sl k)) (tgt := 19) (by omega) (by omega) hx hb d_M_votesNow_12 (by decide) (fun c12 => ?_) (fun c12 => ?_)
  · refine lv_aload_n hx hb d_M_votesNow_19 rfl (lv_at hl 0 rfl) ?_
    refine va_get (D := D) (ci := 6) (v := .ref h6) (C := R_M) (T := F_M) (N := 23) hx hb ht j_M hown hK.1 hP 0 rfl rfl 6 (by decide) (ht _ q_590) (fun _ h9 => h9) rfl d_M_votesNow_20 ?_
    refine lv_iload_n hx hb d_M_votesNow_23 rfl (lv_at hl 1 rfl) ?_
    refine rr_iald (q0 := 1) (n := 7) (f := (fun j => nI (wi j))) (k := k) hx hb hK hP rfl (by omega) (by omega) d_M_votesNow_24 ?_
    refine lv_aload_n hx hb d_M_votesNow_25 rfl (lv_at hl 0 rfl) ?_
    refine va_get (D := D) (ci := 6) (v := .ref h8) (C := R_M) (T := F_M) (N := 23) hx hb ht j_M hown hK.1 hP 0 rfl rfl 8 (by decide) (ht _ q_592) (fun _ h9 => h9) rfl d_M_votesNow_26 ?_
    refine lv_iload_n hx hb d_M_votesNow_29 rfl (lv_at hl 1 rfl) ?_
    refine rr_iald (q0 := 3) (n := 7) (f := (fun j => nI (su j))) (k := k) hx hb hK hP rfl (by omega) (by omega) d_M_votesNow_30 ?_
    refine rr_icmp_ge (a := (wi k)) (b := (su k)) (tgt := 38) (by omega) (by omega) hx hb d_M_votesNow_31 (by decide) (fun c31 => ?_) (fun c31 => ?_)
    · refine lv_iconst (v := nI 0) hx hb d_M_votesNow_38 (by decide) ?_
      exact rr_ret hx hb hr hlk (congrArg nI (by unfold vnN; repeat (first | omega | split))) d_M_votesNow_39
    · refine lv_iconst (v := nI 1) hx hb d_M_votesNow_34 (by decide) ?_
      refine lv_goto (tgt := 39) hx hb d_M_votesNow_35 (by decide) ?_
      exact rr_ret hx hb hr hlk (congrArg nI (by unfold vnN; repeat (first | omega | split))) d_M_votesNow_39
  · refine lv_iconst (v := nI 2) hx hb d_M_votesNow_15 (by decide) ?_
    refine lv_goto (tgt := 39) hx hb d_M_votesNow_16 (by decide) ?_
    exact rr_ret hx hb hr hlk (congrArg nI (by unfold vnN; repeat (first | omega | split))) d_M_votesNow_39
theorem k_M_isFresh : rr_CK y_M_isFresh b_M_isFresh 2 (some .boolean) 1 := ⟨q_734, qs_M_isFresh, q_7, q_735, by decide, by decide, by decide +kernel⟩
set_option maxHeartbeats 4000000 in
set_option maxRecDepth 100000 in
/-- the model: isFresh -/
theorem c_M_isFresh (l : Launch) (D : va_G) (cs : rr_C3) (a0 : Nat) (h12 : Nat) (v1 : Value) (v2 : Value) (v3 : Value) (v4 : Value) (v5 : Value) (v6 : Value) (v7 : Value) (v8 : Value) (v9 : Value) (v10 : Value) (v11 : Value) (v13 : Value) (v14 : Value) (v15 : Value) (v16 : Value) (v17 : Value) (v18 : Value) (v19 : Value) (v20 : Value) (v21 : Value) (v22 : Value) (T : Nat) (k : Nat) (vt : Nat → Nat) (hk : k < 7) (hT : T ≤ 1000) (hvt : ∀ j, j < 7 → vt j ≤ T) : RO l y_M_isFresh b_M_isFresh 2 (some .boolean) 0 0 D cs [(a0, .inr (6, [.int (nI T), v1, v2, v3, v4, v5, v6, v7, v8, v9, v10, v11, .ref h12, v13, v14, v15, v16, v17, v18, v19, v20, v21, v22])), (h12, .inl (cs.1, 7, .inl (fun j => nI (vt j))))] [.ref a0, .int (nI k)] (fun r => r = nI (bq (frP T vt k))) := by
  refine RO.of (by decide) (Nat.le_of_ble_eq_true rfl) ?_
  intro p e s m args below meth c S hr hlk hK hP ls hl
  obtain ⟨hx, hb, hml, hown, ht⟩ := id S
  have hl : lv_has ls 2 [(0, .ref a0), (1, .int (nI k))] := hl
  have hvt9 := hvt k hk
  refine lv_aload_n hx hb d_M_isFresh_0 rfl (lv_at hl 0 rfl) ?_
  refine va_get (D := D) (ci := 6) (v := .ref h12) (C := R_M) (T := F_M) (N := 23) hx hb ht j_M hown hK.1 hP 0 rfl rfl 12 (by decide) (ht _ q_596) (fun _ h9 => h9) rfl d_M_isFresh_1 ?_
  refine lv_iload_n hx hb d_M_isFresh_4 rfl (lv_at hl 1 rfl) ?_
  refine rr_iald (q0 := 1) (n := 7) (f := (fun j => nI (vt j))) (k := k) hx hb hK hP rfl (by omega) (by omega) d_M_isFresh_5 ?_
  refine rr_if_le (a := (vt k)) (tgt := 28) (by omega) hx hb d_M_isFresh_6 (by decide) (fun c6 => ?_) (fun c6 => ?_)
  · refine lv_iconst (v := nI 0) hx hb d_M_isFresh_28 (by decide) ?_
    exact rr_retZ (v := 0) (by first | exact bq_le _ | omega) hx hb hr hlk (congrArg nI (bq_f (by unfold frP; omega)).symm) d_M_isFresh_29
  · refine lv_aload_n hx hb d_M_isFresh_9 rfl (lv_at hl 0 rfl) ?_
    refine va_get (D := D) (ci := 6) (v := .int (nI T)) (C := R_M) (T := F_M) (N := 23) hx hb ht j_M hown hK.1 hP 0 rfl rfl 0 (by decide) (ht _ q_584) (fun _ h9 => h9) rfl d_M_isFresh_10 ?_
    refine lv_aload_n hx hb d_M_isFresh_13 rfl (lv_at hl 0 rfl) ?_
    refine va_get (D := D) (ci := 6) (v := .ref h12) (C := R_M) (T := F_M) (N := 23) hx hb ht j_M hown hK.1 hP 0 rfl rfl 12 (by decide) (ht _ q_596) (fun _ h9 => h9) rfl d_M_isFresh_14 ?_
    refine lv_iload_n hx hb d_M_isFresh_17 rfl (lv_at hl 1 rfl) ?_
    refine rr_iald (q0 := 1) (n := 7) (f := (fun j => nI (vt j))) (k := k) hx hb hK hP rfl (by omega) (by omega) d_M_isFresh_18 ?_
    refine rr_isub (a := T) (b := (vt k)) (by omega) hx hb d_M_isFresh_19 ?_
    refine lv_iconst (v := nI 3) hx hb d_M_isFresh_20 (by decide) ?_
    refine rr_icmp_gt (a := (T - (vt k))) (b := 3) (tgt := 28) (by omega) (by omega) hx hb d_M_isFresh_21 (by decide) (fun c21 => ?_) (fun c21 => ?_)
    · refine lv_iconst (v := nI 0) hx hb d_M_isFresh_28 (by decide) ?_
      exact rr_retZ (v := 0) (by first | exact bq_le _ | omega) hx hb hr hlk (congrArg nI (bq_f (by unfold frP; omega)).symm) d_M_isFresh_29
    · refine lv_iconst (v := nI 1) hx hb d_M_isFresh_24 (by decide) ?_
      refine lv_goto (tgt := 29) hx hb d_M_isFresh_25 (by decide) ?_
      exact rr_retZ (v := 1) (by first | exact bq_le _ | omega) hx hb hr hlk (congrArg nI (bq_t (by unfold frP; omega)).symm) d_M_isFresh_29
theorem k_M_count : rr_CK y_M_count b_M_count 4 (some .int) 1 := ⟨q_750, qs_M_count, q_7, q_751, by decide, by decide, by decide +kernel⟩
set_option maxHeartbeats 4000000 in
set_option maxRecDepth 100000 in
/-- the model: count -/
theorem c_M_count (l : Launch) (D : va_G) (cs : rr_C3) (a0 : Nat) (h12 : Nat) (h13 : Nat) (v1 : Value) (v2 : Value) (v3 : Value) (v4 : Value) (v5 : Value) (v6 : Value) (v7 : Value) (v8 : Value) (v9 : Value) (v10 : Value) (v11 : Value) (v14 : Value) (v15 : Value) (v16 : Value) (v17 : Value) (v18 : Value) (v19 : Value) (v20 : Value) (v21 : Value) (v22 : Value) (T : Nat) (k : Nat) (vt : Nat → Nat) (vv : Nat → Nat) (hk : k ≤ 2) (hT : T ≤ 1000) (hvt : ∀ j, j < 7 → vt j ≤ T) (hvv : ∀ j, j < 7 → vv j ≤ 2) : RO l y_M_count b_M_count 4 (some .int) 1 21 D cs [(a0, .inr (6, [.int (nI T), v1, v2, v3, v4, v5, v6, v7, v8, v9, v10, v11, .ref h12, .ref h13, v14, v15, v16, v17, v18, v19, v20, v21, v22])), (h12, .inl (cs.1, 7, .inl (fun j => nI (vt j)))), (h13, .inl (cs.1, 7, .inl (fun j => nI (vv j))))] [.ref a0, .int (nI k)] (fun r => r = nI (cvN T vt vv k 7)) := by
  refine RO.of (by decide) (Nat.le_of_ble_eq_true rfl) ?_
  intro p e s m args below meth c S hr hlk hK hP ls hl
  obtain ⟨hx, hb, hml, hown, ht⟩ := id S
  have hl : lv_has ls 4 [(0, .ref a0), (1, .int (nI k))] := hl
  refine lv_iconst (v := nI 0) hx hb d_M_count_0 (by decide) ?_
  refine lv_istore_n (lv' := [(2, .int (nI 0)), (0, .ref a0), (1, .int (nI k))]) hx hb d_M_count_1 rfl hl (by decide) rfl (fun ls hl => ?_)
  refine lv_iconst (v := nI 0) hx hb d_M_count_2 (by decide) ?_
  refine lv_istore_n (lv' := [(3, .int (nI 0)), (2, .int (nI 0)), (0, .ref a0), (1, .int (nI k))]) hx hb d_M_count_3 rfl hl (by decide) rfl (fun ls hl => ?_)
  refine rr_loop (fun i => [(3, .int (nI i)), (2, .int (nI (cvN T vt vv k i))), (0, .ref a0), (1, .int (nI k))]) (fun i => True) 0 7 (by omega) trivial (lv_sub hl [0, 1, 2, 3] rfl) (fun i ls hi_2 hI_3 hl ih_1 => ?_)
  have hl : lv_has ls 4 [(3, .int (nI i)), (2, .int (nI (cvN T vt vv k i))), (0, .ref a0), (1, .int (nI k))] := hl
  refine lv_iload_n hx hb d_M_count_4 rfl (lv_at hl 0 rfl) ?_
  refine lv_bipush (v := nI 7) hx hb d_M_count_5 (by decide) ?_
  refine rr_icmp_ge (a := i) (b := 7) (tgt := 42) (by omega) (by omega) hx hb d_M_count_7 (by decide) (fun c7 => ?_) (fun c7 => ?_)
  · refine lv_iload_n hx hb d_M_count_42 rfl (lv_at hl 1 rfl) ?_
    exact rr_ret hx hb hr hlk (by rw [show i = 7 from by omega]) d_M_count_43
  · refine lv_iload_n hx hb d_M_count_10 rfl (lv_at hl 1 rfl) ?_
    refine lv_aload_n hx hb d_M_count_11 rfl (lv_at hl 2 rfl) ?_
    refine lv_iload_n hx hb d_M_count_12 rfl (lv_at hl 0 rfl) ?_
    refine rr_rV (As := [.int (nI i)]) (rest := [.int (nI (cvN T vt vv k i))]) (idx := 105) (q0 := 0) (ci := 6) S hK hP (c_M_isFresh l D cs a0 h12 v1 v2 v3 v4 v5 v6 v7 v8 v9 v10 v11 (.ref h13) v14 v15 v16 v17 v18 v19 v20 v21 v22 T i vt (by first | assumption | omega) (by first | assumption | omega) (by first | assumption | omega)) k_M_isFresh [0, 1] rfl rfl rfl rfl q_732 ⟨Nat.le_of_ble_eq_true rfl, Nat.le_of_ble_eq_true rfl⟩ ⟨Nat.le_of_ble_eq_true rfl, Nat.le_of_ble_eq_true rfl⟩ hl (Nat.le_of_ble_eq_true rfl) rfl d_M_count_13 (fun r9 hr9 => ?_)
    subst hr9
    refine rr_bq_eq (tgt := 33) hx hb d_M_count_16 (by decide) (fun c16 => ?_) (fun c16 => ?_)
    · refine lv_iconst (v := nI 0) hx hb d_M_count_33 (by decide) ?_
      refine rr_iadd (a := (cvN T vt vv k i)) (b := 0) hx hb d_M_count_34 ?_
      refine lv_istore_n (lv' := [(2, .int (nI ((cvN T vt vv k i) + 0))), (3, .int (nI i)), (0, .ref a0), (1, .int (nI k))]) hx hb d_M_count_35 rfl hl (by decide) rfl (fun ls hl => ?_)
      refine lv_iinc (v := nI (i + 1)) (lv' := [(3, .int (nI (i + 1))), (2, .int (nI ((cvN T vt vv k i) + 0))), (0, .ref a0), (1, .int (nI k))]) hx hb d_M_count_36 hl (k := 1) rfl (nI_add i 1) (by decide) rfl (fun ls hl => ?_)
      refine lv_goto (tgt := 4) hx hb d_M_count_39 (by decide) ?_
      exact ih_1 ls (by omega) trivial (by show lv_has ls 4 [(3, .int (nI (i + 1))), (2, .int (nI (cvN T vt vv k (i + 1)))), (0, .ref a0), (1, .int (nI k))]; rw [show (nI (cvN T vt vv k (i + 1)) : Int32) = nI ((cvN T vt vv k i) + 0) from congrArg nI (by rw [cvN_s, bq_f (fun z => by first | exact absurd z.1 c16 | exact absurd z.2 c26)])]; exact lv_sub hl [0, 1, 2, 3] rfl)
    · refine lv_aload_n hx hb d_M_count_19 rfl (lv_at hl 2 rfl) ?_
      refine va_get (D := D) (ci := 6) (v := .ref h13) (C := R_M) (T := F_M) (N := 23) hx hb ht j_M hown hK.1 hP 0 rfl rfl 13 (by decide) (ht _ q_597) (fun _ h9 => h9) rfl d_M_count_20 ?_
      refine lv_iload_n hx hb d_M_count_23 rfl (lv_at hl 0 rfl) ?_
      refine rr_iald (q0 := 2) (n := 7) (f := (fun j => nI (vv j))) (k := i) hx hb hK hP rfl (by omega) (by omega) d_M_count_24 ?_
      have hvv9 := hvv i (by omega)
      refine lv_iload_n hx hb d_M_count_25 rfl (lv_at hl 3 rfl) ?_
      refine rr_icmp_ne (a := (vv i)) (b := k) (tgt := 33) (by omega) (by omega) hx hb d_M_count_26 (by decide) (fun c26 => ?_) (fun c26 => ?_)
      · refine lv_iconst (v := nI 0) hx hb d_M_count_33 (by decide) ?_
        refine rr_iadd (a := (cvN T vt vv k i)) (b := 0) hx hb d_M_count_34 ?_
        refine lv_istore_n (lv' := [(2, .int (nI ((cvN T vt vv k i) + 0))), (3, .int (nI i)), (0, .ref a0), (1, .int (nI k))]) hx hb d_M_count_35 rfl hl (by decide) rfl (fun ls hl => ?_)
        refine lv_iinc (v := nI (i + 1)) (lv' := [(3, .int (nI (i + 1))), (2, .int (nI ((cvN T vt vv k i) + 0))), (0, .ref a0), (1, .int (nI k))]) hx hb d_M_count_36 hl (k := 1) rfl (nI_add i 1) (by decide) rfl (fun ls hl => ?_)
        refine lv_goto (tgt := 4) hx hb d_M_count_39 (by decide) ?_
        exact ih_1 ls (by omega) trivial (by show lv_has ls 4 [(3, .int (nI (i + 1))), (2, .int (nI (cvN T vt vv k (i + 1)))), (0, .ref a0), (1, .int (nI k))]; rw [show (nI (cvN T vt vv k (i + 1)) : Int32) = nI ((cvN T vt vv k i) + 0) from congrArg nI (by rw [cvN_s, bq_f (fun z => by first | exact absurd z.1 c16 | exact absurd z.2 c26)])]; exact lv_sub hl [0, 1, 2, 3] rfl)
      · refine lv_iconst (v := nI 1) hx hb d_M_count_29 (by decide) ?_
        refine lv_goto (tgt := 34) hx hb d_M_count_30 (by decide) ?_
        refine rr_iadd (a := (cvN T vt vv k i)) (b := 1) hx hb d_M_count_34 ?_
        refine lv_istore_n (lv' := [(2, .int (nI ((cvN T vt vv k i) + 1))), (3, .int (nI i)), (0, .ref a0), (1, .int (nI k))]) hx hb d_M_count_35 rfl hl (by decide) rfl (fun ls hl => ?_)
        refine lv_iinc (v := nI (i + 1)) (lv' := [(3, .int (nI (i + 1))), (2, .int (nI ((cvN T vt vv k i) + 1))), (0, .ref a0), (1, .int (nI k))]) hx hb d_M_count_36 hl (k := 1) rfl (nI_add i 1) (by decide) rfl (fun ls hl => ?_)
        refine lv_goto (tgt := 4) hx hb d_M_count_39 (by decide) ?_
        exact ih_1 ls (by omega) trivial (by show lv_has ls 4 [(3, .int (nI (i + 1))), (2, .int (nI (cvN T vt vv k (i + 1)))), (0, .ref a0), (1, .int (nI k))]; rw [show (nI (cvN T vt vv k (i + 1)) : Int32) = nI ((cvN T vt vv k i) + 1) from congrArg nI (by rw [cvN_s, bq_t ⟨c16, c26⟩])]; exact lv_sub hl [0, 1, 2, 3] rfl)
theorem k_M_decides : rr_CK y_M_decides b_M_decides 4 (some .int) 0 := ⟨q_746, qs_M_decides, q_7, q_747, by decide, by decide, by decide +kernel⟩
set_option maxHeartbeats 4000000 in
set_option maxRecDepth 100000 in
/-- the model: decides -/
theorem c_M_decides (l : Launch) (D : va_G) (cs : rr_C3) (a0 : Nat) (h12 : Nat) (h13 : Nat) (v1 : Value) (v3 : Value) (v4 : Value) (v5 : Value) (v6 : Value) (v7 : Value) (v8 : Value) (v9 : Value) (v10 : Value) (v11 : Value) (v14 : Value) (v15 : Value) (v16 : Value) (v17 : Value) (v18 : Value) (v19 : Value) (v20 : Value) (v21 : Value) (v22 : Value) (T : Nat) (hd : Nat) (vt : Nat → Nat) (vv : Nat → Nat) (hT : T ≤ 1000) (hvt : ∀ j, j < 7 → vt j ≤ T) (hvv : ∀ j, j < 7 → vv j ≤ 2) (hhd : hd ≤ 1) : RO l y_M_decides b_M_decides 4 (some .int) 2 44 D cs [(a0, .inr (6, [.int (nI T), v1, .int (nI hd), v3, v4, v5, v6, v7, v8, v9, v10, v11, .ref h12, .ref h13, v14, v15, v16, v17, v18, v19, v20, v21, v22])), (h12, .inl (cs.1, 7, .inl (fun j => nI (vt j)))), (h13, .inl (cs.1, 7, .inl (fun j => nI (vv j))))] [.ref a0] (fun r => r = nI (dwN T hd vt vv)) := by
  refine RO.of (by decide) (Nat.le_of_ble_eq_true rfl) ?_
  intro p e s m args below meth c S hr hlk hK hP ls hl
  obtain ⟨hx, hb, hml, hown, ht⟩ := id S
  have hl : lv_has ls 4 [(0, .ref a0)] := hl
  have hf2 := cvN_le T vt vv 2 7
  have hf1 := cvN_le T vt vv 1 7
  have hf0 := cvN_le T vt vv 0 7
  refine lv_aload_n hx hb d_M_decides_0 rfl (lv_at hl 0 rfl) ?_
  refine lv_iconst (v := nI 0) hx hb d_M_decides_1 (by decide) ?_
  refine rr_rV (As := [.int (nI 0)]) (rest := []) (idx := 108) (q0 := 0) (ci := 6) S hK hP (c_M_count l D cs a0 h12 h13 v1 (.int (nI hd)) v3 v4 v5 v6 v7 v8 v9 v10 v11 v14 v15 v16 v17 v18 v19 v20 v21 v22 T 0 vt vv (by first | assumption | omega) (by first | assumption | omega) (by first | assumption | omega) (by first | assumption | omega)) k_M_count [0, 1, 2] rfl rfl rfl rfl q_748 ⟨Nat.le_of_ble_eq_true rfl, Nat.le_of_ble_eq_true rfl⟩ ⟨Nat.le_of_ble_eq_true rfl, Nat.le_of_ble_eq_true rfl⟩ hl (Nat.le_of_ble_eq_true rfl) rfl d_M_decides_2 (fun r9 hr9 => ?_)
  subst hr9
  refine lv_istore_n (lv' := [(1, .int (nI (cvN T vt vv 0 7))), (0, .ref a0)]) hx hb d_M_decides_5 rfl hl (by decide) rfl (fun ls hl => ?_)
  refine lv_aload_n hx hb d_M_decides_6 rfl (lv_at hl 1 rfl) ?_
  refine lv_iconst (v := nI 2) hx hb d_M_decides_7 (by decide) ?_
  refine rr_rV (As := [.int (nI 2)]) (rest := []) (idx := 108) (q0 := 0) (ci := 6) S hK hP (c_M_count l D cs a0 h12 h13 v1 (.int (nI hd)) v3 v4 v5 v6 v7 v8 v9 v10 v11 v14 v15 v16 v17 v18 v19 v20 v21 v22 T 2 vt vv (by first | assumption | omega) (by first | assumption | omega) (by first | assumption | omega) (by first | assumption | omega)) k_M_count [0, 1, 2] rfl rfl rfl rfl q_748 ⟨Nat.le_of_ble_eq_true rfl, Nat.le_of_ble_eq_true rfl⟩ ⟨Nat.le_of_ble_eq_true rfl, Nat.le_of_ble_eq_true rfl⟩ hl (Nat.le_of_ble_eq_true rfl) rfl d_M_decides_8 (fun r9 hr9 => ?_)
  subst hr9
  refine lv_istore_n (lv' := [(2, .int (nI (cvN T vt vv 2 7))), (1, .int (nI (cvN T vt vv 0 7))), (0, .ref a0)]) hx hb d_M_decides_11 rfl hl (by decide) rfl (fun ls hl => ?_)
  refine lv_iload_n hx hb d_M_decides_12 rfl (lv_at hl 0 rfl) ?_
  refine lv_aload_n hx hb d_M_decides_13 rfl (lv_at hl 2 rfl) ?_
  refine lv_iconst (v := nI 1) hx hb d_M_decides_14 (by decide) ?_
  refine rr_rV (As := [.int (nI 1)]) (rest := [.int (nI (cvN T vt vv 2 7))]) (idx := 108) (q0 := 0) (ci := 6) S hK hP (c_M_count l D cs a0 h12 h13 v1 (.int (nI hd)) v3 v4 v5 v6 v7 v8 v9 v10 v11 v14 v15 v16 v17 v18 v19 v20 v21 v22 T 1 vt vv (by first | assumption | omega) (by first | assumption | omega) (by first | assumption | omega) (by first | assumption | omega)) k_M_count [0, 1, 2] rfl rfl rfl rfl q_748 ⟨Nat.le_of_ble_eq_true rfl, Nat.le_of_ble_eq_true rfl⟩ ⟨Nat.le_of_ble_eq_true rfl, Nat.le_of_ble_eq_true rfl⟩ hl (Nat.le_of_ble_eq_true rfl) rfl d_M_decides_15 (fun r9 hr9 => ?_)
  subst hr9
  refine rr_iadd (a := (cvN T vt vv 2 7)) (b := (cvN T vt vv 1 7)) hx hb d_M_decides_18 ?_
  refine lv_istore_n (lv' := [(3, .int (nI ((cvN T vt vv 2 7) + (cvN T vt vv 1 7)))), (2, .int (nI (cvN T vt vv 2 7))), (1, .int (nI (cvN T vt vv 0 7))), (0, .ref a0)]) hx hb d_M_decides_19 rfl hl (by decide) rfl (fun ls hl => ?_)
  refine lv_aload_n hx hb d_M_decides_20 rfl (lv_at hl 3 rfl) ?_
  refine va_get (D := D) (ci := 6) (v := .int (nI hd)) (C := R_M) (T := F_M) (N := 23) hx hb ht j_M hown hK.1 hP 0 rfl rfl 2 (by decide) (ht _ q_586) (fun _ h9 => h9) rfl d_M_decides_21 ?_
  refine lv_iconst (v := nI 1) hx hb d_M_decides_24 (by decide) ?_
  refine rr_icmp_ne (a := hd) (b := 1) (tgt := 32) (by omega) (by omega) hx hb d_M_decides_25 (by decide) (fun c25 => ?_) (fun c25 => ?_)
  · refine lv_iload_n hx hb d_M_decides_32 rfl (lv_at hl 1 rfl) ?_
    refine lv_iconst (v := nI 3) hx hb d_M_decides_33 (by decide) ?_
    refine rr_icmp_le (a := (cvN T vt vv 2 7)) (b := 3) (tgt := 45) (by omega) (by omega) hx hb d_M_decides_34 (by decide) (fun c34 => ?_) (fun c34 => ?_)
    · refine lv_iload_n hx hb d_M_decides_45 rfl (lv_at hl 0 rfl) ?_
      refine lv_iconst (v := nI 3) hx hb d_M_decides_46 (by decide) ?_
      refine rr_icmp_le (a := ((cvN T vt vv 2 7) + (cvN T vt vv 1 7))) (b := 3) (tgt := 59) (by omega) (by omega) hx hb d_M_decides_47 (by decide) (fun c47 => ?_) (fun c47 => ?_)
      · refine lv_iconst (v := nI 0) hx hb d_M_decides_59 (by decide) ?_
        exact rr_ret hx hb hr hlk (congrArg nI (by unfold dwN wdN dcN; repeat (first | omega | split))) d_M_decides_60
      · refine lv_iload_n hx hb d_M_decides_50 rfl (lv_at hl 2 rfl) ?_
        refine lv_iconst (v := nI 2) hx hb d_M_decides_51 (by decide) ?_
        refine rr_icmp_ge (a := (cvN T vt vv 0 7)) (b := 2) (tgt := 59) (by omega) (by omega) hx hb d_M_decides_52 (by decide) (fun c52 => ?_) (fun c52 => ?_)
        · refine lv_iconst (v := nI 0) hx hb d_M_decides_59 (by decide) ?_
          exact rr_ret hx hb hr hlk (congrArg nI (by unfold dwN wdN dcN; repeat (first | omega | split))) d_M_decides_60
        · refine lv_iconst (v := nI 1) hx hb d_M_decides_55 (by decide) ?_
          refine lv_goto (tgt := 60) hx hb d_M_decides_56 (by decide) ?_
          exact rr_ret hx hb hr hlk (congrArg nI (by unfold dwN wdN dcN; repeat (first | omega | split))) d_M_decides_60
    · refine lv_iload_n hx hb d_M_decides_37 rfl (lv_at hl 2 rfl) ?_
      refine rr_if_ne (a := (cvN T vt vv 0 7)) (tgt := 45) (by omega) hx hb d_M_decides_38 (by decide) (fun c38 => ?_) (fun c38 => ?_)
      · refine lv_iload_n hx hb d_M_decides_45 rfl (lv_at hl 0 rfl) ?_
        refine lv_iconst (v := nI 3) hx hb d_M_decides_46 (by decide) ?_
        refine rr_icmp_le (a := ((cvN T vt vv 2 7) + (cvN T vt vv 1 7))) (b := 3) (tgt := 59) (by omega) (by omega) hx hb d_M_decides_47 (by decide) (fun c47 => ?_) (fun c47 => ?_)
        · refine lv_iconst (v := nI 0) hx hb d_M_decides_59 (by decide) ?_
          exact rr_ret hx hb hr hlk (congrArg nI (by unfold dwN wdN dcN; repeat (first | omega | split))) d_M_decides_60
        · refine lv_iload_n hx hb d_M_decides_50 rfl (lv_at hl 2 rfl) ?_
          refine lv_iconst (v := nI 2) hx hb d_M_decides_51 (by decide) ?_
          refine rr_icmp_ge (a := (cvN T vt vv 0 7)) (b := 2) (tgt := 59) (by omega) (by omega) hx hb d_M_decides_52 (by decide) (fun c52 => ?_) (fun c52 => ?_)
          · refine lv_iconst (v := nI 0) hx hb d_M_decides_59 (by decide) ?_
            exact rr_ret hx hb hr hlk (congrArg nI (by unfold dwN wdN dcN; repeat (first | omega | split))) d_M_decides_60
          · refine lv_iconst (v := nI 1) hx hb d_M_decides_55 (by decide) ?_
            refine lv_goto (tgt := 60) hx hb d_M_decides_56 (by decide) ?_
            exact rr_ret hx hb hr hlk (congrArg nI (by unfold dwN wdN dcN; repeat (first | omega | split))) d_M_decides_60
      · refine lv_iconst (v := nI 2) hx hb d_M_decides_41 (by decide) ?_
        refine lv_goto (tgt := 60) hx hb d_M_decides_42 (by decide) ?_
        exact rr_ret hx hb hr hlk (congrArg nI (by unfold dwN wdN dcN; repeat (first | omega | split))) d_M_decides_60
  · refine lv_iconst (v := nI 0) hx hb d_M_decides_28 (by decide) ?_
    refine lv_goto (tgt := 60) hx hb d_M_decides_29 (by decide) ?_
    exact rr_ret hx hb hr hlk (congrArg nI (by unfold dwN wdN dcN; repeat (first | omega | split))) d_M_decides_60
theorem k_M_way : rr_CK y_M_way b_M_way 5 (some .int) 1 := ⟨q_770, qs_M_way, q_7, q_771, by decide, by decide, by decide +kernel⟩
set_option maxHeartbeats 4000000 in
set_option maxRecDepth 100000 in
/-- the model: way -/
theorem c_M_way (l : Launch) (D : va_G) (cs : rr_C3) (a0 : Nat) (h9 : Nat) (v0 : Value) (v1 : Value) (v2 : Value) (v3 : Value) (v4 : Value) (v5 : Value) (v6 : Value) (v7 : Value) (v8 : Value) (v10 : Value) (v11 : Value) (v12 : Value) (v13 : Value) (v14 : Value) (v15 : Value) (v16 : Value) (v17 : Value) (v18 : Value) (v19 : Value) (v20 : Value) (v21 : Value) (v22 : Value) (cu : Nat → Nat) (k : Nat) (hk : k < 7) (hcu : ∀ j, j < 7 → cu j ≤ 1) : RO l y_M_way b_M_way 5 (some .int) 0 0 D cs [(a0, .inr (6, [v0, v1, v2, v3, v4, v5, v6, v7, v8, .ref h9, v10, v11, v12, v13, v14, v15, v16, v17, v18, v19, v20, v21, v22])), (h9, .inl (cs.1, 7, .inl (fun j => nI (cu j))))] [.ref a0, .int (nI k)] (fun r => r = mI (dlN cu k 7)) := by
  refine RO.of (by decide) (Nat.le_of_ble_eq_true rfl) ?_
  intro p e s m args below meth c S hr hlk hK hP ls hl
  obtain ⟨hx, hb, hml, hown, ht⟩ := id S
  have hl : lv_has ls 5 [(0, .ref a0), (1, .int (nI k))] := hl
  refine lv_iconst (v := (-1)) hx hb d_M_way_0 (by decide) ?_
  refine lv_istore_n (lv' := [(2, .int (-1)), (0, .ref a0), (1, .int (nI k))]) hx hb d_M_way_1 rfl hl (by decide) rfl (fun ls hl => ?_)
  refine lv_iconst (v := nI 0) hx hb d_M_way_2 (by decide) ?_
  refine lv_istore_n (lv' := [(3, .int (nI 0)), (2, .int (-1)), (0, .ref a0), (1, .int (nI k))]) hx hb d_M_way_3 rfl hl (by decide) rfl (fun ls hl => ?_)
  refine rr_loop (fun i => [(3, .int (nI i)), (2, .int (mI (dlN cu k i))), (0, .ref a0), (1, .int (nI k))]) (fun i => True) 0 7 (by omega) trivial (lv_sub hl [0, 1, 2, 3] rfl) (fun i ls hi_2 hI_3 hl ih_1 => ?_)
  have hl : lv_has ls 5 [(3, .int (nI i)), (2, .int (mI (dlN cu k i))), (0, .ref a0), (1, .int (nI k))] := hl
  refine lv_iload_n hx hb d_M_way_4 rfl (lv_at hl 0 rfl) ?_
  refine lv_bipush (v := nI 7) hx hb d_M_way_5 (by decide) ?_
  refine rr_icmp_ge (a := i) (b := 7) (tgt := 59) (by omega) (by omega) hx hb d_M_way_7 (by decide) (fun c7 => ?_) (fun c7 => ?_)
  · refine lv_iload_n hx hb d_M_way_59 rfl (lv_at hl 1 rfl) ?_
    exact rr_ret hx hb hr hlk (by rw [show i = 7 from by omega]) d_M_way_60
  · refine lv_iload_n hx hb d_M_way_10 rfl (lv_at hl 0 rfl) ?_
    refine lv_iload_n hx hb d_M_way_11 rfl (lv_at hl 3 rfl) ?_
    refine rr_icmp_le (a := i) (b := k) (tgt := 21) (by omega) (by omega) hx hb d_M_way_12 (by decide) (fun c12 => ?_) (fun c12 => ?_)
    · refine lv_iload_n hx hb d_M_way_21 rfl (lv_at hl 3 rfl) ?_
      refine lv_iload_n hx hb d_M_way_22 rfl (lv_at hl 0 rfl) ?_
      refine rr_isub (a := k) (b := i) (by omega) hx hb d_M_way_23 ?_
      refine rr_top (show (nI (k - i) : Int32) = nI (adf k i) from congrArg nI (by unfold adf; split <;> omega)) ?_
      have had9 : adf k i < 7 := adf_lt hk (by omega)
      have hac9 : dlN cu k i ≤ 7 := dlN_le hk i (by omega)
      have hcu9 := hcu i (by omega)
      refine lv_istore (lv' := [(4, .int (nI (adf k i))), (3, .int (nI i)), (2, .int (mI (dlN cu k i))), (0, .ref a0), (1, .int (nI k))]) hx hb d_M_way_24 hl (by decide) rfl (fun ls hl => ?_)
      refine lv_aload_n hx hb d_M_way_26 rfl (lv_at hl 3 rfl) ?_
      refine va_get (D := D) (ci := 6) (v := .ref h9) (C := R_M) (T := F_M) (N := 23) hx hb ht j_M hown hK.1 hP 0 rfl rfl 9 (by decide) (ht _ q_593) (fun _ h9 => h9) rfl d_M_way_27 ?_
      refine lv_iload_n hx hb d_M_way_30 rfl (lv_at hl 1 rfl) ?_
      refine rr_iald (q0 := 1) (n := 7) (f := (fun j => nI (cu j))) (k := i) hx hb hK hP rfl (by omega) (by omega) d_M_way_31 ?_
      refine rr_if_ne (a := (cu i)) (tgt := 51) (by omega) hx hb d_M_way_32 (by decide) (fun c32 => ?_) (fun c32 => ?_)
      · refine lv_iload_n hx hb d_M_way_51 rfl (lv_at hl 2 rfl) ?_
        refine lv_istore_n (lv' := [(2, .int (mI (dlN cu k i))), (4, .int (nI (adf k i))), (3, .int (nI i)), (0, .ref a0), (1, .int (nI k))]) hx hb d_M_way_52 rfl hl (by decide) rfl (fun ls hl => ?_)
        refine lv_iinc (v := nI (i + 1)) (lv' := [(3, .int (nI (i + 1))), (2, .int (mI (dlN cu k i))), (4, .int (nI (adf k i))), (0, .ref a0), (1, .int (nI k))]) hx hb d_M_way_53 hl (k := 2) rfl (nI_add i 1) (by decide) rfl (fun ls hl => ?_)
        refine lv_goto (tgt := 4) hx hb d_M_way_56 (by decide) ?_
        exact ih_1 ls (by omega) trivial (by show lv_has ls 5 [(3, .int (nI (i + 1))), (2, .int (mI (dlN cu k (i + 1)))), (0, .ref a0), (1, .int (nI k))]; rw [show (mI (dlN cu k (i + 1)) : Int32) = mI (dlN cu k i) from (by first | rw [dlN_f (by omega)] | rw [dlN_t (by omega), mgn_ge hz9 (by omega)])]; exact lv_sub hl [0, 1, 3, 4] rfl)
      · refine lv_iload_n hx hb d_M_way_35 rfl (lv_at hl 2 rfl) ?_
        refine lv_iconst (v := (-1)) hx hb d_M_way_36 (by decide) ?_
        refine lv_icmp_eq (tgt := 46) hx hb d_M_way_37 (by decide) (fun c37 => ?_) (fun c37 => ?_)
        · have hz9 : dlN cu k i = 0 := (mI_m1 (by omega)).mp c37
          refine lv_iload hx hb d_M_way_46 (lv_at hl 0 rfl) ?_
          refine lv_goto (tgt := 52) hx hb d_M_way_48 (by decide) ?_
          refine lv_istore_n (lv' := [(2, .int (nI (adf k i))), (4, .int (nI (adf k i))), (3, .int (nI i)), (0, .ref a0), (1, .int (nI k))]) hx hb d_M_way_52 rfl hl (by decide) rfl (fun ls hl => ?_)
          refine lv_iinc (v := nI (i + 1)) (lv' := [(3, .int (nI (i + 1))), (2, .int (nI (adf k i))), (4, .int (nI (adf k i))), (0, .ref a0), (1, .int (nI k))]) hx hb d_M_way_53 hl (k := 2) rfl (nI_add i 1) (by decide) rfl (fun ls hl => ?_)
          refine lv_goto (tgt := 4) hx hb d_M_way_56 (by decide) ?_
          exact ih_1 ls (by omega) trivial (by show lv_has ls 5 [(3, .int (nI (i + 1))), (2, .int (mI (dlN cu k (i + 1)))), (0, .ref a0), (1, .int (nI k))]; rw [show (mI (dlN cu k (i + 1)) : Int32) = nI (adf k i) from (by rw [dlN_t (by omega)]; first | rw [mgn_0 hz9] | rw [mgn_lt hz9 (by omega)])]; exact lv_sub hl [0, 1, 3, 4] rfl)
        · have hz9 : 0 < dlN cu k i := Nat.pos_of_ne_zero (fun z => c37 ((mI_m1 (by omega)).mpr z))
          refine lv_iload hx hb d_M_way_40 (lv_at hl 0 rfl) ?_
          refine lv_iload_n hx hb d_M_way_42 rfl (lv_at hl 2 rfl) ?_
          refine rr_top (show (mI (dlN cu k i) : Int32) = nI ((dlN cu k i) - 1) from mI_pos hz9) ?_
          refine rr_icmp_ge (a := (adf k i)) (b := ((dlN cu k i) - 1)) (tgt := 51) (by omega) (by omega) hx hb d_M_way_43 (by decide) (fun c43 => ?_) (fun c43 => ?_)
          · refine lv_iload_n hx hb d_M_way_51 rfl (lv_at hl 2 rfl) ?_
            refine lv_istore_n (lv' := [(2, .int (mI (dlN cu k i))), (4, .int (nI (adf k i))), (3, .int (nI i)), (0, .ref a0), (1, .int (nI k))]) hx hb d_M_way_52 rfl hl (by decide) rfl (fun ls hl => ?_)
            refine lv_iinc (v := nI (i + 1)) (lv' := [(3, .int (nI (i + 1))), (2, .int (mI (dlN cu k i))), (4, .int (nI (adf k i))), (0, .ref a0), (1, .int (nI k))]) hx hb d_M_way_53 hl (k := 2) rfl (nI_add i 1) (by decide) rfl (fun ls hl => ?_)
            refine lv_goto (tgt := 4) hx hb d_M_way_56 (by decide) ?_
            exact ih_1 ls (by omega) trivial (by show lv_has ls 5 [(3, .int (nI (i + 1))), (2, .int (mI (dlN cu k (i + 1)))), (0, .ref a0), (1, .int (nI k))]; rw [show (mI (dlN cu k (i + 1)) : Int32) = mI (dlN cu k i) from (by first | rw [dlN_f (by omega)] | rw [dlN_t (by omega), mgn_ge hz9 (by omega)])]; exact lv_sub hl [0, 1, 3, 4] rfl)
          · refine lv_iload hx hb d_M_way_46 (lv_at hl 0 rfl) ?_
            refine lv_goto (tgt := 52) hx hb d_M_way_48 (by decide) ?_
            refine lv_istore_n (lv' := [(2, .int (nI (adf k i))), (4, .int (nI (adf k i))), (3, .int (nI i)), (0, .ref a0), (1, .int (nI k))]) hx hb d_M_way_52 rfl hl (by decide) rfl (fun ls hl => ?_)
            refine lv_iinc (v := nI (i + 1)) (lv' := [(3, .int (nI (i + 1))), (2, .int (nI (adf k i))), (4, .int (nI (adf k i))), (0, .ref a0), (1, .int (nI k))]) hx hb d_M_way_53 hl (k := 2) rfl (nI_add i 1) (by decide) rfl (fun ls hl => ?_)
            refine lv_goto (tgt := 4) hx hb d_M_way_56 (by decide) ?_
            exact ih_1 ls (by omega) trivial (by show lv_has ls 5 [(3, .int (nI (i + 1))), (2, .int (mI (dlN cu k (i + 1)))), (0, .ref a0), (1, .int (nI k))]; rw [show (mI (dlN cu k (i + 1)) : Int32) = nI (adf k i) from (by rw [dlN_t (by omega)]; first | rw [mgn_0 hz9] | rw [mgn_lt hz9 (by omega)])]; exact lv_sub hl [0, 1, 3, 4] rfl)
    · refine lv_iload_n hx hb d_M_way_15 rfl (lv_at hl 0 rfl) ?_
      refine lv_iload_n hx hb d_M_way_16 rfl (lv_at hl 3 rfl) ?_
      refine rr_isub (a := i) (b := k) (by omega) hx hb d_M_way_17 ?_
      refine lv_goto (tgt := 24) hx hb d_M_way_18 (by decide) ?_
      refine rr_top (show (nI (i - k) : Int32) = nI (adf k i) from congrArg nI (by unfold adf; split <;> omega)) ?_
      have had9 : adf k i < 7 := adf_lt hk (by omega)
      have hac9 : dlN cu k i ≤ 7 := dlN_le hk i (by omega)
      have hcu9 := hcu i (by omega)
      refine lv_istore (lv' := [(4, .int (nI (adf k i))), (3, .int (nI i)), (2, .int (mI (dlN cu k i))), (0, .ref a0), (1, .int (nI k))]) hx hb d_M_way_24 hl (by decide) rfl (fun ls hl => ?_)
      refine lv_aload_n hx hb d_M_way_26 rfl (lv_at hl 3 rfl) ?_
      refine va_get (D := D) (ci := 6) (v := .ref h9) (C := R_M) (T := F_M) (N := 23) hx hb ht j_M hown hK.1 hP 0 rfl rfl 9 (by decide) (ht _ q_593) (fun _ h9 => h9) rfl d_M_way_27 ?_
      refine lv_iload_n hx hb d_M_way_30 rfl (lv_at hl 1 rfl) ?_
      refine rr_iald (q0 := 1) (n := 7) (f := (fun j => nI (cu j))) (k := i) hx hb hK hP rfl (by omega) (by omega) d_M_way_31 ?_
      refine rr_if_ne (a := (cu i)) (tgt := 51) (by omega) hx hb d_M_way_32 (by decide) (fun c32 => ?_) (fun c32 => ?_)
      · refine lv_iload_n hx hb d_M_way_51 rfl (lv_at hl 2 rfl) ?_
        refine lv_istore_n (lv' := [(2, .int (mI (dlN cu k i))), (4, .int (nI (adf k i))), (3, .int (nI i)), (0, .ref a0), (1, .int (nI k))]) hx hb d_M_way_52 rfl hl (by decide) rfl (fun ls hl => ?_)
        refine lv_iinc (v := nI (i + 1)) (lv' := [(3, .int (nI (i + 1))), (2, .int (mI (dlN cu k i))), (4, .int (nI (adf k i))), (0, .ref a0), (1, .int (nI k))]) hx hb d_M_way_53 hl (k := 2) rfl (nI_add i 1) (by decide) rfl (fun ls hl => ?_)
        refine lv_goto (tgt := 4) hx hb d_M_way_56 (by decide) ?_
        exact ih_1 ls (by omega) trivial (by show lv_has ls 5 [(3, .int (nI (i + 1))), (2, .int (mI (dlN cu k (i + 1)))), (0, .ref a0), (1, .int (nI k))]; rw [show (mI (dlN cu k (i + 1)) : Int32) = mI (dlN cu k i) from (by first | rw [dlN_f (by omega)] | rw [dlN_t (by omega), mgn_ge hz9 (by omega)])]; exact lv_sub hl [0, 1, 3, 4] rfl)
      · refine lv_iload_n hx hb d_M_way_35 rfl (lv_at hl 2 rfl) ?_
        refine lv_iconst (v := (-1)) hx hb d_M_way_36 (by decide) ?_
        refine lv_icmp_eq (tgt := 46) hx hb d_M_way_37 (by decide) (fun c37 => ?_) (fun c37 => ?_)
        · have hz9 : dlN cu k i = 0 := (mI_m1 (by omega)).mp c37
          refine lv_iload hx hb d_M_way_46 (lv_at hl 0 rfl) ?_
          refine lv_goto (tgt := 52) hx hb d_M_way_48 (by decide) ?_
          refine lv_istore_n (lv' := [(2, .int (nI (adf k i))), (4, .int (nI (adf k i))), (3, .int (nI i)), (0, .ref a0), (1, .int (nI k))]) hx hb d_M_way_52 rfl hl (by decide) rfl (fun ls hl => ?_)
          refine lv_iinc (v := nI (i + 1)) (lv' := [(3, .int (nI (i + 1))), (2, .int (nI (adf k i))), (4, .int (nI (adf k i))), (0, .ref a0), (1, .int (nI k))]) hx hb d_M_way_53 hl (k := 2) rfl (nI_add i 1) (by decide) rfl (fun ls hl => ?_)
          refine lv_goto (tgt := 4) hx hb d_M_way_56 (by decide) ?_
          exact ih_1 ls (by omega) trivial (by show lv_has ls 5 [(3, .int (nI (i + 1))), (2, .int (mI (dlN cu k (i + 1)))), (0, .ref a0), (1, .int (nI k))]; rw [show (mI (dlN cu k (i + 1)) : Int32) = nI (adf k i) from (by rw [dlN_t (by omega)]; first | rw [mgn_0 hz9] | rw [mgn_lt hz9 (by omega)])]; exact lv_sub hl [0, 1, 3, 4] rfl)
        · have hz9 : 0 < dlN cu k i := Nat.pos_of_ne_zero (fun z => c37 ((mI_m1 (by omega)).mpr z))
          refine lv_iload hx hb d_M_way_40 (lv_at hl 0 rfl) ?_
          refine lv_iload_n hx hb d_M_way_42 rfl (lv_at hl 2 rfl) ?_
          refine rr_top (show (mI (dlN cu k i) : Int32) = nI ((dlN cu k i) - 1) from mI_pos hz9) ?_
          refine rr_icmp_ge (a := (adf k i)) (b := ((dlN cu k i) - 1)) (tgt := 51) (by omega) (by omega) hx hb d_M_way_43 (by decide) (fun c43 => ?_) (fun c43 => ?_)
          · refine lv_iload_n hx hb d_M_way_51 rfl (lv_at hl 2 rfl) ?_
            refine lv_istore_n (lv' := [(2, .int (mI (dlN cu k i))), (4, .int (nI (adf k i))), (3, .int (nI i)), (0, .ref a0), (1, .int (nI k))]) hx hb d_M_way_52 rfl hl (by decide) rfl (fun ls hl => ?_)
            refine lv_iinc (v := nI (i + 1)) (lv' := [(3, .int (nI (i + 1))), (2, .int (mI (dlN cu k i))), (4, .int (nI (adf k i))), (0, .ref a0), (1, .int (nI k))]) hx hb d_M_way_53 hl (k := 2) rfl (nI_add i 1) (by decide) rfl (fun ls hl => ?_)
            refine lv_goto (tgt := 4) hx hb d_M_way_56 (by decide) ?_
            exact ih_1 ls (by omega) trivial (by show lv_has ls 5 [(3, .int (nI (i + 1))), (2, .int (mI (dlN cu k (i + 1)))), (0, .ref a0), (1, .int (nI k))]; rw [show (mI (dlN cu k (i + 1)) : Int32) = mI (dlN cu k i) from (by first | rw [dlN_f (by omega)] | rw [dlN_t (by omega), mgn_ge hz9 (by omega)])]; exact lv_sub hl [0, 1, 3, 4] rfl)
          · refine lv_iload hx hb d_M_way_46 (lv_at hl 0 rfl) ?_
            refine lv_goto (tgt := 52) hx hb d_M_way_48 (by decide) ?_
            refine lv_istore_n (lv' := [(2, .int (nI (adf k i))), (4, .int (nI (adf k i))), (3, .int (nI i)), (0, .ref a0), (1, .int (nI k))]) hx hb d_M_way_52 rfl hl (by decide) rfl (fun ls hl => ?_)
            refine lv_iinc (v := nI (i + 1)) (lv' := [(3, .int (nI (i + 1))), (2, .int (nI (adf k i))), (4, .int (nI (adf k i))), (0, .ref a0), (1, .int (nI k))]) hx hb d_M_way_53 hl (k := 2) rfl (nI_add i 1) (by decide) rfl (fun ls hl => ?_)
            refine lv_goto (tgt := 4) hx hb d_M_way_56 (by decide) ?_
            exact ih_1 ls (by omega) trivial (by show lv_has ls 5 [(3, .int (nI (i + 1))), (2, .int (mI (dlN cu k (i + 1)))), (0, .ref a0), (1, .int (nI k))]; rw [show (mI (dlN cu k (i + 1)) : Int32) = nI (adf k i) from (by rw [dlN_t (by omega)]; first | rw [mgn_0 hz9] | rw [mgn_lt hz9 (by omega)])]; exact lv_sub hl [0, 1, 3, 4] rfl)
theorem k_M_refundOf : rr_CK y_M_refundOf b_M_refundOf 4 (some .int) 1 := ⟨q_817, qs_M_refundOf, q_7, q_818, by decide, by decide, by decide +kernel⟩
set_option maxHeartbeats 4000000 in
set_option maxRecDepth 100000 in
/-- the model: refundOf -/
theorem c_M_refundOf (l : Launch) (D : va_G) (cs : rr_C3) (a0 : Nat) (h17 : Nat) (h18 : Nat) (h21 : Nat) (v0 : Value) (v1 : Value) (v2 : Value) (v3 : Value) (v4 : Value) (v5 : Value) (v6 : Value) (v7 : Value) (v8 : Value) (v9 : Value) (v10 : Value) (v11 : Value) (v12 : Value) (v13 : Value) (v14 : Value) (v15 : Value) (v16 : Value) (v19 : Value) (v20 : Value) (v22 : Value) (tp : Nat → Nat) (tf : Nat → Nat) (th : Nat → Nat) (k : Nat) (hk : k < 60) (htf : tf k ≤ 1000) (htp : tp k ≤ 8) (hth : th k ≤ 1000) : RO l y_M_refundOf b_M_refundOf 4 (some .int) 0 0 D cs [(a0, .inr (6, [v0, v1, v2, v3, v4, v5, v6, v7, v8, v9, v10, v11, v12, v13, v14, v15, v16, .ref h17, .ref h18, v19, v20, .ref h21, v22])), (h17, .inl (cs.1, 60, .inl (fun j => nI (tp j)))), (h18, .inl (cs.1, 60, .inl (fun j => nI (tf j)))), (h21, .inl (cs.1, 60, .inl (fun j => nI (th j))))] [.ref a0, .int (nI k)] (fun r => r = nI (rfN (tf k * tp k) (th k))) := by
  refine RO.of (by decide) (Nat.le_of_ble_eq_true rfl) ?_
  intro p e s m args below meth c S hr hlk hK hP ls hl
  obtain ⟨hx, hb, hml, hown, ht⟩ := id S
  have hl : lv_has ls 4 [(0, .ref a0), (1, .int (nI k))] := hl
  have hw9 : tp k * tf k ≤ 8 * 1000 := Nat.mul_le_mul htp htf
  have hy9 : tp k * tf k * (th k - 5) ≤ 8000 * 1000 := Nat.mul_le_mul hw9 (by omega)
  refine lv_aload_n hx hb d_M_refundOf_0 rfl (lv_at hl 0 rfl) ?_
  refine va_get (D := D) (ci := 6) (v := .ref h17) (C := R_M) (T := F_M) (N := 23) hx hb ht j_M hown hK.1 hP 0 rfl rfl 17 (by decide) (ht _ q_601) (fun _ h9 => h9) rfl d_M_refundOf_1 ?_
  refine lv_iload_n hx hb d_M_refundOf_4 rfl (lv_at hl 1 rfl) ?_
  refine rr_iald (q0 := 1) (n := 60) (f := (fun j => nI (tp j))) (k := k) hx hb hK hP rfl (by omega) (by omega) d_M_refundOf_5 ?_
  refine lv_aload_n hx hb d_M_refundOf_6 rfl (lv_at hl 0 rfl) ?_
  refine va_get (D := D) (ci := 6) (v := .ref h18) (C := R_M) (T := F_M) (N := 23) hx hb ht j_M hown hK.1 hP 0 rfl rfl 18 (by decide) (ht _ q_602) (fun _ h9 => h9) rfl d_M_refundOf_7 ?_
  refine lv_iload_n hx hb d_M_refundOf_10 rfl (lv_at hl 1 rfl) ?_
  refine rr_iald (q0 := 2) (n := 60) (f := (fun j => nI (tf j))) (k := k) hx hb hK hP rfl (by omega) (by omega) d_M_refundOf_11 ?_
  refine rr_imul (a := (tp k)) (b := (tf k)) hx hb d_M_refundOf_12 ?_
  refine lv_istore_n (lv' := [(2, .int (nI ((tp k) * (tf k)))), (0, .ref a0), (1, .int (nI k))]) hx hb d_M_refundOf_13 rfl hl (by decide) rfl (fun ls hl => ?_)
  refine lv_aload_n hx hb d_M_refundOf_14 rfl (lv_at hl 1 rfl) ?_
  refine va_get (D := D) (ci := 6) (v := .ref h21) (C := R_M) (T := F_M) (N := 23) hx hb ht j_M hown hK.1 hP 0 rfl rfl 21 (by decide) (ht _ q_605) (fun _ h9 => h9) rfl d_M_refundOf_15 ?_
  refine lv_iload_n hx hb d_M_refundOf_18 rfl (lv_at hl 2 rfl) ?_
  refine rr_iald (q0 := 3) (n := 60) (f := (fun j => nI (th j))) (k := k) hx hb hK hP rfl (by omega) (by omega) d_M_refundOf_19 ?_
  refine lv_iconst (v := nI 5) hx hb d_M_refundOf_20 (by decide) ?_
  refine rr_icmp_le (a := (th k)) (b := 5) (tgt := 40) (by omega) (by omega) hx hb d_M_refundOf_21 (by decide) (fun c21 => ?_) (fun c21 => ?_)
  · refine lv_iconst (v := nI 0) hx hb d_M_refundOf_40 (by decide) ?_
    refine lv_istore_n (lv' := [(3, .int (nI 0)), (2, .int (nI ((tp k) * (tf k)))), (0, .ref a0), (1, .int (nI k))]) hx hb d_M_refundOf_41 rfl hl (by decide) rfl (fun ls hl => ?_)
    refine lv_iload_n hx hb d_M_refundOf_42 rfl (lv_at hl 0 rfl) ?_
    refine lv_iload_n hx hb d_M_refundOf_43 rfl (lv_at hl 1 rfl) ?_
    refine rr_icmp_ge (a := 0) (b := ((tp k) * (tf k))) (tgt := 51) (by omega) (by omega) hx hb d_M_refundOf_44 (by decide) (fun c44 => ?_) (fun c44 => ?_)
    · refine lv_iload_n hx hb d_M_refundOf_51 rfl (lv_at hl 1 rfl) ?_
      exact rr_ret hx hb hr hlk (congrArg nI (by rw [rf_comm]; unfold rfN; first | omega | (rw [show th k - 5 = 0 from by omega, Nat.mul_zero]; omega))) d_M_refundOf_52
    · refine lv_iload_n hx hb d_M_refundOf_47 rfl (lv_at hl 0 rfl) ?_
      refine lv_goto (tgt := 52) hx hb d_M_refundOf_48 (by decide) ?_
      exact rr_ret hx hb hr hlk (congrArg nI (by rw [rf_comm]; unfold rfN; first | omega | (rw [show th k - 5 = 0 from by omega, Nat.mul_zero]; omega))) d_M_refundOf_52
  · refine lv_iload_n hx hb d_M_refundOf_24 rfl (lv_at hl 0 rfl) ?_
    refine lv_aload_n hx hb d_M_refundOf_25 rfl (lv_at hl 1 rfl) ?_
    refine va_get (D := D) (ci := 6) (v := .ref h21) (C := R_M) (T := F_M) (N := 23) hx hb ht j_M hown hK.1 hP 0 rfl rfl 21 (by decide) (ht _ q_605) (fun _ h9 => h9) rfl d_M_refundOf_26 ?_
    refine lv_iload_n hx hb d_M_refundOf_29 rfl (lv_at hl 2 rfl) ?_
    refine rr_iald (q0 := 3) (n := 60) (f := (fun j => nI (th j))) (k := k) hx hb hK hP rfl (by omega) (by omega) d_M_refundOf_30 ?_
    refine lv_iconst (v := nI 5) hx hb d_M_refundOf_31 (by decide) ?_
    refine rr_isub (a := (th k)) (b := 5) (by omega) hx hb d_M_refundOf_32 ?_
    refine rr_imul (a := ((tp k) * (tf k))) (b := ((th k) - 5)) hx hb d_M_refundOf_33 ?_
    refine lv_bipush (v := nI 10) hx hb d_M_refundOf_34 (by decide) ?_
    refine rr_idiv (a := (((tp k) * (tf k)) * ((th k) - 5))) (b := 10) (by omega) (by omega) (by omega) hx hb d_M_refundOf_36 ?_
    refine lv_goto (tgt := 41) hx hb d_M_refundOf_37 (by decide) ?_
    refine lv_istore_n (lv' := [(3, .int (nI ((((tp k) * (tf k)) * ((th k) - 5)) / 10))), (2, .int (nI ((tp k) * (tf k)))), (0, .ref a0), (1, .int (nI k))]) hx hb d_M_refundOf_41 rfl hl (by decide) rfl (fun ls hl => ?_)
    refine lv_iload_n hx hb d_M_refundOf_42 rfl (lv_at hl 0 rfl) ?_
    refine lv_iload_n hx hb d_M_refundOf_43 rfl (lv_at hl 1 rfl) ?_
    refine rr_icmp_ge (a := ((((tp k) * (tf k)) * ((th k) - 5)) / 10)) (b := ((tp k) * (tf k))) (tgt := 51) (by omega) (by omega) hx hb d_M_refundOf_44 (by decide) (fun c44 => ?_) (fun c44 => ?_)
    · refine lv_iload_n hx hb d_M_refundOf_51 rfl (lv_at hl 1 rfl) ?_
      exact rr_ret hx hb hr hlk (congrArg nI (by rw [rf_comm]; unfold rfN; first | omega | (rw [show th k - 5 = 0 from by omega, Nat.mul_zero]; omega))) d_M_refundOf_52
    · refine lv_iload_n hx hb d_M_refundOf_47 rfl (lv_at hl 0 rfl) ?_
      refine lv_goto (tgt := 52) hx hb d_M_refundOf_48 (by decide) ?_
      exact rr_ret hx hb hr hlk (congrArg nI (by rw [rf_comm]; unfold rfN; first | omega | (rw [show th k - 5 = 0 from by omega, Nat.mul_zero]; omega))) d_M_refundOf_52
theorem k_M_isTicket : rr_CK y_M_isTicket b_M_isTicket 2 (some .boolean) 1 := ⟨q_805, qs_M_isTicket, q_7, q_806, by decide, by decide, by decide +kernel⟩
set_option maxHeartbeats 4000000 in
set_option maxRecDepth 100000 in
/-- the model: isTicket -/
theorem c_M_isTicket (l : Launch) (D : va_G) (cs : rr_C3) (a0 : Nat) (v0 : Value) (v1 : Value) (v2 : Value) (v3 : Value) (v4 : Value) (v5 : Value) (v6 : Value) (v7 : Value) (v8 : Value) (v9 : Value) (v10 : Value) (v11 : Value) (v12 : Value) (v13 : Value) (v14 : Value) (v16 : Value) (v17 : Value) (v18 : Value) (v19 : Value) (v20 : Value) (v21 : Value) (n9 : Nat) (t9 : Nat) (x : Int32) (hn : n9 ≤ 60) (sz : Nat) : MI l y_M_isTicket b_M_isTicket 2 (some .boolean) 1 22 0 0 D cs [(a0, .inr (6, [v0, v1, v2, v3, v4, v5, v6, v7, v8, v9, v10, v11, v12, v13, v14, .int (nI n9), v16, v17, v18, v19, v20, v21, .int (nI t9)]))] sz [.ref a0, .int x] (fun (r : Int32) (_ : Unit) => r = nI (bq (ix 60 x < n9))) (fun _ : Unit => [(a0, .inr (6, [v0, v1, v2, v3, v4, v5, v6, v7, v8, v9, v10, v11, v12, v13, v14, .int (nI n9), v16, v17, v18, v19, v20, v21, .int (nI (tkT n9 x))]))]) := by
  refine MI.of (by decide) (Nat.le_of_ble_eq_true rfl) ?_
  intro p e s m args below meth c A S hr hlk hnm hK hP hD hA hS ls hl
  obtain ⟨hx, hb, hml, hown, ht⟩ := id S
  have hl : lv_has ls 2 [(0, .ref a0), (1, .int x)] := hl
  have hS : va_S A s.heap s.heap [] := hS
  refine lv_aload_n hx hb d_M_isTicket_0 rfl (lv_at hl 0 rfl) ?_
  refine lv_iload_n hx hb d_M_isTicket_1 rfl (lv_at hl 1 rfl) ?_
  refine lv_iconst (v := nI 0) hx hb d_M_isTicket_2 (by decide) ?_
  refine lv_aload_n hx hb d_M_isTicket_3 rfl (lv_at hl 0 rfl) ?_
  refine va_get (D := D) (ci := 6) (v := .int (nI n9)) (C := R_M) (T := F_M) (N := 23) hx hb ht j_M hown hK.1 hP 0 rfl rfl 15 (by decide) (ht _ q_599) (fun _ h9 => h9) rfl d_M_isTicket_4 ?_
  refine lv_iconst (v := nI 1) hx hb d_M_isTicket_7 (by decide) ?_
  refine lv_isub hx hb d_M_isTicket_8 ?_
  refine rr_rS (As := [.int x, .int (nI 0), .int ((nI n9) - (nI 1))]) (rest := [.ref a0]) (idx := 68) S hK (c_M_in l D cs x (nI 0) ((nI n9) - (nI 1)) ) k_M_in q_677 ⟨Nat.le_of_ble_eq_true rfl, Nat.le_of_ble_eq_true rfl⟩ ⟨Nat.le_of_ble_eq_true rfl, Nat.le_of_ble_eq_true rfl⟩ hl (Nat.le_of_ble_eq_true rfl) rfl d_M_isTicket_9 (fun r9 hr9 => ?_)
  subst hr9
  refine rr_bq_eq (tgt := 19) hx hb d_M_isTicket_12 (by decide) (fun c12 => ?_) (fun c12 => ?_)
  · have hq : ¬ ix 60 x < n9 := fun z => c12 ((ix_in1 (k := 60) (by decide) hn).mpr z)
    refine lv_iconst (v := nI 1) hx hb d_M_isTicket_19 (by decide) ?_
    refine va_put (D := D) (ci := 6) (v := .int (nI 1)) (ty := .int) (C := R_M) (T := F_M) (N := 23) hx hb ht j_M t_M t_M_ok n_M hown hK.1 hP hD hS 0 rfl rfl 22 (by decide) (ht _ q_606) (fun _ h9 => h9) rfl (by decide +kernel) rfl rfl (Nat.le_of_ble_eq_true rfl) d_M_isTicket_20 (fun H locs hP hD hS => ?_)
    have hP : va_P D classes [(a0, .inr (6, [v0, v1, v2, v3, v4, v5, v6, v7, v8, v9, v10, v11, v12, v13, v14, .int (nI n9), v16, v17, v18, v19, v20, v21, .int (nI 1)]))] H := hP
    have hD : va_D A [(a0, .inr (6, [v0, v1, v2, v3, v4, v5, v6, v7, v8, v9, v10, v11, v12, v13, v14, .int (nI n9), v16, v17, v18, v19, v20, v21, .int (nI 1)]))] := hD
    refine lv_aload_n hx hb d_M_isTicket_23 rfl (lv_at hl 0 rfl) ?_
    refine va_get (D := D) (ci := 6) (v := .int (nI 1)) (C := R_M) (T := F_M) (N := 23) hx hb ht j_M hown hK.1 hP 0 rfl rfl 22 (by decide) (ht _ q_606) (fun _ h9 => h9) rfl d_M_isTicket_24 ?_
    refine rr_if_ne (a := 1) (tgt := 34) (by omega) hx hb d_M_isTicket_27 (by decide) (fun c27 => ?_) (fun c27 => ?_)
    · refine lv_iconst (v := nI 0) hx hb d_M_isTicket_34 (by decide) ?_
      have hPD : va_P D classes [(a0, .inr (6, [v0, v1, v2, v3, v4, v5, v6, v7, v8, v9, v10, v11, v12, v13, v14, .int (nI n9), v16, v17, v18, v19, v20, v21, .int (nI (tkT n9 x))]))] H ∧ va_D A [(a0, .inr (6, [v0, v1, v2, v3, v4, v5, v6, v7, v8, v9, v10, v11, v12, v13, v14, .int (nI n9), v16, v17, v18, v19, v20, v21, .int (nI (tkT n9 x))]))] := by rw [show tkT n9 x = 1 from by unfold tkT; first | exact if_pos hq | exact if_neg hq]; exact ⟨hP, hD⟩
      exact rr_mretZ (v := 0) (by first | exact bq_le _ | omega) () hx hb hr hlk hPD.1 hPD.2 hS (congrArg nI (bq_f (by omega)).symm) d_M_isTicket_35
    · exact (by omega : False).elim
  · have hq := (ix_in1 (k := 60) (by decide) hn).mp c12
    refine lv_iconst (v := nI 0) hx hb d_M_isTicket_15 (by decide) ?_
    refine lv_goto (tgt := 20) hx hb d_M_isTicket_16 (by decide) ?_
    refine va_put (D := D) (ci := 6) (v := .int (nI 0)) (ty := .int) (C := R_M) (T := F_M) (N := 23) hx hb ht j_M t_M t_M_ok n_M hown hK.1 hP hD hS 0 rfl rfl 22 (by decide) (ht _ q_606) (fun _ h9 => h9) rfl (by decide +kernel) rfl rfl (Nat.le_of_ble_eq_true rfl) d_M_isTicket_20 (fun H locs hP hD hS => ?_)
    have hP : va_P D classes [(a0, .inr (6, [v0, v1, v2, v3, v4, v5, v6, v7, v8, v9, v10, v11, v12, v13, v14, .int (nI n9), v16, v17, v18, v19, v20, v21, .int (nI 0)]))] H := hP
    have hD : va_D A [(a0, .inr (6, [v0, v1, v2, v3, v4, v5, v6, v7, v8, v9, v10, v11, v12, v13, v14, .int (nI n9), v16, v17, v18, v19, v20, v21, .int (nI 0)]))] := hD
    refine lv_aload_n hx hb d_M_isTicket_23 rfl (lv_at hl 0 rfl) ?_
    refine va_get (D := D) (ci := 6) (v := .int (nI 0)) (C := R_M) (T := F_M) (N := 23) hx hb ht j_M hown hK.1 hP 0 rfl rfl 22 (by decide) (ht _ q_606) (fun _ h9 => h9) rfl d_M_isTicket_24 ?_
    refine rr_if_ne (a := 0) (tgt := 34) (by omega) hx hb d_M_isTicket_27 (by decide) (fun c27 => ?_) (fun c27 => ?_)
    · exact (by omega : False).elim
    · refine lv_iconst (v := nI 1) hx hb d_M_isTicket_30 (by decide) ?_
      refine lv_goto (tgt := 35) hx hb d_M_isTicket_31 (by decide) ?_
      have hPD : va_P D classes [(a0, .inr (6, [v0, v1, v2, v3, v4, v5, v6, v7, v8, v9, v10, v11, v12, v13, v14, .int (nI n9), v16, v17, v18, v19, v20, v21, .int (nI (tkT n9 x))]))] H ∧ va_D A [(a0, .inr (6, [v0, v1, v2, v3, v4, v5, v6, v7, v8, v9, v10, v11, v12, v13, v14, .int (nI n9), v16, v17, v18, v19, v20, v21, .int (nI (tkT n9 x))]))] := by rw [show tkT n9 x = 0 from by unfold tkT; first | exact if_pos hq | exact if_neg hq]; exact ⟨hP, hD⟩
      exact rr_mretZ (v := 1) (by first | exact bq_le _ | omega) () hx hb hr hlk hPD.1 hPD.2 hS (congrArg nI (bq_t (by omega)).symm) d_M_isTicket_35
theorem k_M_votesAll : rr_CK y_M_votesAll b_M_votesAll 3 none 0 := ⟨q_766, qs_M_votesAll, q_7, q_767, by decide, by decide, by decide +kernel⟩
set_option maxHeartbeats 4000000 in
set_option maxRecDepth 100000 in
/-- the model: votesAll -/
theorem c_M_votesAll (l : Launch) (D : va_G) (cs : rr_C3) (a0 : Nat) (h6 : Nat) (h7 : Nat) (h8 : Nat) (h9 : Nat) (h10 : Nat) (h11 : Nat) (h12 : Nat) (h13 : Nat) (v1 : Value) (v2 : Value) (v3 : Value) (v4 : Value) (v5 : Value) (v14 : Value) (v15 : Value) (v16 : Value) (v17 : Value) (v18 : Value) (v19 : Value) (v20 : Value) (v21 : Value) (v22 : Value) (T : Nat) (wi : Nat → Nat) (sl : Nat → Nat) (su : Nat → Nat) (cu : Nat → Nat) (cm : Nat → Nat) (bo : Nat → Nat) (vt : Nat → Nat) (vv : Nat → Nat) (hT : T ≤ 1000) (hwb : ∀ j, j < 7 → wi j ≤ 150 ∧ sl j ≤ 150 ∧ su j ≤ 150) (hcu : ∀ j, j < 7 → cu j ≤ 1) (hcm : ∀ j, j < 56 → mk8 T cm (cmF T cu) 7 j ≤ 2000) (hvt : ∀ j, j < 7 → vt j ≤ T) (sz : Nat) : MV l y_M_votesAll b_M_votesAll 3 1 24 0 0 D cs [(a0, .inr (6, [.int (nI T), v1, v2, v3, v4, v5, .ref h6, .ref h7, .ref h8, .ref h9, .ref h10, .ref h11, .ref h12, .ref h13, v14, v15, v16, v17, v18, v19, v20, v21, v22])), (h6, .inl (cs.1, 7, .inl (fun j => nI (wi j)))), (h7, .inl (cs.1, 7, .inl (fun j => nI (sl j)))), (h8, .inl (cs.1, 7, .inl (fun j => nI (su j)))), (h9, .inl (cs.1, 7, .inl (fun j => nI (cu j)))), (h10, .inl (cs.1, 56, .inl (fun j => nI (cm j)))), (h11, .inl (cs.1, 56, .inl (fun j => nI (bo j)))), (h12, .inl (cs.1, 7, .inl (fun j => nI (vt j)))), (h13, .inl (cs.1, 7, .inl (fun j => nI (vv j))))] sz [.ref a0] (fun (_ : Unit) => True) (fun _ : Unit => [(a0, .inr (6, [.int (nI T), v1, v2, v3, v4, v5, .ref h6, .ref h7, .ref h8, .ref h9, .ref h10, .ref h11, .ref h12, .ref h13, v14, v15, v16, v17, v18, v19, v20, v21, v22])), (h6, .inl (cs.1, 7, .inl (fun j => nI (wi j)))), (h7, .inl (cs.1, 7, .inl (fun j => nI (sl j)))), (h8, .inl (cs.1, 7, .inl (fun j => nI (su j)))), (h9, .inl (cs.1, 7, .inl (fun j => nI (cu j)))), (h10, .inl (cs.1, 56, .inl (fun j => nI ((mk8 T cm (cmF T cu) 7) j)))), (h11, .inl (cs.1, 56, .inl (fun j => nI ((mk8 T bo (vnN wi sl su) 7) j)))), (h12, .inl (cs.1, 7, .inl (fun j => nI ((dmt T (r8 T (mk8 T cm (cmF T cu) 7)) (r8 T (mk8 T bo (vnN wi sl su) 7)) vt vv 7 0) j)))), (h13, .inl (cs.1, 7, .inl (fun j => nI ((dmx T (r8 T (mk8 T cm (cmF T cu) 7)) (r8 T (mk8 T bo (vnN wi sl su) 7)) vt vv 7 0) j))))]) := by
  refine MV.of (by decide) (Nat.le_of_ble_eq_true rfl) ?_
  intro p e s m args below meth c A S hr hlk hnm hK hP hD hA hS ls hl
  obtain ⟨hx, hb, hml, hown, ht⟩ := id S
  have hl : lv_has ls 3 [(0, .ref a0)] := hl
  have hS : va_S A s.heap s.heap [] := hS
  refine lv_iconst (v := nI 0) hx hb d_M_votesAll_0 (by decide) ?_
  refine lv_istore_n (lv' := [(1, .int (nI 0)), (0, .ref a0)]) hx hb d_M_votesAll_1 rfl hl (by decide) rfl (fun ls hl => ?_)
  have hPD : va_P D classes [(a0, .inr (6, [.int (nI T), v1, v2, v3, v4, v5, .ref h6, .ref h7, .ref h8, .ref h9, .ref h10, .ref h11, .ref h12, .ref h13, v14, v15, v16, v17, v18, v19, v20, v21, v22])), (h6, .inl (cs.1, 7, .inl (fun j => nI (wi j)))), (h7, .inl (cs.1, 7, .inl (fun j => nI (sl j)))), (h8, .inl (cs.1, 7, .inl (fun j => nI (su j)))), (h9, .inl (cs.1, 7, .inl (fun j => nI (cu j)))), (h10, .inl (cs.1, 56, .inl (fun j => nI ((mk8 T cm (cmF T cu) 0) j)))), (h11, .inl (cs.1, 56, .inl (fun j => nI ((mk8 T bo (vnN wi sl su) 0) j)))), (h12, .inl (cs.1, 7, .inl (fun j => nI (vt j)))), (h13, .inl (cs.1, 7, .inl (fun j => nI (vv j))))] s.heap ∧ va_D A [(a0, .inr (6, [.int (nI T), v1, v2, v3, v4, v5, .ref h6, .ref h7, .ref h8, .ref h9, .ref h10, .ref h11, .ref h12, .ref h13, v14, v15, v16, v17, v18, v19, v20, v21, v22])), (h6, .inl (cs.1, 7, .inl (fun j => nI (wi j)))), (h7, .inl (cs.1, 7, .inl (fun j => nI (sl j)))), (h8, .inl (cs.1, 7, .inl (fun j => nI (su j)))), (h9, .inl (cs.1, 7, .inl (fun j => nI (cu j)))), (h10, .inl (cs.1, 56, .inl (fun j => nI ((mk8 T cm (cmF T cu) 0) j)))), (h11, .inl (cs.1, 56, .inl (fun j => nI ((mk8 T bo (vnN wi sl su) 0) j)))), (h12, .inl (cs.1, 7, .inl (fun j => nI (vt j)))), (h13, .inl (cs.1, 7, .inl (fun j => nI (vv j))))] := by rw [mk8_0, mk8_0]; exact ⟨hP, hD⟩
  refine rr_loopM (fun i => [(1, .int (nI i)), (0, .ref a0)]) (fun i => True) (fun i => [(a0, .inr (6, [.int (nI T), v1, v2, v3, v4, v5, .ref h6, .ref h7, .ref h8, .ref h9, .ref h10, .ref h11, .ref h12, .ref h13, v14, v15, v16, v17, v18, v19, v20, v21, v22])), (h6, .inl (cs.1, 7, .inl (fun j => nI (wi j)))), (h7, .inl (cs.1, 7, .inl (fun j => nI (sl j)))), (h8, .inl (cs.1, 7, .inl (fun j => nI (su j)))), (h9, .inl (cs.1, 7, .inl (fun j => nI (cu j)))), (h10, .inl (cs.1, 56, .inl (fun j => nI ((mk8 T cm (cmF T cu) i) j)))), (h11, .inl (cs.1, 56, .inl (fun j => nI ((mk8 T bo (vnN wi sl su) i) j)))), (h12, .inl (cs.1, 7, .inl (fun j => nI (vt j)))), (h13, .inl (cs.1, 7, .inl (fun j => nI (vv j))))]) 0 7 (by omega) trivial (lv_sub hl [0, 1] rfl) hPD.1 hPD.2 hS (fun i ls H locs hi_2 hI_3 hl hP hD hS ih_1 => ?_)
  have hP : va_P D classes [(a0, .inr (6, [.int (nI T), v1, v2, v3, v4, v5, .ref h6, .ref h7, .ref h8, .ref h9, .ref h10, .ref h11, .ref h12, .ref h13, v14, v15, v16, v17, v18, v19, v20, v21, v22])), (h6, .inl (cs.1, 7, .inl (fun j => nI (wi j)))), (h7, .inl (cs.1, 7, .inl (fun j => nI (sl j)))), (h8, .inl (cs.1, 7, .inl (fun j => nI (su j)))), (h9, .inl (cs.1, 7, .inl (fun j => nI (cu j)))), (h10, .inl (cs.1, 56, .inl (fun j => nI ((mk8 T cm (cmF T cu) i) j)))), (h11, .inl (cs.1, 56, .inl (fun j => nI ((mk8 T bo (vnN wi sl su) i) j)))), (h12, .inl (cs.1, 7, .inl (fun j => nI (vt j)))), (h13, .inl (cs.1, 7, .inl (fun j => nI (vv j))))] H := hP
  have hD : va_D A [(a0, .inr (6, [.int (nI T), v1, v2, v3, v4, v5, .ref h6, .ref h7, .ref h8, .ref h9, .ref h10, .ref h11, .ref h12, .ref h13, v14, v15, v16, v17, v18, v19, v20, v21, v22])), (h6, .inl (cs.1, 7, .inl (fun j => nI (wi j)))), (h7, .inl (cs.1, 7, .inl (fun j => nI (sl j)))), (h8, .inl (cs.1, 7, .inl (fun j => nI (su j)))), (h9, .inl (cs.1, 7, .inl (fun j => nI (cu j)))), (h10, .inl (cs.1, 56, .inl (fun j => nI ((mk8 T cm (cmF T cu) i) j)))), (h11, .inl (cs.1, 56, .inl (fun j => nI ((mk8 T bo (vnN wi sl su) i) j)))), (h12, .inl (cs.1, 7, .inl (fun j => nI (vt j)))), (h13, .inl (cs.1, 7, .inl (fun j => nI (vv j))))] := hD
  have hl : lv_has ls 3 [(1, .int (nI i)), (0, .ref a0)] := hl
  refine lv_iload_n hx hb d_M_votesAll_2 rfl (lv_at hl 0 rfl) ?_
  refine lv_bipush (v := nI 7) hx hb d_M_votesAll_3 (by decide) ?_
  refine rr_icmp_ge (a := i) (b := 7) (tgt := 74) (by omega) (by omega) hx hb d_M_votesAll_5 (by decide) (fun c5 => ?_) (fun c5 => ?_)
  · have hi7 : i = 7 := by omega
    subst hi7
    have hP : va_P D classes [(a0, .inr (6, [.int (nI T), v1, v2, v3, v4, v5, .ref h6, .ref h7, .ref h8, .ref h9, .ref h10, .ref h11, .ref h12, .ref h13, v14, v15, v16, v17, v18, v19, v20, v21, v22])), (h6, .inl (cs.1, 7, .inl (fun j => nI (wi j)))), (h7, .inl (cs.1, 7, .inl (fun j => nI (sl j)))), (h8, .inl (cs.1, 7, .inl (fun j => nI (su j)))), (h9, .inl (cs.1, 7, .inl (fun j => nI (cu j)))), (h10, .inl (cs.1, 56, .inl (fun j => nI ((mk8 T cm (cmF T cu) 7) j)))), (h11, .inl (cs.1, 56, .inl (fun j => nI ((mk8 T bo (vnN wi sl su) 7) j)))), (h12, .inl (cs.1, 7, .inl (fun j => nI (vt j)))), (h13, .inl (cs.1, 7, .inl (fun j => nI (vv j))))] H := hP
    have hD : va_D A [(a0, .inr (6, [.int (nI T), v1, v2, v3, v4, v5, .ref h6, .ref h7, .ref h8, .ref h9, .ref h10, .ref h11, .ref h12, .ref h13, v14, v15, v16, v17, v18, v19, v20, v21, v22])), (h6, .inl (cs.1, 7, .inl (fun j => nI (wi j)))), (h7, .inl (cs.1, 7, .inl (fun j => nI (sl j)))), (h8, .inl (cs.1, 7, .inl (fun j => nI (su j)))), (h9, .inl (cs.1, 7, .inl (fun j => nI (cu j)))), (h10, .inl (cs.1, 56, .inl (fun j => nI ((mk8 T cm (cmF T cu) 7) j)))), (h11, .inl (cs.1, 56, .inl (fun j => nI ((mk8 T bo (vnN wi sl su) 7) j)))), (h12, .inl (cs.1, 7, .inl (fun j => nI (vt j)))), (h13, .inl (cs.1, 7, .inl (fun j => nI (vv j))))] := hD
    have hl := lv_sub hl [1] rfl
    have hl : lv_has ls 3 [(0, .ref a0)] := hl
    refine lv_aload_n hx hb d_M_votesAll_74 rfl (lv_at hl 0 rfl) ?_
    refine va_get (D := D) (ci := 6) (v := .int (nI T)) (C := R_M) (T := F_M) (N := 23) hx hb ht j_M hown hK.1 hP 0 rfl rfl 0 (by decide) (ht _ q_584) (fun _ h9 => h9) rfl d_M_votesAll_75 ?_
    refine lv_bipush (v := nI 6) hx hb d_M_votesAll_78 (by decide) ?_
    refine lv_isub hx hb d_M_votesAll_80 ?_
    refine lv_istore_n (lv' := [(1, .int ((nI T) - (nI 6))), (0, .ref a0)]) hx hb d_M_votesAll_81 rfl hl (by decide) rfl (fun ls hl => ?_)
    have hPD : va_P D classes [(a0, .inr (6, [.int (nI T), v1, v2, v3, v4, v5, .ref h6, .ref h7, .ref h8, .ref h9, .ref h10, .ref h11, .ref h12, .ref h13, v14, v15, v16, v17, v18, v19, v20, v21, v22])), (h6, .inl (cs.1, 7, .inl (fun j => nI (wi j)))), (h7, .inl (cs.1, 7, .inl (fun j => nI (sl j)))), (h8, .inl (cs.1, 7, .inl (fun j => nI (su j)))), (h9, .inl (cs.1, 7, .inl (fun j => nI (cu j)))), (h10, .inl (cs.1, 56, .inl (fun j => nI ((mk8 T cm (cmF T cu) 7) j)))), (h11, .inl (cs.1, 56, .inl (fun j => nI ((mk8 T bo (vnN wi sl su) 7) j)))), (h12, .inl (cs.1, 7, .inl (fun j => nI ((dmt T (r8 T (mk8 T cm (cmF T cu) 7)) (r8 T (mk8 T bo (vnN wi sl su) 7)) vt vv 0 0) j)))), (h13, .inl (cs.1, 7, .inl (fun j => nI ((dmx T (r8 T (mk8 T cm (cmF T cu) 7)) (r8 T (mk8 T bo (vnN wi sl su) 7)) vt vv 0 0) j))))] H ∧ va_D A [(a0, .inr (6, [.int (nI T), v1, v2, v3, v4, v5, .ref h6, .ref h7, .ref h8, .ref h9, .ref h10, .ref h11, .ref h12, .ref h13, v14, v15, v16, v17, v18, v19, v20, v21, v22])), (h6, .inl (cs.1, 7, .inl (fun j => nI (wi j)))), (h7, .inl (cs.1, 7, .inl (fun j => nI (sl j)))), (h8, .inl (cs.1, 7, .inl (fun j => nI (su j)))), (h9, .inl (cs.1, 7, .inl (fun j => nI (cu j)))), (h10, .inl (cs.1, 56, .inl (fun j => nI ((mk8 T cm (cmF T cu) 7) j)))), (h11, .inl (cs.1, 56, .inl (fun j => nI ((mk8 T bo (vnN wi sl su) 7) j)))), (h12, .inl (cs.1, 7, .inl (fun j => nI ((dmt T (r8 T (mk8 T cm (cmF T cu) 7)) (r8 T (mk8 T bo (vnN wi sl su) 7)) vt vv 0 0) j)))), (h13, .inl (cs.1, 7, .inl (fun j => nI ((dmx T (r8 T (mk8 T cm (cmF T cu) 7)) (r8 T (mk8 T bo (vnN wi sl su) 7)) vt vv 0 0) j))))] := by rw [(dm_start (T := T) (Rr := r8 T (mk8 T cm (cmF T cu) 7)) (X := r8 T (mk8 T bo (vnN wi sl su) 7)) (vt := vt) (x := vv) (n := 0) (Or.inl rfl)).1, (dm_start (T := T) (Rr := r8 T (mk8 T cm (cmF T cu) 7)) (X := r8 T (mk8 T bo (vnN wi sl su) 7)) (vt := vt) (x := vv) (n := 0) (Or.inl rfl)).2]; exact ⟨hP, hD⟩
    refine rr_loopM (fun n => [(1, .int (nI (T + n) - nI 6)), (0, .ref a0)]) (fun n => True) (fun n => [(a0, .inr (6, [.int (nI T), v1, v2, v3, v4, v5, .ref h6, .ref h7, .ref h8, .ref h9, .ref h10, .ref h11, .ref h12, .ref h13, v14, v15, v16, v17, v18, v19, v20, v21, v22])), (h6, .inl (cs.1, 7, .inl (fun j => nI (wi j)))), (h7, .inl (cs.1, 7, .inl (fun j => nI (sl j)))), (h8, .inl (cs.1, 7, .inl (fun j => nI (su j)))), (h9, .inl (cs.1, 7, .inl (fun j => nI (cu j)))), (h10, .inl (cs.1, 56, .inl (fun j => nI ((mk8 T cm (cmF T cu) 7) j)))), (h11, .inl (cs.1, 56, .inl (fun j => nI ((mk8 T bo (vnN wi sl su) 7) j)))), (h12, .inl (cs.1, 7, .inl (fun j => nI ((dmt T (r8 T (mk8 T cm (cmF T cu) 7)) (r8 T (mk8 T bo (vnN wi sl su) 7)) vt vv n 0) j)))), (h13, .inl (cs.1, 7, .inl (fun j => nI ((dmx T (r8 T (mk8 T cm (cmF T cu) 7)) (r8 T (mk8 T bo (vnN wi sl su) 7)) vt vv n 0) j))))]) 0 7 (by omega) trivial (lv_sub hl [0, 1] rfl) hPD.1 hPD.2 hS (fun n ls H locs hi_5 hI_6 hl hP hD hS ih_4 => ?_)
    have hP : va_P D classes [(a0, .inr (6, [.int (nI T), v1, v2, v3, v4, v5, .ref h6, .ref h7, .ref h8, .ref h9, .ref h10, .ref h11, .ref h12, .ref h13, v14, v15, v16, v17, v18, v19, v20, v21, v22])), (h6, .inl (cs.1, 7, .inl (fun j => nI (wi j)))), (h7, .inl (cs.1, 7, .inl (fun j => nI (sl j)))), (h8, .inl (cs.1, 7, .inl (fun j => nI (su j)))), (h9, .inl (cs.1, 7, .inl (fun j => nI (cu j)))), (h10, .inl (cs.1, 56, .inl (fun j => nI ((mk8 T cm (cmF T cu) 7) j)))), (h11, .inl (cs.1, 56, .inl (fun j => nI ((mk8 T bo (vnN wi sl su) 7) j)))), (h12, .inl (cs.1, 7, .inl (fun j => nI ((dmt T (r8 T (mk8 T cm (cmF T cu) 7)) (r8 T (mk8 T bo (vnN wi sl su) 7)) vt vv n 0) j)))), (h13, .inl (cs.1, 7, .inl (fun j => nI ((dmx T (r8 T (mk8 T cm (cmF T cu) 7)) (r8 T (mk8 T bo (vnN wi sl su) 7)) vt vv n 0) j))))] H := hP
    have hD : va_D A [(a0, .inr (6, [.int (nI T), v1, v2, v3, v4, v5, .ref h6, .ref h7, .ref h8, .ref h9, .ref h10, .ref h11, .ref h12, .ref h13, v14, v15, v16, v17, v18, v19, v20, v21, v22])), (h6, .inl (cs.1, 7, .inl (fun j => nI (wi j)))), (h7, .inl (cs.1, 7, .inl (fun j => nI (sl j)))), (h8, .inl (cs.1, 7, .inl (fun j => nI (su j)))), (h9, .inl (cs.1, 7, .inl (fun j => nI (cu j)))), (h10, .inl (cs.1, 56, .inl (fun j => nI ((mk8 T cm (cmF T cu) 7) j)))), (h11, .inl (cs.1, 56, .inl (fun j => nI ((mk8 T bo (vnN wi sl su) 7) j)))), (h12, .inl (cs.1, 7, .inl (fun j => nI ((dmt T (r8 T (mk8 T cm (cmF T cu) 7)) (r8 T (mk8 T bo (vnN wi sl su) 7)) vt vv n 0) j)))), (h13, .inl (cs.1, 7, .inl (fun j => nI ((dmx T (r8 T (mk8 T cm (cmF T cu) 7)) (r8 T (mk8 T bo (vnN wi sl su) 7)) vt vv n 0) j))))] := hD
    have hl : lv_has ls 3 [(1, .int (nI (T + n) - nI 6)), (0, .ref a0)] := hl
    refine lv_iload_n hx hb d_M_votesAll_82 rfl (lv_at hl 0 rfl) ?_
    refine lv_aload_n hx hb d_M_votesAll_83 rfl (lv_at hl 1 rfl) ?_
    refine va_get (D := D) (ci := 6) (v := .int (nI T)) (C := R_M) (T := F_M) (N := 23) hx hb ht j_M hown hK.1 hP 0 rfl rfl 0 (by decide) (ht _ q_584) (fun _ h9 => h9) rfl d_M_votesAll_84 ?_
    refine lv_icmp_gt (tgt := 172) hx hb d_M_votesAll_87 (by decide) (fun c87 => ?_) (fun c87 => ?_)
    · have hn9 : 7 ≤ n := by have z := Int32.lt_iff_toInt_lt.mp c87; rw [mk_toInt hT (by omega), nI_toInt (by omega)] at z; omega
      have hPD : va_P D classes [(a0, .inr (6, [.int (nI T), v1, v2, v3, v4, v5, .ref h6, .ref h7, .ref h8, .ref h9, .ref h10, .ref h11, .ref h12, .ref h13, v14, v15, v16, v17, v18, v19, v20, v21, v22])), (h6, .inl (cs.1, 7, .inl (fun j => nI (wi j)))), (h7, .inl (cs.1, 7, .inl (fun j => nI (sl j)))), (h8, .inl (cs.1, 7, .inl (fun j => nI (su j)))), (h9, .inl (cs.1, 7, .inl (fun j => nI (cu j)))), (h10, .inl (cs.1, 56, .inl (fun j => nI ((mk8 T cm (cmF T cu) 7) j)))), (h11, .inl (cs.1, 56, .inl (fun j => nI ((mk8 T bo (vnN wi sl su) 7) j)))), (h12, .inl (cs.1, 7, .inl (fun j => nI ((dmt T (r8 T (mk8 T cm (cmF T cu) 7)) (r8 T (mk8 T bo (vnN wi sl su) 7)) vt vv 7 0) j)))), (h13, .inl (cs.1, 7, .inl (fun j => nI ((dmx T (r8 T (mk8 T cm (cmF T cu) 7)) (r8 T (mk8 T bo (vnN wi sl su) 7)) vt vv 7 0) j))))] H ∧ va_D A [(a0, .inr (6, [.int (nI T), v1, v2, v3, v4, v5, .ref h6, .ref h7, .ref h8, .ref h9, .ref h10, .ref h11, .ref h12, .ref h13, v14, v15, v16, v17, v18, v19, v20, v21, v22])), (h6, .inl (cs.1, 7, .inl (fun j => nI (wi j)))), (h7, .inl (cs.1, 7, .inl (fun j => nI (sl j)))), (h8, .inl (cs.1, 7, .inl (fun j => nI (su j)))), (h9, .inl (cs.1, 7, .inl (fun j => nI (cu j)))), (h10, .inl (cs.1, 56, .inl (fun j => nI ((mk8 T cm (cmF T cu) 7) j)))), (h11, .inl (cs.1, 56, .inl (fun j => nI ((mk8 T bo (vnN wi sl su) 7) j)))), (h12, .inl (cs.1, 7, .inl (fun j => nI ((dmt T (r8 T (mk8 T cm (cmF T cu) 7)) (r8 T (mk8 T bo (vnN wi sl su) 7)) vt vv 7 0) j)))), (h13, .inl (cs.1, 7, .inl (fun j => nI ((dmx T (r8 T (mk8 T cm (cmF T cu) 7)) (r8 T (mk8 T bo (vnN wi sl su) 7)) vt vv 7 0) j))))] := by rw [show dmt T (r8 T (mk8 T cm (cmF T cu) 7)) (r8 T (mk8 T bo (vnN wi sl su) 7)) vt vv 7 0 = dmt T (r8 T (mk8 T cm (cmF T cu) 7)) (r8 T (mk8 T bo (vnN wi sl su) 7)) vt vv n 0 from by rw [show n = 7 from by omega], show dmx T (r8 T (mk8 T cm (cmF T cu) 7)) (r8 T (mk8 T bo (vnN wi sl su) 7)) vt vv 7 0 = dmx T (r8 T (mk8 T cm (cmF T cu) 7)) (r8 T (mk8 T bo (vnN wi sl su) 7)) vt vv n 0 from by rw [show n = 7 from by omega]]; exact ⟨hP, hD⟩
      exact rr_mvret () hx hb hr hlk hPD.1 hPD.2 hS trivial d_M_votesAll_172
    · have hn9 : n < 7 := by rcases Nat.lt_or_ge n 7 with z | z; exact z; exact absurd (Int32.lt_iff_toInt_lt.mpr (by rw [mk_toInt hT (by omega), nI_toInt (by omega)]; omega)) c87
      refine lv_iconst (v := nI 0) hx hb d_M_votesAll_90 (by decide) ?_
      refine lv_istore_n (lv' := [(2, .int (nI 0)), (1, .int (nI (T + n) - nI 6)), (0, .ref a0)]) hx hb d_M_votesAll_91 rfl hl (by decide) rfl (fun ls hl => ?_)
      refine rr_loopM (fun t => [(2, .int (nI t)), (1, .int (nI (T + n) - nI 6)), (0, .ref a0)]) (fun t => True) (fun t => [(a0, .inr (6, [.int (nI T), v1, v2, v3, v4, v5, .ref h6, .ref h7, .ref h8, .ref h9, .ref h10, .ref h11, .ref h12, .ref h13, v14, v15, v16, v17, v18, v19, v20, v21, v22])), (h6, .inl (cs.1, 7, .inl (fun j => nI (wi j)))), (h7, .inl (cs.1, 7, .inl (fun j => nI (sl j)))), (h8, .inl (cs.1, 7, .inl (fun j => nI (su j)))), (h9, .inl (cs.1, 7, .inl (fun j => nI (cu j)))), (h10, .inl (cs.1, 56, .inl (fun j => nI ((mk8 T cm (cmF T cu) 7) j)))), (h11, .inl (cs.1, 56, .inl (fun j => nI ((mk8 T bo (vnN wi sl su) 7) j)))), (h12, .inl (cs.1, 7, .inl (fun j => nI ((dmt T (r8 T (mk8 T cm (cmF T cu) 7)) (r8 T (mk8 T bo (vnN wi sl su) 7)) vt vv n t) j)))), (h13, .inl (cs.1, 7, .inl (fun j => nI ((dmx T (r8 T (mk8 T cm (cmF T cu) 7)) (r8 T (mk8 T bo (vnN wi sl su) 7)) vt vv n t) j))))]) 0 7 (by omega) trivial (lv_sub hl [0, 1, 2] rfl) hP hD hS (fun t ls H locs hi_8 hI_9 hl hP hD hS ih_7 => ?_)
      have hP : va_P D classes [(a0, .inr (6, [.int (nI T), v1, v2, v3, v4, v5, .ref h6, .ref h7, .ref h8, .ref h9, .ref h10, .ref h11, .ref h12, .ref h13, v14, v15, v16, v17, v18, v19, v20, v21, v22])), (h6, .inl (cs.1, 7, .inl (fun j => nI (wi j)))), (h7, .inl (cs.1, 7, .inl (fun j => nI (sl j)))), (h8, .inl (cs.1, 7, .inl (fun j => nI (su j)))), (h9, .inl (cs.1, 7, .inl (fun j => nI (cu j)))), (h10, .inl (cs.1, 56, .inl (fun j => nI ((mk8 T cm (cmF T cu) 7) j)))), (h11, .inl (cs.1, 56, .inl (fun j => nI ((mk8 T bo (vnN wi sl su) 7) j)))), (h12, .inl (cs.1, 7, .inl (fun j => nI ((dmt T (r8 T (mk8 T cm (cmF T cu) 7)) (r8 T (mk8 T bo (vnN wi sl su) 7)) vt vv n t) j)))), (h13, .inl (cs.1, 7, .inl (fun j => nI ((dmx T (r8 T (mk8 T cm (cmF T cu) 7)) (r8 T (mk8 T bo (vnN wi sl su) 7)) vt vv n t) j))))] H := hP
      have hD : va_D A [(a0, .inr (6, [.int (nI T), v1, v2, v3, v4, v5, .ref h6, .ref h7, .ref h8, .ref h9, .ref h10, .ref h11, .ref h12, .ref h13, v14, v15, v16, v17, v18, v19, v20, v21, v22])), (h6, .inl (cs.1, 7, .inl (fun j => nI (wi j)))), (h7, .inl (cs.1, 7, .inl (fun j => nI (sl j)))), (h8, .inl (cs.1, 7, .inl (fun j => nI (su j)))), (h9, .inl (cs.1, 7, .inl (fun j => nI (cu j)))), (h10, .inl (cs.1, 56, .inl (fun j => nI ((mk8 T cm (cmF T cu) 7) j)))), (h11, .inl (cs.1, 56, .inl (fun j => nI ((mk8 T bo (vnN wi sl su) 7) j)))), (h12, .inl (cs.1, 7, .inl (fun j => nI ((dmt T (r8 T (mk8 T cm (cmF T cu) 7)) (r8 T (mk8 T bo (vnN wi sl su) 7)) vt vv n t) j)))), (h13, .inl (cs.1, 7, .inl (fun j => nI ((dmx T (r8 T (mk8 T cm (cmF T cu) 7)) (r8 T (mk8 T bo (vnN wi sl su) 7)) vt vv n t) j))))] := hD
      have hl : lv_has ls 3 [(2, .int (nI t)), (1, .int (nI (T + n) - nI 6)), (0, .ref a0)] := hl
      refine lv_iload_n hx hb d_M_votesAll_92 rfl (lv_at hl 0 rfl) ?_
      refine lv_bipush (v := nI 7) hx hb d_M_votesAll_93 (by decide) ?_
      refine rr_icmp_ge (a := t) (b := 7) (tgt := 166) (by omega) (by omega) hx hb d_M_votesAll_95 (by decide) (fun c95 => ?_) (fun c95 => ?_)
      · refine lv_iinc (v := (nI (T + n) - nI 6) + (1)) (lv' := [(1, .int ((nI (T + n) - nI 6) + (1))), (2, .int (nI t)), (0, .ref a0)]) hx hb d_M_votesAll_166 hl (k := 1) rfl rfl (by decide) rfl (fun ls hl => ?_)
        refine lv_goto (tgt := 82) hx hb d_M_votesAll_169 (by decide) ?_
        have hPD : va_P D classes [(a0, .inr (6, [.int (nI T), v1, v2, v3, v4, v5, .ref h6, .ref h7, .ref h8, .ref h9, .ref h10, .ref h11, .ref h12, .ref h13, v14, v15, v16, v17, v18, v19, v20, v21, v22])), (h6, .inl (cs.1, 7, .inl (fun j => nI (wi j)))), (h7, .inl (cs.1, 7, .inl (fun j => nI (sl j)))), (h8, .inl (cs.1, 7, .inl (fun j => nI (su j)))), (h9, .inl (cs.1, 7, .inl (fun j => nI (cu j)))), (h10, .inl (cs.1, 56, .inl (fun j => nI ((mk8 T cm (cmF T cu) 7) j)))), (h11, .inl (cs.1, 56, .inl (fun j => nI ((mk8 T bo (vnN wi sl su) 7) j)))), (h12, .inl (cs.1, 7, .inl (fun j => nI ((dmt T (r8 T (mk8 T cm (cmF T cu) 7)) (r8 T (mk8 T bo (vnN wi sl su) 7)) vt vv (n + 1) 0) j)))), (h13, .inl (cs.1, 7, .inl (fun j => nI ((dmx T (r8 T (mk8 T cm (cmF T cu) 7)) (r8 T (mk8 T bo (vnN wi sl su) 7)) vt vv (n + 1) 0) j))))] H ∧ va_D A [(a0, .inr (6, [.int (nI T), v1, v2, v3, v4, v5, .ref h6, .ref h7, .ref h8, .ref h9, .ref h10, .ref h11, .ref h12, .ref h13, v14, v15, v16, v17, v18, v19, v20, v21, v22])), (h6, .inl (cs.1, 7, .inl (fun j => nI (wi j)))), (h7, .inl (cs.1, 7, .inl (fun j => nI (sl j)))), (h8, .inl (cs.1, 7, .inl (fun j => nI (su j)))), (h9, .inl (cs.1, 7, .inl (fun j => nI (cu j)))), (h10, .inl (cs.1, 56, .inl (fun j => nI ((mk8 T cm (cmF T cu) 7) j)))), (h11, .inl (cs.1, 56, .inl (fun j => nI ((mk8 T bo (vnN wi sl su) 7) j)))), (h12, .inl (cs.1, 7, .inl (fun j => nI ((dmt T (r8 T (mk8 T cm (cmF T cu) 7)) (r8 T (mk8 T bo (vnN wi sl su) 7)) vt vv (n + 1) 0) j)))), (h13, .inl (cs.1, 7, .inl (fun j => nI ((dmx T (r8 T (mk8 T cm (cmF T cu) 7)) (r8 T (mk8 T bo (vnN wi sl su) 7)) vt vv (n + 1) 0) j))))] := by rw [show (dmt T (r8 T (mk8 T cm (cmF T cu) 7)) (r8 T (mk8 T bo (vnN wi sl su) 7)) vt vv (n + 1) 0) = (dmt T (r8 T (mk8 T cm (cmF T cu) 7)) (r8 T (mk8 T bo (vnN wi sl su) 7)) vt vv n t) from (by rw [show t = 7 from by omega, (dm_next n).1])]; rw [show (dmx T (r8 T (mk8 T cm (cmF T cu) 7)) (r8 T (mk8 T bo (vnN wi sl su) 7)) vt vv (n + 1) 0) = (dmx T (r8 T (mk8 T cm (cmF T cu) 7)) (r8 T (mk8 T bo (vnN wi sl su) 7)) vt vv n t) from (by rw [show t = 7 from by omega, (dm_next n).2])]; exact ⟨hP, hD⟩
        exact ih_4 ls H locs (by omega) trivial (by show lv_has ls 3 [(1, .int (nI (T + (n + 1)) - nI 6)), (0, .ref a0)]; rw [show (nI (T + (n + 1)) - nI 6 : Int32) = (nI (T + n) - nI 6) + (1) from (mk_inc (T + n)).symm]; exact lv_sub hl [0, 2] rfl) hPD.1 hPD.2 hS
      · refine lv_iload_n hx hb d_M_votesAll_98 rfl (lv_at hl 1 rfl) ?_
        refine lv_if_le (tgt := 160) hx hb d_M_votesAll_99 (by decide) (fun c99 => ?_) (fun c99 => ?_)
        · have hm9 : T + n ≤ 6 := by have z := Int32.le_iff_toInt_le.mp c99; rw [mk_toInt hT (by omega), i0_toInt] at z; omega
          have hq9 := dm_no (T := T) (Rr := r8 T (mk8 T cm (cmF T cu) 7)) (X := r8 T (mk8 T bo (vnN wi sl su) 7)) (vt := vt) (x := vv) (n := n) (t0 := t) (by omega) (fun z => by omega)
          refine lv_iinc (v := nI (t + 1)) (lv' := [(2, .int (nI (t + 1))), (1, .int (nI (T + n) - nI 6)), (0, .ref a0)]) hx hb d_M_votesAll_160 hl (k := 0) rfl (nI_add t 1) (by decide) rfl (fun ls hl => ?_)
          refine lv_goto (tgt := 92) hx hb d_M_votesAll_163 (by decide) ?_
          have hPD : va_P D classes [(a0, .inr (6, [.int (nI T), v1, v2, v3, v4, v5, .ref h6, .ref h7, .ref h8, .ref h9, .ref h10, .ref h11, .ref h12, .ref h13, v14, v15, v16, v17, v18, v19, v20, v21, v22])), (h6, .inl (cs.1, 7, .inl (fun j => nI (wi j)))), (h7, .inl (cs.1, 7, .inl (fun j => nI (sl j)))), (h8, .inl (cs.1, 7, .inl (fun j => nI (su j)))), (h9, .inl (cs.1, 7, .inl (fun j => nI (cu j)))), (h10, .inl (cs.1, 56, .inl (fun j => nI ((mk8 T cm (cmF T cu) 7) j)))), (h11, .inl (cs.1, 56, .inl (fun j => nI ((mk8 T bo (vnN wi sl su) 7) j)))), (h12, .inl (cs.1, 7, .inl (fun j => nI ((dmt T (r8 T (mk8 T cm (cmF T cu) 7)) (r8 T (mk8 T bo (vnN wi sl su) 7)) vt vv n (t + 1)) j)))), (h13, .inl (cs.1, 7, .inl (fun j => nI ((dmx T (r8 T (mk8 T cm (cmF T cu) 7)) (r8 T (mk8 T bo (vnN wi sl su) 7)) vt vv n (t + 1)) j))))] H ∧ va_D A [(a0, .inr (6, [.int (nI T), v1, v2, v3, v4, v5, .ref h6, .ref h7, .ref h8, .ref h9, .ref h10, .ref h11, .ref h12, .ref h13, v14, v15, v16, v17, v18, v19, v20, v21, v22])), (h6, .inl (cs.1, 7, .inl (fun j => nI (wi j)))), (h7, .inl (cs.1, 7, .inl (fun j => nI (sl j)))), (h8, .inl (cs.1, 7, .inl (fun j => nI (su j)))), (h9, .inl (cs.1, 7, .inl (fun j => nI (cu j)))), (h10, .inl (cs.1, 56, .inl (fun j => nI ((mk8 T cm (cmF T cu) 7) j)))), (h11, .inl (cs.1, 56, .inl (fun j => nI ((mk8 T bo (vnN wi sl su) 7) j)))), (h12, .inl (cs.1, 7, .inl (fun j => nI ((dmt T (r8 T (mk8 T cm (cmF T cu) 7)) (r8 T (mk8 T bo (vnN wi sl su) 7)) vt vv n (t + 1)) j)))), (h13, .inl (cs.1, 7, .inl (fun j => nI ((dmx T (r8 T (mk8 T cm (cmF T cu) 7)) (r8 T (mk8 T bo (vnN wi sl su) 7)) vt vv n (t + 1)) j))))] := by rw [show (dmt T (r8 T (mk8 T cm (cmF T cu) 7)) (r8 T (mk8 T bo (vnN wi sl su) 7)) vt vv n (t + 1)) = (dmt T (r8 T (mk8 T cm (cmF T cu) 7)) (r8 T (mk8 T bo (vnN wi sl su) 7)) vt vv n t) from (by first | exact hq9.1.symm | exact hq9.1)]; rw [show (dmx T (r8 T (mk8 T cm (cmF T cu) 7)) (r8 T (mk8 T bo (vnN wi sl su) 7)) vt vv n (t + 1)) = (dmx T (r8 T (mk8 T cm (cmF T cu) 7)) (r8 T (mk8 T bo (vnN wi sl su) 7)) vt vv n t) from (by first | exact hq9.2.symm | exact hq9.2)]; exact ⟨hP, hD⟩
          exact ih_7 ls H locs (by omega) trivial (by show lv_has ls 3 [(2, .int (nI (t + 1))), (1, .int (nI (T + n) - nI 6)), (0, .ref a0)]; skip; exact lv_sub hl [0, 1, 2] rfl) hPD.1 hPD.2 hS
        · have hm9 : 6 < T + n := by rcases Nat.lt_or_ge 6 (T + n) with z | z; exact z; exact absurd (Int32.le_iff_toInt_le.mpr (by rw [mk_toInt hT (by omega), i0_toInt]; omega)) c99
          rw [show nI (T + n) - nI 6 = nI (T + n - 6) from pk_sub (by omega)] at hl
          have hs9 : 8 * t + (T + n - 6) % 8 = 8 * t + (T + 8 - (6 - n)) % 8 := by omega
          have hcm9 := hcm (8 * t + (T + n - 6) % 8) (by omega)
          have hle9 : dmt T (r8 T (mk8 T cm (cmF T cu) 7)) (r8 T (mk8 T bo (vnN wi sl su) 7)) vt vv n t t ≤ T := dmt_le hvt (by omega)
          refine lv_aload_n hx hb d_M_votesAll_102 rfl (lv_at hl 2 rfl) ?_
          refine va_get (D := D) (ci := 6) (v := .ref h10) (C := R_M) (T := F_M) (N := 23) hx hb ht j_M hown hK.1 hP 0 rfl rfl 10 (by decide) (ht _ q_594) (fun _ h9 => h9) rfl d_M_votesAll_103 ?_
          refine lv_bipush (v := nI 8) hx hb d_M_votesAll_106 (by decide) ?_
          refine lv_iload_n hx hb d_M_votesAll_108 rfl (lv_at hl 0 rfl) ?_
          refine rr_imul (a := 8) (b := t) hx hb d_M_votesAll_109 ?_
          refine lv_iload_n hx hb d_M_votesAll_110 rfl (lv_at hl 1 rfl) ?_
          refine lv_bipush (v := nI 8) hx hb d_M_votesAll_111 (by decide) ?_
          refine rr_irem (a := (T + n - 6)) (b := 8) (by omega) (by omega) (by omega) hx hb d_M_votesAll_113 ?_
          refine rr_iadd (a := (8 * t)) (b := ((T + n - 6) % 8)) hx hb d_M_votesAll_114 ?_
          refine rr_iald (q0 := 5) (n := 56) (f := (fun j => nI ((mk8 T cm (cmF T cu) 7) j))) (k := ((8 * t) + ((T + n - 6) % 8))) hx hb hK hP rfl (by omega) (by omega) d_M_votesAll_115 ?_
          refine lv_aload_n hx hb d_M_votesAll_116 rfl (lv_at hl 2 rfl) ?_
          refine va_get (D := D) (ci := 6) (v := .int (nI T)) (C := R_M) (T := F_M) (N := 23) hx hb ht j_M hown hK.1 hP 0 rfl rfl 0 (by decide) (ht _ q_584) (fun _ h9 => h9) rfl d_M_votesAll_117 ?_
          refine rr_icmp_ne (a := ((mk8 T cm (cmF T cu) 7) ((8 * t) + ((T + n - 6) % 8)))) (b := T) (tgt := 160) (by omega) (by omega) hx hb d_M_votesAll_120 (by decide) (fun c120 => ?_) (fun c120 => ?_)
          · have hq9 := dm_no (T := T) (Rr := r8 T (mk8 T cm (cmF T cu) 7)) (X := r8 T (mk8 T bo (vnN wi sl su) 7)) (vt := vt) (x := vv) (n := n) (t0 := t) (by omega) (fun z => c120 (by rw [hs9]; exact z.2.1))
            refine lv_iinc (v := nI (t + 1)) (lv' := [(2, .int (nI (t + 1))), (1, .int (nI (T + n - 6))), (0, .ref a0)]) hx hb d_M_votesAll_160 hl (k := 0) rfl (nI_add t 1) (by decide) rfl (fun ls hl => ?_)
            refine lv_goto (tgt := 92) hx hb d_M_votesAll_163 (by decide) ?_
            have hPD : va_P D classes [(a0, .inr (6, [.int (nI T), v1, v2, v3, v4, v5, .ref h6, .ref h7, .ref h8, .ref h9, .ref h10, .ref h11, .ref h12, .ref h13, v14, v15, v16, v17, v18, v19, v20, v21, v22])), (h6, .inl (cs.1, 7, .inl (fun j => nI (wi j)))), (h7, .inl (cs.1, 7, .inl (fun j => nI (sl j)))), (h8, .inl (cs.1, 7, .inl (fun j => nI (su j)))), (h9, .inl (cs.1, 7, .inl (fun j => nI (cu j)))), (h10, .inl (cs.1, 56, .inl (fun j => nI ((mk8 T cm (cmF T cu) 7) j)))), (h11, .inl (cs.1, 56, .inl (fun j => nI ((mk8 T bo (vnN wi sl su) 7) j)))), (h12, .inl (cs.1, 7, .inl (fun j => nI ((dmt T (r8 T (mk8 T cm (cmF T cu) 7)) (r8 T (mk8 T bo (vnN wi sl su) 7)) vt vv n (t + 1)) j)))), (h13, .inl (cs.1, 7, .inl (fun j => nI ((dmx T (r8 T (mk8 T cm (cmF T cu) 7)) (r8 T (mk8 T bo (vnN wi sl su) 7)) vt vv n (t + 1)) j))))] H ∧ va_D A [(a0, .inr (6, [.int (nI T), v1, v2, v3, v4, v5, .ref h6, .ref h7, .ref h8, .ref h9, .ref h10, .ref h11, .ref h12, .ref h13, v14, v15, v16, v17, v18, v19, v20, v21, v22])), (h6, .inl (cs.1, 7, .inl (fun j => nI (wi j)))), (h7, .inl (cs.1, 7, .inl (fun j => nI (sl j)))), (h8, .inl (cs.1, 7, .inl (fun j => nI (su j)))), (h9, .inl (cs.1, 7, .inl (fun j => nI (cu j)))), (h10, .inl (cs.1, 56, .inl (fun j => nI ((mk8 T cm (cmF T cu) 7) j)))), (h11, .inl (cs.1, 56, .inl (fun j => nI ((mk8 T bo (vnN wi sl su) 7) j)))), (h12, .inl (cs.1, 7, .inl (fun j => nI ((dmt T (r8 T (mk8 T cm (cmF T cu) 7)) (r8 T (mk8 T bo (vnN wi sl su) 7)) vt vv n (t + 1)) j)))), (h13, .inl (cs.1, 7, .inl (fun j => nI ((dmx T (r8 T (mk8 T cm (cmF T cu) 7)) (r8 T (mk8 T bo (vnN wi sl su) 7)) vt vv n (t + 1)) j))))] := by rw [show (dmt T (r8 T (mk8 T cm (cmF T cu) 7)) (r8 T (mk8 T bo (vnN wi sl su) 7)) vt vv n (t + 1)) = (dmt T (r8 T (mk8 T cm (cmF T cu) 7)) (r8 T (mk8 T bo (vnN wi sl su) 7)) vt vv n t) from (by first | exact hq9.1.symm | exact hq9.1)]; rw [show (dmx T (r8 T (mk8 T cm (cmF T cu) 7)) (r8 T (mk8 T bo (vnN wi sl su) 7)) vt vv n (t + 1)) = (dmx T (r8 T (mk8 T cm (cmF T cu) 7)) (r8 T (mk8 T bo (vnN wi sl su) 7)) vt vv n t) from (by first | exact hq9.2.symm | exact hq9.2)]; exact ⟨hP, hD⟩
            exact ih_7 ls H locs (by omega) trivial (by show lv_has ls 3 [(2, .int (nI (t + 1))), (1, .int (nI (T + n) - nI 6)), (0, .ref a0)]; rw [show (nI (T + n) - nI 6 : Int32) = nI (T + n - 6) from (pk_sub (by omega))]; exact lv_sub hl [0, 1, 2] rfl) hPD.1 hPD.2 hS
          · refine lv_iload_n hx hb d_M_votesAll_123 rfl (lv_at hl 1 rfl) ?_
            refine lv_aload_n hx hb d_M_votesAll_124 rfl (lv_at hl 2 rfl) ?_
            refine va_get (D := D) (ci := 6) (v := .ref h12) (C := R_M) (T := F_M) (N := 23) hx hb ht j_M hown hK.1 hP 0 rfl rfl 12 (by decide) (ht _ q_596) (fun _ h9 => h9) rfl d_M_votesAll_125 ?_
            refine lv_iload_n hx hb d_M_votesAll_128 rfl (lv_at hl 0 rfl) ?_
            refine rr_iald (q0 := 7) (n := 7) (f := (fun j => nI ((dmt T (r8 T (mk8 T cm (cmF T cu) 7)) (r8 T (mk8 T bo (vnN wi sl su) 7)) vt vv n t) j))) (k := t) hx hb hK hP rfl (by omega) (by omega) d_M_votesAll_129 ?_
            refine rr_icmp_le (a := (T + n - 6)) (b := ((dmt T (r8 T (mk8 T cm (cmF T cu) 7)) (r8 T (mk8 T bo (vnN wi sl su) 7)) vt vv n t) t)) (tgt := 160) (by omega) (by omega) hx hb d_M_votesAll_130 (by decide) (fun c130 => ?_) (fun c130 => ?_)
            · have hq9 := dm_no (T := T) (Rr := r8 T (mk8 T cm (cmF T cu) 7)) (X := r8 T (mk8 T bo (vnN wi sl su) 7)) (vt := vt) (x := vv) (n := n) (t0 := t) (by omega) (fun z => by omega)
              refine lv_iinc (v := nI (t + 1)) (lv' := [(2, .int (nI (t + 1))), (1, .int (nI (T + n - 6))), (0, .ref a0)]) hx hb d_M_votesAll_160 hl (k := 0) rfl (nI_add t 1) (by decide) rfl (fun ls hl => ?_)
              refine lv_goto (tgt := 92) hx hb d_M_votesAll_163 (by decide) ?_
              have hPD : va_P D classes [(a0, .inr (6, [.int (nI T), v1, v2, v3, v4, v5, .ref h6, .ref h7, .ref h8, .ref h9, .ref h10, .ref h11, .ref h12, .ref h13, v14, v15, v16, v17, v18, v19, v20, v21, v22])), (h6, .inl (cs.1, 7, .inl (fun j => nI (wi j)))), (h7, .inl (cs.1, 7, .inl (fun j => nI (sl j)))), (h8, .inl (cs.1, 7, .inl (fun j => nI (su j)))), (h9, .inl (cs.1, 7, .inl (fun j => nI (cu j)))), (h10, .inl (cs.1, 56, .inl (fun j => nI ((mk8 T cm (cmF T cu) 7) j)))), (h11, .inl (cs.1, 56, .inl (fun j => nI ((mk8 T bo (vnN wi sl su) 7) j)))), (h12, .inl (cs.1, 7, .inl (fun j => nI ((dmt T (r8 T (mk8 T cm (cmF T cu) 7)) (r8 T (mk8 T bo (vnN wi sl su) 7)) vt vv n (t + 1)) j)))), (h13, .inl (cs.1, 7, .inl (fun j => nI ((dmx T (r8 T (mk8 T cm (cmF T cu) 7)) (r8 T (mk8 T bo (vnN wi sl su) 7)) vt vv n (t + 1)) j))))] H ∧ va_D A [(a0, .inr (6, [.int (nI T), v1, v2, v3, v4, v5, .ref h6, .ref h7, .ref h8, .ref h9, .ref h10, .ref h11, .ref h12, .ref h13, v14, v15, v16, v17, v18, v19, v20, v21, v22])), (h6, .inl (cs.1, 7, .inl (fun j => nI (wi j)))), (h7, .inl (cs.1, 7, .inl (fun j => nI (sl j)))), (h8, .inl (cs.1, 7, .inl (fun j => nI (su j)))), (h9, .inl (cs.1, 7, .inl (fun j => nI (cu j)))), (h10, .inl (cs.1, 56, .inl (fun j => nI ((mk8 T cm (cmF T cu) 7) j)))), (h11, .inl (cs.1, 56, .inl (fun j => nI ((mk8 T bo (vnN wi sl su) 7) j)))), (h12, .inl (cs.1, 7, .inl (fun j => nI ((dmt T (r8 T (mk8 T cm (cmF T cu) 7)) (r8 T (mk8 T bo (vnN wi sl su) 7)) vt vv n (t + 1)) j)))), (h13, .inl (cs.1, 7, .inl (fun j => nI ((dmx T (r8 T (mk8 T cm (cmF T cu) 7)) (r8 T (mk8 T bo (vnN wi sl su) 7)) vt vv n (t + 1)) j))))] := by rw [show (dmt T (r8 T (mk8 T cm (cmF T cu) 7)) (r8 T (mk8 T bo (vnN wi sl su) 7)) vt vv n (t + 1)) = (dmt T (r8 T (mk8 T cm (cmF T cu) 7)) (r8 T (mk8 T bo (vnN wi sl su) 7)) vt vv n t) from (by first | exact hq9.1.symm | exact hq9.1)]; rw [show (dmx T (r8 T (mk8 T cm (cmF T cu) 7)) (r8 T (mk8 T bo (vnN wi sl su) 7)) vt vv n (t + 1)) = (dmx T (r8 T (mk8 T cm (cmF T cu) 7)) (r8 T (mk8 T bo (vnN wi sl su) 7)) vt vv n t) from (by first | exact hq9.2.symm | exact hq9.2)]; exact ⟨hP, hD⟩
              exact ih_7 ls H locs (by omega) trivial (by show lv_has ls 3 [(2, .int (nI (t + 1))), (1, .int (nI (T + n) - nI 6)), (0, .ref a0)]; rw [show (nI (T + n) - nI 6 : Int32) = nI (T + n - 6) from (pk_sub (by omega))]; exact lv_sub hl [0, 1, 2] rfl) hPD.1 hPD.2 hS
            · have hq8 := dm_yes (T := T) (Rr := r8 T (mk8 T cm (cmF T cu) 7)) (X := r8 T (mk8 T bo (vnN wi sl su) 7)) (vt := vt) (x := vv) (n := n) (t0 := t) (m := T + n - 6) (w := (mk8 T bo (vnN wi sl su) 7) (8 * t + (T + n - 6) % 8)) (by omega) (by omega) (by show (mk8 T cm (cmF T cu) 7) _ = T; rw [← hs9]; exact c120) (by omega) (by show (mk8 T bo (vnN wi sl su) 7) _ = _; rw [← hs9])
              rw [tkF_t (by omega), tkF_t (by omega)] at hq8
              have hq9 := hq8
              refine lv_aload_n hx hb d_M_votesAll_133 rfl (lv_at hl 2 rfl) ?_
              refine va_get (D := D) (ci := 6) (v := .ref h12) (C := R_M) (T := F_M) (N := 23) hx hb ht j_M hown hK.1 hP 0 rfl rfl 12 (by decide) (ht _ q_596) (fun _ h9 => h9) rfl d_M_votesAll_134 ?_
              refine lv_iload_n hx hb d_M_votesAll_137 rfl (lv_at hl 0 rfl) ?_
              refine lv_iload_n hx hb d_M_votesAll_138 rfl (lv_at hl 1 rfl) ?_
              refine rr_iast (q0 := 7) (n := 7) nI (dmt T (r8 T (mk8 T cm (cmF T cu) 7)) (r8 T (mk8 T bo (vnN wi sl su) 7)) vt vv n t) (k := t) (v := (T + n - 6)) hx hb hK hP hD hS rfl (by omega) (by omega) d_M_votesAll_139 (fun H locs hP hD hS => ?_)
              have hP : va_P D classes [(a0, .inr (6, [.int (nI T), v1, v2, v3, v4, v5, .ref h6, .ref h7, .ref h8, .ref h9, .ref h10, .ref h11, .ref h12, .ref h13, v14, v15, v16, v17, v18, v19, v20, v21, v22])), (h6, .inl (cs.1, 7, .inl (fun j => nI (wi j)))), (h7, .inl (cs.1, 7, .inl (fun j => nI (sl j)))), (h8, .inl (cs.1, 7, .inl (fun j => nI (su j)))), (h9, .inl (cs.1, 7, .inl (fun j => nI (cu j)))), (h10, .inl (cs.1, 56, .inl (fun j => nI ((mk8 T cm (cmF T cu) 7) j)))), (h11, .inl (cs.1, 56, .inl (fun j => nI ((mk8 T bo (vnN wi sl su) 7) j)))), (h12, .inl (cs.1, 7, .inl (fun j => nI ((va_up (dmt T (r8 T (mk8 T cm (cmF T cu) 7)) (r8 T (mk8 T bo (vnN wi sl su) 7)) vt vv n t) t (T + n - 6)) j)))), (h13, .inl (cs.1, 7, .inl (fun j => nI ((dmx T (r8 T (mk8 T cm (cmF T cu) 7)) (r8 T (mk8 T bo (vnN wi sl su) 7)) vt vv n t) j))))] H := hP
              have hD : va_D A [(a0, .inr (6, [.int (nI T), v1, v2, v3, v4, v5, .ref h6, .ref h7, .ref h8, .ref h9, .ref h10, .ref h11, .ref h12, .ref h13, v14, v15, v16, v17, v18, v19, v20, v21, v22])), (h6, .inl (cs.1, 7, .inl (fun j => nI (wi j)))), (h7, .inl (cs.1, 7, .inl (fun j => nI (sl j)))), (h8, .inl (cs.1, 7, .inl (fun j => nI (su j)))), (h9, .inl (cs.1, 7, .inl (fun j => nI (cu j)))), (h10, .inl (cs.1, 56, .inl (fun j => nI ((mk8 T cm (cmF T cu) 7) j)))), (h11, .inl (cs.1, 56, .inl (fun j => nI ((mk8 T bo (vnN wi sl su) 7) j)))), (h12, .inl (cs.1, 7, .inl (fun j => nI ((va_up (dmt T (r8 T (mk8 T cm (cmF T cu) 7)) (r8 T (mk8 T bo (vnN wi sl su) 7)) vt vv n t) t (T + n - 6)) j)))), (h13, .inl (cs.1, 7, .inl (fun j => nI ((dmx T (r8 T (mk8 T cm (cmF T cu) 7)) (r8 T (mk8 T bo (vnN wi sl su) 7)) vt vv n t) j))))] := hD
              refine lv_aload_n hx hb d_M_votesAll_140 rfl (lv_at hl 2 rfl) ?_
              refine va_get (D := D) (ci := 6) (v := .ref h13) (C := R_M) (T := F_M) (N := 23) hx hb ht j_M hown hK.1 hP 0 rfl rfl 13 (by decide) (ht _ q_597) (fun _ h9 => h9) rfl d_M_votesAll_141 ?_
              refine lv_iload_n hx hb d_M_votesAll_144 rfl (lv_at hl 0 rfl) ?_
              refine lv_aload_n hx hb d_M_votesAll_145 rfl (lv_at hl 2 rfl) ?_
              refine va_get (D := D) (ci := 6) (v := .ref h11) (C := R_M) (T := F_M) (N := 23) hx hb ht j_M hown hK.1 hP 0 rfl rfl 11 (by decide) (ht _ q_595) (fun _ h9 => h9) rfl d_M_votesAll_146 ?_
              refine lv_bipush (v := nI 8) hx hb d_M_votesAll_149 (by decide) ?_
              refine lv_iload_n hx hb d_M_votesAll_151 rfl (lv_at hl 0 rfl) ?_
              refine rr_imul (a := 8) (b := t) hx hb d_M_votesAll_152 ?_
              refine lv_iload_n hx hb d_M_votesAll_153 rfl (lv_at hl 1 rfl) ?_
              refine lv_bipush (v := nI 8) hx hb d_M_votesAll_154 (by decide) ?_
              refine rr_irem (a := (T + n - 6)) (b := 8) (by omega) (by omega) (by omega) hx hb d_M_votesAll_156 ?_
              refine rr_iadd (a := (8 * t)) (b := ((T + n - 6) % 8)) hx hb d_M_votesAll_157 ?_
              refine rr_iald (q0 := 6) (n := 56) (f := (fun j => nI ((mk8 T bo (vnN wi sl su) 7) j))) (k := ((8 * t) + ((T + n - 6) % 8))) hx hb hK hP rfl (by omega) (by omega) d_M_votesAll_158 ?_
              refine rr_iast (q0 := 8) (n := 7) nI (dmx T (r8 T (mk8 T cm (cmF T cu) 7)) (r8 T (mk8 T bo (vnN wi sl su) 7)) vt vv n t) (k := t) (v := ((mk8 T bo (vnN wi sl su) 7) ((8 * t) + ((T + n - 6) % 8)))) hx hb hK hP hD hS rfl (by omega) (by omega) d_M_votesAll_159 (fun H locs hP hD hS => ?_)
              have hP : va_P D classes [(a0, .inr (6, [.int (nI T), v1, v2, v3, v4, v5, .ref h6, .ref h7, .ref h8, .ref h9, .ref h10, .ref h11, .ref h12, .ref h13, v14, v15, v16, v17, v18, v19, v20, v21, v22])), (h6, .inl (cs.1, 7, .inl (fun j => nI (wi j)))), (h7, .inl (cs.1, 7, .inl (fun j => nI (sl j)))), (h8, .inl (cs.1, 7, .inl (fun j => nI (su j)))), (h9, .inl (cs.1, 7, .inl (fun j => nI (cu j)))), (h10, .inl (cs.1, 56, .inl (fun j => nI ((mk8 T cm (cmF T cu) 7) j)))), (h11, .inl (cs.1, 56, .inl (fun j => nI ((mk8 T bo (vnN wi sl su) 7) j)))), (h12, .inl (cs.1, 7, .inl (fun j => nI ((va_up (dmt T (r8 T (mk8 T cm (cmF T cu) 7)) (r8 T (mk8 T bo (vnN wi sl su) 7)) vt vv n t) t (T + n - 6)) j)))), (h13, .inl (cs.1, 7, .inl (fun j => nI ((va_up (dmx T (r8 T (mk8 T cm (cmF T cu) 7)) (r8 T (mk8 T bo (vnN wi sl su) 7)) vt vv n t) t ((mk8 T bo (vnN wi sl su) 7) ((8 * t) + ((T + n - 6) % 8)))) j))))] H := hP
              have hD : va_D A [(a0, .inr (6, [.int (nI T), v1, v2, v3, v4, v5, .ref h6, .ref h7, .ref h8, .ref h9, .ref h10, .ref h11, .ref h12, .ref h13, v14, v15, v16, v17, v18, v19, v20, v21, v22])), (h6, .inl (cs.1, 7, .inl (fun j => nI (wi j)))), (h7, .inl (cs.1, 7, .inl (fun j => nI (sl j)))), (h8, .inl (cs.1, 7, .inl (fun j => nI (su j)))), (h9, .inl (cs.1, 7, .inl (fun j => nI (cu j)))), (h10, .inl (cs.1, 56, .inl (fun j => nI ((mk8 T cm (cmF T cu) 7) j)))), (h11, .inl (cs.1, 56, .inl (fun j => nI ((mk8 T bo (vnN wi sl su) 7) j)))), (h12, .inl (cs.1, 7, .inl (fun j => nI ((va_up (dmt T (r8 T (mk8 T cm (cmF T cu) 7)) (r8 T (mk8 T bo (vnN wi sl su) 7)) vt vv n t) t (T + n - 6)) j)))), (h13, .inl (cs.1, 7, .inl (fun j => nI ((va_up (dmx T (r8 T (mk8 T cm (cmF T cu) 7)) (r8 T (mk8 T bo (vnN wi sl su) 7)) vt vv n t) t ((mk8 T bo (vnN wi sl su) 7) ((8 * t) + ((T + n - 6) % 8)))) j))))] := hD
              refine lv_iinc (v := nI (t + 1)) (lv' := [(2, .int (nI (t + 1))), (1, .int (nI (T + n - 6))), (0, .ref a0)]) hx hb d_M_votesAll_160 hl (k := 0) rfl (nI_add t 1) (by decide) rfl (fun ls hl => ?_)
              refine lv_goto (tgt := 92) hx hb d_M_votesAll_163 (by decide) ?_
              have hPD : va_P D classes [(a0, .inr (6, [.int (nI T), v1, v2, v3, v4, v5, .ref h6, .ref h7, .ref h8, .ref h9, .ref h10, .ref h11, .ref h12, .ref h13, v14, v15, v16, v17, v18, v19, v20, v21, v22])), (h6, .inl (cs.1, 7, .inl (fun j => nI (wi j)))), (h7, .inl (cs.1, 7, .inl (fun j => nI (sl j)))), (h8, .inl (cs.1, 7, .inl (fun j => nI (su j)))), (h9, .inl (cs.1, 7, .inl (fun j => nI (cu j)))), (h10, .inl (cs.1, 56, .inl (fun j => nI ((mk8 T cm (cmF T cu) 7) j)))), (h11, .inl (cs.1, 56, .inl (fun j => nI ((mk8 T bo (vnN wi sl su) 7) j)))), (h12, .inl (cs.1, 7, .inl (fun j => nI ((dmt T (r8 T (mk8 T cm (cmF T cu) 7)) (r8 T (mk8 T bo (vnN wi sl su) 7)) vt vv n (t + 1)) j)))), (h13, .inl (cs.1, 7, .inl (fun j => nI ((dmx T (r8 T (mk8 T cm (cmF T cu) 7)) (r8 T (mk8 T bo (vnN wi sl su) 7)) vt vv n (t + 1)) j))))] H ∧ va_D A [(a0, .inr (6, [.int (nI T), v1, v2, v3, v4, v5, .ref h6, .ref h7, .ref h8, .ref h9, .ref h10, .ref h11, .ref h12, .ref h13, v14, v15, v16, v17, v18, v19, v20, v21, v22])), (h6, .inl (cs.1, 7, .inl (fun j => nI (wi j)))), (h7, .inl (cs.1, 7, .inl (fun j => nI (sl j)))), (h8, .inl (cs.1, 7, .inl (fun j => nI (su j)))), (h9, .inl (cs.1, 7, .inl (fun j => nI (cu j)))), (h10, .inl (cs.1, 56, .inl (fun j => nI ((mk8 T cm (cmF T cu) 7) j)))), (h11, .inl (cs.1, 56, .inl (fun j => nI ((mk8 T bo (vnN wi sl su) 7) j)))), (h12, .inl (cs.1, 7, .inl (fun j => nI ((dmt T (r8 T (mk8 T cm (cmF T cu) 7)) (r8 T (mk8 T bo (vnN wi sl su) 7)) vt vv n (t + 1)) j)))), (h13, .inl (cs.1, 7, .inl (fun j => nI ((dmx T (r8 T (mk8 T cm (cmF T cu) 7)) (r8 T (mk8 T bo (vnN wi sl su) 7)) vt vv n (t + 1)) j))))] := by rw [show (dmt T (r8 T (mk8 T cm (cmF T cu) 7)) (r8 T (mk8 T bo (vnN wi sl su) 7)) vt vv n (t + 1)) = (va_up (dmt T (r8 T (mk8 T cm (cmF T cu) 7)) (r8 T (mk8 T bo (vnN wi sl su) 7)) vt vv n t) t (T + n - 6)) from (by first | exact hq9.1.symm | exact hq9.1)]; rw [show (dmx T (r8 T (mk8 T cm (cmF T cu) 7)) (r8 T (mk8 T bo (vnN wi sl su) 7)) vt vv n (t + 1)) = (va_up (dmx T (r8 T (mk8 T cm (cmF T cu) 7)) (r8 T (mk8 T bo (vnN wi sl su) 7)) vt vv n t) t ((mk8 T bo (vnN wi sl su) 7) ((8 * t) + ((T + n - 6) % 8)))) from (by first | exact hq9.2.symm | exact hq9.2)]; exact ⟨hP, hD⟩
              exact ih_7 ls H locs (by omega) trivial (by show lv_has ls 3 [(2, .int (nI (t + 1))), (1, .int (nI (T + n) - nI 6)), (0, .ref a0)]; rw [show (nI (T + n) - nI 6 : Int32) = nI (T + n - 6) from (pk_sub (by omega))]; exact lv_sub hl [0, 1, 2] rfl) hPD.1 hPD.2 hS
  · refine lv_aload_n hx hb d_M_votesAll_8 rfl (lv_at hl 1 rfl) ?_
    refine lv_iload_n hx hb d_M_votesAll_9 rfl (lv_at hl 0 rfl) ?_
    refine rr_rV (As := [.int (nI i)]) (rest := []) (idx := 118) (q0 := 0) (ci := 6) S hK hP (c_M_way l D cs a0 h9 (.int (nI T)) v1 v2 v3 v4 v5 (.ref h6) (.ref h7) (.ref h8) (.ref h10) (.ref h11) (.ref h12) (.ref h13) v14 v15 v16 v17 v18 v19 v20 v21 v22 cu i (by first | assumption | omega) (by first | assumption | omega)) k_M_way [0, 4] rfl rfl rfl rfl q_768 ⟨Nat.le_of_ble_eq_true rfl, Nat.le_of_ble_eq_true rfl⟩ ⟨Nat.le_of_ble_eq_true rfl, Nat.le_of_ble_eq_true rfl⟩ hl (Nat.le_of_ble_eq_true rfl) rfl d_M_votesAll_10 (fun r9 hr9 => ?_)
    subst hr9
    refine lv_istore_n (lv' := [(2, .int (mI (dlN cu i 7))), (1, .int (nI i)), (0, .ref a0)]) hx hb d_M_votesAll_13 rfl hl (by decide) rfl (fun ls hl => ?_)
    refine lv_aload_n hx hb d_M_votesAll_14 rfl (lv_at hl 2 rfl) ?_
    refine va_get (D := D) (ci := 6) (v := .ref h10) (C := R_M) (T := F_M) (N := 23) hx hb ht j_M hown hK.1 hP 0 rfl rfl 10 (by decide) (ht _ q_594) (fun _ h9 => h9) rfl d_M_votesAll_15 ?_
    refine lv_bipush (v := nI 8) hx hb d_M_votesAll_18 (by decide) ?_
    refine lv_iload_n hx hb d_M_votesAll_20 rfl (lv_at hl 1 rfl) ?_
    refine rr_imul (a := 8) (b := i) hx hb d_M_votesAll_21 ?_
    refine lv_aload_n hx hb d_M_votesAll_22 rfl (lv_at hl 2 rfl) ?_
    refine va_get (D := D) (ci := 6) (v := .int (nI T)) (C := R_M) (T := F_M) (N := 23) hx hb ht j_M hown hK.1 hP 0 rfl rfl 0 (by decide) (ht _ q_584) (fun _ h9 => h9) rfl d_M_votesAll_23 ?_
    refine lv_bipush (v := nI 8) hx hb d_M_votesAll_26 (by decide) ?_
    refine rr_irem (a := T) (b := 8) (by omega) (by omega) (by omega) hx hb d_M_votesAll_28 ?_
    refine rr_iadd (a := (8 * i)) (b := (T % 8)) hx hb d_M_votesAll_29 ?_
    refine lv_iload_n hx hb d_M_votesAll_30 rfl (lv_at hl 0 rfl) ?_
    refine lv_iconst (v := (-1)) hx hb d_M_votesAll_31 (by decide) ?_
    refine lv_icmp_ne (tgt := 39) hx hb d_M_votesAll_32 (by decide) (fun c32 => ?_) (fun c32 => ?_)
    · have hz9 : 0 < dlN cu i 7 := Nat.pos_of_ne_zero (fun z => c32 ((mI_m1 (by have := dlN_le (cu := cu) (t := i) (by omega) 7 (by omega); omega)).mpr z))
      refine lv_aload_n hx hb d_M_votesAll_39 rfl (lv_at hl 2 rfl) ?_
      refine va_get (D := D) (ci := 6) (v := .int (nI T)) (C := R_M) (T := F_M) (N := 23) hx hb ht j_M hown hK.1 hP 0 rfl rfl 0 (by decide) (ht _ q_584) (fun _ h9 => h9) rfl d_M_votesAll_40 ?_
      refine lv_iload_n hx hb d_M_votesAll_43 rfl (lv_at hl 0 rfl) ?_
      refine rr_top (show (mI (dlN cu i 7) : Int32) = nI (dlN cu i 7 - 1) from mI_pos hz9) ?_
      refine rr_iadd (a := T) (b := (dlN cu i 7 - 1)) hx hb d_M_votesAll_44 ?_
      refine rr_top (show (nI (T + (dlN cu i 7 - 1)) : Int32) = nI (cmF T cu i) from congrArg nI (by unfold cmF cmN; rw [if_neg (by omega)])) ?_
      refine rr_iast (q0 := 5) (n := 56) nI (mk8 T cm (cmF T cu) i) (k := ((8 * i) + (T % 8))) (v := (cmF T cu i)) hx hb hK hP hD hS rfl (by omega) (by omega) d_M_votesAll_45 (fun H locs hP hD hS => ?_)
      have hP : va_P D classes [(a0, .inr (6, [.int (nI T), v1, v2, v3, v4, v5, .ref h6, .ref h7, .ref h8, .ref h9, .ref h10, .ref h11, .ref h12, .ref h13, v14, v15, v16, v17, v18, v19, v20, v21, v22])), (h6, .inl (cs.1, 7, .inl (fun j => nI (wi j)))), (h7, .inl (cs.1, 7, .inl (fun j => nI (sl j)))), (h8, .inl (cs.1, 7, .inl (fun j => nI (su j)))), (h9, .inl (cs.1, 7, .inl (fun j => nI (cu j)))), (h10, .inl (cs.1, 56, .inl (fun j => nI ((va_up (mk8 T cm (cmF T cu) i) ((8 * i) + (T % 8)) (cmF T cu i)) j)))), (h11, .inl (cs.1, 56, .inl (fun j => nI ((mk8 T bo (vnN wi sl su) i) j)))), (h12, .inl (cs.1, 7, .inl (fun j => nI (vt j)))), (h13, .inl (cs.1, 7, .inl (fun j => nI (vv j))))] H := hP
      have hD : va_D A [(a0, .inr (6, [.int (nI T), v1, v2, v3, v4, v5, .ref h6, .ref h7, .ref h8, .ref h9, .ref h10, .ref h11, .ref h12, .ref h13, v14, v15, v16, v17, v18, v19, v20, v21, v22])), (h6, .inl (cs.1, 7, .inl (fun j => nI (wi j)))), (h7, .inl (cs.1, 7, .inl (fun j => nI (sl j)))), (h8, .inl (cs.1, 7, .inl (fun j => nI (su j)))), (h9, .inl (cs.1, 7, .inl (fun j => nI (cu j)))), (h10, .inl (cs.1, 56, .inl (fun j => nI ((va_up (mk8 T cm (cmF T cu) i) ((8 * i) + (T % 8)) (cmF T cu i)) j)))), (h11, .inl (cs.1, 56, .inl (fun j => nI ((mk8 T bo (vnN wi sl su) i) j)))), (h12, .inl (cs.1, 7, .inl (fun j => nI (vt j)))), (h13, .inl (cs.1, 7, .inl (fun j => nI (vv j))))] := hD
      refine lv_aload_n hx hb d_M_votesAll_46 rfl (lv_at hl 2 rfl) ?_
      refine va_get (D := D) (ci := 6) (v := .ref h11) (C := R_M) (T := F_M) (N := 23) hx hb ht j_M hown hK.1 hP 0 rfl rfl 11 (by decide) (ht _ q_595) (fun _ h9 => h9) rfl d_M_votesAll_47 ?_
      refine lv_bipush (v := nI 8) hx hb d_M_votesAll_50 (by decide) ?_
      refine lv_iload_n hx hb d_M_votesAll_52 rfl (lv_at hl 1 rfl) ?_
      refine rr_imul (a := 8) (b := i) hx hb d_M_votesAll_53 ?_
      refine lv_aload_n hx hb d_M_votesAll_54 rfl (lv_at hl 2 rfl) ?_
      refine va_get (D := D) (ci := 6) (v := .int (nI T)) (C := R_M) (T := F_M) (N := 23) hx hb ht j_M hown hK.1 hP 0 rfl rfl 0 (by decide) (ht _ q_584) (fun _ h9 => h9) rfl d_M_votesAll_55 ?_
      refine lv_bipush (v := nI 8) hx hb d_M_votesAll_58 (by decide) ?_
      refine rr_irem (a := T) (b := 8) (by omega) (by omega) (by omega) hx hb d_M_votesAll_60 ?_
      refine rr_iadd (a := (8 * i)) (b := (T % 8)) hx hb d_M_votesAll_61 ?_
      refine lv_aload_n hx hb d_M_votesAll_62 rfl (lv_at hl 2 rfl) ?_
      refine lv_iload_n hx hb d_M_votesAll_63 rfl (lv_at hl 1 rfl) ?_
      refine rr_rV (As := [.int (nI i)]) (rest := [.int (nI ((8 * i) + (T % 8))), .ref h11]) (idx := 99) (q0 := 0) (ci := 6) S hK hP (c_M_votesNow l D cs a0 h6 h7 h8 (.int (nI T)) v1 v2 v3 v4 v5 (.ref h9) (.ref h10) (.ref h11) (.ref h12) (.ref h13) v14 v15 v16 v17 v18 v19 v20 v21 v22 wi sl su i (by first | assumption | omega) (by first | assumption | omega)) k_M_votesNow [0, 1, 2, 3] rfl rfl rfl rfl q_708 ⟨Nat.le_of_ble_eq_true rfl, Nat.le_of_ble_eq_true rfl⟩ ⟨Nat.le_of_ble_eq_true rfl, Nat.le_of_ble_eq_true rfl⟩ hl (Nat.le_of_ble_eq_true rfl) rfl d_M_votesAll_64 (fun r9 hr9 => ?_)
      subst hr9
      refine rr_iast (q0 := 6) (n := 56) nI (mk8 T bo (vnN wi sl su) i) (k := ((8 * i) + (T % 8))) (v := (vnN wi sl su i)) hx hb hK hP hD hS rfl (by omega) (by omega) d_M_votesAll_67 (fun H locs hP hD hS => ?_)
      have hP : va_P D classes [(a0, .inr (6, [.int (nI T), v1, v2, v3, v4, v5, .ref h6, .ref h7, .ref h8, .ref h9, .ref h10, .ref h11, .ref h12, .ref h13, v14, v15, v16, v17, v18, v19, v20, v21, v22])), (h6, .inl (cs.1, 7, .inl (fun j => nI (wi j)))), (h7, .inl (cs.1, 7, .inl (fun j => nI (sl j)))), (h8, .inl (cs.1, 7, .inl (fun j => nI (su j)))), (h9, .inl (cs.1, 7, .inl (fun j => nI (cu j)))), (h10, .inl (cs.1, 56, .inl (fun j => nI ((va_up (mk8 T cm (cmF T cu) i) ((8 * i) + (T % 8)) (cmF T cu i)) j)))), (h11, .inl (cs.1, 56, .inl (fun j => nI ((va_up (mk8 T bo (vnN wi sl su) i) ((8 * i) + (T % 8)) (vnN wi sl su i)) j)))), (h12, .inl (cs.1, 7, .inl (fun j => nI (vt j)))), (h13, .inl (cs.1, 7, .inl (fun j => nI (vv j))))] H := hP
      have hD : va_D A [(a0, .inr (6, [.int (nI T), v1, v2, v3, v4, v5, .ref h6, .ref h7, .ref h8, .ref h9, .ref h10, .ref h11, .ref h12, .ref h13, v14, v15, v16, v17, v18, v19, v20, v21, v22])), (h6, .inl (cs.1, 7, .inl (fun j => nI (wi j)))), (h7, .inl (cs.1, 7, .inl (fun j => nI (sl j)))), (h8, .inl (cs.1, 7, .inl (fun j => nI (su j)))), (h9, .inl (cs.1, 7, .inl (fun j => nI (cu j)))), (h10, .inl (cs.1, 56, .inl (fun j => nI ((va_up (mk8 T cm (cmF T cu) i) ((8 * i) + (T % 8)) (cmF T cu i)) j)))), (h11, .inl (cs.1, 56, .inl (fun j => nI ((va_up (mk8 T bo (vnN wi sl su) i) ((8 * i) + (T % 8)) (vnN wi sl su i)) j)))), (h12, .inl (cs.1, 7, .inl (fun j => nI (vt j)))), (h13, .inl (cs.1, 7, .inl (fun j => nI (vv j))))] := hD
      refine lv_iinc (v := nI (i + 1)) (lv' := [(1, .int (nI (i + 1))), (2, .int (mI (dlN cu i 7))), (0, .ref a0)]) hx hb d_M_votesAll_68 hl (k := 1) rfl (nI_add i 1) (by decide) rfl (fun ls hl => ?_)
      refine lv_goto (tgt := 2) hx hb d_M_votesAll_71 (by decide) ?_
      have hPD : va_P D classes [(a0, .inr (6, [.int (nI T), v1, v2, v3, v4, v5, .ref h6, .ref h7, .ref h8, .ref h9, .ref h10, .ref h11, .ref h12, .ref h13, v14, v15, v16, v17, v18, v19, v20, v21, v22])), (h6, .inl (cs.1, 7, .inl (fun j => nI (wi j)))), (h7, .inl (cs.1, 7, .inl (fun j => nI (sl j)))), (h8, .inl (cs.1, 7, .inl (fun j => nI (su j)))), (h9, .inl (cs.1, 7, .inl (fun j => nI (cu j)))), (h10, .inl (cs.1, 56, .inl (fun j => nI ((mk8 T cm (cmF T cu) (i + 1)) j)))), (h11, .inl (cs.1, 56, .inl (fun j => nI ((mk8 T bo (vnN wi sl su) (i + 1)) j)))), (h12, .inl (cs.1, 7, .inl (fun j => nI (vt j)))), (h13, .inl (cs.1, 7, .inl (fun j => nI (vv j))))] H ∧ va_D A [(a0, .inr (6, [.int (nI T), v1, v2, v3, v4, v5, .ref h6, .ref h7, .ref h8, .ref h9, .ref h10, .ref h11, .ref h12, .ref h13, v14, v15, v16, v17, v18, v19, v20, v21, v22])), (h6, .inl (cs.1, 7, .inl (fun j => nI (wi j)))), (h7, .inl (cs.1, 7, .inl (fun j => nI (sl j)))), (h8, .inl (cs.1, 7, .inl (fun j => nI (su j)))), (h9, .inl (cs.1, 7, .inl (fun j => nI (cu j)))), (h10, .inl (cs.1, 56, .inl (fun j => nI ((mk8 T cm (cmF T cu) (i + 1)) j)))), (h11, .inl (cs.1, 56, .inl (fun j => nI ((mk8 T bo (vnN wi sl su) (i + 1)) j)))), (h12, .inl (cs.1, 7, .inl (fun j => nI (vt j)))), (h13, .inl (cs.1, 7, .inl (fun j => nI (vv j))))] := by rw [show (mk8 T cm (cmF T cu) (i + 1)) = (va_up (mk8 T cm (cmF T cu) i) ((8 * i) + (T % 8)) (cmF T cu i)) from mk8_s.symm]; rw [show (mk8 T bo (vnN wi sl su) (i + 1)) = (va_up (mk8 T bo (vnN wi sl su) i) ((8 * i) + (T % 8)) (vnN wi sl su i)) from mk8_s.symm]; exact ⟨hP, hD⟩
      exact ih_1 ls H locs (by omega) trivial (by show lv_has ls 3 [(1, .int (nI (i + 1))), (0, .ref a0)]; skip; exact lv_sub hl [0, 2] rfl) hPD.1 hPD.2 hS
    · have hz9 : dlN cu i 7 = 0 := (mI_m1 (by have := dlN_le (cu := cu) (t := i) (by omega) 7 (by omega); omega)).mp c32
      refine lv_iconst (v := nI 0) hx hb d_M_votesAll_35 (by decide) ?_
      refine lv_goto (tgt := 45) hx hb d_M_votesAll_36 (by decide) ?_
      refine rr_top (show (nI 0 : Int32) = nI (cmF T cu i) from congrArg nI (by unfold cmF cmN; rw [if_pos hz9])) ?_
      refine rr_iast (q0 := 5) (n := 56) nI (mk8 T cm (cmF T cu) i) (k := ((8 * i) + (T % 8))) (v := (cmF T cu i)) hx hb hK hP hD hS rfl (by omega) (by omega) d_M_votesAll_45 (fun H locs hP hD hS => ?_)
      have hP : va_P D classes [(a0, .inr (6, [.int (nI T), v1, v2, v3, v4, v5, .ref h6, .ref h7, .ref h8, .ref h9, .ref h10, .ref h11, .ref h12, .ref h13, v14, v15, v16, v17, v18, v19, v20, v21, v22])), (h6, .inl (cs.1, 7, .inl (fun j => nI (wi j)))), (h7, .inl (cs.1, 7, .inl (fun j => nI (sl j)))), (h8, .inl (cs.1, 7, .inl (fun j => nI (su j)))), (h9, .inl (cs.1, 7, .inl (fun j => nI (cu j)))), (h10, .inl (cs.1, 56, .inl (fun j => nI ((va_up (mk8 T cm (cmF T cu) i) ((8 * i) + (T % 8)) (cmF T cu i)) j)))), (h11, .inl (cs.1, 56, .inl (fun j => nI ((mk8 T bo (vnN wi sl su) i) j)))), (h12, .inl (cs.1, 7, .inl (fun j => nI (vt j)))), (h13, .inl (cs.1, 7, .inl (fun j => nI (vv j))))] H := hP
      have hD : va_D A [(a0, .inr (6, [.int (nI T), v1, v2, v3, v4, v5, .ref h6, .ref h7, .ref h8, .ref h9, .ref h10, .ref h11, .ref h12, .ref h13, v14, v15, v16, v17, v18, v19, v20, v21, v22])), (h6, .inl (cs.1, 7, .inl (fun j => nI (wi j)))), (h7, .inl (cs.1, 7, .inl (fun j => nI (sl j)))), (h8, .inl (cs.1, 7, .inl (fun j => nI (su j)))), (h9, .inl (cs.1, 7, .inl (fun j => nI (cu j)))), (h10, .inl (cs.1, 56, .inl (fun j => nI ((va_up (mk8 T cm (cmF T cu) i) ((8 * i) + (T % 8)) (cmF T cu i)) j)))), (h11, .inl (cs.1, 56, .inl (fun j => nI ((mk8 T bo (vnN wi sl su) i) j)))), (h12, .inl (cs.1, 7, .inl (fun j => nI (vt j)))), (h13, .inl (cs.1, 7, .inl (fun j => nI (vv j))))] := hD
      refine lv_aload_n hx hb d_M_votesAll_46 rfl (lv_at hl 2 rfl) ?_
      refine va_get (D := D) (ci := 6) (v := .ref h11) (C := R_M) (T := F_M) (N := 23) hx hb ht j_M hown hK.1 hP 0 rfl rfl 11 (by decide) (ht _ q_595) (fun _ h9 => h9) rfl d_M_votesAll_47 ?_
      refine lv_bipush (v := nI 8) hx hb d_M_votesAll_50 (by decide) ?_
      refine lv_iload_n hx hb d_M_votesAll_52 rfl (lv_at hl 1 rfl) ?_
      refine rr_imul (a := 8) (b := i) hx hb d_M_votesAll_53 ?_
      refine lv_aload_n hx hb d_M_votesAll_54 rfl (lv_at hl 2 rfl) ?_
      refine va_get (D := D) (ci := 6) (v := .int (nI T)) (C := R_M) (T := F_M) (N := 23) hx hb ht j_M hown hK.1 hP 0 rfl rfl 0 (by decide) (ht _ q_584) (fun _ h9 => h9) rfl d_M_votesAll_55 ?_
      refine lv_bipush (v := nI 8) hx hb d_M_votesAll_58 (by decide) ?_
      refine rr_irem (a := T) (b := 8) (by omega) (by omega) (by omega) hx hb d_M_votesAll_60 ?_
      refine rr_iadd (a := (8 * i)) (b := (T % 8)) hx hb d_M_votesAll_61 ?_
      refine lv_aload_n hx hb d_M_votesAll_62 rfl (lv_at hl 2 rfl) ?_
      refine lv_iload_n hx hb d_M_votesAll_63 rfl (lv_at hl 1 rfl) ?_
      refine rr_rV (As := [.int (nI i)]) (rest := [.int (nI ((8 * i) + (T % 8))), .ref h11]) (idx := 99) (q0 := 0) (ci := 6) S hK hP (c_M_votesNow l D cs a0 h6 h7 h8 (.int (nI T)) v1 v2 v3 v4 v5 (.ref h9) (.ref h10) (.ref h11) (.ref h12) (.ref h13) v14 v15 v16 v17 v18 v19 v20 v21 v22 wi sl su i (by first | assumption | omega) (by first | assumption | omega)) k_M_votesNow [0, 1, 2, 3] rfl rfl rfl rfl q_708 ⟨Nat.le_of_ble_eq_true rfl, Nat.le_of_ble_eq_true rfl⟩ ⟨Nat.le_of_ble_eq_true rfl, Nat.le_of_ble_eq_true rfl⟩ hl (Nat.le_of_ble_eq_true rfl) rfl d_M_votesAll_64 (fun r9 hr9 => ?_)
      subst hr9
      refine rr_iast (q0 := 6) (n := 56) nI (mk8 T bo (vnN wi sl su) i) (k := ((8 * i) + (T % 8))) (v := (vnN wi sl su i)) hx hb hK hP hD hS rfl (by omega) (by omega) d_M_votesAll_67 (fun H locs hP hD hS => ?_)
      have hP : va_P D classes [(a0, .inr (6, [.int (nI T), v1, v2, v3, v4, v5, .ref h6, .ref h7, .ref h8, .ref h9, .ref h10, .ref h11, .ref h12, .ref h13, v14, v15, v16, v17, v18, v19, v20, v21, v22])), (h6, .inl (cs.1, 7, .inl (fun j => nI (wi j)))), (h7, .inl (cs.1, 7, .inl (fun j => nI (sl j)))), (h8, .inl (cs.1, 7, .inl (fun j => nI (su j)))), (h9, .inl (cs.1, 7, .inl (fun j => nI (cu j)))), (h10, .inl (cs.1, 56, .inl (fun j => nI ((va_up (mk8 T cm (cmF T cu) i) ((8 * i) + (T % 8)) (cmF T cu i)) j)))), (h11, .inl (cs.1, 56, .inl (fun j => nI ((va_up (mk8 T bo (vnN wi sl su) i) ((8 * i) + (T % 8)) (vnN wi sl su i)) j)))), (h12, .inl (cs.1, 7, .inl (fun j => nI (vt j)))), (h13, .inl (cs.1, 7, .inl (fun j => nI (vv j))))] H := hP
      have hD : va_D A [(a0, .inr (6, [.int (nI T), v1, v2, v3, v4, v5, .ref h6, .ref h7, .ref h8, .ref h9, .ref h10, .ref h11, .ref h12, .ref h13, v14, v15, v16, v17, v18, v19, v20, v21, v22])), (h6, .inl (cs.1, 7, .inl (fun j => nI (wi j)))), (h7, .inl (cs.1, 7, .inl (fun j => nI (sl j)))), (h8, .inl (cs.1, 7, .inl (fun j => nI (su j)))), (h9, .inl (cs.1, 7, .inl (fun j => nI (cu j)))), (h10, .inl (cs.1, 56, .inl (fun j => nI ((va_up (mk8 T cm (cmF T cu) i) ((8 * i) + (T % 8)) (cmF T cu i)) j)))), (h11, .inl (cs.1, 56, .inl (fun j => nI ((va_up (mk8 T bo (vnN wi sl su) i) ((8 * i) + (T % 8)) (vnN wi sl su i)) j)))), (h12, .inl (cs.1, 7, .inl (fun j => nI (vt j)))), (h13, .inl (cs.1, 7, .inl (fun j => nI (vv j))))] := hD
      refine lv_iinc (v := nI (i + 1)) (lv' := [(1, .int (nI (i + 1))), (2, .int (mI (dlN cu i 7))), (0, .ref a0)]) hx hb d_M_votesAll_68 hl (k := 1) rfl (nI_add i 1) (by decide) rfl (fun ls hl => ?_)
      refine lv_goto (tgt := 2) hx hb d_M_votesAll_71 (by decide) ?_
      have hPD : va_P D classes [(a0, .inr (6, [.int (nI T), v1, v2, v3, v4, v5, .ref h6, .ref h7, .ref h8, .ref h9, .ref h10, .ref h11, .ref h12, .ref h13, v14, v15, v16, v17, v18, v19, v20, v21, v22])), (h6, .inl (cs.1, 7, .inl (fun j => nI (wi j)))), (h7, .inl (cs.1, 7, .inl (fun j => nI (sl j)))), (h8, .inl (cs.1, 7, .inl (fun j => nI (su j)))), (h9, .inl (cs.1, 7, .inl (fun j => nI (cu j)))), (h10, .inl (cs.1, 56, .inl (fun j => nI ((mk8 T cm (cmF T cu) (i + 1)) j)))), (h11, .inl (cs.1, 56, .inl (fun j => nI ((mk8 T bo (vnN wi sl su) (i + 1)) j)))), (h12, .inl (cs.1, 7, .inl (fun j => nI (vt j)))), (h13, .inl (cs.1, 7, .inl (fun j => nI (vv j))))] H ∧ va_D A [(a0, .inr (6, [.int (nI T), v1, v2, v3, v4, v5, .ref h6, .ref h7, .ref h8, .ref h9, .ref h10, .ref h11, .ref h12, .ref h13, v14, v15, v16, v17, v18, v19, v20, v21, v22])), (h6, .inl (cs.1, 7, .inl (fun j => nI (wi j)))), (h7, .inl (cs.1, 7, .inl (fun j => nI (sl j)))), (h8, .inl (cs.1, 7, .inl (fun j => nI (su j)))), (h9, .inl (cs.1, 7, .inl (fun j => nI (cu j)))), (h10, .inl (cs.1, 56, .inl (fun j => nI ((mk8 T cm (cmF T cu) (i + 1)) j)))), (h11, .inl (cs.1, 56, .inl (fun j => nI ((mk8 T bo (vnN wi sl su) (i + 1)) j)))), (h12, .inl (cs.1, 7, .inl (fun j => nI (vt j)))), (h13, .inl (cs.1, 7, .inl (fun j => nI (vv j))))] := by rw [show (mk8 T cm (cmF T cu) (i + 1)) = (va_up (mk8 T cm (cmF T cu) i) ((8 * i) + (T % 8)) (cmF T cu i)) from mk8_s.symm]; rw [show (mk8 T bo (vnN wi sl su) (i + 1)) = (va_up (mk8 T bo (vnN wi sl su) i) ((8 * i) + (T % 8)) (vnN wi sl su i)) from mk8_s.symm]; exact ⟨hP, hD⟩
      exact ih_1 ls H locs (by omega) trivial (by show lv_has ls 3 [(1, .int (nI (i + 1))), (0, .ref a0)]; skip; exact lv_sub hl [0, 2] rfl) hPD.1 hPD.2 hS
