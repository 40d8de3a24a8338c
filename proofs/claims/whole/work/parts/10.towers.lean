theorem k_W_ballotOf : rr_CK y_W_ballotOf b_W_ballotOf 2 (some .int) 1 := ⟨q_406, q_407, q_3, q_408, by decide, by decide, by decide +kernel⟩
set_option maxHeartbeats 4000000 in
set_option maxRecDepth 100000 in
/-- Towers.ballotOf -/
theorem c_W_ballotOf (l : Launch) (D : va_G) (cs : rr_C3) (h0 : Nat) (h1 : Nat) (h2 : Nat) (h3 : Nat) (v3 : Value) (wi : Nat → Nat) (sl : Nat → Nat) (su : Nat → Nat) (k : Nat) (hk : k < 7) (hwb : ∀ j, j < 7 → wi j ≤ 150 ∧ sl j ≤ 150 ∧ su j ≤ 150) : RO l y_W_ballotOf b_W_ballotOf 2 (some .int) 0 0 D cs [(h0, .inr (4, [.ref h1, .ref h2, .ref h3, v3])), (h1, .inl (cs.1, 7, .inl (fun j => nI (wi j)))), (h2, .inl (cs.1, 7, .inl (fun j => nI (sl j)))), (h3, .inl (cs.1, 7, .inl (fun j => nI (su j))))] [.ref h0, .int (nI k)] (fun r => r = nI (vnN wi sl su k)) := by
  refine RO.of (by decide) (Nat.le_of_ble_eq_true rfl) ?_
  intro p e s m args below meth c S hr hlk hK hP ls hl
  obtain ⟨hx, hb, hml, hown, ht⟩ := id S
  have hl : lv_has ls 2 [(0, .ref h0), (1, .int (nI k))] := hl
  have hwb9 := hwb k hk
  refine lv_aload_n hx hb d_W_ballotOf_0 rfl (lv_at hl 0 rfl) ?_
  refine va_get (D := D) (ci := 4) (v := .ref h1) (C := R_W) (T := F_W) (N := 4) hx hb ht j_W hown hK.1 hP 0 rfl rfl 0 (by decide) (ht _ q_54) (fun _ h9 => h9) rfl d_W_ballotOf_1 ?_
  refine lv_iload_n hx hb d_W_ballotOf_4 rfl (lv_at hl 1 rfl) ?_
  refine rr_iald (q0 := 1) (n := 7) (f := (fun j => nI (wi j))) (k := k) hx hb hK hP rfl (by omega) (by omega) d_W_ballotOf_5 ?_
  refine lv_aload_n hx hb d_W_ballotOf_6 rfl (lv_at hl 0 rfl) ?_
  refine va_get (D := D) (ci := 4) (v := .ref h2) (C := R_W) (T := F_W) (N := 4) hx hb ht j_W hown hK.1 hP 0 rfl rfl 1 (by decide) (ht _ q_56) (fun _ h9 => h9) rfl d_W_ballotOf_7 ?_
  refine lv_iload_n hx hb d_W_ballotOf_10 rfl (lv_at hl 1 rfl) ?_
  refine rr_iald (q0 := 2) (n := 7) (f := (fun j => nI (sl j))) (k := k) hx hb hK hP rfl (by omega) (by omega) d_W_ballotOf_11 ?_
  refine rr_icmp_ge (a := (wi k)) (b := (sl k)) (tgt := 17) (by omega) (by omega) hx hb d_W_ballotOf_12 (by decide) (fun c12 => ?_) (fun c12 => ?_)
  · refine lv_aload_n hx hb d_W_ballotOf_17 rfl (lv_at hl 0 rfl) ?_
    refine va_get (D := D) (ci := 4) (v := .ref h1) (C := R_W) (T := F_W) (N := 4) hx hb ht j_W hown hK.1 hP 0 rfl rfl 0 (by decide) (ht _ q_54) (fun _ h9 => h9) rfl d_W_ballotOf_18 ?_
    refine lv_iload_n hx hb d_W_ballotOf_21 rfl (lv_at hl 1 rfl) ?_
    refine rr_iald (q0 := 1) (n := 7) (f := (fun j => nI (wi j))) (k := k) hx hb hK hP rfl (by omega) (by omega) d_W_ballotOf_22 ?_
    refine lv_aload_n hx hb d_W_ballotOf_23 rfl (lv_at hl 0 rfl) ?_
    refine va_get (D := D) (ci := 4) (v := .ref h3) (C := R_W) (T := F_W) (N := 4) hx hb ht j_W hown hK.1 hP 0 rfl rfl 2 (by decide) (ht _ q_58) (fun _ h9 => h9) rfl d_W_ballotOf_24 ?_
    refine lv_iload_n hx hb d_W_ballotOf_27 rfl (lv_at hl 1 rfl) ?_
    refine rr_iald (q0 := 3) (n := 7) (f := (fun j => nI (su j))) (k := k) hx hb hK hP rfl (by omega) (by omega) d_W_ballotOf_28 ?_
    refine rr_icmp_ge (a := (wi k)) (b := (su k)) (tgt := 36) (by omega) (by omega) hx hb d_W_ballotOf_29 (by decide) (fun c29 => ?_) (fun c29 => ?_)
    · refine lv_iconst (v := nI 0) hx hb d_W_ballotOf_36 (by decide) ?_
      exact rr_ret hx hb hr hlk (congrArg nI (by unfold vnN; repeat (first | omega | split))) d_W_ballotOf_37
    · refine lv_iconst (v := nI 1) hx hb d_W_ballotOf_32 (by decide) ?_
      refine lv_goto (tgt := 37) hx hb d_W_ballotOf_33 (by decide) ?_
      exact rr_ret hx hb hr hlk (congrArg nI (by unfold vnN; repeat (first | omega | split))) d_W_ballotOf_37
  · refine lv_iconst (v := nI 2) hx hb d_W_ballotOf_15 (by decide) ?_
    exact rr_ret hx hb hr hlk (congrArg nI (by unfold vnN; repeat (first | omega | split))) d_W_ballotOf_16
theorem k_W_countCutOff : rr_CK y_W_countCutOff b_W_countCutOff 3 (some .int) 0 := ⟨q_425, q_426, q_3, q_427, by decide, by decide, by decide +kernel⟩
set_option maxHeartbeats 4000000 in
set_option maxRecDepth 100000 in
/-- Towers.countCutOff -/
theorem c_W_countCutOff (l : Launch) (D : va_G) (cs : rr_C3) (h0 : Nat) (h4 : Nat) (v0 : Value) (v1 : Value) (v2 : Value) (cu : Nat → Nat) (hcu : ∀ j, j < 7 → cu j ≤ 1) : RO l y_W_countCutOff b_W_countCutOff 3 (some .int) 0 0 D cs [(h0, .inr (4, [v0, v1, v2, .ref h4])), (h4, .inl (cs.2.1, 7, .inl (fun j => nI (cu j))))] [.ref h0] (fun r => r = nI (ct cu 7)) := by
  refine RO.of (by decide) (Nat.le_of_ble_eq_true rfl) ?_
  intro p e s m args below meth c S hr hlk hK hP ls hl
  obtain ⟨hx, hb, hml, hown, ht⟩ := id S
  have hl : lv_has ls 3 [(0, .ref h0)] := hl
  refine lv_iconst (v := nI 0) hx hb d_W_countCutOff_0 (by decide) ?_
  refine lv_istore_n (lv' := [(1, .int (nI 0)), (0, .ref h0)]) hx hb d_W_countCutOff_1 rfl hl (by decide) rfl (fun ls hl => ?_)
  refine lv_iconst (v := nI 0) hx hb d_W_countCutOff_2 (by decide) ?_
  refine lv_istore_n (lv' := [(2, .int (nI 0)), (1, .int (nI 0)), (0, .ref h0)]) hx hb d_W_countCutOff_3 rfl hl (by decide) rfl (fun ls hl => ?_)
  refine rr_loop (fun i => [(2, .int (nI i)), (1, .int (nI (ct cu i))), (0, .ref h0)]) (fun i => True) 0 7 (by omega) trivial (lv_sub hl [0, 1, 2] rfl) (fun i ls hi_2 hI_3 hl ih_1 => ?_)
  have hl : lv_has ls 3 [(2, .int (nI i)), (1, .int (nI (ct cu i))), (0, .ref h0)] := hl
  refine lv_iload_n hx hb d_W_countCutOff_4 rfl (lv_at hl 0 rfl) ?_
  refine lv_bipush (v := nI 7) hx hb d_W_countCutOff_5 (by decide) ?_
  refine rr_icmp_ge (a := i) (b := 7) (tgt := 28) (by omega) (by omega) hx hb d_W_countCutOff_7 (by decide) (fun c7 => ?_) (fun c7 => ?_)
  · refine lv_iload_n hx hb d_W_countCutOff_28 rfl (lv_at hl 1 rfl) ?_
    exact rr_ret hx hb hr hlk (by rw [show i = 7 from by omega]) d_W_countCutOff_29
  · refine lv_aload_n hx hb d_W_countCutOff_10 rfl (lv_at hl 2 rfl) ?_
    refine va_get (D := D) (ci := 4) (v := .ref h4) (C := R_W) (T := F_W) (N := 4) hx hb ht j_W hown hK.1 hP 0 rfl rfl 3 (by decide) (ht _ q_60) (fun _ h9 => h9) rfl d_W_countCutOff_11 ?_
    refine lv_iload_n hx hb d_W_countCutOff_14 rfl (lv_at hl 0 rfl) ?_
    refine rr_zald (q0 := 1) (n := 7) (f := (fun j => nI (cu j))) (k := i) hx hb hK hP rfl (by omega) (by omega) d_W_countCutOff_15 ?_
    have hcu9 := hcu i (by omega)
    refine rr_if_eq (a := (cu i)) (tgt := 22) (by omega) hx hb d_W_countCutOff_16 (by decide) (fun c16 => ?_) (fun c16 => ?_)
    · refine lv_iinc (v := nI (i + 1)) (lv' := [(2, .int (nI (i + 1))), (1, .int (nI (ct cu i))), (0, .ref h0)]) hx hb d_W_countCutOff_22 hl (k := 0) rfl (nI_add i 1) (by decide) rfl (fun ls hl => ?_)
      refine lv_goto (tgt := 4) hx hb d_W_countCutOff_25 (by decide) ?_
      exact ih_1 ls (by omega) trivial (by show lv_has ls 3 [(2, .int (nI (i + 1))), (1, .int (nI (ct cu (i + 1)))), (0, .ref h0)]; rw [show (nI (ct cu (i + 1)) : Int32) = nI (ct cu i) from congrArg nI (by rw [ct_s]; omega)]; exact lv_sub hl [0, 1, 2] rfl)
    · refine lv_iinc (v := nI (ct cu i + 1)) (lv' := [(1, .int (nI (ct cu i + 1))), (2, .int (nI i)), (0, .ref h0)]) hx hb d_W_countCutOff_19 hl (k := 1) rfl (nI_add (ct cu i) 1) (by decide) rfl (fun ls hl => ?_)
      refine lv_iinc (v := nI (i + 1)) (lv' := [(2, .int (nI (i + 1))), (1, .int (nI (ct cu i + 1))), (0, .ref h0)]) hx hb d_W_countCutOff_22 hl (k := 1) rfl (nI_add i 1) (by decide) rfl (fun ls hl => ?_)
      refine lv_goto (tgt := 4) hx hb d_W_countCutOff_25 (by decide) ?_
      exact ih_1 ls (by omega) trivial (by show lv_has ls 3 [(2, .int (nI (i + 1))), (1, .int (nI (ct cu (i + 1)))), (0, .ref h0)]; rw [show (nI (ct cu (i + 1)) : Int32) = nI (ct cu i + 1) from congrArg nI (by rw [ct_s]; omega)]; exact lv_sub hl [0, 1, 2] rfl)
theorem k_W_delayOf : rr_CK y_W_delayOf b_W_delayOf 5 (some .int) 1 := ⟨q_460, q_461, q_3, q_462, by decide, by decide, by decide +kernel⟩
set_option maxHeartbeats 4000000 in
set_option maxRecDepth 100000 in
/-- Towers.delayOf -/
theorem c_W_delayOf (l : Launch) (D : va_G) (cs : rr_C3) (h0 : Nat) (h4 : Nat) (v0 : Value) (v1 : Value) (v2 : Value) (cu : Nat → Nat) (k : Nat) (hk : k < 7) (hcu : ∀ j, j < 7 → cu j ≤ 1) : RO l y_W_delayOf b_W_delayOf 5 (some .int) 1 13 D cs [(h0, .inr (4, [v0, v1, v2, .ref h4])), (h4, .inl (cs.2.1, 7, .inl (fun j => nI (cu j))))] [.ref h0, .int (nI k)] (fun r => r = mI (dlN cu k 7)) := by
  refine RO.of (by decide) (Nat.le_of_ble_eq_true rfl) ?_
  intro p e s m args below meth c S hr hlk hK hP ls hl
  obtain ⟨hx, hb, hml, hown, ht⟩ := id S
  have hl : lv_has ls 5 [(0, .ref h0), (1, .int (nI k))] := hl
  refine lv_iconst (v := (-1)) hx hb d_W_delayOf_0 (by decide) ?_
  refine lv_istore_n (lv' := [(2, .int (-1)), (0, .ref h0), (1, .int (nI k))]) hx hb d_W_delayOf_1 rfl hl (by decide) rfl (fun ls hl => ?_)
  refine lv_iconst (v := nI 0) hx hb d_W_delayOf_2 (by decide) ?_
  refine lv_istore_n (lv' := [(3, .int (nI 0)), (2, .int (-1)), (0, .ref h0), (1, .int (nI k))]) hx hb d_W_delayOf_3 rfl hl (by decide) rfl (fun ls hl => ?_)
  refine rr_loop (fun i => [(3, .int (nI i)), (2, .int (mI (dlN cu k i))), (0, .ref h0), (1, .int (nI k))]) (fun i => True) 0 7 (by omega) trivial (lv_sub hl [0, 1, 2, 3] rfl) (fun i ls hi_2 hI_3 hl ih_1 => ?_)
  have hl : lv_has ls 5 [(3, .int (nI i)), (2, .int (mI (dlN cu k i))), (0, .ref h0), (1, .int (nI k))] := hl
  refine lv_iload_n hx hb d_W_delayOf_4 rfl (lv_at hl 0 rfl) ?_
  refine lv_bipush (v := nI 7) hx hb d_W_delayOf_5 (by decide) ?_
  refine rr_icmp_ge (a := i) (b := 7) (tgt := 50) (by omega) (by omega) hx hb d_W_delayOf_7 (by decide) (fun c7 => ?_) (fun c7 => ?_)
  · refine lv_iload_n hx hb d_W_delayOf_50 rfl (lv_at hl 1 rfl) ?_
    exact rr_ret hx hb hr hlk (by rw [show i = 7 from by omega]) d_W_delayOf_51
  · refine lv_aload_n hx hb d_W_delayOf_10 rfl (lv_at hl 2 rfl) ?_
    refine va_get (D := D) (ci := 4) (v := .ref h4) (C := R_W) (T := F_W) (N := 4) hx hb ht j_W hown hK.1 hP 0 rfl rfl 3 (by decide) (ht _ q_60) (fun _ h9 => h9) rfl d_W_delayOf_11 ?_
    refine lv_iload_n hx hb d_W_delayOf_14 rfl (lv_at hl 0 rfl) ?_
    refine rr_zald (q0 := 1) (n := 7) (f := (fun j => nI (cu j))) (k := i) hx hb hK hP rfl (by omega) (by omega) d_W_delayOf_15 ?_
    have hcu9 := hcu i (by omega)
    refine rr_if_ne (a := (cu i)) (tgt := 44) (by omega) hx hb d_W_delayOf_16 (by decide) (fun c16 => ?_) (fun c16 => ?_)
    · refine lv_iinc (v := nI (i + 1)) (lv' := [(3, .int (nI (i + 1))), (2, .int (mI (dlN cu k i))), (0, .ref h0), (1, .int (nI k))]) hx hb d_W_delayOf_44 hl (k := 0) rfl (nI_add i 1) (by decide) rfl (fun ls hl => ?_)
      refine lv_goto (tgt := 4) hx hb d_W_delayOf_47 (by decide) ?_
      exact ih_1 ls (by omega) trivial (by show lv_has ls 5 [(3, .int (nI (i + 1))), (2, .int (mI (dlN cu k (i + 1)))), (0, .ref h0), (1, .int (nI k))]; rw [show (mI (dlN cu k (i + 1)) : Int32) = mI (dlN cu k i) from (by rw [dlN_f (by omega)])]; exact lv_sub hl [0, 1, 2, 3] rfl)
    · refine lv_iload_n hx hb d_W_delayOf_19 rfl (lv_at hl 3 rfl) ?_
      refine lv_iload_n hx hb d_W_delayOf_20 rfl (lv_at hl 0 rfl) ?_
      refine lv_isub hx hb d_W_delayOf_21 ?_
      refine va_mabs hx hb (by rw [hml]; exact hl.1.symm) hown (ht _ q_463) (ht _ q_177) (ht _ q_8) (ht _ q_178) (Nat.le_of_ble_eq_true rfl) (Nat.le_of_ble_eq_true rfl) (Nat.zero_le _) (Nat.zero_le _) d_W_delayOf_22 ?_
      refine rr_top (show (if 0 ≤ (nI k) - (nI i) then (nI k) - (nI i) else 0 - ((nI k) - (nI i)) : Int32) = nI (adf k i) from adf_abs (by omega) (by omega)) ?_
      have had9 : adf k i < 7 := adf_lt hk (by omega)
      have hac9 : dlN cu k i ≤ 7 := dlN_le hk i (by omega)
      refine lv_istore (lv' := [(4, .int (nI (adf k i))), (3, .int (nI i)), (2, .int (mI (dlN cu k i))), (0, .ref h0), (1, .int (nI k))]) hx hb d_W_delayOf_25 hl (by decide) rfl (fun ls hl => ?_)
      refine lv_iload_n hx hb d_W_delayOf_27 rfl (lv_at hl 2 rfl) ?_
      refine lv_iconst (v := (-1)) hx hb d_W_delayOf_28 (by decide) ?_
      refine lv_icmp_ne (tgt := 37) hx hb d_W_delayOf_29 (by decide) (fun c29 => ?_) (fun c29 => ?_)
      · have hz9 : 0 < dlN cu k i := Nat.pos_of_ne_zero (fun z => c29 ((mI_m1 (by omega)).mpr z))
        refine lv_iload_n hx hb d_W_delayOf_37 rfl (lv_at hl 2 rfl) ?_
        refine rr_top (show (mI (dlN cu k i) : Int32) = nI ((dlN cu k i) - 1) from mI_pos hz9) ?_
        refine lv_iload hx hb d_W_delayOf_38 (lv_at hl 0 rfl) ?_
        refine va_mmin hx hb (by rw [hml]; exact hl.1.symm) hown (ht _ q_464) (ht _ q_180) (ht _ q_8) (ht _ q_181) (Nat.le_of_ble_eq_true rfl) (Nat.le_of_ble_eq_true rfl) (Nat.zero_le _) (Nat.zero_le _) d_W_delayOf_40 ?_
        refine rr_top (rr_min (a := ((dlN cu k i) - 1)) (b := (adf k i)) (by omega) (by omega)) ?_
        refine lv_istore_n (lv' := [(2, .int (nI (min ((dlN cu k i) - 1) (adf k i)))), (4, .int (nI (adf k i))), (3, .int (nI i)), (0, .ref h0), (1, .int (nI k))]) hx hb d_W_delayOf_43 rfl hl (by decide) rfl (fun ls hl => ?_)
        refine lv_iinc (v := nI (i + 1)) (lv' := [(3, .int (nI (i + 1))), (2, .int (nI (min ((dlN cu k i) - 1) (adf k i)))), (4, .int (nI (adf k i))), (0, .ref h0), (1, .int (nI k))]) hx hb d_W_delayOf_44 hl (k := 2) rfl (nI_add i 1) (by decide) rfl (fun ls hl => ?_)
        refine lv_goto (tgt := 4) hx hb d_W_delayOf_47 (by decide) ?_
        exact ih_1 ls (by omega) trivial (by show lv_has ls 5 [(3, .int (nI (i + 1))), (2, .int (mI (dlN cu k (i + 1)))), (0, .ref h0), (1, .int (nI k))]; rw [show (mI (dlN cu k (i + 1)) : Int32) = nI (min ((dlN cu k i) - 1) (adf k i)) from (by rw [dlN_t (by omega), mgn_1 hz9])]; exact lv_sub hl [0, 1, 3, 4] rfl)
      · have hz9 : dlN cu k i = 0 := (mI_m1 (by omega)).mp c29
        refine lv_iload hx hb d_W_delayOf_32 (lv_at hl 0 rfl) ?_
        refine lv_goto (tgt := 43) hx hb d_W_delayOf_34 (by decide) ?_
        refine lv_istore_n (lv' := [(2, .int (nI (adf k i))), (4, .int (nI (adf k i))), (3, .int (nI i)), (0, .ref h0), (1, .int (nI k))]) hx hb d_W_delayOf_43 rfl hl (by decide) rfl (fun ls hl => ?_)
        refine lv_iinc (v := nI (i + 1)) (lv' := [(3, .int (nI (i + 1))), (2, .int (nI (adf k i))), (4, .int (nI (adf k i))), (0, .ref h0), (1, .int (nI k))]) hx hb d_W_delayOf_44 hl (k := 2) rfl (nI_add i 1) (by decide) rfl (fun ls hl => ?_)
        refine lv_goto (tgt := 4) hx hb d_W_delayOf_47 (by decide) ?_
        exact ih_1 ls (by omega) trivial (by show lv_has ls 5 [(3, .int (nI (i + 1))), (2, .int (mI (dlN cu k (i + 1)))), (0, .ref h0), (1, .int (nI k))]; rw [show (mI (dlN cu k (i + 1)) : Int32) = nI (adf k i) from (by rw [dlN_t (by omega), mgn_0 hz9])]; exact lv_sub hl [0, 1, 3, 4] rfl)
