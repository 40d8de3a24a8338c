theorem k_K_has : rr_CK y_K_has b_K_has 2 (some .boolean) 1 := ⟨q_409, q_410, q_6, q_411, by decide, by decide, by decide +kernel⟩
set_option maxHeartbeats 4000000 in
set_option maxRecDepth 100000 in
/-- Tickets.has -/
theorem c_K_has (l : Launch) (D : va_G) (cs : rr_C3) (h0 : Nat) (v0 : Value) (v1 : Value) (v2 : Value) (v3 : Value) (v4 : Value) (v5 : Value) (n9 : Nat) (x : Int32) (hn : n9 ≤ 60) : RO l y_K_has b_K_has 2 (some .boolean) 0 0 D cs [(h0, .inr (3, [v0, v1, v2, v3, v4, v5, .int (nI n9)]))] [.ref h0, .int x] (fun r => r = nI (bq (ix 60 x < n9))) := by
  refine RO.of (by decide) (Nat.le_of_ble_eq_true rfl) ?_
  intro p e s m args below meth c S hr hlk hK hP ls hl
  obtain ⟨hx, hb, hml, hown, ht⟩ := id S
  have hl : lv_has ls 2 [(0, .ref h0), (1, .int x)] := hl
  refine lv_iload_n hx hb d_K_has_0 rfl (lv_at hl 1 rfl) ?_
  refine lv_if_lt (tgt := 22) hx hb d_K_has_1 (by decide) (fun c1 => ?_) (fun c1 => ?_)
  · have e9 := ix_neg (n := 60) c1
    refine lv_iconst (v := nI 0) hx hb d_K_has_22 (by decide) ?_
    exact rr_retZ (v := 0) (by first | exact bq_le _ | omega) hx hb hr hlk (congrArg nI (bq_f (by omega)).symm) d_K_has_23
  · refine lv_iload_n hx hb d_K_has_4 rfl (lv_at hl 1 rfl) ?_
    refine lv_aload_n hx hb d_K_has_5 rfl (lv_at hl 0 rfl) ?_
    refine va_get (D := D) (ci := 3) (v := .int (nI n9)) (C := R_K) (T := F_K) (N := 7) hx hb ht j_K hown hK.1 hP 0 rfl rfl 6 (by decide) (ht _ q_112) (fun _ h9 => h9) rfl d_K_has_6 ?_
    refine lv_icmp_ge (tgt := 22) hx hb d_K_has_9 (by decide) (fun c9 => ?_) (fun c9 => ?_)
    · have e9 := ix_ge (k := 60) (by decide) hn c9
      refine lv_iconst (v := nI 0) hx hb d_K_has_22 (by decide) ?_
      exact rr_retZ (v := 0) (by first | exact bq_le _ | omega) hx hb hr hlk (congrArg nI (bq_f (by omega)).symm) d_K_has_23
    · have e9 := ix_lt2 (k := 60) (by decide) hn c1 c9
      refine lv_iload_n hx hb d_K_has_12 rfl (lv_at hl 1 rfl) ?_
      refine lv_bipush (v := nI 60) hx hb d_K_has_13 (by decide) ?_
      refine lv_icmp_ge (tgt := 22) hx hb d_K_has_15 (by decide) (fun c15 => ?_) (fun c15 => ?_)
      · have e8 := ix_big (n := 60) (by decide) c15
        refine lv_iconst (v := nI 0) hx hb d_K_has_22 (by decide) ?_
        exact rr_retZ (v := 0) (by first | exact bq_le _ | omega) hx hb hr hlk (congrArg nI (bq_f (by omega)).symm) d_K_has_23
      · refine lv_iconst (v := nI 1) hx hb d_K_has_18 (by decide) ?_
        refine lv_goto (tgt := 23) hx hb d_K_has_19 (by decide) ?_
        exact rr_retZ (v := 1) (by first | exact bq_le _ | omega) hx hb hr hlk (congrArg nI (bq_t (by omega)).symm) d_K_has_23
theorem k_K_isLeft : rr_CK y_K_isLeft b_K_isLeft 1 (some .boolean) 0 := ⟨q_489, q_490, q_6, q_491, by decide, by decide, by decide +kernel⟩
set_option maxHeartbeats 4000000 in
set_option maxRecDepth 100000 in
/-- Tickets.isLeft -/
theorem c_K_isLeft (l : Launch) (D : va_G) (cs : rr_C3) (h0 : Nat) (v0 : Value) (v1 : Value) (v2 : Value) (v3 : Value) (v4 : Value) (v5 : Value) (n9 : Nat) (hn : n9 ≤ 60) : RO l y_K_isLeft b_K_isLeft 1 (some .boolean) 0 0 D cs [(h0, .inr (3, [v0, v1, v2, v3, v4, v5, .int (nI n9)]))] [.ref h0] (fun r => r = nI (bq (n9 < 60))) := by
  refine RO.of (by decide) (Nat.le_of_ble_eq_true rfl) ?_
  intro p e s m args below meth c S hr hlk hK hP ls hl
  obtain ⟨hx, hb, hml, hown, ht⟩ := id S
  have hl : lv_has ls 1 [(0, .ref h0)] := hl
  refine lv_aload_n hx hb d_K_isLeft_0 rfl (lv_at hl 0 rfl) ?_
  refine va_get (D := D) (ci := 3) (v := .int (nI n9)) (C := R_K) (T := F_K) (N := 7) hx hb ht j_K hown hK.1 hP 0 rfl rfl 6 (by decide) (ht _ q_112) (fun _ h9 => h9) rfl d_K_isLeft_1 ?_
  refine lv_bipush (v := nI 60) hx hb d_K_isLeft_4 (by decide) ?_
  refine rr_icmp_ge (a := n9) (b := 60) (tgt := 13) (by omega) (by omega) hx hb d_K_isLeft_6 (by decide) (fun c6 => ?_) (fun c6 => ?_)
  · refine lv_iconst (v := nI 0) hx hb d_K_isLeft_13 (by decide) ?_
    exact rr_retZ (v := 0) (by first | exact bq_le _ | omega) hx hb hr hlk (congrArg nI (bq_f (by omega)).symm) d_K_isLeft_14
  · refine lv_iconst (v := nI 1) hx hb d_K_isLeft_9 (by decide) ?_
    refine lv_goto (tgt := 14) hx hb d_K_isLeft_10 (by decide) ?_
    exact rr_retZ (v := 1) (by first | exact bq_le _ | omega) hx hb hr hlk (congrArg nI (bq_t (by omega)).symm) d_K_isLeft_14
theorem k_K_peopleIn : rr_CK y_K_peopleIn b_K_peopleIn 4 (some .int) 1 := ⟨q_475, q_476, q_6, q_477, by decide, by decide, by decide +kernel⟩
set_option maxHeartbeats 4000000 in
set_option maxRecDepth 100000 in
/-- Tickets.peopleIn -/
theorem c_K_peopleIn (l : Launch) (D : va_G) (cs : rr_C3) (h0 : Nat) (h1 : Nat) (h2 : Nat) (h5 : Nat) (v2 : Value) (v3 : Value) (v5 : Value) (n9 : Nat) (tc : Nat → Nat) (tp : Nat → Nat) (tA : Nat → Nat) (k : Nat) (hn : n9 ≤ 60) (hk : k < 2 ^ 31) (htc : ∀ j, j < n9 → tc j < 16) (htA : ∀ j, j < n9 → tA j ≤ 1001) : RO l y_K_peopleIn b_K_peopleIn 4 (some .int) 0 0 D cs [(h0, .inr (3, [.ref h1, .ref h2, v2, v3, .ref h5, v5, .int (nI n9)])), (h1, .inl (cs.1, 60, .inl (fun j => nI (tc j)))), (h2, .inl (cs.1, 60, .inl (fun j => nI (tp j)))), (h5, .inl (cs.1, 60, .inl (fun j => mI (tA j))))] [.ref h0, .int (nI k)] (fun r => r = nI (ppN tc tp tA k n9)) := by
  refine RO.of (by decide) (Nat.le_of_ble_eq_true rfl) ?_
  intro p e s m args below meth c S hr hlk hK hP ls hl
  obtain ⟨hx, hb, hml, hown, ht⟩ := id S
  have hl : lv_has ls 4 [(0, .ref h0), (1, .int (nI k))] := hl
  refine lv_iconst (v := nI 0) hx hb d_K_peopleIn_0 (by decide) ?_
  refine lv_istore_n (lv' := [(2, .int (nI 0)), (0, .ref h0), (1, .int (nI k))]) hx hb d_K_peopleIn_1 rfl hl (by decide) rfl (fun ls hl => ?_)
  refine lv_iconst (v := nI 0) hx hb d_K_peopleIn_2 (by decide) ?_
  refine lv_istore_n (lv' := [(3, .int (nI 0)), (2, .int (nI 0)), (0, .ref h0), (1, .int (nI k))]) hx hb d_K_peopleIn_3 rfl hl (by decide) rfl (fun ls hl => ?_)
  refine rr_loop (fun i => [(3, .int (nI i)), (2, .int (nI (ppN tc tp tA k i))), (0, .ref h0), (1, .int (nI k))]) (fun i => True) 0 n9 (by omega) trivial (lv_sub hl [0, 1, 2, 3] rfl) (fun i ls hi_2 hI_3 hl ih_1 => ?_)
  have hl : lv_has ls 4 [(3, .int (nI i)), (2, .int (nI (ppN tc tp tA k i))), (0, .ref h0), (1, .int (nI k))] := hl
  refine lv_iload_n hx hb d_K_peopleIn_4 rfl (lv_at hl 0 rfl) ?_
  refine lv_aload_n hx hb d_K_peopleIn_5 rfl (lv_at hl 2 rfl) ?_
  refine va_get (D := D) (ci := 3) (v := .int (nI n9)) (C := R_K) (T := F_K) (N := 7) hx hb ht j_K hown hK.1 hP 0 rfl rfl 6 (by decide) (ht _ q_112) (fun _ h9 => h9) rfl d_K_peopleIn_6 ?_
  refine rr_icmp_ge (a := i) (b := n9) (tgt := 53) (by omega) (by omega) hx hb d_K_peopleIn_9 (by decide) (fun c9 => ?_) (fun c9 => ?_)
  · refine lv_iload_n hx hb d_K_peopleIn_53 rfl (lv_at hl 1 rfl) ?_
    exact rr_ret hx hb hr hlk (by rw [show i = n9 from by omega]) d_K_peopleIn_54
  · refine lv_iload_n hx hb d_K_peopleIn_12 rfl (lv_at hl 0 rfl) ?_
    refine lv_bipush (v := nI 60) hx hb d_K_peopleIn_13 (by decide) ?_
    refine rr_icmp_ge (a := i) (b := 60) (tgt := 53) (by omega) (by omega) hx hb d_K_peopleIn_15 (by decide) (fun c15 => ?_) (fun c15 => ?_)
    · exact (by omega : False).elim
    · refine lv_aload_n hx hb d_K_peopleIn_18 rfl (lv_at hl 2 rfl) ?_
      refine va_get (D := D) (ci := 3) (v := .ref h1) (C := R_K) (T := F_K) (N := 7) hx hb ht j_K hown hK.1 hP 0 rfl rfl 0 (by decide) (ht _ q_104) (fun _ h9 => h9) rfl d_K_peopleIn_19 ?_
      refine lv_iload_n hx hb d_K_peopleIn_22 rfl (lv_at hl 0 rfl) ?_
      refine rr_iald (q0 := 1) (n := 60) (f := (fun j => nI (tc j))) (k := i) hx hb hK hP rfl (by omega) (by omega) d_K_peopleIn_23 ?_
      refine lv_iload_n hx hb d_K_peopleIn_24 rfl (lv_at hl 3 rfl) ?_
      have htc9 := htc i (by omega)
      have htA9 := htA i (by omega)
      refine rr_icmp_ne (a := (tc i)) (b := k) (tgt := 47) (by omega) (by omega) hx hb d_K_peopleIn_25 (by decide) (fun c25 => ?_) (fun c25 => ?_)
      · refine lv_iinc (v := nI (i + 1)) (lv' := [(3, .int (nI (i + 1))), (2, .int (nI (ppN tc tp tA k i))), (0, .ref h0), (1, .int (nI k))]) hx hb d_K_peopleIn_47 hl (k := 0) rfl (nI_add i 1) (by decide) rfl (fun ls hl => ?_)
        refine lv_goto (tgt := 4) hx hb d_K_peopleIn_50 (by decide) ?_
        exact ih_1 ls (by omega) trivial (by show lv_has ls 4 [(3, .int (nI (i + 1))), (2, .int (nI (ppN tc tp tA k (i + 1)))), (0, .ref h0), (1, .int (nI k))]; rw [show (nI (ppN tc tp tA k (i + 1)) : Int32) = nI (ppN tc tp tA k i) from congrArg nI (by rw [ppN_s, if_neg (by omega)]; rfl)]; exact lv_sub hl [0, 1, 2, 3] rfl)
      · refine lv_aload_n hx hb d_K_peopleIn_28 rfl (lv_at hl 2 rfl) ?_
        refine va_get (D := D) (ci := 3) (v := .ref h5) (C := R_K) (T := F_K) (N := 7) hx hb ht j_K hown hK.1 hP 0 rfl rfl 4 (by decide) (ht _ q_108) (fun _ h9 => h9) rfl d_K_peopleIn_29 ?_
        refine lv_iload_n hx hb d_K_peopleIn_32 rfl (lv_at hl 0 rfl) ?_
        refine rr_iald (q0 := 3) (n := 60) (f := (fun j => mI (tA j))) (k := i) hx hb hK hP rfl (by omega) (by omega) d_K_peopleIn_33 ?_
        refine lv_iconst (v := (-1)) hx hb d_K_peopleIn_34 (by decide) ?_
        refine lv_icmp_ne (tgt := 47) hx hb d_K_peopleIn_35 (by decide) (fun c35 => ?_) (fun c35 => ?_)
        · have hz9 : ¬ tA i = 0 := fun z => c35 ((mI_m1 (by omega)).mpr z)
          refine lv_iinc (v := nI (i + 1)) (lv' := [(3, .int (nI (i + 1))), (2, .int (nI (ppN tc tp tA k i))), (0, .ref h0), (1, .int (nI k))]) hx hb d_K_peopleIn_47 hl (k := 0) rfl (nI_add i 1) (by decide) rfl (fun ls hl => ?_)
          refine lv_goto (tgt := 4) hx hb d_K_peopleIn_50 (by decide) ?_
          exact ih_1 ls (by omega) trivial (by show lv_has ls 4 [(3, .int (nI (i + 1))), (2, .int (nI (ppN tc tp tA k (i + 1)))), (0, .ref h0), (1, .int (nI k))]; rw [show (nI (ppN tc tp tA k (i + 1)) : Int32) = nI (ppN tc tp tA k i) from congrArg nI (by rw [ppN_s, if_neg (by omega)]; rfl)]; exact lv_sub hl [0, 1, 2, 3] rfl)
        · have hz9 : tA i = 0 := (mI_m1 (by omega)).mp c35
          refine lv_iload_n hx hb d_K_peopleIn_38 rfl (lv_at hl 1 rfl) ?_
          refine lv_aload_n hx hb d_K_peopleIn_39 rfl (lv_at hl 2 rfl) ?_
          refine va_get (D := D) (ci := 3) (v := .ref h2) (C := R_K) (T := F_K) (N := 7) hx hb ht j_K hown hK.1 hP 0 rfl rfl 1 (by decide) (ht _ q_105) (fun _ h9 => h9) rfl d_K_peopleIn_40 ?_
          refine lv_iload_n hx hb d_K_peopleIn_43 rfl (lv_at hl 0 rfl) ?_
          refine rr_iald (q0 := 2) (n := 60) (f := (fun j => nI (tp j))) (k := i) hx hb hK hP rfl (by omega) (by omega) d_K_peopleIn_44 ?_
          refine rr_iadd (a := (ppN tc tp tA k i)) (b := (tp i)) hx hb d_K_peopleIn_45 ?_
          refine lv_istore_n (lv' := [(2, .int (nI ((ppN tc tp tA k i) + (tp i)))), (3, .int (nI i)), (0, .ref h0), (1, .int (nI k))]) hx hb d_K_peopleIn_46 rfl hl (by decide) rfl (fun ls hl => ?_)
          refine lv_iinc (v := nI (i + 1)) (lv' := [(3, .int (nI (i + 1))), (2, .int (nI ((ppN tc tp tA k i) + (tp i)))), (0, .ref h0), (1, .int (nI k))]) hx hb d_K_peopleIn_47 hl (k := 1) rfl (nI_add i 1) (by decide) rfl (fun ls hl => ?_)
          refine lv_goto (tgt := 4) hx hb d_K_peopleIn_50 (by decide) ?_
          exact ih_1 ls (by omega) trivial (by show lv_has ls 4 [(3, .int (nI (i + 1))), (2, .int (nI (ppN tc tp tA k (i + 1)))), (0, .ref h0), (1, .int (nI k))]; rw [show (nI (ppN tc tp tA k (i + 1)) : Int32) = nI ((ppN tc tp tA k i) + (tp i)) from congrArg nI (by rw [ppN_s, if_pos (by omega)])]; exact lv_sub hl [0, 1, 2, 3] rfl)
theorem k_K_refundOf : rr_CK y_K_refundOf b_K_refundOf 4 (some .int) 1 := ⟨q_422, q_423, q_6, q_424, by decide, by decide, by decide +kernel⟩
set_option maxHeartbeats 4000000 in
set_option maxRecDepth 100000 in
/-- Tickets.refundOf -/
theorem c_K_refundOf (l : Launch) (D : va_G) (cs : rr_C3) (h0 : Nat) (h2 : Nat) (h3 : Nat) (h6 : Nat) (v0 : Value) (v3 : Value) (v4 : Value) (n9 : Nat) (tp : Nat → Nat) (tf : Nat → Nat) (th : Nat → Nat) (k : Nat) (hn : n9 ≤ 60) (htf : ∀ j, j < n9 → tf j ≤ 1000) (htp : ∀ j, j < n9 → tp j ≤ 8) (hth : ∀ j, j < n9 → th j ≤ 1000) (hk : k < n9) : RO l y_K_refundOf b_K_refundOf 4 (some .int) 1 13 D cs [(h0, .inr (3, [v0, .ref h2, .ref h3, v3, v4, .ref h6, .int (nI n9)])), (h2, .inl (cs.1, 60, .inl (fun j => nI (tp j)))), (h3, .inl (cs.1, 60, .inl (fun j => nI (tf j)))), (h6, .inl (cs.1, 60, .inl (fun j => nI (th j))))] [.ref h0, .int (nI k)] (fun r => r = nI (rfN (tf k * tp k) (th k))) := by
  refine RO.of (by decide) (Nat.le_of_ble_eq_true rfl) ?_
  intro p e s m args below meth c S hr hlk hK hP ls hl
  obtain ⟨hx, hb, hml, hown, ht⟩ := id S
  have hl : lv_has ls 4 [(0, .ref h0), (1, .int (nI k))] := hl
  have htf9 := htf k hk
  have htp9 := htp k hk
  have hth9 := hth k hk
  have hw9 : tf k * tp k ≤ 1000 * 8 := Nat.mul_le_mul htf9 htp9
  have hy9 : tf k * tp k * (th k - 5) ≤ 8000 * 1000 := Nat.mul_le_mul hw9 (by omega)
  refine lv_aload_n hx hb d_K_refundOf_0 rfl (lv_at hl 0 rfl) ?_
  refine va_get (D := D) (ci := 3) (v := .ref h3) (C := R_K) (T := F_K) (N := 7) hx hb ht j_K hown hK.1 hP 0 rfl rfl 2 (by decide) (ht _ q_106) (fun _ h9 => h9) rfl d_K_refundOf_1 ?_
  refine lv_iload_n hx hb d_K_refundOf_4 rfl (lv_at hl 1 rfl) ?_
  refine rr_iald (q0 := 2) (n := 60) (f := (fun j => nI (tf j))) (k := k) hx hb hK hP rfl (by omega) (by omega) d_K_refundOf_5 ?_
  refine lv_aload_n hx hb d_K_refundOf_6 rfl (lv_at hl 0 rfl) ?_
  refine va_get (D := D) (ci := 3) (v := .ref h2) (C := R_K) (T := F_K) (N := 7) hx hb ht j_K hown hK.1 hP 0 rfl rfl 1 (by decide) (ht _ q_105) (fun _ h9 => h9) rfl d_K_refundOf_7 ?_
  refine lv_iload_n hx hb d_K_refundOf_10 rfl (lv_at hl 1 rfl) ?_
  refine rr_iald (q0 := 1) (n := 60) (f := (fun j => nI (tp j))) (k := k) hx hb hK hP rfl (by omega) (by omega) d_K_refundOf_11 ?_
  refine rr_imul (a := (tf k)) (b := (tp k)) hx hb d_K_refundOf_12 ?_
  refine lv_istore_n (lv' := [(2, .int (nI ((tf k) * (tp k)))), (0, .ref h0), (1, .int (nI k))]) hx hb d_K_refundOf_13 rfl hl (by decide) rfl (fun ls hl => ?_)
  refine lv_iconst (v := nI 0) hx hb d_K_refundOf_14 (by decide) ?_
  refine lv_aload_n hx hb d_K_refundOf_15 rfl (lv_at hl 1 rfl) ?_
  refine va_get (D := D) (ci := 3) (v := .ref h6) (C := R_K) (T := F_K) (N := 7) hx hb ht j_K hown hK.1 hP 0 rfl rfl 5 (by decide) (ht _ q_110) (fun _ h9 => h9) rfl d_K_refundOf_16 ?_
  refine lv_iload_n hx hb d_K_refundOf_19 rfl (lv_at hl 2 rfl) ?_
  refine rr_iald (q0 := 3) (n := 60) (f := (fun j => nI (th j))) (k := k) hx hb hK hP rfl (by omega) (by omega) d_K_refundOf_20 ?_
  refine lv_iconst (v := nI 5) hx hb d_K_refundOf_21 (by decide) ?_
  refine lv_isub hx hb d_K_refundOf_22 ?_
  refine va_mmax hx hb (by rw [hml]; exact hl.1.symm) hown (ht _ q_425) (ht _ q_347) (ht _ q_11) (ht _ q_348) (Nat.le_of_ble_eq_true rfl) (Nat.le_of_ble_eq_true rfl) (Nat.zero_le _) (Nat.zero_le _) d_K_refundOf_23 ?_
  refine rr_top (show (if nI 0 < (nI (th k)) - (nI 5) then (nI (th k)) - (nI 5) else nI 0 : Int32) = nI (th k - 5) from mx5 (by omega)) ?_
  refine lv_istore_n (lv' := [(3, .int (nI (th k - 5))), (2, .int (nI ((tf k) * (tp k)))), (0, .ref h0), (1, .int (nI k))]) hx hb d_K_refundOf_26 rfl hl (by decide) rfl (fun ls hl => ?_)
  refine lv_iload_n hx hb d_K_refundOf_27 rfl (lv_at hl 1 rfl) ?_
  refine lv_iload_n hx hb d_K_refundOf_28 rfl (lv_at hl 1 rfl) ?_
  refine lv_iload_n hx hb d_K_refundOf_29 rfl (lv_at hl 0 rfl) ?_
  refine rr_imul (a := ((tf k) * (tp k))) (b := (th k - 5)) hx hb d_K_refundOf_30 ?_
  refine lv_bipush (v := nI 10) hx hb d_K_refundOf_31 (by decide) ?_
  refine rr_idiv (a := (((tf k) * (tp k)) * (th k - 5))) (b := 10) (by omega) (by omega) (by omega) hx hb d_K_refundOf_33 ?_
  refine va_mmin hx hb (by rw [hml]; exact hl.1.symm) hown (ht _ q_426) (ht _ q_330) (ht _ q_11) (ht _ q_331) (Nat.le_of_ble_eq_true rfl) (Nat.le_of_ble_eq_true rfl) (Nat.zero_le _) (Nat.zero_le _) d_K_refundOf_34 ?_
  refine rr_top (rr_min (a := ((tf k) * (tp k))) (b := ((((tf k) * (tp k)) * (th k - 5)) / 10)) (by omega) (by omega)) ?_
  exact rr_ret hx hb hr hlk rfl d_K_refundOf_37
theorem k_K_sumOfRefunds : rr_CK y_K_sumOfRefunds b_K_sumOfRefunds 3 (some .int) 0 := ⟨q_432, q_433, q_6, q_434, by decide, by decide, by decide +kernel⟩
set_option maxHeartbeats 4000000 in
set_option maxRecDepth 100000 in
/-- Tickets.sumOfRefunds -/
theorem c_K_sumOfRefunds (l : Launch) (D : va_G) (cs : rr_C3) (h0 : Nat) (h2 : Nat) (h3 : Nat) (h6 : Nat) (v0 : Value) (v3 : Value) (v4 : Value) (n9 : Nat) (tp : Nat → Nat) (tf : Nat → Nat) (th : Nat → Nat) (hn : n9 ≤ 60) (htf : ∀ j, j < n9 → tf j ≤ 1000) (htp : ∀ j, j < n9 → tp j ≤ 8) (hth : ∀ j, j < n9 → th j ≤ 1000) : RO l y_K_sumOfRefunds b_K_sumOfRefunds 3 (some .int) 2 36 D cs [(h0, .inr (3, [v0, .ref h2, .ref h3, v3, v4, .ref h6, .int (nI n9)])), (h2, .inl (cs.1, 60, .inl (fun j => nI (tp j)))), (h3, .inl (cs.1, 60, .inl (fun j => nI (tf j)))), (h6, .inl (cs.1, 60, .inl (fun j => nI (th j))))] [.ref h0] (fun r => r = nI (rsN tf tp th n9)) := by
  refine RO.of (by decide) (Nat.le_of_ble_eq_true rfl) ?_
  intro p e s m args below meth c S hr hlk hK hP ls hl
  obtain ⟨hx, hb, hml, hown, ht⟩ := id S
  have hl : lv_has ls 3 [(0, .ref h0)] := hl
  refine lv_iconst (v := nI 0) hx hb d_K_sumOfRefunds_0 (by decide) ?_
  refine lv_istore_n (lv' := [(1, .int (nI 0)), (0, .ref h0)]) hx hb d_K_sumOfRefunds_1 rfl hl (by decide) rfl (fun ls hl => ?_)
  refine lv_iconst (v := nI 0) hx hb d_K_sumOfRefunds_2 (by decide) ?_
  refine lv_istore_n (lv' := [(2, .int (nI 0)), (1, .int (nI 0)), (0, .ref h0)]) hx hb d_K_sumOfRefunds_3 rfl hl (by decide) rfl (fun ls hl => ?_)
  refine rr_loop (fun i => [(2, .int (nI i)), (1, .int (nI (rsN tf tp th i))), (0, .ref h0)]) (fun i => True) 0 n9 (by omega) trivial (lv_sub hl [0, 1, 2] rfl) (fun i ls hi_2 hI_3 hl ih_1 => ?_)
  have hl : lv_has ls 3 [(2, .int (nI i)), (1, .int (nI (rsN tf tp th i))), (0, .ref h0)] := hl
  refine lv_iload_n hx hb d_K_sumOfRefunds_4 rfl (lv_at hl 0 rfl) ?_
  refine lv_aload_n hx hb d_K_sumOfRefunds_5 rfl (lv_at hl 2 rfl) ?_
  refine va_get (D := D) (ci := 3) (v := .int (nI n9)) (C := R_K) (T := F_K) (N := 7) hx hb ht j_K hown hK.1 hP 0 rfl rfl 6 (by decide) (ht _ q_112) (fun _ h9 => h9) rfl d_K_sumOfRefunds_6 ?_
  refine rr_icmp_ge (a := i) (b := n9) (tgt := 32) (by omega) (by omega) hx hb d_K_sumOfRefunds_9 (by decide) (fun c9 => ?_) (fun c9 => ?_)
  · refine lv_iload_n hx hb d_K_sumOfRefunds_32 rfl (lv_at hl 1 rfl) ?_
    exact rr_ret hx hb hr hlk (by rw [show i = n9 from by omega]) d_K_sumOfRefunds_33
  · refine lv_iload_n hx hb d_K_sumOfRefunds_12 rfl (lv_at hl 0 rfl) ?_
    refine lv_bipush (v := nI 60) hx hb d_K_sumOfRefunds_13 (by decide) ?_
    refine rr_icmp_ge (a := i) (b := 60) (tgt := 32) (by omega) (by omega) hx hb d_K_sumOfRefunds_15 (by decide) (fun c15 => ?_) (fun c15 => ?_)
    · exact (by omega : False).elim
    · refine lv_iload_n hx hb d_K_sumOfRefunds_18 rfl (lv_at hl 1 rfl) ?_
      refine lv_aload_n hx hb d_K_sumOfRefunds_19 rfl (lv_at hl 2 rfl) ?_
      refine lv_iload_n hx hb d_K_sumOfRefunds_20 rfl (lv_at hl 0 rfl) ?_
      refine rr_rV (As := [.int (nI i)]) (rest := [.int (nI (rsN tf tp th i))]) (idx := 49) (q0 := 0) (ci := 3) S hK hP (c_K_refundOf l D cs h0 h2 h3 h6 v0 v3 v4 n9 tp tf th i (by first | assumption | omega) (by first | assumption | omega) (by first | assumption | omega) (by first | assumption | omega) (by first | assumption | omega)) k_K_refundOf [0, 1, 2, 3] rfl rfl rfl rfl q_435 ⟨Nat.le_of_ble_eq_true rfl, Nat.le_of_ble_eq_true rfl⟩ ⟨Nat.le_of_ble_eq_true rfl, Nat.le_of_ble_eq_true rfl⟩ hl (Nat.le_of_ble_eq_true rfl) rfl d_K_sumOfRefunds_21 (fun r9 hr9 => ?_)
      subst hr9
      refine rr_iadd (a := (rsN tf tp th i)) (b := (rfN (tf i * tp i) (th i))) hx hb d_K_sumOfRefunds_24 ?_
      refine lv_istore_n (lv' := [(1, .int (nI ((rsN tf tp th i) + (rfN (tf i * tp i) (th i))))), (2, .int (nI i)), (0, .ref h0)]) hx hb d_K_sumOfRefunds_25 rfl hl (by decide) rfl (fun ls hl => ?_)
      refine lv_iinc (v := nI (i + 1)) (lv' := [(2, .int (nI (i + 1))), (1, .int (nI ((rsN tf tp th i) + (rfN (tf i * tp i) (th i))))), (0, .ref h0)]) hx hb d_K_sumOfRefunds_26 hl (k := 1) rfl (nI_add i 1) (by decide) rfl (fun ls hl => ?_)
      refine lv_goto (tgt := 4) hx hb d_K_sumOfRefunds_29 (by decide) ?_
      exact ih_1 ls (by omega) trivial (by show lv_has ls 3 [(2, .int (nI (i + 1))), (1, .int (nI (rsN tf tp th (i + 1)))), (0, .ref h0)]; rw [show (nI (rsN tf tp th (i + 1)) : Int32) = nI ((rsN tf tp th i) + (rfN (tf i * tp i) (th i))) from congrArg nI (by rw [rsN_s])]; exact lv_sub hl [0, 1, 2] rfl)
