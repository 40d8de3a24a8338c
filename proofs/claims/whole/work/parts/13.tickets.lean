theorem k_K_has : rr_CK y_K_has b_K_has 2 (some .boolean) 1 := ⟨q_559, q_560, q_6, q_561, by decide, by decide, by decide +kernel⟩
set_option maxHeartbeats 4000000 in
set_option maxRecDepth 100000 in
/-- Tickets.has -/
theorem c_K_has (l : Launch) (D : va_G) (cs : rr_C3) (h0 : Nat) (v0 : Value) (v1 : Value) (v2 : Value) (v3 : Value) (v4 : Value) (v5 : Value) (n9 : Nat) (x : Int32) (hn : n9 ≤ 60) : RO l y_K_has b_K_has 2 (some .boolean) 0 0 D cs [(h0, .inr (3, [v0, v1, v2, v3, v4, v5, .int (nI n9)]))] [.ref h0, .int x] (fun r => r = nI (bq (ix 60 x < n9))) := by
  refine RO.of (by decide) (Nat.le_of_ble_eq_true rfl) ?_
  intro p e s m args below meth c S hr hlk hK hP ls hl
  obtain ⟨hx, hb, hml, hown, ht⟩ := id S
  have hl : lv_has ls 2 [(0, .ref h0), (1, .int x)] := hl
  refine lv_iload_n hx hb d_K_has_0 rfl (lv_at hl 1 rfl) ?_
  refine lv_if_lt (tgt := 22) hx hb d_K_has_1 (by decide) (fun c1 => ?_) (fun c1 => ?_)
  · have e9 := ix_neg (n := 60) c1
    refine lv_iconst (v := nI 0) hx hb d_K_has_22 (by decide) ?_
    exact rr_retZ (v := 0) (by first | exact bq_le _ | omega) hx hb hr hlk (congrArg nI (bq_f (by omega)).symm) d_K_has_23
  · refine lv_iload_n hx hb d_K_has_4 rfl (lv_at hl 1 rfl) ?_
    refine lv_aload_n hx hb d_K_has_5 rfl (lv_at hl 0 rfl) ?_
    refine va_get (D := D) (ci := 3) (v := .int (nI n9)) (C := R_K) (T := F_K) (N := 7) hx hb ht j_K hown hK.1 hP 0 rfl rfl 6 (by decide) (ht _ q_113) (fun _ h9 => h9) rfl d_K_has_6 ?_
    refine lv_icmp_ge (tgt := 22) hx hb d_K_has_9 (by decide) (fun c9 => ?_) (fun c9 => ?_)
    · have e9 := ix_ge (k := 60) (by decide) hn c9
      refine lv_iconst (v := nI 0) hx hb d_K_has_22 (by decide) ?_
      exact rr_retZ (v := 0) (by first | exact bq_le _ | omega) hx hb hr hlk (congrArg nI (bq_f (by omega)).symm) d_K_has_23
    · have e9 := ix_lt2 (k := 60) (by decide) hn c1 c9
      refine lv_iload_n hx hb d_K_has_12 rfl (lv_at hl 1 rfl) ?_
      refine lv_bipush (v := nI 60) hx hb d_K_has_13 (by decide) ?_
      refine lv_icmp_ge (tgt := 22) hx hb d_K_has_15 (by decide) (fun c15 => ?_) (fun c15 => ?_)
      · have e8 := ix_big (n := 60) (by decide) c15
        refine lv_iconst (v := nI 0) hx hb d_K_has_22 (by decide) ?_
        exact rr_retZ (v := 0) (by first | exact bq_le _ | omega) hx hb hr hlk (congrArg nI (bq_f (by omega)).symm) d_K_has_23
      · refine lv_iconst (v := nI 1) hx hb d_K_has_18 (by decide) ?_
        refine lv_goto (tgt := 23) hx hb d_K_has_19 (by decide) ?_
        exact rr_retZ (v := 1) (by first | exact bq_le _ | omega) hx hb hr hlk (congrArg nI (bq_t (by omega)).symm) d_K_has_23
theorem k_K_isLeft : rr_CK y_K_isLeft b_K_isLeft 1 (some .boolean) 0 := ⟨q_536, q_537, q_6, q_538, by decide, by decide, by decide +kernel⟩
set_option maxHeartbeats 4000000 in
set_option maxRecDepth 100000 in
/-- Tickets.isLeft -/
theorem c_K_isLeft (l : Launch) (D : va_G) (cs : rr_C3) (h0 : Nat) (v0 : Value) (v1 : Value) (v2 : Value) (v3 : Value) (v4 : Value) (v5 : Value) (n9 : Nat) (hn : n9 ≤ 60) : RO l y_K_isLeft b_K_isLeft 1 (some .boolean) 0 0 D cs [(h0, .inr (3, [v0, v1, v2, v3, v4, v5, .int (nI n9)]))] [.ref h0] (fun r => r = nI (bq (n9 < 60))) := by
  refine RO.of (by decide) (Nat.le_of_ble_eq_true rfl) ?_
  intro p e s m args below meth c S hr hlk hK hP ls hl
  obtain ⟨hx, hb, hml, hown, ht⟩ := id S
  have hl : lv_has ls 1 [(0, .ref h0)] := hl
  refine lv_aload_n hx hb d_K_isLeft_0 rfl (lv_at hl 0 rfl) ?_
  refine va_get (D := D) (ci := 3) (v := .int (nI n9)) (C := R_K) (T := F_K) (N := 7) hx hb ht j_K hown hK.1 hP 0 rfl rfl 6 (by decide) (ht _ q_113) (fun _ h9 => h9) rfl d_K_isLeft_1 ?_
  refine lv_bipush (v := nI 60) hx hb d_K_isLeft_4 (by decide) ?_
  refine rr_icmp_ge (a := n9) (b := 60) (tgt := 13) (by omega) (by omega) hx hb d_K_isLeft_6 (by decide) (fun c6 => ?_) (fun c6 => ?_)
  · refine lv_iconst (v := nI 0) hx hb d_K_isLeft_13 (by decide) ?_
    exact rr_retZ (v := 0) (by first | exact bq_le _ | omega) hx hb hr hlk (congrArg nI (bq_f (by omega)).symm) d_K_isLeft_14
  · refine lv_iconst (v := nI 1) hx hb d_K_isLeft_9 (by decide) ?_
    refine lv_goto (tgt := 14) hx hb d_K_isLeft_10 (by decide) ?_
    exact rr_retZ (v := 1) (by first | exact bq_le _ | omega) hx hb hr hlk (congrArg nI (bq_t (by omega)).symm) d_K_isLeft_14
theorem k_K_peopleIn : rr_CK y_K_peopleIn b_K_peopleIn 4 (some .int) 1 := ⟨q_359, q_360, q_6, q_361, by decide, by decide, by decide +kernel⟩
set_option maxHeartbeats 4000000 in
set_option maxRecDepth 100000 in
/-- Tickets.peopleIn -/
theorem c_K_peopleIn (l : Launch) (D : va_G) (cs : rr_C3) (h0 : Nat) (h1 : Nat) (h2 : Nat) (h5 : Nat) (v2 : Value) (v3 : Value) (v5 : Value) (n9 : Nat) (tc : Nat → Nat) (tp : Nat → Nat) (tA : Nat → Nat) (k : Nat) (hn : n9 ≤ 60) (hk : k < 2 ^ 31) (htc : ∀ j, j < n9 → tc j < 16) (htA : ∀ j, j < n9 → tA j ≤ 1001) : RO l y_K_peopleIn b_K_peopleIn 4 (some .int) 0 0 D cs [(h0, .inr (3, [.ref h1, .ref h2, v2, v3, .ref h5, v5, .int (nI n9)])), (h1, .inl (cs.1, 60, .inl (fun j => nI (tc j)))), (h2, .inl (cs.1, 60, .inl (fun j => nI (tp j)))), (h5, .inl (cs.1, 60, .inl (fun j => mI (tA j))))] [.ref h0, .int (nI k)] (fun r => r = nI (ppN tc tp tA k n9)) := by
  refine RO.of (by decide) (Nat.le_of_ble_eq_true rfl) ?_
  intro p e s m args below meth c S hr hlk hK hP ls hl
  obtain ⟨hx, hb, hml, hown, ht⟩ := id S
  have hl : lv_has ls 4 [(0, .ref h0), (1, .int (nI k))] := hl
  refine lv_iconst (v := nI 0) hx hb d_K_peopleIn_0 (by decide) ?_
  refine lv_istore_n (lv' := [(2, .int (nI 0)), (0, .ref h0), (1, .int (nI k))]) hx hb d_K_peopleIn_1 rfl hl (by decide) rfl (fun ls hl => ?_)
  refine lv_iconst (v := nI 0) hx hb d_K_peopleIn_2 (by decide) ?_
  refine lv_istore_n (lv' := [(3, .int (nI 0)), (2, .int (nI 0)), (0, .ref h0), (1, .int (nI k))]) hx hb d_K_peopleIn_3 rfl hl (by decide) rfl (fun ls hl => ?_)
  refine rr_loop (fun i => [(3, .int (nI i)), (2, .int (nI (ppN tc tp tA k i))), (0, .ref h0), (1, .int (nI k))]) (fun i => True) 0 n9 (by omega) trivial (lv_sub hl [0, 1, 2, 3] rfl) (fun i ls hi_2 hI_3 hl ih_1 => ?_)
  have hl : lv_has ls 4 [(3, .int (nI i)), (2, .int (nI (ppN tc tp tA k i))), (0, .ref h0), (1, .int (nI k))] := hl
  refine lv_iload_n hx hb d_K_peopleIn_4 rfl (lv_at hl 0 rfl) ?_
  refine lv_aload_n hx hb d_K_peopleIn_5 rfl (lv_at hl 2 rfl) ?_
  refine va_get (D := D) (ci := 3) (v := .int (nI n9)) (C := R_K) (T := F_K) (N := 7) hx hb ht j_K hown hK.1 hP 0 rfl rfl 6 (by decide) (ht _ q_113) (fun _ h9 => h9) rfl d_K_peopleIn_6 ?_
  refine rr_icmp_ge (a := i) (b := n9) (tgt := 53) (by omega) (by omega) hx hb d_K_peopleIn_9 (by decide) (fun c9 => ?_) (fun c9 => ?_)
  · refine lv_iload_n hx hb d_K_peopleIn_53 rfl (lv_at hl 1 rfl) ?_
    exact rr_ret hx hb hr hlk (by rw [show i = n9 from by omega]) d_K_peopleIn_54
  · refine lv_iload_n hx hb d_K_peopleIn_12 rfl (lv_at hl 0 rfl) ?_
    refine lv_bipush (v := nI 60) hx hb d_K_peopleIn_13 (by decide) ?_
    refine rr_icmp_ge (a := i) (b := 60) (tgt := 53) (by omega) (by omega) hx hb d_K_peopleIn_15 (by decide) (fun c15 => ?_) (fun c15 => ?_)
    · exact (by omega : False).elim
    · refine lv_aload_n hx hb d_K_peopleIn_18 rfl (lv_at hl 2 rfl) ?_
      refine va_get (D := D) (ci := 3) (v := .ref h1) (C := R_K) (T := F_K) (N := 7) hx hb ht j_K hown hK.1 hP 0 rfl rfl 0 (by decide) (ht _ q_105) (fun _ h9 => h9) rfl d_K_peopleIn_19 ?_
      refine lv_iload_n hx hb d_K_peopleIn_22 rfl (lv_at hl 0 rfl) ?_
      refine rr_iald (q0 := 1) (n := 60) (f := (fun j => nI (tc j))) (k := i) hx hb hK hP rfl (by omega) (by omega) d_K_peopleIn_23 ?_
      refine lv_iload_n hx hb d_K_peopleIn_24 rfl (lv_at hl 3 rfl) ?_
      have htc9 := htc i (by omega)
      have htA9 := htA i (by omega)
      refine rr_icmp_ne (a := (tc i)) (b := k) (tgt := 47) (by omega) (by omega) hx hb d_K_peopleIn_25 (by decide) (fun c25 => ?_) (fun c25 => ?_)
      · refine lv_iinc (v := nI (i + 1)) (lv' := [(3, .int (nI (i + 1))), (2, .int (nI (ppN tc tp tA k i))), (0, .ref h0), (1, .int (nI k))]) hx hb d_K_peopleIn_47 hl (k := 0) rfl (nI_add i 1) (by decide) rfl (fun ls hl => ?_)
        refine lv_goto (tgt := 4) hx hb d_K_peopleIn_50 (by decide) ?_
        exact ih_1 ls (by omega) trivial (by show lv_has ls 4 [(3, .int (nI (i + 1))), (2, .int (nI (ppN tc tp tA k (i + 1)))), (0, .ref h0), (1, .int (nI k))]; rw [show (nI (ppN tc tp tA k (i + 1)) : Int32) = nI (ppN tc tp tA k i) from congrArg nI (by rw [ppN_s, if_neg (by omega)]; rfl)]; exact lv_sub hl [0, 1, 2, 3] rfl)
      · refine lv_aload_n hx hb d_K_peopleIn_28 rfl (lv_at hl 2 rfl) ?_
        refine va_get (D := D) (ci := 3) (v := .ref h5) (C := R_K) (T := F_K) (N := 7) hx hb ht j_K hown hK.1 hP 0 rfl rfl 4 (by decide) (ht _ q_109) (fun _ h9 => h9) rfl d_K_peopleIn_29 ?_
        refine lv_iload_n hx hb d_K_peopleIn_32 rfl (lv_at hl 0 rfl) ?_
        refine rr_iald (q0 := 3) (n := 60) (f := (fun j => mI (tA j))) (k := i) hx hb hK hP rfl (by omega) (by omega) d_K_peopleIn_33 ?_
        refine lv_iconst (v := (-1)) hx hb d_K_peopleIn_34 (by decide) ?_
        refine lv_icmp_ne (tgt := 47) hx hb d_K_peopleIn_35 (by decide) (fun c35 => ?_) (fun c35 => ?_)
        · have hz9 : ¬ tA i = 0 := fun z => c35 ((mI_m1 (by omega)).mpr z)
          refine lv_iinc (v := nI (i + 1)) (lv' := [(3, .int (nI (i + 1))), (2, .int (nI (ppN tc tp tA k i))), (0, .ref h0), (1, .int (nI k))]) hx hb d_K_peopleIn_47 hl (k := 0) rfl (nI_add i 1) (by decide) rfl (fun ls hl => ?_)
          refine lv_goto (tgt := 4) hx hb d_K_peopleIn_50 (by decide) ?_
          exact ih_1 ls (by omega) trivial (by show lv_has ls 4 [(3, .int (nI (i + 1))), (2, .int (nI (ppN tc tp tA k (i + 1)))), (0, .ref h0), (1, .int (nI k))]; rw [show (nI (ppN tc tp tA k (i + 1)) : Int32) = nI (ppN tc tp tA k i) from congrArg nI (by rw [ppN_s, if_neg (by omega)]; rfl)]; exact lv_sub hl [0, 1, 2, 3] rfl)
        · have hz9 : tA i = 0 := (mI_m1 (by omega)).mp c35
          refine lv_iload_n hx hb d_K_peopleIn_38 rfl (lv_at hl 1 rfl) ?_
          refine lv_aload_n hx hb d_K_peopleIn_39 rfl (lv_at hl 2 rfl) ?_
          refine va_get (D := D) (ci := 3) (v := .ref h2) (C := R_K) (T := F_K) (N := 7) hx hb ht j_K hown hK.1 hP 0 rfl rfl 1 (by decide) (ht _ q_106) (fun _ h9 => h9) rfl d_K_peopleIn_40 ?_
          refine lv_iload_n hx hb d_K_peopleIn_43 rfl (lv_at hl 0 rfl) ?_
          refine rr_iald (q0 := 2) (n := 60) (f := (fun j => nI (tp j))) (k := i) hx hb hK hP rfl (by omega) (by omega) d_K_peopleIn_44 ?_
          refine rr_iadd (a := (ppN tc tp tA k i)) (b := (tp i)) hx hb d_K_peopleIn_45 ?_
          refine lv_istore_n (lv' := [(2, .int (nI ((ppN tc tp tA k i) + (tp i)))), (3, .int (nI i)), (0, .ref h0), (1, .int (nI k))]) hx hb d_K_peopleIn_46 rfl hl (by decide) rfl (fun ls hl => ?_)
          refine lv_iinc (v := nI (i + 1)) (lv' := [(3, .int (nI (i + 1))), (2, .int (nI ((ppN tc tp tA k i) + (tp i)))), (0, .ref h0), (1, .int (nI k))]) hx hb d_K_peopleIn_47 hl (k := 1) rfl (nI_add i 1) (by decide) rfl (fun ls hl => ?_)
          refine lv_goto (tgt := 4) hx hb d_K_peopleIn_50 (by decide) ?_
          exact ih_1 ls (by omega) trivial (by show lv_has ls 4 [(3, .int (nI (i + 1))), (2, .int (nI (ppN tc tp tA k (i + 1)))), (0, .ref h0), (1, .int (nI k))]; rw [show (nI (ppN tc tp tA k (i + 1)) : Int32) = nI ((ppN tc tp tA k i) + (tp i)) from congrArg nI (by rw [ppN_s, if_pos (by omega)])]; exact lv_sub hl [0, 1, 2, 3] rfl)
theorem k_K_sell : rr_CK y_K_sell b_K_sell 6 (some .int) 4 := ⟨q_541, q_542, q_6, q_543, by decide, by decide, by decide +kernel⟩
set_option maxHeartbeats 4000000 in
set_option maxRecDepth 100000 in
/-- Tickets.sell -/
theorem c_K_sell (l : Launch) (D : va_G) (cs : rr_C3) (h0 : Nat) (h1 : Nat) (h2 : Nat) (h3 : Nat) (h4 : Nat) (h5 : Nat) (v5 : Value) (n9 : Nat) (tc : Nat → Nat) (tp : Nat → Nat) (tf : Nat → Nat) (tg : Nat → Nat) (tA : Nat → Nat) (k : Nat) (p9 : Nat) (f9 : Nat) (g9 : Nat) (hn : n9 < 60) (sz : Nat) : MI l y_K_sell b_K_sell 6 (some .int) 0 0 0 0 D cs [(h0, .inr (3, [.ref h1, .ref h2, .ref h3, .ref h4, .ref h5, v5, .int (nI n9)])), (h1, .inl (cs.1, 60, .inl (fun j => nI (tc j)))), (h2, .inl (cs.1, 60, .inl (fun j => nI (tp j)))), (h3, .inl (cs.1, 60, .inl (fun j => nI (tf j)))), (h4, .inl (cs.1, 60, .inl (fun j => nI (tg j)))), (h5, .inl (cs.1, 60, .inl (fun j => mI (tA j))))] sz [.ref h0, .int (nI k), .int (nI p9), .int (nI f9), .int (nI g9)] (fun (r : Int32) (_ : Unit) => r = nI n9) (fun _ : Unit => [(h0, .inr (3, [.ref h1, .ref h2, .ref h3, .ref h4, .ref h5, v5, .int (nI (n9 + 1))])), (h1, .inl (cs.1, 60, .inl (fun j => nI ((va_up tc n9 k) j)))), (h2, .inl (cs.1, 60, .inl (fun j => nI ((va_up tp n9 p9) j)))), (h3, .inl (cs.1, 60, .inl (fun j => nI ((va_up tf n9 f9) j)))), (h4, .inl (cs.1, 60, .inl (fun j => nI ((va_up tg n9 g9) j)))), (h5, .inl (cs.1, 60, .inl (fun j => mI ((va_up tA n9 0) j))))]) := by
  refine MI.of (by decide) (Nat.le_of_ble_eq_true rfl) ?_
  intro p e s m args below meth c A S hr hlk hnm hK hP hD hA hS ls hl
  obtain ⟨hx, hb, hml, hown, ht⟩ := id S
  have hl : lv_has ls 6 [(0, .ref h0), (1, .int (nI k)), (2, .int (nI p9)), (3, .int (nI f9)), (4, .int (nI g9))] := hl
  have hS : va_S A s.heap s.heap [] := hS
  refine lv_aload_n hx hb d_K_sell_0 rfl (lv_at hl 0 rfl) ?_
  refine va_get (D := D) (ci := 3) (v := .int (nI n9)) (C := R_K) (T := F_K) (N := 7) hx hb ht j_K hown hK.1 hP 0 rfl rfl 6 (by decide) (ht _ q_113) (fun _ h9 => h9) rfl d_K_sell_1 ?_
  refine lv_istore (lv' := [(5, .int (nI n9)), (0, .ref h0), (1, .int (nI k)), (2, .int (nI p9)), (3, .int (nI f9)), (4, .int (nI g9))]) hx hb d_K_sell_4 hl (by decide) rfl (fun ls hl => ?_)
  refine lv_iload hx hb d_K_sell_6 (lv_at hl 0 rfl) ?_
  refine lv_bipush (v := nI 60) hx hb d_K_sell_8 (by decide) ?_
  refine rr_icmp_ge (a := n9) (b := 60) (tgt := 64) (by omega) (by omega) hx hb d_K_sell_10 (by decide) (fun c10 => ?_) (fun c10 => ?_)
  · exact (by omega : False).elim
  · refine lv_aload_n hx hb d_K_sell_13 rfl (lv_at hl 1 rfl) ?_
    refine lv_dup hx hb d_K_sell_14 rfl ?_
    refine va_get (D := D) (ci := 3) (v := .int (nI n9)) (C := R_K) (T := F_K) (N := 7) hx hb ht j_K hown hK.1 hP 0 rfl rfl 6 (by decide) (ht _ q_113) (fun _ h9 => h9) rfl d_K_sell_15 ?_
    refine lv_iconst (v := nI 1) hx hb d_K_sell_18 (by decide) ?_
    refine rr_iadd (a := n9) (b := 1) hx hb d_K_sell_19 ?_
    refine va_put (D := D) (ci := 3) (v := .int (nI (n9 + 1))) (ty := .int) (C := R_K) (T := F_K) (N := 7) hx hb ht j_K t_K t_K_ok n_K hown hK.1 hP hD hS 0 rfl rfl 6 (by decide) (ht _ q_113) (fun _ h9 => h9) rfl (by decide +kernel) rfl rfl (Nat.le_of_ble_eq_true rfl) d_K_sell_20 (fun H locs hP hD hS => ?_)
    have hP : va_P D classes [(h0, .inr (3, [.ref h1, .ref h2, .ref h3, .ref h4, .ref h5, v5, .int (nI (n9 + 1))])), (h1, .inl (cs.1, 60, .inl (fun j => nI (tc j)))), (h2, .inl (cs.1, 60, .inl (fun j => nI (tp j)))), (h3, .inl (cs.1, 60, .inl (fun j => nI (tf j)))), (h4, .inl (cs.1, 60, .inl (fun j => nI (tg j)))), (h5, .inl (cs.1, 60, .inl (fun j => mI (tA j))))] H := hP
    have hD : va_D A [(h0, .inr (3, [.ref h1, .ref h2, .ref h3, .ref h4, .ref h5, v5, .int (nI (n9 + 1))])), (h1, .inl (cs.1, 60, .inl (fun j => nI (tc j)))), (h2, .inl (cs.1, 60, .inl (fun j => nI (tp j)))), (h3, .inl (cs.1, 60, .inl (fun j => nI (tf j)))), (h4, .inl (cs.1, 60, .inl (fun j => nI (tg j)))), (h5, .inl (cs.1, 60, .inl (fun j => mI (tA j))))] := hD
    refine lv_aload_n hx hb d_K_sell_23 rfl (lv_at hl 1 rfl) ?_
    refine va_get (D := D) (ci := 3) (v := .ref h1) (C := R_K) (T := F_K) (N := 7) hx hb ht j_K hown hK.1 hP 0 rfl rfl 0 (by decide) (ht _ q_105) (fun _ h9 => h9) rfl d_K_sell_24 ?_
    refine lv_iload hx hb d_K_sell_27 (lv_at hl 0 rfl) ?_
    refine lv_iload_n hx hb d_K_sell_29 rfl (lv_at hl 2 rfl) ?_
    refine rr_iast (q0 := 1) (n := 60) nI tc (k := n9) (v := k) hx hb hK hP hD hS rfl (by omega) (by omega) d_K_sell_30 (fun H locs hP hD hS => ?_)
    have hP : va_P D classes [(h0, .inr (3, [.ref h1, .ref h2, .ref h3, .ref h4, .ref h5, v5, .int (nI (n9 + 1))])), (h1, .inl (cs.1, 60, .inl (fun j => nI ((va_up tc n9 k) j)))), (h2, .inl (cs.1, 60, .inl (fun j => nI (tp j)))), (h3, .inl (cs.1, 60, .inl (fun j => nI (tf j)))), (h4, .inl (cs.1, 60, .inl (fun j => nI (tg j)))), (h5, .inl (cs.1, 60, .inl (fun j => mI (tA j))))] H := hP
    have hD : va_D A [(h0, .inr (3, [.ref h1, .ref h2, .ref h3, .ref h4, .ref h5, v5, .int (nI (n9 + 1))])), (h1, .inl (cs.1, 60, .inl (fun j => nI ((va_up tc n9 k) j)))), (h2, .inl (cs.1, 60, .inl (fun j => nI (tp j)))), (h3, .inl (cs.1, 60, .inl (fun j => nI (tf j)))), (h4, .inl (cs.1, 60, .inl (fun j => nI (tg j)))), (h5, .inl (cs.1, 60, .inl (fun j => mI (tA j))))] := hD
    refine lv_aload_n hx hb d_K_sell_31 rfl (lv_at hl 1 rfl) ?_
    refine va_get (D := D) (ci := 3) (v := .ref h2) (C := R_K) (T := F_K) (N := 7) hx hb ht j_K hown hK.1 hP 0 rfl rfl 1 (by decide) (ht _ q_106) (fun _ h9 => h9) rfl d_K_sell_32 ?_
    refine lv_iload hx hb d_K_sell_35 (lv_at hl 0 rfl) ?_
    refine lv_iload_n hx hb d_K_sell_37 rfl (lv_at hl 3 rfl) ?_
    refine rr_iast (q0 := 2) (n := 60) nI tp (k := n9) (v := p9) hx hb hK hP hD hS rfl (by omega) (by omega) d_K_sell_38 (fun H locs hP hD hS => ?_)
    have hP : va_P D classes [(h0, .inr (3, [.ref h1, .ref h2, .ref h3, .ref h4, .ref h5, v5, .int (nI (n9 + 1))])), (h1, .inl (cs.1, 60, .inl (fun j => nI ((va_up tc n9 k) j)))), (h2, .inl (cs.1, 60, .inl (fun j => nI ((va_up tp n9 p9) j)))), (h3, .inl (cs.1, 60, .inl (fun j => nI (tf j)))), (h4, .inl (cs.1, 60, .inl (fun j => nI (tg j)))), (h5, .inl (cs.1, 60, .inl (fun j => mI (tA j))))] H := hP
    have hD : va_D A [(h0, .inr (3, [.ref h1, .ref h2, .ref h3, .ref h4, .ref h5, v5, .int (nI (n9 + 1))])), (h1, .inl (cs.1, 60, .inl (fun j => nI ((va_up tc n9 k) j)))), (h2, .inl (cs.1, 60, .inl (fun j => nI ((va_up tp n9 p9) j)))), (h3, .inl (cs.1, 60, .inl (fun j => nI (tf j)))), (h4, .inl (cs.1, 60, .inl (fun j => nI (tg j)))), (h5, .inl (cs.1, 60, .inl (fun j => mI (tA j))))] := hD
    refine lv_aload_n hx hb d_K_sell_39 rfl (lv_at hl 1 rfl) ?_
    refine va_get (D := D) (ci := 3) (v := .ref h3) (C := R_K) (T := F_K) (N := 7) hx hb ht j_K hown hK.1 hP 0 rfl rfl 2 (by decide) (ht _ q_107) (fun _ h9 => h9) rfl d_K_sell_40 ?_
    refine lv_iload hx hb d_K_sell_43 (lv_at hl 0 rfl) ?_
    refine lv_iload_n hx hb d_K_sell_45 rfl (lv_at hl 4 rfl) ?_
    refine rr_iast (q0 := 3) (n := 60) nI tf (k := n9) (v := f9) hx hb hK hP hD hS rfl (by omega) (by omega) d_K_sell_46 (fun H locs hP hD hS => ?_)
    have hP : va_P D classes [(h0, .inr (3, [.ref h1, .ref h2, .ref h3, .ref h4, .ref h5, v5, .int (nI (n9 + 1))])), (h1, .inl (cs.1, 60, .inl (fun j => nI ((va_up tc n9 k) j)))), (h2, .inl (cs.1, 60, .inl (fun j => nI ((va_up tp n9 p9) j)))), (h3, .inl (cs.1, 60, .inl (fun j => nI ((va_up tf n9 f9) j)))), (h4, .inl (cs.1, 60, .inl (fun j => nI (tg j)))), (h5, .inl (cs.1, 60, .inl (fun j => mI (tA j))))] H := hP
    have hD : va_D A [(h0, .inr (3, [.ref h1, .ref h2, .ref h3, .ref h4, .ref h5, v5, .int (nI (n9 + 1))])), (h1, .inl (cs.1, 60, .inl (fun j => nI ((va_up tc n9 k) j)))), (h2, .inl (cs.1, 60, .inl (fun j => nI ((va_up tp n9 p9) j)))), (h3, .inl (cs.1, 60, .inl (fun j => nI ((va_up tf n9 f9) j)))), (h4, .inl (cs.1, 60, .inl (fun j => nI (tg j)))), (h5, .inl (cs.1, 60, .inl (fun j => mI (tA j))))] := hD
    refine lv_aload_n hx hb d_K_sell_47 rfl (lv_at hl 1 rfl) ?_
    refine va_get (D := D) (ci := 3) (v := .ref h4) (C := R_K) (T := F_K) (N := 7) hx hb ht j_K hown hK.1 hP 0 rfl rfl 3 (by decide) (ht _ q_108) (fun _ h9 => h9) rfl d_K_sell_48 ?_
    refine lv_iload hx hb d_K_sell_51 (lv_at hl 0 rfl) ?_
    refine lv_iload hx hb d_K_sell_53 (lv_at hl 5 rfl) ?_
    refine rr_iast (q0 := 4) (n := 60) nI tg (k := n9) (v := g9) hx hb hK hP hD hS rfl (by omega) (by omega) d_K_sell_55 (fun H locs hP hD hS => ?_)
    have hP : va_P D classes [(h0, .inr (3, [.ref h1, .ref h2, .ref h3, .ref h4, .ref h5, v5, .int (nI (n9 + 1))])), (h1, .inl (cs.1, 60, .inl (fun j => nI ((va_up tc n9 k) j)))), (h2, .inl (cs.1, 60, .inl (fun j => nI ((va_up tp n9 p9) j)))), (h3, .inl (cs.1, 60, .inl (fun j => nI ((va_up tf n9 f9) j)))), (h4, .inl (cs.1, 60, .inl (fun j => nI ((va_up tg n9 g9) j)))), (h5, .inl (cs.1, 60, .inl (fun j => mI (tA j))))] H := hP
    have hD : va_D A [(h0, .inr (3, [.ref h1, .ref h2, .ref h3, .ref h4, .ref h5, v5, .int (nI (n9 + 1))])), (h1, .inl (cs.1, 60, .inl (fun j => nI ((va_up tc n9 k) j)))), (h2, .inl (cs.1, 60, .inl (fun j => nI ((va_up tp n9 p9) j)))), (h3, .inl (cs.1, 60, .inl (fun j => nI ((va_up tf n9 f9) j)))), (h4, .inl (cs.1, 60, .inl (fun j => nI ((va_up tg n9 g9) j)))), (h5, .inl (cs.1, 60, .inl (fun j => mI (tA j))))] := hD
    refine lv_aload_n hx hb d_K_sell_56 rfl (lv_at hl 1 rfl) ?_
    refine va_get (D := D) (ci := 3) (v := .ref h5) (C := R_K) (T := F_K) (N := 7) hx hb ht j_K hown hK.1 hP 0 rfl rfl 4 (by decide) (ht _ q_109) (fun _ h9 => h9) rfl d_K_sell_57 ?_
    refine lv_iload hx hb d_K_sell_60 (lv_at hl 0 rfl) ?_
    refine lv_iconst (v := (-1)) hx hb d_K_sell_62 (by decide) ?_
    refine rr_top mI_0.symm ?_
    refine rr_iast (q0 := 5) (n := 60) mI tA (k := n9) (v := 0) hx hb hK hP hD hS rfl (by omega) (by omega) d_K_sell_63 (fun H locs hP hD hS => ?_)
    have hP : va_P D classes [(h0, .inr (3, [.ref h1, .ref h2, .ref h3, .ref h4, .ref h5, v5, .int (nI (n9 + 1))])), (h1, .inl (cs.1, 60, .inl (fun j => nI ((va_up tc n9 k) j)))), (h2, .inl (cs.1, 60, .inl (fun j => nI ((va_up tp n9 p9) j)))), (h3, .inl (cs.1, 60, .inl (fun j => nI ((va_up tf n9 f9) j)))), (h4, .inl (cs.1, 60, .inl (fun j => nI ((va_up tg n9 g9) j)))), (h5, .inl (cs.1, 60, .inl (fun j => mI ((va_up tA n9 0) j))))] H := hP
    have hD : va_D A [(h0, .inr (3, [.ref h1, .ref h2, .ref h3, .ref h4, .ref h5, v5, .int (nI (n9 + 1))])), (h1, .inl (cs.1, 60, .inl (fun j => nI ((va_up tc n9 k) j)))), (h2, .inl (cs.1, 60, .inl (fun j => nI ((va_up tp n9 p9) j)))), (h3, .inl (cs.1, 60, .inl (fun j => nI ((va_up tf n9 f9) j)))), (h4, .inl (cs.1, 60, .inl (fun j => nI ((va_up tg n9 g9) j)))), (h5, .inl (cs.1, 60, .inl (fun j => mI ((va_up tA n9 0) j))))] := hD
    refine lv_iload hx hb d_K_sell_64 (lv_at hl 0 rfl) ?_
    exact rr_mret () hx hb hr hlk hP hD hS rfl d_K_sell_66
theorem k_K_refundOf : rr_CK y_K_refundOf b_K_refundOf 4 (some .int) 1 := ⟨q_236, q_237, q_6, q_238, by decide, by decide, by decide +kernel⟩
set_option maxHeartbeats 4000000 in
set_option maxRecDepth 100000 in
/-- Tickets.refundOf -/
theorem c_K_refundOf (l : Launch) (D : va_G) (cs : rr_C3) (h0 : Nat) (h2 : Nat) (h3 : Nat) (h6 : Nat) (v0 : Value) (v3 : Value) (v4 : Value) (n9 : Nat) (tp : Nat → Nat) (tf : Nat → Nat) (th : Nat → Nat) (k : Nat) (hn : n9 ≤ 60) (htf : ∀ j, j < n9 → tf j ≤ 1000) (htp : ∀ j, j < n9 → tp j ≤ 8) (hth : ∀ j, j < n9 → th j ≤ 1000) (hk : k < n9) : RO l y_K_refundOf b_K_refundOf 4 (some .int) 1 13 D cs [(h0, .inr (3, [v0, .ref h2, .ref h3, v3, v4, .ref h6, .int (nI n9)])), (h2, .inl (cs.1, 60, .inl (fun j => nI (tp j)))), (h3, .inl (cs.1, 60, .inl (fun j => nI (tf j)))), (h6, .inl (cs.1, 60, .inl (fun j => nI (th j))))] [.ref h0, .int (nI k)] (fun r => r = nI (rfN (tf k * tp k) (th k))) := by
  refine RO.of (by decide) (Nat.le_of_ble_eq_true rfl) ?_
  intro p e s m args below meth c S hr hlk hK hP ls hl
  obtain ⟨hx, hb, hml, hown, ht⟩ := id S
  have hl : lv_has ls 4 [(0, .ref h0), (1, .int (nI k))] := hl
  have htf9 := htf k hk
  have htp9 := htp k hk
  have hth9 := hth k hk
  have hw9 : tf k * tp k ≤ 1000 * 8 := Nat.mul_le_mul htf9 htp9
  have hy9 : tf k * tp k * (th k - 5) ≤ 8000 * 1000 := Nat.mul_le_mul hw9 (by omega)
  refine lv_aload_n hx hb d_K_refundOf_0 rfl (lv_at hl 0 rfl) ?_
  refine va_get (D := D) (ci := 3) (v := .ref h3) (C := R_K) (T := F_K) (N := 7) hx hb ht j_K hown hK.1 hP 0 rfl rfl 2 (by decide) (ht _ q_107) (fun _ h9 => h9) rfl d_K_refundOf_1 ?_
  refine lv_iload_n hx hb d_K_refundOf_4 rfl (lv_at hl 1 rfl) ?_
  refine rr_iald (q0 := 2) (n := 60) (f := (fun j => nI (tf j))) (k := k) hx hb hK hP rfl (by omega) (by omega) d_K_refundOf_5 ?_
  refine lv_aload_n hx hb d_K_refundOf_6 rfl (lv_at hl 0 rfl) ?_
  refine va_get (D := D) (ci := 3) (v := .ref h2) (C := R_K) (T := F_K) (N := 7) hx hb ht j_K hown hK.1 hP 0 rfl rfl 1 (by decide) (ht _ q_106) (fun _ h9 => h9) rfl d_K_refundOf_7 ?_
  refine lv_iload_n hx hb d_K_refundOf_10 rfl (lv_at hl 1 rfl) ?_
  refine rr_iald (q0 := 1) (n := 60) (f := (fun j => nI (tp j))) (k := k) hx hb hK hP rfl (by omega) (by omega) d_K_refundOf_11 ?_
  refine rr_imul (a := (tf k)) (b := (tp k)) hx hb d_K_refundOf_12 ?_
  refine lv_istore_n (lv' := [(2, .int (nI ((tf k) * (tp k)))), (0, .ref h0), (1, .int (nI k))]) hx hb d_K_refundOf_13 rfl hl (by decide) rfl (fun ls hl => ?_)
  refine lv_iconst (v := nI 0) hx hb d_K_refundOf_14 (by decide) ?_
  refine lv_aload_n hx hb d_K_refundOf_15 rfl (lv_at hl 1 rfl) ?_
  refine va_get (D := D) (ci := 3) (v := .ref h6) (C := R_K) (T := F_K) (N := 7) hx hb ht j_K hown hK.1 hP 0 rfl rfl 5 (by decide) (ht _ q_111) (fun _ h9 => h9) rfl d_K_refundOf_16 ?_
  refine lv_iload_n hx hb d_K_refundOf_19 rfl (lv_at hl 2 rfl) ?_
  refine rr_iald (q0 := 3) (n := 60) (f := (fun j => nI (th j))) (k := k) hx hb hK hP rfl (by omega) (by omega) d_K_refundOf_20 ?_
  refine lv_iconst (v := nI 5) hx hb d_K_refundOf_21 (by decide) ?_
  refine lv_isub hx hb d_K_refundOf_22 ?_
  refine va_mmax hx hb (by rw [hml]; exact hl.1.symm) hown (ht _ q_239) (ht _ q_240) (ht _ q_8) (ht _ q_241) (Nat.le_of_ble_eq_true rfl) (Nat.le_of_ble_eq_true rfl) (Nat.zero_le _) (Nat.zero_le _) d_K_refundOf_23 ?_
  refine rr_top (show (if nI 0 < (nI (th k)) - (nI 5) then (nI (th k)) - (nI 5) else nI 0 : Int32) = nI (th k - 5) from mx5 (by omega)) ?_
  refine lv_istore_n (lv' := [(3, .int (nI (th k - 5))), (2, .int (nI ((tf k) * (tp k)))), (0, .ref h0), (1, .int (nI k))]) hx hb d_K_refundOf_26 rfl hl (by decide) rfl (fun ls hl => ?_)
  refine lv_iload_n hx hb d_K_refundOf_27 rfl (lv_at hl 1 rfl) ?_
  refine lv_iload_n hx hb d_K_refundOf_28 rfl (lv_at hl 1 rfl) ?_
  refine lv_iload_n hx hb d_K_refundOf_29 rfl (lv_at hl 0 rfl) ?_
  refine rr_imul (a := ((tf k) * (tp k))) (b := (th k - 5)) hx hb d_K_refundOf_30 ?_
  refine lv_bipush (v := nI 10) hx hb d_K_refundOf_31 (by decide) ?_
  refine rr_idiv (a := (((tf k) * (tp k)) * (th k - 5))) (b := 10) (by omega) (by omega) (by omega) hx hb d_K_refundOf_33 ?_
  refine va_mmin hx hb (by rw [hml]; exact hl.1.symm) hown (ht _ q_242) (ht _ q_180) (ht _ q_8) (ht _ q_181) (Nat.le_of_ble_eq_true rfl) (Nat.le_of_ble_eq_true rfl) (Nat.zero_le _) (Nat.zero_le _) d_K_refundOf_34 ?_
  refine rr_top (rr_min (a := ((tf k) * (tp k))) (b := ((((tf k) * (tp k)) * (th k - 5)) / 10)) (by omega) (by omega)) ?_
  exact rr_ret hx hb hr hlk rfl d_K_refundOf_37
theorem k_K_sumOfRefunds : rr_CK y_K_sumOfRefunds b_K_sumOfRefunds 3 (some .int) 0 := ⟨q_232, q_233, q_6, q_234, by decide, by decide, by decide +kernel⟩
set_option maxHeartbeats 4000000 in
set_option maxRecDepth 100000 in
/-- Tickets.sumOfRefunds -/
theorem c_K_sumOfRefunds (l : Launch) (D : va_G) (cs : rr_C3) (h0 : Nat) (h2 : Nat) (h3 : Nat) (h6 : Nat) (v0 : Value) (v3 : Value) (v4 : Value) (n9 : Nat) (tp : Nat → Nat) (tf : Nat → Nat) (th : Nat → Nat) (hn : n9 ≤ 60) (htf : ∀ j, j < n9 → tf j ≤ 1000) (htp : ∀ j, j < n9 → tp j ≤ 8) (hth : ∀ j, j < n9 → th j ≤ 1000) : RO l y_K_sumOfRefunds b_K_sumOfRefunds 3 (some .int) 2 36 D cs [(h0, .inr (3, [v0, .ref h2, .ref h3, v3, v4, .ref h6, .int (nI n9)])), (h2, .inl (cs.1, 60, .inl (fun j => nI (tp j)))), (h3, .inl (cs.1, 60, .inl (fun j => nI (tf j)))), (h6, .inl (cs.1, 60, .inl (fun j => nI (th j))))] [.ref h0] (fun r => r = nI (rsN tf tp th n9)) := by
  refine RO.of (by decide) (Nat.le_of_ble_eq_true rfl) ?_
  intro p e s m args below meth c S hr hlk hK hP ls hl
  obtain ⟨hx, hb, hml, hown, ht⟩ := id S
  have hl : lv_has ls 3 [(0, .ref h0)] := hl
  refine lv_iconst (v := nI 0) hx hb d_K_sumOfRefunds_0 (by decide) ?_
  refine lv_istore_n (lv' := [(1, .int (nI 0)), (0, .ref h0)]) hx hb d_K_sumOfRefunds_1 rfl hl (by decide) rfl (fun ls hl => ?_)
  refine lv_iconst (v := nI 0) hx hb d_K_sumOfRefunds_2 (by decide) ?_
  refine lv_istore_n (lv' := [(2, .int (nI 0)), (1, .int (nI 0)), (0, .ref h0)]) hx hb d_K_sumOfRefunds_3 rfl hl (by decide) rfl (fun ls hl => ?_)
  refine rr_loop (fun i => [(2, .int (nI i)), (1, .int (nI (rsN tf tp th i))), (0, .ref h0)]) (fun i => True) 0 n9 (by omega) trivial (lv_sub hl [0, 1, 2] rfl) (fun i ls hi_2 hI_3 hl ih_1 => ?_)
  have hl : lv_has ls 3 [(2, .int (nI i)), (1, .int (nI (rsN tf tp th i))), (0, .ref h0)] := hl
  refine lv_iload_n hx hb d_K_sumOfRefunds_4 rfl (lv_at hl 0 rfl) ?_
  refine lv_aload_n hx hb d_K_sumOfRefunds_5 rfl (lv_at hl 2 rfl) ?_
  refine va_get (D := D) (ci := 3) (v := .int (nI n9)) (C := R_K) (T := F_K) (N := 7) hx hb ht j_K hown hK.1 hP 0 rfl rfl 6 (by decide) (ht _ q_113) (fun _ h9 => h9) rfl d_K_sumOfRefunds_6 ?_
  refine rr_icmp_ge (a := i) (b := n9) (tgt := 32) (by omega) (by omega) hx hb d_K_sumOfRefunds_9 (by decide) (fun c9 => ?_) (fun c9 => ?_)
  · refine lv_iload_n hx hb d_K_sumOfRefunds_32 rfl (lv_at hl 1 rfl) ?_
    exact rr_ret hx hb hr hlk (by rw [show i = n9 from by omega]) d_K_sumOfRefunds_33
  · refine lv_iload_n hx hb d_K_sumOfRefunds_12 rfl (lv_at hl 0 rfl) ?_
    refine lv_bipush (v := nI 60) hx hb d_K_sumOfRefunds_13 (by decide) ?_
    refine rr_icmp_ge (a := i) (b := 60) (tgt := 32) (by omega) (by omega) hx hb d_K_sumOfRefunds_15 (by decide) (fun c15 => ?_) (fun c15 => ?_)
    · exact (by omega : False).elim
    · refine lv_iload_n hx hb d_K_sumOfRefunds_18 rfl (lv_at hl 1 rfl) ?_
      refine lv_aload_n hx hb d_K_sumOfRefunds_19 rfl (lv_at hl 2 rfl) ?_
      refine lv_iload_n hx hb d_K_sumOfRefunds_20 rfl (lv_at hl 0 rfl) ?_
      refine rr_rV (As := [.int (nI i)]) (rest := [.int (nI (rsN tf tp th i))]) (idx := 49) (q0 := 0) (ci := 3) S hK hP (c_K_refundOf l D cs h0 h2 h3 h6 v0 v3 v4 n9 tp tf th i (by first | assumption | omega) (by first | assumption | omega) (by first | assumption | omega) (by first | assumption | omega) (by first | assumption | omega)) k_K_refundOf [0, 1, 2, 3] rfl rfl rfl rfl q_235 ⟨Nat.le_of_ble_eq_true rfl, Nat.le_of_ble_eq_true rfl⟩ ⟨Nat.le_of_ble_eq_true rfl, Nat.le_of_ble_eq_true rfl⟩ hl (Nat.le_of_ble_eq_true rfl) rfl d_K_sumOfRefunds_21 (fun r9 hr9 => ?_)
      subst hr9
      refine rr_iadd (a := (rsN tf tp th i)) (b := (rfN (tf i * tp i) (th i))) hx hb d_K_sumOfRefunds_24 ?_
      refine lv_istore_n (lv' := [(1, .int (nI ((rsN tf tp th i) + (rfN (tf i * tp i) (th i))))), (2, .int (nI i)), (0, .ref h0)]) hx hb d_K_sumOfRefunds_25 rfl hl (by decide) rfl (fun ls hl => ?_)
      refine lv_iinc (v := nI (i + 1)) (lv' := [(2, .int (nI (i + 1))), (1, .int (nI ((rsN tf tp th i) + (rfN (tf i * tp i) (th i))))), (0, .ref h0)]) hx hb d_K_sumOfRefunds_26 hl (k := 1) rfl (nI_add i 1) (by decide) rfl (fun ls hl => ?_)
      refine lv_goto (tgt := 4) hx hb d_K_sumOfRefunds_29 (by decide) ?_
      exact ih_1 ls (by omega) trivial (by show lv_has ls 3 [(2, .int (nI (i + 1))), (1, .int (nI (rsN tf tp th (i + 1)))), (0, .ref h0)]; rw [show (nI (rsN tf tp th (i + 1)) : Int32) = nI ((rsN tf tp th i) + (rfN (tf i * tp i) (th i))) from congrArg nI (by rw [rsN_s])]; exact lv_sub hl [0, 1, 2] rfl)
theorem k_K_passMinute : rr_CK y_K_passMinute b_K_passMinute 6 none 4 := ⟨q_499, q_500, q_6, q_501, by decide, by decide, by decide +kernel⟩
set_option maxHeartbeats 4000000 in
set_option maxRecDepth 100000 in
/-- Tickets.passMinute -/
theorem c_K_passMinute (l : Launch) (D : va_G) (cs : rr_C3) (h0 : Nat) (h1 : Nat) (h4 : Nat) (h5 : Nat) (h6 : Nat) (g0 : Nat) (g1 : Nat) (g3 : Nat) (v1 : Value) (v2 : Value) (w1 : Value) (w3 : Value) (n9 : Nat) (tc : Nat → Nat) (tg : Nat → Nat) (tA : Nat → Nat) (th : Nat → Nat) (pl : Nat → Nat) (on : Nat → Nat) (T : Nat) (U : Nat) (k : Nat) (hn : n9 ≤ 60) (hT : T ≤ 1000) (hU : U ≤ 100000) (hk : k ≤ 2) (htc : ∀ j, j < n9 → tc j < 16) (htA : ∀ j, j < n9 → tA j ≤ 1001) (htg : ∀ j, j < n9 → tg j ≤ 100000) (hon : ∀ j, j < 16 → on j ≤ 1) (hpl : ∀ j, j < 16 → on j = 1 → pl j < 1200) (sz : Nat) : MV l y_K_passMinute b_K_passMinute 6 3 61 0 0 D cs [(h0, .inr (3, [.ref h1, v1, v2, .ref h4, .ref h5, .ref h6, .int (nI n9)])), (h1, .inl (cs.1, 60, .inl (fun j => nI (tc j)))), (h4, .inl (cs.1, 60, .inl (fun j => nI (tg j)))), (h5, .inl (cs.1, 60, .inl (fun j => mI (tA j)))), (h6, .inl (cs.1, 60, .inl (fun j => nI (th j)))), (g0, .inr (1, [.ref g1, w1, .ref g3, w3])), (g1, .inl (cs.1, 16, .inl (fun j => nI (pl j)))), (g3, .inl (cs.2.1, 16, .inl (fun j => nI (on j))))] sz [.ref h0, .int (nI T), .int (nI U), .int (nI k), .ref g0] (fun (_ : Unit) => True) (fun _ : Unit => [(h0, .inr (3, [.ref h1, v1, v2, .ref h4, .ref h5, .ref h6, .int (nI n9)])), (h1, .inl (cs.1, 60, .inl (fun j => nI (tc j)))), (h4, .inl (cs.1, 60, .inl (fun j => nI (tg j)))), (h5, .inl (cs.1, 60, .inl (fun j => mI ((taf tA tg (T + 1) U n9) j)))), (h6, .inl (cs.1, 60, .inl (fun j => nI ((thf th tA tg tc (oC on pl) U k n9) j)))), (g0, .inr (1, [.ref g1, w1, .ref g3, w3])), (g1, .inl (cs.1, 16, .inl (fun j => nI (pl j)))), (g3, .inl (cs.2.1, 16, .inl (fun j => nI (on j))))]) := by
  refine MV.of (by decide) (Nat.le_of_ble_eq_true rfl) ?_
  intro p e s m args below meth c A S hr hlk hnm hK hP hD hA hS ls hl
  obtain ⟨hx, hb, hml, hown, ht⟩ := id S
  have hl : lv_has ls 6 [(0, .ref h0), (1, .int (nI T)), (2, .int (nI U)), (3, .int (nI k)), (4, .ref g0)] := hl
  have hS : va_S A s.heap s.heap [] := hS
  refine lv_iconst (v := nI 0) hx hb d_K_passMinute_0 (by decide) ?_
  refine lv_istore (lv' := [(5, .int (nI 0)), (0, .ref h0), (1, .int (nI T)), (2, .int (nI U)), (3, .int (nI k)), (4, .ref g0)]) hx hb d_K_passMinute_1 hl (by decide) rfl (fun ls hl => ?_)
  have hPD : va_P D classes [(h0, .inr (3, [.ref h1, v1, v2, .ref h4, .ref h5, .ref h6, .int (nI n9)])), (h1, .inl (cs.1, 60, .inl (fun j => nI (tc j)))), (h4, .inl (cs.1, 60, .inl (fun j => nI (tg j)))), (h5, .inl (cs.1, 60, .inl (fun j => mI ((taf tA tg (T + 1) U 0) j)))), (h6, .inl (cs.1, 60, .inl (fun j => nI ((thf th tA tg tc (oC on pl) U k 0) j)))), (g0, .inr (1, [.ref g1, w1, .ref g3, w3])), (g1, .inl (cs.1, 16, .inl (fun j => nI (pl j)))), (g3, .inl (cs.2.1, 16, .inl (fun j => nI (on j))))] s.heap ∧ va_D A [(h0, .inr (3, [.ref h1, v1, v2, .ref h4, .ref h5, .ref h6, .int (nI n9)])), (h1, .inl (cs.1, 60, .inl (fun j => nI (tc j)))), (h4, .inl (cs.1, 60, .inl (fun j => nI (tg j)))), (h5, .inl (cs.1, 60, .inl (fun j => mI ((taf tA tg (T + 1) U 0) j)))), (h6, .inl (cs.1, 60, .inl (fun j => nI ((thf th tA tg tc (oC on pl) U k 0) j)))), (g0, .inr (1, [.ref g1, w1, .ref g3, w3])), (g1, .inl (cs.1, 16, .inl (fun j => nI (pl j)))), (g3, .inl (cs.2.1, 16, .inl (fun j => nI (on j))))] := by rw [taf_0, thf_0]; exact ⟨hP, hD⟩
  refine rr_loopM (fun i => [(5, .int (nI i)), (0, .ref h0), (1, .int (nI T)), (2, .int (nI U)), (3, .int (nI k)), (4, .ref g0)]) (fun i => True) (fun i => [(h0, .inr (3, [.ref h1, v1, v2, .ref h4, .ref h5, .ref h6, .int (nI n9)])), (h1, .inl (cs.1, 60, .inl (fun j => nI (tc j)))), (h4, .inl (cs.1, 60, .inl (fun j => nI (tg j)))), (h5, .inl (cs.1, 60, .inl (fun j => mI ((taf tA tg (T + 1) U i) j)))), (h6, .inl (cs.1, 60, .inl (fun j => nI ((thf th tA tg tc (oC on pl) U k i) j)))), (g0, .inr (1, [.ref g1, w1, .ref g3, w3])), (g1, .inl (cs.1, 16, .inl (fun j => nI (pl j)))), (g3, .inl (cs.2.1, 16, .inl (fun j => nI (on j))))]) 0 n9 (by omega) trivial (lv_sub hl [0, 1, 2, 3, 4, 5] rfl) hPD.1 hPD.2 hS (fun i ls H locs hi_2 hI_3 hl hP hD hS ih_1 => ?_)
  have hP : va_P D classes [(h0, .inr (3, [.ref h1, v1, v2, .ref h4, .ref h5, .ref h6, .int (nI n9)])), (h1, .inl (cs.1, 60, .inl (fun j => nI (tc j)))), (h4, .inl (cs.1, 60, .inl (fun j => nI (tg j)))), (h5, .inl (cs.1, 60, .inl (fun j => mI ((taf tA tg (T + 1) U i) j)))), (h6, .inl (cs.1, 60, .inl (fun j => nI ((thf th tA tg tc (oC on pl) U k i) j)))), (g0, .inr (1, [.ref g1, w1, .ref g3, w3])), (g1, .inl (cs.1, 16, .inl (fun j => nI (pl j)))), (g3, .inl (cs.2.1, 16, .inl (fun j => nI (on j))))] H := hP
  have hD : va_D A [(h0, .inr (3, [.ref h1, v1, v2, .ref h4, .ref h5, .ref h6, .int (nI n9)])), (h1, .inl (cs.1, 60, .inl (fun j => nI (tc j)))), (h4, .inl (cs.1, 60, .inl (fun j => nI (tg j)))), (h5, .inl (cs.1, 60, .inl (fun j => mI ((taf tA tg (T + 1) U i) j)))), (h6, .inl (cs.1, 60, .inl (fun j => nI ((thf th tA tg tc (oC on pl) U k i) j)))), (g0, .inr (1, [.ref g1, w1, .ref g3, w3])), (g1, .inl (cs.1, 16, .inl (fun j => nI (pl j)))), (g3, .inl (cs.2.1, 16, .inl (fun j => nI (on j))))] := hD
  have hl : lv_has ls 6 [(5, .int (nI i)), (0, .ref h0), (1, .int (nI T)), (2, .int (nI U)), (3, .int (nI k)), (4, .ref g0)] := hl
  refine lv_iload hx hb d_K_passMinute_3 (lv_at hl 0 rfl) ?_
  refine lv_aload_n hx hb d_K_passMinute_5 rfl (lv_at hl 1 rfl) ?_
  refine va_get (D := D) (ci := 3) (v := .int (nI n9)) (C := R_K) (T := F_K) (N := 7) hx hb ht j_K hown hK.1 hP 0 rfl rfl 6 (by decide) (ht _ q_113) (fun _ h9 => h9) rfl d_K_passMinute_6 ?_
  refine rr_icmp_ge (a := i) (b := n9) (tgt := 91) (by omega) (by omega) hx hb d_K_passMinute_9 (by decide) (fun c9 => ?_) (fun c9 => ?_)
  · have hPD : va_P D classes [(h0, .inr (3, [.ref h1, v1, v2, .ref h4, .ref h5, .ref h6, .int (nI n9)])), (h1, .inl (cs.1, 60, .inl (fun j => nI (tc j)))), (h4, .inl (cs.1, 60, .inl (fun j => nI (tg j)))), (h5, .inl (cs.1, 60, .inl (fun j => mI ((taf tA tg (T + 1) U n9) j)))), (h6, .inl (cs.1, 60, .inl (fun j => nI ((thf th tA tg tc (oC on pl) U k n9) j)))), (g0, .inr (1, [.ref g1, w1, .ref g3, w3])), (g1, .inl (cs.1, 16, .inl (fun j => nI (pl j)))), (g3, .inl (cs.2.1, 16, .inl (fun j => nI (on j))))] H ∧ va_D A [(h0, .inr (3, [.ref h1, v1, v2, .ref h4, .ref h5, .ref h6, .int (nI n9)])), (h1, .inl (cs.1, 60, .inl (fun j => nI (tc j)))), (h4, .inl (cs.1, 60, .inl (fun j => nI (tg j)))), (h5, .inl (cs.1, 60, .inl (fun j => mI ((taf tA tg (T + 1) U n9) j)))), (h6, .inl (cs.1, 60, .inl (fun j => nI ((thf th tA tg tc (oC on pl) U k n9) j)))), (g0, .inr (1, [.ref g1, w1, .ref g3, w3])), (g1, .inl (cs.1, 16, .inl (fun j => nI (pl j)))), (g3, .inl (cs.2.1, 16, .inl (fun j => nI (on j))))] := by rw [show taf tA tg (T + 1) U n9 = taf tA tg (T + 1) U i from by rw [show i = n9 from by omega], show thf th tA tg tc (oC on pl) U k n9 = thf th tA tg tc (oC on pl) U k i from by rw [show i = n9 from by omega]]; exact ⟨hP, hD⟩
    exact rr_mvret () hx hb hr hlk hPD.1 hPD.2 hS trivial d_K_passMinute_91
  · refine lv_iload hx hb d_K_passMinute_12 (lv_at hl 0 rfl) ?_
    refine lv_bipush (v := nI 60) hx hb d_K_passMinute_14 (by decide) ?_
    refine rr_icmp_ge (a := i) (b := 60) (tgt := 91) (by omega) (by omega) hx hb d_K_passMinute_16 (by decide) (fun c16 => ?_) (fun c16 => ?_)
    · exact (by omega : False).elim
    · refine lv_aload_n hx hb d_K_passMinute_19 rfl (lv_at hl 1 rfl) ?_
      refine va_get (D := D) (ci := 3) (v := .ref h5) (C := R_K) (T := F_K) (N := 7) hx hb ht j_K hown hK.1 hP 0 rfl rfl 4 (by decide) (ht _ q_109) (fun _ h9 => h9) rfl d_K_passMinute_20 ?_
      refine lv_iload hx hb d_K_passMinute_23 (lv_at hl 0 rfl) ?_
      refine rr_iald (q0 := 3) (n := 60) (f := (fun j => mI ((taf tA tg (T + 1) U i) j))) (k := i) hx hb hK hP rfl (by omega) (by omega) d_K_passMinute_25 ?_
      refine rr_top (show (mI ((taf tA tg (T + 1) U i) i) : Int32) = mI (tA i) from by rw [taf_at]) ?_
      have htA9 := htA i (by omega)
      have htg9 := htg i (by omega)
      have htc9 := htc i (by omega)
      refine lv_iconst (v := (-1)) hx hb d_K_passMinute_26 (by decide) ?_
      refine lv_icmp_eq (tgt := 33) hx hb d_K_passMinute_27 (by decide) (fun c27 => ?_) (fun c27 => ?_)
      · have hz9 : tA i = 0 := (mI_m1 (by omega)).mp c27
        refine lv_iload_n hx hb d_K_passMinute_33 rfl (lv_at hl 3 rfl) ?_
        refine lv_aload_n hx hb d_K_passMinute_34 rfl (lv_at hl 1 rfl) ?_
        refine va_get (D := D) (ci := 3) (v := .ref h4) (C := R_K) (T := F_K) (N := 7) hx hb ht j_K hown hK.1 hP 0 rfl rfl 3 (by decide) (ht _ q_108) (fun _ h9 => h9) rfl d_K_passMinute_35 ?_
        refine lv_iload hx hb d_K_passMinute_38 (lv_at hl 0 rfl) ?_
        refine rr_iald (q0 := 2) (n := 60) (f := (fun j => nI (tg j))) (k := i) hx hb hK hP rfl (by omega) (by omega) d_K_passMinute_40 ?_
        refine rr_icmp_lt (a := U) (b := (tg i)) (tgt := 55) (by omega) (by omega) hx hb d_K_passMinute_41 (by decide) (fun c41 => ?_) (fun c41 => ?_)
        · refine lv_iload_n hx hb d_K_passMinute_55 rfl (lv_at hl 4 rfl) ?_
          refine rr_if_ne (a := k) (tgt := 85) (by omega) hx hb d_K_passMinute_56 (by decide) (fun c56 => ?_) (fun c56 => ?_)
          · refine lv_iinc (v := nI (i + 1)) (lv' := [(5, .int (nI (i + 1))), (0, .ref h0), (1, .int (nI T)), (2, .int (nI U)), (3, .int (nI k)), (4, .ref g0)]) hx hb d_K_passMinute_85 hl (k := 0) rfl (nI_add i 1) (by decide) rfl (fun ls hl => ?_)
            refine lv_goto (tgt := 3) hx hb d_K_passMinute_88 (by decide) ?_
            have hPD : va_P D classes [(h0, .inr (3, [.ref h1, v1, v2, .ref h4, .ref h5, .ref h6, .int (nI n9)])), (h1, .inl (cs.1, 60, .inl (fun j => nI (tc j)))), (h4, .inl (cs.1, 60, .inl (fun j => nI (tg j)))), (h5, .inl (cs.1, 60, .inl (fun j => mI ((taf tA tg (T + 1) U (i + 1)) j)))), (h6, .inl (cs.1, 60, .inl (fun j => nI ((thf th tA tg tc (oC on pl) U k (i + 1)) j)))), (g0, .inr (1, [.ref g1, w1, .ref g3, w3])), (g1, .inl (cs.1, 16, .inl (fun j => nI (pl j)))), (g3, .inl (cs.2.1, 16, .inl (fun j => nI (on j))))] H ∧ va_D A [(h0, .inr (3, [.ref h1, v1, v2, .ref h4, .ref h5, .ref h6, .int (nI n9)])), (h1, .inl (cs.1, 60, .inl (fun j => nI (tc j)))), (h4, .inl (cs.1, 60, .inl (fun j => nI (tg j)))), (h5, .inl (cs.1, 60, .inl (fun j => mI ((taf tA tg (T + 1) U (i + 1)) j)))), (h6, .inl (cs.1, 60, .inl (fun j => nI ((thf th tA tg tc (oC on pl) U k (i + 1)) j)))), (g0, .inr (1, [.ref g1, w1, .ref g3, w3])), (g1, .inl (cs.1, 16, .inl (fun j => nI (pl j)))), (g3, .inl (cs.2.1, 16, .inl (fun j => nI (on j))))] := by rw [show (taf tA tg (T + 1) U (i + 1)) = (taf tA tg (T + 1) U i) from (taf_s0 (by omega)).symm]; rw [show (thf th tA tg tc (oC on pl) U k (i + 1)) = (thf th tA tg tc (oC on pl) U k i) from (thf_s0 (by omega)).symm]; exact ⟨hP, hD⟩
            exact ih_1 ls H locs (by omega) trivial (by show lv_has ls 6 [(5, .int (nI (i + 1))), (0, .ref h0), (1, .int (nI T)), (2, .int (nI U)), (3, .int (nI k)), (4, .ref g0)]; skip; exact lv_sub hl [0, 1, 2, 3, 4, 5] rfl) hPD.1 hPD.2 hS
          · refine lv_aload hx hb d_K_passMinute_59 (lv_at hl 5 rfl) ?_
            refine lv_aload_n hx hb d_K_passMinute_61 rfl (lv_at hl 1 rfl) ?_
            refine va_get (D := D) (ci := 3) (v := .ref h1) (C := R_K) (T := F_K) (N := 7) hx hb ht j_K hown hK.1 hP 0 rfl rfl 0 (by decide) (ht _ q_105) (fun _ h9 => h9) rfl d_K_passMinute_62 ?_
            refine lv_iload hx hb d_K_passMinute_65 (lv_at hl 0 rfl) ?_
            refine rr_iald (q0 := 1) (n := 60) (f := (fun j => nI (tc j))) (k := i) hx hb hK hP rfl (by omega) (by omega) d_K_passMinute_67 ?_
            refine rr_rV (As := [.int (nI (tc i))]) (rest := []) (idx := 34) (q0 := 5) (ci := 1) S hK hP (c_L_isOutOfStations l D cs g0 g1 g3 w1 w3 pl on (tc i) (by first | assumption | omega) (by first | assumption | omega) (by first | assumption | omega)) k_L_isOutOfStations [5, 6, 7] rfl rfl rfl rfl q_502 ⟨Nat.le_of_ble_eq_true rfl, Nat.le_of_ble_eq_true rfl⟩ ⟨Nat.le_of_ble_eq_true rfl, Nat.le_of_ble_eq_true rfl⟩ hl (Nat.le_of_ble_eq_true rfl) rfl d_K_passMinute_68 (fun r9 hr9 => ?_)
            subst hr9
            refine rr_bq_eq (tgt := 85) hx hb d_K_passMinute_71 (by decide) (fun c71 => ?_) (fun c71 => ?_)
            · have ho9 : oC on pl (tc i) = 0 := bq_f c71
              refine lv_iinc (v := nI (i + 1)) (lv' := [(5, .int (nI (i + 1))), (0, .ref h0), (1, .int (nI T)), (2, .int (nI U)), (3, .int (nI k)), (4, .ref g0)]) hx hb d_K_passMinute_85 hl (k := 0) rfl (nI_add i 1) (by decide) rfl (fun ls hl => ?_)
              refine lv_goto (tgt := 3) hx hb d_K_passMinute_88 (by decide) ?_
              have hPD : va_P D classes [(h0, .inr (3, [.ref h1, v1, v2, .ref h4, .ref h5, .ref h6, .int (nI n9)])), (h1, .inl (cs.1, 60, .inl (fun j => nI (tc j)))), (h4, .inl (cs.1, 60, .inl (fun j => nI (tg j)))), (h5, .inl (cs.1, 60, .inl (fun j => mI ((taf tA tg (T + 1) U (i + 1)) j)))), (h6, .inl (cs.1, 60, .inl (fun j => nI ((thf th tA tg tc (oC on pl) U k (i + 1)) j)))), (g0, .inr (1, [.ref g1, w1, .ref g3, w3])), (g1, .inl (cs.1, 16, .inl (fun j => nI (pl j)))), (g3, .inl (cs.2.1, 16, .inl (fun j => nI (on j))))] H ∧ va_D A [(h0, .inr (3, [.ref h1, v1, v2, .ref h4, .ref h5, .ref h6, .int (nI n9)])), (h1, .inl (cs.1, 60, .inl (fun j => nI (tc j)))), (h4, .inl (cs.1, 60, .inl (fun j => nI (tg j)))), (h5, .inl (cs.1, 60, .inl (fun j => mI ((taf tA tg (T + 1) U (i + 1)) j)))), (h6, .inl (cs.1, 60, .inl (fun j => nI ((thf th tA tg tc (oC on pl) U k (i + 1)) j)))), (g0, .inr (1, [.ref g1, w1, .ref g3, w3])), (g1, .inl (cs.1, 16, .inl (fun j => nI (pl j)))), (g3, .inl (cs.2.1, 16, .inl (fun j => nI (on j))))] := by rw [show (taf tA tg (T + 1) U (i + 1)) = (taf tA tg (T + 1) U i) from (taf_s0 (by omega)).symm]; rw [show (thf th tA tg tc (oC on pl) U k (i + 1)) = (thf th tA tg tc (oC on pl) U k i) from (thf_s0 (by omega)).symm]; exact ⟨hP, hD⟩
              exact ih_1 ls H locs (by omega) trivial (by show lv_has ls 6 [(5, .int (nI (i + 1))), (0, .ref h0), (1, .int (nI T)), (2, .int (nI U)), (3, .int (nI k)), (4, .ref g0)]; skip; exact lv_sub hl [0, 1, 2, 3, 4, 5] rfl) hPD.1 hPD.2 hS
            · have ho9 : oC on pl (tc i) = 1 := bq_t c71
              refine lv_aload_n hx hb d_K_passMinute_74 rfl (lv_at hl 1 rfl) ?_
              refine va_get (D := D) (ci := 3) (v := .ref h6) (C := R_K) (T := F_K) (N := 7) hx hb ht j_K hown hK.1 hP 0 rfl rfl 5 (by decide) (ht _ q_111) (fun _ h9 => h9) rfl d_K_passMinute_75 ?_
              refine lv_iload hx hb d_K_passMinute_78 (lv_at hl 0 rfl) ?_
              refine lv_dup2_11 hx hb d_K_passMinute_80 rfl rfl ?_
              refine rr_iald (q0 := 4) (n := 60) (f := (fun j => nI ((thf th tA tg tc (oC on pl) U k i) j))) (k := i) hx hb hK hP rfl (by omega) (by omega) d_K_passMinute_81 ?_
              refine lv_iconst (v := nI 1) hx hb d_K_passMinute_82 (by decide) ?_
              refine rr_iadd (a := ((thf th tA tg tc (oC on pl) U k i) i)) (b := 1) hx hb d_K_passMinute_83 ?_
              refine rr_iast (q0 := 4) (n := 60) nI (thf th tA tg tc (oC on pl) U k i) (k := i) (v := (((thf th tA tg tc (oC on pl) U k i) i) + 1)) hx hb hK hP hD hS rfl (by omega) (by omega) d_K_passMinute_84 (fun H locs hP hD hS => ?_)
              have hP : va_P D classes [(h0, .inr (3, [.ref h1, v1, v2, .ref h4, .ref h5, .ref h6, .int (nI n9)])), (h1, .inl (cs.1, 60, .inl (fun j => nI (tc j)))), (h4, .inl (cs.1, 60, .inl (fun j => nI (tg j)))), (h5, .inl (cs.1, 60, .inl (fun j => mI ((taf tA tg (T + 1) U i) j)))), (h6, .inl (cs.1, 60, .inl (fun j => nI ((va_up (thf th tA tg tc (oC on pl) U k i) i (((thf th tA tg tc (oC on pl) U k i) i) + 1)) j)))), (g0, .inr (1, [.ref g1, w1, .ref g3, w3])), (g1, .inl (cs.1, 16, .inl (fun j => nI (pl j)))), (g3, .inl (cs.2.1, 16, .inl (fun j => nI (on j))))] H := hP
              have hD : va_D A [(h0, .inr (3, [.ref h1, v1, v2, .ref h4, .ref h5, .ref h6, .int (nI n9)])), (h1, .inl (cs.1, 60, .inl (fun j => nI (tc j)))), (h4, .inl (cs.1, 60, .inl (fun j => nI (tg j)))), (h5, .inl (cs.1, 60, .inl (fun j => mI ((taf tA tg (T + 1) U i) j)))), (h6, .inl (cs.1, 60, .inl (fun j => nI ((va_up (thf th tA tg tc (oC on pl) U k i) i (((thf th tA tg tc (oC on pl) U k i) i) + 1)) j)))), (g0, .inr (1, [.ref g1, w1, .ref g3, w3])), (g1, .inl (cs.1, 16, .inl (fun j => nI (pl j)))), (g3, .inl (cs.2.1, 16, .inl (fun j => nI (on j))))] := hD
              refine lv_iinc (v := nI (i + 1)) (lv' := [(5, .int (nI (i + 1))), (0, .ref h0), (1, .int (nI T)), (2, .int (nI U)), (3, .int (nI k)), (4, .ref g0)]) hx hb d_K_passMinute_85 hl (k := 0) rfl (nI_add i 1) (by decide) rfl (fun ls hl => ?_)
              refine lv_goto (tgt := 3) hx hb d_K_passMinute_88 (by decide) ?_
              have hPD : va_P D classes [(h0, .inr (3, [.ref h1, v1, v2, .ref h4, .ref h5, .ref h6, .int (nI n9)])), (h1, .inl (cs.1, 60, .inl (fun j => nI (tc j)))), (h4, .inl (cs.1, 60, .inl (fun j => nI (tg j)))), (h5, .inl (cs.1, 60, .inl (fun j => mI ((taf tA tg (T + 1) U (i + 1)) j)))), (h6, .inl (cs.1, 60, .inl (fun j => nI ((thf th tA tg tc (oC on pl) U k (i + 1)) j)))), (g0, .inr (1, [.ref g1, w1, .ref g3, w3])), (g1, .inl (cs.1, 16, .inl (fun j => nI (pl j)))), (g3, .inl (cs.2.1, 16, .inl (fun j => nI (on j))))] H ∧ va_D A [(h0, .inr (3, [.ref h1, v1, v2, .ref h4, .ref h5, .ref h6, .int (nI n9)])), (h1, .inl (cs.1, 60, .inl (fun j => nI (tc j)))), (h4, .inl (cs.1, 60, .inl (fun j => nI (tg j)))), (h5, .inl (cs.1, 60, .inl (fun j => mI ((taf tA tg (T + 1) U (i + 1)) j)))), (h6, .inl (cs.1, 60, .inl (fun j => nI ((thf th tA tg tc (oC on pl) U k (i + 1)) j)))), (g0, .inr (1, [.ref g1, w1, .ref g3, w3])), (g1, .inl (cs.1, 16, .inl (fun j => nI (pl j)))), (g3, .inl (cs.2.1, 16, .inl (fun j => nI (on j))))] := by rw [show (taf tA tg (T + 1) U (i + 1)) = (taf tA tg (T + 1) U i) from (taf_s0 (by omega)).symm]; rw [show (thf th tA tg tc (oC on pl) U k (i + 1)) = (va_up (thf th tA tg tc (oC on pl) U k i) i (((thf th tA tg tc (oC on pl) U k i) i) + 1)) from (by rw [← thf_s1 (by omega), ← thf_at (th := th) (ta := tA) (tg := tg) (tc := tc) (ou := oC on pl) (U := U) (v := k) (n := i)])]; exact ⟨hP, hD⟩
              exact ih_1 ls H locs (by omega) trivial (by show lv_has ls 6 [(5, .int (nI (i + 1))), (0, .ref h0), (1, .int (nI T)), (2, .int (nI U)), (3, .int (nI k)), (4, .ref g0)]; skip; exact lv_sub hl [0, 1, 2, 3, 4, 5] rfl) hPD.1 hPD.2 hS
        · refine lv_aload_n hx hb d_K_passMinute_44 rfl (lv_at hl 1 rfl) ?_
          refine va_get (D := D) (ci := 3) (v := .ref h5) (C := R_K) (T := F_K) (N := 7) hx hb ht j_K hown hK.1 hP 0 rfl rfl 4 (by decide) (ht _ q_109) (fun _ h9 => h9) rfl d_K_passMinute_45 ?_
          refine lv_iload hx hb d_K_passMinute_48 (lv_at hl 0 rfl) ?_
          refine lv_iload_n hx hb d_K_passMinute_50 rfl (lv_at hl 2 rfl) ?_
          refine rr_top (mI_s T).symm ?_
          refine rr_iast (q0 := 3) (n := 60) mI (taf tA tg (T + 1) U i) (k := i) (v := (T + 1)) hx hb hK hP hD hS rfl (by omega) (by omega) d_K_passMinute_51 (fun H locs hP hD hS => ?_)
          have hP : va_P D classes [(h0, .inr (3, [.ref h1, v1, v2, .ref h4, .ref h5, .ref h6, .int (nI n9)])), (h1, .inl (cs.1, 60, .inl (fun j => nI (tc j)))), (h4, .inl (cs.1, 60, .inl (fun j => nI (tg j)))), (h5, .inl (cs.1, 60, .inl (fun j => mI ((va_up (taf tA tg (T + 1) U i) i (T + 1)) j)))), (h6, .inl (cs.1, 60, .inl (fun j => nI ((thf th tA tg tc (oC on pl) U k i) j)))), (g0, .inr (1, [.ref g1, w1, .ref g3, w3])), (g1, .inl (cs.1, 16, .inl (fun j => nI (pl j)))), (g3, .inl (cs.2.1, 16, .inl (fun j => nI (on j))))] H := hP
          have hD : va_D A [(h0, .inr (3, [.ref h1, v1, v2, .ref h4, .ref h5, .ref h6, .int (nI n9)])), (h1, .inl (cs.1, 60, .inl (fun j => nI (tc j)))), (h4, .inl (cs.1, 60, .inl (fun j => nI (tg j)))), (h5, .inl (cs.1, 60, .inl (fun j => mI ((va_up (taf tA tg (T + 1) U i) i (T + 1)) j)))), (h6, .inl (cs.1, 60, .inl (fun j => nI ((thf th tA tg tc (oC on pl) U k i) j)))), (g0, .inr (1, [.ref g1, w1, .ref g3, w3])), (g1, .inl (cs.1, 16, .inl (fun j => nI (pl j)))), (g3, .inl (cs.2.1, 16, .inl (fun j => nI (on j))))] := hD
          refine lv_goto (tgt := 85) hx hb d_K_passMinute_52 (by decide) ?_
          refine lv_iinc (v := nI (i + 1)) (lv' := [(5, .int (nI (i + 1))), (0, .ref h0), (1, .int (nI T)), (2, .int (nI U)), (3, .int (nI k)), (4, .ref g0)]) hx hb d_K_passMinute_85 hl (k := 0) rfl (nI_add i 1) (by decide) rfl (fun ls hl => ?_)
          refine lv_goto (tgt := 3) hx hb d_K_passMinute_88 (by decide) ?_
          have hPD : va_P D classes [(h0, .inr (3, [.ref h1, v1, v2, .ref h4, .ref h5, .ref h6, .int (nI n9)])), (h1, .inl (cs.1, 60, .inl (fun j => nI (tc j)))), (h4, .inl (cs.1, 60, .inl (fun j => nI (tg j)))), (h5, .inl (cs.1, 60, .inl (fun j => mI ((taf tA tg (T + 1) U (i + 1)) j)))), (h6, .inl (cs.1, 60, .inl (fun j => nI ((thf th tA tg tc (oC on pl) U k (i + 1)) j)))), (g0, .inr (1, [.ref g1, w1, .ref g3, w3])), (g1, .inl (cs.1, 16, .inl (fun j => nI (pl j)))), (g3, .inl (cs.2.1, 16, .inl (fun j => nI (on j))))] H ∧ va_D A [(h0, .inr (3, [.ref h1, v1, v2, .ref h4, .ref h5, .ref h6, .int (nI n9)])), (h1, .inl (cs.1, 60, .inl (fun j => nI (tc j)))), (h4, .inl (cs.1, 60, .inl (fun j => nI (tg j)))), (h5, .inl (cs.1, 60, .inl (fun j => mI ((taf tA tg (T + 1) U (i + 1)) j)))), (h6, .inl (cs.1, 60, .inl (fun j => nI ((thf th tA tg tc (oC on pl) U k (i + 1)) j)))), (g0, .inr (1, [.ref g1, w1, .ref g3, w3])), (g1, .inl (cs.1, 16, .inl (fun j => nI (pl j)))), (g3, .inl (cs.2.1, 16, .inl (fun j => nI (on j))))] := by rw [show (taf tA tg (T + 1) U (i + 1)) = (va_up (taf tA tg (T + 1) U i) i (T + 1)) from (by rw [taf_s1 (by omega)])]; rw [show (thf th tA tg tc (oC on pl) U k (i + 1)) = (thf th tA tg tc (oC on pl) U k i) from (thf_s0 (by omega)).symm]; exact ⟨hP, hD⟩
          exact ih_1 ls H locs (by omega) trivial (by show lv_has ls 6 [(5, .int (nI (i + 1))), (0, .ref h0), (1, .int (nI T)), (2, .int (nI U)), (3, .int (nI k)), (4, .ref g0)]; skip; exact lv_sub hl [0, 1, 2, 3, 4, 5] rfl) hPD.1 hPD.2 hS
      · have hz9 : ¬ tA i = 0 := fun z => c27 ((mI_m1 (by omega)).mpr z)
        refine lv_goto (tgt := 85) hx hb d_K_passMinute_30 (by decide) ?_
        refine lv_iinc (v := nI (i + 1)) (lv' := [(5, .int (nI (i + 1))), (0, .ref h0), (1, .int (nI T)), (2, .int (nI U)), (3, .int (nI k)), (4, .ref g0)]) hx hb d_K_passMinute_85 hl (k := 0) rfl (nI_add i 1) (by decide) rfl (fun ls hl => ?_)
        refine lv_goto (tgt := 3) hx hb d_K_passMinute_88 (by decide) ?_
        have hPD : va_P D classes [(h0, .inr (3, [.ref h1, v1, v2, .ref h4, .ref h5, .ref h6, .int (nI n9)])), (h1, .inl (cs.1, 60, .inl (fun j => nI (tc j)))), (h4, .inl (cs.1, 60, .inl (fun j => nI (tg j)))), (h5, .inl (cs.1, 60, .inl (fun j => mI ((taf tA tg (T + 1) U (i + 1)) j)))), (h6, .inl (cs.1, 60, .inl (fun j => nI ((thf th tA tg tc (oC on pl) U k (i + 1)) j)))), (g0, .inr (1, [.ref g1, w1, .ref g3, w3])), (g1, .inl (cs.1, 16, .inl (fun j => nI (pl j)))), (g3, .inl (cs.2.1, 16, .inl (fun j => nI (on j))))] H ∧ va_D A [(h0, .inr (3, [.ref h1, v1, v2, .ref h4, .ref h5, .ref h6, .int (nI n9)])), (h1, .inl (cs.1, 60, .inl (fun j => nI (tc j)))), (h4, .inl (cs.1, 60, .inl (fun j => nI (tg j)))), (h5, .inl (cs.1, 60, .inl (fun j => mI ((taf tA tg (T + 1) U (i + 1)) j)))), (h6, .inl (cs.1, 60, .inl (fun j => nI ((thf th tA tg tc (oC on pl) U k (i + 1)) j)))), (g0, .inr (1, [.ref g1, w1, .ref g3, w3])), (g1, .inl (cs.1, 16, .inl (fun j => nI (pl j)))), (g3, .inl (cs.2.1, 16, .inl (fun j => nI (on j))))] := by rw [show (taf tA tg (T + 1) U (i + 1)) = (taf tA tg (T + 1) U i) from (taf_s0 (by omega)).symm]; rw [show (thf th tA tg tc (oC on pl) U k (i + 1)) = (thf th tA tg tc (oC on pl) U k i) from (thf_s0 (by omega)).symm]; exact ⟨hP, hD⟩
        exact ih_1 ls H locs (by omega) trivial (by show lv_has ls 6 [(5, .int (nI (i + 1))), (0, .ref h0), (1, .int (nI T)), (2, .int (nI U)), (3, .int (nI k)), (4, .ref g0)]; skip; exact lv_sub hl [0, 1, 2, 3, 4, 5] rfl) hPD.1 hPD.2 hS
