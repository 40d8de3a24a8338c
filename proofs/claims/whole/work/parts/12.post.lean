theorem k_P_slotOf : rr_CS y_P_slotOf b_P_slotOf 2 (some .int) 2 := ⟨q_470, q_4, q_471, by decide, by decide, by decide +kernel⟩
set_option maxHeartbeats 4000000 in
set_option maxRecDepth 100000 in
/-- Post.slotOf -/
theorem c_P_slotOf (l : Launch) (D : va_G) (cs : rr_C3) (k : Nat) (m9 : Nat) (hk : k < 7) (hm1 : m9 < 2 ^ 31) : RO l y_P_slotOf b_P_slotOf 2 (some .int) 1 22 D cs [] [.int (nI k), .int (nI m9)] (fun r => r = nI (m9 % 7 * 7 + k)) := by
  refine RO.of (by decide) (Nat.le_of_ble_eq_true rfl) ?_
  intro p e s m args below meth c S hr hlk hK hP ls hl
  obtain ⟨hx, hb, hml, hown, ht⟩ := id S
  have hl : lv_has ls 2 [(0, .int (nI k)), (1, .int (nI m9))] := hl
  refine lv_iload_n hx hb d_P_slotOf_0 rfl (lv_at hl 1 rfl) ?_
  refine lv_bipush (v := nI 7) hx hb d_P_slotOf_1 (by decide) ?_
  refine rr_rS (As := [.int (nI m9), .int (nI 7)]) (rest := []) (idx := 33) S hK (c_J_floorMod l D cs m9 7 (by first | assumption | omega) (by first | assumption | omega) (by first | assumption | omega)) k_J_floorMod q_472 ⟨Nat.le_of_ble_eq_true rfl, Nat.le_of_ble_eq_true rfl⟩ ⟨Nat.le_of_ble_eq_true rfl, Nat.le_of_ble_eq_true rfl⟩ hl (Nat.le_of_ble_eq_true rfl) rfl d_P_slotOf_3 (fun r9 hr9 => ?_)
  subst hr9
  refine lv_bipush (v := nI 7) hx hb d_P_slotOf_6 (by decide) ?_
  refine rr_imul (a := (m9 % 7)) (b := 7) hx hb d_P_slotOf_8 ?_
  refine lv_iload_n hx hb d_P_slotOf_9 rfl (lv_at hl 0 rfl) ?_
  refine rr_iadd (a := ((m9 % 7) * 7)) (b := k) hx hb d_P_slotOf_10 ?_
  exact rr_ret hx hb hr hlk rfl d_P_slotOf_11
theorem k_P_countLater : rr_CK y_P_countLater b_P_countLater 4 (some .int) 1 := ⟨q_200, q_201, q_4, q_202, by decide, by decide, by decide +kernel⟩
set_option maxHeartbeats 4000000 in
set_option maxRecDepth 100000 in
/-- Post.countLater -/
theorem c_P_countLater (l : Launch) (D : va_G) (cs : rr_C3) (h0 : Nat) (h2 : Nat) (v0 : Value) (cm : Nat → Nat) (T : Nat) (hT : T ≤ 1000) (hcm : ∀ j, j < 49 → cm j ≤ 2000) : RO l y_P_countLater b_P_countLater 4 (some .int) 0 0 D cs [(h0, .inr (2, [v0, .ref h2])), (h2, .inl (cs.1, 49, .inl (fun j => nI (cm j))))] [.ref h0, .int (nI T)] (fun r => r = nI (owN T cm 49)) := by
  refine RO.of (by decide) (Nat.le_of_ble_eq_true rfl) ?_
  intro p e s m args below meth c S hr hlk hK hP ls hl
  obtain ⟨hx, hb, hml, hown, ht⟩ := id S
  have hl : lv_has ls 4 [(0, .ref h0), (1, .int (nI T))] := hl
  refine lv_iconst (v := nI 0) hx hb d_P_countLater_0 (by decide) ?_
  refine lv_istore_n (lv' := [(2, .int (nI 0)), (0, .ref h0), (1, .int (nI T))]) hx hb d_P_countLater_1 rfl hl (by decide) rfl (fun ls hl => ?_)
  refine lv_iconst (v := nI 0) hx hb d_P_countLater_2 (by decide) ?_
  refine lv_istore_n (lv' := [(3, .int (nI 0)), (2, .int (nI 0)), (0, .ref h0), (1, .int (nI T))]) hx hb d_P_countLater_3 rfl hl (by decide) rfl (fun ls hl => ?_)
  refine rr_loop (fun i => [(3, .int (nI i)), (2, .int (nI (owN T cm i))), (0, .ref h0), (1, .int (nI T))]) (fun i => True) 0 49 (by omega) trivial (lv_sub hl [0, 1, 2, 3] rfl) (fun i ls hi_2 hI_3 hl ih_1 => ?_)
  have hl : lv_has ls 4 [(3, .int (nI i)), (2, .int (nI (owN T cm i))), (0, .ref h0), (1, .int (nI T))] := hl
  refine lv_iload_n hx hb d_P_countLater_4 rfl (lv_at hl 0 rfl) ?_
  refine lv_aload_n hx hb d_P_countLater_5 rfl (lv_at hl 2 rfl) ?_
  refine va_get (D := D) (ci := 2) (v := .ref h2) (C := R_P) (T := F_P) (N := 2) hx hb ht j_P hown hK.1 hP 0 rfl rfl 1 (by decide) (ht _ q_78) (fun _ h9 => h9) rfl d_P_countLater_6 ?_
  refine va_alen (v := nI 49) hx hb hK.1 hP 1 0 rfl rfl rfl d_P_countLater_9 ?_
  refine rr_icmp_ge (a := i) (b := 49) (tgt := 32) (by omega) (by omega) hx hb d_P_countLater_10 (by decide) (fun c10 => ?_) (fun c10 => ?_)
  · refine lv_iload_n hx hb d_P_countLater_32 rfl (lv_at hl 1 rfl) ?_
    exact rr_ret hx hb hr hlk (by rw [show i = 49 from by omega]) d_P_countLater_33
  · refine lv_aload_n hx hb d_P_countLater_13 rfl (lv_at hl 2 rfl) ?_
    refine va_get (D := D) (ci := 2) (v := .ref h2) (C := R_P) (T := F_P) (N := 2) hx hb ht j_P hown hK.1 hP 0 rfl rfl 1 (by decide) (ht _ q_78) (fun _ h9 => h9) rfl d_P_countLater_14 ?_
    refine lv_iload_n hx hb d_P_countLater_17 rfl (lv_at hl 0 rfl) ?_
    refine rr_iald (q0 := 1) (n := 49) (f := (fun j => nI (cm j))) (k := i) hx hb hK hP rfl (by omega) (by omega) d_P_countLater_18 ?_
    refine lv_iload_n hx hb d_P_countLater_19 rfl (lv_at hl 3 rfl) ?_
    have hcm9 := hcm i (by omega)
    refine rr_icmp_le (a := (cm i)) (b := T) (tgt := 26) (by omega) (by omega) hx hb d_P_countLater_20 (by decide) (fun c20 => ?_) (fun c20 => ?_)
    · refine lv_iinc (v := nI (i + 1)) (lv' := [(3, .int (nI (i + 1))), (2, .int (nI (owN T cm i))), (0, .ref h0), (1, .int (nI T))]) hx hb d_P_countLater_26 hl (k := 0) rfl (nI_add i 1) (by decide) rfl (fun ls hl => ?_)
      refine lv_goto (tgt := 4) hx hb d_P_countLater_29 (by decide) ?_
      exact ih_1 ls (by omega) trivial (by show lv_has ls 4 [(3, .int (nI (i + 1))), (2, .int (nI (owN T cm (i + 1)))), (0, .ref h0), (1, .int (nI T))]; rw [show (nI (owN T cm (i + 1)) : Int32) = nI (owN T cm i) from congrArg nI (by rw [owN_s, bq_f (by omega), Nat.add_zero])]; exact lv_sub hl [0, 1, 2, 3] rfl)
    · refine lv_iinc (v := nI (owN T cm i + 1)) (lv' := [(2, .int (nI (owN T cm i + 1))), (3, .int (nI i)), (0, .ref h0), (1, .int (nI T))]) hx hb d_P_countLater_23 hl (k := 1) rfl (nI_add (owN T cm i) 1) (by decide) rfl (fun ls hl => ?_)
      refine lv_iinc (v := nI (i + 1)) (lv' := [(3, .int (nI (i + 1))), (2, .int (nI (owN T cm i + 1))), (0, .ref h0), (1, .int (nI T))]) hx hb d_P_countLater_26 hl (k := 1) rfl (nI_add i 1) (by decide) rfl (fun ls hl => ?_)
      refine lv_goto (tgt := 4) hx hb d_P_countLater_29 (by decide) ?_
      exact ih_1 ls (by omega) trivial (by show lv_has ls 4 [(3, .int (nI (i + 1))), (2, .int (nI (owN T cm (i + 1)))), (0, .ref h0), (1, .int (nI T))]; rw [show (nI (owN T cm (i + 1)) : Int32) = nI (owN T cm i + 1) from congrArg nI (by rw [owN_s, bq_t (by omega)])]; exact lv_sub hl [0, 1, 2, 3] rfl)
theorem k_P_send : rr_CK y_P_send b_P_send 6 none 4 := ⟨q_466, q_467, q_4, q_468, by decide, by decide, by decide +kernel⟩
set_option maxHeartbeats 4000000 in
set_option maxRecDepth 100000 in
/-- Post.send -/
theorem c_P_send (l : Launch) (D : va_G) (cs : rr_C3) (h0 : Nat) (h1 : Nat) (h2 : Nat) (ba : Nat → Nat) (cm : Nat → Nat) (k : Nat) (w9 : Nat) (m9 : Nat) (d9 : Nat) (hk : k < 7) (hm1 : m9 < 2 ^ 31) (hd9 : d9 < 2 ^ 31) (sz : Nat) : MV l y_P_send b_P_send 6 2 43 0 0 D cs [(h0, .inr (2, [.ref h1, .ref h2])), (h1, .inl (cs.1, 49, .inl (fun j => nI (ba j)))), (h2, .inl (cs.1, 49, .inl (fun j => nI (cm j))))] sz [.ref h0, .int (nI k), .int (nI w9), .int (nI m9), .int (mI d9)] (fun (_ : Unit) => True) (fun _ : Unit => [(h0, .inr (2, [.ref h1, .ref h2])), (h1, .inl (cs.1, 49, .inl (fun j => nI ((va_up ba (m9 % 7 * 7 + k) w9) j)))), (h2, .inl (cs.1, 49, .inl (fun j => nI ((va_up cm (m9 % 7 * 7 + k) (cmN m9 d9)) j))))]) := by
  refine MV.of (by decide) (Nat.le_of_ble_eq_true rfl) ?_
  intro p e s m args below meth c A S hr hlk hnm hK hP hD hA hS ls hl
  obtain ⟨hx, hb, hml, hown, ht⟩ := id S
  have hl : lv_has ls 6 [(0, .ref h0), (1, .int (nI k)), (2, .int (nI w9)), (3, .int (nI m9)), (4, .int (mI d9))] := hl
  have hS : va_S A s.heap s.heap [] := hS
  refine lv_iload_n hx hb d_P_send_0 rfl (lv_at hl 1 rfl) ?_
  refine lv_iload_n hx hb d_P_send_1 rfl (lv_at hl 3 rfl) ?_
  refine rr_rS (As := [.int (nI k), .int (nI m9)]) (rest := []) (idx := 18) S hK (c_P_slotOf l D cs k m9 (by first | assumption | omega) (by first | assumption | omega)) k_P_slotOf q_469 ⟨Nat.le_of_ble_eq_true rfl, Nat.le_of_ble_eq_true rfl⟩ ⟨Nat.le_of_ble_eq_true rfl, Nat.le_of_ble_eq_true rfl⟩ hl (Nat.le_of_ble_eq_true rfl) rfl d_P_send_2 (fun r9 hr9 => ?_)
  subst hr9
  refine lv_istore (lv' := [(5, .int (nI (m9 % 7 * 7 + k))), (0, .ref h0), (1, .int (nI k)), (2, .int (nI w9)), (3, .int (nI m9)), (4, .int (mI d9))]) hx hb d_P_send_5 hl (by decide) rfl (fun ls hl => ?_)
  refine lv_aload_n hx hb d_P_send_7 rfl (lv_at hl 1 rfl) ?_
  refine va_get (D := D) (ci := 2) (v := .ref h1) (C := R_P) (T := F_P) (N := 2) hx hb ht j_P hown hK.1 hP 0 rfl rfl 0 (by decide) (ht _ q_77) (fun _ h9 => h9) rfl d_P_send_8 ?_
  refine lv_iload hx hb d_P_send_11 (lv_at hl 0 rfl) ?_
  refine lv_iload_n hx hb d_P_send_13 rfl (lv_at hl 3 rfl) ?_
  refine rr_iast (q0 := 1) (n := 49) nI ba (k := (m9 % 7 * 7 + k)) (v := w9) hx hb hK hP hD hS rfl (by omega) (by omega) d_P_send_14 (fun H locs hP hD hS => ?_)
  have hP : va_P D classes [(h0, .inr (2, [.ref h1, .ref h2])), (h1, .inl (cs.1, 49, .inl (fun j => nI ((va_up ba (m9 % 7 * 7 + k) w9) j)))), (h2, .inl (cs.1, 49, .inl (fun j => nI (cm j))))] H := hP
  have hD : va_D A [(h0, .inr (2, [.ref h1, .ref h2])), (h1, .inl (cs.1, 49, .inl (fun j => nI ((va_up ba (m9 % 7 * 7 + k) w9) j)))), (h2, .inl (cs.1, 49, .inl (fun j => nI (cm j))))] := hD
  refine lv_aload_n hx hb d_P_send_15 rfl (lv_at hl 1 rfl) ?_
  refine va_get (D := D) (ci := 2) (v := .ref h2) (C := R_P) (T := F_P) (N := 2) hx hb ht j_P hown hK.1 hP 0 rfl rfl 1 (by decide) (ht _ q_78) (fun _ h9 => h9) rfl d_P_send_16 ?_
  refine lv_iload hx hb d_P_send_19 (lv_at hl 0 rfl) ?_
  refine lv_iload hx hb d_P_send_21 (lv_at hl 5 rfl) ?_
  refine lv_iconst (v := (-1)) hx hb d_P_send_23 (by decide) ?_
  refine lv_icmp_ne (tgt := 31) hx hb d_P_send_24 (by decide) (fun c24 => ?_) (fun c24 => ?_)
  · have hz9 : 0 < d9 := Nat.pos_of_ne_zero (fun z => c24 ((mI_m1 hd9).mpr z))
    refine lv_iload_n hx hb d_P_send_31 rfl (lv_at hl 4 rfl) ?_
    refine lv_iload hx hb d_P_send_32 (lv_at hl 5 rfl) ?_
    refine rr_top (show (mI d9 : Int32) = nI (d9 - 1) from mI_pos hz9) ?_
    refine rr_iadd (a := m9) (b := (d9 - 1)) hx hb d_P_send_34 ?_
    refine rr_iast (q0 := 2) (n := 49) nI cm (k := (m9 % 7 * 7 + k)) (v := (m9 + (d9 - 1))) hx hb hK hP hD hS rfl (by omega) (by omega) d_P_send_35 (fun H locs hP hD hS => ?_)
    have hP : va_P D classes [(h0, .inr (2, [.ref h1, .ref h2])), (h1, .inl (cs.1, 49, .inl (fun j => nI ((va_up ba (m9 % 7 * 7 + k) w9) j)))), (h2, .inl (cs.1, 49, .inl (fun j => nI ((va_up cm (m9 % 7 * 7 + k) (m9 + (d9 - 1))) j))))] H := hP
    have hD : va_D A [(h0, .inr (2, [.ref h1, .ref h2])), (h1, .inl (cs.1, 49, .inl (fun j => nI ((va_up ba (m9 % 7 * 7 + k) w9) j)))), (h2, .inl (cs.1, 49, .inl (fun j => nI ((va_up cm (m9 % 7 * 7 + k) (m9 + (d9 - 1))) j))))] := hD
    have hPD : va_P D classes [(h0, .inr (2, [.ref h1, .ref h2])), (h1, .inl (cs.1, 49, .inl (fun j => nI ((va_up ba (m9 % 7 * 7 + k) w9) j)))), (h2, .inl (cs.1, 49, .inl (fun j => nI ((va_up cm (m9 % 7 * 7 + k) (cmN m9 d9)) j))))] H ∧ va_D A [(h0, .inr (2, [.ref h1, .ref h2])), (h1, .inl (cs.1, 49, .inl (fun j => nI ((va_up ba (m9 % 7 * 7 + k) w9) j)))), (h2, .inl (cs.1, 49, .inl (fun j => nI ((va_up cm (m9 % 7 * 7 + k) (cmN m9 d9)) j))))] := by rw [show cmN m9 d9 = m9 + (d9 - 1) from if_neg (by omega)]; exact ⟨hP, hD⟩
    exact rr_mvret () hx hb hr hlk hPD.1 hPD.2 hS trivial d_P_send_36
  · have hz9 : d9 = 0 := (mI_m1 hd9).mp c24
    refine lv_iconst (v := nI 0) hx hb d_P_send_27 (by decide) ?_
    refine lv_goto (tgt := 35) hx hb d_P_send_28 (by decide) ?_
    refine rr_iast (q0 := 2) (n := 49) nI cm (k := (m9 % 7 * 7 + k)) (v := 0) hx hb hK hP hD hS rfl (by omega) (by omega) d_P_send_35 (fun H locs hP hD hS => ?_)
    have hP : va_P D classes [(h0, .inr (2, [.ref h1, .ref h2])), (h1, .inl (cs.1, 49, .inl (fun j => nI ((va_up ba (m9 % 7 * 7 + k) w9) j)))), (h2, .inl (cs.1, 49, .inl (fun j => nI ((va_up cm (m9 % 7 * 7 + k) 0) j))))] H := hP
    have hD : va_D A [(h0, .inr (2, [.ref h1, .ref h2])), (h1, .inl (cs.1, 49, .inl (fun j => nI ((va_up ba (m9 % 7 * 7 + k) w9) j)))), (h2, .inl (cs.1, 49, .inl (fun j => nI ((va_up cm (m9 % 7 * 7 + k) 0) j))))] := hD
    have hPD : va_P D classes [(h0, .inr (2, [.ref h1, .ref h2])), (h1, .inl (cs.1, 49, .inl (fun j => nI ((va_up ba (m9 % 7 * 7 + k) w9) j)))), (h2, .inl (cs.1, 49, .inl (fun j => nI ((va_up cm (m9 % 7 * 7 + k) (cmN m9 d9)) j))))] H ∧ va_D A [(h0, .inr (2, [.ref h1, .ref h2])), (h1, .inl (cs.1, 49, .inl (fun j => nI ((va_up ba (m9 % 7 * 7 + k) w9) j)))), (h2, .inl (cs.1, 49, .inl (fun j => nI ((va_up cm (m9 % 7 * 7 + k) (cmN m9 d9)) j))))] := by rw [show cmN m9 d9 = 0 from if_pos hz9]; exact ⟨hP, hD⟩
    exact rr_mvret () hx hb hr hlk hPD.1 hPD.2 hS trivial d_P_send_36
theorem k_P_deliver : rr_CK y_P_deliver b_P_deliver 6 none 2 := ⟨q_476, q_477, q_4, q_478, by decide, by decide, by decide +kernel⟩
set_option maxHeartbeats 4000000 in
set_option maxRecDepth 100000 in
/-- Post.deliver -/
theorem c_P_deliver (l : Launch) (D : va_G) (cs : rr_C3) (h0 : Nat) (h1 : Nat) (h2 : Nat) (g0 : Nat) (g1 : Nat) (g2 : Nat) (ba : Nat → Nat) (cm : Nat → Nat) (cb : Nat → Nat) (vt : Nat → Nat) (T : Nat) (hT : T ≤ 1000) (hcm : ∀ j, j < 49 → cm j ≤ 2000) (hba : ∀ j, j < 49 → ba j ≤ 2) (hvt : ∀ j, j < 7 → vt j ≤ T) (sz : Nat) : MV l y_P_deliver b_P_deliver 6 2 43 0 0 D cs [(h0, .inr (2, [.ref h1, .ref h2])), (h1, .inl (cs.1, 49, .inl (fun j => nI (ba j)))), (h2, .inl (cs.1, 49, .inl (fun j => nI (cm j)))), (g0, .inr (0, [.ref g1, .ref g2])), (g1, .inl (cs.1, 7, .inl (fun j => mI (cb j)))), (g2, .inl (cs.1, 7, .inl (fun j => zI (vt j))))] sz [.ref h0, .int (nI T), .ref g0] (fun (_ : Unit) => True) (fun _ : Unit => [(h0, .inr (2, [.ref h1, .ref h2])), (h1, .inl (cs.1, 49, .inl (fun j => nI (ba j)))), (h2, .inl (cs.1, 49, .inl (fun j => nI (cm j)))), (g0, .inr (0, [.ref g1, .ref g2])), (g1, .inl (cs.1, 7, .inl (fun j => mI ((dmx T (r7 T cm) (r7s T ba) vt cb 7 0) j)))), (g2, .inl (cs.1, 7, .inl (fun j => zI ((dmt T (r7 T cm) (r7s T ba) vt cb 7 0) j))))]) := by
  refine MV.of (by decide) (Nat.le_of_ble_eq_true rfl) ?_
  intro p e s m args below meth c A S hr hlk hnm hK hP hD hA hS ls hl
  obtain ⟨hx, hb, hml, hown, ht⟩ := id S
  have hl : lv_has ls 6 [(0, .ref h0), (1, .int (nI T)), (2, .ref g0)] := hl
  have hS : va_S A s.heap s.heap [] := hS
  refine lv_iconst (v := nI 1) hx hb d_P_deliver_0 (by decide) ?_
  refine lv_iload_n hx hb d_P_deliver_1 rfl (lv_at hl 1 rfl) ?_
  refine lv_bipush (v := nI 7) hx hb d_P_deliver_2 (by decide) ?_
  refine lv_isub hx hb d_P_deliver_4 ?_
  refine lv_iconst (v := nI 1) hx hb d_P_deliver_5 (by decide) ?_
  refine lv_iadd hx hb d_P_deliver_6 ?_
  refine va_mmax hx hb (by rw [hml]; exact hl.1.symm) hown (ht _ q_479) (ht _ q_240) (ht _ q_8) (ht _ q_241) (Nat.le_of_ble_eq_true rfl) (Nat.le_of_ble_eq_true rfl) (Nat.zero_le _) (Nat.zero_le _) d_P_deliver_7 ?_
  refine rr_top (show (if nI 1 < ((nI T) - (nI 7)) + (nI 1) then ((nI T) - (nI 7)) + (nI 1) else nI 1 : Int32) = nI (max 1 (T - 6)) from mx7 (by omega)) ?_
  refine lv_istore_n (lv' := [(3, .int (nI (max 1 (T - 6)))), (0, .ref h0), (1, .int (nI T)), (2, .ref g0)]) hx hb d_P_deliver_10 rfl hl (by decide) rfl (fun ls hl => ?_)
  have hPD : va_P D classes [(h0, .inr (2, [.ref h1, .ref h2])), (h1, .inl (cs.1, 49, .inl (fun j => nI (ba j)))), (h2, .inl (cs.1, 49, .inl (fun j => nI (cm j)))), (g0, .inr (0, [.ref g1, .ref g2])), (g1, .inl (cs.1, 7, .inl (fun j => mI ((dmx T (r7 T cm) (r7s T ba) vt cb (max 1 (T - 6) + 6 - T) 0) j)))), (g2, .inl (cs.1, 7, .inl (fun j => zI ((dmt T (r7 T cm) (r7s T ba) vt cb (max 1 (T - 6) + 6 - T) 0) j))))] s.heap ∧ va_D A [(h0, .inr (2, [.ref h1, .ref h2])), (h1, .inl (cs.1, 49, .inl (fun j => nI (ba j)))), (h2, .inl (cs.1, 49, .inl (fun j => nI (cm j)))), (g0, .inr (0, [.ref g1, .ref g2])), (g1, .inl (cs.1, 7, .inl (fun j => mI ((dmx T (r7 T cm) (r7s T ba) vt cb (max 1 (T - 6) + 6 - T) 0) j)))), (g2, .inl (cs.1, 7, .inl (fun j => zI ((dmt T (r7 T cm) (r7s T ba) vt cb (max 1 (T - 6) + 6 - T) 0) j))))] := by rw [(dm_start (T := T) (Rr := r7 T cm) (X := r7s T ba) (vt := vt) (x := cb) (n := max 1 (T - 6) + 6 - T) (by omega)).1, (dm_start (T := T) (Rr := r7 T cm) (X := r7s T ba) (vt := vt) (x := cb) (n := max 1 (T - 6) + 6 - T) (by omega)).2]; exact ⟨hP, hD⟩
  refine rr_loopM (fun u => [(3, .int (nI u)), (0, .ref h0), (1, .int (nI T)), (2, .ref g0)]) (fun u => 1 ≤ u ∧ T ≤ u + 6) (fun u => [(h0, .inr (2, [.ref h1, .ref h2])), (h1, .inl (cs.1, 49, .inl (fun j => nI (ba j)))), (h2, .inl (cs.1, 49, .inl (fun j => nI (cm j)))), (g0, .inr (0, [.ref g1, .ref g2])), (g1, .inl (cs.1, 7, .inl (fun j => mI ((dmx T (r7 T cm) (r7s T ba) vt cb (u + 6 - T) 0) j)))), (g2, .inl (cs.1, 7, .inl (fun j => zI ((dmt T (r7 T cm) (r7s T ba) vt cb (u + 6 - T) 0) j))))]) (max 1 (T - 6)) (T + 1) (by omega) (by omega) (lv_sub hl [0, 1, 2, 3] rfl) hPD.1 hPD.2 hS (fun u ls H locs hi_2 hI_3 hl hP hD hS ih_1 => ?_)
  have hP : va_P D classes [(h0, .inr (2, [.ref h1, .ref h2])), (h1, .inl (cs.1, 49, .inl (fun j => nI (ba j)))), (h2, .inl (cs.1, 49, .inl (fun j => nI (cm j)))), (g0, .inr (0, [.ref g1, .ref g2])), (g1, .inl (cs.1, 7, .inl (fun j => mI ((dmx T (r7 T cm) (r7s T ba) vt cb (u + 6 - T) 0) j)))), (g2, .inl (cs.1, 7, .inl (fun j => zI ((dmt T (r7 T cm) (r7s T ba) vt cb (u + 6 - T) 0) j))))] H := hP
  have hD : va_D A [(h0, .inr (2, [.ref h1, .ref h2])), (h1, .inl (cs.1, 49, .inl (fun j => nI (ba j)))), (h2, .inl (cs.1, 49, .inl (fun j => nI (cm j)))), (g0, .inr (0, [.ref g1, .ref g2])), (g1, .inl (cs.1, 7, .inl (fun j => mI ((dmx T (r7 T cm) (r7s T ba) vt cb (u + 6 - T) 0) j)))), (g2, .inl (cs.1, 7, .inl (fun j => zI ((dmt T (r7 T cm) (r7s T ba) vt cb (u + 6 - T) 0) j))))] := hD
  have hl : lv_has ls 6 [(3, .int (nI u)), (0, .ref h0), (1, .int (nI T)), (2, .ref g0)] := hl
  have hu1 : 1 ≤ u ∧ T ≤ u + 6 := hI_3
  refine lv_iload_n hx hb d_P_deliver_11 rfl (lv_at hl 0 rfl) ?_
  refine lv_iload_n hx hb d_P_deliver_12 rfl (lv_at hl 2 rfl) ?_
  refine rr_icmp_gt (a := u) (b := T) (tgt := 71) (by omega) (by omega) hx hb d_P_deliver_13 (by decide) (fun c13 => ?_) (fun c13 => ?_)
  · have hPD : va_P D classes [(h0, .inr (2, [.ref h1, .ref h2])), (h1, .inl (cs.1, 49, .inl (fun j => nI (ba j)))), (h2, .inl (cs.1, 49, .inl (fun j => nI (cm j)))), (g0, .inr (0, [.ref g1, .ref g2])), (g1, .inl (cs.1, 7, .inl (fun j => mI ((dmx T (r7 T cm) (r7s T ba) vt cb 7 0) j)))), (g2, .inl (cs.1, 7, .inl (fun j => zI ((dmt T (r7 T cm) (r7s T ba) vt cb 7 0) j))))] H ∧ va_D A [(h0, .inr (2, [.ref h1, .ref h2])), (h1, .inl (cs.1, 49, .inl (fun j => nI (ba j)))), (h2, .inl (cs.1, 49, .inl (fun j => nI (cm j)))), (g0, .inr (0, [.ref g1, .ref g2])), (g1, .inl (cs.1, 7, .inl (fun j => mI ((dmx T (r7 T cm) (r7s T ba) vt cb 7 0) j)))), (g2, .inl (cs.1, 7, .inl (fun j => zI ((dmt T (r7 T cm) (r7s T ba) vt cb 7 0) j))))] := by rw [show dmt T (r7 T cm) (r7s T ba) vt cb 7 0 = dmt T (r7 T cm) (r7s T ba) vt cb (u + 6 - T) 0 from by rw [show u + 6 - T = 7 from by omega], show dmx T (r7 T cm) (r7s T ba) vt cb 7 0 = dmx T (r7 T cm) (r7s T ba) vt cb (u + 6 - T) 0 from by rw [show u + 6 - T = 7 from by omega]]; exact ⟨hP, hD⟩
    exact rr_mvret () hx hb hr hlk hPD.1 hPD.2 hS trivial d_P_deliver_71
  · refine lv_iconst (v := nI 0) hx hb d_P_deliver_16 (by decide) ?_
    refine lv_istore (lv' := [(4, .int (nI 0)), (3, .int (nI u)), (0, .ref h0), (1, .int (nI T)), (2, .ref g0)]) hx hb d_P_deliver_17 hl (by decide) rfl (fun ls hl => ?_)
    refine rr_loopM (fun i => [(4, .int (nI i)), (3, .int (nI u)), (0, .ref h0), (1, .int (nI T)), (2, .ref g0)]) (fun i => True) (fun i => [(h0, .inr (2, [.ref h1, .ref h2])), (h1, .inl (cs.1, 49, .inl (fun j => nI (ba j)))), (h2, .inl (cs.1, 49, .inl (fun j => nI (cm j)))), (g0, .inr (0, [.ref g1, .ref g2])), (g1, .inl (cs.1, 7, .inl (fun j => mI ((dmx T (r7 T cm) (r7s T ba) vt cb (u + 6 - T) i) j)))), (g2, .inl (cs.1, 7, .inl (fun j => zI ((dmt T (r7 T cm) (r7s T ba) vt cb (u + 6 - T) i) j))))]) 0 7 (by omega) trivial (lv_sub hl [0, 1, 2, 3, 4] rfl) hP hD hS (fun i ls H locs hi_5 hI_6 hl hP hD hS ih_4 => ?_)
    have hP : va_P D classes [(h0, .inr (2, [.ref h1, .ref h2])), (h1, .inl (cs.1, 49, .inl (fun j => nI (ba j)))), (h2, .inl (cs.1, 49, .inl (fun j => nI (cm j)))), (g0, .inr (0, [.ref g1, .ref g2])), (g1, .inl (cs.1, 7, .inl (fun j => mI ((dmx T (r7 T cm) (r7s T ba) vt cb (u + 6 - T) i) j)))), (g2, .inl (cs.1, 7, .inl (fun j => zI ((dmt T (r7 T cm) (r7s T ba) vt cb (u + 6 - T) i) j))))] H := hP
    have hD : va_D A [(h0, .inr (2, [.ref h1, .ref h2])), (h1, .inl (cs.1, 49, .inl (fun j => nI (ba j)))), (h2, .inl (cs.1, 49, .inl (fun j => nI (cm j)))), (g0, .inr (0, [.ref g1, .ref g2])), (g1, .inl (cs.1, 7, .inl (fun j => mI ((dmx T (r7 T cm) (r7s T ba) vt cb (u + 6 - T) i) j)))), (g2, .inl (cs.1, 7, .inl (fun j => zI ((dmt T (r7 T cm) (r7s T ba) vt cb (u + 6 - T) i) j))))] := hD
    have hl : lv_has ls 6 [(4, .int (nI i)), (3, .int (nI u)), (0, .ref h0), (1, .int (nI T)), (2, .ref g0)] := hl
    refine lv_iload hx hb d_P_deliver_19 (lv_at hl 0 rfl) ?_
    refine lv_bipush (v := nI 7) hx hb d_P_deliver_21 (by decide) ?_
    refine rr_icmp_ge (a := i) (b := 7) (tgt := 65) (by omega) (by omega) hx hb d_P_deliver_23 (by decide) (fun c23 => ?_) (fun c23 => ?_)
    · refine lv_iinc (v := nI (u + 1)) (lv' := [(3, .int (nI (u + 1))), (4, .int (nI i)), (0, .ref h0), (1, .int (nI T)), (2, .ref g0)]) hx hb d_P_deliver_65 hl (k := 1) rfl (nI_add u 1) (by decide) rfl (fun ls hl => ?_)
      refine lv_goto (tgt := 11) hx hb d_P_deliver_68 (by decide) ?_
      have hPD : va_P D classes [(h0, .inr (2, [.ref h1, .ref h2])), (h1, .inl (cs.1, 49, .inl (fun j => nI (ba j)))), (h2, .inl (cs.1, 49, .inl (fun j => nI (cm j)))), (g0, .inr (0, [.ref g1, .ref g2])), (g1, .inl (cs.1, 7, .inl (fun j => mI ((dmx T (r7 T cm) (r7s T ba) vt cb ((u + 1) + 6 - T) 0) j)))), (g2, .inl (cs.1, 7, .inl (fun j => zI ((dmt T (r7 T cm) (r7s T ba) vt cb ((u + 1) + 6 - T) 0) j))))] H ∧ va_D A [(h0, .inr (2, [.ref h1, .ref h2])), (h1, .inl (cs.1, 49, .inl (fun j => nI (ba j)))), (h2, .inl (cs.1, 49, .inl (fun j => nI (cm j)))), (g0, .inr (0, [.ref g1, .ref g2])), (g1, .inl (cs.1, 7, .inl (fun j => mI ((dmx T (r7 T cm) (r7s T ba) vt cb ((u + 1) + 6 - T) 0) j)))), (g2, .inl (cs.1, 7, .inl (fun j => zI ((dmt T (r7 T cm) (r7s T ba) vt cb ((u + 1) + 6 - T) 0) j))))] := by rw [show (dmx T (r7 T cm) (r7s T ba) vt cb ((u + 1) + 6 - T) 0) = (dmx T (r7 T cm) (r7s T ba) vt cb (u + 6 - T) i) from (by rw [show u + 1 + 6 - T = u + 6 - T + 1 from by omega, show i = 7 from by omega, (dm_next _).2])]; rw [show (dmt T (r7 T cm) (r7s T ba) vt cb ((u + 1) + 6 - T) 0) = (dmt T (r7 T cm) (r7s T ba) vt cb (u + 6 - T) i) from (by rw [show u + 1 + 6 - T = u + 6 - T + 1 from by omega, show i = 7 from by omega, (dm_next _).1])]; exact ⟨hP, hD⟩
      exact ih_1 ls H locs (by omega) (by omega) (by show lv_has ls 6 [(3, .int (nI (u + 1))), (0, .ref h0), (1, .int (nI T)), (2, .ref g0)]; skip; exact lv_sub hl [0, 2, 3, 4] rfl) hPD.1 hPD.2 hS
    · refine lv_iload hx hb d_P_deliver_26 (lv_at hl 0 rfl) ?_
      refine lv_iload_n hx hb d_P_deliver_28 rfl (lv_at hl 1 rfl) ?_
      refine rr_rS (As := [.int (nI i), .int (nI u)]) (rest := []) (idx := 18) S hK (c_P_slotOf l D cs i u (by first | assumption | omega) (by first | assumption | omega)) k_P_slotOf q_469 ⟨Nat.le_of_ble_eq_true rfl, Nat.le_of_ble_eq_true rfl⟩ ⟨Nat.le_of_ble_eq_true rfl, Nat.le_of_ble_eq_true rfl⟩ hl (Nat.le_of_ble_eq_true rfl) rfl d_P_deliver_29 (fun r9 hr9 => ?_)
      subst hr9
      refine lv_istore (lv' := [(5, .int (nI (u % 7 * 7 + i))), (4, .int (nI i)), (3, .int (nI u)), (0, .ref h0), (1, .int (nI T)), (2, .ref g0)]) hx hb d_P_deliver_32 hl (by decide) rfl (fun ls hl => ?_)
      refine lv_aload_n hx hb d_P_deliver_34 rfl (lv_at hl 3 rfl) ?_
      refine va_get (D := D) (ci := 2) (v := .ref h2) (C := R_P) (T := F_P) (N := 2) hx hb ht j_P hown hK.1 hP 0 rfl rfl 1 (by decide) (ht _ q_78) (fun _ h9 => h9) rfl d_P_deliver_35 ?_
      refine lv_iload hx hb d_P_deliver_38 (lv_at hl 0 rfl) ?_
      refine rr_iald (q0 := 2) (n := 49) (f := (fun j => nI (cm j))) (k := (u % 7 * 7 + i)) hx hb hK hP rfl (by omega) (by omega) d_P_deliver_40 ?_
      have hs9 : u % 7 * 7 + i = (T + 7 - (6 - (u + 6 - T))) % 7 * 7 + i := by rw [show T + 7 - (6 - (u + 6 - T)) = u + 7 from by omega, Nat.add_mod_right]
      have hcm9 := hcm (u % 7 * 7 + i) (by omega)
      refine lv_iload_n hx hb d_P_deliver_41 rfl (lv_at hl 4 rfl) ?_
      refine rr_icmp_ne (a := (cm (u % 7 * 7 + i))) (b := T) (tgt := 59) (by omega) (by omega) hx hb d_P_deliver_42 (by decide) (fun c42 => ?_) (fun c42 => ?_)
      · have hq9 := dm_no (T := T) (Rr := r7 T cm) (X := r7s T ba) (vt := vt) (x := cb) (n := u + 6 - T) (t0 := i) (by omega) (fun z => c42 (by rw [hs9]; exact z.2.1))
        refine lv_iinc (v := nI (i + 1)) (lv' := [(4, .int (nI (i + 1))), (5, .int (nI (u % 7 * 7 + i))), (3, .int (nI u)), (0, .ref h0), (1, .int (nI T)), (2, .ref g0)]) hx hb d_P_deliver_59 hl (k := 1) rfl (nI_add i 1) (by decide) rfl (fun ls hl => ?_)
        refine lv_goto (tgt := 19) hx hb d_P_deliver_62 (by decide) ?_
        have hPD : va_P D classes [(h0, .inr (2, [.ref h1, .ref h2])), (h1, .inl (cs.1, 49, .inl (fun j => nI (ba j)))), (h2, .inl (cs.1, 49, .inl (fun j => nI (cm j)))), (g0, .inr (0, [.ref g1, .ref g2])), (g1, .inl (cs.1, 7, .inl (fun j => mI ((dmx T (r7 T cm) (r7s T ba) vt cb (u + 6 - T) (i + 1)) j)))), (g2, .inl (cs.1, 7, .inl (fun j => zI ((dmt T (r7 T cm) (r7s T ba) vt cb (u + 6 - T) (i + 1)) j))))] H ∧ va_D A [(h0, .inr (2, [.ref h1, .ref h2])), (h1, .inl (cs.1, 49, .inl (fun j => nI (ba j)))), (h2, .inl (cs.1, 49, .inl (fun j => nI (cm j)))), (g0, .inr (0, [.ref g1, .ref g2])), (g1, .inl (cs.1, 7, .inl (fun j => mI ((dmx T (r7 T cm) (r7s T ba) vt cb (u + 6 - T) (i + 1)) j)))), (g2, .inl (cs.1, 7, .inl (fun j => zI ((dmt T (r7 T cm) (r7s T ba) vt cb (u + 6 - T) (i + 1)) j))))] := by rw [show (dmx T (r7 T cm) (r7s T ba) vt cb (u + 6 - T) (i + 1)) = (dmx T (r7 T cm) (r7s T ba) vt cb (u + 6 - T) i) from (by first | exact hq9.2.symm | exact hq9.2)]; rw [show (dmt T (r7 T cm) (r7s T ba) vt cb (u + 6 - T) (i + 1)) = (dmt T (r7 T cm) (r7s T ba) vt cb (u + 6 - T) i) from (by first | exact hq9.1.symm | exact hq9.1)]; exact ⟨hP, hD⟩
        exact ih_4 ls H locs (by omega) trivial (by show lv_has ls 6 [(4, .int (nI (i + 1))), (3, .int (nI u)), (0, .ref h0), (1, .int (nI T)), (2, .ref g0)]; skip; exact lv_sub hl [0, 2, 3, 4, 5] rfl) hPD.1 hPD.2 hS
      · have hq9 := dm_yes (T := T) (Rr := r7 T cm) (X := r7s T ba) (vt := vt) (x := cb) (n := u + 6 - T) (t0 := i) (m := u) (w := ba (u % 7 * 7 + i) + 1) (by omega) (by omega) (by show cm _ = T; rw [← hs9]; exact c42) (by omega) (by show ba _ + 1 = _; rw [← hs9])
        have hle9 : dmt T (r7 T cm) (r7s T ba) vt cb (u + 6 - T) i i ≤ T := dmt_le hvt (by omega)
        refine lv_aload_n hx hb d_P_deliver_45 rfl (lv_at hl 5 rfl) ?_
        refine lv_iload hx hb d_P_deliver_46 (lv_at hl 1 rfl) ?_
        refine lv_aload_n hx hb d_P_deliver_48 rfl (lv_at hl 3 rfl) ?_
        refine va_get (D := D) (ci := 2) (v := .ref h1) (C := R_P) (T := F_P) (N := 2) hx hb ht j_P hown hK.1 hP 0 rfl rfl 0 (by decide) (ht _ q_77) (fun _ h9 => h9) rfl d_P_deliver_49 ?_
        refine lv_iload hx hb d_P_deliver_52 (lv_at hl 0 rfl) ?_
        refine rr_iald (q0 := 1) (n := 49) (f := (fun j => nI (ba j))) (k := (u % 7 * 7 + i)) hx hb hK hP rfl (by omega) (by omega) d_P_deliver_54 ?_
        refine lv_iload_n hx hb d_P_deliver_55 rfl (lv_at hl 2 rfl) ?_
        refine rr_mVv (As := [.int (nI i), .int (nI (ba (u % 7 * 7 + i))), .int (nI u)]) (rest := []) (idx := 27) (q0 := 3) (ci := 0) (wr := [(h0, .inr (2, [.ref h1, .ref h2])), (h1, .inl (cs.1, 49, .inl (fun j => nI (ba j)))), (h2, .inl (cs.1, 49, .inl (fun j => nI (cm j))))]) S hK hP hD hS hA (c_C_take l D cs g0 g1 g2 (dmx T (r7 T cm) (r7s T ba) vt cb (u + 6 - T) i) (dmt T (r7 T cm) (r7s T ba) vt cb (u + 6 - T) i) i (ba (u % 7 * 7 + i)) u (by first | assumption | omega) (by first | assumption | omega) (by first | assumption | omega) (by first | assumption | omega) H.size) k_C_take [3, 4, 5] [0, 1, 2] rfl (by decide) rfl (by decide) (by decide) rfl rfl rfl q_480 ⟨Nat.le_of_ble_eq_true rfl, Nat.le_of_ble_eq_true rfl⟩ ⟨Nat.le_of_ble_eq_true rfl, Nat.le_of_ble_eq_true rfl⟩ hl (Nat.le_of_ble_eq_true rfl) rfl d_P_deliver_56 (fun u_7 H locs hr9 hP hD hS => ?_)
        have hP : va_P D classes [(h0, .inr (2, [.ref h1, .ref h2])), (h1, .inl (cs.1, 49, .inl (fun j => nI (ba j)))), (h2, .inl (cs.1, 49, .inl (fun j => nI (cm j)))), (g0, .inr (0, [.ref g1, .ref g2])), (g1, .inl (cs.1, 7, .inl (fun j => mI ((tkF (dmx T (r7 T cm) (r7s T ba) vt cb (u + 6 - T) i) (dmt T (r7 T cm) (r7s T ba) vt cb (u + 6 - T) i) i ((ba (u % 7 * 7 + i)) + 1) u) j)))), (g2, .inl (cs.1, 7, .inl (fun j => zI ((tkF (dmt T (r7 T cm) (r7s T ba) vt cb (u + 6 - T) i) (dmt T (r7 T cm) (r7s T ba) vt cb (u + 6 - T) i) i u u) j))))] H := hP.sub [0, 1, 2, 3, 4, 5] rfl
        have hD : va_D A [(h0, .inr (2, [.ref h1, .ref h2])), (h1, .inl (cs.1, 49, .inl (fun j => nI (ba j)))), (h2, .inl (cs.1, 49, .inl (fun j => nI (cm j)))), (g0, .inr (0, [.ref g1, .ref g2])), (g1, .inl (cs.1, 7, .inl (fun j => mI ((tkF (dmx T (r7 T cm) (r7s T ba) vt cb (u + 6 - T) i) (dmt T (r7 T cm) (r7s T ba) vt cb (u + 6 - T) i) i ((ba (u % 7 * 7 + i)) + 1) u) j)))), (g2, .inl (cs.1, 7, .inl (fun j => zI ((tkF (dmt T (r7 T cm) (r7s T ba) vt cb (u + 6 - T) i) (dmt T (r7 T cm) (r7s T ba) vt cb (u + 6 - T) i) i u u) j))))] := hD.sub [0, 1, 2, 3, 4, 5] (by decide) rfl
        refine lv_iinc (v := nI (i + 1)) (lv' := [(4, .int (nI (i + 1))), (5, .int (nI (u % 7 * 7 + i))), (3, .int (nI u)), (0, .ref h0), (1, .int (nI T)), (2, .ref g0)]) hx hb d_P_deliver_59 hl (k := 1) rfl (nI_add i 1) (by decide) rfl (fun ls hl => ?_)
        refine lv_goto (tgt := 19) hx hb d_P_deliver_62 (by decide) ?_
        have hPD : va_P D classes [(h0, .inr (2, [.ref h1, .ref h2])), (h1, .inl (cs.1, 49, .inl (fun j => nI (ba j)))), (h2, .inl (cs.1, 49, .inl (fun j => nI (cm j)))), (g0, .inr (0, [.ref g1, .ref g2])), (g1, .inl (cs.1, 7, .inl (fun j => mI ((dmx T (r7 T cm) (r7s T ba) vt cb (u + 6 - T) (i + 1)) j)))), (g2, .inl (cs.1, 7, .inl (fun j => zI ((dmt T (r7 T cm) (r7s T ba) vt cb (u + 6 - T) (i + 1)) j))))] H ∧ va_D A [(h0, .inr (2, [.ref h1, .ref h2])), (h1, .inl (cs.1, 49, .inl (fun j => nI (ba j)))), (h2, .inl (cs.1, 49, .inl (fun j => nI (cm j)))), (g0, .inr (0, [.ref g1, .ref g2])), (g1, .inl (cs.1, 7, .inl (fun j => mI ((dmx T (r7 T cm) (r7s T ba) vt cb (u + 6 - T) (i + 1)) j)))), (g2, .inl (cs.1, 7, .inl (fun j => zI ((dmt T (r7 T cm) (r7s T ba) vt cb (u + 6 - T) (i + 1)) j))))] := by rw [show (dmx T (r7 T cm) (r7s T ba) vt cb (u + 6 - T) (i + 1)) = (tkF (dmx T (r7 T cm) (r7s T ba) vt cb (u + 6 - T) i) (dmt T (r7 T cm) (r7s T ba) vt cb (u + 6 - T) i) i ((ba (u % 7 * 7 + i)) + 1) u) from (by first | exact hq9.2.symm | exact hq9.2)]; rw [show (dmt T (r7 T cm) (r7s T ba) vt cb (u + 6 - T) (i + 1)) = (tkF (dmt T (r7 T cm) (r7s T ba) vt cb (u + 6 - T) i) (dmt T (r7 T cm) (r7s T ba) vt cb (u + 6 - T) i) i u u) from (by first | exact hq9.1.symm | exact hq9.1)]; exact ⟨hP, hD⟩
        exact ih_4 ls H locs (by omega) trivial (by show lv_has ls 6 [(4, .int (nI (i + 1))), (3, .int (nI u)), (0, .ref h0), (1, .int (nI T)), (2, .ref g0)]; skip; exact lv_sub hl [0, 2, 3, 4, 5] rfl) hPD.1 hPD.2 hS
