theorem k_V_cars : rr_CK y_V_cars b_V_cars 1 (some .int) 0 := ⟨q_538, q_539, q_1, q_540, by decide, by decide, by decide +kernel⟩
set_option maxHeartbeats 4000000 in
set_option maxRecDepth 100000 in
/-- RopeVotes.cars -/
theorem c_V_cars (l : Launch) (D : va_G) (cs : rr_C3) (ad : Nat → Nat) (μ : NS) (ρ : NS) (hM : IM μ) (hC : IC μ ρ) : RO l y_V_cars b_V_cars 1 (some .int) 1 22 D cs [((ad 0), .inr (5, [.ref (ad 1), .ref (ad 2), .ref (ad 3), .ref (ad 4), .ref (ad 5), .ref (ad 6), .int (nI (μ 0 0)), .int (nI (μ 1 0)), .int (nI (μ 2 0))])), ((ad 1), .inr (1, [.ref (ad 7), .ref (ad 8), .ref (ad 9), .int (nI (μ 3 0))])), ((ad 2), .inr (4, [.ref (ad 10), .ref (ad 11), .ref (ad 12), .ref (ad 13)])), ((ad 3), .inr (2, [.ref (ad 14), .ref (ad 15)])), ((ad 4), .inr (0, [.ref (ad 16), .ref (ad 17)])), ((ad 5), .inr (3, [.ref (ad 18), .ref (ad 19), .ref (ad 20), .ref (ad 21), .ref (ad 22), .ref (ad 23), .int (nI (μ 15 0))])), ((ad 6), .inl (cs.1, 1001, .inl (fun j => nI ((μ 14) j)))), ((ad 7), .inl (cs.1, 16, .inl (fun j => nI ((ρ 0) j)))), ((ad 8), .inl (cs.1, 16, .inl (fun j => nI ((μ 4) j)))), ((ad 9), .inl (cs.2.1, 16, .inl (fun j => nI ((ρ 1) j)))), ((ad 10), .inl (cs.1, 7, .inl (fun j => nI ((μ 6) j)))), ((ad 11), .inl (cs.1, 7, .inl (fun j => nI ((μ 7) j)))), ((ad 12), .inl (cs.1, 7, .inl (fun j => nI ((μ 8) j)))), ((ad 13), .inl (cs.2.1, 7, .inl (fun j => nI ((μ 9) j)))), ((ad 14), .inl (cs.1, 49, .inl (fun j => nI ((ρ 2) j)))), ((ad 15), .inl (cs.1, 49, .inl (fun j => nI ((ρ 3) j)))), ((ad 16), .inl (cs.1, 7, .inl (fun j => mI ((ρ 4) j)))), ((ad 17), .inl (cs.1, 7, .inl (fun j => zI ((μ 12) j)))), ((ad 18), .inl (cs.1, 60, .inl (fun j => nI ((μ 16) j)))), ((ad 19), .inl (cs.1, 60, .inl (fun j => nI ((μ 17) j)))), ((ad 20), .inl (cs.1, 60, .inl (fun j => nI ((μ 18) j)))), ((ad 21), .inl (cs.1, 60, .inl (fun j => nI ((μ 19) j)))), ((ad 22), .inl (cs.1, 60, .inl (fun j => mI ((ρ 5) j)))), ((ad 23), .inl (cs.1, 60, .inl (fun j => nI ((μ 21) j))))] [.ref (ad 0)] (fun r => r = nI (ct (onM μ) 16)) := by
  refine RO.of (by decide) (Nat.le_of_ble_eq_true rfl) ?_
  intro p e s m args below meth c S hr hlk hK hP ls hl
  obtain ⟨hx, hb, hml, hown, ht⟩ := id S
  have hl : lv_has ls 1 [(0, .ref (ad 0))] := hl
  obtain ⟨hT, hU, hhd, hcar, hbase, hoff, hoff2, hwb, hcut, hb8, hr8, hvt, hvv, hrec, hN, htk, hth, hta0⟩ := id hM
  have hon := hC.on
  have hpl := hC.pl
  have hcb := hC.cb hM
  have htA := hC.tA hM
  refine lv_aload_n hx hb d_V_cars_0 rfl (lv_at hl 0 rfl) ?_
  refine va_get (D := D) (ci := 5) (v := .ref (ad 1)) (C := R_V) (T := F_V) (N := 9) hx hb ht j_V hown hK.1 hP 0 rfl rfl 0 (by decide) (ht _ q_128) (fun _ h9 => h9) rfl d_V_cars_1 ?_
  refine rr_rV (As := []) (rest := []) (idx := 101) (q0 := 1) (ci := 1) S hK hP (c_L_countOn l D cs (ad 1) (ad 9) (.ref (ad 7)) (.ref (ad 8)) (.int (nI (μ 3 0))) (ρ 1) (by first | assumption | omega)) k_L_countOn [1, 9] rfl rfl rfl rfl q_541 ⟨Nat.le_of_ble_eq_true rfl, Nat.le_of_ble_eq_true rfl⟩ ⟨Nat.le_of_ble_eq_true rfl, Nat.le_of_ble_eq_true rfl⟩ hl (Nat.le_of_ble_eq_true rfl) rfl d_V_cars_4 (fun r9 hr9 => ?_)
  subst hr9
  exact rr_ret hx hb hr hlk (congrArg nI (cars_same hC)) d_V_cars_7
theorem k_V_leastGap : rr_CK y_V_leastGap b_V_leastGap 1 (some .int) 0 := ⟨q_546, q_547, q_1, q_548, by decide, by decide, by decide +kernel⟩
set_option maxHeartbeats 4000000 in
set_option maxRecDepth 100000 in
/-- RopeVotes.leastGap -/
theorem c_V_leastGap (l : Launch) (D : va_G) (cs : rr_C3) (ad : Nat → Nat) (μ : NS) (ρ : NS) (hM : IM μ) (hC : IC μ ρ) : RO l y_V_leastGap b_V_leastGap 1 (some .int) 3 59 D cs [((ad 0), .inr (5, [.ref (ad 1), .ref (ad 2), .ref (ad 3), .ref (ad 4), .ref (ad 5), .ref (ad 6), .int (nI (μ 0 0)), .int (nI (μ 1 0)), .int (nI (μ 2 0))])), ((ad 1), .inr (1, [.ref (ad 7), .ref (ad 8), .ref (ad 9), .int (nI (μ 3 0))])), ((ad 2), .inr (4, [.ref (ad 10), .ref (ad 11), .ref (ad 12), .ref (ad 13)])), ((ad 3), .inr (2, [.ref (ad 14), .ref (ad 15)])), ((ad 4), .inr (0, [.ref (ad 16), .ref (ad 17)])), ((ad 5), .inr (3, [.ref (ad 18), .ref (ad 19), .ref (ad 20), .ref (ad 21), .ref (ad 22), .ref (ad 23), .int (nI (μ 15 0))])), ((ad 6), .inl (cs.1, 1001, .inl (fun j => nI ((μ 14) j)))), ((ad 7), .inl (cs.1, 16, .inl (fun j => nI ((ρ 0) j)))), ((ad 8), .inl (cs.1, 16, .inl (fun j => nI ((μ 4) j)))), ((ad 9), .inl (cs.2.1, 16, .inl (fun j => nI ((ρ 1) j)))), ((ad 10), .inl (cs.1, 7, .inl (fun j => nI ((μ 6) j)))), ((ad 11), .inl (cs.1, 7, .inl (fun j => nI ((μ 7) j)))), ((ad 12), .inl (cs.1, 7, .inl (fun j => nI ((μ 8) j)))), ((ad 13), .inl (cs.2.1, 7, .inl (fun j => nI ((μ 9) j)))), ((ad 14), .inl (cs.1, 49, .inl (fun j => nI ((ρ 2) j)))), ((ad 15), .inl (cs.1, 49, .inl (fun j => nI ((ρ 3) j)))), ((ad 16), .inl (cs.1, 7, .inl (fun j => mI ((ρ 4) j)))), ((ad 17), .inl (cs.1, 7, .inl (fun j => zI ((μ 12) j)))), ((ad 18), .inl (cs.1, 60, .inl (fun j => nI ((μ 16) j)))), ((ad 19), .inl (cs.1, 60, .inl (fun j => nI ((μ 17) j)))), ((ad 20), .inl (cs.1, 60, .inl (fun j => nI ((μ 18) j)))), ((ad 21), .inl (cs.1, 60, .inl (fun j => nI ((μ 19) j)))), ((ad 22), .inl (cs.1, 60, .inl (fun j => mI ((ρ 5) j)))), ((ad 23), .inl (cs.1, 60, .inl (fun j => nI ((μ 21) j))))] [.ref (ad 0)] (fun r => r = mI (lgo (onM μ) (pN μ) 16)) := by
  refine RO.of (by decide) (Nat.le_of_ble_eq_true rfl) ?_
  intro p e s m args below meth c S hr hlk hK hP ls hl
  obtain ⟨hx, hb, hml, hown, ht⟩ := id S
  have hl : lv_has ls 1 [(0, .ref (ad 0))] := hl
  obtain ⟨hT, hU, hhd, hcar, hbase, hoff, hoff2, hwb, hcut, hb8, hr8, hvt, hvv, hrec, hN, htk, hth, hta0⟩ := id hM
  have hon := hC.on
  have hpl := hC.pl
  have hcb := hC.cb hM
  have htA := hC.tA hM
  refine lv_aload_n hx hb d_V_leastGap_0 rfl (lv_at hl 0 rfl) ?_
  refine va_get (D := D) (ci := 5) (v := .ref (ad 1)) (C := R_V) (T := F_V) (N := 9) hx hb ht j_V hown hK.1 hP 0 rfl rfl 0 (by decide) (ht _ q_128) (fun _ h9 => h9) rfl d_V_leastGap_1 ?_
  refine rr_rV (As := []) (rest := []) (idx := 105) (q0 := 1) (ci := 1) S hK hP (c_L_leastGapOfPairs l D cs (ad 1) (ad 7) (ad 9) (.ref (ad 8)) (.int (nI (μ 3 0))) (ρ 0) (ρ 1) (by first | assumption | omega) (by first | assumption | omega)) k_L_leastGapOfPairs [1, 7, 9] rfl rfl rfl rfl q_549 ⟨Nat.le_of_ble_eq_true rfl, Nat.le_of_ble_eq_true rfl⟩ ⟨Nat.le_of_ble_eq_true rfl, Nat.le_of_ble_eq_true rfl⟩ hl (Nat.le_of_ble_eq_true rfl) rfl d_V_leastGap_4 (fun r9 hr9 => ?_)
  subst hr9
  exact rr_ret hx hb hr hlk (congrArg mI (lg_same hC)) d_V_leastGap_7
theorem k_V_fresh : rr_CK y_V_fresh b_V_fresh 1 (some .int) 0 := ⟨q_504, q_505, q_1, q_506, by decide, by decide, by decide +kernel⟩
set_option maxHeartbeats 4000000 in
set_option maxRecDepth 100000 in
/-- RopeVotes.fresh -/
theorem c_V_fresh (l : Launch) (D : va_G) (cs : rr_C3) (ad : Nat → Nat) (μ : NS) (ρ : NS) (hM : IM μ) (hC : IC μ ρ) : RO l y_V_fresh b_V_fresh 1 (some .int) 2 45 D cs [((ad 0), .inr (5, [.ref (ad 1), .ref (ad 2), .ref (ad 3), .ref (ad 4), .ref (ad 5), .ref (ad 6), .int (nI (μ 0 0)), .int (nI (μ 1 0)), .int (nI (μ 2 0))])), ((ad 1), .inr (1, [.ref (ad 7), .ref (ad 8), .ref (ad 9), .int (nI (μ 3 0))])), ((ad 2), .inr (4, [.ref (ad 10), .ref (ad 11), .ref (ad 12), .ref (ad 13)])), ((ad 3), .inr (2, [.ref (ad 14), .ref (ad 15)])), ((ad 4), .inr (0, [.ref (ad 16), .ref (ad 17)])), ((ad 5), .inr (3, [.ref (ad 18), .ref (ad 19), .ref (ad 20), .ref (ad 21), .ref (ad 22), .ref (ad 23), .int (nI (μ 15 0))])), ((ad 6), .inl (cs.1, 1001, .inl (fun j => nI ((μ 14) j)))), ((ad 7), .inl (cs.1, 16, .inl (fun j => nI ((ρ 0) j)))), ((ad 8), .inl (cs.1, 16, .inl (fun j => nI ((μ 4) j)))), ((ad 9), .inl (cs.2.1, 16, .inl (fun j => nI ((ρ 1) j)))), ((ad 10), .inl (cs.1, 7, .inl (fun j => nI ((μ 6) j)))), ((ad 11), .inl (cs.1, 7, .inl (fun j => nI ((μ 7) j)))), ((ad 12), .inl (cs.1, 7, .inl (fun j => nI ((μ 8) j)))), ((ad 13), .inl (cs.2.1, 7, .inl (fun j => nI ((μ 9) j)))), ((ad 14), .inl (cs.1, 49, .inl (fun j => nI ((ρ 2) j)))), ((ad 15), .inl (cs.1, 49, .inl (fun j => nI ((ρ 3) j)))), ((ad 16), .inl (cs.1, 7, .inl (fun j => mI ((ρ 4) j)))), ((ad 17), .inl (cs.1, 7, .inl (fun j => zI ((μ 12) j)))), ((ad 18), .inl (cs.1, 60, .inl (fun j => nI ((μ 16) j)))), ((ad 19), .inl (cs.1, 60, .inl (fun j => nI ((μ 17) j)))), ((ad 20), .inl (cs.1, 60, .inl (fun j => nI ((μ 18) j)))), ((ad 21), .inl (cs.1, 60, .inl (fun j => nI ((μ 19) j)))), ((ad 22), .inl (cs.1, 60, .inl (fun j => mI ((ρ 5) j)))), ((ad 23), .inl (cs.1, 60, .inl (fun j => nI ((μ 21) j))))] [.ref (ad 0)] (fun r => r = fsI (μ 0 0) (μ 12) 7) := by
  refine RO.of (by decide) (Nat.le_of_ble_eq_true rfl) ?_
  intro p e s m args below meth c S hr hlk hK hP ls hl
  obtain ⟨hx, hb, hml, hown, ht⟩ := id S
  have hl : lv_has ls 1 [(0, .ref (ad 0))] := hl
  obtain ⟨hT, hU, hhd, hcar, hbase, hoff, hoff2, hwb, hcut, hb8, hr8, hvt, hvv, hrec, hN, htk, hth, hta0⟩ := id hM
  have hon := hC.on
  have hpl := hC.pl
  have hcb := hC.cb hM
  have htA := hC.tA hM
  refine lv_aload_n hx hb d_V_fresh_0 rfl (lv_at hl 0 rfl) ?_
  refine va_get (D := D) (ci := 5) (v := .ref (ad 4)) (C := R_V) (T := F_V) (N := 9) hx hb ht j_V hown hK.1 hP 0 rfl rfl 3 (by decide) (ht _ q_131) (fun _ h9 => h9) rfl d_V_fresh_1 ?_
  refine lv_aload_n hx hb d_V_fresh_4 rfl (lv_at hl 0 rfl) ?_
  refine va_get (D := D) (ci := 5) (v := .int (nI (μ 0 0))) (C := R_V) (T := F_V) (N := 9) hx hb ht j_V hown hK.1 hP 0 rfl rfl 6 (by decide) (ht _ q_134) (fun _ h9 => h9) rfl d_V_fresh_5 ?_
  refine rr_rV (As := [.int (nI (μ 0 0))]) (rest := []) (idx := 144) (q0 := 4) (ci := 0) S hK hP (c_C_freshSet l D cs (ad 4) (ad 17) (.ref (ad 16)) (μ 12) (μ 0 0) (by first | assumption | omega) (by first | assumption | omega)) k_C_freshSet [4, 17] rfl rfl rfl rfl q_354 ⟨Nat.le_of_ble_eq_true rfl, Nat.le_of_ble_eq_true rfl⟩ ⟨Nat.le_of_ble_eq_true rfl, Nat.le_of_ble_eq_true rfl⟩ hl (Nat.le_of_ble_eq_true rfl) rfl d_V_fresh_8 (fun r9 hr9 => ?_)
  subst hr9
  exact rr_ret hx hb hr hlk rfl d_V_fresh_11
theorem k_V_onTheWay : rr_CK y_V_onTheWay b_V_onTheWay 1 (some .int) 0 := ⟨q_508, q_509, q_1, q_510, by decide, by decide, by decide +kernel⟩
set_option maxHeartbeats 4000000 in
set_option maxRecDepth 100000 in
/-- RopeVotes.onTheWay -/
theorem c_V_onTheWay (l : Launch) (D : va_G) (cs : rr_C3) (ad : Nat → Nat) (μ : NS) (ρ : NS) (hM : IM μ) (hC : IC μ ρ) : RO l y_V_onTheWay b_V_onTheWay 1 (some .int) 1 23 D cs [((ad 0), .inr (5, [.ref (ad 1), .ref (ad 2), .ref (ad 3), .ref (ad 4), .ref (ad 5), .ref (ad 6), .int (nI (μ 0 0)), .int (nI (μ 1 0)), .int (nI (μ 2 0))])), ((ad 1), .inr (1, [.ref (ad 7), .ref (ad 8), .ref (ad 9), .int (nI (μ 3 0))])), ((ad 2), .inr (4, [.ref (ad 10), .ref (ad 11), .ref (ad 12), .ref (ad 13)])), ((ad 3), .inr (2, [.ref (ad 14), .ref (ad 15)])), ((ad 4), .inr (0, [.ref (ad 16), .ref (ad 17)])), ((ad 5), .inr (3, [.ref (ad 18), .ref (ad 19), .ref (ad 20), .ref (ad 21), .ref (ad 22), .ref (ad 23), .int (nI (μ 15 0))])), ((ad 6), .inl (cs.1, 1001, .inl (fun j => nI ((μ 14) j)))), ((ad 7), .inl (cs.1, 16, .inl (fun j => nI ((ρ 0) j)))), ((ad 8), .inl (cs.1, 16, .inl (fun j => nI ((μ 4) j)))), ((ad 9), .inl (cs.2.1, 16, .inl (fun j => nI ((ρ 1) j)))), ((ad 10), .inl (cs.1, 7, .inl (fun j => nI ((μ 6) j)))), ((ad 11), .inl (cs.1, 7, .inl (fun j => nI ((μ 7) j)))), ((ad 12), .inl (cs.1, 7, .inl (fun j => nI ((μ 8) j)))), ((ad 13), .inl (cs.2.1, 7, .inl (fun j => nI ((μ 9) j)))), ((ad 14), .inl (cs.1, 49, .inl (fun j => nI ((ρ 2) j)))), ((ad 15), .inl (cs.1, 49, .inl (fun j => nI ((ρ 3) j)))), ((ad 16), .inl (cs.1, 7, .inl (fun j => mI ((ρ 4) j)))), ((ad 17), .inl (cs.1, 7, .inl (fun j => zI ((μ 12) j)))), ((ad 18), .inl (cs.1, 60, .inl (fun j => nI ((μ 16) j)))), ((ad 19), .inl (cs.1, 60, .inl (fun j => nI ((μ 17) j)))), ((ad 20), .inl (cs.1, 60, .inl (fun j => nI ((μ 18) j)))), ((ad 21), .inl (cs.1, 60, .inl (fun j => nI ((μ 19) j)))), ((ad 22), .inl (cs.1, 60, .inl (fun j => mI ((ρ 5) j)))), ((ad 23), .inl (cs.1, 60, .inl (fun j => nI ((μ 21) j))))] [.ref (ad 0)] (fun r => r = nI (owN (μ 0 0) (μ 10) 56)) := by
  refine RO.of (by decide) (Nat.le_of_ble_eq_true rfl) ?_
  intro p e s m args below meth c S hr hlk hK hP ls hl
  obtain ⟨hx, hb, hml, hown, ht⟩ := id S
  have hl : lv_has ls 1 [(0, .ref (ad 0))] := hl
  obtain ⟨hT, hU, hhd, hcar, hbase, hoff, hoff2, hwb, hcut, hb8, hr8, hvt, hvv, hrec, hN, htk, hth, hta0⟩ := id hM
  have hon := hC.on
  have hpl := hC.pl
  have hcb := hC.cb hM
  have htA := hC.tA hM
  refine lv_aload_n hx hb d_V_onTheWay_0 rfl (lv_at hl 0 rfl) ?_
  refine va_get (D := D) (ci := 5) (v := .ref (ad 3)) (C := R_V) (T := F_V) (N := 9) hx hb ht j_V hown hK.1 hP 0 rfl rfl 2 (by decide) (ht _ q_130) (fun _ h9 => h9) rfl d_V_onTheWay_1 ?_
  refine lv_aload_n hx hb d_V_onTheWay_4 rfl (lv_at hl 0 rfl) ?_
  refine va_get (D := D) (ci := 5) (v := .int (nI (μ 0 0))) (C := R_V) (T := F_V) (N := 9) hx hb ht j_V hown hK.1 hP 0 rfl rfl 6 (by decide) (ht _ q_134) (fun _ h9 => h9) rfl d_V_onTheWay_5 ?_
  refine rr_rV (As := [.int (nI (μ 0 0))]) (rest := []) (idx := 147) (q0 := 3) (ci := 2) S hK hP (c_P_countLater l D cs (ad 3) (ad 15) (.ref (ad 14)) (ρ 3) (μ 0 0) (by first | assumption | omega) (fun j hj => Nat.le_trans (IC.c7 hM hC hj) (by omega))) k_P_countLater [3, 15] rfl rfl rfl rfl q_511 ⟨Nat.le_of_ble_eq_true rfl, Nat.le_of_ble_eq_true rfl⟩ ⟨Nat.le_of_ble_eq_true rfl, Nat.le_of_ble_eq_true rfl⟩ hl (Nat.le_of_ble_eq_true rfl) rfl d_V_onTheWay_8 (fun r9 hr9 => ?_)
  subst hr9
  exact rr_ret hx hb hr hlk (congrArg nI (ow_same hM hC)) d_V_onTheWay_11
theorem k_V_time : rr_CK y_V_time b_V_time 1 (some .int) 0 := ⟨q_387, q_388, q_1, q_389, by decide, by decide, by decide +kernel⟩
set_option maxHeartbeats 4000000 in
set_option maxRecDepth 100000 in
/-- RopeVotes.time -/
theorem c_V_time (l : Launch) (D : va_G) (cs : rr_C3) (ad : Nat → Nat) (μ : NS) (ρ : NS) (hM : IM μ) (hC : IC μ ρ) : RO l y_V_time b_V_time 1 (some .int) 0 0 D cs [((ad 0), .inr (5, [.ref (ad 1), .ref (ad 2), .ref (ad 3), .ref (ad 4), .ref (ad 5), .ref (ad 6), .int (nI (μ 0 0)), .int (nI (μ 1 0)), .int (nI (μ 2 0))])), ((ad 1), .inr (1, [.ref (ad 7), .ref (ad 8), .ref (ad 9), .int (nI (μ 3 0))])), ((ad 2), .inr (4, [.ref (ad 10), .ref (ad 11), .ref (ad 12), .ref (ad 13)])), ((ad 3), .inr (2, [.ref (ad 14), .ref (ad 15)])), ((ad 4), .inr (0, [.ref (ad 16), .ref (ad 17)])), ((ad 5), .inr (3, [.ref (ad 18), .ref (ad 19), .ref (ad 20), .ref (ad 21), .ref (ad 22), .ref (ad 23), .int (nI (μ 15 0))])), ((ad 6), .inl (cs.1, 1001, .inl (fun j => nI ((μ 14) j)))), ((ad 7), .inl (cs.1, 16, .inl (fun j => nI ((ρ 0) j)))), ((ad 8), .inl (cs.1, 16, .inl (fun j => nI ((μ 4) j)))), ((ad 9), .inl (cs.2.1, 16, .inl (fun j => nI ((ρ 1) j)))), ((ad 10), .inl (cs.1, 7, .inl (fun j => nI ((μ 6) j)))), ((ad 11), .inl (cs.1, 7, .inl (fun j => nI ((μ 7) j)))), ((ad 12), .inl (cs.1, 7, .inl (fun j => nI ((μ 8) j)))), ((ad 13), .inl (cs.2.1, 7, .inl (fun j => nI ((μ 9) j)))), ((ad 14), .inl (cs.1, 49, .inl (fun j => nI ((ρ 2) j)))), ((ad 15), .inl (cs.1, 49, .inl (fun j => nI ((ρ 3) j)))), ((ad 16), .inl (cs.1, 7, .inl (fun j => mI ((ρ 4) j)))), ((ad 17), .inl (cs.1, 7, .inl (fun j => zI ((μ 12) j)))), ((ad 18), .inl (cs.1, 60, .inl (fun j => nI ((μ 16) j)))), ((ad 19), .inl (cs.1, 60, .inl (fun j => nI ((μ 17) j)))), ((ad 20), .inl (cs.1, 60, .inl (fun j => nI ((μ 18) j)))), ((ad 21), .inl (cs.1, 60, .inl (fun j => nI ((μ 19) j)))), ((ad 22), .inl (cs.1, 60, .inl (fun j => mI ((ρ 5) j)))), ((ad 23), .inl (cs.1, 60, .inl (fun j => nI ((μ 21) j))))] [.ref (ad 0)] (fun r => r = nI (μ 0 0)) := by
  refine RO.of (by decide) (Nat.le_of_ble_eq_true rfl) ?_
  intro p e s m args below meth c S hr hlk hK hP ls hl
  obtain ⟨hx, hb, hml, hown, ht⟩ := id S
  have hl : lv_has ls 1 [(0, .ref (ad 0))] := hl
  refine lv_aload_n hx hb d_V_time_0 rfl (lv_at hl 0 rfl) ?_
  refine va_get (D := D) (ci := 5) (v := .int (nI (μ 0 0))) (C := R_V) (T := F_V) (N := 9) hx hb ht j_V hown hK.1 hP 0 rfl rfl 6 (by decide) (ht _ q_134) (fun _ h9 => h9) rfl d_V_time_1 ?_
  exact rr_ret hx hb hr hlk rfl d_V_time_4
theorem k_V_refunds : rr_CK y_V_refunds b_V_refunds 1 (some .int) 0 := ⟨q_428, q_429, q_1, q_430, by decide, by decide, by decide +kernel⟩
set_option maxHeartbeats 4000000 in
set_option maxRecDepth 100000 in
/-- RopeVotes.refunds -/
theorem c_V_refunds (l : Launch) (D : va_G) (cs : rr_C3) (ad : Nat → Nat) (μ : NS) (ρ : NS) (hM : IM μ) (hC : IC μ ρ) : RO l y_V_refunds b_V_refunds 1 (some .int) 3 58 D cs [((ad 0), .inr (5, [.ref (ad 1), .ref (ad 2), .ref (ad 3), .ref (ad 4), .ref (ad 5), .ref (ad 6), .int (nI (μ 0 0)), .int (nI (μ 1 0)), .int (nI (μ 2 0))])), ((ad 1), .inr (1, [.ref (ad 7), .ref (ad 8), .ref (ad 9), .int (nI (μ 3 0))])), ((ad 2), .inr (4, [.ref (ad 10), .ref (ad 11), .ref (ad 12), .ref (ad 13)])), ((ad 3), .inr (2, [.ref (ad 14), .ref (ad 15)])), ((ad 4), .inr (0, [.ref (ad 16), .ref (ad 17)])), ((ad 5), .inr (3, [.ref (ad 18), .ref (ad 19), .ref (ad 20), .ref (ad 21), .ref (ad 22), .ref (ad 23), .int (nI (μ 15 0))])), ((ad 6), .inl (cs.1, 1001, .inl (fun j => nI ((μ 14) j)))), ((ad 7), .inl (cs.1, 16, .inl (fun j => nI ((ρ 0) j)))), ((ad 8), .inl (cs.1, 16, .inl (fun j => nI ((μ 4) j)))), ((ad 9), .inl (cs.2.1, 16, .inl (fun j => nI ((ρ 1) j)))), ((ad 10), .inl (cs.1, 7, .inl (fun j => nI ((μ 6) j)))), ((ad 11), .inl (cs.1, 7, .inl (fun j => nI ((μ 7) j)))), ((ad 12), .inl (cs.1, 7, .inl (fun j => nI ((μ 8) j)))), ((ad 13), .inl (cs.2.1, 7, .inl (fun j => nI ((μ 9) j)))), ((ad 14), .inl (cs.1, 49, .inl (fun j => nI ((ρ 2) j)))), ((ad 15), .inl (cs.1, 49, .inl (fun j => nI ((ρ 3) j)))), ((ad 16), .inl (cs.1, 7, .inl (fun j => mI ((ρ 4) j)))), ((ad 17), .inl (cs.1, 7, .inl (fun j => zI ((μ 12) j)))), ((ad 18), .inl (cs.1, 60, .inl (fun j => nI ((μ 16) j)))), ((ad 19), .inl (cs.1, 60, .inl (fun j => nI ((μ 17) j)))), ((ad 20), .inl (cs.1, 60, .inl (fun j => nI ((μ 18) j)))), ((ad 21), .inl (cs.1, 60, .inl (fun j => nI ((μ 19) j)))), ((ad 22), .inl (cs.1, 60, .inl (fun j => mI ((ρ 5) j)))), ((ad 23), .inl (cs.1, 60, .inl (fun j => nI ((μ 21) j))))] [.ref (ad 0)] (fun r => r = nI (rsN (μ 18) (μ 17) (μ 21) (μ 15 0))) := by
  refine RO.of (by decide) (Nat.le_of_ble_eq_true rfl) ?_
  intro p e s m args below meth c S hr hlk hK hP ls hl
  obtain ⟨hx, hb, hml, hown, ht⟩ := id S
  have hl : lv_has ls 1 [(0, .ref (ad 0))] := hl
  obtain ⟨hT, hU, hhd, hcar, hbase, hoff, hoff2, hwb, hcut, hb8, hr8, hvt, hvv, hrec, hN, htk, hth, hta0⟩ := id hM
  have hon := hC.on
  have hpl := hC.pl
  have hcb := hC.cb hM
  have htA := hC.tA hM
  refine lv_aload_n hx hb d_V_refunds_0 rfl (lv_at hl 0 rfl) ?_
  refine va_get (D := D) (ci := 5) (v := .ref (ad 5)) (C := R_V) (T := F_V) (N := 9) hx hb ht j_V hown hK.1 hP 0 rfl rfl 4 (by decide) (ht _ q_132) (fun _ h9 => h9) rfl d_V_refunds_1 ?_
  refine rr_rV (As := []) (rest := []) (idx := 190) (q0 := 5) (ci := 3) S hK hP (c_K_sumOfRefunds l D cs (ad 5) (ad 19) (ad 20) (ad 23) (.ref (ad 18)) (.ref (ad 21)) (.ref (ad 22)) (μ 15 0) (μ 17) (μ 18) (μ 21) (by first | assumption | omega) (fun j hj => (htk j hj).2.2.2.1) (fun j hj => (htk j hj).2.2.1) (fun j hj => Nat.le_trans (hth j (by omega)) hT)) k_K_sumOfRefunds [5, 19, 20, 23] rfl rfl rfl rfl q_431 ⟨Nat.le_of_ble_eq_true rfl, Nat.le_of_ble_eq_true rfl⟩ ⟨Nat.le_of_ble_eq_true rfl, Nat.le_of_ble_eq_true rfl⟩ hl (Nat.le_of_ble_eq_true rfl) rfl d_V_refunds_4 (fun r9 hr9 => ?_)
  subst hr9
  exact rr_ret hx hb hr hlk rfl d_V_refunds_7
theorem k_V_putOn : rr_CK y_V_putOn b_V_putOn 1 (some .int) 0 := ⟨q_449, q_450, q_1, q_451, by decide, by decide, by decide +kernel⟩
set_option maxHeartbeats 4000000 in
set_option maxRecDepth 100000 in
/-- RopeVotes.putOn -/
theorem c_V_putOn (l : Launch) (D : va_G) (cs : rr_C3) (ad : Nat → Nat) (μ : NS) (ρ : NS) (hM : IM μ) (hC : IC μ ρ) (hfl : l.stackTraces = false) (sz : Nat) : MX l y_V_putOn b_V_putOn 1 (some .int) 6 82 D cs [((ad 0), .inr (5, [.ref (ad 1), .ref (ad 2), .ref (ad 3), .ref (ad 4), .ref (ad 5), .ref (ad 6), .int (nI (μ 0 0)), .int (nI (μ 1 0)), .int (nI (μ 2 0))])), ((ad 1), .inr (1, [.ref (ad 7), .ref (ad 8), .ref (ad 9), .int (nI (μ 3 0))])), ((ad 2), .inr (4, [.ref (ad 10), .ref (ad 11), .ref (ad 12), .ref (ad 13)])), ((ad 3), .inr (2, [.ref (ad 14), .ref (ad 15)])), ((ad 4), .inr (0, [.ref (ad 16), .ref (ad 17)])), ((ad 5), .inr (3, [.ref (ad 18), .ref (ad 19), .ref (ad 20), .ref (ad 21), .ref (ad 22), .ref (ad 23), .int (nI (μ 15 0))])), ((ad 6), .inl (cs.1, 1001, .inl (fun j => nI ((μ 14) j)))), ((ad 7), .inl (cs.1, 16, .inl (fun j => nI ((ρ 0) j)))), ((ad 8), .inl (cs.1, 16, .inl (fun j => nI ((μ 4) j)))), ((ad 9), .inl (cs.2.1, 16, .inl (fun j => nI ((ρ 1) j)))), ((ad 10), .inl (cs.1, 7, .inl (fun j => nI ((μ 6) j)))), ((ad 11), .inl (cs.1, 7, .inl (fun j => nI ((μ 7) j)))), ((ad 12), .inl (cs.1, 7, .inl (fun j => nI ((μ 8) j)))), ((ad 13), .inl (cs.2.1, 7, .inl (fun j => nI ((μ 9) j)))), ((ad 14), .inl (cs.1, 49, .inl (fun j => nI ((ρ 2) j)))), ((ad 15), .inl (cs.1, 49, .inl (fun j => nI ((ρ 3) j)))), ((ad 16), .inl (cs.1, 7, .inl (fun j => mI ((ρ 4) j)))), ((ad 17), .inl (cs.1, 7, .inl (fun j => zI ((μ 12) j)))), ((ad 18), .inl (cs.1, 60, .inl (fun j => nI ((μ 16) j)))), ((ad 19), .inl (cs.1, 60, .inl (fun j => nI ((μ 17) j)))), ((ad 20), .inl (cs.1, 60, .inl (fun j => nI ((μ 18) j)))), ((ad 21), .inl (cs.1, 60, .inl (fun j => nI ((μ 19) j)))), ((ad 22), .inl (cs.1, 60, .inl (fun j => mI ((ρ 5) j)))), ((ad 23), .inl (cs.1, 60, .inl (fun j => nI ((μ 21) j))))] sz [.ref (ad 0)] (fun (r : Int32) (_ : Unit) => r = nI (μ 3 0) ∧ thPut μ = 0) (fun _ : Unit => [((ad 0), .inr (5, [.ref (ad 1), .ref (ad 2), .ref (ad 3), .ref (ad 4), .ref (ad 5), .ref (ad 6), .int (nI ((muPut μ) 0 0)), .int (nI ((muPut μ) 1 0)), .int (nI ((muPut μ) 2 0))])), ((ad 1), .inr (1, [.ref (ad 7), .ref (ad 8), .ref (ad 9), .int (nI ((muPut μ) 3 0))])), ((ad 2), .inr (4, [.ref (ad 10), .ref (ad 11), .ref (ad 12), .ref (ad 13)])), ((ad 3), .inr (2, [.ref (ad 14), .ref (ad 15)])), ((ad 4), .inr (0, [.ref (ad 16), .ref (ad 17)])), ((ad 5), .inr (3, [.ref (ad 18), .ref (ad 19), .ref (ad 20), .ref (ad 21), .ref (ad 22), .ref (ad 23), .int (nI ((muPut μ) 15 0))])), ((ad 6), .inl (cs.1, 1001, .inl (fun j => nI (((muPut μ) 14) j)))), ((ad 7), .inl (cs.1, 16, .inl (fun j => nI (((roPut μ ρ) 0) j)))), ((ad 8), .inl (cs.1, 16, .inl (fun j => nI (((muPut μ) 4) j)))), ((ad 9), .inl (cs.2.1, 16, .inl (fun j => nI (((roPut μ ρ) 1) j)))), ((ad 10), .inl (cs.1, 7, .inl (fun j => nI (((muPut μ) 6) j)))), ((ad 11), .inl (cs.1, 7, .inl (fun j => nI (((muPut μ) 7) j)))), ((ad 12), .inl (cs.1, 7, .inl (fun j => nI (((muPut μ) 8) j)))), ((ad 13), .inl (cs.2.1, 7, .inl (fun j => nI (((muPut μ) 9) j)))), ((ad 14), .inl (cs.1, 49, .inl (fun j => nI (((roPut μ ρ) 2) j)))), ((ad 15), .inl (cs.1, 49, .inl (fun j => nI (((roPut μ ρ) 3) j)))), ((ad 16), .inl (cs.1, 7, .inl (fun j => mI (((roPut μ ρ) 4) j)))), ((ad 17), .inl (cs.1, 7, .inl (fun j => zI (((muPut μ) 12) j)))), ((ad 18), .inl (cs.1, 60, .inl (fun j => nI (((muPut μ) 16) j)))), ((ad 19), .inl (cs.1, 60, .inl (fun j => nI (((muPut μ) 17) j)))), ((ad 20), .inl (cs.1, 60, .inl (fun j => nI (((muPut μ) 18) j)))), ((ad 21), .inl (cs.1, 60, .inl (fun j => nI (((muPut μ) 19) j)))), ((ad 22), .inl (cs.1, 60, .inl (fun j => mI (((roPut μ ρ) 5) j)))), ((ad 23), .inl (cs.1, 60, .inl (fun j => nI (((muPut μ) 21) j))))]) (fun E => (E = eS ∧ thPut μ = 1)) := by
  refine MX.of (by decide) (Nat.le_of_ble_eq_true rfl) ?_
  intro p e s m args below meth c A S hr hlk hta hK hY hZ hP hD hA hS ls hl
  obtain ⟨hx, hb, hml, hown, ht⟩ := id S
  have hl : lv_has ls 1 [(0, .ref (ad 0))] := hl
  have hS : va_S A s.heap s.heap [] := hS
  obtain ⟨hT, hU, hhd, hcar, hbase, hoff, hoff2, hwb, hcut, hb8, hr8, hvt, hvv, hrec, hN, htk, hth, hta0⟩ := id hM
  have hon := hC.on
  have hpl := hC.pl
  have hcb := hC.cb hM
  have htA := hC.tA hM
  have hnr := nr_same hC
  refine lv_aload_n hx hb d_V_putOn_0 rfl (lv_at hl 0 rfl) ?_
  refine va_get (D := D) (ci := 5) (v := .ref (ad 1)) (C := R_V) (T := F_V) (N := 9) hx hb ht j_V hown hK.1 hP 0 rfl rfl 0 (by decide) (ht _ q_128) (fun _ h9 => h9) rfl d_V_putOn_1 ?_
  refine rr_rV (As := []) (rest := []) (idx := 59) (q0 := 1) (ci := 1) S hK hP (c_L_canStart l D cs (ad 1) (ad 7) (ad 9) (.ref (ad 8)) (μ 3 0) (ρ 0) (ρ 1) (by first | assumption | omega) (by first | assumption | omega) (by first | assumption | omega)) k_L_canStart [1, 7, 9] rfl rfl rfl rfl q_452 ⟨Nat.le_of_ble_eq_true rfl, Nat.le_of_ble_eq_true rfl⟩ ⟨Nat.le_of_ble_eq_true rfl, Nat.le_of_ble_eq_true rfl⟩ hl (Nat.le_of_ble_eq_true rfl) rfl d_V_putOn_4 (fun r9 hr9 => ?_)
  subst hr9
  refine rr_bq_ne (tgt := 20) hx hb d_V_putOn_7 (by decide) (fun c7 => ?_) (fun c7 => ?_)
  · refine lv_aload_n hx hb d_V_putOn_20 rfl (lv_at hl 0 rfl) ?_
    refine va_get (D := D) (ci := 5) (v := .ref (ad 1)) (C := R_V) (T := F_V) (N := 9) hx hb ht j_V hown hK.1 hP 0 rfl rfl 0 (by decide) (ht _ q_128) (fun _ h9 => h9) rfl d_V_putOn_21 ?_
    refine lv_aload_n hx hb d_V_putOn_24 rfl (lv_at hl 0 rfl) ?_
    refine va_get (D := D) (ci := 5) (v := .int (nI (μ 1 0))) (C := R_V) (T := F_V) (N := 9) hx hb ht j_V hown hK.1 hP 0 rfl rfl 7 (by decide) (ht _ q_135) (fun _ h9 => h9) rfl d_V_putOn_25 ?_
    refine rr_mVi (As := [.int (nI (μ 1 0))]) (rest := []) (idx := 70) (q0 := 1) (ci := 1) (wr := [((ad 0), .inr (5, [.ref (ad 1), .ref (ad 2), .ref (ad 3), .ref (ad 4), .ref (ad 5), .ref (ad 6), .int (nI (μ 0 0)), .int (nI (μ 1 0)), .int (nI (μ 2 0))])), ((ad 2), .inr (4, [.ref (ad 10), .ref (ad 11), .ref (ad 12), .ref (ad 13)])), ((ad 3), .inr (2, [.ref (ad 14), .ref (ad 15)])), ((ad 4), .inr (0, [.ref (ad 16), .ref (ad 17)])), ((ad 5), .inr (3, [.ref (ad 18), .ref (ad 19), .ref (ad 20), .ref (ad 21), .ref (ad 22), .ref (ad 23), .int (nI (μ 15 0))])), ((ad 6), .inl (cs.1, 1001, .inl (fun j => nI ((μ 14) j)))), ((ad 10), .inl (cs.1, 7, .inl (fun j => nI ((μ 6) j)))), ((ad 11), .inl (cs.1, 7, .inl (fun j => nI ((μ 7) j)))), ((ad 12), .inl (cs.1, 7, .inl (fun j => nI ((μ 8) j)))), ((ad 13), .inl (cs.2.1, 7, .inl (fun j => nI ((μ 9) j)))), ((ad 14), .inl (cs.1, 49, .inl (fun j => nI ((ρ 2) j)))), ((ad 15), .inl (cs.1, 49, .inl (fun j => nI ((ρ 3) j)))), ((ad 16), .inl (cs.1, 7, .inl (fun j => mI ((ρ 4) j)))), ((ad 17), .inl (cs.1, 7, .inl (fun j => zI ((μ 12) j)))), ((ad 18), .inl (cs.1, 60, .inl (fun j => nI ((μ 16) j)))), ((ad 19), .inl (cs.1, 60, .inl (fun j => nI ((μ 17) j)))), ((ad 20), .inl (cs.1, 60, .inl (fun j => nI ((μ 18) j)))), ((ad 21), .inl (cs.1, 60, .inl (fun j => nI ((μ 19) j)))), ((ad 22), .inl (cs.1, 60, .inl (fun j => mI ((ρ 5) j)))), ((ad 23), .inl (cs.1, 60, .inl (fun j => nI ((μ 21) j))))]) S hK hP hD hS hA (c_L_start l D cs (ad 1) (ad 7) (ad 8) (ad 9) (μ 3 0) (ρ 0) (μ 4) (ρ 1) (μ 1 0) (by first | assumption | omega) s.heap.size) k_L_start [1, 7, 8, 9] [0, 2, 3, 4, 5, 6, 10, 11, 12, 13, 14, 15, 16, 17, 18, 19, 20, 21, 22, 23] rfl (by decide) rfl (by decide) (by decide) rfl rfl rfl q_462 ⟨Nat.le_of_ble_eq_true rfl, Nat.le_of_ble_eq_true rfl⟩ ⟨Nat.le_of_ble_eq_true rfl, Nat.le_of_ble_eq_true rfl⟩ hl (Nat.le_of_ble_eq_true rfl) rfl d_V_putOn_28 (fun r9 u_1 H locs hr9 hP hD hS => ?_)
    have hP : va_P D classes [((ad 0), .inr (5, [.ref (ad 1), .ref (ad 2), .ref (ad 3), .ref (ad 4), .ref (ad 5), .ref (ad 6), .int (nI (μ 0 0)), .int (nI (μ 1 0)), .int (nI (μ 2 0))])), ((ad 1), .inr (1, [.ref (ad 7), .ref (ad 8), .ref (ad 9), .int (nI ((μ 3 0) + 1))])), ((ad 2), .inr (4, [.ref (ad 10), .ref (ad 11), .ref (ad 12), .ref (ad 13)])), ((ad 3), .inr (2, [.ref (ad 14), .ref (ad 15)])), ((ad 4), .inr (0, [.ref (ad 16), .ref (ad 17)])), ((ad 5), .inr (3, [.ref (ad 18), .ref (ad 19), .ref (ad 20), .ref (ad 21), .ref (ad 22), .ref (ad 23), .int (nI (μ 15 0))])), ((ad 6), .inl (cs.1, 1001, .inl (fun j => nI ((μ 14) j)))), ((ad 7), .inl (cs.1, 16, .inl (fun j => nI ((va_up (ρ 0) (μ 3 0) 0) j)))), ((ad 8), .inl (cs.1, 16, .inl (fun j => nI ((va_up (μ 4) (μ 3 0) (μ 1 0)) j)))), ((ad 9), .inl (cs.2.1, 16, .inl (fun j => nI ((va_up (ρ 1) (μ 3 0) 1) j)))), ((ad 10), .inl (cs.1, 7, .inl (fun j => nI ((μ 6) j)))), ((ad 11), .inl (cs.1, 7, .inl (fun j => nI ((μ 7) j)))), ((ad 12), .inl (cs.1, 7, .inl (fun j => nI ((μ 8) j)))), ((ad 13), .inl (cs.2.1, 7, .inl (fun j => nI ((μ 9) j)))), ((ad 14), .inl (cs.1, 49, .inl (fun j => nI ((ρ 2) j)))), ((ad 15), .inl (cs.1, 49, .inl (fun j => nI ((ρ 3) j)))), ((ad 16), .inl (cs.1, 7, .inl (fun j => mI ((ρ 4) j)))), ((ad 17), .inl (cs.1, 7, .inl (fun j => zI ((μ 12) j)))), ((ad 18), .inl (cs.1, 60, .inl (fun j => nI ((μ 16) j)))), ((ad 19), .inl (cs.1, 60, .inl (fun j => nI ((μ 17) j)))), ((ad 20), .inl (cs.1, 60, .inl (fun j => nI ((μ 18) j)))), ((ad 21), .inl (cs.1, 60, .inl (fun j => nI ((μ 19) j)))), ((ad 22), .inl (cs.1, 60, .inl (fun j => mI ((ρ 5) j)))), ((ad 23), .inl (cs.1, 60, .inl (fun j => nI ((μ 21) j))))] H := hP.sub [0, 20, 1, 2, 3, 4, 5, 21, 22, 23, 6, 7, 8, 9, 10, 11, 12, 13, 14, 15, 16, 17, 18, 19] rfl
    have hD : va_D A [((ad 0), .inr (5, [.ref (ad 1), .ref (ad 2), .ref (ad 3), .ref (ad 4), .ref (ad 5), .ref (ad 6), .int (nI (μ 0 0)), .int (nI (μ 1 0)), .int (nI (μ 2 0))])), ((ad 1), .inr (1, [.ref (ad 7), .ref (ad 8), .ref (ad 9), .int (nI ((μ 3 0) + 1))])), ((ad 2), .inr (4, [.ref (ad 10), .ref (ad 11), .ref (ad 12), .ref (ad 13)])), ((ad 3), .inr (2, [.ref (ad 14), .ref (ad 15)])), ((ad 4), .inr (0, [.ref (ad 16), .ref (ad 17)])), ((ad 5), .inr (3, [.ref (ad 18), .ref (ad 19), .ref (ad 20), .ref (ad 21), .ref (ad 22), .ref (ad 23), .int (nI (μ 15 0))])), ((ad 6), .inl (cs.1, 1001, .inl (fun j => nI ((μ 14) j)))), ((ad 7), .inl (cs.1, 16, .inl (fun j => nI ((va_up (ρ 0) (μ 3 0) 0) j)))), ((ad 8), .inl (cs.1, 16, .inl (fun j => nI ((va_up (μ 4) (μ 3 0) (μ 1 0)) j)))), ((ad 9), .inl (cs.2.1, 16, .inl (fun j => nI ((va_up (ρ 1) (μ 3 0) 1) j)))), ((ad 10), .inl (cs.1, 7, .inl (fun j => nI ((μ 6) j)))), ((ad 11), .inl (cs.1, 7, .inl (fun j => nI ((μ 7) j)))), ((ad 12), .inl (cs.1, 7, .inl (fun j => nI ((μ 8) j)))), ((ad 13), .inl (cs.2.1, 7, .inl (fun j => nI ((μ 9) j)))), ((ad 14), .inl (cs.1, 49, .inl (fun j => nI ((ρ 2) j)))), ((ad 15), .inl (cs.1, 49, .inl (fun j => nI ((ρ 3) j)))), ((ad 16), .inl (cs.1, 7, .inl (fun j => mI ((ρ 4) j)))), ((ad 17), .inl (cs.1, 7, .inl (fun j => zI ((μ 12) j)))), ((ad 18), .inl (cs.1, 60, .inl (fun j => nI ((μ 16) j)))), ((ad 19), .inl (cs.1, 60, .inl (fun j => nI ((μ 17) j)))), ((ad 20), .inl (cs.1, 60, .inl (fun j => nI ((μ 18) j)))), ((ad 21), .inl (cs.1, 60, .inl (fun j => nI ((μ 19) j)))), ((ad 22), .inl (cs.1, 60, .inl (fun j => mI ((ρ 5) j)))), ((ad 23), .inl (cs.1, 60, .inl (fun j => nI ((μ 21) j))))] := hD.sub [0, 20, 1, 2, 3, 4, 5, 21, 22, 23, 6, 7, 8, 9, 10, 11, 12, 13, 14, 15, 16, 17, 18, 19] (by decide) rfl
    subst hr9
    exact rr_xret () hx hb hr hlk hP hD hS ⟨rfl, (by unfold thPut; rw [← hnr]; repeat (first | omega | split))⟩ d_V_putOn_31
  · exact rr_throw (cls := eS) (text := "no car is left, or the gap is too small") (ik := 63) (is := 65) (ic := 67) (by decide +kernel) rr_atS q_298 q_13 (List.mem_of_getElem? (i := 0) rfl) S hfl hlk hta hY hZ hP hD hS hl d_V_putOn_10 d_V_putOn_13 d_V_putOn_14 d_V_putOn_16 d_V_putOn_19 (Nat.le_of_ble_eq_true rfl) (Nat.le_of_ble_eq_true rfl) (Nat.le_of_ble_eq_true rfl) (Nat.le_of_ble_eq_true rfl) ⟨rfl, (by unfold thPut; rw [← hnr]; repeat (first | omega | split))⟩
theorem k_V_takeOff : rr_CK y_V_takeOff b_V_takeOff 2 (some .int) 1 := ⟨q_471, q_472, q_1, q_473, by decide, by decide, by decide +kernel⟩
set_option maxHeartbeats 4000000 in
set_option maxRecDepth 100000 in
/-- RopeVotes.takeOff -/
theorem c_V_takeOff (l : Launch) (D : va_G) (cs : rr_C3) (ad : Nat → Nat) (μ : NS) (ρ : NS) (x : Int32) (hM : IM μ) (hC : IC μ ρ) (hfl : l.stackTraces = false) (sz : Nat) : MX l y_V_takeOff b_V_takeOff 2 (some .int) 6 82 D cs [((ad 0), .inr (5, [.ref (ad 1), .ref (ad 2), .ref (ad 3), .ref (ad 4), .ref (ad 5), .ref (ad 6), .int (nI (μ 0 0)), .int (nI (μ 1 0)), .int (nI (μ 2 0))])), ((ad 1), .inr (1, [.ref (ad 7), .ref (ad 8), .ref (ad 9), .int (nI (μ 3 0))])), ((ad 2), .inr (4, [.ref (ad 10), .ref (ad 11), .ref (ad 12), .ref (ad 13)])), ((ad 3), .inr (2, [.ref (ad 14), .ref (ad 15)])), ((ad 4), .inr (0, [.ref (ad 16), .ref (ad 17)])), ((ad 5), .inr (3, [.ref (ad 18), .ref (ad 19), .ref (ad 20), .ref (ad 21), .ref (ad 22), .ref (ad 23), .int (nI (μ 15 0))])), ((ad 6), .inl (cs.1, 1001, .inl (fun j => nI ((μ 14) j)))), ((ad 7), .inl (cs.1, 16, .inl (fun j => nI ((ρ 0) j)))), ((ad 8), .inl (cs.1, 16, .inl (fun j => nI ((μ 4) j)))), ((ad 9), .inl (cs.2.1, 16, .inl (fun j => nI ((ρ 1) j)))), ((ad 10), .inl (cs.1, 7, .inl (fun j => nI ((μ 6) j)))), ((ad 11), .inl (cs.1, 7, .inl (fun j => nI ((μ 7) j)))), ((ad 12), .inl (cs.1, 7, .inl (fun j => nI ((μ 8) j)))), ((ad 13), .inl (cs.2.1, 7, .inl (fun j => nI ((μ 9) j)))), ((ad 14), .inl (cs.1, 49, .inl (fun j => nI ((ρ 2) j)))), ((ad 15), .inl (cs.1, 49, .inl (fun j => nI ((ρ 3) j)))), ((ad 16), .inl (cs.1, 7, .inl (fun j => mI ((ρ 4) j)))), ((ad 17), .inl (cs.1, 7, .inl (fun j => zI ((μ 12) j)))), ((ad 18), .inl (cs.1, 60, .inl (fun j => nI ((μ 16) j)))), ((ad 19), .inl (cs.1, 60, .inl (fun j => nI ((μ 17) j)))), ((ad 20), .inl (cs.1, 60, .inl (fun j => nI ((μ 18) j)))), ((ad 21), .inl (cs.1, 60, .inl (fun j => nI ((μ 19) j)))), ((ad 22), .inl (cs.1, 60, .inl (fun j => mI ((ρ 5) j)))), ((ad 23), .inl (cs.1, 60, .inl (fun j => nI ((μ 21) j))))] sz [.ref (ad 0), .int x] (fun (r : Int32) (_ : Unit) => r = nI (μ 1 0 - μ 4 (ix 16 x)) ∧ thOff μ x = 0) (fun _ : Unit => [((ad 0), .inr (5, [.ref (ad 1), .ref (ad 2), .ref (ad 3), .ref (ad 4), .ref (ad 5), .ref (ad 6), .int (nI ((muOff μ (ix 16 x)) 0 0)), .int (nI ((muOff μ (ix 16 x)) 1 0)), .int (nI ((muOff μ (ix 16 x)) 2 0))])), ((ad 1), .inr (1, [.ref (ad 7), .ref (ad 8), .ref (ad 9), .int (nI ((muOff μ (ix 16 x)) 3 0))])), ((ad 2), .inr (4, [.ref (ad 10), .ref (ad 11), .ref (ad 12), .ref (ad 13)])), ((ad 3), .inr (2, [.ref (ad 14), .ref (ad 15)])), ((ad 4), .inr (0, [.ref (ad 16), .ref (ad 17)])), ((ad 5), .inr (3, [.ref (ad 18), .ref (ad 19), .ref (ad 20), .ref (ad 21), .ref (ad 22), .ref (ad 23), .int (nI ((muOff μ (ix 16 x)) 15 0))])), ((ad 6), .inl (cs.1, 1001, .inl (fun j => nI (((muOff μ (ix 16 x)) 14) j)))), ((ad 7), .inl (cs.1, 16, .inl (fun j => nI (((roOff ρ (ix 16 x)) 0) j)))), ((ad 8), .inl (cs.1, 16, .inl (fun j => nI (((muOff μ (ix 16 x)) 4) j)))), ((ad 9), .inl (cs.2.1, 16, .inl (fun j => nI (((roOff ρ (ix 16 x)) 1) j)))), ((ad 10), .inl (cs.1, 7, .inl (fun j => nI (((muOff μ (ix 16 x)) 6) j)))), ((ad 11), .inl (cs.1, 7, .inl (fun j => nI (((muOff μ (ix 16 x)) 7) j)))), ((ad 12), .inl (cs.1, 7, .inl (fun j => nI (((muOff μ (ix 16 x)) 8) j)))), ((ad 13), .inl (cs.2.1, 7, .inl (fun j => nI (((muOff μ (ix 16 x)) 9) j)))), ((ad 14), .inl (cs.1, 49, .inl (fun j => nI (((roOff ρ (ix 16 x)) 2) j)))), ((ad 15), .inl (cs.1, 49, .inl (fun j => nI (((roOff ρ (ix 16 x)) 3) j)))), ((ad 16), .inl (cs.1, 7, .inl (fun j => mI (((roOff ρ (ix 16 x)) 4) j)))), ((ad 17), .inl (cs.1, 7, .inl (fun j => zI (((muOff μ (ix 16 x)) 12) j)))), ((ad 18), .inl (cs.1, 60, .inl (fun j => nI (((muOff μ (ix 16 x)) 16) j)))), ((ad 19), .inl (cs.1, 60, .inl (fun j => nI (((muOff μ (ix 16 x)) 17) j)))), ((ad 20), .inl (cs.1, 60, .inl (fun j => nI (((muOff μ (ix 16 x)) 18) j)))), ((ad 21), .inl (cs.1, 60, .inl (fun j => nI (((muOff μ (ix 16 x)) 19) j)))), ((ad 22), .inl (cs.1, 60, .inl (fun j => mI (((roOff ρ (ix 16 x)) 5) j)))), ((ad 23), .inl (cs.1, 60, .inl (fun j => nI (((muOff μ (ix 16 x)) 21) j))))]) (fun E => (E = eI ∧ thOff μ x = 1) ∨ (E = eS ∧ thOff μ x = 2)) := by
  refine MX.of (by decide) (Nat.le_of_ble_eq_true rfl) ?_
  intro p e s m args below meth c A S hr hlk hta hK hY hZ hP hD hA hS ls hl
  obtain ⟨hx, hb, hml, hown, ht⟩ := id S
  have hl : lv_has ls 2 [(0, .ref (ad 0)), (1, .int x)] := hl
  have hS : va_S A s.heap s.heap [] := hS
  obtain ⟨hT, hU, hhd, hcar, hbase, hoff, hoff2, hwb, hcut, hb8, hr8, hvt, hvv, hrec, hN, htk, hth, hta0⟩ := id hM
  have hon := hC.on
  have hpl := hC.pl
  have hcb := hC.cb hM
  have htA := hC.tA hM
  refine lv_aload_n hx hb d_V_takeOff_0 rfl (lv_at hl 0 rfl) ?_
  refine va_get (D := D) (ci := 5) (v := .ref (ad 1)) (C := R_V) (T := F_V) (N := 9) hx hb ht j_V hown hK.1 hP 0 rfl rfl 0 (by decide) (ht _ q_128) (fun _ h9 => h9) rfl d_V_takeOff_1 ?_
  refine lv_iload_n hx hb d_V_takeOff_4 rfl (lv_at hl 1 rfl) ?_
  refine rr_rV (As := [.int x]) (rest := []) (idx := 74) (q0 := 1) (ci := 1) S hK hP (c_L_has l D cs (ad 1) (ad 9) (.ref (ad 7)) (.ref (ad 8)) (.int (nI (μ 3 0))) (ρ 1) x (by first | assumption | omega)) k_L_has [1, 9] rfl rfl rfl rfl q_160 ⟨Nat.le_of_ble_eq_true rfl, Nat.le_of_ble_eq_true rfl⟩ ⟨Nat.le_of_ble_eq_true rfl, Nat.le_of_ble_eq_true rfl⟩ hl (Nat.le_of_ble_eq_true rfl) rfl d_V_takeOff_5 (fun r9 hr9 => ?_)
  subst hr9
  refine rr_bq_ne (tgt := 21) hx hb d_V_takeOff_8 (by decide) (fun c8 => ?_) (fun c8 => ?_)
  · have hq := (ca_on hM hC).mp c8
    have hv_x : x = nI (ix 16 x) := ix_lt (by decide) c8.1
    rw [hv_x] at hl
    have hpq := hC.2.1 _ c8.1 c8.2
    have hpl9 := hpl _ c8.1 c8.2
    have hb9 := hbase _ c8.1
    refine lv_aload_n hx hb d_V_takeOff_21 rfl (lv_at hl 0 rfl) ?_
    refine va_get (D := D) (ci := 5) (v := .ref (ad 1)) (C := R_V) (T := F_V) (N := 9) hx hb ht j_V hown hK.1 hP 0 rfl rfl 0 (by decide) (ht _ q_128) (fun _ h9 => h9) rfl d_V_takeOff_22 ?_
    refine va_get (D := D) (ci := 1) (v := .ref (ad 7)) (C := R_L) (T := F_L) (N := 4) hx hb ht j_L hown hK.1 hP 1 rfl rfl 0 (by decide) (ht _ q_30) (fun _ h9 => h9) rfl d_V_takeOff_25 ?_
    refine lv_iload_n hx hb d_V_takeOff_28 rfl (lv_at hl 1 rfl) ?_
    refine rr_iald (q0 := 7) (n := 16) (f := (fun j => nI ((ρ 0) j))) (k := (ix 16 x)) hx hb hK hP rfl (by omega) (by omega) d_V_takeOff_29 ?_
    refine rr_top (show (nI ((ρ 0) (ix 16 x)) : Int32) = nI (pN μ (ix 16 x)) from congrArg nI hpq) ?_
    have hpn : pN μ (ix 16 x) < 1200 := Nat.mod_lt _ (by decide)
    have hple : ppl μ (ix 16 x) ≤ 60 * 8 := Nat.le_trans (ct_le (c := 8) (fun j hj => by split; exact (htk j hj).2.2.1; omega)) (Nat.mul_le_mul_right 8 hN)
    refine rr_rS (As := [.int (nI (pN μ (ix 16 x)))]) (rest := []) (idx := 86) S hK (c_V_isInBottom l D cs (pN μ (ix 16 x)) (by first | assumption | omega)) k_V_isInBottom q_383 ⟨Nat.le_of_ble_eq_true rfl, Nat.le_of_ble_eq_true rfl⟩ ⟨Nat.le_of_ble_eq_true rfl, Nat.le_of_ble_eq_true rfl⟩ hl (Nat.le_of_ble_eq_true rfl) rfl d_V_takeOff_30 (fun r9 hr9 => ?_)
    subst hr9
    refine rr_bq_eq (tgt := 47) hx hb d_V_takeOff_33 (by decide) (fun c33 => ?_) (fun c33 => ?_)
    · exact rr_throw (cls := eS) (text := "not in the bottom station, or not empty") (ik := 63) (is := 92) (ic := 67) (by decide +kernel) rr_atS q_298 q_13 (List.mem_of_getElem? (i := 2) rfl) S hfl hlk hta hY hZ hP hD hS hl d_V_takeOff_47 d_V_takeOff_50 d_V_takeOff_51 d_V_takeOff_53 d_V_takeOff_56 (Nat.le_of_ble_eq_true rfl) (Nat.le_of_ble_eq_true rfl) (Nat.le_of_ble_eq_true rfl) (Nat.le_of_ble_eq_true rfl) (Or.inr ⟨rfl, (by unfold thOff; rw [if_pos hq, if_neg (by omega)])⟩)
    · refine lv_aload_n hx hb d_V_takeOff_36 rfl (lv_at hl 0 rfl) ?_
      refine va_get (D := D) (ci := 5) (v := .ref (ad 5)) (C := R_V) (T := F_V) (N := 9) hx hb ht j_V hown hK.1 hP 0 rfl rfl 4 (by decide) (ht _ q_132) (fun _ h9 => h9) rfl d_V_takeOff_37 ?_
      refine lv_iload_n hx hb d_V_takeOff_40 rfl (lv_at hl 1 rfl) ?_
      refine rr_rV (As := [.int (nI (ix 16 x))]) (rest := []) (idx := 89) (q0 := 5) (ci := 3) S hK hP (c_K_peopleIn l D cs (ad 5) (ad 18) (ad 19) (ad 22) (.ref (ad 20)) (.ref (ad 21)) (.ref (ad 23)) (μ 15 0) (μ 16) (μ 17) (ρ 5) (ix 16 x) (by first | assumption | omega) (by first | assumption | omega) (fun j hj => by have := (htk j hj).1; omega) (by first | assumption | omega)) k_K_peopleIn [5, 18, 19, 22] rfl rfl rfl rfl q_474 ⟨Nat.le_of_ble_eq_true rfl, Nat.le_of_ble_eq_true rfl⟩ ⟨Nat.le_of_ble_eq_true rfl, Nat.le_of_ble_eq_true rfl⟩ hl (Nat.le_of_ble_eq_true rfl) rfl d_V_takeOff_41 (fun r9 hr9 => ?_)
      subst hr9
      refine rr_top (show (nI (ppN (μ 16) (μ 17) (ρ 5) (ix 16 x) (μ 15 0)) : Int32) = nI (ppl μ (ix 16 x)) from congrArg nI (pp_same hC _)) ?_
      refine rr_if_le (a := (ppl μ (ix 16 x))) (tgt := 57) (by omega) hx hb d_V_takeOff_44 (by decide) (fun c44 => ?_) (fun c44 => ?_)
      · refine lv_aload_n hx hb d_V_takeOff_57 rfl (lv_at hl 0 rfl) ?_
        refine va_get (D := D) (ci := 5) (v := .ref (ad 1)) (C := R_V) (T := F_V) (N := 9) hx hb ht j_V hown hK.1 hP 0 rfl rfl 0 (by decide) (ht _ q_128) (fun _ h9 => h9) rfl d_V_takeOff_58 ?_
        refine va_get (D := D) (ci := 1) (v := .ref (ad 9)) (C := R_L) (T := F_L) (N := 4) hx hb ht j_L hown hK.1 hP 1 rfl rfl 2 (by decide) (ht _ q_34) (fun _ h9 => h9) rfl d_V_takeOff_61 ?_
        refine lv_iload_n hx hb d_V_takeOff_64 rfl (lv_at hl 1 rfl) ?_
        refine lv_iconst (v := nI 0) hx hb d_V_takeOff_65 (by decide) ?_
        refine rr_zast (q0 := 9) (n := 16) (ρ 1) (k := (ix 16 x)) (v := 0) (by omega) hx hb hK hP hD hS rfl (by omega) (by omega) d_V_takeOff_66 (fun H locs hP hD hS => ?_)
        have hP : va_P D classes [((ad 0), .inr (5, [.ref (ad 1), .ref (ad 2), .ref (ad 3), .ref (ad 4), .ref (ad 5), .ref (ad 6), .int (nI (μ 0 0)), .int (nI (μ 1 0)), .int (nI (μ 2 0))])), ((ad 1), .inr (1, [.ref (ad 7), .ref (ad 8), .ref (ad 9), .int (nI (μ 3 0))])), ((ad 2), .inr (4, [.ref (ad 10), .ref (ad 11), .ref (ad 12), .ref (ad 13)])), ((ad 3), .inr (2, [.ref (ad 14), .ref (ad 15)])), ((ad 4), .inr (0, [.ref (ad 16), .ref (ad 17)])), ((ad 5), .inr (3, [.ref (ad 18), .ref (ad 19), .ref (ad 20), .ref (ad 21), .ref (ad 22), .ref (ad 23), .int (nI (μ 15 0))])), ((ad 6), .inl (cs.1, 1001, .inl (fun j => nI ((μ 14) j)))), ((ad 7), .inl (cs.1, 16, .inl (fun j => nI ((ρ 0) j)))), ((ad 8), .inl (cs.1, 16, .inl (fun j => nI ((μ 4) j)))), ((ad 9), .inl (cs.2.1, 16, .inl (fun j => nI ((va_up (ρ 1) (ix 16 x) 0) j)))), ((ad 10), .inl (cs.1, 7, .inl (fun j => nI ((μ 6) j)))), ((ad 11), .inl (cs.1, 7, .inl (fun j => nI ((μ 7) j)))), ((ad 12), .inl (cs.1, 7, .inl (fun j => nI ((μ 8) j)))), ((ad 13), .inl (cs.2.1, 7, .inl (fun j => nI ((μ 9) j)))), ((ad 14), .inl (cs.1, 49, .inl (fun j => nI ((ρ 2) j)))), ((ad 15), .inl (cs.1, 49, .inl (fun j => nI ((ρ 3) j)))), ((ad 16), .inl (cs.1, 7, .inl (fun j => mI ((ρ 4) j)))), ((ad 17), .inl (cs.1, 7, .inl (fun j => zI ((μ 12) j)))), ((ad 18), .inl (cs.1, 60, .inl (fun j => nI ((μ 16) j)))), ((ad 19), .inl (cs.1, 60, .inl (fun j => nI ((μ 17) j)))), ((ad 20), .inl (cs.1, 60, .inl (fun j => nI ((μ 18) j)))), ((ad 21), .inl (cs.1, 60, .inl (fun j => nI ((μ 19) j)))), ((ad 22), .inl (cs.1, 60, .inl (fun j => mI ((ρ 5) j)))), ((ad 23), .inl (cs.1, 60, .inl (fun j => nI ((μ 21) j))))] H := hP
        have hD : va_D A [((ad 0), .inr (5, [.ref (ad 1), .ref (ad 2), .ref (ad 3), .ref (ad 4), .ref (ad 5), .ref (ad 6), .int (nI (μ 0 0)), .int (nI (μ 1 0)), .int (nI (μ 2 0))])), ((ad 1), .inr (1, [.ref (ad 7), .ref (ad 8), .ref (ad 9), .int (nI (μ 3 0))])), ((ad 2), .inr (4, [.ref (ad 10), .ref (ad 11), .ref (ad 12), .ref (ad 13)])), ((ad 3), .inr (2, [.ref (ad 14), .ref (ad 15)])), ((ad 4), .inr (0, [.ref (ad 16), .ref (ad 17)])), ((ad 5), .inr (3, [.ref (ad 18), .ref (ad 19), .ref (ad 20), .ref (ad 21), .ref (ad 22), .ref (ad 23), .int (nI (μ 15 0))])), ((ad 6), .inl (cs.1, 1001, .inl (fun j => nI ((μ 14) j)))), ((ad 7), .inl (cs.1, 16, .inl (fun j => nI ((ρ 0) j)))), ((ad 8), .inl (cs.1, 16, .inl (fun j => nI ((μ 4) j)))), ((ad 9), .inl (cs.2.1, 16, .inl (fun j => nI ((va_up (ρ 1) (ix 16 x) 0) j)))), ((ad 10), .inl (cs.1, 7, .inl (fun j => nI ((μ 6) j)))), ((ad 11), .inl (cs.1, 7, .inl (fun j => nI ((μ 7) j)))), ((ad 12), .inl (cs.1, 7, .inl (fun j => nI ((μ 8) j)))), ((ad 13), .inl (cs.2.1, 7, .inl (fun j => nI ((μ 9) j)))), ((ad 14), .inl (cs.1, 49, .inl (fun j => nI ((ρ 2) j)))), ((ad 15), .inl (cs.1, 49, .inl (fun j => nI ((ρ 3) j)))), ((ad 16), .inl (cs.1, 7, .inl (fun j => mI ((ρ 4) j)))), ((ad 17), .inl (cs.1, 7, .inl (fun j => zI ((μ 12) j)))), ((ad 18), .inl (cs.1, 60, .inl (fun j => nI ((μ 16) j)))), ((ad 19), .inl (cs.1, 60, .inl (fun j => nI ((μ 17) j)))), ((ad 20), .inl (cs.1, 60, .inl (fun j => nI ((μ 18) j)))), ((ad 21), .inl (cs.1, 60, .inl (fun j => nI ((μ 19) j)))), ((ad 22), .inl (cs.1, 60, .inl (fun j => mI ((ρ 5) j)))), ((ad 23), .inl (cs.1, 60, .inl (fun j => nI ((μ 21) j))))] := hD
        refine lv_aload_n hx hb d_V_takeOff_67 rfl (lv_at hl 0 rfl) ?_
        refine va_get (D := D) (ci := 5) (v := .int (nI (μ 1 0))) (C := R_V) (T := F_V) (N := 9) hx hb ht j_V hown hK.1 hP 0 rfl rfl 7 (by decide) (ht _ q_135) (fun _ h9 => h9) rfl d_V_takeOff_68 ?_
        refine lv_aload_n hx hb d_V_takeOff_71 rfl (lv_at hl 0 rfl) ?_
        refine va_get (D := D) (ci := 5) (v := .ref (ad 1)) (C := R_V) (T := F_V) (N := 9) hx hb ht j_V hown hK.1 hP 0 rfl rfl 0 (by decide) (ht _ q_128) (fun _ h9 => h9) rfl d_V_takeOff_72 ?_
        refine va_get (D := D) (ci := 1) (v := .ref (ad 8)) (C := R_L) (T := F_L) (N := 4) hx hb ht j_L hown hK.1 hP 1 rfl rfl 1 (by decide) (ht _ q_32) (fun _ h9 => h9) rfl d_V_takeOff_75 ?_
        refine lv_iload_n hx hb d_V_takeOff_78 rfl (lv_at hl 1 rfl) ?_
        refine rr_iald (q0 := 8) (n := 16) (f := (fun j => nI ((μ 4) j))) (k := (ix 16 x)) hx hb hK hP rfl (by omega) (by omega) d_V_takeOff_79 ?_
        refine rr_isub (a := (μ 1 0)) (b := ((μ 4) (ix 16 x))) (by omega) hx hb d_V_takeOff_80 ?_
        exact rr_xret () hx hb hr hlk hP hD hS ⟨rfl, (by unfold thOff; rw [if_pos hq, if_pos (by omega)])⟩ d_V_takeOff_81
      · exact rr_throw (cls := eS) (text := "not in the bottom station, or not empty") (ik := 63) (is := 92) (ic := 67) (by decide +kernel) rr_atS q_298 q_13 (List.mem_of_getElem? (i := 2) rfl) S hfl hlk hta hY hZ hP hD hS hl d_V_takeOff_47 d_V_takeOff_50 d_V_takeOff_51 d_V_takeOff_53 d_V_takeOff_56 (Nat.le_of_ble_eq_true rfl) (Nat.le_of_ble_eq_true rfl) (Nat.le_of_ble_eq_true rfl) (Nat.le_of_ble_eq_true rfl) (Or.inr ⟨rfl, (by unfold thOff; rw [if_pos hq, if_neg (by omega)])⟩)
  · have hq := fun z => c8 ((ca_on hM hC).mpr z)
    exact rr_throw (cls := eI) (text := "no such car") (ik := 78) (is := 80) (ic := 82) (by decide +kernel) rr_atI q_164 q_10 (List.mem_of_getElem? (i := 1) rfl) S hfl hlk hta hY hZ hP hD hS hl d_V_takeOff_11 d_V_takeOff_14 d_V_takeOff_15 d_V_takeOff_17 d_V_takeOff_20 (Nat.le_of_ble_eq_true rfl) (Nat.le_of_ble_eq_true rfl) (Nat.le_of_ble_eq_true rfl) (Nat.le_of_ble_eq_true rfl) (Or.inl ⟨rfl, (by unfold thOff; rw [if_neg hq])⟩)
theorem k_V_place : rr_CK y_V_place b_V_place 2 (some .int) 1 := ⟨q_157, q_158, q_1, q_159, by decide, by decide, by decide +kernel⟩
set_option maxHeartbeats 4000000 in
set_option maxRecDepth 100000 in
/-- RopeVotes.place -/
theorem c_V_place (l : Launch) (D : va_G) (cs : rr_C3) (ad : Nat → Nat) (μ : NS) (ρ : NS) (x : Int32) (hM : IM μ) (hC : IC μ ρ) (hfl : l.stackTraces = false) (sz : Nat) : MX l y_V_place b_V_place 2 (some .int) 6 82 D cs [((ad 0), .inr (5, [.ref (ad 1), .ref (ad 2), .ref (ad 3), .ref (ad 4), .ref (ad 5), .ref (ad 6), .int (nI (μ 0 0)), .int (nI (μ 1 0)), .int (nI (μ 2 0))])), ((ad 1), .inr (1, [.ref (ad 7), .ref (ad 8), .ref (ad 9), .int (nI (μ 3 0))])), ((ad 2), .inr (4, [.ref (ad 10), .ref (ad 11), .ref (ad 12), .ref (ad 13)])), ((ad 3), .inr (2, [.ref (ad 14), .ref (ad 15)])), ((ad 4), .inr (0, [.ref (ad 16), .ref (ad 17)])), ((ad 5), .inr (3, [.ref (ad 18), .ref (ad 19), .ref (ad 20), .ref (ad 21), .ref (ad 22), .ref (ad 23), .int (nI (μ 15 0))])), ((ad 6), .inl (cs.1, 1001, .inl (fun j => nI ((μ 14) j)))), ((ad 7), .inl (cs.1, 16, .inl (fun j => nI ((ρ 0) j)))), ((ad 8), .inl (cs.1, 16, .inl (fun j => nI ((μ 4) j)))), ((ad 9), .inl (cs.2.1, 16, .inl (fun j => nI ((ρ 1) j)))), ((ad 10), .inl (cs.1, 7, .inl (fun j => nI ((μ 6) j)))), ((ad 11), .inl (cs.1, 7, .inl (fun j => nI ((μ 7) j)))), ((ad 12), .inl (cs.1, 7, .inl (fun j => nI ((μ 8) j)))), ((ad 13), .inl (cs.2.1, 7, .inl (fun j => nI ((μ 9) j)))), ((ad 14), .inl (cs.1, 49, .inl (fun j => nI ((ρ 2) j)))), ((ad 15), .inl (cs.1, 49, .inl (fun j => nI ((ρ 3) j)))), ((ad 16), .inl (cs.1, 7, .inl (fun j => mI ((ρ 4) j)))), ((ad 17), .inl (cs.1, 7, .inl (fun j => zI ((μ 12) j)))), ((ad 18), .inl (cs.1, 60, .inl (fun j => nI ((μ 16) j)))), ((ad 19), .inl (cs.1, 60, .inl (fun j => nI ((μ 17) j)))), ((ad 20), .inl (cs.1, 60, .inl (fun j => nI ((μ 18) j)))), ((ad 21), .inl (cs.1, 60, .inl (fun j => nI ((μ 19) j)))), ((ad 22), .inl (cs.1, 60, .inl (fun j => mI ((ρ 5) j)))), ((ad 23), .inl (cs.1, 60, .inl (fun j => nI ((μ 21) j))))] sz [.ref (ad 0), .int x] (fun (r : Int32) (_ : Unit) => r = nI (pN μ (ix 16 x)) ∧ thCar μ x = 0) (fun _ : Unit => [((ad 0), .inr (5, [.ref (ad 1), .ref (ad 2), .ref (ad 3), .ref (ad 4), .ref (ad 5), .ref (ad 6), .int (nI (μ 0 0)), .int (nI (μ 1 0)), .int (nI (μ 2 0))])), ((ad 1), .inr (1, [.ref (ad 7), .ref (ad 8), .ref (ad 9), .int (nI (μ 3 0))])), ((ad 2), .inr (4, [.ref (ad 10), .ref (ad 11), .ref (ad 12), .ref (ad 13)])), ((ad 3), .inr (2, [.ref (ad 14), .ref (ad 15)])), ((ad 4), .inr (0, [.ref (ad 16), .ref (ad 17)])), ((ad 5), .inr (3, [.ref (ad 18), .ref (ad 19), .ref (ad 20), .ref (ad 21), .ref (ad 22), .ref (ad 23), .int (nI (μ 15 0))])), ((ad 6), .inl (cs.1, 1001, .inl (fun j => nI ((μ 14) j)))), ((ad 7), .inl (cs.1, 16, .inl (fun j => nI ((ρ 0) j)))), ((ad 8), .inl (cs.1, 16, .inl (fun j => nI ((μ 4) j)))), ((ad 9), .inl (cs.2.1, 16, .inl (fun j => nI ((ρ 1) j)))), ((ad 10), .inl (cs.1, 7, .inl (fun j => nI ((μ 6) j)))), ((ad 11), .inl (cs.1, 7, .inl (fun j => nI ((μ 7) j)))), ((ad 12), .inl (cs.1, 7, .inl (fun j => nI ((μ 8) j)))), ((ad 13), .inl (cs.2.1, 7, .inl (fun j => nI ((μ 9) j)))), ((ad 14), .inl (cs.1, 49, .inl (fun j => nI ((ρ 2) j)))), ((ad 15), .inl (cs.1, 49, .inl (fun j => nI ((ρ 3) j)))), ((ad 16), .inl (cs.1, 7, .inl (fun j => mI ((ρ 4) j)))), ((ad 17), .inl (cs.1, 7, .inl (fun j => zI ((μ 12) j)))), ((ad 18), .inl (cs.1, 60, .inl (fun j => nI ((μ 16) j)))), ((ad 19), .inl (cs.1, 60, .inl (fun j => nI ((μ 17) j)))), ((ad 20), .inl (cs.1, 60, .inl (fun j => nI ((μ 18) j)))), ((ad 21), .inl (cs.1, 60, .inl (fun j => nI ((μ 19) j)))), ((ad 22), .inl (cs.1, 60, .inl (fun j => mI ((ρ 5) j)))), ((ad 23), .inl (cs.1, 60, .inl (fun j => nI ((μ 21) j))))]) (fun E => (E = eI ∧ thCar μ x = 1)) := by
  refine MX.of (by decide) (Nat.le_of_ble_eq_true rfl) ?_
  intro p e s m args below meth c A S hr hlk hta hK hY hZ hP hD hA hS ls hl
  obtain ⟨hx, hb, hml, hown, ht⟩ := id S
  have hl : lv_has ls 2 [(0, .ref (ad 0)), (1, .int x)] := hl
  have hS : va_S A s.heap s.heap [] := hS
  obtain ⟨hT, hU, hhd, hcar, hbase, hoff, hoff2, hwb, hcut, hb8, hr8, hvt, hvv, hrec, hN, htk, hth, hta0⟩ := id hM
  have hon := hC.on
  have hpl := hC.pl
  have hcb := hC.cb hM
  have htA := hC.tA hM
  refine lv_aload_n hx hb d_V_place_0 rfl (lv_at hl 0 rfl) ?_
  refine va_get (D := D) (ci := 5) (v := .ref (ad 1)) (C := R_V) (T := F_V) (N := 9) hx hb ht j_V hown hK.1 hP 0 rfl rfl 0 (by decide) (ht _ q_128) (fun _ h9 => h9) rfl d_V_place_1 ?_
  refine lv_iload_n hx hb d_V_place_4 rfl (lv_at hl 1 rfl) ?_
  refine rr_rV (As := [.int x]) (rest := []) (idx := 74) (q0 := 1) (ci := 1) S hK hP (c_L_has l D cs (ad 1) (ad 9) (.ref (ad 7)) (.ref (ad 8)) (.int (nI (μ 3 0))) (ρ 1) x (by first | assumption | omega)) k_L_has [1, 9] rfl rfl rfl rfl q_160 ⟨Nat.le_of_ble_eq_true rfl, Nat.le_of_ble_eq_true rfl⟩ ⟨Nat.le_of_ble_eq_true rfl, Nat.le_of_ble_eq_true rfl⟩ hl (Nat.le_of_ble_eq_true rfl) rfl d_V_place_5 (fun r9 hr9 => ?_)
  subst hr9
  refine rr_bq_ne (tgt := 21) hx hb d_V_place_8 (by decide) (fun c8 => ?_) (fun c8 => ?_)
  · have hq := (ca_on hM hC).mp c8
    have hv_x : x = nI (ix 16 x) := ix_lt (by decide) c8.1
    rw [hv_x] at hl
    have hpq := hC.2.1 _ c8.1 c8.2
    have hpl9 := hpl _ c8.1 c8.2
    have hb9 := hbase _ c8.1
    refine lv_aload_n hx hb d_V_place_21 rfl (lv_at hl 0 rfl) ?_
    refine va_get (D := D) (ci := 5) (v := .ref (ad 1)) (C := R_V) (T := F_V) (N := 9) hx hb ht j_V hown hK.1 hP 0 rfl rfl 0 (by decide) (ht _ q_128) (fun _ h9 => h9) rfl d_V_place_22 ?_
    refine va_get (D := D) (ci := 1) (v := .ref (ad 7)) (C := R_L) (T := F_L) (N := 4) hx hb ht j_L hown hK.1 hP 1 rfl rfl 0 (by decide) (ht _ q_30) (fun _ h9 => h9) rfl d_V_place_25 ?_
    refine lv_iload_n hx hb d_V_place_28 rfl (lv_at hl 1 rfl) ?_
    refine rr_iald (q0 := 7) (n := 16) (f := (fun j => nI ((ρ 0) j))) (k := (ix 16 x)) hx hb hK hP rfl (by omega) (by omega) d_V_place_29 ?_
    exact rr_xret () hx hb hr hlk hP hD hS ⟨congrArg nI hpq, (by unfold thCar; rw [if_pos hq])⟩ d_V_place_30
  · have hq := fun z => c8 ((ca_on hM hC).mpr z)
    exact rr_throw (cls := eI) (text := "no such car") (ik := 78) (is := 80) (ic := 82) (by decide +kernel) rr_atI q_164 q_10 (List.mem_of_getElem? (i := 1) rfl) S hfl hlk hta hY hZ hP hD hS hl d_V_place_11 d_V_place_14 d_V_place_15 d_V_place_17 d_V_place_20 (Nat.le_of_ble_eq_true rfl) (Nat.le_of_ble_eq_true rfl) (Nat.le_of_ble_eq_true rfl) (Nat.le_of_ble_eq_true rfl) ⟨rfl, (by unfold thCar; rw [if_neg hq])⟩
set_option maxHeartbeats 4000000 in
set_option maxRecDepth 100000 in
/-- RopeVotes.place, where it does not throw -/
theorem c_V_place0 (l : Launch) (D : va_G) (cs : rr_C3) (ad : Nat → Nat) (μ : NS) (ρ : NS) (x : Int32) (hM : IM μ) (hC : IC μ ρ) (h0 : thCar μ x = 0) : RO l y_V_place b_V_place 2 (some .int) 1 21 D cs [((ad 0), .inr (5, [.ref (ad 1), .ref (ad 2), .ref (ad 3), .ref (ad 4), .ref (ad 5), .ref (ad 6), .int (nI (μ 0 0)), .int (nI (μ 1 0)), .int (nI (μ 2 0))])), ((ad 1), .inr (1, [.ref (ad 7), .ref (ad 8), .ref (ad 9), .int (nI (μ 3 0))])), ((ad 2), .inr (4, [.ref (ad 10), .ref (ad 11), .ref (ad 12), .ref (ad 13)])), ((ad 3), .inr (2, [.ref (ad 14), .ref (ad 15)])), ((ad 4), .inr (0, [.ref (ad 16), .ref (ad 17)])), ((ad 5), .inr (3, [.ref (ad 18), .ref (ad 19), .ref (ad 20), .ref (ad 21), .ref (ad 22), .ref (ad 23), .int (nI (μ 15 0))])), ((ad 6), .inl (cs.1, 1001, .inl (fun j => nI ((μ 14) j)))), ((ad 7), .inl (cs.1, 16, .inl (fun j => nI ((ρ 0) j)))), ((ad 8), .inl (cs.1, 16, .inl (fun j => nI ((μ 4) j)))), ((ad 9), .inl (cs.2.1, 16, .inl (fun j => nI ((ρ 1) j)))), ((ad 10), .inl (cs.1, 7, .inl (fun j => nI ((μ 6) j)))), ((ad 11), .inl (cs.1, 7, .inl (fun j => nI ((μ 7) j)))), ((ad 12), .inl (cs.1, 7, .inl (fun j => nI ((μ 8) j)))), ((ad 13), .inl (cs.2.1, 7, .inl (fun j => nI ((μ 9) j)))), ((ad 14), .inl (cs.1, 49, .inl (fun j => nI ((ρ 2) j)))), ((ad 15), .inl (cs.1, 49, .inl (fun j => nI ((ρ 3) j)))), ((ad 16), .inl (cs.1, 7, .inl (fun j => mI ((ρ 4) j)))), ((ad 17), .inl (cs.1, 7, .inl (fun j => zI ((μ 12) j)))), ((ad 18), .inl (cs.1, 60, .inl (fun j => nI ((μ 16) j)))), ((ad 19), .inl (cs.1, 60, .inl (fun j => nI ((μ 17) j)))), ((ad 20), .inl (cs.1, 60, .inl (fun j => nI ((μ 18) j)))), ((ad 21), .inl (cs.1, 60, .inl (fun j => nI ((μ 19) j)))), ((ad 22), .inl (cs.1, 60, .inl (fun j => mI ((ρ 5) j)))), ((ad 23), .inl (cs.1, 60, .inl (fun j => nI ((μ 21) j))))] [.ref (ad 0), .int x] (fun r => r = nI (pN μ (ix 16 x))) := by
  refine RO.of (by decide) (Nat.le_of_ble_eq_true rfl) ?_
  intro p e s m args below meth c S hr hlk hK hP ls hl
  obtain ⟨hx, hb, hml, hown, ht⟩ := id S
  have hl : lv_has ls 2 [(0, .ref (ad 0)), (1, .int x)] := hl
  obtain ⟨hT, hU, hhd, hcar, hbase, hoff, hoff2, hwb, hcut, hb8, hr8, hvt, hvv, hrec, hN, htk, hth, hta0⟩ := id hM
  have hon := hC.on
  have hpl := hC.pl
  have hcb := hC.cb hM
  have htA := hC.tA hM
  refine lv_aload_n hx hb d_V_place_0 rfl (lv_at hl 0 rfl) ?_
  refine va_get (D := D) (ci := 5) (v := .ref (ad 1)) (C := R_V) (T := F_V) (N := 9) hx hb ht j_V hown hK.1 hP 0 rfl rfl 0 (by decide) (ht _ q_128) (fun _ h9 => h9) rfl d_V_place_1 ?_
  refine lv_iload_n hx hb d_V_place_4 rfl (lv_at hl 1 rfl) ?_
  refine rr_rV (As := [.int x]) (rest := []) (idx := 74) (q0 := 1) (ci := 1) S hK hP (c_L_has l D cs (ad 1) (ad 9) (.ref (ad 7)) (.ref (ad 8)) (.int (nI (μ 3 0))) (ρ 1) x (by first | assumption | omega)) k_L_has [1, 9] rfl rfl rfl rfl q_160 ⟨Nat.le_of_ble_eq_true rfl, Nat.le_of_ble_eq_true rfl⟩ ⟨Nat.le_of_ble_eq_true rfl, Nat.le_of_ble_eq_true rfl⟩ hl (Nat.le_of_ble_eq_true rfl) rfl d_V_place_5 (fun r9 hr9 => ?_)
  subst hr9
  refine rr_bq_ne (tgt := 21) hx hb d_V_place_8 (by decide) (fun c8 => ?_) (fun c8 => ?_)
  · have hq := (ca_on hM hC).mp c8
    have hv_x : x = nI (ix 16 x) := ix_lt (by decide) c8.1
    rw [hv_x] at hl
    have hpq := hC.2.1 _ c8.1 c8.2
    have hpl9 := hpl _ c8.1 c8.2
    have hb9 := hbase _ c8.1
    refine lv_aload_n hx hb d_V_place_21 rfl (lv_at hl 0 rfl) ?_
    refine va_get (D := D) (ci := 5) (v := .ref (ad 1)) (C := R_V) (T := F_V) (N := 9) hx hb ht j_V hown hK.1 hP 0 rfl rfl 0 (by decide) (ht _ q_128) (fun _ h9 => h9) rfl d_V_place_22 ?_
    refine va_get (D := D) (ci := 1) (v := .ref (ad 7)) (C := R_L) (T := F_L) (N := 4) hx hb ht j_L hown hK.1 hP 1 rfl rfl 0 (by decide) (ht _ q_30) (fun _ h9 => h9) rfl d_V_place_25 ?_
    refine lv_iload_n hx hb d_V_place_28 rfl (lv_at hl 1 rfl) ?_
    refine rr_iald (q0 := 7) (n := 16) (f := (fun j => nI ((ρ 0) j))) (k := (ix 16 x)) hx hb hK hP rfl (by omega) (by omega) d_V_place_29 ?_
    exact rr_ret hx hb hr hlk (congrArg nI hpq) d_V_place_30
  · have hq := fun z => c8 ((ca_on hM hC).mpr z)
    exact (absurd h0 (by unfold thCar; rw [if_neg hq]; decide))
theorem k_V_placeByTurns : rr_CK y_V_placeByTurns b_V_placeByTurns 2 (some .int) 1 := ⟨q_530, q_531, q_1, q_532, by decide, by decide, by decide +kernel⟩
set_option maxHeartbeats 4000000 in
set_option maxRecDepth 100000 in
/-- RopeVotes.placeByTurns, where it does not throw -/
theorem c_V_placeByTurns0 (l : Launch) (D : va_G) (cs : rr_C3) (ad : Nat → Nat) (μ : NS) (ρ : NS) (x : Int32) (hM : IM μ) (hC : IC μ ρ) (h0 : thCar μ x = 0) : RO l y_V_placeByTurns b_V_placeByTurns 2 (some .int) 1 21 D cs [((ad 0), .inr (5, [.ref (ad 1), .ref (ad 2), .ref (ad 3), .ref (ad 4), .ref (ad 5), .ref (ad 6), .int (nI (μ 0 0)), .int (nI (μ 1 0)), .int (nI (μ 2 0))])), ((ad 1), .inr (1, [.ref (ad 7), .ref (ad 8), .ref (ad 9), .int (nI (μ 3 0))])), ((ad 2), .inr (4, [.ref (ad 10), .ref (ad 11), .ref (ad 12), .ref (ad 13)])), ((ad 3), .inr (2, [.ref (ad 14), .ref (ad 15)])), ((ad 4), .inr (0, [.ref (ad 16), .ref (ad 17)])), ((ad 5), .inr (3, [.ref (ad 18), .ref (ad 19), .ref (ad 20), .ref (ad 21), .ref (ad 22), .ref (ad 23), .int (nI (μ 15 0))])), ((ad 6), .inl (cs.1, 1001, .inl (fun j => nI ((μ 14) j)))), ((ad 7), .inl (cs.1, 16, .inl (fun j => nI ((ρ 0) j)))), ((ad 8), .inl (cs.1, 16, .inl (fun j => nI ((μ 4) j)))), ((ad 9), .inl (cs.2.1, 16, .inl (fun j => nI ((ρ 1) j)))), ((ad 10), .inl (cs.1, 7, .inl (fun j => nI ((μ 6) j)))), ((ad 11), .inl (cs.1, 7, .inl (fun j => nI ((μ 7) j)))), ((ad 12), .inl (cs.1, 7, .inl (fun j => nI ((μ 8) j)))), ((ad 13), .inl (cs.2.1, 7, .inl (fun j => nI ((μ 9) j)))), ((ad 14), .inl (cs.1, 49, .inl (fun j => nI ((ρ 2) j)))), ((ad 15), .inl (cs.1, 49, .inl (fun j => nI ((ρ 3) j)))), ((ad 16), .inl (cs.1, 7, .inl (fun j => mI ((ρ 4) j)))), ((ad 17), .inl (cs.1, 7, .inl (fun j => zI ((μ 12) j)))), ((ad 18), .inl (cs.1, 60, .inl (fun j => nI ((μ 16) j)))), ((ad 19), .inl (cs.1, 60, .inl (fun j => nI ((μ 17) j)))), ((ad 20), .inl (cs.1, 60, .inl (fun j => nI ((μ 18) j)))), ((ad 21), .inl (cs.1, 60, .inl (fun j => nI ((μ 19) j)))), ((ad 22), .inl (cs.1, 60, .inl (fun j => mI ((ρ 5) j)))), ((ad 23), .inl (cs.1, 60, .inl (fun j => nI ((μ 21) j))))] [.ref (ad 0), .int x] (fun r => r = nI (pN μ (ix 16 x))) := by
  refine RO.of (by decide) (Nat.le_of_ble_eq_true rfl) ?_
  intro p e s m args below meth c S hr hlk hK hP ls hl
  obtain ⟨hx, hb, hml, hown, ht⟩ := id S
  have hl : lv_has ls 2 [(0, .ref (ad 0)), (1, .int x)] := hl
  obtain ⟨hT, hU, hhd, hcar, hbase, hoff, hoff2, hwb, hcut, hb8, hr8, hvt, hvv, hrec, hN, htk, hth, hta0⟩ := id hM
  have hon := hC.on
  have hpl := hC.pl
  have hcb := hC.cb hM
  have htA := hC.tA hM
  refine lv_aload_n hx hb d_V_placeByTurns_0 rfl (lv_at hl 0 rfl) ?_
  refine va_get (D := D) (ci := 5) (v := .ref (ad 1)) (C := R_V) (T := F_V) (N := 9) hx hb ht j_V hown hK.1 hP 0 rfl rfl 0 (by decide) (ht _ q_128) (fun _ h9 => h9) rfl d_V_placeByTurns_1 ?_
  refine lv_iload_n hx hb d_V_placeByTurns_4 rfl (lv_at hl 1 rfl) ?_
  refine rr_rV (As := [.int x]) (rest := []) (idx := 74) (q0 := 1) (ci := 1) S hK hP (c_L_has l D cs (ad 1) (ad 9) (.ref (ad 7)) (.ref (ad 8)) (.int (nI (μ 3 0))) (ρ 1) x (by first | assumption | omega)) k_L_has [1, 9] rfl rfl rfl rfl q_160 ⟨Nat.le_of_ble_eq_true rfl, Nat.le_of_ble_eq_true rfl⟩ ⟨Nat.le_of_ble_eq_true rfl, Nat.le_of_ble_eq_true rfl⟩ hl (Nat.le_of_ble_eq_true rfl) rfl d_V_placeByTurns_5 (fun r9 hr9 => ?_)
  subst hr9
  refine rr_bq_ne (tgt := 21) hx hb d_V_placeByTurns_8 (by decide) (fun c8 => ?_) (fun c8 => ?_)
  · have hq := (ca_on hM hC).mp c8
    have hv_x : x = nI (ix 16 x) := ix_lt (by decide) c8.1
    rw [hv_x] at hl
    have hpq := hC.2.1 _ c8.1 c8.2
    have hpl9 := hpl _ c8.1 c8.2
    have hb9 := hbase _ c8.1
    refine lv_aload_n hx hb d_V_placeByTurns_21 rfl (lv_at hl 0 rfl) ?_
    refine va_get (D := D) (ci := 5) (v := .int (nI (μ 1 0))) (C := R_V) (T := F_V) (N := 9) hx hb ht j_V hown hK.1 hP 0 rfl rfl 7 (by decide) (ht _ q_135) (fun _ h9 => h9) rfl d_V_placeByTurns_22 ?_
    refine lv_aload_n hx hb d_V_placeByTurns_25 rfl (lv_at hl 0 rfl) ?_
    refine va_get (D := D) (ci := 5) (v := .ref (ad 1)) (C := R_V) (T := F_V) (N := 9) hx hb ht j_V hown hK.1 hP 0 rfl rfl 0 (by decide) (ht _ q_128) (fun _ h9 => h9) rfl d_V_placeByTurns_26 ?_
    refine va_get (D := D) (ci := 1) (v := .ref (ad 8)) (C := R_L) (T := F_L) (N := 4) hx hb ht j_L hown hK.1 hP 1 rfl rfl 1 (by decide) (ht _ q_32) (fun _ h9 => h9) rfl d_V_placeByTurns_29 ?_
    refine lv_iload_n hx hb d_V_placeByTurns_32 rfl (lv_at hl 1 rfl) ?_
    refine rr_iald (q0 := 8) (n := 16) (f := (fun j => nI ((μ 4) j))) (k := (ix 16 x)) hx hb hK hP rfl (by omega) (by omega) d_V_placeByTurns_33 ?_
    refine rr_isub (a := (μ 1 0)) (b := ((μ 4) (ix 16 x))) (by omega) hx hb d_V_placeByTurns_34 ?_
    refine lv_sipush (v := nI 1200) hx hb d_V_placeByTurns_35 (by decide) ?_
    refine rr_irem (a := ((μ 1 0) - ((μ 4) (ix 16 x)))) (b := 1200) (by omega) (by omega) (by omega) hx hb d_V_placeByTurns_38 ?_
    exact rr_ret hx hb hr hlk rfl d_V_placeByTurns_39
  · have hq := fun z => c8 ((ca_on hM hC).mpr z)
    exact (absurd h0 (by unfold thCar; rw [if_neg hq]; decide))
theorem k_V_people : rr_CK y_V_people b_V_people 2 (some .int) 1 := ⟨q_534, q_535, q_1, q_536, by decide, by decide, by decide +kernel⟩
set_option maxHeartbeats 4000000 in
set_option maxRecDepth 100000 in
/-- RopeVotes.people, where it does not throw -/
theorem c_V_people0 (l : Launch) (D : va_G) (cs : rr_C3) (ad : Nat → Nat) (μ : NS) (ρ : NS) (x : Int32) (hM : IM μ) (hC : IC μ ρ) (h0 : thCar μ x = 0) : RO l y_V_people b_V_people 2 (some .int) 1 23 D cs [((ad 0), .inr (5, [.ref (ad 1), .ref (ad 2), .ref (ad 3), .ref (ad 4), .ref (ad 5), .ref (ad 6), .int (nI (μ 0 0)), .int (nI (μ 1 0)), .int (nI (μ 2 0))])), ((ad 1), .inr (1, [.ref (ad 7), .ref (ad 8), .ref (ad 9), .int (nI (μ 3 0))])), ((ad 2), .inr (4, [.ref (ad 10), .ref (ad 11), .ref (ad 12), .ref (ad 13)])), ((ad 3), .inr (2, [.ref (ad 14), .ref (ad 15)])), ((ad 4), .inr (0, [.ref (ad 16), .ref (ad 17)])), ((ad 5), .inr (3, [.ref (ad 18), .ref (ad 19), .ref (ad 20), .ref (ad 21), .ref (ad 22), .ref (ad 23), .int (nI (μ 15 0))])), ((ad 6), .inl (cs.1, 1001, .inl (fun j => nI ((μ 14) j)))), ((ad 7), .inl (cs.1, 16, .inl (fun j => nI ((ρ 0) j)))), ((ad 8), .inl (cs.1, 16, .inl (fun j => nI ((μ 4) j)))), ((ad 9), .inl (cs.2.1, 16, .inl (fun j => nI ((ρ 1) j)))), ((ad 10), .inl (cs.1, 7, .inl (fun j => nI ((μ 6) j)))), ((ad 11), .inl (cs.1, 7, .inl (fun j => nI ((μ 7) j)))), ((ad 12), .inl (cs.1, 7, .inl (fun j => nI ((μ 8) j)))), ((ad 13), .inl (cs.2.1, 7, .inl (fun j => nI ((μ 9) j)))), ((ad 14), .inl (cs.1, 49, .inl (fun j => nI ((ρ 2) j)))), ((ad 15), .inl (cs.1, 49, .inl (fun j => nI ((ρ 3) j)))), ((ad 16), .inl (cs.1, 7, .inl (fun j => mI ((ρ 4) j)))), ((ad 17), .inl (cs.1, 7, .inl (fun j => zI ((μ 12) j)))), ((ad 18), .inl (cs.1, 60, .inl (fun j => nI ((μ 16) j)))), ((ad 19), .inl (cs.1, 60, .inl (fun j => nI ((μ 17) j)))), ((ad 20), .inl (cs.1, 60, .inl (fun j => nI ((μ 18) j)))), ((ad 21), .inl (cs.1, 60, .inl (fun j => nI ((μ 19) j)))), ((ad 22), .inl (cs.1, 60, .inl (fun j => mI ((ρ 5) j)))), ((ad 23), .inl (cs.1, 60, .inl (fun j => nI ((μ 21) j))))] [.ref (ad 0), .int x] (fun r => r = nI (ppl μ (ix 16 x))) := by
  refine RO.of (by decide) (Nat.le_of_ble_eq_true rfl) ?_
  intro p e s m args below meth c S hr hlk hK hP ls hl
  obtain ⟨hx, hb, hml, hown, ht⟩ := id S
  have hl : lv_has ls 2 [(0, .ref (ad 0)), (1, .int x)] := hl
  obtain ⟨hT, hU, hhd, hcar, hbase, hoff, hoff2, hwb, hcut, hb8, hr8, hvt, hvv, hrec, hN, htk, hth, hta0⟩ := id hM
  have hon := hC.on
  have hpl := hC.pl
  have hcb := hC.cb hM
  have htA := hC.tA hM
  refine lv_aload_n hx hb d_V_people_0 rfl (lv_at hl 0 rfl) ?_
  refine va_get (D := D) (ci := 5) (v := .ref (ad 1)) (C := R_V) (T := F_V) (N := 9) hx hb ht j_V hown hK.1 hP 0 rfl rfl 0 (by decide) (ht _ q_128) (fun _ h9 => h9) rfl d_V_people_1 ?_
  refine lv_iload_n hx hb d_V_people_4 rfl (lv_at hl 1 rfl) ?_
  refine rr_rV (As := [.int x]) (rest := []) (idx := 74) (q0 := 1) (ci := 1) S hK hP (c_L_has l D cs (ad 1) (ad 9) (.ref (ad 7)) (.ref (ad 8)) (.int (nI (μ 3 0))) (ρ 1) x (by first | assumption | omega)) k_L_has [1, 9] rfl rfl rfl rfl q_160 ⟨Nat.le_of_ble_eq_true rfl, Nat.le_of_ble_eq_true rfl⟩ ⟨Nat.le_of_ble_eq_true rfl, Nat.le_of_ble_eq_true rfl⟩ hl (Nat.le_of_ble_eq_true rfl) rfl d_V_people_5 (fun r9 hr9 => ?_)
  subst hr9
  refine rr_bq_ne (tgt := 21) hx hb d_V_people_8 (by decide) (fun c8 => ?_) (fun c8 => ?_)
  · have hq := (ca_on hM hC).mp c8
    have hv_x : x = nI (ix 16 x) := ix_lt (by decide) c8.1
    rw [hv_x] at hl
    have hpq := hC.2.1 _ c8.1 c8.2
    have hpl9 := hpl _ c8.1 c8.2
    have hb9 := hbase _ c8.1
    refine lv_aload_n hx hb d_V_people_21 rfl (lv_at hl 0 rfl) ?_
    refine va_get (D := D) (ci := 5) (v := .ref (ad 5)) (C := R_V) (T := F_V) (N := 9) hx hb ht j_V hown hK.1 hP 0 rfl rfl 4 (by decide) (ht _ q_132) (fun _ h9 => h9) rfl d_V_people_22 ?_
    refine lv_iload_n hx hb d_V_people_25 rfl (lv_at hl 1 rfl) ?_
    refine rr_rV (As := [.int (nI (ix 16 x))]) (rest := []) (idx := 89) (q0 := 5) (ci := 3) S hK hP (c_K_peopleIn l D cs (ad 5) (ad 18) (ad 19) (ad 22) (.ref (ad 20)) (.ref (ad 21)) (.ref (ad 23)) (μ 15 0) (μ 16) (μ 17) (ρ 5) (ix 16 x) (by first | assumption | omega) (by first | assumption | omega) (fun j hj => by have := (htk j hj).1; omega) (by first | assumption | omega)) k_K_peopleIn [5, 18, 19, 22] rfl rfl rfl rfl q_474 ⟨Nat.le_of_ble_eq_true rfl, Nat.le_of_ble_eq_true rfl⟩ ⟨Nat.le_of_ble_eq_true rfl, Nat.le_of_ble_eq_true rfl⟩ hl (Nat.le_of_ble_eq_true rfl) rfl d_V_people_26 (fun r9 hr9 => ?_)
    subst hr9
    exact rr_ret hx hb hr hlk (congrArg nI (pp_same hC _)) d_V_people_29
  · have hq := fun z => c8 ((ca_on hM hC).mpr z)
    exact (absurd h0 (by unfold thCar; rw [if_neg hq]; decide))
theorem k_V_vote : rr_CK y_V_vote b_V_vote 2 (some .int) 1 := ⟨q_520, q_521, q_1, q_522, by decide, by decide, by decide +kernel⟩
set_option maxHeartbeats 4000000 in
set_option maxRecDepth 100000 in
/-- RopeVotes.vote, where it does not throw -/
theorem c_V_vote0 (l : Launch) (D : va_G) (cs : rr_C3) (ad : Nat → Nat) (μ : NS) (ρ : NS) (x : Int32) (hM : IM μ) (hC : IC μ ρ) (h0 : thTow x = 0) : RO l y_V_vote b_V_vote 2 (some .int) 1 20 D cs [((ad 0), .inr (5, [.ref (ad 1), .ref (ad 2), .ref (ad 3), .ref (ad 4), .ref (ad 5), .ref (ad 6), .int (nI (μ 0 0)), .int (nI (μ 1 0)), .int (nI (μ 2 0))])), ((ad 1), .inr (1, [.ref (ad 7), .ref (ad 8), .ref (ad 9), .int (nI (μ 3 0))])), ((ad 2), .inr (4, [.ref (ad 10), .ref (ad 11), .ref (ad 12), .ref (ad 13)])), ((ad 3), .inr (2, [.ref (ad 14), .ref (ad 15)])), ((ad 4), .inr (0, [.ref (ad 16), .ref (ad 17)])), ((ad 5), .inr (3, [.ref (ad 18), .ref (ad 19), .ref (ad 20), .ref (ad 21), .ref (ad 22), .ref (ad 23), .int (nI (μ 15 0))])), ((ad 6), .inl (cs.1, 1001, .inl (fun j => nI ((μ 14) j)))), ((ad 7), .inl (cs.1, 16, .inl (fun j => nI ((ρ 0) j)))), ((ad 8), .inl (cs.1, 16, .inl (fun j => nI ((μ 4) j)))), ((ad 9), .inl (cs.2.1, 16, .inl (fun j => nI ((ρ 1) j)))), ((ad 10), .inl (cs.1, 7, .inl (fun j => nI ((μ 6) j)))), ((ad 11), .inl (cs.1, 7, .inl (fun j => nI ((μ 7) j)))), ((ad 12), .inl (cs.1, 7, .inl (fun j => nI ((μ 8) j)))), ((ad 13), .inl (cs.2.1, 7, .inl (fun j => nI ((μ 9) j)))), ((ad 14), .inl (cs.1, 49, .inl (fun j => nI ((ρ 2) j)))), ((ad 15), .inl (cs.1, 49, .inl (fun j => nI ((ρ 3) j)))), ((ad 16), .inl (cs.1, 7, .inl (fun j => mI ((ρ 4) j)))), ((ad 17), .inl (cs.1, 7, .inl (fun j => zI ((μ 12) j)))), ((ad 18), .inl (cs.1, 60, .inl (fun j => nI ((μ 16) j)))), ((ad 19), .inl (cs.1, 60, .inl (fun j => nI ((μ 17) j)))), ((ad 20), .inl (cs.1, 60, .inl (fun j => nI ((μ 18) j)))), ((ad 21), .inl (cs.1, 60, .inl (fun j => nI ((μ 19) j)))), ((ad 22), .inl (cs.1, 60, .inl (fun j => mI ((ρ 5) j)))), ((ad 23), .inl (cs.1, 60, .inl (fun j => nI ((μ 21) j))))] [.ref (ad 0), .int x] (fun r => r = mI (vlN μ (ix 7 x))) := by
  refine RO.of (by decide) (Nat.le_of_ble_eq_true rfl) ?_
  intro p e s m args below meth c S hr hlk hK hP ls hl
  obtain ⟨hx, hb, hml, hown, ht⟩ := id S
  have hl : lv_has ls 2 [(0, .ref (ad 0)), (1, .int x)] := hl
  obtain ⟨hT, hU, hhd, hcar, hbase, hoff, hoff2, hwb, hcut, hb8, hr8, hvt, hvv, hrec, hN, htk, hth, hta0⟩ := id hM
  have hon := hC.on
  have hpl := hC.pl
  have hcb := hC.cb hM
  have htA := hC.tA hM
  refine lv_iload_n hx hb d_V_vote_0 rfl (lv_at hl 1 rfl) ?_
  refine rr_rS (As := [.int x]) (rest := []) (idx := 108) S hK (c_V_isTower l D cs x ) k_V_isTower q_236 ⟨Nat.le_of_ble_eq_true rfl, Nat.le_of_ble_eq_true rfl⟩ ⟨Nat.le_of_ble_eq_true rfl, Nat.le_of_ble_eq_true rfl⟩ hl (Nat.le_of_ble_eq_true rfl) rfl d_V_vote_1 (fun r9 hr9 => ?_)
  subst hr9
  refine rr_bq_ne (tgt := 17) hx hb d_V_vote_4 (by decide) (fun c4 => ?_) (fun c4 => ?_)
  · have hv_x : x = nI (ix 7 x) := ix_lt (by decide) c4
    rw [hv_x] at hl
    refine lv_aload_n hx hb d_V_vote_17 rfl (lv_at hl 0 rfl) ?_
    refine va_get (D := D) (ci := 5) (v := .ref (ad 4)) (C := R_V) (T := F_V) (N := 9) hx hb ht j_V hown hK.1 hP 0 rfl rfl 3 (by decide) (ht _ q_131) (fun _ h9 => h9) rfl d_V_vote_18 ?_
    refine va_get (D := D) (ci := 0) (v := .ref (ad 16)) (C := R_C) (T := F_C) (N := 2) hx hb ht j_C hown hK.1 hP 4 rfl rfl 0 (by decide) (ht _ q_90) (fun _ h9 => h9) rfl d_V_vote_21 ?_
    refine lv_iload_n hx hb d_V_vote_24 rfl (lv_at hl 1 rfl) ?_
    refine rr_iald (q0 := 16) (n := 7) (f := (fun j => mI ((ρ 4) j))) (k := (ix 7 x)) hx hb hK hP rfl (by omega) (by omega) d_V_vote_25 ?_
    exact rr_ret hx hb hr hlk (congrArg mI (hC.2.2.2.1 _ c4)) d_V_vote_26
  · exact (absurd h0 (by unfold thTow; rw [if_neg c4]; decide))
theorem k_V_voteTime : rr_CK y_V_voteTime b_V_voteTime 2 (some .int) 1 := ⟨q_516, q_517, q_1, q_518, by decide, by decide, by decide +kernel⟩
set_option maxHeartbeats 4000000 in
set_option maxRecDepth 100000 in
/-- RopeVotes.voteTime, where it does not throw -/
theorem c_V_voteTime0 (l : Launch) (D : va_G) (cs : rr_C3) (ad : Nat → Nat) (μ : NS) (ρ : NS) (x : Int32) (hM : IM μ) (hC : IC μ ρ) (h0 : thTow x = 0) : RO l y_V_voteTime b_V_voteTime 2 (some .int) 1 20 D cs [((ad 0), .inr (5, [.ref (ad 1), .ref (ad 2), .ref (ad 3), .ref (ad 4), .ref (ad 5), .ref (ad 6), .int (nI (μ 0 0)), .int (nI (μ 1 0)), .int (nI (μ 2 0))])), ((ad 1), .inr (1, [.ref (ad 7), .ref (ad 8), .ref (ad 9), .int (nI (μ 3 0))])), ((ad 2), .inr (4, [.ref (ad 10), .ref (ad 11), .ref (ad 12), .ref (ad 13)])), ((ad 3), .inr (2, [.ref (ad 14), .ref (ad 15)])), ((ad 4), .inr (0, [.ref (ad 16), .ref (ad 17)])), ((ad 5), .inr (3, [.ref (ad 18), .ref (ad 19), .ref (ad 20), .ref (ad 21), .ref (ad 22), .ref (ad 23), .int (nI (μ 15 0))])), ((ad 6), .inl (cs.1, 1001, .inl (fun j => nI ((μ 14) j)))), ((ad 7), .inl (cs.1, 16, .inl (fun j => nI ((ρ 0) j)))), ((ad 8), .inl (cs.1, 16, .inl (fun j => nI ((μ 4) j)))), ((ad 9), .inl (cs.2.1, 16, .inl (fun j => nI ((ρ 1) j)))), ((ad 10), .inl (cs.1, 7, .inl (fun j => nI ((μ 6) j)))), ((ad 11), .inl (cs.1, 7, .inl (fun j => nI ((μ 7) j)))), ((ad 12), .inl (cs.1, 7, .inl (fun j => nI ((μ 8) j)))), ((ad 13), .inl (cs.2.1, 7, .inl (fun j => nI ((μ 9) j)))), ((ad 14), .inl (cs.1, 49, .inl (fun j => nI ((ρ 2) j)))), ((ad 15), .inl (cs.1, 49, .inl (fun j => nI ((ρ 3) j)))), ((ad 16), .inl (cs.1, 7, .inl (fun j => mI ((ρ 4) j)))), ((ad 17), .inl (cs.1, 7, .inl (fun j => zI ((μ 12) j)))), ((ad 18), .inl (cs.1, 60, .inl (fun j => nI ((μ 16) j)))), ((ad 19), .inl (cs.1, 60, .inl (fun j => nI ((μ 17) j)))), ((ad 20), .inl (cs.1, 60, .inl (fun j => nI ((μ 18) j)))), ((ad 21), .inl (cs.1, 60, .inl (fun j => nI ((μ 19) j)))), ((ad 22), .inl (cs.1, 60, .inl (fun j => mI ((ρ 5) j)))), ((ad 23), .inl (cs.1, 60, .inl (fun j => nI ((μ 21) j))))] [.ref (ad 0), .int x] (fun r => r = zI (μ 12 (ix 7 x))) := by
  refine RO.of (by decide) (Nat.le_of_ble_eq_true rfl) ?_
  intro p e s m args below meth c S hr hlk hK hP ls hl
  obtain ⟨hx, hb, hml, hown, ht⟩ := id S
  have hl : lv_has ls 2 [(0, .ref (ad 0)), (1, .int x)] := hl
  obtain ⟨hT, hU, hhd, hcar, hbase, hoff, hoff2, hwb, hcut, hb8, hr8, hvt, hvv, hrec, hN, htk, hth, hta0⟩ := id hM
  have hon := hC.on
  have hpl := hC.pl
  have hcb := hC.cb hM
  have htA := hC.tA hM
  refine lv_iload_n hx hb d_V_voteTime_0 rfl (lv_at hl 1 rfl) ?_
  refine rr_rS (As := [.int x]) (rest := []) (idx := 108) S hK (c_V_isTower l D cs x ) k_V_isTower q_236 ⟨Nat.le_of_ble_eq_true rfl, Nat.le_of_ble_eq_true rfl⟩ ⟨Nat.le_of_ble_eq_true rfl, Nat.le_of_ble_eq_true rfl⟩ hl (Nat.le_of_ble_eq_true rfl) rfl d_V_voteTime_1 (fun r9 hr9 => ?_)
  subst hr9
  refine rr_bq_ne (tgt := 17) hx hb d_V_voteTime_4 (by decide) (fun c4 => ?_) (fun c4 => ?_)
  · have hv_x : x = nI (ix 7 x) := ix_lt (by decide) c4
    rw [hv_x] at hl
    refine lv_aload_n hx hb d_V_voteTime_17 rfl (lv_at hl 0 rfl) ?_
    refine va_get (D := D) (ci := 5) (v := .ref (ad 4)) (C := R_V) (T := F_V) (N := 9) hx hb ht j_V hown hK.1 hP 0 rfl rfl 3 (by decide) (ht _ q_131) (fun _ h9 => h9) rfl d_V_voteTime_18 ?_
    refine va_get (D := D) (ci := 0) (v := .ref (ad 17)) (C := R_C) (T := F_C) (N := 2) hx hb ht j_C hown hK.1 hP 4 rfl rfl 1 (by decide) (ht _ q_92) (fun _ h9 => h9) rfl d_V_voteTime_21 ?_
    refine lv_iload_n hx hb d_V_voteTime_24 rfl (lv_at hl 1 rfl) ?_
    refine rr_iald (q0 := 17) (n := 7) (f := (fun j => zI ((μ 12) j))) (k := (ix 7 x)) hx hb hK hP rfl (by omega) (by omega) d_V_voteTime_25 ?_
    exact rr_ret hx hb hr hlk rfl d_V_voteTime_26
  · exact (absurd h0 (by unfold thTow; rw [if_neg c4]; decide))
