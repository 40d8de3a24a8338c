theorem k_V_wouldDecide : rr_CK y_V_wouldDecide b_V_wouldDecide 1 (some .int) 0 := ⟨q_274, q_275, q_1, q_276, by decide, by decide, by decide +kernel⟩
set_option maxHeartbeats 4000000 in
set_option maxRecDepth 100000 in
/-- RopeVotes.wouldDecide -/
theorem c_V_wouldDecide (l : Launch) (D : va_G) (cs : rr_C3) (a0 : Nat) (h0 : Nat) (h1 : Nat) (h2 : Nat) (u0 : Value) (u1 : Value) (u2 : Value) (u4 : Value) (u5 : Value) (u7 : Value) (T : Nat) (hd : Nat) (cb : Nat → Nat) (vt : Nat → Nat) (hcb : ∀ j, j < 7 → cb j ≤ 3) (hvt : ∀ j, j < 7 → vt j ≤ T) (hT : T ≤ 1000) (hhd : hd ≤ 1) : RO l y_V_wouldDecide b_V_wouldDecide 1 (some .int) 3 70 D cs [(a0, .inr (5, [u0, u1, u2, .ref h0, u4, u5, .int (nI T), u7, .int (nI hd)])), (h0, .inr (0, [.ref h1, .ref h2])), (h1, .inl (cs.1, 7, .inl (fun j => mI (cb j)))), (h2, .inl (cs.1, 7, .inl (fun j => zI (vt j))))] [.ref a0] (fun r => r = nI (wdN hd (dcN (cfN T cb vt 2 7) (cfN T cb vt 1 7) (cfN T cb vt 0 7)))) := by
  refine RO.of (by decide) (Nat.le_of_ble_eq_true rfl) ?_
  intro p e s m args below meth c S hr hlk hK hP ls hl
  obtain ⟨hx, hb, hml, hown, ht⟩ := id S
  have hl : lv_has ls 1 [(0, .ref a0)] := hl
  refine lv_aload_n hx hb d_V_wouldDecide_0 rfl (lv_at hl 0 rfl) ?_
  refine va_get (D := D) (ci := 5) (v := .int (nI hd)) (C := R_V) (T := F_V) (N := 9) hx hb ht j_V hown hK.1 hP 0 rfl rfl 8 (by decide) (ht _ q_136) (fun _ h9 => h9) rfl d_V_wouldDecide_1 ?_
  refine rr_if_eq (a := hd) (tgt := 11) (by omega) hx hb d_V_wouldDecide_4 (by decide) (fun c4 => ?_) (fun c4 => ?_)
  · refine lv_aload_n hx hb d_V_wouldDecide_11 rfl (lv_at hl 0 rfl) ?_
    refine va_get (D := D) (ci := 5) (v := .ref h0) (C := R_V) (T := F_V) (N := 9) hx hb ht j_V hown hK.1 hP 0 rfl rfl 3 (by decide) (ht _ q_131) (fun _ h9 => h9) rfl d_V_wouldDecide_12 ?_
    refine lv_aload_n hx hb d_V_wouldDecide_15 rfl (lv_at hl 0 rfl) ?_
    refine va_get (D := D) (ci := 5) (v := .int (nI T)) (C := R_V) (T := F_V) (N := 9) hx hb ht j_V hown hK.1 hP 0 rfl rfl 6 (by decide) (ht _ q_134) (fun _ h9 => h9) rfl d_V_wouldDecide_16 ?_
    refine rr_rV (As := [.int (nI T)]) (rest := []) (idx := 150) (q0 := 1) (ci := 0) S hK hP (c_C_speedByVotes l D cs h0 h1 h2 cb vt T (by first | assumption | omega) (by first | assumption | omega) (by first | assumption | omega)) k_C_speedByVotes [1, 2, 3] rfl rfl rfl rfl q_277 ⟨Nat.le_of_ble_eq_true rfl, Nat.le_of_ble_eq_true rfl⟩ ⟨Nat.le_of_ble_eq_true rfl, Nat.le_of_ble_eq_true rfl⟩ hl (Nat.le_of_ble_eq_true rfl) rfl d_V_wouldDecide_19 (fun r9 hr9 => ?_)
    subst hr9
    exact rr_ret hx hb hr hlk (congrArg nI (by unfold wdN; rw [if_pos (by omega)])) d_V_wouldDecide_22
  · refine lv_iconst (v := nI 0) hx hb d_V_wouldDecide_7 (by decide) ?_
    refine lv_goto (tgt := 22) hx hb d_V_wouldDecide_8 (by decide) ?_
    exact rr_ret hx hb hr hlk (congrArg nI (by unfold wdN; rw [if_neg (by omega)])) d_V_wouldDecide_22
