theorem k_P_countLater : rr_CK y_P_countLater b_P_countLater 4 (some .int) 1 := ⟨q_512, q_513, q_4, q_514, by decide, by decide, by decide +kernel⟩
set_option maxHeartbeats 4000000 in
set_option maxRecDepth 100000 in
/-- Post.countLater -/
theorem c_P_countLater (l : Launch) (D : va_G) (cs : rr_C3) (h0 : Nat) (h2 : Nat) (v0 : Value) (cm : Nat → Nat) (T : Nat) (hT : T ≤ 1000) (hcm : ∀ j, j < 49 → cm j ≤ 2000) : RO l y_P_countLater b_P_countLater 4 (some .int) 0 0 D cs [(h0, .inr (2, [v0, .ref h2])), (h2, .inl (cs.1, 49, .inl (fun j => nI (cm j))))] [.ref h0, .int (nI T)] (fun r => r = nI (owN T cm 49)) := by
  refine RO.of (by decide) (Nat.le_of_ble_eq_true rfl) ?_
  intro p e s m args below meth c S hr hlk hK hP ls hl
  obtain ⟨hx, hb, hml, hown, ht⟩ := id S
  have hl : lv_has ls 4 [(0, .ref h0), (1, .int (nI T))] := hl
  refine lv_iconst (v := nI 0) hx hb d_P_countLater_0 (by decide) ?_
  refine lv_istore_n (lv' := [(2, .int (nI 0)), (0, .ref h0), (1, .int (nI T))]) hx hb d_P_countLater_1 rfl hl (by decide) rfl (fun ls hl => ?_)
  refine lv_iconst (v := nI 0) hx hb d_P_countLater_2 (by decide) ?_
  refine lv_istore_n (lv' := [(3, .int (nI 0)), (2, .int (nI 0)), (0, .ref h0), (1, .int (nI T))]) hx hb d_P_countLater_3 rfl hl (by decide) rfl (fun ls hl => ?_)
  refine rr_loop (fun i => [(3, .int (nI i)), (2, .int (nI (owN T cm i))), (0, .ref h0), (1, .int (nI T))]) (fun i => True) 0 49 (by omega) trivial (lv_sub hl [0, 1, 2, 3] rfl) (fun i ls hi_2 hI_3 hl ih_1 => ?_)
  have hl : lv_has ls 4 [(3, .int (nI i)), (2, .int (nI (owN T cm i))), (0, .ref h0), (1, .int (nI T))] := hl
  refine lv_iload_n hx hb d_P_countLater_4 rfl (lv_at hl 0 rfl) ?_
  refine lv_aload_n hx hb d_P_countLater_5 rfl (lv_at hl 2 rfl) ?_
  refine va_get (D := D) (ci := 2) (v := .ref h2) (C := R_P) (T := F_P) (N := 2) hx hb ht j_P hown hK.1 hP 0 rfl rfl 1 (by decide) (ht _ q_77) (fun _ h9 => h9) rfl d_P_countLater_6 ?_
  refine va_alen (v := nI 49) hx hb hK.1 hP 1 0 rfl rfl rfl d_P_countLater_9 ?_
  refine rr_icmp_ge (a := i) (b := 49) (tgt := 32) (by omega) (by omega) hx hb d_P_countLater_10 (by decide) (fun c10 => ?_) (fun c10 => ?_)
  · refine lv_iload_n hx hb d_P_countLater_32 rfl (lv_at hl 1 rfl) ?_
    exact rr_ret hx hb hr hlk (by rw [show i = 49 from by omega]) d_P_countLater_33
  · refine lv_aload_n hx hb d_P_countLater_13 rfl (lv_at hl 2 rfl) ?_
    refine va_get (D := D) (ci := 2) (v := .ref h2) (C := R_P) (T := F_P) (N := 2) hx hb ht j_P hown hK.1 hP 0 rfl rfl 1 (by decide) (ht _ q_77) (fun _ h9 => h9) rfl d_P_countLater_14 ?_
    refine lv_iload_n hx hb d_P_countLater_17 rfl (lv_at hl 0 rfl) ?_
    refine rr_iald (q0 := 1) (n := 49) (f := (fun j => nI (cm j))) (k := i) hx hb hK hP rfl (by omega) (by omega) d_P_countLater_18 ?_
    refine lv_iload_n hx hb d_P_countLater_19 rfl (lv_at hl 3 rfl) ?_
    have hcm9 := hcm i (by omega)
    refine rr_icmp_le (a := (cm i)) (b := T) (tgt := 26) (by omega) (by omega) hx hb d_P_countLater_20 (by decide) (fun c20 => ?_) (fun c20 => ?_)
    · refine lv_iinc (v := nI (i + 1)) (lv' := [(3, .int (nI (i + 1))), (2, .int (nI (owN T cm i))), (0, .ref h0), (1, .int (nI T))]) hx hb d_P_countLater_26 hl (k := 0) rfl (nI_add i 1) (by decide) rfl (fun ls hl => ?_)
      refine lv_goto (tgt := 4) hx hb d_P_countLater_29 (by decide) ?_
      exact ih_1 ls (by omega) trivial (by show lv_has ls 4 [(3, .int (nI (i + 1))), (2, .int (nI (owN T cm (i + 1)))), (0, .ref h0), (1, .int (nI T))]; rw [show (nI (owN T cm (i + 1)) : Int32) = nI (owN T cm i) from congrArg nI (by rw [owN_s, bq_f (by omega), Nat.add_zero])]; exact lv_sub hl [0, 1, 2, 3] rfl)
    · refine lv_iinc (v := nI (owN T cm i + 1)) (lv' := [(2, .int (nI (owN T cm i + 1))), (3, .int (nI i)), (0, .ref h0), (1, .int (nI T))]) hx hb d_P_countLater_23 hl (k := 1) rfl (nI_add (owN T cm i) 1) (by decide) rfl (fun ls hl => ?_)
      refine lv_iinc (v := nI (i + 1)) (lv' := [(3, .int (nI (i + 1))), (2, .int (nI (owN T cm i + 1))), (0, .ref h0), (1, .int (nI T))]) hx hb d_P_countLater_26 hl (k := 1) rfl (nI_add i 1) (by decide) rfl (fun ls hl => ?_)
      refine lv_goto (tgt := 4) hx hb d_P_countLater_29 (by decide) ?_
      exact ih_1 ls (by omega) trivial (by show lv_has ls 4 [(3, .int (nI (i + 1))), (2, .int (nI (owN T cm (i + 1)))), (0, .ref h0), (1, .int (nI T))]; rw [show (nI (owN T cm (i + 1)) : Int32) = nI (owN T cm i + 1) from congrArg nI (by rw [owN_s, bq_t (by omega)])]; exact lv_sub hl [0, 1, 2, 3] rfl)
