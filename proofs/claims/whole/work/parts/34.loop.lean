set_option maxHeartbeats 4000000 in
set_option maxRecDepth 100000 in
/-- the law's loop: at its head with 4·k ints read -/
theorem lw_loop {p : Program} {l : Launch} {e : Env} {s : State} {m : MethodId} {below : List Frame} {meth : Method} {c : Code} {b L : Nat} {xs : Nat → Int32} {D : va_G} {cs : rr_C3} {ad bd : Nat → Nat} {oc : Nat} (C1 : lwC p l s m meth c b L xs D cs) : ∀ (n k : Nat), 4 * k ≤ L → L + 1 ≤ 4 * k + n → ∀ (μ ρ : NS) (t9 : Nat) (f : Nat → Int64) (H : Heap) (locs : List Loc) (ls : Array Slot), lwS s b D cs ad bd oc (4 * k) μ ρ t9 f H locs ls → W p l e room_1 s m #[Value.ref b] below meth c H locs (43 + k) (3148 + 6 * k) (lw_Z below #[Value.ref b] s) (F0 m 23 ls []) := by
  obtain ⟨S, hr, hlk, hfl, hL, hX, hbl, hK, hY, hX9, hZ⟩ := id C1
  obtain ⟨hx, hb, hml, hown, ht⟩ := id S
  have hbA : ¬ lwA s b := Nat.not_le.mpr hbl
  intro n
  induction n with
  | zero => intro k h1 h2; exact absurd h2 (by omega)
  | succ n ih =>
    intro k hk hn μ ρ t9 f H locs ls h
    have h0 := h
    obtain ⟨hM, hC, hP, hD, hS, hl⟩ := h
    refine lv_iload hx hb d_law_23 (lv_at hl 0 rfl) ?_
    refine lv_aload_n hx hb d_law_25 rfl (lv_at hl 1 rfl) ?_
    refine va_slen hx hb hX hbl hbA hS d_law_26 ?_
    refine lv_iconst (v := nI 4) hx hb d_law_27 (by decide) ?_
    refine lv_isub hx hb d_law_28 ?_
    have e1 : (nI L - nI 4).toInt = (L : Int) - 4 := pk_sub_toInt (by omega) (by decide)
    have e2 : (nI (4 * k)).toInt = ((4 * k : Nat) : Int) := nI_toInt (by omega)
    refine lv_icmp_gt (tgt := 1335) hx hb d_law_29 (by decide) (fun c9 => ?_) (fun c9 => ?_)
    · refine lv_iconst (v := 1) hx hb d_law_1335 (by decide) ?_
      refine va_forget (fun q hq => hS.2.2 q hq) ?_
      refine W.widen (k := 1090) (n := 11478) (by omega) (by omega) ?_
      exact lw_ret hx hb hr hlk d_law_1336
    · have hi : 4 * k + 4 ≤ L := by
        have c8 : ¬ (nI L - nI 4 < nI (4 * k)) := c9
        rw [Int32.lt_iff_toInt_lt, e1, e2] at c8
        omega
      have G : lwGo p l e s m below meth c b D cs ad bd oc (4 * k) (43 + k + 1) (3148 + 6 * k + 6) := by
        intro μ ρ t9 f H locs ls h
        obtain ⟨hM, hC, hP, hD, hS, hl⟩ := h
        refine lv_iinc (v := nI (4 * (k + 1))) (lv' := [(4, .int (nI (4 * (k + 1)))), (0, .ref b), (1, .ref (ad 0)), (2, .ref (bd 0)), (3, .ref oc)]) hx hb d_law_1329 hl (k := 0) rfl (nI_add (4 * k) 4) (by decide) rfl (fun ls hl => ?_)
        refine lv_goto (tgt := 23) hx hb d_law_1332 (by decide) ?_
        exact ih (k + 1) (by omega) (by omega) μ ρ t9 f H locs ls ⟨hM, hC, hP, hD, hS, hl⟩
      have hcl : 43 + k + 1 ≤ 1090 ∧ 3148 + 6 * k + 6 ≤ 11478 := by omega
      refine lv_aload_n hx hb d_law_32 rfl (lv_at hl 1 rfl) ?_
      refine lv_iload hx hb d_law_33 (lv_at hl 0 rfl) ?_
      refine va_sld hx hb hX hbl hbA hS (vp_in_nI (by omega) (by omega)) d_law_35 ?_
      refine lv_bipush (v := nI 31) hx hb d_law_36 (by decide) ?_
      refine lv_iand hx hb d_law_38 ?_
      obtain ⟨j, hj, ej⟩ := lw_and (xs (nI (4 * k)).toNatClampNeg)
      rw [ej]
      rcases (show j = 0 ∨ j = 1 ∨ j = 2 ∨ j = 3 ∨ j = 4 ∨ j = 5 ∨ j = 6 ∨ j = 7 ∨ j = 8 ∨ j = 9 ∨ j = 10 ∨ j = 11 ∨ j = 12 ∨ j = 13 ∨ j = 14 ∨ j = 15 ∨ j = 16 ∨ j = 17 ∨ j = 18 ∨ j = 19 ∨ j = 20 ∨ j = 21 ∨ j = 22 ∨ j = 23 ∨ j = 24 ∨ j = 25 ∨ 26 ≤ j by omega) with rfl | rfl | rfl | rfl | rfl | rfl | rfl | rfl | rfl | rfl | rfl | rfl | rfl | rfl | rfl | rfl | rfl | rfl | rfl | rfl | rfl | rfl | rfl | rfl | rfl | rfl | hj2
      · refine lv_tableIn (off := 117) (tgt := 156) hx hb d_law_39 (by decide) (by decide) (by decide) (by decide) ?_
        exact lk_0 C1 hcl hi G h0
      · refine lv_tableIn (off := 161) (tgt := 200) hx hb d_law_39 (by decide) (by decide) (by decide) (by decide) ?_
        exact lk_1 C1 hcl hi G h0
      · refine lv_tableIn (off := 217) (tgt := 256) hx hb d_law_39 (by decide) (by decide) (by decide) (by decide) ?_
        exact lk_2 C1 hcl hi G h0
      · refine lv_tableIn (off := 230) (tgt := 269) hx hb d_law_39 (by decide) (by decide) (by decide) (by decide) ?_
        exact lk_3 C1 hcl hi G h0
      · refine lv_tableIn (off := 286) (tgt := 325) hx hb d_law_39 (by decide) (by decide) (by decide) (by decide) ?_
        exact lk_4 C1 hcl hi G h0
      · refine lv_tableIn (off := 342) (tgt := 381) hx hb d_law_39 (by decide) (by decide) (by decide) (by decide) ?_
        exact lk_5 C1 hcl hi G h0
      · refine lv_tableIn (off := 355) (tgt := 394) hx hb d_law_39 (by decide) (by decide) (by decide) (by decide) ?_
        exact lk_6 C1 hcl hi G h0
      · refine lv_tableIn (off := 423) (tgt := 462) hx hb d_law_39 (by decide) (by decide) (by decide) (by decide) ?_
        exact lk_7 C1 hcl hi G h0
      · refine lv_tableIn (off := 503) (tgt := 542) hx hb d_law_39 (by decide) (by decide) (by decide) (by decide) ?_
        exact lk_8 C1 hcl hi G h0
      · refine lv_tableIn (off := 587) (tgt := 626) hx hb d_law_39 (by decide) (by decide) (by decide) (by decide) ?_
        exact lk_9 C1 hcl hi G h0
      · refine lv_tableIn (off := 643) (tgt := 682) hx hb d_law_39 (by decide) (by decide) (by decide) (by decide) ?_
        exact lk_10 C1 hcl hi G h0
      · refine lv_tableIn (off := 699) (tgt := 738) hx hb d_law_39 (by decide) (by decide) (by decide) (by decide) ?_
        exact lk_11 C1 hcl hi G h0
      · refine lv_tableIn (off := 712) (tgt := 751) hx hb d_law_39 (by decide) (by decide) (by decide) (by decide) ?_
        exact lk_12 C1 hcl hi G h0
      · refine lv_tableIn (off := 725) (tgt := 764) hx hb d_law_39 (by decide) (by decide) (by decide) (by decide) ?_
        exact lk_13 C1 hcl hi G h0
      · refine lv_tableIn (off := 738) (tgt := 777) hx hb d_law_39 (by decide) (by decide) (by decide) (by decide) ?_
        exact lk_14 C1 hcl hi G h0
      · refine lv_tableIn (off := 779) (tgt := 818) hx hb d_law_39 (by decide) (by decide) (by decide) (by decide) ?_
        exact lk_15 C1 hcl hi G h0
      · refine lv_tableIn (off := 835) (tgt := 874) hx hb d_law_39 (by decide) (by decide) (by decide) (by decide) ?_
        exact lk_16 C1 hcl hi G h0
      · refine lv_tableIn (off := 848) (tgt := 887) hx hb d_law_39 (by decide) (by decide) (by decide) (by decide) ?_
        exact lk_17 C1 hcl hi G h0
      · refine lv_tableIn (off := 861) (tgt := 900) hx hb d_law_39 (by decide) (by decide) (by decide) (by decide) ?_
        exact lk_18 C1 hcl hi G h0
      · refine lv_tableIn (off := 917) (tgt := 956) hx hb d_law_39 (by decide) (by decide) (by decide) (by decide) ?_
        exact lk_19 C1 hcl hi G h0
      · refine lv_tableIn (off := 973) (tgt := 1012) hx hb d_law_39 (by decide) (by decide) (by decide) (by decide) ?_
        exact lk_20 C1 hcl hi G h0
      · refine lv_tableIn (off := 1053) (tgt := 1092) hx hb d_law_39 (by decide) (by decide) (by decide) (by decide) ?_
        exact lk_21 C1 hcl hi G h0
      · refine lv_tableIn (off := 1109) (tgt := 1148) hx hb d_law_39 (by decide) (by decide) (by decide) (by decide) ?_
        exact lk_22 C1 hcl hi G h0
      · refine lv_tableIn (off := 1165) (tgt := 1204) hx hb d_law_39 (by decide) (by decide) (by decide) (by decide) ?_
        exact lk_23 C1 hcl hi G h0
      · refine lv_tableIn (off := 1221) (tgt := 1260) hx hb d_law_39 (by decide) (by decide) (by decide) (by decide) ?_
        exact lk_24 C1 hcl hi G h0
      · refine lv_tableIn (off := 1277) (tgt := 1316) hx hb d_law_39 (by decide) (by decide) (by decide) (by decide) ?_
        exact lk_25 C1 hcl hi G h0
      · refine lv_tableOut (tgt := 1329) hx hb d_law_39 (Or.inr (by rw [nI_toInt (by omega)]; omega)) (by decide) ?_
        refine W.widen (k := 43 + k + 1) (n := 3148 + 6 * k + 6) (by omega) (by omega) ?_
        exact G μ ρ t9 f H locs ls h0
