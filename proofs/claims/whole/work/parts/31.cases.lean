set_option maxHeartbeats 4000000 in
set_option maxRecDepth 100000 in
theorem lk_7 {p : Program} {l : Launch} {e : Env} {s : State} {m : MethodId} {below : List Frame} {meth : Method} {c : Code} {b L : Nat} {xs : Nat → Int32} {D : va_G} {cs : rr_C3} {ad bd : Nat → Nat} {oc i cells slots : Nat} {μ ρ : NS} {t9 : Nat} {f : Nat → Int64} {H : Heap} {locs : List Loc} {ls : Array Slot} (C1 : lwC p l s m meth c b L xs D cs) (hcl : cells + 1 ≤ 1090 ∧ slots + 6 ≤ 11478) (hi : i + 4 ≤ L) (G : lwGo p l e s m below meth c b D cs ad bd oc i (cells + 1) (slots + 6)) (h : lwS s b D cs ad bd oc i μ ρ t9 f H locs ls) : W p l e room_1 s m #[Value.ref b] below meth c H locs cells slots (lw_Z below #[Value.ref b] s) (F0 m 462 ls []) := by
  obtain ⟨S, hr, hlk, hfl, hL, hX, hbl, hK, hY, hX9, hZ⟩ := id C1
  obtain ⟨hM, hC, hP, hD, hS, hl⟩ := h
  obtain ⟨hx, hb, hml, hown, ht⟩ := id S
  have hA : ∀ q : Nat, s.heap.size ≤ q → lwA s q := fun _ h => h
  have hbA : ¬ lwA s b := Nat.not_le.mpr hbl
  refine lv_aload_n hx hb d_law_462 rfl (lv_at hl 2 rfl) ?_
  refine lv_aload_n hx hb d_law_463 rfl (lv_at hl 1 rfl) ?_
  refine lv_iload hx hb d_law_464 (lv_at hl 0 rfl) ?_
  refine lv_iconst (v := nI 1) hx hb d_law_466 (by decide) ?_
  refine rr_iadd (a := i) (b := 1) hx hb d_law_467 ?_
  refine va_sld hx hb hX hbl hbA hS (vp_in_nI (by omega) (by omega)) d_law_468 ?_
  refine lv_aload_n hx hb d_law_469 rfl (lv_at hl 1 rfl) ?_
  refine lv_iload hx hb d_law_470 (lv_at hl 0 rfl) ?_
  refine lv_iconst (v := nI 2) hx hb d_law_472 (by decide) ?_
  refine rr_iadd (a := i) (b := 2) hx hb d_law_473 ?_
  refine va_sld hx hb hX hbl hbA hS (vp_in_nI (by omega) (by omega)) d_law_474 ?_
  refine lv_aload_n hx hb d_law_475 rfl (lv_at hl 1 rfl) ?_
  refine lv_iload hx hb d_law_476 (lv_at hl 0 rfl) ?_
  refine lv_iconst (v := nI 3) hx hb d_law_478 (by decide) ?_
  refine rr_iadd (a := i) (b := 3) hx hb d_law_479 ?_
  refine va_sld hx hb hX hbl hbA hS (vp_in_nI (by omega) (by omega)) d_law_480 ?_
  refine lv_aload_n hx hb d_law_481 rfl (lv_at hl 4 rfl) ?_
  refine rr_wS (As := [.ref (ad 0), .int (xs (nI (i + 1)).toNatClampNeg), .int (xs (nI (i + 2)).toNatClampNeg), .int (xs (nI (i + 3)).toNatClampNeg), .ref oc]) (rest := []) (idx := 106) (wr := mwL cs bd μ t9) S hK hY hX9 hZ hP hD hS hA (c_A_setLimits l D cs ad oc μ ρ f (xs (nI (i + 1)).toNatClampNeg) (xs (nI (i + 2)).toNatClampNeg) (xs (nI (i + 3)).toNatClampNeg) hM hC  hfl H.size) k_A_setLimits ([0, 1, 2, 3, 4, 5, 6, 7, 8, 9, 10, 11, 12, 13, 14, 15, 16, 17, 18, 19, 20, 21, 22, 23] ++ [42]) [24, 25, 26, 27, 28, 29, 30, 31, 32, 33, 34, 35, 36, 37, 38, 39, 40, 41] rfl (by decide) rfl (by decide) (by decide) q_409 ⟨Nat.le_of_ble_eq_true rfl, Nat.le_of_ble_eq_true rfl⟩ hcl hl (Nat.le_of_ble_eq_true rfl) rfl d_law_482 (fun r u H locs hp hP hD hS => ?_)
  obtain ⟨u1, u2, u3⟩ := u
  obtain ⟨rfl, hp⟩ := hp
  dsimp only at hp
  have hP := hP.sub (ws' := cwL cs ad u1 u2 ++ mwL cs bd μ t9 ++ [ouL cs oc u3]) ([18, 19, 20, 21, 22, 23, 24, 25, 26, 27, 28, 29, 30, 31, 32, 33, 34, 35, 36, 37, 38, 39, 40, 41] ++ [0, 1, 2, 3, 4, 5, 6, 7, 8, 9, 10, 11, 12, 13, 14, 15, 16, 17] ++ [42]) rfl
  have hD := hD.sub (ws' := cwL cs ad u1 u2 ++ mwL cs bd μ t9 ++ [ouL cs oc u3]) ([18, 19, 20, 21, 22, 23, 24, 25, 26, 27, 28, 29, 30, 31, 32, 33, 34, 35, 36, 37, 38, 39, 40, 41] ++ [0, 1, 2, 3, 4, 5, 6, 7, 8, 9, 10, 11, 12, 13, 14, 15, 16, 17] ++ [42]) (by decide) rfl
  refine lv_istore (lv' := [(5, .int (nI (thLim (xs (nI (i + 1)).toNatClampNeg) (xs (nI (i + 2)).toNatClampNeg) (xs (nI (i + 3)).toNatClampNeg)))), (4, .int (nI i)), (0, .ref b), (1, .ref (ad 0)), (2, .ref (bd 0)), (3, .ref oc)]) hx hb d_law_485 hl (by decide) rfl (fun ls hl => ?_)
  refine lv_aload_n hx hb d_law_487 rfl (lv_at hl 4 rfl) ?_
  refine lv_aload_n hx hb d_law_488 rfl (lv_at hl 2 rfl) ?_
  refine lv_iload hx hb d_law_489 (lv_at hl 1 rfl) ?_
  refine lv_iconst (v := nI 1) hx hb d_law_491 (by decide) ?_
  refine rr_iadd (a := i) (b := 1) hx hb d_law_492 ?_
  refine va_sld hx hb hX hbl hbA hS (vp_in_nI (by omega) (by omega)) d_law_493 ?_
  refine lv_aload_n hx hb d_law_494 rfl (lv_at hl 2 rfl) ?_
  refine lv_iload hx hb d_law_495 (lv_at hl 1 rfl) ?_
  refine lv_iconst (v := nI 2) hx hb d_law_497 (by decide) ?_
  refine rr_iadd (a := i) (b := 2) hx hb d_law_498 ?_
  refine va_sld hx hb hX hbl hbA hS (vp_in_nI (by omega) (by omega)) d_law_499 ?_
  refine lv_aload_n hx hb d_law_500 rfl (lv_at hl 2 rfl) ?_
  refine lv_iload hx hb d_law_501 (lv_at hl 1 rfl) ?_
  refine lv_iconst (v := nI 3) hx hb d_law_503 (by decide) ?_
  refine rr_iadd (a := i) (b := 3) hx hb d_law_504 ?_
  refine va_sld hx hb hX hbl hbA hS (vp_in_nI (by omega) (by omega)) d_law_505 ?_
  refine rr_mVi (As := [.int (xs (nI (i + 1)).toNatClampNeg), .int (xs (nI (i + 2)).toNatClampNeg), .int (xs (nI (i + 3)).toNatClampNeg)]) (rest := []) (idx := 109) (q0 := 24) (ci := 6) (wr := cwL cs ad u1 u2 ++ [ouL cs oc u3]) S hK hP hD hS hA (c_M_setLimits l D cs bd μ t9 (xs (nI (i + 1)).toNatClampNeg) (xs (nI (i + 2)).toNatClampNeg) (xs (nI (i + 3)).toNatClampNeg) hM  H.size) k_M_setLimits [24, 25, 26, 27, 28, 29, 30, 31, 32, 33, 34, 35, 36, 37, 38, 39, 40, 41] ([0, 1, 2, 3, 4, 5, 6, 7, 8, 9, 10, 11, 12, 13, 14, 15, 16, 17, 18, 19, 20, 21, 22, 23] ++ [42]) rfl (by decide) rfl (by decide) (by decide) rfl rfl rfl q_712 ⟨Nat.le_of_ble_eq_true rfl, Nat.le_of_ble_eq_true rfl⟩ hcl hl (Nat.le_of_ble_eq_true rfl) rfl d_law_506 (fun r9 u9 H locs hp9 hP hD hS => ?_)
  rcases hp with ⟨h0, e1, e2, e3⟩ | ⟨h0, e1⟩
  · have e1 := e1.symm
    have e2 := e2.symm
    subst e1
    subst e2
    rcases hp9 with ⟨-, e4, e5⟩ | ⟨z, -⟩
    · have e4 := e4.symm
      subst e4
      subst e5
      have hP := hP.sub (ws' := lwW cs ad bd oc (muLim μ (ix 7 (xs (nI (i + 1)).toNatClampNeg)) (ix 151 (xs (nI (i + 2)).toNatClampNeg)) (ix 151 (xs (nI (i + 3)).toNatClampNeg))) ρ (thLim (xs (nI (i + 1)).toNatClampNeg) (xs (nI (i + 2)).toNatClampNeg) (xs (nI (i + 3)).toNatClampNeg)) u3) ([0, 1, 2, 3, 4, 5, 6, 7, 8, 9, 10, 11, 12, 13, 14, 15, 16, 17, 18, 19, 20, 21, 22, 23] ++ [25, 26, 27, 28, 29, 30, 31, 32, 33, 34, 35, 36, 37, 38, 39, 40, 41, 42] ++ [24]) rfl
      have hD := hD.sub (ws' := lwW cs ad bd oc (muLim μ (ix 7 (xs (nI (i + 1)).toNatClampNeg)) (ix 151 (xs (nI (i + 2)).toNatClampNeg)) (ix 151 (xs (nI (i + 3)).toNatClampNeg))) ρ (thLim (xs (nI (i + 1)).toNatClampNeg) (xs (nI (i + 2)).toNatClampNeg) (xs (nI (i + 3)).toNatClampNeg)) u3) ([0, 1, 2, 3, 4, 5, 6, 7, 8, 9, 10, 11, 12, 13, 14, 15, 16, 17, 18, 19, 20, 21, 22, 23] ++ [25, 26, 27, 28, 29, 30, 31, 32, 33, 34, 35, 36, 37, 38, 39, 40, 41, 42] ++ [24]) (by decide) rfl
      exact lw_tail C1 (t := 509) hcl G (IM_lim hM (by unfold thLim at h0; repeat (first | omega | split at h0)) (by unfold thLim at h0; repeat (first | omega | split at h0))) (IC_lim hC _ _ _) (thLim_le (xs (nI (i + 1)).toNatClampNeg) (xs (nI (i + 2)).toNatClampNeg) (xs (nI (i + 3)).toNatClampNeg)) (fun _ => e3) d_law_509 d_law_511 d_law_512 d_law_515 d_law_517 d_law_522 d_law_524 d_law_527 d_law_528 d_law_529 d_law_530 d_law_532 d_law_533 d_law_534 d_law_539 (by decide) hP hD hS hl
    · exact absurd h0 z
  · have e2 : μ = u1 := (congrArg (fun z => z.1) e1).symm
    have e3 : ρ = u2 := (congrArg (fun z => z.2.1) e1).symm
    have e4 : f = u3 := (congrArg (fun z => z.2.2) e1).symm
    subst e2
    subst e3
    subst e4
    rcases hp9 with ⟨z, -⟩ | ⟨-, e5⟩
    · exact absurd z h0
    · have e5 := e5.symm
      subst e5
      have hP := hP.sub (ws' := lwW cs ad bd oc μ ρ (thLim (xs (nI (i + 1)).toNatClampNeg) (xs (nI (i + 2)).toNatClampNeg) (xs (nI (i + 3)).toNatClampNeg)) f) ([0, 1, 2, 3, 4, 5, 6, 7, 8, 9, 10, 11, 12, 13, 14, 15, 16, 17, 18, 19, 20, 21, 22, 23] ++ [25, 26, 27, 28, 29, 30, 31, 32, 33, 34, 35, 36, 37, 38, 39, 40, 41, 42] ++ [24]) rfl
      have hD := hD.sub (ws' := lwW cs ad bd oc μ ρ (thLim (xs (nI (i + 1)).toNatClampNeg) (xs (nI (i + 2)).toNatClampNeg) (xs (nI (i + 3)).toNatClampNeg)) f) ([0, 1, 2, 3, 4, 5, 6, 7, 8, 9, 10, 11, 12, 13, 14, 15, 16, 17, 18, 19, 20, 21, 22, 23] ++ [25, 26, 27, 28, 29, 30, 31, 32, 33, 34, 35, 36, 37, 38, 39, 40, 41, 42] ++ [24]) (by decide) rfl
      exact lw_tail C1 (t := 509) hcl G hM hC (thLim_le (xs (nI (i + 1)).toNatClampNeg) (xs (nI (i + 2)).toNatClampNeg) (xs (nI (i + 3)).toNatClampNeg)) (fun z => absurd z h0) d_law_509 d_law_511 d_law_512 d_law_515 d_law_517 d_law_522 d_law_524 d_law_527 d_law_528 d_law_529 d_law_530 d_law_532 d_law_533 d_law_534 d_law_539 (by decide) hP hD hS hl
set_option maxHeartbeats 4000000 in
set_option maxRecDepth 100000 in
theorem lk_8 {p : Program} {l : Launch} {e : Env} {s : State} {m : MethodId} {below : List Frame} {meth : Method} {c : Code} {b L : Nat} {xs : Nat → Int32} {D : va_G} {cs : rr_C3} {ad bd : Nat → Nat} {oc i cells slots : Nat} {μ ρ : NS} {t9 : Nat} {f : Nat → Int64} {H : Heap} {locs : List Loc} {ls : Array Slot} (C1 : lwC p l s m meth c b L xs D cs) (hcl : cells + 1 ≤ 1090 ∧ slots + 6 ≤ 11478) (hi : i + 4 ≤ L) (G : lwGo p l e s m below meth c b D cs ad bd oc i (cells + 1) (slots + 6)) (h : lwS s b D cs ad bd oc i μ ρ t9 f H locs ls) : W p l e room_1 s m #[Value.ref b] below meth c H locs cells slots (lw_Z below #[Value.ref b] s) (F0 m 542 ls []) := by
  obtain ⟨S, hr, hlk, hfl, hL, hX, hbl, hK, hY, hX9, hZ⟩ := id C1
  obtain ⟨hM, hC, hP, hD, hS, hl⟩ := h
  obtain ⟨hx, hb, hml, hown, ht⟩ := id S
  have hA : ∀ q : Nat, s.heap.size ≤ q → lwA s q := fun _ h => h
  have hbA : ¬ lwA s b := Nat.not_le.mpr hbl
  refine lv_aload_n hx hb d_law_542 rfl (lv_at hl 2 rfl) ?_
  refine lv_aload_n hx hb d_law_543 rfl (lv_at hl 1 rfl) ?_
  refine lv_iload hx hb d_law_544 (lv_at hl 0 rfl) ?_
  refine lv_iconst (v := nI 1) hx hb d_law_546 (by decide) ?_
  refine rr_iadd (a := i) (b := 1) hx hb d_law_547 ?_
  refine va_sld hx hb hX hbl hbA hS (vp_in_nI (by omega) (by omega)) d_law_548 ?_
  refine lv_aload_n hx hb d_law_549 rfl (lv_at hl 1 rfl) ?_
  refine lv_iload hx hb d_law_550 (lv_at hl 0 rfl) ?_
  refine lv_iconst (v := nI 2) hx hb d_law_552 (by decide) ?_
  refine rr_iadd (a := i) (b := 2) hx hb d_law_553 ?_
  refine va_sld hx hb hX hbl hbA hS (vp_in_nI (by omega) (by omega)) d_law_554 ?_
  refine lv_if_eq (tgt := 562) hx hb d_law_555 (by decide) (fun c555 => ?_) (fun c555 => ?_)
  · skip
    refine lv_iconst (v := nI 0) hx hb d_law_562 (by decide) ?_
    refine lv_aload_n hx hb d_law_563 rfl (lv_at hl 4 rfl) ?_
    refine rr_wS (As := [.ref (ad 0), .int (xs (nI (i + 1)).toNatClampNeg), .int (nI 0), .ref oc]) (rest := []) (idx := 110) (wr := mwL cs bd μ t9) S hK hY hX9 hZ hP hD hS hA (c_A_cut l D cs ad oc μ ρ f (xs (nI (i + 1)).toNatClampNeg) 0 hM hC (by decide) hfl H.size) k_A_cut ([0, 1, 2, 3, 4, 5, 6, 7, 8, 9, 10, 11, 12, 13, 14, 15, 16, 17, 18, 19, 20, 21, 22, 23] ++ [42]) [24, 25, 26, 27, 28, 29, 30, 31, 32, 33, 34, 35, 36, 37, 38, 39, 40, 41] rfl (by decide) rfl (by decide) (by decide) q_417 ⟨Nat.le_of_ble_eq_true rfl, Nat.le_of_ble_eq_true rfl⟩ hcl hl (Nat.le_of_ble_eq_true rfl) rfl d_law_564 (fun r u H locs hp hP hD hS => ?_)
    obtain ⟨u1, u2, u3⟩ := u
    obtain ⟨rfl, hp⟩ := hp
    dsimp only at hp
    have hP := hP.sub (ws' := cwL cs ad u1 u2 ++ mwL cs bd μ t9 ++ [ouL cs oc u3]) ([18, 19, 20, 21, 22, 23, 24, 25, 26, 27, 28, 29, 30, 31, 32, 33, 34, 35, 36, 37, 38, 39, 40, 41] ++ [0, 1, 2, 3, 4, 5, 6, 7, 8, 9, 10, 11, 12, 13, 14, 15, 16, 17] ++ [42]) rfl
    have hD := hD.sub (ws' := cwL cs ad u1 u2 ++ mwL cs bd μ t9 ++ [ouL cs oc u3]) ([18, 19, 20, 21, 22, 23, 24, 25, 26, 27, 28, 29, 30, 31, 32, 33, 34, 35, 36, 37, 38, 39, 40, 41] ++ [0, 1, 2, 3, 4, 5, 6, 7, 8, 9, 10, 11, 12, 13, 14, 15, 16, 17] ++ [42]) (by decide) rfl
    refine lv_istore (lv' := [(5, .int (nI (thTow (xs (nI (i + 1)).toNatClampNeg)))), (4, .int (nI i)), (0, .ref b), (1, .ref (ad 0)), (2, .ref (bd 0)), (3, .ref oc)]) hx hb d_law_567 hl (by decide) rfl (fun ls hl => ?_)
    refine lv_aload_n hx hb d_law_569 rfl (lv_at hl 4 rfl) ?_
    refine lv_aload_n hx hb d_law_570 rfl (lv_at hl 2 rfl) ?_
    refine lv_iload hx hb d_law_571 (lv_at hl 1 rfl) ?_
    refine lv_iconst (v := nI 1) hx hb d_law_573 (by decide) ?_
    refine rr_iadd (a := i) (b := 1) hx hb d_law_574 ?_
    refine va_sld hx hb hX hbl hbA hS (vp_in_nI (by omega) (by omega)) d_law_575 ?_
    refine lv_aload_n hx hb d_law_576 rfl (lv_at hl 2 rfl) ?_
    refine lv_iload hx hb d_law_577 (lv_at hl 1 rfl) ?_
    refine lv_iconst (v := nI 2) hx hb d_law_579 (by decide) ?_
    refine rr_iadd (a := i) (b := 2) hx hb d_law_580 ?_
    refine va_sld hx hb hX hbl hbA hS (vp_in_nI (by omega) (by omega)) d_law_581 ?_
    refine lv_if_eq (tgt := 589) hx hb d_law_582 (by decide) (fun _ => ?_) (fun z => absurd c555 z)
    refine lv_iconst (v := nI 0) hx hb d_law_589 (by decide) ?_
    refine rr_mVi (As := [.int (xs (nI (i + 1)).toNatClampNeg), .int (nI 0)]) (rest := []) (idx := 113) (q0 := 24) (ci := 6) (wr := cwL cs ad u1 u2 ++ [ouL cs oc u3]) S hK hP hD hS hA (c_M_cut l D cs bd μ t9 (xs (nI (i + 1)).toNatClampNeg) 0 hM (by decide) H.size) k_M_cut [24, 25, 26, 27, 28, 29, 30, 31, 32, 33, 34, 35, 36, 37, 38, 39, 40, 41] ([0, 1, 2, 3, 4, 5, 6, 7, 8, 9, 10, 11, 12, 13, 14, 15, 16, 17, 18, 19, 20, 21, 22, 23] ++ [42]) rfl (by decide) rfl (by decide) (by decide) rfl rfl rfl q_716 ⟨Nat.le_of_ble_eq_true rfl, Nat.le_of_ble_eq_true rfl⟩ hcl hl (Nat.le_of_ble_eq_true rfl) rfl d_law_590 (fun r9 u9 H locs hp9 hP hD hS => ?_)
    rcases hp with ⟨h0, e1, e2, e3⟩ | ⟨h0, e1⟩
    · have e1 := e1.symm
      have e2 := e2.symm
      subst e1
      subst e2
      rcases hp9 with ⟨-, e4, e5⟩ | ⟨z, -⟩
      · have e4 := e4.symm
        subst e4
        subst e5
        have hP := hP.sub (ws' := lwW cs ad bd oc (muCut μ (ix 7 (xs (nI (i + 1)).toNatClampNeg)) 0) ρ (thTow (xs (nI (i + 1)).toNatClampNeg)) u3) ([0, 1, 2, 3, 4, 5, 6, 7, 8, 9, 10, 11, 12, 13, 14, 15, 16, 17, 18, 19, 20, 21, 22, 23] ++ [25, 26, 27, 28, 29, 30, 31, 32, 33, 34, 35, 36, 37, 38, 39, 40, 41, 42] ++ [24]) rfl
        have hD := hD.sub (ws' := lwW cs ad bd oc (muCut μ (ix 7 (xs (nI (i + 1)).toNatClampNeg)) 0) ρ (thTow (xs (nI (i + 1)).toNatClampNeg)) u3) ([0, 1, 2, 3, 4, 5, 6, 7, 8, 9, 10, 11, 12, 13, 14, 15, 16, 17, 18, 19, 20, 21, 22, 23] ++ [25, 26, 27, 28, 29, 30, 31, 32, 33, 34, 35, 36, 37, 38, 39, 40, 41, 42] ++ [24]) (by decide) rfl
        exact lw_tail C1 (t := 593) hcl G (IM_cut hM (by decide)) (IC_cut hC _ _) (thTow_le (xs (nI (i + 1)).toNatClampNeg)) (fun _ => e3) d_law_593 d_law_595 d_law_596 d_law_599 d_law_601 d_law_606 d_law_608 d_law_611 d_law_612 d_law_613 d_law_614 d_law_616 d_law_617 d_law_618 d_law_623 (by decide) hP hD hS hl
      · exact absurd h0 z
    · have e2 : μ = u1 := (congrArg (fun z => z.1) e1).symm
      have e3 : ρ = u2 := (congrArg (fun z => z.2.1) e1).symm
      have e4 : f = u3 := (congrArg (fun z => z.2.2) e1).symm
      subst e2
      subst e3
      subst e4
      rcases hp9 with ⟨z, -⟩ | ⟨-, e5⟩
      · exact absurd z h0
      · have e5 := e5.symm
        subst e5
        have hP := hP.sub (ws' := lwW cs ad bd oc μ ρ (thTow (xs (nI (i + 1)).toNatClampNeg)) f) ([0, 1, 2, 3, 4, 5, 6, 7, 8, 9, 10, 11, 12, 13, 14, 15, 16, 17, 18, 19, 20, 21, 22, 23] ++ [25, 26, 27, 28, 29, 30, 31, 32, 33, 34, 35, 36, 37, 38, 39, 40, 41, 42] ++ [24]) rfl
        have hD := hD.sub (ws' := lwW cs ad bd oc μ ρ (thTow (xs (nI (i + 1)).toNatClampNeg)) f) ([0, 1, 2, 3, 4, 5, 6, 7, 8, 9, 10, 11, 12, 13, 14, 15, 16, 17, 18, 19, 20, 21, 22, 23] ++ [25, 26, 27, 28, 29, 30, 31, 32, 33, 34, 35, 36, 37, 38, 39, 40, 41, 42] ++ [24]) (by decide) rfl
        exact lw_tail C1 (t := 593) hcl G hM hC (thTow_le (xs (nI (i + 1)).toNatClampNeg)) (fun z => absurd z h0) d_law_593 d_law_595 d_law_596 d_law_599 d_law_601 d_law_606 d_law_608 d_law_611 d_law_612 d_law_613 d_law_614 d_law_616 d_law_617 d_law_618 d_law_623 (by decide) hP hD hS hl
  · skip
    refine lv_iconst (v := nI 1) hx hb d_law_558 (by decide) ?_
    refine lv_goto (tgt := 563) hx hb d_law_559 (by decide) ?_
    refine lv_aload_n hx hb d_law_563 rfl (lv_at hl 4 rfl) ?_
    refine rr_wS (As := [.ref (ad 0), .int (xs (nI (i + 1)).toNatClampNeg), .int (nI 1), .ref oc]) (rest := []) (idx := 110) (wr := mwL cs bd μ t9) S hK hY hX9 hZ hP hD hS hA (c_A_cut l D cs ad oc μ ρ f (xs (nI (i + 1)).toNatClampNeg) 1 hM hC (by decide) hfl H.size) k_A_cut ([0, 1, 2, 3, 4, 5, 6, 7, 8, 9, 10, 11, 12, 13, 14, 15, 16, 17, 18, 19, 20, 21, 22, 23] ++ [42]) [24, 25, 26, 27, 28, 29, 30, 31, 32, 33, 34, 35, 36, 37, 38, 39, 40, 41] rfl (by decide) rfl (by decide) (by decide) q_417 ⟨Nat.le_of_ble_eq_true rfl, Nat.le_of_ble_eq_true rfl⟩ hcl hl (Nat.le_of_ble_eq_true rfl) rfl d_law_564 (fun r u H locs hp hP hD hS => ?_)
    obtain ⟨u1, u2, u3⟩ := u
    obtain ⟨rfl, hp⟩ := hp
    dsimp only at hp
    have hP := hP.sub (ws' := cwL cs ad u1 u2 ++ mwL cs bd μ t9 ++ [ouL cs oc u3]) ([18, 19, 20, 21, 22, 23, 24, 25, 26, 27, 28, 29, 30, 31, 32, 33, 34, 35, 36, 37, 38, 39, 40, 41] ++ [0, 1, 2, 3, 4, 5, 6, 7, 8, 9, 10, 11, 12, 13, 14, 15, 16, 17] ++ [42]) rfl
    have hD := hD.sub (ws' := cwL cs ad u1 u2 ++ mwL cs bd μ t9 ++ [ouL cs oc u3]) ([18, 19, 20, 21, 22, 23, 24, 25, 26, 27, 28, 29, 30, 31, 32, 33, 34, 35, 36, 37, 38, 39, 40, 41] ++ [0, 1, 2, 3, 4, 5, 6, 7, 8, 9, 10, 11, 12, 13, 14, 15, 16, 17] ++ [42]) (by decide) rfl
    refine lv_istore (lv' := [(5, .int (nI (thTow (xs (nI (i + 1)).toNatClampNeg)))), (4, .int (nI i)), (0, .ref b), (1, .ref (ad 0)), (2, .ref (bd 0)), (3, .ref oc)]) hx hb d_law_567 hl (by decide) rfl (fun ls hl => ?_)
    refine lv_aload_n hx hb d_law_569 rfl (lv_at hl 4 rfl) ?_
    refine lv_aload_n hx hb d_law_570 rfl (lv_at hl 2 rfl) ?_
    refine lv_iload hx hb d_law_571 (lv_at hl 1 rfl) ?_
    refine lv_iconst (v := nI 1) hx hb d_law_573 (by decide) ?_
    refine rr_iadd (a := i) (b := 1) hx hb d_law_574 ?_
    refine va_sld hx hb hX hbl hbA hS (vp_in_nI (by omega) (by omega)) d_law_575 ?_
    refine lv_aload_n hx hb d_law_576 rfl (lv_at hl 2 rfl) ?_
    refine lv_iload hx hb d_law_577 (lv_at hl 1 rfl) ?_
    refine lv_iconst (v := nI 2) hx hb d_law_579 (by decide) ?_
    refine rr_iadd (a := i) (b := 2) hx hb d_law_580 ?_
    refine va_sld hx hb hX hbl hbA hS (vp_in_nI (by omega) (by omega)) d_law_581 ?_
    refine lv_if_eq (tgt := 589) hx hb d_law_582 (by decide) (fun z => absurd z c555) (fun _ => ?_)
    refine lv_iconst (v := nI 1) hx hb d_law_585 (by decide) ?_
    refine lv_goto (tgt := 590) hx hb d_law_586 (by decide) ?_
    refine rr_mVi (As := [.int (xs (nI (i + 1)).toNatClampNeg), .int (nI 1)]) (rest := []) (idx := 113) (q0 := 24) (ci := 6) (wr := cwL cs ad u1 u2 ++ [ouL cs oc u3]) S hK hP hD hS hA (c_M_cut l D cs bd μ t9 (xs (nI (i + 1)).toNatClampNeg) 1 hM (by decide) H.size) k_M_cut [24, 25, 26, 27, 28, 29, 30, 31, 32, 33, 34, 35, 36, 37, 38, 39, 40, 41] ([0, 1, 2, 3, 4, 5, 6, 7, 8, 9, 10, 11, 12, 13, 14, 15, 16, 17, 18, 19, 20, 21, 22, 23] ++ [42]) rfl (by decide) rfl (by decide) (by decide) rfl rfl rfl q_716 ⟨Nat.le_of_ble_eq_true rfl, Nat.le_of_ble_eq_true rfl⟩ hcl hl (Nat.le_of_ble_eq_true rfl) rfl d_law_590 (fun r9 u9 H locs hp9 hP hD hS => ?_)
    rcases hp with ⟨h0, e1, e2, e3⟩ | ⟨h0, e1⟩
    · have e1 := e1.symm
      have e2 := e2.symm
      subst e1
      subst e2
      rcases hp9 with ⟨-, e4, e5⟩ | ⟨z, -⟩
      · have e4 := e4.symm
        subst e4
        subst e5
        have hP := hP.sub (ws' := lwW cs ad bd oc (muCut μ (ix 7 (xs (nI (i + 1)).toNatClampNeg)) 1) ρ (thTow (xs (nI (i + 1)).toNatClampNeg)) u3) ([0, 1, 2, 3, 4, 5, 6, 7, 8, 9, 10, 11, 12, 13, 14, 15, 16, 17, 18, 19, 20, 21, 22, 23] ++ [25, 26, 27, 28, 29, 30, 31, 32, 33, 34, 35, 36, 37, 38, 39, 40, 41, 42] ++ [24]) rfl
        have hD := hD.sub (ws' := lwW cs ad bd oc (muCut μ (ix 7 (xs (nI (i + 1)).toNatClampNeg)) 1) ρ (thTow (xs (nI (i + 1)).toNatClampNeg)) u3) ([0, 1, 2, 3, 4, 5, 6, 7, 8, 9, 10, 11, 12, 13, 14, 15, 16, 17, 18, 19, 20, 21, 22, 23] ++ [25, 26, 27, 28, 29, 30, 31, 32, 33, 34, 35, 36, 37, 38, 39, 40, 41, 42] ++ [24]) (by decide) rfl
        exact lw_tail C1 (t := 593) hcl G (IM_cut hM (by decide)) (IC_cut hC _ _) (thTow_le (xs (nI (i + 1)).toNatClampNeg)) (fun _ => e3) d_law_593 d_law_595 d_law_596 d_law_599 d_law_601 d_law_606 d_law_608 d_law_611 d_law_612 d_law_613 d_law_614 d_law_616 d_law_617 d_law_618 d_law_623 (by decide) hP hD hS hl
      · exact absurd h0 z
    · have e2 : μ = u1 := (congrArg (fun z => z.1) e1).symm
      have e3 : ρ = u2 := (congrArg (fun z => z.2.1) e1).symm
      have e4 : f = u3 := (congrArg (fun z => z.2.2) e1).symm
      subst e2
      subst e3
      subst e4
      rcases hp9 with ⟨z, -⟩ | ⟨-, e5⟩
      · exact absurd z h0
      · have e5 := e5.symm
        subst e5
        have hP := hP.sub (ws' := lwW cs ad bd oc μ ρ (thTow (xs (nI (i + 1)).toNatClampNeg)) f) ([0, 1, 2, 3, 4, 5, 6, 7, 8, 9, 10, 11, 12, 13, 14, 15, 16, 17, 18, 19, 20, 21, 22, 23] ++ [25, 26, 27, 28, 29, 30, 31, 32, 33, 34, 35, 36, 37, 38, 39, 40, 41, 42] ++ [24]) rfl
        have hD := hD.sub (ws' := lwW cs ad bd oc μ ρ (thTow (xs (nI (i + 1)).toNatClampNeg)) f) ([0, 1, 2, 3, 4, 5, 6, 7, 8, 9, 10, 11, 12, 13, 14, 15, 16, 17, 18, 19, 20, 21, 22, 23] ++ [25, 26, 27, 28, 29, 30, 31, 32, 33, 34, 35, 36, 37, 38, 39, 40, 41, 42] ++ [24]) (by decide) rfl
        exact lw_tail C1 (t := 593) hcl G hM hC (thTow_le (xs (nI (i + 1)).toNatClampNeg)) (fun z => absurd z h0) d_law_593 d_law_595 d_law_596 d_law_599 d_law_601 d_law_606 d_law_608 d_law_611 d_law_612 d_law_613 d_law_614 d_law_616 d_law_617 d_law_618 d_law_623 (by decide) hP hD hS hl
set_option maxHeartbeats 4000000 in
set_option maxRecDepth 100000 in
theorem lk_9 {p : Program} {l : Launch} {e : Env} {s : State} {m : MethodId} {below : List Frame} {meth : Method} {c : Code} {b L : Nat} {xs : Nat → Int32} {D : va_G} {cs : rr_C3} {ad bd : Nat → Nat} {oc i cells slots : Nat} {μ ρ : NS} {t9 : Nat} {f : Nat → Int64} {H : Heap} {locs : List Loc} {ls : Array Slot} (C1 : lwC p l s m meth c b L xs D cs) (hcl : cells + 1 ≤ 1090 ∧ slots + 6 ≤ 11478) (hi : i + 4 ≤ L) (G : lwGo p l e s m below meth c b D cs ad bd oc i (cells + 1) (slots + 6)) (h : lwS s b D cs ad bd oc i μ ρ t9 f H locs ls) : W p l e room_1 s m #[Value.ref b] below meth c H locs cells slots (lw_Z below #[Value.ref b] s) (F0 m 626 ls []) := by
  obtain ⟨S, hr, hlk, hfl, hL, hX, hbl, hK, hY, hX9, hZ⟩ := id C1
  obtain ⟨hM, hC, hP, hD, hS, hl⟩ := h
  obtain ⟨hx, hb, hml, hown, ht⟩ := id S
  have hA : ∀ q : Nat, s.heap.size ≤ q → lwA s q := fun _ h => h
  have hbA : ¬ lwA s b := Nat.not_le.mpr hbl
  refine lv_aload_n hx hb d_law_626 rfl (lv_at hl 2 rfl) ?_
  refine lv_aload_n hx hb d_law_627 rfl (lv_at hl 1 rfl) ?_
  refine lv_iload hx hb d_law_628 (lv_at hl 0 rfl) ?_
  refine lv_iconst (v := nI 1) hx hb d_law_630 (by decide) ?_
  refine rr_iadd (a := i) (b := 1) hx hb d_law_631 ?_
  refine va_sld hx hb hX hbl hbA hS (vp_in_nI (by omega) (by omega)) d_law_632 ?_
  refine lv_aload_n hx hb d_law_633 rfl (lv_at hl 4 rfl) ?_
  refine rr_wS (As := [.ref (ad 0), .int (xs (nI (i + 1)).toNatClampNeg), .ref oc]) (rest := []) (idx := 114) (wr := mwL cs bd μ t9) S hK hY hX9 hZ hP hD hS hA (c_A_vote l D cs ad oc μ ρ f (xs (nI (i + 1)).toNatClampNeg) hM hC  hfl H.size) k_A_vote ([0, 1, 2, 3, 4, 5, 6, 7, 8, 9, 10, 11, 12, 13, 14, 15, 16, 17, 18, 19, 20, 21, 22, 23] ++ [42]) [24, 25, 26, 27, 28, 29, 30, 31, 32, 33, 34, 35, 36, 37, 38, 39, 40, 41] rfl (by decide) rfl (by decide) (by decide) q_428 ⟨Nat.le_of_ble_eq_true rfl, Nat.le_of_ble_eq_true rfl⟩ hcl hl (Nat.le_of_ble_eq_true rfl) rfl d_law_634 (fun r u H locs hp hP hD hS => ?_)
  obtain ⟨u1, u2, u3⟩ := u
  obtain ⟨rfl, hp⟩ := hp
  dsimp only at hp
  have hP := hP.sub (ws' := cwL cs ad u1 u2 ++ mwL cs bd μ t9 ++ [ouL cs oc u3]) ([18, 19, 20, 21, 22, 23, 24, 25, 26, 27, 28, 29, 30, 31, 32, 33, 34, 35, 36, 37, 38, 39, 40, 41] ++ [0, 1, 2, 3, 4, 5, 6, 7, 8, 9, 10, 11, 12, 13, 14, 15, 16, 17] ++ [42]) rfl
  have hD := hD.sub (ws' := cwL cs ad u1 u2 ++ mwL cs bd μ t9 ++ [ouL cs oc u3]) ([18, 19, 20, 21, 22, 23, 24, 25, 26, 27, 28, 29, 30, 31, 32, 33, 34, 35, 36, 37, 38, 39, 40, 41] ++ [0, 1, 2, 3, 4, 5, 6, 7, 8, 9, 10, 11, 12, 13, 14, 15, 16, 17] ++ [42]) (by decide) rfl
  refine lv_istore (lv' := [(5, .int (nI (thTow (xs (nI (i + 1)).toNatClampNeg)))), (4, .int (nI i)), (0, .ref b), (1, .ref (ad 0)), (2, .ref (bd 0)), (3, .ref oc)]) hx hb d_law_637 hl (by decide) rfl (fun ls hl => ?_)
  refine lv_aload_n hx hb d_law_639 rfl (lv_at hl 4 rfl) ?_
  refine lv_aload_n hx hb d_law_640 rfl (lv_at hl 2 rfl) ?_
  refine lv_iload hx hb d_law_641 (lv_at hl 1 rfl) ?_
  refine lv_iconst (v := nI 1) hx hb d_law_643 (by decide) ?_
  refine rr_iadd (a := i) (b := 1) hx hb d_law_644 ?_
  refine va_sld hx hb hX hbl hbA hS (vp_in_nI (by omega) (by omega)) d_law_645 ?_
  refine rr_mVi (As := [.int (xs (nI (i + 1)).toNatClampNeg)]) (rest := []) (idx := 116) (q0 := 24) (ci := 6) (wr := cwL cs ad u1 u2 ++ [ouL cs oc u3]) S hK hP hD hS hA (c_M_vote l D cs bd μ t9 (xs (nI (i + 1)).toNatClampNeg) hM  H.size) k_M_vote [24, 25, 26, 27, 28, 29, 30, 31, 32, 33, 34, 35, 36, 37, 38, 39, 40, 41] ([0, 1, 2, 3, 4, 5, 6, 7, 8, 9, 10, 11, 12, 13, 14, 15, 16, 17, 18, 19, 20, 21, 22, 23] ++ [42]) rfl (by decide) rfl (by decide) (by decide) rfl rfl rfl q_720 ⟨Nat.le_of_ble_eq_true rfl, Nat.le_of_ble_eq_true rfl⟩ hcl hl (Nat.le_of_ble_eq_true rfl) rfl d_law_646 (fun r9 u9 H locs hp9 hP hD hS => ?_)
  rcases hp with ⟨h0, e1, e2, e3⟩ | ⟨h0, e1⟩
  · have e1 := e1.symm
    have e2 := e2.symm
    subst e1
    subst e2
    rcases hp9 with ⟨-, e5⟩ | z
    · subst e5
      have hP := hP.sub (ws' := lwW cs ad bd oc μ ρ (thTow (xs (nI (i + 1)).toNatClampNeg)) u3) ([0, 1, 2, 3, 4, 5, 6, 7, 8, 9, 10, 11, 12, 13, 14, 15, 16, 17, 18, 19, 20, 21, 22, 23] ++ [25, 26, 27, 28, 29, 30, 31, 32, 33, 34, 35, 36, 37, 38, 39, 40, 41, 42] ++ [24]) rfl
      have hD := hD.sub (ws' := lwW cs ad bd oc μ ρ (thTow (xs (nI (i + 1)).toNatClampNeg)) u3) ([0, 1, 2, 3, 4, 5, 6, 7, 8, 9, 10, 11, 12, 13, 14, 15, 16, 17, 18, 19, 20, 21, 22, 23] ++ [25, 26, 27, 28, 29, 30, 31, 32, 33, 34, 35, 36, 37, 38, 39, 40, 41, 42] ++ [24]) (by decide) rfl
      exact lw_tail C1 (t := 649) hcl G hM hC (thTow_le (xs (nI (i + 1)).toNatClampNeg)) (fun _ => e3) d_law_649 d_law_651 d_law_652 d_law_655 d_law_657 d_law_662 d_law_664 d_law_667 d_law_668 d_law_669 d_law_670 d_law_672 d_law_673 d_law_674 d_law_679 (by decide) hP hD hS hl
    · exact absurd h0 z
  · have e2 : μ = u1 := (congrArg (fun z => z.1) e1).symm
    have e3 : ρ = u2 := (congrArg (fun z => z.2.1) e1).symm
    have e4 : f = u3 := (congrArg (fun z => z.2.2) e1).symm
    subst e2
    subst e3
    subst e4
    have hP := hP.sub (ws' := lwW cs ad bd oc μ ρ (thTow (xs (nI (i + 1)).toNatClampNeg)) f) ([0, 1, 2, 3, 4, 5, 6, 7, 8, 9, 10, 11, 12, 13, 14, 15, 16, 17, 18, 19, 20, 21, 22, 23] ++ [25, 26, 27, 28, 29, 30, 31, 32, 33, 34, 35, 36, 37, 38, 39, 40, 41, 42] ++ [24]) rfl
    have hD := hD.sub (ws' := lwW cs ad bd oc μ ρ (thTow (xs (nI (i + 1)).toNatClampNeg)) f) ([0, 1, 2, 3, 4, 5, 6, 7, 8, 9, 10, 11, 12, 13, 14, 15, 16, 17, 18, 19, 20, 21, 22, 23] ++ [25, 26, 27, 28, 29, 30, 31, 32, 33, 34, 35, 36, 37, 38, 39, 40, 41, 42] ++ [24]) (by decide) rfl
    exact lw_tail C1 (t := 649) hcl G hM hC (thTow_le (xs (nI (i + 1)).toNatClampNeg)) (fun z => absurd z h0) d_law_649 d_law_651 d_law_652 d_law_655 d_law_657 d_law_662 d_law_664 d_law_667 d_law_668 d_law_669 d_law_670 d_law_672 d_law_673 d_law_674 d_law_679 (by decide) hP hD hS hl
set_option maxHeartbeats 4000000 in
set_option maxRecDepth 100000 in
theorem lk_10 {p : Program} {l : Launch} {e : Env} {s : State} {m : MethodId} {below : List Frame} {meth : Method} {c : Code} {b L : Nat} {xs : Nat → Int32} {D : va_G} {cs : rr_C3} {ad bd : Nat → Nat} {oc i cells slots : Nat} {μ ρ : NS} {t9 : Nat} {f : Nat → Int64} {H : Heap} {locs : List Loc} {ls : Array Slot} (C1 : lwC p l s m meth c b L xs D cs) (hcl : cells + 1 ≤ 1090 ∧ slots + 6 ≤ 11478) (hi : i + 4 ≤ L) (G : lwGo p l e s m below meth c b D cs ad bd oc i (cells + 1) (slots + 6)) (h : lwS s b D cs ad bd oc i μ ρ t9 f H locs ls) : W p l e room_1 s m #[Value.ref b] below meth c H locs cells slots (lw_Z below #[Value.ref b] s) (F0 m 682 ls []) := by
  obtain ⟨S, hr, hlk, hfl, hL, hX, hbl, hK, hY, hX9, hZ⟩ := id C1
  obtain ⟨hM, hC, hP, hD, hS, hl⟩ := h
  obtain ⟨hx, hb, hml, hown, ht⟩ := id S
  have hA : ∀ q : Nat, s.heap.size ≤ q → lwA s q := fun _ h => h
  have hbA : ¬ lwA s b := Nat.not_le.mpr hbl
  refine lv_aload_n hx hb d_law_682 rfl (lv_at hl 2 rfl) ?_
  refine lv_aload_n hx hb d_law_683 rfl (lv_at hl 1 rfl) ?_
  refine lv_iload hx hb d_law_684 (lv_at hl 0 rfl) ?_
  refine lv_iconst (v := nI 1) hx hb d_law_686 (by decide) ?_
  refine rr_iadd (a := i) (b := 1) hx hb d_law_687 ?_
  refine va_sld hx hb hX hbl hbA hS (vp_in_nI (by omega) (by omega)) d_law_688 ?_
  refine lv_aload_n hx hb d_law_689 rfl (lv_at hl 4 rfl) ?_
  refine rr_wS (As := [.ref (ad 0), .int (xs (nI (i + 1)).toNatClampNeg), .ref oc]) (rest := []) (idx := 117) (wr := mwL cs bd μ t9) S hK hY hX9 hZ hP hD hS hA (c_A_voteTime l D cs ad oc μ ρ f (xs (nI (i + 1)).toNatClampNeg) hM hC  hfl H.size) k_A_voteTime ([0, 1, 2, 3, 4, 5, 6, 7, 8, 9, 10, 11, 12, 13, 14, 15, 16, 17, 18, 19, 20, 21, 22, 23] ++ [42]) [24, 25, 26, 27, 28, 29, 30, 31, 32, 33, 34, 35, 36, 37, 38, 39, 40, 41] rfl (by decide) rfl (by decide) (by decide) q_435 ⟨Nat.le_of_ble_eq_true rfl, Nat.le_of_ble_eq_true rfl⟩ hcl hl (Nat.le_of_ble_eq_true rfl) rfl d_law_690 (fun r u H locs hp hP hD hS => ?_)
  obtain ⟨u1, u2, u3⟩ := u
  obtain ⟨rfl, hp⟩ := hp
  dsimp only at hp
  have hP := hP.sub (ws' := cwL cs ad u1 u2 ++ mwL cs bd μ t9 ++ [ouL cs oc u3]) ([18, 19, 20, 21, 22, 23, 24, 25, 26, 27, 28, 29, 30, 31, 32, 33, 34, 35, 36, 37, 38, 39, 40, 41] ++ [0, 1, 2, 3, 4, 5, 6, 7, 8, 9, 10, 11, 12, 13, 14, 15, 16, 17] ++ [42]) rfl
  have hD := hD.sub (ws' := cwL cs ad u1 u2 ++ mwL cs bd μ t9 ++ [ouL cs oc u3]) ([18, 19, 20, 21, 22, 23, 24, 25, 26, 27, 28, 29, 30, 31, 32, 33, 34, 35, 36, 37, 38, 39, 40, 41] ++ [0, 1, 2, 3, 4, 5, 6, 7, 8, 9, 10, 11, 12, 13, 14, 15, 16, 17] ++ [42]) (by decide) rfl
  refine lv_istore (lv' := [(5, .int (nI (thTow (xs (nI (i + 1)).toNatClampNeg)))), (4, .int (nI i)), (0, .ref b), (1, .ref (ad 0)), (2, .ref (bd 0)), (3, .ref oc)]) hx hb d_law_693 hl (by decide) rfl (fun ls hl => ?_)
  refine lv_aload_n hx hb d_law_695 rfl (lv_at hl 4 rfl) ?_
  refine lv_aload_n hx hb d_law_696 rfl (lv_at hl 2 rfl) ?_
  refine lv_iload hx hb d_law_697 (lv_at hl 1 rfl) ?_
  refine lv_iconst (v := nI 1) hx hb d_law_699 (by decide) ?_
  refine rr_iadd (a := i) (b := 1) hx hb d_law_700 ?_
  refine va_sld hx hb hX hbl hbA hS (vp_in_nI (by omega) (by omega)) d_law_701 ?_
  refine rr_mVi (As := [.int (xs (nI (i + 1)).toNatClampNeg)]) (rest := []) (idx := 119) (q0 := 24) (ci := 6) (wr := cwL cs ad u1 u2 ++ [ouL cs oc u3]) S hK hP hD hS hA (c_M_voteTime l D cs bd μ t9 (xs (nI (i + 1)).toNatClampNeg) hM  H.size) k_M_voteTime [24, 25, 26, 27, 28, 29, 30, 31, 32, 33, 34, 35, 36, 37, 38, 39, 40, 41] ([0, 1, 2, 3, 4, 5, 6, 7, 8, 9, 10, 11, 12, 13, 14, 15, 16, 17, 18, 19, 20, 21, 22, 23] ++ [42]) rfl (by decide) rfl (by decide) (by decide) rfl rfl rfl q_724 ⟨Nat.le_of_ble_eq_true rfl, Nat.le_of_ble_eq_true rfl⟩ hcl hl (Nat.le_of_ble_eq_true rfl) rfl d_law_702 (fun r9 u9 H locs hp9 hP hD hS => ?_)
  rcases hp with ⟨h0, e1, e2, e3⟩ | ⟨h0, e1⟩
  · have e1 := e1.symm
    have e2 := e2.symm
    subst e1
    subst e2
    rcases hp9 with ⟨-, e5⟩ | z
    · subst e5
      have hP := hP.sub (ws' := lwW cs ad bd oc μ ρ (thTow (xs (nI (i + 1)).toNatClampNeg)) u3) ([0, 1, 2, 3, 4, 5, 6, 7, 8, 9, 10, 11, 12, 13, 14, 15, 16, 17, 18, 19, 20, 21, 22, 23] ++ [25, 26, 27, 28, 29, 30, 31, 32, 33, 34, 35, 36, 37, 38, 39, 40, 41, 42] ++ [24]) rfl
      have hD := hD.sub (ws' := lwW cs ad bd oc μ ρ (thTow (xs (nI (i + 1)).toNatClampNeg)) u3) ([0, 1, 2, 3, 4, 5, 6, 7, 8, 9, 10, 11, 12, 13, 14, 15, 16, 17, 18, 19, 20, 21, 22, 23] ++ [25, 26, 27, 28, 29, 30, 31, 32, 33, 34, 35, 36, 37, 38, 39, 40, 41, 42] ++ [24]) (by decide) rfl
      exact lw_tail C1 (t := 705) hcl G hM hC (thTow_le (xs (nI (i + 1)).toNatClampNeg)) (fun _ => e3) d_law_705 d_law_707 d_law_708 d_law_711 d_law_713 d_law_718 d_law_720 d_law_723 d_law_724 d_law_725 d_law_726 d_law_728 d_law_729 d_law_730 d_law_735 (by decide) hP hD hS hl
    · exact absurd h0 z
  · have e2 : μ = u1 := (congrArg (fun z => z.1) e1).symm
    have e3 : ρ = u2 := (congrArg (fun z => z.2.1) e1).symm
    have e4 : f = u3 := (congrArg (fun z => z.2.2) e1).symm
    subst e2
    subst e3
    subst e4
    have hP := hP.sub (ws' := lwW cs ad bd oc μ ρ (thTow (xs (nI (i + 1)).toNatClampNeg)) f) ([0, 1, 2, 3, 4, 5, 6, 7, 8, 9, 10, 11, 12, 13, 14, 15, 16, 17, 18, 19, 20, 21, 22, 23] ++ [25, 26, 27, 28, 29, 30, 31, 32, 33, 34, 35, 36, 37, 38, 39, 40, 41, 42] ++ [24]) rfl
    have hD := hD.sub (ws' := lwW cs ad bd oc μ ρ (thTow (xs (nI (i + 1)).toNatClampNeg)) f) ([0, 1, 2, 3, 4, 5, 6, 7, 8, 9, 10, 11, 12, 13, 14, 15, 16, 17, 18, 19, 20, 21, 22, 23] ++ [25, 26, 27, 28, 29, 30, 31, 32, 33, 34, 35, 36, 37, 38, 39, 40, 41, 42] ++ [24]) (by decide) rfl
    exact lw_tail C1 (t := 705) hcl G hM hC (thTow_le (xs (nI (i + 1)).toNatClampNeg)) (fun z => absurd z h0) d_law_705 d_law_707 d_law_708 d_law_711 d_law_713 d_law_718 d_law_720 d_law_723 d_law_724 d_law_725 d_law_726 d_law_728 d_law_729 d_law_730 d_law_735 (by decide) hP hD hS hl
set_option maxHeartbeats 4000000 in
set_option maxRecDepth 100000 in
theorem lk_11 {p : Program} {l : Launch} {e : Env} {s : State} {m : MethodId} {below : List Frame} {meth : Method} {c : Code} {b L : Nat} {xs : Nat → Int32} {D : va_G} {cs : rr_C3} {ad bd : Nat → Nat} {oc i cells slots : Nat} {μ ρ : NS} {t9 : Nat} {f : Nat → Int64} {H : Heap} {locs : List Loc} {ls : Array Slot} (C1 : lwC p l s m meth c b L xs D cs) (hcl : cells + 1 ≤ 1090 ∧ slots + 6 ≤ 11478) (hi : i + 4 ≤ L) (G : lwGo p l e s m below meth c b D cs ad bd oc i (cells + 1) (slots + 6)) (h : lwS s b D cs ad bd oc i μ ρ t9 f H locs ls) : W p l e room_1 s m #[Value.ref b] below meth c H locs cells slots (lw_Z below #[Value.ref b] s) (F0 m 738 ls []) := by
  obtain ⟨S, hr, hlk, hfl, hL, hX, hbl, hK, hY, hX9, hZ⟩ := id C1
  obtain ⟨hM, hC, hP, hD, hS, hl⟩ := h
  obtain ⟨hx, hb, hml, hown, ht⟩ := id S
  have hA : ∀ q : Nat, s.heap.size ≤ q → lwA s q := fun _ h => h
  have hbA : ¬ lwA s b := Nat.not_le.mpr hbl
  refine lv_aload_n hx hb d_law_738 rfl (lv_at hl 2 rfl) ?_
  refine rr_rV (As := []) (rest := []) (idx := 120) (q0 := 0) (ci := 5) S hK hP (c_V_fresh l D cs ad μ ρ hM hC) k_V_fresh [0, 1, 2, 3, 4, 5, 6, 7, 8, 9, 10, 11, 12, 13, 14, 15, 16, 17, 18, 19, 20, 21, 22, 23] rfl rfl rfl rfl q_183 ⟨Nat.le_of_ble_eq_true rfl, Nat.le_of_ble_eq_true rfl⟩ ⟨(by show cells ≤ 1090; omega), (by show slots ≤ 11478; omega)⟩ hl (Nat.le_of_ble_eq_true rfl) rfl d_law_739 (fun r hp => ?_)
  subst hp
  refine lv_aload_n hx hb d_law_742 rfl (lv_at hl 3 rfl) ?_
  refine rr_mVi (As := []) (rest := [.int (fsI (μ 0 0) (μ 12) 7)]) (idx := 123) (q0 := 24) (ci := 6) (wr := cwL cs ad μ ρ ++ [ouL cs oc f]) S hK hP hD hS hA (c_M_fresh l D cs bd μ t9 hM H.size) k_M_fresh [24, 25, 26, 27, 28, 29, 30, 31, 32, 33, 34, 35, 36, 37, 38, 39, 40, 41] ([0, 1, 2, 3, 4, 5, 6, 7, 8, 9, 10, 11, 12, 13, 14, 15, 16, 17, 18, 19, 20, 21, 22, 23] ++ [42]) rfl (by decide) rfl (by decide) (by decide) rfl rfl rfl q_728 ⟨Nat.le_of_ble_eq_true rfl, Nat.le_of_ble_eq_true rfl⟩ ⟨(by show cells + 0 ≤ 1090; omega), (by show slots + 0 ≤ 11478; omega)⟩ hl (Nat.le_of_ble_eq_true rfl) rfl d_law_743 (fun r u H locs hp hP hD hS => ?_)
  subst hp
  have hP := hP.sub (ws' := lwW cs ad bd oc μ ρ 0 f) ([0, 1, 2, 3, 4, 5, 6, 7, 8, 9, 10, 11, 12, 13, 14, 15, 16, 17, 18, 19, 20, 21, 22, 23] ++ [25, 26, 27, 28, 29, 30, 31, 32, 33, 34, 35, 36, 37, 38, 39, 40, 41, 42] ++ [24]) rfl
  have hD := hD.sub (ws' := lwW cs ad bd oc μ ρ 0 f) ([0, 1, 2, 3, 4, 5, 6, 7, 8, 9, 10, 11, 12, 13, 14, 15, 16, 17, 18, 19, 20, 21, 22, 23] ++ [25, 26, 27, 28, 29, 30, 31, 32, 33, 34, 35, 36, 37, 38, 39, 40, 41, 42] ++ [24]) (by decide) rfl
  refine lv_icmp_eq (tgt := 1329) hx hb d_law_746 (by decide) (fun _ => ?_) (fun z => absurd rfl z)
  refine W.widen (k := cells + 1) (n := slots + 6) (by omega) (by omega) ?_
  exact G μ ρ 0 f H locs ls ⟨hM, hC, hP, hD, hS, hl⟩
set_option maxHeartbeats 4000000 in
set_option maxRecDepth 100000 in
theorem lk_12 {p : Program} {l : Launch} {e : Env} {s : State} {m : MethodId} {below : List Frame} {meth : Method} {c : Code} {b L : Nat} {xs : Nat → Int32} {D : va_G} {cs : rr_C3} {ad bd : Nat → Nat} {oc i cells slots : Nat} {μ ρ : NS} {t9 : Nat} {f : Nat → Int64} {H : Heap} {locs : List Loc} {ls : Array Slot} (C1 : lwC p l s m meth c b L xs D cs) (hcl : cells + 1 ≤ 1090 ∧ slots + 6 ≤ 11478) (hi : i + 4 ≤ L) (G : lwGo p l e s m below meth c b D cs ad bd oc i (cells + 1) (slots + 6)) (h : lwS s b D cs ad bd oc i μ ρ t9 f H locs ls) : W p l e room_1 s m #[Value.ref b] below meth c H locs cells slots (lw_Z below #[Value.ref b] s) (F0 m 751 ls []) := by
  obtain ⟨S, hr, hlk, hfl, hL, hX, hbl, hK, hY, hX9, hZ⟩ := id C1
  obtain ⟨hM, hC, hP, hD, hS, hl⟩ := h
  obtain ⟨hx, hb, hml, hown, ht⟩ := id S
  have hA : ∀ q : Nat, s.heap.size ≤ q → lwA s q := fun _ h => h
  have hbA : ¬ lwA s b := Nat.not_le.mpr hbl
  refine lv_aload_n hx hb d_law_751 rfl (lv_at hl 2 rfl) ?_
  refine rr_rV (As := []) (rest := []) (idx := 124) (q0 := 0) (ci := 5) S hK hP (c_V_onTheWay l D cs ad μ ρ hM hC) k_V_onTheWay [0, 1, 2, 3, 4, 5, 6, 7, 8, 9, 10, 11, 12, 13, 14, 15, 16, 17, 18, 19, 20, 21, 22, 23] rfl rfl rfl rfl q_195 ⟨Nat.le_of_ble_eq_true rfl, Nat.le_of_ble_eq_true rfl⟩ ⟨(by show cells ≤ 1090; omega), (by show slots ≤ 11478; omega)⟩ hl (Nat.le_of_ble_eq_true rfl) rfl d_law_752 (fun r hp => ?_)
  subst hp
  refine lv_aload_n hx hb d_law_755 rfl (lv_at hl 3 rfl) ?_
  refine rr_mVi (As := []) (rest := [.int (nI (owN (μ 0 0) (μ 10) 56))]) (idx := 127) (q0 := 24) (ci := 6) (wr := cwL cs ad μ ρ ++ [ouL cs oc f]) S hK hP hD hS hA (c_M_onTheWay l D cs bd μ t9 hM H.size) k_M_onTheWay [24, 25, 26, 27, 28, 29, 30, 31, 32, 33, 34, 35, 36, 37, 38, 39, 40, 41] ([0, 1, 2, 3, 4, 5, 6, 7, 8, 9, 10, 11, 12, 13, 14, 15, 16, 17, 18, 19, 20, 21, 22, 23] ++ [42]) rfl (by decide) rfl (by decide) (by decide) rfl rfl rfl q_736 ⟨Nat.le_of_ble_eq_true rfl, Nat.le_of_ble_eq_true rfl⟩ ⟨(by show cells + 0 ≤ 1090; omega), (by show slots + 0 ≤ 11478; omega)⟩ hl (Nat.le_of_ble_eq_true rfl) rfl d_law_756 (fun r u H locs hp hP hD hS => ?_)
  subst hp
  have hP := hP.sub (ws' := lwW cs ad bd oc μ ρ 0 f) ([0, 1, 2, 3, 4, 5, 6, 7, 8, 9, 10, 11, 12, 13, 14, 15, 16, 17, 18, 19, 20, 21, 22, 23] ++ [25, 26, 27, 28, 29, 30, 31, 32, 33, 34, 35, 36, 37, 38, 39, 40, 41, 42] ++ [24]) rfl
  have hD := hD.sub (ws' := lwW cs ad bd oc μ ρ 0 f) ([0, 1, 2, 3, 4, 5, 6, 7, 8, 9, 10, 11, 12, 13, 14, 15, 16, 17, 18, 19, 20, 21, 22, 23] ++ [25, 26, 27, 28, 29, 30, 31, 32, 33, 34, 35, 36, 37, 38, 39, 40, 41, 42] ++ [24]) (by decide) rfl
  refine lv_icmp_eq (tgt := 1329) hx hb d_law_759 (by decide) (fun _ => ?_) (fun z => absurd rfl z)
  refine W.widen (k := cells + 1) (n := slots + 6) (by omega) (by omega) ?_
  exact G μ ρ 0 f H locs ls ⟨hM, hC, hP, hD, hS, hl⟩
