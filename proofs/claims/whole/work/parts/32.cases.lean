set_option maxHeartbeats 4000000 in
set_option maxRecDepth 100000 in
theorem lk_13 {p : Program} {l : Launch} {e : Env} {s : State} {m : MethodId} {below : List Frame} {meth : Method} {c : Code} {b L : Nat} {xs : Nat → Int32} {D : va_G} {cs : rr_C3} {ad bd : Nat → Nat} {oc i cells slots : Nat} {μ ρ : NS} {t9 : Nat} {f : Nat → Int64} {H : Heap} {locs : List Loc} {ls : Array Slot} (C1 : lwC p l s m meth c b L xs D cs) (hcl : cells + 1 ≤ 1090 ∧ slots + 6 ≤ 11478) (hi : i + 4 ≤ L) (G : lwGo p l e s m below meth c b D cs ad bd oc i (cells + 1) (slots + 6)) (h : lwS s b D cs ad bd oc i μ ρ t9 f H locs ls) : W p l e room_1 s m #[Value.ref b] below meth c H locs cells slots (lw_Z below #[Value.ref b] s) (F0 m 764 ls []) := by
  obtain ⟨S, hr, hlk, hfl, hL, hX, hbl, hK, hY, hX9, hZ⟩ := id C1
  obtain ⟨hM, hC, hP, hD, hS, hl⟩ := h
  obtain ⟨hx, hb, hml, hown, ht⟩ := id S
  have hA : ∀ q : Nat, s.heap.size ≤ q → lwA s q := fun _ h => h
  have hbA : ¬ lwA s b := Nat.not_le.mpr hbl
  refine lv_aload_n hx hb d_law_764 rfl (lv_at hl 2 rfl) ?_
  refine rr_rV (As := []) (rest := []) (idx := 128) (q0 := 0) (ci := 5) S hK hP (c_V_wouldDecide l D cs (ad 0) (ad 4) (ad 16) (ad 17) (.ref (ad 1)) (.ref (ad 2)) (.ref (ad 3)) (.ref (ad 5)) (.ref (ad 6)) (.int (nI (μ 1 0))) (μ 0 0) (μ 2 0) (ρ 4) (μ 12) (hC.cb hM) (fun j hj => hM.2.2.2.2.2.2.2.2.2.2.2.1 j hj) hM.1 hM.2.2.1) k_V_wouldDecide [0, 4, 16, 17] rfl rfl rfl rfl q_203 ⟨Nat.le_of_ble_eq_true rfl, Nat.le_of_ble_eq_true rfl⟩ ⟨(by show cells ≤ 1090; omega), (by show slots ≤ 11478; omega)⟩ hl (Nat.le_of_ble_eq_true rfl) rfl d_law_765 (fun r hp => ?_)
  rw [wd_same hC] at hp
  subst hp
  refine lv_aload_n hx hb d_law_768 rfl (lv_at hl 3 rfl) ?_
  refine rr_mVi (As := []) (rest := [.int (nI (dwN (μ 0 0) (μ 2 0) (μ 12) (μ 13)))]) (idx := 131) (q0 := 24) (ci := 6) (wr := cwL cs ad μ ρ ++ [ouL cs oc f]) S hK hP hD hS hA (c_M_wouldDecide l D cs bd μ t9 hM H.size) k_M_wouldDecide [24, 25, 26, 27, 28, 29, 30, 31, 32, 33, 34, 35, 36, 37, 38, 39, 40, 41] ([0, 1, 2, 3, 4, 5, 6, 7, 8, 9, 10, 11, 12, 13, 14, 15, 16, 17, 18, 19, 20, 21, 22, 23] ++ [42]) rfl (by decide) rfl (by decide) (by decide) rfl rfl rfl q_740 ⟨Nat.le_of_ble_eq_true rfl, Nat.le_of_ble_eq_true rfl⟩ ⟨(by show cells + 0 ≤ 1090; omega), (by show slots + 0 ≤ 11478; omega)⟩ hl (Nat.le_of_ble_eq_true rfl) rfl d_law_769 (fun r u H locs hp hP hD hS => ?_)
  subst hp
  have hP := hP.sub (ws' := lwW cs ad bd oc μ ρ 0 f) ([0, 1, 2, 3, 4, 5, 6, 7, 8, 9, 10, 11, 12, 13, 14, 15, 16, 17, 18, 19, 20, 21, 22, 23] ++ [25, 26, 27, 28, 29, 30, 31, 32, 33, 34, 35, 36, 37, 38, 39, 40, 41, 42] ++ [24]) rfl
  have hD := hD.sub (ws' := lwW cs ad bd oc μ ρ 0 f) ([0, 1, 2, 3, 4, 5, 6, 7, 8, 9, 10, 11, 12, 13, 14, 15, 16, 17, 18, 19, 20, 21, 22, 23] ++ [25, 26, 27, 28, 29, 30, 31, 32, 33, 34, 35, 36, 37, 38, 39, 40, 41, 42] ++ [24]) (by decide) rfl
  refine lv_icmp_eq (tgt := 1329) hx hb d_law_772 (by decide) (fun _ => ?_) (fun z => absurd rfl z)
  refine W.widen (k := cells + 1) (n := slots + 6) (by omega) (by omega) ?_
  exact G μ ρ 0 f H locs ls ⟨hM, hC, hP, hD, hS, hl⟩
set_option maxHeartbeats 4000000 in
set_option maxRecDepth 100000 in
theorem lk_14 {p : Program} {l : Launch} {e : Env} {s : State} {m : MethodId} {below : List Frame} {meth : Method} {c : Code} {b L : Nat} {xs : Nat → Int32} {D : va_G} {cs : rr_C3} {ad bd : Nat → Nat} {oc i cells slots : Nat} {μ ρ : NS} {t9 : Nat} {f : Nat → Int64} {H : Heap} {locs : List Loc} {ls : Array Slot} (C1 : lwC p l s m meth c b L xs D cs) (hcl : cells + 1 ≤ 1090 ∧ slots + 6 ≤ 11478) (hi : i + 4 ≤ L) (G : lwGo p l e s m below meth c b D cs ad bd oc i (cells + 1) (slots + 6)) (h : lwS s b D cs ad bd oc i μ ρ t9 f H locs ls) : W p l e room_1 s m #[Value.ref b] below meth c H locs cells slots (lw_Z below #[Value.ref b] s) (F0 m 777 ls []) := by
  obtain ⟨S, hr, hlk, hfl, hL, hX, hbl, hK, hY, hX9, hZ⟩ := id C1
  obtain ⟨hM, hC, hP, hD, hS, hl⟩ := h
  obtain ⟨hx, hb, hml, hown, ht⟩ := id S
  have hA : ∀ q : Nat, s.heap.size ≤ q → lwA s q := fun _ h => h
  have hbA : ¬ lwA s b := Nat.not_le.mpr hbl
  refine lv_aload_n hx hb d_law_777 rfl (lv_at hl 2 rfl) ?_
  refine lv_aload_n hx hb d_law_778 rfl (lv_at hl 1 rfl) ?_
  refine lv_iload hx hb d_law_779 (lv_at hl 0 rfl) ?_
  refine lv_iconst (v := nI 1) hx hb d_law_781 (by decide) ?_
  refine rr_iadd (a := i) (b := 1) hx hb d_law_782 ?_
  refine va_sld hx hb hX hbl hbA hS (vp_in_nI (by omega) (by omega)) d_law_783 ?_
  refine lv_if_eq (tgt := 791) hx hb d_law_784 (by decide) (fun c784 => ?_) (fun c784 => ?_)
  · skip
    refine lv_iconst (v := nI 0) hx hb d_law_791 (by decide) ?_
    refine rr_mVi (As := [.int (nI 0)]) (rest := []) (idx := 132) (q0 := 0) (ci := 5) (wr := mwL cs bd μ t9 ++ [ouL cs oc f]) S hK hP hD hS hA (c_V_hold l D cs ad μ ρ 0 hM hC (by decide) H.size) k_V_hold [0, 1, 2, 3, 4, 5, 6, 7, 8, 9, 10, 11, 12, 13, 14, 15, 16, 17, 18, 19, 20, 21, 22, 23] ([24, 25, 26, 27, 28, 29, 30, 31, 32, 33, 34, 35, 36, 37, 38, 39, 40, 41] ++ [42]) rfl (by decide) rfl (by decide) (by decide) rfl rfl rfl q_215 ⟨Nat.le_of_ble_eq_true rfl, Nat.le_of_ble_eq_true rfl⟩ ⟨(by show cells + 0 ≤ 1090; omega), (by show slots + 0 ≤ 11478; omega)⟩ hl (Nat.le_of_ble_eq_true rfl) rfl d_law_792 (fun r u H locs hp hP hD hS => ?_)
    subst hp
    have hP := hP.sub (ws' := cwL cs ad (muHol μ 0) ρ ++ mwL cs bd μ t9 ++ [ouL cs oc f]) ([19, 20, 21, 22, 23, 24, 25, 26, 27, 28, 29, 30, 31, 32, 33, 34, 35, 36, 37, 38, 39, 40, 41, 42] ++ [0, 1, 2, 3, 4, 5, 6, 7, 8, 9, 10, 11, 12, 13, 14, 15, 16, 17] ++ [18]) rfl
    have hD := hD.sub (ws' := cwL cs ad (muHol μ 0) ρ ++ mwL cs bd μ t9 ++ [ouL cs oc f]) ([19, 20, 21, 22, 23, 24, 25, 26, 27, 28, 29, 30, 31, 32, 33, 34, 35, 36, 37, 38, 39, 40, 41, 42] ++ [0, 1, 2, 3, 4, 5, 6, 7, 8, 9, 10, 11, 12, 13, 14, 15, 16, 17] ++ [18]) (by decide) rfl
    refine lv_aload_n hx hb d_law_795 rfl (lv_at hl 3 rfl) ?_
    refine lv_aload_n hx hb d_law_796 rfl (lv_at hl 1 rfl) ?_
    refine lv_iload hx hb d_law_797 (lv_at hl 0 rfl) ?_
    refine lv_iconst (v := nI 1) hx hb d_law_799 (by decide) ?_
    refine rr_iadd (a := i) (b := 1) hx hb d_law_800 ?_
    refine va_sld hx hb hX hbl hbA hS (vp_in_nI (by omega) (by omega)) d_law_801 ?_
    refine lv_if_eq (tgt := 809) hx hb d_law_802 (by decide) (fun _ => ?_) (fun z => absurd c784 z)
    refine lv_iconst (v := nI 0) hx hb d_law_809 (by decide) ?_
    refine rr_mVi (As := [.int (nI 0)]) (rest := [.int (nI (μ 2 0))]) (idx := 136) (q0 := 24) (ci := 6) (wr := cwL cs ad (muHol μ 0) ρ ++ [ouL cs oc f]) S hK hP hD hS hA (c_M_hold l D cs bd μ t9 0 hM (by decide) H.size) k_M_hold [24, 25, 26, 27, 28, 29, 30, 31, 32, 33, 34, 35, 36, 37, 38, 39, 40, 41] ([0, 1, 2, 3, 4, 5, 6, 7, 8, 9, 10, 11, 12, 13, 14, 15, 16, 17, 18, 19, 20, 21, 22, 23] ++ [42]) rfl (by decide) rfl (by decide) (by decide) rfl rfl rfl q_752 ⟨Nat.le_of_ble_eq_true rfl, Nat.le_of_ble_eq_true rfl⟩ ⟨(by show cells + 0 + 0 ≤ 1090; omega), (by show slots + 0 + 0 ≤ 11478; omega)⟩ hl (Nat.le_of_ble_eq_true rfl) rfl d_law_810 (fun r u H locs hp hP hD hS => ?_)
    subst hp
    have hP := hP.sub (ws' := lwW cs ad bd oc (muHol μ 0) ρ 0 f) ([0, 1, 2, 3, 4, 5, 6, 7, 8, 9, 10, 11, 12, 13, 14, 15, 16, 17, 18, 19, 20, 21, 22, 23] ++ [25, 26, 27, 28, 29, 30, 31, 32, 33, 34, 35, 36, 37, 38, 39, 40, 41, 42] ++ [24]) rfl
    have hD := hD.sub (ws' := lwW cs ad bd oc (muHol μ 0) ρ 0 f) ([0, 1, 2, 3, 4, 5, 6, 7, 8, 9, 10, 11, 12, 13, 14, 15, 16, 17, 18, 19, 20, 21, 22, 23] ++ [25, 26, 27, 28, 29, 30, 31, 32, 33, 34, 35, 36, 37, 38, 39, 40, 41, 42] ++ [24]) (by decide) rfl
    refine lv_icmp_eq (tgt := 1329) hx hb d_law_813 (by decide) (fun _ => ?_) (fun z => absurd rfl z)
    refine W.widen (k := cells + 1) (n := slots + 6) (by omega) (by omega) ?_
    exact G (muHol μ 0) ρ 0 f H locs ls ⟨(IM_hol hM (by decide)), (IC_hol hC _), hP, hD, hS, hl⟩
  · skip
    refine lv_iconst (v := nI 1) hx hb d_law_787 (by decide) ?_
    refine lv_goto (tgt := 792) hx hb d_law_788 (by decide) ?_
    refine rr_mVi (As := [.int (nI 1)]) (rest := []) (idx := 132) (q0 := 0) (ci := 5) (wr := mwL cs bd μ t9 ++ [ouL cs oc f]) S hK hP hD hS hA (c_V_hold l D cs ad μ ρ 1 hM hC (by decide) H.size) k_V_hold [0, 1, 2, 3, 4, 5, 6, 7, 8, 9, 10, 11, 12, 13, 14, 15, 16, 17, 18, 19, 20, 21, 22, 23] ([24, 25, 26, 27, 28, 29, 30, 31, 32, 33, 34, 35, 36, 37, 38, 39, 40, 41] ++ [42]) rfl (by decide) rfl (by decide) (by decide) rfl rfl rfl q_215 ⟨Nat.le_of_ble_eq_true rfl, Nat.le_of_ble_eq_true rfl⟩ ⟨(by show cells + 0 ≤ 1090; omega), (by show slots + 0 ≤ 11478; omega)⟩ hl (Nat.le_of_ble_eq_true rfl) rfl d_law_792 (fun r u H locs hp hP hD hS => ?_)
    subst hp
    have hP := hP.sub (ws' := cwL cs ad (muHol μ 1) ρ ++ mwL cs bd μ t9 ++ [ouL cs oc f]) ([19, 20, 21, 22, 23, 24, 25, 26, 27, 28, 29, 30, 31, 32, 33, 34, 35, 36, 37, 38, 39, 40, 41, 42] ++ [0, 1, 2, 3, 4, 5, 6, 7, 8, 9, 10, 11, 12, 13, 14, 15, 16, 17] ++ [18]) rfl
    have hD := hD.sub (ws' := cwL cs ad (muHol μ 1) ρ ++ mwL cs bd μ t9 ++ [ouL cs oc f]) ([19, 20, 21, 22, 23, 24, 25, 26, 27, 28, 29, 30, 31, 32, 33, 34, 35, 36, 37, 38, 39, 40, 41, 42] ++ [0, 1, 2, 3, 4, 5, 6, 7, 8, 9, 10, 11, 12, 13, 14, 15, 16, 17] ++ [18]) (by decide) rfl
    refine lv_aload_n hx hb d_law_795 rfl (lv_at hl 3 rfl) ?_
    refine lv_aload_n hx hb d_law_796 rfl (lv_at hl 1 rfl) ?_
    refine lv_iload hx hb d_law_797 (lv_at hl 0 rfl) ?_
    refine lv_iconst (v := nI 1) hx hb d_law_799 (by decide) ?_
    refine rr_iadd (a := i) (b := 1) hx hb d_law_800 ?_
    refine va_sld hx hb hX hbl hbA hS (vp_in_nI (by omega) (by omega)) d_law_801 ?_
    refine lv_if_eq (tgt := 809) hx hb d_law_802 (by decide) (fun z => absurd z c784) (fun _ => ?_)
    refine lv_iconst (v := nI 1) hx hb d_law_805 (by decide) ?_
    refine lv_goto (tgt := 810) hx hb d_law_806 (by decide) ?_
    refine rr_mVi (As := [.int (nI 1)]) (rest := [.int (nI (μ 2 0))]) (idx := 136) (q0 := 24) (ci := 6) (wr := cwL cs ad (muHol μ 1) ρ ++ [ouL cs oc f]) S hK hP hD hS hA (c_M_hold l D cs bd μ t9 1 hM (by decide) H.size) k_M_hold [24, 25, 26, 27, 28, 29, 30, 31, 32, 33, 34, 35, 36, 37, 38, 39, 40, 41] ([0, 1, 2, 3, 4, 5, 6, 7, 8, 9, 10, 11, 12, 13, 14, 15, 16, 17, 18, 19, 20, 21, 22, 23] ++ [42]) rfl (by decide) rfl (by decide) (by decide) rfl rfl rfl q_752 ⟨Nat.le_of_ble_eq_true rfl, Nat.le_of_ble_eq_true rfl⟩ ⟨(by show cells + 0 + 0 ≤ 1090; omega), (by show slots + 0 + 0 ≤ 11478; omega)⟩ hl (Nat.le_of_ble_eq_true rfl) rfl d_law_810 (fun r u H locs hp hP hD hS => ?_)
    subst hp
    have hP := hP.sub (ws' := lwW cs ad bd oc (muHol μ 1) ρ 0 f) ([0, 1, 2, 3, 4, 5, 6, 7, 8, 9, 10, 11, 12, 13, 14, 15, 16, 17, 18, 19, 20, 21, 22, 23] ++ [25, 26, 27, 28, 29, 30, 31, 32, 33, 34, 35, 36, 37, 38, 39, 40, 41, 42] ++ [24]) rfl
    have hD := hD.sub (ws' := lwW cs ad bd oc (muHol μ 1) ρ 0 f) ([0, 1, 2, 3, 4, 5, 6, 7, 8, 9, 10, 11, 12, 13, 14, 15, 16, 17, 18, 19, 20, 21, 22, 23] ++ [25, 26, 27, 28, 29, 30, 31, 32, 33, 34, 35, 36, 37, 38, 39, 40, 41, 42] ++ [24]) (by decide) rfl
    refine lv_icmp_eq (tgt := 1329) hx hb d_law_813 (by decide) (fun _ => ?_) (fun z => absurd rfl z)
    refine W.widen (k := cells + 1) (n := slots + 6) (by omega) (by omega) ?_
    exact G (muHol μ 1) ρ 0 f H locs ls ⟨(IM_hol hM (by decide)), (IC_hol hC _), hP, hD, hS, hl⟩
set_option maxHeartbeats 4000000 in
set_option maxRecDepth 100000 in
theorem lk_15 {p : Program} {l : Launch} {e : Env} {s : State} {m : MethodId} {below : List Frame} {meth : Method} {c : Code} {b L : Nat} {xs : Nat → Int32} {D : va_G} {cs : rr_C3} {ad bd : Nat → Nat} {oc i cells slots : Nat} {μ ρ : NS} {t9 : Nat} {f : Nat → Int64} {H : Heap} {locs : List Loc} {ls : Array Slot} (C1 : lwC p l s m meth c b L xs D cs) (hcl : cells + 1 ≤ 1090 ∧ slots + 6 ≤ 11478) (hi : i + 4 ≤ L) (G : lwGo p l e s m below meth c b D cs ad bd oc i (cells + 1) (slots + 6)) (h : lwS s b D cs ad bd oc i μ ρ t9 f H locs ls) : W p l e room_1 s m #[Value.ref b] below meth c H locs cells slots (lw_Z below #[Value.ref b] s) (F0 m 818 ls []) := by
  obtain ⟨S, hr, hlk, hfl, hL, hX, hbl, hK, hY, hX9, hZ⟩ := id C1
  obtain ⟨hM, hC, hP, hD, hS, hl⟩ := h
  obtain ⟨hx, hb, hml, hown, ht⟩ := id S
  have hA : ∀ q : Nat, s.heap.size ≤ q → lwA s q := fun _ h => h
  have hbA : ¬ lwA s b := Nat.not_le.mpr hbl
  refine lv_aload_n hx hb d_law_818 rfl (lv_at hl 2 rfl) ?_
  refine lv_aload_n hx hb d_law_819 rfl (lv_at hl 1 rfl) ?_
  refine lv_iload hx hb d_law_820 (lv_at hl 0 rfl) ?_
  refine lv_iconst (v := nI 1) hx hb d_law_822 (by decide) ?_
  refine rr_iadd (a := i) (b := 1) hx hb d_law_823 ?_
  refine va_sld hx hb hX hbl hbA hS (vp_in_nI (by omega) (by omega)) d_law_824 ?_
  refine lv_aload_n hx hb d_law_825 rfl (lv_at hl 4 rfl) ?_
  refine rr_wS (As := [.ref (ad 0), .int (xs (nI (i + 1)).toNatClampNeg), .ref oc]) (rest := []) (idx := 137) (wr := mwL cs bd μ t9) S hK hY hX9 hZ hP hD hS hA (c_A_pass l D cs ad oc μ ρ f (xs (nI (i + 1)).toNatClampNeg) hM hC  hfl H.size) k_A_pass ([0, 1, 2, 3, 4, 5, 6, 7, 8, 9, 10, 11, 12, 13, 14, 15, 16, 17, 18, 19, 20, 21, 22, 23] ++ [42]) [24, 25, 26, 27, 28, 29, 30, 31, 32, 33, 34, 35, 36, 37, 38, 39, 40, 41] rfl (by decide) rfl (by decide) (by decide) q_442 ⟨Nat.le_of_ble_eq_true rfl, Nat.le_of_ble_eq_true rfl⟩ hcl hl (Nat.le_of_ble_eq_true rfl) rfl d_law_826 (fun r u H locs hp hP hD hS => ?_)
  obtain ⟨u1, u2, u3⟩ := u
  obtain ⟨rfl, hp⟩ := hp
  dsimp only at hp
  have hP := hP.sub (ws' := cwL cs ad u1 u2 ++ mwL cs bd μ t9 ++ [ouL cs oc u3]) ([18, 19, 20, 21, 22, 23, 24, 25, 26, 27, 28, 29, 30, 31, 32, 33, 34, 35, 36, 37, 38, 39, 40, 41] ++ [0, 1, 2, 3, 4, 5, 6, 7, 8, 9, 10, 11, 12, 13, 14, 15, 16, 17] ++ [42]) rfl
  have hD := hD.sub (ws' := cwL cs ad u1 u2 ++ mwL cs bd μ t9 ++ [ouL cs oc u3]) ([18, 19, 20, 21, 22, 23, 24, 25, 26, 27, 28, 29, 30, 31, 32, 33, 34, 35, 36, 37, 38, 39, 40, 41] ++ [0, 1, 2, 3, 4, 5, 6, 7, 8, 9, 10, 11, 12, 13, 14, 15, 16, 17] ++ [42]) (by decide) rfl
  refine lv_istore (lv' := [(5, .int (nI (thPas μ (xs (nI (i + 1)).toNatClampNeg)))), (4, .int (nI i)), (0, .ref b), (1, .ref (ad 0)), (2, .ref (bd 0)), (3, .ref oc)]) hx hb d_law_829 hl (by decide) rfl (fun ls hl => ?_)
  refine lv_aload_n hx hb d_law_831 rfl (lv_at hl 4 rfl) ?_
  refine lv_aload_n hx hb d_law_832 rfl (lv_at hl 2 rfl) ?_
  refine lv_iload hx hb d_law_833 (lv_at hl 1 rfl) ?_
  refine lv_iconst (v := nI 1) hx hb d_law_835 (by decide) ?_
  refine rr_iadd (a := i) (b := 1) hx hb d_law_836 ?_
  refine va_sld hx hb hX hbl hbA hS (vp_in_nI (by omega) (by omega)) d_law_837 ?_
  refine rr_mVi (As := [.int (xs (nI (i + 1)).toNatClampNeg)]) (rest := []) (idx := 139) (q0 := 24) (ci := 6) (wr := cwL cs ad u1 u2 ++ [ouL cs oc u3]) S hK hP hD hS hA (c_M_pass l D cs bd μ t9 (xs (nI (i + 1)).toNatClampNeg) hM  H.size) k_M_pass [24, 25, 26, 27, 28, 29, 30, 31, 32, 33, 34, 35, 36, 37, 38, 39, 40, 41] ([0, 1, 2, 3, 4, 5, 6, 7, 8, 9, 10, 11, 12, 13, 14, 15, 16, 17, 18, 19, 20, 21, 22, 23] ++ [42]) rfl (by decide) rfl (by decide) (by decide) rfl rfl rfl q_756 ⟨Nat.le_of_ble_eq_true rfl, Nat.le_of_ble_eq_true rfl⟩ hcl hl (Nat.le_of_ble_eq_true rfl) rfl d_law_838 (fun r9 u9 H locs hp9 hP hD hS => ?_)
  rcases hp with ⟨h0, e1, e2, e3⟩ | ⟨h0, e1⟩
  · have e1 := e1.symm
    have e2 := e2.symm
    subst e1
    subst e2
    rcases hp9 with ⟨-, e4, e5⟩ | ⟨z, -⟩
    · have e4 := e4.symm
      subst e4
      subst e5
      have hP := hP.sub (ws' := lwW cs ad bd oc (itM μ (ix 61 (xs (nI (i + 1)).toNatClampNeg))) (itR μ ρ (ix 61 (xs (nI (i + 1)).toNatClampNeg))) (thPas μ (xs (nI (i + 1)).toNatClampNeg)) u3) ([0, 1, 2, 3, 4, 5, 6, 7, 8, 9, 10, 11, 12, 13, 14, 15, 16, 17, 18, 19, 20, 21, 22, 23] ++ [25, 26, 27, 28, 29, 30, 31, 32, 33, 34, 35, 36, 37, 38, 39, 40, 41, 42] ++ [24]) rfl
      have hD := hD.sub (ws' := lwW cs ad bd oc (itM μ (ix 61 (xs (nI (i + 1)).toNatClampNeg))) (itR μ ρ (ix 61 (xs (nI (i + 1)).toNatClampNeg))) (thPas μ (xs (nI (i + 1)).toNatClampNeg)) u3) ([0, 1, 2, 3, 4, 5, 6, 7, 8, 9, 10, 11, 12, 13, 14, 15, 16, 17, 18, 19, 20, 21, 22, 23] ++ [25, 26, 27, 28, 29, 30, 31, 32, 33, 34, 35, 36, 37, 38, 39, 40, 41, 42] ++ [24]) (by decide) rfl
      have hpas9 : μ 0 0 + ix 61 (xs (nI (i + 1)).toNatClampNeg) ≤ 1000 := by
        unfold thPas at h0
        split at h0
        · split at h0
          · assumption
          · omega
        · omega
      exact lw_tail C1 (t := 841) hcl G (it_ok hM hC _ hpas9).1 (it_ok hM hC _ hpas9).2 (thPas_le μ (xs (nI (i + 1)).toNatClampNeg)) (fun _ => e3) d_law_841 d_law_843 d_law_844 d_law_847 d_law_849 d_law_854 d_law_856 d_law_859 d_law_860 d_law_861 d_law_862 d_law_864 d_law_865 d_law_866 d_law_871 (by decide) hP hD hS hl
    · exact absurd h0 z
  · have e2 : μ = u1 := (congrArg (fun z => z.1) e1).symm
    have e3 : ρ = u2 := (congrArg (fun z => z.2.1) e1).symm
    have e4 : f = u3 := (congrArg (fun z => z.2.2) e1).symm
    subst e2
    subst e3
    subst e4
    rcases hp9 with ⟨z, -⟩ | ⟨-, e5⟩
    · exact absurd z h0
    · have e5 := e5.symm
      subst e5
      have hP := hP.sub (ws' := lwW cs ad bd oc μ ρ (thPas μ (xs (nI (i + 1)).toNatClampNeg)) f) ([0, 1, 2, 3, 4, 5, 6, 7, 8, 9, 10, 11, 12, 13, 14, 15, 16, 17, 18, 19, 20, 21, 22, 23] ++ [25, 26, 27, 28, 29, 30, 31, 32, 33, 34, 35, 36, 37, 38, 39, 40, 41, 42] ++ [24]) rfl
      have hD := hD.sub (ws' := lwW cs ad bd oc μ ρ (thPas μ (xs (nI (i + 1)).toNatClampNeg)) f) ([0, 1, 2, 3, 4, 5, 6, 7, 8, 9, 10, 11, 12, 13, 14, 15, 16, 17, 18, 19, 20, 21, 22, 23] ++ [25, 26, 27, 28, 29, 30, 31, 32, 33, 34, 35, 36, 37, 38, 39, 40, 41, 42] ++ [24]) (by decide) rfl
      exact lw_tail C1 (t := 841) hcl G hM hC (thPas_le μ (xs (nI (i + 1)).toNatClampNeg)) (fun z => absurd z h0) d_law_841 d_law_843 d_law_844 d_law_847 d_law_849 d_law_854 d_law_856 d_law_859 d_law_860 d_law_861 d_law_862 d_law_864 d_law_865 d_law_866 d_law_871 (by decide) hP hD hS hl
set_option maxHeartbeats 4000000 in
set_option maxRecDepth 100000 in
theorem lk_16 {p : Program} {l : Launch} {e : Env} {s : State} {m : MethodId} {below : List Frame} {meth : Method} {c : Code} {b L : Nat} {xs : Nat → Int32} {D : va_G} {cs : rr_C3} {ad bd : Nat → Nat} {oc i cells slots : Nat} {μ ρ : NS} {t9 : Nat} {f : Nat → Int64} {H : Heap} {locs : List Loc} {ls : Array Slot} (C1 : lwC p l s m meth c b L xs D cs) (hcl : cells + 1 ≤ 1090 ∧ slots + 6 ≤ 11478) (hi : i + 4 ≤ L) (G : lwGo p l e s m below meth c b D cs ad bd oc i (cells + 1) (slots + 6)) (h : lwS s b D cs ad bd oc i μ ρ t9 f H locs ls) : W p l e room_1 s m #[Value.ref b] below meth c H locs cells slots (lw_Z below #[Value.ref b] s) (F0 m 874 ls []) := by
  obtain ⟨S, hr, hlk, hfl, hL, hX, hbl, hK, hY, hX9, hZ⟩ := id C1
  obtain ⟨hM, hC, hP, hD, hS, hl⟩ := h
  obtain ⟨hx, hb, hml, hown, ht⟩ := id S
  have hA : ∀ q : Nat, s.heap.size ≤ q → lwA s q := fun _ h => h
  have hbA : ¬ lwA s b := Nat.not_le.mpr hbl
  refine lv_aload_n hx hb d_law_874 rfl (lv_at hl 2 rfl) ?_
  refine rr_rV (As := []) (rest := []) (idx := 140) (q0 := 0) (ci := 5) S hK hP (c_V_time l D cs ad μ ρ hM hC) k_V_time [0, 1, 2, 3, 4, 5, 6, 7, 8, 9, 10, 11, 12, 13, 14, 15, 16, 17, 18, 19, 20, 21, 22, 23] rfl rfl rfl rfl q_219 ⟨Nat.le_of_ble_eq_true rfl, Nat.le_of_ble_eq_true rfl⟩ ⟨(by show cells ≤ 1090; omega), (by show slots ≤ 11478; omega)⟩ hl (Nat.le_of_ble_eq_true rfl) rfl d_law_875 (fun r hp => ?_)
  subst hp
  refine lv_aload_n hx hb d_law_878 rfl (lv_at hl 3 rfl) ?_
  refine rr_mVi (As := []) (rest := [.int (nI (μ 0 0))]) (idx := 143) (q0 := 24) (ci := 6) (wr := cwL cs ad μ ρ ++ [ouL cs oc f]) S hK hP hD hS hA (c_M_time l D cs bd μ t9 hM H.size) k_M_time [24, 25, 26, 27, 28, 29, 30, 31, 32, 33, 34, 35, 36, 37, 38, 39, 40, 41] ([0, 1, 2, 3, 4, 5, 6, 7, 8, 9, 10, 11, 12, 13, 14, 15, 16, 17, 18, 19, 20, 21, 22, 23] ++ [42]) rfl (by decide) rfl (by decide) (by decide) rfl rfl rfl q_775 ⟨Nat.le_of_ble_eq_true rfl, Nat.le_of_ble_eq_true rfl⟩ ⟨(by show cells + 0 ≤ 1090; omega), (by show slots + 0 ≤ 11478; omega)⟩ hl (Nat.le_of_ble_eq_true rfl) rfl d_law_879 (fun r u H locs hp hP hD hS => ?_)
  subst hp
  have hP := hP.sub (ws' := lwW cs ad bd oc μ ρ 0 f) ([0, 1, 2, 3, 4, 5, 6, 7, 8, 9, 10, 11, 12, 13, 14, 15, 16, 17, 18, 19, 20, 21, 22, 23] ++ [25, 26, 27, 28, 29, 30, 31, 32, 33, 34, 35, 36, 37, 38, 39, 40, 41, 42] ++ [24]) rfl
  have hD := hD.sub (ws' := lwW cs ad bd oc μ ρ 0 f) ([0, 1, 2, 3, 4, 5, 6, 7, 8, 9, 10, 11, 12, 13, 14, 15, 16, 17, 18, 19, 20, 21, 22, 23] ++ [25, 26, 27, 28, 29, 30, 31, 32, 33, 34, 35, 36, 37, 38, 39, 40, 41, 42] ++ [24]) (by decide) rfl
  refine lv_icmp_eq (tgt := 1329) hx hb d_law_882 (by decide) (fun _ => ?_) (fun z => absurd rfl z)
  refine W.widen (k := cells + 1) (n := slots + 6) (by omega) (by omega) ?_
  exact G μ ρ 0 f H locs ls ⟨hM, hC, hP, hD, hS, hl⟩
set_option maxHeartbeats 4000000 in
set_option maxRecDepth 100000 in
theorem lk_17 {p : Program} {l : Launch} {e : Env} {s : State} {m : MethodId} {below : List Frame} {meth : Method} {c : Code} {b L : Nat} {xs : Nat → Int32} {D : va_G} {cs : rr_C3} {ad bd : Nat → Nat} {oc i cells slots : Nat} {μ ρ : NS} {t9 : Nat} {f : Nat → Int64} {H : Heap} {locs : List Loc} {ls : Array Slot} (C1 : lwC p l s m meth c b L xs D cs) (hcl : cells + 1 ≤ 1090 ∧ slots + 6 ≤ 11478) (hi : i + 4 ≤ L) (G : lwGo p l e s m below meth c b D cs ad bd oc i (cells + 1) (slots + 6)) (h : lwS s b D cs ad bd oc i μ ρ t9 f H locs ls) : W p l e room_1 s m #[Value.ref b] below meth c H locs cells slots (lw_Z below #[Value.ref b] s) (F0 m 887 ls []) := by
  obtain ⟨S, hr, hlk, hfl, hL, hX, hbl, hK, hY, hX9, hZ⟩ := id C1
  obtain ⟨hM, hC, hP, hD, hS, hl⟩ := h
  obtain ⟨hx, hb, hml, hown, ht⟩ := id S
  have hA : ∀ q : Nat, s.heap.size ≤ q → lwA s q := fun _ h => h
  have hbA : ¬ lwA s b := Nat.not_le.mpr hbl
  refine lv_aload_n hx hb d_law_887 rfl (lv_at hl 2 rfl) ?_
  refine rr_rV (As := []) (rest := []) (idx := 144) (q0 := 0) (ci := 5) S hK hP (c_V_moved l D cs ad μ ρ hM hC) k_V_moved [0, 1, 2, 3, 4, 5, 6, 7, 8, 9, 10, 11, 12, 13, 14, 15, 16, 17, 18, 19, 20, 21, 22, 23] rfl rfl rfl rfl q_223 ⟨Nat.le_of_ble_eq_true rfl, Nat.le_of_ble_eq_true rfl⟩ ⟨(by show cells ≤ 1090; omega), (by show slots ≤ 11478; omega)⟩ hl (Nat.le_of_ble_eq_true rfl) rfl d_law_888 (fun r hp => ?_)
  subst hp
  refine lv_aload_n hx hb d_law_891 rfl (lv_at hl 3 rfl) ?_
  refine rr_mVi (As := []) (rest := [.int (nI (μ 1 0))]) (idx := 147) (q0 := 24) (ci := 6) (wr := cwL cs ad μ ρ ++ [ouL cs oc f]) S hK hP hD hS hA (c_M_moved l D cs bd μ t9 hM H.size) k_M_moved [24, 25, 26, 27, 28, 29, 30, 31, 32, 33, 34, 35, 36, 37, 38, 39, 40, 41] ([0, 1, 2, 3, 4, 5, 6, 7, 8, 9, 10, 11, 12, 13, 14, 15, 16, 17, 18, 19, 20, 21, 22, 23] ++ [42]) rfl (by decide) rfl (by decide) (by decide) rfl rfl rfl q_779 ⟨Nat.le_of_ble_eq_true rfl, Nat.le_of_ble_eq_true rfl⟩ ⟨(by show cells + 0 ≤ 1090; omega), (by show slots + 0 ≤ 11478; omega)⟩ hl (Nat.le_of_ble_eq_true rfl) rfl d_law_892 (fun r u H locs hp hP hD hS => ?_)
  subst hp
  have hP := hP.sub (ws' := lwW cs ad bd oc μ ρ 0 f) ([0, 1, 2, 3, 4, 5, 6, 7, 8, 9, 10, 11, 12, 13, 14, 15, 16, 17, 18, 19, 20, 21, 22, 23] ++ [25, 26, 27, 28, 29, 30, 31, 32, 33, 34, 35, 36, 37, 38, 39, 40, 41, 42] ++ [24]) rfl
  have hD := hD.sub (ws' := lwW cs ad bd oc μ ρ 0 f) ([0, 1, 2, 3, 4, 5, 6, 7, 8, 9, 10, 11, 12, 13, 14, 15, 16, 17, 18, 19, 20, 21, 22, 23] ++ [25, 26, 27, 28, 29, 30, 31, 32, 33, 34, 35, 36, 37, 38, 39, 40, 41, 42] ++ [24]) (by decide) rfl
  refine lv_icmp_eq (tgt := 1329) hx hb d_law_895 (by decide) (fun _ => ?_) (fun z => absurd rfl z)
  refine W.widen (k := cells + 1) (n := slots + 6) (by omega) (by omega) ?_
  exact G μ ρ 0 f H locs ls ⟨hM, hC, hP, hD, hS, hl⟩
set_option maxHeartbeats 4000000 in
set_option maxRecDepth 100000 in
theorem lk_18 {p : Program} {l : Launch} {e : Env} {s : State} {m : MethodId} {below : List Frame} {meth : Method} {c : Code} {b L : Nat} {xs : Nat → Int32} {D : va_G} {cs : rr_C3} {ad bd : Nat → Nat} {oc i cells slots : Nat} {μ ρ : NS} {t9 : Nat} {f : Nat → Int64} {H : Heap} {locs : List Loc} {ls : Array Slot} (C1 : lwC p l s m meth c b L xs D cs) (hcl : cells + 1 ≤ 1090 ∧ slots + 6 ≤ 11478) (hi : i + 4 ≤ L) (G : lwGo p l e s m below meth c b D cs ad bd oc i (cells + 1) (slots + 6)) (h : lwS s b D cs ad bd oc i μ ρ t9 f H locs ls) : W p l e room_1 s m #[Value.ref b] below meth c H locs cells slots (lw_Z below #[Value.ref b] s) (F0 m 900 ls []) := by
  obtain ⟨S, hr, hlk, hfl, hL, hX, hbl, hK, hY, hX9, hZ⟩ := id C1
  obtain ⟨hM, hC, hP, hD, hS, hl⟩ := h
  obtain ⟨hx, hb, hml, hown, ht⟩ := id S
  have hA : ∀ q : Nat, s.heap.size ≤ q → lwA s q := fun _ h => h
  have hbA : ¬ lwA s b := Nat.not_le.mpr hbl
  refine lv_aload_n hx hb d_law_900 rfl (lv_at hl 2 rfl) ?_
  refine lv_aload_n hx hb d_law_901 rfl (lv_at hl 1 rfl) ?_
  refine lv_iload hx hb d_law_902 (lv_at hl 0 rfl) ?_
  refine lv_iconst (v := nI 1) hx hb d_law_904 (by decide) ?_
  refine rr_iadd (a := i) (b := 1) hx hb d_law_905 ?_
  refine va_sld hx hb hX hbl hbA hS (vp_in_nI (by omega) (by omega)) d_law_906 ?_
  refine lv_aload_n hx hb d_law_907 rfl (lv_at hl 4 rfl) ?_
  refine rr_wS (As := [.ref (ad 0), .int (xs (nI (i + 1)).toNatClampNeg), .ref oc]) (rest := []) (idx := 148) (wr := mwL cs bd μ t9) S hK hY hX9 hZ hP hD hS hA (c_A_decided l D cs ad oc μ ρ f (xs (nI (i + 1)).toNatClampNeg) hM hC  hfl H.size) k_A_decided ([0, 1, 2, 3, 4, 5, 6, 7, 8, 9, 10, 11, 12, 13, 14, 15, 16, 17, 18, 19, 20, 21, 22, 23] ++ [42]) [24, 25, 26, 27, 28, 29, 30, 31, 32, 33, 34, 35, 36, 37, 38, 39, 40, 41] rfl (by decide) rfl (by decide) (by decide) q_510 ⟨Nat.le_of_ble_eq_true rfl, Nat.le_of_ble_eq_true rfl⟩ hcl hl (Nat.le_of_ble_eq_true rfl) rfl d_law_908 (fun r u H locs hp hP hD hS => ?_)
  obtain ⟨u1, u2, u3⟩ := u
  obtain ⟨rfl, hp⟩ := hp
  dsimp only at hp
  have hP := hP.sub (ws' := cwL cs ad u1 u2 ++ mwL cs bd μ t9 ++ [ouL cs oc u3]) ([18, 19, 20, 21, 22, 23, 24, 25, 26, 27, 28, 29, 30, 31, 32, 33, 34, 35, 36, 37, 38, 39, 40, 41] ++ [0, 1, 2, 3, 4, 5, 6, 7, 8, 9, 10, 11, 12, 13, 14, 15, 16, 17] ++ [42]) rfl
  have hD := hD.sub (ws' := cwL cs ad u1 u2 ++ mwL cs bd μ t9 ++ [ouL cs oc u3]) ([18, 19, 20, 21, 22, 23, 24, 25, 26, 27, 28, 29, 30, 31, 32, 33, 34, 35, 36, 37, 38, 39, 40, 41] ++ [0, 1, 2, 3, 4, 5, 6, 7, 8, 9, 10, 11, 12, 13, 14, 15, 16, 17] ++ [42]) (by decide) rfl
  refine lv_istore (lv' := [(5, .int (nI (thDec μ (xs (nI (i + 1)).toNatClampNeg)))), (4, .int (nI i)), (0, .ref b), (1, .ref (ad 0)), (2, .ref (bd 0)), (3, .ref oc)]) hx hb d_law_911 hl (by decide) rfl (fun ls hl => ?_)
  refine lv_aload_n hx hb d_law_913 rfl (lv_at hl 4 rfl) ?_
  refine lv_aload_n hx hb d_law_914 rfl (lv_at hl 2 rfl) ?_
  refine lv_iload hx hb d_law_915 (lv_at hl 1 rfl) ?_
  refine lv_iconst (v := nI 1) hx hb d_law_917 (by decide) ?_
  refine rr_iadd (a := i) (b := 1) hx hb d_law_918 ?_
  refine va_sld hx hb hX hbl hbA hS (vp_in_nI (by omega) (by omega)) d_law_919 ?_
  refine rr_mVi (As := [.int (xs (nI (i + 1)).toNatClampNeg)]) (rest := []) (idx := 150) (q0 := 24) (ci := 6) (wr := cwL cs ad u1 u2 ++ [ouL cs oc u3]) S hK hP hD hS hA (c_M_decided l D cs bd μ t9 (xs (nI (i + 1)).toNatClampNeg) hM  H.size) k_M_decided [24, 25, 26, 27, 28, 29, 30, 31, 32, 33, 34, 35, 36, 37, 38, 39, 40, 41] ([0, 1, 2, 3, 4, 5, 6, 7, 8, 9, 10, 11, 12, 13, 14, 15, 16, 17, 18, 19, 20, 21, 22, 23] ++ [42]) rfl (by decide) rfl (by decide) (by decide) rfl rfl rfl q_783 ⟨Nat.le_of_ble_eq_true rfl, Nat.le_of_ble_eq_true rfl⟩ hcl hl (Nat.le_of_ble_eq_true rfl) rfl d_law_920 (fun r9 u9 H locs hp9 hP hD hS => ?_)
  rcases hp with ⟨h0, e1, e2, e3⟩ | ⟨h0, e1⟩
  · have e1 := e1.symm
    have e2 := e2.symm
    subst e1
    subst e2
    rcases hp9 with ⟨-, e5⟩ | z
    · subst e5
      have hP := hP.sub (ws' := lwW cs ad bd oc μ ρ (thDec μ (xs (nI (i + 1)).toNatClampNeg)) u3) ([0, 1, 2, 3, 4, 5, 6, 7, 8, 9, 10, 11, 12, 13, 14, 15, 16, 17, 18, 19, 20, 21, 22, 23] ++ [25, 26, 27, 28, 29, 30, 31, 32, 33, 34, 35, 36, 37, 38, 39, 40, 41, 42] ++ [24]) rfl
      have hD := hD.sub (ws' := lwW cs ad bd oc μ ρ (thDec μ (xs (nI (i + 1)).toNatClampNeg)) u3) ([0, 1, 2, 3, 4, 5, 6, 7, 8, 9, 10, 11, 12, 13, 14, 15, 16, 17, 18, 19, 20, 21, 22, 23] ++ [25, 26, 27, 28, 29, 30, 31, 32, 33, 34, 35, 36, 37, 38, 39, 40, 41, 42] ++ [24]) (by decide) rfl
      exact lw_tail C1 (t := 923) hcl G hM hC (thDec_le μ (xs (nI (i + 1)).toNatClampNeg)) (fun _ => e3) d_law_923 d_law_925 d_law_926 d_law_929 d_law_931 d_law_936 d_law_938 d_law_941 d_law_942 d_law_943 d_law_944 d_law_946 d_law_947 d_law_948 d_law_953 (by decide) hP hD hS hl
    · exact absurd h0 z
  · have e2 : μ = u1 := (congrArg (fun z => z.1) e1).symm
    have e3 : ρ = u2 := (congrArg (fun z => z.2.1) e1).symm
    have e4 : f = u3 := (congrArg (fun z => z.2.2) e1).symm
    subst e2
    subst e3
    subst e4
    have hP := hP.sub (ws' := lwW cs ad bd oc μ ρ (thDec μ (xs (nI (i + 1)).toNatClampNeg)) f) ([0, 1, 2, 3, 4, 5, 6, 7, 8, 9, 10, 11, 12, 13, 14, 15, 16, 17, 18, 19, 20, 21, 22, 23] ++ [25, 26, 27, 28, 29, 30, 31, 32, 33, 34, 35, 36, 37, 38, 39, 40, 41, 42] ++ [24]) rfl
    have hD := hD.sub (ws' := lwW cs ad bd oc μ ρ (thDec μ (xs (nI (i + 1)).toNatClampNeg)) f) ([0, 1, 2, 3, 4, 5, 6, 7, 8, 9, 10, 11, 12, 13, 14, 15, 16, 17, 18, 19, 20, 21, 22, 23] ++ [25, 26, 27, 28, 29, 30, 31, 32, 33, 34, 35, 36, 37, 38, 39, 40, 41, 42] ++ [24]) (by decide) rfl
    exact lw_tail C1 (t := 923) hcl G hM hC (thDec_le μ (xs (nI (i + 1)).toNatClampNeg)) (fun z => absurd z h0) d_law_923 d_law_925 d_law_926 d_law_929 d_law_931 d_law_936 d_law_938 d_law_941 d_law_942 d_law_943 d_law_944 d_law_946 d_law_947 d_law_948 d_law_953 (by decide) hP hD hS hl
set_option maxHeartbeats 4000000 in
set_option maxRecDepth 100000 in
theorem lk_19 {p : Program} {l : Launch} {e : Env} {s : State} {m : MethodId} {below : List Frame} {meth : Method} {c : Code} {b L : Nat} {xs : Nat → Int32} {D : va_G} {cs : rr_C3} {ad bd : Nat → Nat} {oc i cells slots : Nat} {μ ρ : NS} {t9 : Nat} {f : Nat → Int64} {H : Heap} {locs : List Loc} {ls : Array Slot} (C1 : lwC p l s m meth c b L xs D cs) (hcl : cells + 1 ≤ 1090 ∧ slots + 6 ≤ 11478) (hi : i + 4 ≤ L) (G : lwGo p l e s m below meth c b D cs ad bd oc i (cells + 1) (slots + 6)) (h : lwS s b D cs ad bd oc i μ ρ t9 f H locs ls) : W p l e room_1 s m #[Value.ref b] below meth c H locs cells slots (lw_Z below #[Value.ref b] s) (F0 m 956 ls []) := by
  obtain ⟨S, hr, hlk, hfl, hL, hX, hbl, hK, hY, hX9, hZ⟩ := id C1
  obtain ⟨hM, hC, hP, hD, hS, hl⟩ := h
  obtain ⟨hx, hb, hml, hown, ht⟩ := id S
  have hA : ∀ q : Nat, s.heap.size ≤ q → lwA s q := fun _ h => h
  have hbA : ¬ lwA s b := Nat.not_le.mpr hbl
  refine lv_aload_n hx hb d_law_956 rfl (lv_at hl 2 rfl) ?_
  refine lv_aload_n hx hb d_law_957 rfl (lv_at hl 1 rfl) ?_
  refine lv_iload hx hb d_law_958 (lv_at hl 0 rfl) ?_
  refine lv_iconst (v := nI 1) hx hb d_law_960 (by decide) ?_
  refine rr_iadd (a := i) (b := 1) hx hb d_law_961 ?_
  refine va_sld hx hb hX hbl hbA hS (vp_in_nI (by omega) (by omega)) d_law_962 ?_
  refine lv_aload_n hx hb d_law_963 rfl (lv_at hl 4 rfl) ?_
  refine rr_wS (As := [.ref (ad 0), .int (xs (nI (i + 1)).toNatClampNeg), .ref oc]) (rest := []) (idx := 151) (wr := mwL cs bd μ t9) S hK hY hX9 hZ hP hD hS hA (c_A_minutes l D cs ad oc μ ρ f (xs (nI (i + 1)).toNatClampNeg) hM hC  hfl H.size) k_A_minutes ([0, 1, 2, 3, 4, 5, 6, 7, 8, 9, 10, 11, 12, 13, 14, 15, 16, 17, 18, 19, 20, 21, 22, 23] ++ [42]) [24, 25, 26, 27, 28, 29, 30, 31, 32, 33, 34, 35, 36, 37, 38, 39, 40, 41] rfl (by decide) rfl (by decide) (by decide) q_518 ⟨Nat.le_of_ble_eq_true rfl, Nat.le_of_ble_eq_true rfl⟩ hcl hl (Nat.le_of_ble_eq_true rfl) rfl d_law_964 (fun r u H locs hp hP hD hS => ?_)
  obtain ⟨u1, u2, u3⟩ := u
  obtain ⟨rfl, hp⟩ := hp
  dsimp only at hp
  have hP := hP.sub (ws' := cwL cs ad u1 u2 ++ mwL cs bd μ t9 ++ [ouL cs oc u3]) ([18, 19, 20, 21, 22, 23, 24, 25, 26, 27, 28, 29, 30, 31, 32, 33, 34, 35, 36, 37, 38, 39, 40, 41] ++ [0, 1, 2, 3, 4, 5, 6, 7, 8, 9, 10, 11, 12, 13, 14, 15, 16, 17] ++ [42]) rfl
  have hD := hD.sub (ws' := cwL cs ad u1 u2 ++ mwL cs bd μ t9 ++ [ouL cs oc u3]) ([18, 19, 20, 21, 22, 23, 24, 25, 26, 27, 28, 29, 30, 31, 32, 33, 34, 35, 36, 37, 38, 39, 40, 41] ++ [0, 1, 2, 3, 4, 5, 6, 7, 8, 9, 10, 11, 12, 13, 14, 15, 16, 17] ++ [42]) (by decide) rfl
  refine lv_istore (lv' := [(5, .int (nI (thMin (xs (nI (i + 1)).toNatClampNeg)))), (4, .int (nI i)), (0, .ref b), (1, .ref (ad 0)), (2, .ref (bd 0)), (3, .ref oc)]) hx hb d_law_967 hl (by decide) rfl (fun ls hl => ?_)
  refine lv_aload_n hx hb d_law_969 rfl (lv_at hl 4 rfl) ?_
  refine lv_aload_n hx hb d_law_970 rfl (lv_at hl 2 rfl) ?_
  refine lv_iload hx hb d_law_971 (lv_at hl 1 rfl) ?_
  refine lv_iconst (v := nI 1) hx hb d_law_973 (by decide) ?_
  refine rr_iadd (a := i) (b := 1) hx hb d_law_974 ?_
  refine va_sld hx hb hX hbl hbA hS (vp_in_nI (by omega) (by omega)) d_law_975 ?_
  refine rr_mVi (As := [.int (xs (nI (i + 1)).toNatClampNeg)]) (rest := []) (idx := 153) (q0 := 24) (ci := 6) (wr := cwL cs ad u1 u2 ++ [ouL cs oc u3]) S hK hP hD hS hA (c_M_minutes l D cs bd μ t9 (xs (nI (i + 1)).toNatClampNeg) hM  H.size) k_M_minutes [24, 25, 26, 27, 28, 29, 30, 31, 32, 33, 34, 35, 36, 37, 38, 39, 40, 41] ([0, 1, 2, 3, 4, 5, 6, 7, 8, 9, 10, 11, 12, 13, 14, 15, 16, 17, 18, 19, 20, 21, 22, 23] ++ [42]) rfl (by decide) rfl (by decide) (by decide) rfl rfl rfl q_787 ⟨Nat.le_of_ble_eq_true rfl, Nat.le_of_ble_eq_true rfl⟩ hcl hl (Nat.le_of_ble_eq_true rfl) rfl d_law_976 (fun r9 u9 H locs hp9 hP hD hS => ?_)
  rcases hp with ⟨h0, e1, e2, e3⟩ | ⟨h0, e1⟩
  · have e1 := e1.symm
    have e2 := e2.symm
    subst e1
    subst e2
    rcases hp9 with ⟨-, e5⟩ | z
    · subst e5
      have hP := hP.sub (ws' := lwW cs ad bd oc μ ρ (thMin (xs (nI (i + 1)).toNatClampNeg)) u3) ([0, 1, 2, 3, 4, 5, 6, 7, 8, 9, 10, 11, 12, 13, 14, 15, 16, 17, 18, 19, 20, 21, 22, 23] ++ [25, 26, 27, 28, 29, 30, 31, 32, 33, 34, 35, 36, 37, 38, 39, 40, 41, 42] ++ [24]) rfl
      have hD := hD.sub (ws' := lwW cs ad bd oc μ ρ (thMin (xs (nI (i + 1)).toNatClampNeg)) u3) ([0, 1, 2, 3, 4, 5, 6, 7, 8, 9, 10, 11, 12, 13, 14, 15, 16, 17, 18, 19, 20, 21, 22, 23] ++ [25, 26, 27, 28, 29, 30, 31, 32, 33, 34, 35, 36, 37, 38, 39, 40, 41, 42] ++ [24]) (by decide) rfl
      exact lw_tail C1 (t := 979) hcl G hM hC (thMin_le (xs (nI (i + 1)).toNatClampNeg)) (fun _ => e3) d_law_979 d_law_981 d_law_982 d_law_985 d_law_987 d_law_992 d_law_994 d_law_997 d_law_998 d_law_999 d_law_1000 d_law_1002 d_law_1003 d_law_1004 d_law_1009 (by decide) hP hD hS hl
    · exact absurd h0 z
  · have e2 : μ = u1 := (congrArg (fun z => z.1) e1).symm
    have e3 : ρ = u2 := (congrArg (fun z => z.2.1) e1).symm
    have e4 : f = u3 := (congrArg (fun z => z.2.2) e1).symm
    subst e2
    subst e3
    subst e4
    have hP := hP.sub (ws' := lwW cs ad bd oc μ ρ (thMin (xs (nI (i + 1)).toNatClampNeg)) f) ([0, 1, 2, 3, 4, 5, 6, 7, 8, 9, 10, 11, 12, 13, 14, 15, 16, 17, 18, 19, 20, 21, 22, 23] ++ [25, 26, 27, 28, 29, 30, 31, 32, 33, 34, 35, 36, 37, 38, 39, 40, 41, 42] ++ [24]) rfl
    have hD := hD.sub (ws' := lwW cs ad bd oc μ ρ (thMin (xs (nI (i + 1)).toNatClampNeg)) f) ([0, 1, 2, 3, 4, 5, 6, 7, 8, 9, 10, 11, 12, 13, 14, 15, 16, 17, 18, 19, 20, 21, 22, 23] ++ [25, 26, 27, 28, 29, 30, 31, 32, 33, 34, 35, 36, 37, 38, 39, 40, 41, 42] ++ [24]) (by decide) rfl
    exact lw_tail C1 (t := 979) hcl G hM hC (thMin_le (xs (nI (i + 1)).toNatClampNeg)) (fun z => absurd z h0) d_law_979 d_law_981 d_law_982 d_law_985 d_law_987 d_law_992 d_law_994 d_law_997 d_law_998 d_law_999 d_law_1000 d_law_1002 d_law_1003 d_law_1004 d_law_1009 (by decide) hP hD hS hl
