set_option maxHeartbeats 4000000 in
set_option maxRecDepth 100000 in
theorem lk_20 {p : Program} {l : Launch} {e : Env} {s : State} {m : MethodId} {below : List Frame} {meth : Method} {c : Code} {b L : Nat} {xs : Nat → Int32} {D : va_G} {cs : rr_C3} {ad bd : Nat → Nat} {oc i cells slots : Nat} {μ ρ : NS} {t9 : Nat} {f : Nat → Int64} {H : Heap} {locs : List Loc} {ls : Array Slot} (C1 : lwC p l s m meth c b L xs D cs) (hcl : cells + 1 ≤ 1090 ∧ slots + 6 ≤ 11478) (hi : i + 4 ≤ L) (G : lwGo p l e s m below meth c b D cs ad bd oc i (cells + 1) (slots + 6)) (h : lwS s b D cs ad bd oc i μ ρ t9 f H locs ls) : W p l e room_1 s m #[Value.ref b] below meth c H locs cells slots (lw_Z below #[Value.ref b] s) (F0 m 1012 ls []) := by
  obtain ⟨S, hr, hlk, hfl, hL, hX, hbl, hK, hY, hX9, hZ⟩ := id C1
  obtain ⟨hM, hC, hP, hD, hS, hl⟩ := h
  obtain ⟨hx, hb, hml, hown, ht⟩ := id S
  have hA : ∀ q : Nat, s.heap.size ≤ q → lwA s q := fun _ h => h
  have hbA : ¬ lwA s b := Nat.not_le.mpr hbl
  refine lv_aload_n hx hb d_law_1012 rfl (lv_at hl 2 rfl) ?_
  refine lv_aload_n hx hb d_law_1013 rfl (lv_at hl 1 rfl) ?_
  refine lv_iload hx hb d_law_1014 (lv_at hl 0 rfl) ?_
  refine lv_iconst (v := nI 1) hx hb d_law_1016 (by decide) ?_
  refine rr_iadd (a := i) (b := 1) hx hb d_law_1017 ?_
  refine va_sld hx hb hX hbl hbA hS (vp_in_nI (by omega) (by omega)) d_law_1018 ?_
  refine lv_aload_n hx hb d_law_1019 rfl (lv_at hl 1 rfl) ?_
  refine lv_iload hx hb d_law_1020 (lv_at hl 0 rfl) ?_
  refine lv_iconst (v := nI 2) hx hb d_law_1022 (by decide) ?_
  refine rr_iadd (a := i) (b := 2) hx hb d_law_1023 ?_
  refine va_sld hx hb hX hbl hbA hS (vp_in_nI (by omega) (by omega)) d_law_1024 ?_
  refine lv_aload_n hx hb d_law_1025 rfl (lv_at hl 1 rfl) ?_
  refine lv_iload hx hb d_law_1026 (lv_at hl 0 rfl) ?_
  refine lv_iconst (v := nI 3) hx hb d_law_1028 (by decide) ?_
  refine rr_iadd (a := i) (b := 3) hx hb d_law_1029 ?_
  refine va_sld hx hb hX hbl hbA hS (vp_in_nI (by omega) (by omega)) d_law_1030 ?_
  refine lv_aload_n hx hb d_law_1031 rfl (lv_at hl 4 rfl) ?_
  refine rr_wS (As := [.ref (ad 0), .int (xs (nI (i + 1)).toNatClampNeg), .int (xs (nI (i + 2)).toNatClampNeg), .int (xs (nI (i + 3)).toNatClampNeg), .ref oc]) (rest := []) (idx := 154) (wr := mwL cs bd μ t9) S hK hY hX9 hZ hP hD hS hA (c_A_board l D cs ad oc μ ρ f (xs (nI (i + 1)).toNatClampNeg) (xs (nI (i + 2)).toNatClampNeg) (xs (nI (i + 3)).toNatClampNeg) hM hC  hfl H.size) k_A_board ([0, 1, 2, 3, 4, 5, 6, 7, 8, 9, 10, 11, 12, 13, 14, 15, 16, 17, 18, 19, 20, 21, 22, 23] ++ [42]) [24, 25, 26, 27, 28, 29, 30, 31, 32, 33, 34, 35, 36, 37, 38, 39, 40, 41] rfl (by decide) rfl (by decide) (by decide) q_526 ⟨Nat.le_of_ble_eq_true rfl, Nat.le_of_ble_eq_true rfl⟩ hcl hl (Nat.le_of_ble_eq_true rfl) rfl d_law_1032 (fun r u H locs hp hP hD hS => ?_)
  obtain ⟨u1, u2, u3⟩ := u
  obtain ⟨rfl, hp⟩ := hp
  dsimp only at hp
  have hP := hP.sub (ws' := cwL cs ad u1 u2 ++ mwL cs bd μ t9 ++ [ouL cs oc u3]) ([18, 19, 20, 21, 22, 23, 24, 25, 26, 27, 28, 29, 30, 31, 32, 33, 34, 35, 36, 37, 38, 39, 40, 41] ++ [0, 1, 2, 3, 4, 5, 6, 7, 8, 9, 10, 11, 12, 13, 14, 15, 16, 17] ++ [42]) rfl
  have hD := hD.sub (ws' := cwL cs ad u1 u2 ++ mwL cs bd μ t9 ++ [ouL cs oc u3]) ([18, 19, 20, 21, 22, 23, 24, 25, 26, 27, 28, 29, 30, 31, 32, 33, 34, 35, 36, 37, 38, 39, 40, 41] ++ [0, 1, 2, 3, 4, 5, 6, 7, 8, 9, 10, 11, 12, 13, 14, 15, 16, 17] ++ [42]) (by decide) rfl
  refine lv_istore (lv' := [(5, .int (nI (thBoa μ (xs (nI (i + 1)).toNatClampNeg) (xs (nI (i + 2)).toNatClampNeg) (xs (nI (i + 3)).toNatClampNeg)))), (4, .int (nI i)), (0, .ref b), (1, .ref (ad 0)), (2, .ref (bd 0)), (3, .ref oc)]) hx hb d_law_1035 hl (by decide) rfl (fun ls hl => ?_)
  refine lv_aload_n hx hb d_law_1037 rfl (lv_at hl 4 rfl) ?_
  refine lv_aload_n hx hb d_law_1038 rfl (lv_at hl 2 rfl) ?_
  refine lv_iload hx hb d_law_1039 (lv_at hl 1 rfl) ?_
  refine lv_iconst (v := nI 1) hx hb d_law_1041 (by decide) ?_
  refine rr_iadd (a := i) (b := 1) hx hb d_law_1042 ?_
  refine va_sld hx hb hX hbl hbA hS (vp_in_nI (by omega) (by omega)) d_law_1043 ?_
  refine lv_aload_n hx hb d_law_1044 rfl (lv_at hl 2 rfl) ?_
  refine lv_iload hx hb d_law_1045 (lv_at hl 1 rfl) ?_
  refine lv_iconst (v := nI 2) hx hb d_law_1047 (by decide) ?_
  refine rr_iadd (a := i) (b := 2) hx hb d_law_1048 ?_
  refine va_sld hx hb hX hbl hbA hS (vp_in_nI (by omega) (by omega)) d_law_1049 ?_
  refine lv_aload_n hx hb d_law_1050 rfl (lv_at hl 2 rfl) ?_
  refine lv_iload hx hb d_law_1051 (lv_at hl 1 rfl) ?_
  refine lv_iconst (v := nI 3) hx hb d_law_1053 (by decide) ?_
  refine rr_iadd (a := i) (b := 3) hx hb d_law_1054 ?_
  refine va_sld hx hb hX hbl hbA hS (vp_in_nI (by omega) (by omega)) d_law_1055 ?_
  refine rr_mVi (As := [.int (xs (nI (i + 1)).toNatClampNeg), .int (xs (nI (i + 2)).toNatClampNeg), .int (xs (nI (i + 3)).toNatClampNeg)]) (rest := []) (idx := 156) (q0 := 24) (ci := 6) (wr := cwL cs ad u1 u2 ++ [ouL cs oc u3]) S hK hP hD hS hA (c_M_board l D cs bd μ t9 (xs (nI (i + 1)).toNatClampNeg) (xs (nI (i + 2)).toNatClampNeg) (xs (nI (i + 3)).toNatClampNeg) hM  H.size) k_M_board [24, 25, 26, 27, 28, 29, 30, 31, 32, 33, 34, 35, 36, 37, 38, 39, 40, 41] ([0, 1, 2, 3, 4, 5, 6, 7, 8, 9, 10, 11, 12, 13, 14, 15, 16, 17, 18, 19, 20, 21, 22, 23] ++ [42]) rfl (by decide) rfl (by decide) (by decide) rfl rfl rfl q_791 ⟨Nat.le_of_ble_eq_true rfl, Nat.le_of_ble_eq_true rfl⟩ hcl hl (Nat.le_of_ble_eq_true rfl) rfl d_law_1056 (fun r9 u9 H locs hp9 hP hD hS => ?_)
  rcases hp with ⟨h0, e1, e2, e3⟩ | ⟨h0, e1⟩
  · have e1 := e1.symm
    have e2 := e2.symm
    subst e1
    subst e2
    rcases hp9 with ⟨-, e4, e5⟩ | ⟨z, -⟩
    · have e4 := e4.symm
      subst e4
      subst e5
      have hP := hP.sub (ws' := lwW cs ad bd oc (muBoa μ (ix 16 (xs (nI (i + 1)).toNatClampNeg)) (ix 9 (xs (nI (i + 2)).toNatClampNeg)) (ix 1001 (xs (nI (i + 3)).toNatClampNeg))) (roBoa μ ρ) (thBoa μ (xs (nI (i + 1)).toNatClampNeg) (xs (nI (i + 2)).toNatClampNeg) (xs (nI (i + 3)).toNatClampNeg)) u3) ([0, 1, 2, 3, 4, 5, 6, 7, 8, 9, 10, 11, 12, 13, 14, 15, 16, 17, 18, 19, 20, 21, 22, 23] ++ [25, 26, 27, 28, 29, 30, 31, 32, 33, 34, 35, 36, 37, 38, 39, 40, 41, 42] ++ [24]) rfl
      have hD := hD.sub (ws' := lwW cs ad bd oc (muBoa μ (ix 16 (xs (nI (i + 1)).toNatClampNeg)) (ix 9 (xs (nI (i + 2)).toNatClampNeg)) (ix 1001 (xs (nI (i + 3)).toNatClampNeg))) (roBoa μ ρ) (thBoa μ (xs (nI (i + 1)).toNatClampNeg) (xs (nI (i + 2)).toNatClampNeg) (xs (nI (i + 3)).toNatClampNeg)) u3) ([0, 1, 2, 3, 4, 5, 6, 7, 8, 9, 10, 11, 12, 13, 14, 15, 16, 17, 18, 19, 20, 21, 22, 23] ++ [25, 26, 27, 28, 29, 30, 31, 32, 33, 34, 35, 36, 37, 38, 39, 40, 41, 42] ++ [24]) (by decide) rfl
      have hboa9 : ix 16 (xs (nI (i + 1)).toNatClampNeg) < μ 3 0 ∧ μ 5 (ix 16 (xs (nI (i + 1)).toNatClampNeg)) = 0 ∧ 1 ≤ ix 9 (xs (nI (i + 2)).toNatClampNeg) ∧ ix 9 (xs (nI (i + 2)).toNatClampNeg) ≤ 8 ∧ ix 1001 (xs (nI (i + 3)).toNatClampNeg) ≤ 1000 ∧ μ 15 0 < 60 := by
        unfold thBoa at h0
        split at h0
        · rename_i q
          split at h0
          · rename_i q2
            split at h0
            · rename_i q3; exact ⟨q.1, q.2, q2.1, by omega, by omega, q3.2.2⟩
            · omega
          · omega
        · omega
      exact lw_tail C1 (t := 1059) hcl G (IM_boa hM hboa9.2.2.2.2.2 hboa9.1 hboa9.2.1 hboa9.2.2.1 hboa9.2.2.2.1 hboa9.2.2.2.2.1) (IC_boa hM hC _ _ _ hboa9.2.2.2.2.2) (thBoa_le μ (xs (nI (i + 1)).toNatClampNeg) (xs (nI (i + 2)).toNatClampNeg) (xs (nI (i + 3)).toNatClampNeg)) (fun _ => e3) d_law_1059 d_law_1061 d_law_1062 d_law_1065 d_law_1067 d_law_1072 d_law_1074 d_law_1077 d_law_1078 d_law_1079 d_law_1080 d_law_1082 d_law_1083 d_law_1084 d_law_1089 (by decide) hP hD hS hl
    · exact absurd h0 z
  · have e2 : μ = u1 := (congrArg (fun z => z.1) e1).symm
    have e3 : ρ = u2 := (congrArg (fun z => z.2.1) e1).symm
    have e4 : f = u3 := (congrArg (fun z => z.2.2) e1).symm
    subst e2
    subst e3
    subst e4
    rcases hp9 with ⟨z, -⟩ | ⟨-, e5⟩
    · exact absurd z h0
    · have e5 := e5.symm
      subst e5
      have hP := hP.sub (ws' := lwW cs ad bd oc μ ρ (thBoa μ (xs (nI (i + 1)).toNatClampNeg) (xs (nI (i + 2)).toNatClampNeg) (xs (nI (i + 3)).toNatClampNeg)) f) ([0, 1, 2, 3, 4, 5, 6, 7, 8, 9, 10, 11, 12, 13, 14, 15, 16, 17, 18, 19, 20, 21, 22, 23] ++ [25, 26, 27, 28, 29, 30, 31, 32, 33, 34, 35, 36, 37, 38, 39, 40, 41, 42] ++ [24]) rfl
      have hD := hD.sub (ws' := lwW cs ad bd oc μ ρ (thBoa μ (xs (nI (i + 1)).toNatClampNeg) (xs (nI (i + 2)).toNatClampNeg) (xs (nI (i + 3)).toNatClampNeg)) f) ([0, 1, 2, 3, 4, 5, 6, 7, 8, 9, 10, 11, 12, 13, 14, 15, 16, 17, 18, 19, 20, 21, 22, 23] ++ [25, 26, 27, 28, 29, 30, 31, 32, 33, 34, 35, 36, 37, 38, 39, 40, 41, 42] ++ [24]) (by decide) rfl
      exact lw_tail C1 (t := 1059) hcl G hM hC (thBoa_le μ (xs (nI (i + 1)).toNatClampNeg) (xs (nI (i + 2)).toNatClampNeg) (xs (nI (i + 3)).toNatClampNeg)) (fun z => absurd z h0) d_law_1059 d_law_1061 d_law_1062 d_law_1065 d_law_1067 d_law_1072 d_law_1074 d_law_1077 d_law_1078 d_law_1079 d_law_1080 d_law_1082 d_law_1083 d_law_1084 d_law_1089 (by decide) hP hD hS hl
set_option maxHeartbeats 4000000 in
set_option maxRecDepth 100000 in
theorem lk_21 {p : Program} {l : Launch} {e : Env} {s : State} {m : MethodId} {below : List Frame} {meth : Method} {c : Code} {b L : Nat} {xs : Nat → Int32} {D : va_G} {cs : rr_C3} {ad bd : Nat → Nat} {oc i cells slots : Nat} {μ ρ : NS} {t9 : Nat} {f : Nat → Int64} {H : Heap} {locs : List Loc} {ls : Array Slot} (C1 : lwC p l s m meth c b L xs D cs) (hcl : cells + 1 ≤ 1090 ∧ slots + 6 ≤ 11478) (hi : i + 4 ≤ L) (G : lwGo p l e s m below meth c b D cs ad bd oc i (cells + 1) (slots + 6)) (h : lwS s b D cs ad bd oc i μ ρ t9 f H locs ls) : W p l e room_1 s m #[Value.ref b] below meth c H locs cells slots (lw_Z below #[Value.ref b] s) (F0 m 1092 ls []) := by
  obtain ⟨S, hr, hlk, hfl, hL, hX, hbl, hK, hY, hX9, hZ⟩ := id C1
  obtain ⟨hM, hC, hP, hD, hS, hl⟩ := h
  obtain ⟨hx, hb, hml, hown, ht⟩ := id S
  have hA : ∀ q : Nat, s.heap.size ≤ q → lwA s q := fun _ h => h
  have hbA : ¬ lwA s b := Nat.not_le.mpr hbl
  refine lv_aload_n hx hb d_law_1092 rfl (lv_at hl 2 rfl) ?_
  refine lv_aload_n hx hb d_law_1093 rfl (lv_at hl 1 rfl) ?_
  refine lv_iload hx hb d_law_1094 (lv_at hl 0 rfl) ?_
  refine lv_iconst (v := nI 1) hx hb d_law_1096 (by decide) ?_
  refine rr_iadd (a := i) (b := 1) hx hb d_law_1097 ?_
  refine va_sld hx hb hX hbl hbA hS (vp_in_nI (by omega) (by omega)) d_law_1098 ?_
  refine lv_aload_n hx hb d_law_1099 rfl (lv_at hl 4 rfl) ?_
  refine rr_wS (As := [.ref (ad 0), .int (xs (nI (i + 1)).toNatClampNeg), .ref oc]) (rest := []) (idx := 157) (wr := mwL cs bd μ t9) S hK hY hX9 hZ hP hD hS hA (c_A_people l D cs ad oc μ ρ f (xs (nI (i + 1)).toNatClampNeg) hM hC  hfl H.size) k_A_people ([0, 1, 2, 3, 4, 5, 6, 7, 8, 9, 10, 11, 12, 13, 14, 15, 16, 17, 18, 19, 20, 21, 22, 23] ++ [42]) [24, 25, 26, 27, 28, 29, 30, 31, 32, 33, 34, 35, 36, 37, 38, 39, 40, 41] rfl (by decide) rfl (by decide) (by decide) q_544 ⟨Nat.le_of_ble_eq_true rfl, Nat.le_of_ble_eq_true rfl⟩ hcl hl (Nat.le_of_ble_eq_true rfl) rfl d_law_1100 (fun r u H locs hp hP hD hS => ?_)
  obtain ⟨u1, u2, u3⟩ := u
  obtain ⟨rfl, hp⟩ := hp
  dsimp only at hp
  have hP := hP.sub (ws' := cwL cs ad u1 u2 ++ mwL cs bd μ t9 ++ [ouL cs oc u3]) ([18, 19, 20, 21, 22, 23, 24, 25, 26, 27, 28, 29, 30, 31, 32, 33, 34, 35, 36, 37, 38, 39, 40, 41] ++ [0, 1, 2, 3, 4, 5, 6, 7, 8, 9, 10, 11, 12, 13, 14, 15, 16, 17] ++ [42]) rfl
  have hD := hD.sub (ws' := cwL cs ad u1 u2 ++ mwL cs bd μ t9 ++ [ouL cs oc u3]) ([18, 19, 20, 21, 22, 23, 24, 25, 26, 27, 28, 29, 30, 31, 32, 33, 34, 35, 36, 37, 38, 39, 40, 41] ++ [0, 1, 2, 3, 4, 5, 6, 7, 8, 9, 10, 11, 12, 13, 14, 15, 16, 17] ++ [42]) (by decide) rfl
  refine lv_istore (lv' := [(5, .int (nI (thCar μ (xs (nI (i + 1)).toNatClampNeg)))), (4, .int (nI i)), (0, .ref b), (1, .ref (ad 0)), (2, .ref (bd 0)), (3, .ref oc)]) hx hb d_law_1103 hl (by decide) rfl (fun ls hl => ?_)
  refine lv_aload_n hx hb d_law_1105 rfl (lv_at hl 4 rfl) ?_
  refine lv_aload_n hx hb d_law_1106 rfl (lv_at hl 2 rfl) ?_
  refine lv_iload hx hb d_law_1107 (lv_at hl 1 rfl) ?_
  refine lv_iconst (v := nI 1) hx hb d_law_1109 (by decide) ?_
  refine rr_iadd (a := i) (b := 1) hx hb d_law_1110 ?_
  refine va_sld hx hb hX hbl hbA hS (vp_in_nI (by omega) (by omega)) d_law_1111 ?_
  refine rr_mVi (As := [.int (xs (nI (i + 1)).toNatClampNeg)]) (rest := []) (idx := 159) (q0 := 24) (ci := 6) (wr := cwL cs ad u1 u2 ++ [ouL cs oc u3]) S hK hP hD hS hA (c_M_people l D cs bd μ t9 (xs (nI (i + 1)).toNatClampNeg) hM  H.size) k_M_people [24, 25, 26, 27, 28, 29, 30, 31, 32, 33, 34, 35, 36, 37, 38, 39, 40, 41] ([0, 1, 2, 3, 4, 5, 6, 7, 8, 9, 10, 11, 12, 13, 14, 15, 16, 17, 18, 19, 20, 21, 22, 23] ++ [42]) rfl (by decide) rfl (by decide) (by decide) rfl rfl rfl q_795 ⟨Nat.le_of_ble_eq_true rfl, Nat.le_of_ble_eq_true rfl⟩ hcl hl (Nat.le_of_ble_eq_true rfl) rfl d_law_1112 (fun r9 u9 H locs hp9 hP hD hS => ?_)
  rcases hp with ⟨h0, e1, e2, e3⟩ | ⟨h0, e1⟩
  · have e1 := e1.symm
    have e2 := e2.symm
    subst e1
    subst e2
    rcases hp9 with ⟨-, e5⟩ | z
    · subst e5
      have hP := hP.sub (ws' := lwW cs ad bd oc μ ρ (thCar μ (xs (nI (i + 1)).toNatClampNeg)) u3) ([0, 1, 2, 3, 4, 5, 6, 7, 8, 9, 10, 11, 12, 13, 14, 15, 16, 17, 18, 19, 20, 21, 22, 23] ++ [25, 26, 27, 28, 29, 30, 31, 32, 33, 34, 35, 36, 37, 38, 39, 40, 41, 42] ++ [24]) rfl
      have hD := hD.sub (ws' := lwW cs ad bd oc μ ρ (thCar μ (xs (nI (i + 1)).toNatClampNeg)) u3) ([0, 1, 2, 3, 4, 5, 6, 7, 8, 9, 10, 11, 12, 13, 14, 15, 16, 17, 18, 19, 20, 21, 22, 23] ++ [25, 26, 27, 28, 29, 30, 31, 32, 33, 34, 35, 36, 37, 38, 39, 40, 41, 42] ++ [24]) (by decide) rfl
      exact lw_tail C1 (t := 1115) hcl G hM hC (thCar_le μ (xs (nI (i + 1)).toNatClampNeg)) (fun _ => e3) d_law_1115 d_law_1117 d_law_1118 d_law_1121 d_law_1123 d_law_1128 d_law_1130 d_law_1133 d_law_1134 d_law_1135 d_law_1136 d_law_1138 d_law_1139 d_law_1140 d_law_1145 (by decide) hP hD hS hl
    · exact absurd h0 z
  · have e2 : μ = u1 := (congrArg (fun z => z.1) e1).symm
    have e3 : ρ = u2 := (congrArg (fun z => z.2.1) e1).symm
    have e4 : f = u3 := (congrArg (fun z => z.2.2) e1).symm
    subst e2
    subst e3
    subst e4
    have hP := hP.sub (ws' := lwW cs ad bd oc μ ρ (thCar μ (xs (nI (i + 1)).toNatClampNeg)) f) ([0, 1, 2, 3, 4, 5, 6, 7, 8, 9, 10, 11, 12, 13, 14, 15, 16, 17, 18, 19, 20, 21, 22, 23] ++ [25, 26, 27, 28, 29, 30, 31, 32, 33, 34, 35, 36, 37, 38, 39, 40, 41, 42] ++ [24]) rfl
    have hD := hD.sub (ws' := lwW cs ad bd oc μ ρ (thCar μ (xs (nI (i + 1)).toNatClampNeg)) f) ([0, 1, 2, 3, 4, 5, 6, 7, 8, 9, 10, 11, 12, 13, 14, 15, 16, 17, 18, 19, 20, 21, 22, 23] ++ [25, 26, 27, 28, 29, 30, 31, 32, 33, 34, 35, 36, 37, 38, 39, 40, 41, 42] ++ [24]) (by decide) rfl
    exact lw_tail C1 (t := 1115) hcl G hM hC (thCar_le μ (xs (nI (i + 1)).toNatClampNeg)) (fun z => absurd z h0) d_law_1115 d_law_1117 d_law_1118 d_law_1121 d_law_1123 d_law_1128 d_law_1130 d_law_1133 d_law_1134 d_law_1135 d_law_1136 d_law_1138 d_law_1139 d_law_1140 d_law_1145 (by decide) hP hD hS hl
set_option maxHeartbeats 4000000 in
set_option maxRecDepth 100000 in
theorem lk_22 {p : Program} {l : Launch} {e : Env} {s : State} {m : MethodId} {below : List Frame} {meth : Method} {c : Code} {b L : Nat} {xs : Nat → Int32} {D : va_G} {cs : rr_C3} {ad bd : Nat → Nat} {oc i cells slots : Nat} {μ ρ : NS} {t9 : Nat} {f : Nat → Int64} {H : Heap} {locs : List Loc} {ls : Array Slot} (C1 : lwC p l s m meth c b L xs D cs) (hcl : cells + 1 ≤ 1090 ∧ slots + 6 ≤ 11478) (hi : i + 4 ≤ L) (G : lwGo p l e s m below meth c b D cs ad bd oc i (cells + 1) (slots + 6)) (h : lwS s b D cs ad bd oc i μ ρ t9 f H locs ls) : W p l e room_1 s m #[Value.ref b] below meth c H locs cells slots (lw_Z below #[Value.ref b] s) (F0 m 1148 ls []) := by
  obtain ⟨S, hr, hlk, hfl, hL, hX, hbl, hK, hY, hX9, hZ⟩ := id C1
  obtain ⟨hM, hC, hP, hD, hS, hl⟩ := h
  obtain ⟨hx, hb, hml, hown, ht⟩ := id S
  have hA : ∀ q : Nat, s.heap.size ≤ q → lwA s q := fun _ h => h
  have hbA : ¬ lwA s b := Nat.not_le.mpr hbl
  refine lv_aload_n hx hb d_law_1148 rfl (lv_at hl 2 rfl) ?_
  refine lv_aload_n hx hb d_law_1149 rfl (lv_at hl 1 rfl) ?_
  refine lv_iload hx hb d_law_1150 (lv_at hl 0 rfl) ?_
  refine lv_iconst (v := nI 1) hx hb d_law_1152 (by decide) ?_
  refine rr_iadd (a := i) (b := 1) hx hb d_law_1153 ?_
  refine va_sld hx hb hX hbl hbA hS (vp_in_nI (by omega) (by omega)) d_law_1154 ?_
  refine lv_aload_n hx hb d_law_1155 rfl (lv_at hl 4 rfl) ?_
  refine rr_wS (As := [.ref (ad 0), .int (xs (nI (i + 1)).toNatClampNeg), .ref oc]) (rest := []) (idx := 160) (wr := mwL cs bd μ t9) S hK hY hX9 hZ hP hD hS hA (c_A_arrived l D cs ad oc μ ρ f (xs (nI (i + 1)).toNatClampNeg) hM hC  hfl H.size) k_A_arrived ([0, 1, 2, 3, 4, 5, 6, 7, 8, 9, 10, 11, 12, 13, 14, 15, 16, 17, 18, 19, 20, 21, 22, 23] ++ [42]) [24, 25, 26, 27, 28, 29, 30, 31, 32, 33, 34, 35, 36, 37, 38, 39, 40, 41] rfl (by decide) rfl (by decide) (by decide) q_551 ⟨Nat.le_of_ble_eq_true rfl, Nat.le_of_ble_eq_true rfl⟩ hcl hl (Nat.le_of_ble_eq_true rfl) rfl d_law_1156 (fun r u H locs hp hP hD hS => ?_)
  obtain ⟨u1, u2, u3⟩ := u
  obtain ⟨rfl, hp⟩ := hp
  dsimp only at hp
  have hP := hP.sub (ws' := cwL cs ad u1 u2 ++ mwL cs bd μ t9 ++ [ouL cs oc u3]) ([18, 19, 20, 21, 22, 23, 24, 25, 26, 27, 28, 29, 30, 31, 32, 33, 34, 35, 36, 37, 38, 39, 40, 41] ++ [0, 1, 2, 3, 4, 5, 6, 7, 8, 9, 10, 11, 12, 13, 14, 15, 16, 17] ++ [42]) rfl
  have hD := hD.sub (ws' := cwL cs ad u1 u2 ++ mwL cs bd μ t9 ++ [ouL cs oc u3]) ([18, 19, 20, 21, 22, 23, 24, 25, 26, 27, 28, 29, 30, 31, 32, 33, 34, 35, 36, 37, 38, 39, 40, 41] ++ [0, 1, 2, 3, 4, 5, 6, 7, 8, 9, 10, 11, 12, 13, 14, 15, 16, 17] ++ [42]) (by decide) rfl
  refine lv_istore (lv' := [(5, .int (nI (thTic μ (xs (nI (i + 1)).toNatClampNeg)))), (4, .int (nI i)), (0, .ref b), (1, .ref (ad 0)), (2, .ref (bd 0)), (3, .ref oc)]) hx hb d_law_1159 hl (by decide) rfl (fun ls hl => ?_)
  refine lv_aload_n hx hb d_law_1161 rfl (lv_at hl 4 rfl) ?_
  refine lv_aload_n hx hb d_law_1162 rfl (lv_at hl 2 rfl) ?_
  refine lv_iload hx hb d_law_1163 (lv_at hl 1 rfl) ?_
  refine lv_iconst (v := nI 1) hx hb d_law_1165 (by decide) ?_
  refine rr_iadd (a := i) (b := 1) hx hb d_law_1166 ?_
  refine va_sld hx hb hX hbl hbA hS (vp_in_nI (by omega) (by omega)) d_law_1167 ?_
  refine rr_mVi (As := [.int (xs (nI (i + 1)).toNatClampNeg)]) (rest := []) (idx := 162) (q0 := 24) (ci := 6) (wr := cwL cs ad u1 u2 ++ [ouL cs oc u3]) S hK hP hD hS hA (c_M_arrived l D cs bd μ t9 (xs (nI (i + 1)).toNatClampNeg) hM  H.size) k_M_arrived [24, 25, 26, 27, 28, 29, 30, 31, 32, 33, 34, 35, 36, 37, 38, 39, 40, 41] ([0, 1, 2, 3, 4, 5, 6, 7, 8, 9, 10, 11, 12, 13, 14, 15, 16, 17, 18, 19, 20, 21, 22, 23] ++ [42]) rfl (by decide) rfl (by decide) (by decide) rfl rfl rfl q_799 ⟨Nat.le_of_ble_eq_true rfl, Nat.le_of_ble_eq_true rfl⟩ hcl hl (Nat.le_of_ble_eq_true rfl) rfl d_law_1168 (fun r9 u9 H locs hp9 hP hD hS => ?_)
  rcases hp with ⟨h0, e1, e2, e3⟩ | ⟨h0, e1⟩
  · have e1 := e1.symm
    have e2 := e2.symm
    subst e1
    subst e2
    rcases hp9 with ⟨-, e5⟩ | z
    · subst e5
      have hP := hP.sub (ws' := lwW cs ad bd oc μ ρ (thTic μ (xs (nI (i + 1)).toNatClampNeg)) u3) ([0, 1, 2, 3, 4, 5, 6, 7, 8, 9, 10, 11, 12, 13, 14, 15, 16, 17, 18, 19, 20, 21, 22, 23] ++ [25, 26, 27, 28, 29, 30, 31, 32, 33, 34, 35, 36, 37, 38, 39, 40, 41, 42] ++ [24]) rfl
      have hD := hD.sub (ws' := lwW cs ad bd oc μ ρ (thTic μ (xs (nI (i + 1)).toNatClampNeg)) u3) ([0, 1, 2, 3, 4, 5, 6, 7, 8, 9, 10, 11, 12, 13, 14, 15, 16, 17, 18, 19, 20, 21, 22, 23] ++ [25, 26, 27, 28, 29, 30, 31, 32, 33, 34, 35, 36, 37, 38, 39, 40, 41, 42] ++ [24]) (by decide) rfl
      exact lw_tail C1 (t := 1171) hcl G hM hC (thTic_le μ (xs (nI (i + 1)).toNatClampNeg)) (fun _ => e3) d_law_1171 d_law_1173 d_law_1174 d_law_1177 d_law_1179 d_law_1184 d_law_1186 d_law_1189 d_law_1190 d_law_1191 d_law_1192 d_law_1194 d_law_1195 d_law_1196 d_law_1201 (by decide) hP hD hS hl
    · exact absurd h0 z
  · have e2 : μ = u1 := (congrArg (fun z => z.1) e1).symm
    have e3 : ρ = u2 := (congrArg (fun z => z.2.1) e1).symm
    have e4 : f = u3 := (congrArg (fun z => z.2.2) e1).symm
    subst e2
    subst e3
    subst e4
    have hP := hP.sub (ws' := lwW cs ad bd oc μ ρ (thTic μ (xs (nI (i + 1)).toNatClampNeg)) f) ([0, 1, 2, 3, 4, 5, 6, 7, 8, 9, 10, 11, 12, 13, 14, 15, 16, 17, 18, 19, 20, 21, 22, 23] ++ [25, 26, 27, 28, 29, 30, 31, 32, 33, 34, 35, 36, 37, 38, 39, 40, 41, 42] ++ [24]) rfl
    have hD := hD.sub (ws' := lwW cs ad bd oc μ ρ (thTic μ (xs (nI (i + 1)).toNatClampNeg)) f) ([0, 1, 2, 3, 4, 5, 6, 7, 8, 9, 10, 11, 12, 13, 14, 15, 16, 17, 18, 19, 20, 21, 22, 23] ++ [25, 26, 27, 28, 29, 30, 31, 32, 33, 34, 35, 36, 37, 38, 39, 40, 41, 42] ++ [24]) (by decide) rfl
    exact lw_tail C1 (t := 1171) hcl G hM hC (thTic_le μ (xs (nI (i + 1)).toNatClampNeg)) (fun z => absurd z h0) d_law_1171 d_law_1173 d_law_1174 d_law_1177 d_law_1179 d_law_1184 d_law_1186 d_law_1189 d_law_1190 d_law_1191 d_law_1192 d_law_1194 d_law_1195 d_law_1196 d_law_1201 (by decide) hP hD hS hl
set_option maxHeartbeats 4000000 in
set_option maxRecDepth 100000 in
theorem lk_23 {p : Program} {l : Launch} {e : Env} {s : State} {m : MethodId} {below : List Frame} {meth : Method} {c : Code} {b L : Nat} {xs : Nat → Int32} {D : va_G} {cs : rr_C3} {ad bd : Nat → Nat} {oc i cells slots : Nat} {μ ρ : NS} {t9 : Nat} {f : Nat → Int64} {H : Heap} {locs : List Loc} {ls : Array Slot} (C1 : lwC p l s m meth c b L xs D cs) (hcl : cells + 1 ≤ 1090 ∧ slots + 6 ≤ 11478) (hi : i + 4 ≤ L) (G : lwGo p l e s m below meth c b D cs ad bd oc i (cells + 1) (slots + 6)) (h : lwS s b D cs ad bd oc i μ ρ t9 f H locs ls) : W p l e room_1 s m #[Value.ref b] below meth c H locs cells slots (lw_Z below #[Value.ref b] s) (F0 m 1204 ls []) := by
  obtain ⟨S, hr, hlk, hfl, hL, hX, hbl, hK, hY, hX9, hZ⟩ := id C1
  obtain ⟨hM, hC, hP, hD, hS, hl⟩ := h
  obtain ⟨hx, hb, hml, hown, ht⟩ := id S
  have hA : ∀ q : Nat, s.heap.size ≤ q → lwA s q := fun _ h => h
  have hbA : ¬ lwA s b := Nat.not_le.mpr hbl
  refine lv_aload_n hx hb d_law_1204 rfl (lv_at hl 2 rfl) ?_
  refine lv_aload_n hx hb d_law_1205 rfl (lv_at hl 1 rfl) ?_
  refine lv_iload hx hb d_law_1206 (lv_at hl 0 rfl) ?_
  refine lv_iconst (v := nI 1) hx hb d_law_1208 (by decide) ?_
  refine rr_iadd (a := i) (b := 1) hx hb d_law_1209 ?_
  refine va_sld hx hb hX hbl hbA hS (vp_in_nI (by omega) (by omega)) d_law_1210 ?_
  refine lv_aload_n hx hb d_law_1211 rfl (lv_at hl 4 rfl) ?_
  refine rr_wS (As := [.ref (ad 0), .int (xs (nI (i + 1)).toNatClampNeg), .ref oc]) (rest := []) (idx := 163) (wr := mwL cs bd μ t9) S hK hY hX9 hZ hP hD hS hA (c_A_hung l D cs ad oc μ ρ f (xs (nI (i + 1)).toNatClampNeg) hM hC  hfl H.size) k_A_hung ([0, 1, 2, 3, 4, 5, 6, 7, 8, 9, 10, 11, 12, 13, 14, 15, 16, 17, 18, 19, 20, 21, 22, 23] ++ [42]) [24, 25, 26, 27, 28, 29, 30, 31, 32, 33, 34, 35, 36, 37, 38, 39, 40, 41] rfl (by decide) rfl (by decide) (by decide) q_563 ⟨Nat.le_of_ble_eq_true rfl, Nat.le_of_ble_eq_true rfl⟩ hcl hl (Nat.le_of_ble_eq_true rfl) rfl d_law_1212 (fun r u H locs hp hP hD hS => ?_)
  obtain ⟨u1, u2, u3⟩ := u
  obtain ⟨rfl, hp⟩ := hp
  dsimp only at hp
  have hP := hP.sub (ws' := cwL cs ad u1 u2 ++ mwL cs bd μ t9 ++ [ouL cs oc u3]) ([18, 19, 20, 21, 22, 23, 24, 25, 26, 27, 28, 29, 30, 31, 32, 33, 34, 35, 36, 37, 38, 39, 40, 41] ++ [0, 1, 2, 3, 4, 5, 6, 7, 8, 9, 10, 11, 12, 13, 14, 15, 16, 17] ++ [42]) rfl
  have hD := hD.sub (ws' := cwL cs ad u1 u2 ++ mwL cs bd μ t9 ++ [ouL cs oc u3]) ([18, 19, 20, 21, 22, 23, 24, 25, 26, 27, 28, 29, 30, 31, 32, 33, 34, 35, 36, 37, 38, 39, 40, 41] ++ [0, 1, 2, 3, 4, 5, 6, 7, 8, 9, 10, 11, 12, 13, 14, 15, 16, 17] ++ [42]) (by decide) rfl
  refine lv_istore (lv' := [(5, .int (nI (thTic μ (xs (nI (i + 1)).toNatClampNeg)))), (4, .int (nI i)), (0, .ref b), (1, .ref (ad 0)), (2, .ref (bd 0)), (3, .ref oc)]) hx hb d_law_1215 hl (by decide) rfl (fun ls hl => ?_)
  refine lv_aload_n hx hb d_law_1217 rfl (lv_at hl 4 rfl) ?_
  refine lv_aload_n hx hb d_law_1218 rfl (lv_at hl 2 rfl) ?_
  refine lv_iload hx hb d_law_1219 (lv_at hl 1 rfl) ?_
  refine lv_iconst (v := nI 1) hx hb d_law_1221 (by decide) ?_
  refine rr_iadd (a := i) (b := 1) hx hb d_law_1222 ?_
  refine va_sld hx hb hX hbl hbA hS (vp_in_nI (by omega) (by omega)) d_law_1223 ?_
  refine rr_mVi (As := [.int (xs (nI (i + 1)).toNatClampNeg)]) (rest := []) (idx := 165) (q0 := 24) (ci := 6) (wr := cwL cs ad u1 u2 ++ [ouL cs oc u3]) S hK hP hD hS hA (c_M_hung l D cs bd μ t9 (xs (nI (i + 1)).toNatClampNeg) hM  H.size) k_M_hung [24, 25, 26, 27, 28, 29, 30, 31, 32, 33, 34, 35, 36, 37, 38, 39, 40, 41] ([0, 1, 2, 3, 4, 5, 6, 7, 8, 9, 10, 11, 12, 13, 14, 15, 16, 17, 18, 19, 20, 21, 22, 23] ++ [42]) rfl (by decide) rfl (by decide) (by decide) rfl rfl rfl q_807 ⟨Nat.le_of_ble_eq_true rfl, Nat.le_of_ble_eq_true rfl⟩ hcl hl (Nat.le_of_ble_eq_true rfl) rfl d_law_1224 (fun r9 u9 H locs hp9 hP hD hS => ?_)
  rcases hp with ⟨h0, e1, e2, e3⟩ | ⟨h0, e1⟩
  · have e1 := e1.symm
    have e2 := e2.symm
    subst e1
    subst e2
    rcases hp9 with ⟨-, e5⟩ | z
    · subst e5
      have hP := hP.sub (ws' := lwW cs ad bd oc μ ρ (thTic μ (xs (nI (i + 1)).toNatClampNeg)) u3) ([0, 1, 2, 3, 4, 5, 6, 7, 8, 9, 10, 11, 12, 13, 14, 15, 16, 17, 18, 19, 20, 21, 22, 23] ++ [25, 26, 27, 28, 29, 30, 31, 32, 33, 34, 35, 36, 37, 38, 39, 40, 41, 42] ++ [24]) rfl
      have hD := hD.sub (ws' := lwW cs ad bd oc μ ρ (thTic μ (xs (nI (i + 1)).toNatClampNeg)) u3) ([0, 1, 2, 3, 4, 5, 6, 7, 8, 9, 10, 11, 12, 13, 14, 15, 16, 17, 18, 19, 20, 21, 22, 23] ++ [25, 26, 27, 28, 29, 30, 31, 32, 33, 34, 35, 36, 37, 38, 39, 40, 41, 42] ++ [24]) (by decide) rfl
      exact lw_tail C1 (t := 1227) hcl G hM hC (thTic_le μ (xs (nI (i + 1)).toNatClampNeg)) (fun _ => e3) d_law_1227 d_law_1229 d_law_1230 d_law_1233 d_law_1235 d_law_1240 d_law_1242 d_law_1245 d_law_1246 d_law_1247 d_law_1248 d_law_1250 d_law_1251 d_law_1252 d_law_1257 (by decide) hP hD hS hl
    · exact absurd h0 z
  · have e2 : μ = u1 := (congrArg (fun z => z.1) e1).symm
    have e3 : ρ = u2 := (congrArg (fun z => z.2.1) e1).symm
    have e4 : f = u3 := (congrArg (fun z => z.2.2) e1).symm
    subst e2
    subst e3
    subst e4
    have hP := hP.sub (ws' := lwW cs ad bd oc μ ρ (thTic μ (xs (nI (i + 1)).toNatClampNeg)) f) ([0, 1, 2, 3, 4, 5, 6, 7, 8, 9, 10, 11, 12, 13, 14, 15, 16, 17, 18, 19, 20, 21, 22, 23] ++ [25, 26, 27, 28, 29, 30, 31, 32, 33, 34, 35, 36, 37, 38, 39, 40, 41, 42] ++ [24]) rfl
    have hD := hD.sub (ws' := lwW cs ad bd oc μ ρ (thTic μ (xs (nI (i + 1)).toNatClampNeg)) f) ([0, 1, 2, 3, 4, 5, 6, 7, 8, 9, 10, 11, 12, 13, 14, 15, 16, 17, 18, 19, 20, 21, 22, 23] ++ [25, 26, 27, 28, 29, 30, 31, 32, 33, 34, 35, 36, 37, 38, 39, 40, 41, 42] ++ [24]) (by decide) rfl
    exact lw_tail C1 (t := 1227) hcl G hM hC (thTic_le μ (xs (nI (i + 1)).toNatClampNeg)) (fun z => absurd z h0) d_law_1227 d_law_1229 d_law_1230 d_law_1233 d_law_1235 d_law_1240 d_law_1242 d_law_1245 d_law_1246 d_law_1247 d_law_1248 d_law_1250 d_law_1251 d_law_1252 d_law_1257 (by decide) hP hD hS hl
set_option maxHeartbeats 4000000 in
set_option maxRecDepth 100000 in
theorem lk_24 {p : Program} {l : Launch} {e : Env} {s : State} {m : MethodId} {below : List Frame} {meth : Method} {c : Code} {b L : Nat} {xs : Nat → Int32} {D : va_G} {cs : rr_C3} {ad bd : Nat → Nat} {oc i cells slots : Nat} {μ ρ : NS} {t9 : Nat} {f : Nat → Int64} {H : Heap} {locs : List Loc} {ls : Array Slot} (C1 : lwC p l s m meth c b L xs D cs) (hcl : cells + 1 ≤ 1090 ∧ slots + 6 ≤ 11478) (hi : i + 4 ≤ L) (G : lwGo p l e s m below meth c b D cs ad bd oc i (cells + 1) (slots + 6)) (h : lwS s b D cs ad bd oc i μ ρ t9 f H locs ls) : W p l e room_1 s m #[Value.ref b] below meth c H locs cells slots (lw_Z below #[Value.ref b] s) (F0 m 1260 ls []) := by
  obtain ⟨S, hr, hlk, hfl, hL, hX, hbl, hK, hY, hX9, hZ⟩ := id C1
  obtain ⟨hM, hC, hP, hD, hS, hl⟩ := h
  obtain ⟨hx, hb, hml, hown, ht⟩ := id S
  have hA : ∀ q : Nat, s.heap.size ≤ q → lwA s q := fun _ h => h
  have hbA : ¬ lwA s b := Nat.not_le.mpr hbl
  refine lv_aload_n hx hb d_law_1260 rfl (lv_at hl 2 rfl) ?_
  refine lv_aload_n hx hb d_law_1261 rfl (lv_at hl 1 rfl) ?_
  refine lv_iload hx hb d_law_1262 (lv_at hl 0 rfl) ?_
  refine lv_iconst (v := nI 1) hx hb d_law_1264 (by decide) ?_
  refine rr_iadd (a := i) (b := 1) hx hb d_law_1265 ?_
  refine va_sld hx hb hX hbl hbA hS (vp_in_nI (by omega) (by omega)) d_law_1266 ?_
  refine lv_aload_n hx hb d_law_1267 rfl (lv_at hl 4 rfl) ?_
  refine rr_wS (As := [.ref (ad 0), .int (xs (nI (i + 1)).toNatClampNeg), .ref oc]) (rest := []) (idx := 166) (wr := mwL cs bd μ t9) S hK hY hX9 hZ hP hD hS hA (c_A_refund l D cs ad oc μ ρ f (xs (nI (i + 1)).toNatClampNeg) hM hC  hfl H.size) k_A_refund ([0, 1, 2, 3, 4, 5, 6, 7, 8, 9, 10, 11, 12, 13, 14, 15, 16, 17, 18, 19, 20, 21, 22, 23] ++ [42]) [24, 25, 26, 27, 28, 29, 30, 31, 32, 33, 34, 35, 36, 37, 38, 39, 40, 41] rfl (by decide) rfl (by decide) (by decide) q_570 ⟨Nat.le_of_ble_eq_true rfl, Nat.le_of_ble_eq_true rfl⟩ hcl hl (Nat.le_of_ble_eq_true rfl) rfl d_law_1268 (fun r u H locs hp hP hD hS => ?_)
  obtain ⟨u1, u2, u3⟩ := u
  obtain ⟨rfl, hp⟩ := hp
  dsimp only at hp
  have hP := hP.sub (ws' := cwL cs ad u1 u2 ++ mwL cs bd μ t9 ++ [ouL cs oc u3]) ([18, 19, 20, 21, 22, 23, 24, 25, 26, 27, 28, 29, 30, 31, 32, 33, 34, 35, 36, 37, 38, 39, 40, 41] ++ [0, 1, 2, 3, 4, 5, 6, 7, 8, 9, 10, 11, 12, 13, 14, 15, 16, 17] ++ [42]) rfl
  have hD := hD.sub (ws' := cwL cs ad u1 u2 ++ mwL cs bd μ t9 ++ [ouL cs oc u3]) ([18, 19, 20, 21, 22, 23, 24, 25, 26, 27, 28, 29, 30, 31, 32, 33, 34, 35, 36, 37, 38, 39, 40, 41] ++ [0, 1, 2, 3, 4, 5, 6, 7, 8, 9, 10, 11, 12, 13, 14, 15, 16, 17] ++ [42]) (by decide) rfl
  refine lv_istore (lv' := [(5, .int (nI (thTic μ (xs (nI (i + 1)).toNatClampNeg)))), (4, .int (nI i)), (0, .ref b), (1, .ref (ad 0)), (2, .ref (bd 0)), (3, .ref oc)]) hx hb d_law_1271 hl (by decide) rfl (fun ls hl => ?_)
  refine lv_aload_n hx hb d_law_1273 rfl (lv_at hl 4 rfl) ?_
  refine lv_aload_n hx hb d_law_1274 rfl (lv_at hl 2 rfl) ?_
  refine lv_iload hx hb d_law_1275 (lv_at hl 1 rfl) ?_
  refine lv_iconst (v := nI 1) hx hb d_law_1277 (by decide) ?_
  refine rr_iadd (a := i) (b := 1) hx hb d_law_1278 ?_
  refine va_sld hx hb hX hbl hbA hS (vp_in_nI (by omega) (by omega)) d_law_1279 ?_
  refine rr_mVi (As := [.int (xs (nI (i + 1)).toNatClampNeg)]) (rest := []) (idx := 168) (q0 := 24) (ci := 6) (wr := cwL cs ad u1 u2 ++ [ouL cs oc u3]) S hK hP hD hS hA (c_M_refund l D cs bd μ t9 (xs (nI (i + 1)).toNatClampNeg) hM  H.size) k_M_refund [24, 25, 26, 27, 28, 29, 30, 31, 32, 33, 34, 35, 36, 37, 38, 39, 40, 41] ([0, 1, 2, 3, 4, 5, 6, 7, 8, 9, 10, 11, 12, 13, 14, 15, 16, 17, 18, 19, 20, 21, 22, 23] ++ [42]) rfl (by decide) rfl (by decide) (by decide) rfl rfl rfl q_811 ⟨Nat.le_of_ble_eq_true rfl, Nat.le_of_ble_eq_true rfl⟩ hcl hl (Nat.le_of_ble_eq_true rfl) rfl d_law_1280 (fun r9 u9 H locs hp9 hP hD hS => ?_)
  rcases hp with ⟨h0, e1, e2, e3⟩ | ⟨h0, e1⟩
  · have e1 := e1.symm
    have e2 := e2.symm
    subst e1
    subst e2
    rcases hp9 with ⟨-, e5⟩ | z
    · subst e5
      have hP := hP.sub (ws' := lwW cs ad bd oc μ ρ (thTic μ (xs (nI (i + 1)).toNatClampNeg)) u3) ([0, 1, 2, 3, 4, 5, 6, 7, 8, 9, 10, 11, 12, 13, 14, 15, 16, 17, 18, 19, 20, 21, 22, 23] ++ [25, 26, 27, 28, 29, 30, 31, 32, 33, 34, 35, 36, 37, 38, 39, 40, 41, 42] ++ [24]) rfl
      have hD := hD.sub (ws' := lwW cs ad bd oc μ ρ (thTic μ (xs (nI (i + 1)).toNatClampNeg)) u3) ([0, 1, 2, 3, 4, 5, 6, 7, 8, 9, 10, 11, 12, 13, 14, 15, 16, 17, 18, 19, 20, 21, 22, 23] ++ [25, 26, 27, 28, 29, 30, 31, 32, 33, 34, 35, 36, 37, 38, 39, 40, 41, 42] ++ [24]) (by decide) rfl
      exact lw_tail C1 (t := 1283) hcl G hM hC (thTic_le μ (xs (nI (i + 1)).toNatClampNeg)) (fun _ => e3) d_law_1283 d_law_1285 d_law_1286 d_law_1289 d_law_1291 d_law_1296 d_law_1298 d_law_1301 d_law_1302 d_law_1303 d_law_1304 d_law_1306 d_law_1307 d_law_1308 d_law_1313 (by decide) hP hD hS hl
    · exact absurd h0 z
  · have e2 : μ = u1 := (congrArg (fun z => z.1) e1).symm
    have e3 : ρ = u2 := (congrArg (fun z => z.2.1) e1).symm
    have e4 : f = u3 := (congrArg (fun z => z.2.2) e1).symm
    subst e2
    subst e3
    subst e4
    have hP := hP.sub (ws' := lwW cs ad bd oc μ ρ (thTic μ (xs (nI (i + 1)).toNatClampNeg)) f) ([0, 1, 2, 3, 4, 5, 6, 7, 8, 9, 10, 11, 12, 13, 14, 15, 16, 17, 18, 19, 20, 21, 22, 23] ++ [25, 26, 27, 28, 29, 30, 31, 32, 33, 34, 35, 36, 37, 38, 39, 40, 41, 42] ++ [24]) rfl
    have hD := hD.sub (ws' := lwW cs ad bd oc μ ρ (thTic μ (xs (nI (i + 1)).toNatClampNeg)) f) ([0, 1, 2, 3, 4, 5, 6, 7, 8, 9, 10, 11, 12, 13, 14, 15, 16, 17, 18, 19, 20, 21, 22, 23] ++ [25, 26, 27, 28, 29, 30, 31, 32, 33, 34, 35, 36, 37, 38, 39, 40, 41, 42] ++ [24]) (by decide) rfl
    exact lw_tail C1 (t := 1283) hcl G hM hC (thTic_le μ (xs (nI (i + 1)).toNatClampNeg)) (fun z => absurd z h0) d_law_1283 d_law_1285 d_law_1286 d_law_1289 d_law_1291 d_law_1296 d_law_1298 d_law_1301 d_law_1302 d_law_1303 d_law_1304 d_law_1306 d_law_1307 d_law_1308 d_law_1313 (by decide) hP hD hS hl
set_option maxHeartbeats 4000000 in
set_option maxRecDepth 100000 in
theorem lk_25 {p : Program} {l : Launch} {e : Env} {s : State} {m : MethodId} {below : List Frame} {meth : Method} {c : Code} {b L : Nat} {xs : Nat → Int32} {D : va_G} {cs : rr_C3} {ad bd : Nat → Nat} {oc i cells slots : Nat} {μ ρ : NS} {t9 : Nat} {f : Nat → Int64} {H : Heap} {locs : List Loc} {ls : Array Slot} (C1 : lwC p l s m meth c b L xs D cs) (hcl : cells + 1 ≤ 1090 ∧ slots + 6 ≤ 11478) (hi : i + 4 ≤ L) (G : lwGo p l e s m below meth c b D cs ad bd oc i (cells + 1) (slots + 6)) (h : lwS s b D cs ad bd oc i μ ρ t9 f H locs ls) : W p l e room_1 s m #[Value.ref b] below meth c H locs cells slots (lw_Z below #[Value.ref b] s) (F0 m 1316 ls []) := by
  obtain ⟨S, hr, hlk, hfl, hL, hX, hbl, hK, hY, hX9, hZ⟩ := id C1
  obtain ⟨hM, hC, hP, hD, hS, hl⟩ := h
  obtain ⟨hx, hb, hml, hown, ht⟩ := id S
  have hA : ∀ q : Nat, s.heap.size ≤ q → lwA s q := fun _ h => h
  have hbA : ¬ lwA s b := Nat.not_le.mpr hbl
  refine lv_aload_n hx hb d_law_1316 rfl (lv_at hl 2 rfl) ?_
  refine rr_rV (As := []) (rest := []) (idx := 169) (q0 := 0) (ci := 5) S hK hP (c_V_refunds l D cs ad μ ρ hM hC) k_V_refunds [0, 1, 2, 3, 4, 5, 6, 7, 8, 9, 10, 11, 12, 13, 14, 15, 16, 17, 18, 19, 20, 21, 22, 23] rfl rfl rfl rfl q_227 ⟨Nat.le_of_ble_eq_true rfl, Nat.le_of_ble_eq_true rfl⟩ ⟨(by show cells ≤ 1090; omega), (by show slots ≤ 11478; omega)⟩ hl (Nat.le_of_ble_eq_true rfl) rfl d_law_1317 (fun r hp => ?_)
  subst hp
  refine lv_aload_n hx hb d_law_1320 rfl (lv_at hl 3 rfl) ?_
  refine rr_mVi (As := []) (rest := [.int (nI (rsN (μ 18) (μ 17) (μ 21) (μ 15 0)))]) (idx := 172) (q0 := 24) (ci := 6) (wr := cwL cs ad μ ρ ++ [ouL cs oc f]) S hK hP hD hS hA (c_M_refunds l D cs bd μ t9 hM H.size) k_M_refunds [24, 25, 26, 27, 28, 29, 30, 31, 32, 33, 34, 35, 36, 37, 38, 39, 40, 41] ([0, 1, 2, 3, 4, 5, 6, 7, 8, 9, 10, 11, 12, 13, 14, 15, 16, 17, 18, 19, 20, 21, 22, 23] ++ [42]) rfl (by decide) rfl (by decide) (by decide) rfl rfl rfl q_819 ⟨Nat.le_of_ble_eq_true rfl, Nat.le_of_ble_eq_true rfl⟩ ⟨(by show cells + 0 ≤ 1090; omega), (by show slots + 0 ≤ 11478; omega)⟩ hl (Nat.le_of_ble_eq_true rfl) rfl d_law_1321 (fun r u H locs hp hP hD hS => ?_)
  subst hp
  have hP := hP.sub (ws' := lwW cs ad bd oc μ ρ 0 f) ([0, 1, 2, 3, 4, 5, 6, 7, 8, 9, 10, 11, 12, 13, 14, 15, 16, 17, 18, 19, 20, 21, 22, 23] ++ [25, 26, 27, 28, 29, 30, 31, 32, 33, 34, 35, 36, 37, 38, 39, 40, 41, 42] ++ [24]) rfl
  have hD := hD.sub (ws' := lwW cs ad bd oc μ ρ 0 f) ([0, 1, 2, 3, 4, 5, 6, 7, 8, 9, 10, 11, 12, 13, 14, 15, 16, 17, 18, 19, 20, 21, 22, 23] ++ [25, 26, 27, 28, 29, 30, 31, 32, 33, 34, 35, 36, 37, 38, 39, 40, 41, 42] ++ [24]) (by decide) rfl
  refine lv_icmp_eq (tgt := 1329) hx hb d_law_1324 (by decide) (fun _ => ?_) (fun z => absurd rfl z)
  refine W.widen (k := cells + 1) (n := slots + 6) (by omega) (by omega) ?_
  exact G μ ρ 0 f H locs ls ⟨hM, hC, hP, hD, hS, hl⟩
