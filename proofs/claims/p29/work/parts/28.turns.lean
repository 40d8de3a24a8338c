-- the law's two kinds of turns on this road
set_option maxHeartbeats 4000000 in
set_option maxRecDepth 100000 in
/-- a turn that puts a car on -/
theorem rf_itP {p : Program} {l : Launch} {e : Env} {s : State} {m : MethodId} {below : List Frame} {meth : Method} {c : Code} {b : Nat} {xs : Nat → Int32} {D : va_G} {cs : rr_C3} {ad : Nat → Nat} {μ ρ : NS} {i c9 N9 cells slots : Nat} {H : Heap} {locs : List Loc} {ls : Array Slot} (C1 : rfC p l s m meth c b xs D cs) (hi : i < 60) (hc : c9 < 16) (hsort : lowI (xs (1 + i) >>> (nI 20 &&& 31)) (nI 24) = nI 10) (hcl : cells + 18 ≤ 1200 ∧ slots + 108 ≤ 9000) (h : rfS s b D cs ad i c9 0 N9 μ ρ H locs ls) (G : ∀ (μ ρ : NS) (H : Heap) (locs : List Loc) (ls : Array Slot), rfS s b D cs ad (i + 1) (c9 + 1) 1 (N9 + 1 + c9) μ ρ H locs ls → W p l e rf_room s m #[Value.ref b] below meth c H locs (cells + 18) (slots + 108) (rf_Z below s 764) (F0 m 65 ls [])) : W p l e rf_room s m #[Value.ref b] below meth c H locs cells slots (rf_Z below s 764) (F0 m 65 ls []) := by
  obtain ⟨S, hr, hlk, hfl, hX, hbl, hK, hY, hZ⟩ := id C1
  obtain ⟨hx, hb, hml, hown, ht⟩ := id S
  have hA : ∀ q : Nat, s.heap.size ≤ q → lwA s q := fun _ h => h
  have hbA : ¬ lwA s b := Nat.not_le.mpr hbl
  obtain ⟨hM, hC, hSC, hP, hD, hS, hl, hz⟩ := h
  refine lv_iload hx hb d_law_65 (lv_at hl 0 rfl) ?_
  refine lv_iload hx hb d_law_67 (lv_at hl 8 rfl) ?_
  refine rr_icmp_ge (a := i) (b := 60) (tgt := 911) (by omega) (by omega) hx hb d_law_69 (by decide) (fun c69 => ?_) (fun c69 => ?_)
  · exact (by omega : False).elim
  · refine lv_iload hx hb d_law_72 (lv_at hl 7 rfl) ?_
    refine rr_if_eq (a := 1) (tgt := 911) (by omega) hx hb d_law_74 (by decide) (fun c74 => ?_) (fun c74 => ?_)
    · exact (by omega : False).elim
    · refine lv_aload_n hx hb d_law_77 rfl (lv_at hl 1 rfl) ?_
      refine lv_iconst (v := nI 1) hx hb d_law_78 (by decide) ?_
      refine lv_iload hx hb d_law_79 (lv_at hl 0 rfl) ?_
      refine rr_iadd (a := 1) (b := i) hx hb d_law_81 ?_
      refine rf_sx (As := [.ref b, .int (nI (1 + i))]) (rest := []) (idx := 79) S hK hX hbl hbA hS (c_A_cell l D cs b 61 xs (1 + i) (by omega) (by decide)) k_A_cell q_440 ⟨Nat.le_of_ble_eq_true rfl, Nat.le_of_ble_eq_true rfl⟩ ⟨(by show cells + 0 ≤ 1200; omega), (by show slots + 0 ≤ 9000; omega)⟩ hl (Nat.le_of_ble_eq_true rfl) rfl d_law_82 (fun r9 hr9 => ?_)
      subst hr9
      refine lv_istore (lv' := [(9, .int (xs (1 + i))), (8, .int (nI i)), (0, .ref b), (1, .ref (ad 0)), (2, .int (nI c9)), (3, .int (nI 0)), (4, .int (nI 0)), (5, .int (nI 0)), (6, .int (nI 1)), (7, .int (nI 60))]) hx hb d_law_85 hl (by decide) rfl (fun ls hl => ?_)
      refine lv_iload hx hb d_law_87 (lv_at hl 0 rfl) ?_
      refine lv_iconst (v := nI 3) hx hb d_law_89 (by decide) ?_
      refine lv_ishr hx hb d_law_90 ?_
      refine lv_bipush (v := nI 7) hx hb d_law_91 (by decide) ?_
      refine rr_rS (As := [.int ((xs (1 + i)) >>> (nI 3 &&& 31)), .int (nI 7)]) (rest := []) (idx := 83) S hK (c_A_low l D cs ((xs (1 + i)) >>> (nI 3 &&& 31)) (nI 7) (by decide)) k_A_low q_436 ⟨Nat.le_of_ble_eq_true rfl, Nat.le_of_ble_eq_true rfl⟩ ⟨(by show cells + 0 ≤ 1200; omega), (by show slots + 0 ≤ 9000; omega)⟩ hl (Nat.le_of_ble_eq_true rfl) rfl d_law_93 (fun r9 hr9 => ?_)
      subst hr9
      refine lv_istore (lv' := [(10, .int (lowI ((xs (1 + i)) >>> (nI 3 &&& 31)) (nI 7))), (9, .int (xs (1 + i))), (8, .int (nI i)), (0, .ref b), (1, .ref (ad 0)), (2, .int (nI c9)), (3, .int (nI 0)), (4, .int (nI 0)), (5, .int (nI 0)), (6, .int (nI 1)), (7, .int (nI 60))]) hx hb d_law_96 hl (by decide) rfl (fun ls hl => ?_)
      have K9 : ∀ (x11 : Int32) (ls : Array Slot), lv_has ls 18 [(11, .int x11), (10, .int (lowI ((xs (1 + i)) >>> (nI 3 &&& 31)) (nI 7))), (9, .int (xs (1 + i))), (8, .int (nI i)), (0, .ref b), (1, .ref (ad 0)), (2, .int (nI c9)), (3, .int (nI 0)), (4, .int (nI 0)), (5, .int (nI 0)), (6, .int (nI 1)), (7, .int (nI 60))] → W p l e rf_room s m #[Value.ref b] below meth c H locs cells slots (rf_Z below s 764) (F0 m 117 ls []) := by
        intro x11 ls hl
        refine lv_iload hx hb d_law_117 (lv_at hl 2 rfl) ?_
        refine lv_bipush (v := nI 20) hx hb d_law_119 (by decide) ?_
        refine lv_ishr hx hb d_law_121 ?_
        refine lv_bipush (v := nI 24) hx hb d_law_122 (by decide) ?_
        refine rr_rS (As := [.int ((xs (1 + i)) >>> (nI 20 &&& 31)), .int (nI 24)]) (rest := []) (idx := 83) S hK (c_A_low l D cs ((xs (1 + i)) >>> (nI 20 &&& 31)) (nI 24) (by decide)) k_A_low q_436 ⟨Nat.le_of_ble_eq_true rfl, Nat.le_of_ble_eq_true rfl⟩ ⟨(by show cells + 0 ≤ 1200; omega), (by show slots + 0 ≤ 9000; omega)⟩ hl (Nat.le_of_ble_eq_true rfl) rfl d_law_124 (fun r9 hr9 => ?_)
        subst hr9
        refine rr_top (show (lowI ((xs (1 + i)) >>> (nI 20 &&& 31)) (nI 24) : Int32) = nI 10 from hsort) ?_
        refine lv_istore (lv' := [(12, .int (nI 10)), (11, .int x11), (10, .int (lowI ((xs (1 + i)) >>> (nI 3 &&& 31)) (nI 7))), (9, .int (xs (1 + i))), (8, .int (nI i)), (0, .ref b), (1, .ref (ad 0)), (2, .int (nI c9)), (3, .int (nI 0)), (4, .int (nI 0)), (5, .int (nI 0)), (6, .int (nI 1)), (7, .int (nI 60))]) hx hb d_law_127 hl (by decide) rfl (fun ls hl => ?_)
        refine lv_iload hx hb d_law_129 (lv_at hl 0 rfl) ?_
        refine lv_iconst (v := nI 4) hx hb d_law_131 (by decide) ?_
        refine rr_icmp_ge (a := 10) (b := 4) (tgt := 211) (by omega) (by omega) hx hb d_law_132 (by decide) (fun c132 => ?_) (fun c132 => ?_)
        · refine lv_iload hx hb d_law_211 (lv_at hl 0 rfl) ?_
          refine lv_iconst (v := nI 5) hx hb d_law_213 (by decide) ?_
          refine rr_icmp_ge (a := 10) (b := 5) (tgt := 272) (by omega) (by omega) hx hb d_law_214 (by decide) (fun c214 => ?_) (fun c214 => ?_)
          · refine lv_iload hx hb d_law_272 (lv_at hl 0 rfl) ?_
            refine lv_bipush (v := nI 9) hx hb d_law_274 (by decide) ?_
            refine rr_icmp_ge (a := 10) (b := 9) (tgt := 340) (by omega) (by omega) hx hb d_law_276 (by decide) (fun c276 => ?_) (fun c276 => ?_)
            · refine lv_iload hx hb d_law_340 (lv_at hl 0 rfl) ?_
              refine lv_bipush (v := nI 10) hx hb d_law_342 (by decide) ?_
              refine rr_icmp_ge (a := 10) (b := 10) (tgt := 400) (by omega) (by omega) hx hb d_law_344 (by decide) (fun c344 => ?_) (fun c344 => ?_)
              · refine lv_iload hx hb d_law_400 (lv_at hl 0 rfl) ?_
                refine lv_bipush (v := nI 13) hx hb d_law_402 (by decide) ?_
                refine rr_icmp_ge (a := 10) (b := 13) (tgt := 469) (by omega) (by omega) hx hb d_law_404 (by decide) (fun c404 => ?_) (fun c404 => ?_)
                · exact (by omega : False).elim
                · refine lv_aload_n hx hb d_law_407 rfl (lv_at hl 6 rfl) ?_
                  refine rf_wS (As := [.ref (ad 0)]) (rest := []) (idx := 101) (wr := []) S hK hY hZ hP hD hS hA (c_A_putOn0 l D cs ad μ ρ (nI c9) hM hC (hSC.put0 (by omega)) (congrArg nI hSC.2.2.2.1) hfl H.size) k_A_putOn [0, 1, 2, 3, 4, 5, 6, 7, 8, 9, 10, 11, 12, 13, 14, 15, 16, 17, 18, 19, 20, 21, 22, 23] [] rfl (by decide) rfl (by decide) (by decide) q_444 ⟨Nat.le_of_ble_eq_true rfl, Nat.le_of_ble_eq_true rfl⟩ ⟨(by show cells + 1 ≤ 1200; omega), (by show slots + 6 ≤ 9000; omega)⟩ hl (Nat.le_of_ble_eq_true rfl) rfl d_law_408 (fun H locs hP hD hS hz9 => ?_)
                  have hP : va_P D classes (cwL cs ad (muPut μ) (roPut μ ρ)) H := hP
                  have hD : va_D (lwA s) (cwL cs ad (muPut μ) (roPut μ ρ)) := hD
                  have hz : s.heap.size + (N9) ≤ H.size := by omega
                  have hc16 : μ 3 0 < 16 := by rw [hSC.2.2.2.1]; omega
                  have hM1 := IM_put hM hc16
                  have hC1 := IC_put hM hC hc16
                  have hSC1 := SC_put hM hSC (by omega)
                  refine lv_istore (lv' := [(13, .int (nI c9)), (12, .int (nI 10)), (11, .int x11), (10, .int (lowI ((xs (1 + i)) >>> (nI 3 &&& 31)) (nI 7))), (9, .int (xs (1 + i))), (8, .int (nI i)), (0, .ref b), (1, .ref (ad 0)), (2, .int (nI c9)), (3, .int (nI 0)), (4, .int (nI 0)), (5, .int (nI 0)), (6, .int (nI 1)), (7, .int (nI 60))]) hx hb d_law_411 hl (by decide) rfl (fun ls hl => ?_)
                  refine lv_iload hx hb d_law_413 (lv_at hl 0 rfl) ?_
                  refine lv_bipush (v := (-3)) hx hb d_law_415 (by decide) ?_
                  refine lv_icmp_eq (tgt := 444) hx hb d_law_417 (by decide) (fun c417 => ?_) (fun c417 => ?_)
                  · exact (nI_neg3 (by omega) c417 : False).elim
                  · refine lv_iload hx hb d_law_420 (lv_at hl 0 rfl) ?_
                    refine lv_iload_n hx hb d_law_422 rfl (lv_at hl 8 rfl) ?_
                    refine rr_icmp_ne (a := c9) (b := c9) (tgt := 448) (by omega) (by omega) hx hb d_law_423 (by decide) (fun c423 => ?_) (fun c423 => ?_)
                    · exact (by omega : False).elim
                    · refine lv_aload_n hx hb d_law_426 rfl (lv_at hl 7 rfl) ?_
                      refine lv_iload hx hb d_law_427 (lv_at hl 0 rfl) ?_
                      refine rr_rV (As := [.int (nI c9)]) (rest := []) (idx := 27) (q0 := 0) (ci := 5) S hK hP (c_V_place0 l D cs ad (muPut μ) (roPut μ ρ) (nI c9) hM1 hC1 (hSC1.car1 (by omega) (by omega) (by omega))) k_V_place [0, 1, 2, 3, 4, 5, 6, 7, 8, 9, 10, 11, 12, 13, 14, 15, 16, 17, 18, 19, 20, 21, 22, 23] rfl rfl rfl rfl q_156 ⟨Nat.le_of_ble_eq_true rfl, Nat.le_of_ble_eq_true rfl⟩ ⟨(by show cells + 1 ≤ 1200; omega), (by show slots + 6 ≤ 9000; omega)⟩ hl (Nat.le_of_ble_eq_true rfl) rfl d_law_429 (fun r9 hr9 => ?_)
                      subst hr9
                      refine rr_top (show (nI (pN (muPut μ) (ix 16 (nI c9))) : Int32) = nI 0 from congrArg nI (by rw [ix_nI (show c9 < 16 by omega) (by decide), hSC1.pl (by omega)])) ?_
                      refine rr_if_ne (a := 0) (tgt := 448) (by omega) hx hb d_law_432 (by decide) (fun c432 => ?_) (fun c432 => ?_)
                      · exact (by omega : False).elim
                      · refine lv_aload_n hx hb d_law_435 rfl (lv_at hl 7 rfl) ?_
                        refine rf_wS (As := [.ref (ad 0)]) (rest := []) (idx := 101) (wr := []) S hK hY hZ hP hD hS hA (c_A_putOn1 l D cs ad (muPut μ) (roPut μ ρ) hM1 hC1 (hSC1.put1 (by omega)) hfl H.size) k_A_putOn [0, 1, 2, 3, 4, 5, 6, 7, 8, 9, 10, 11, 12, 13, 14, 15, 16, 17, 18, 19, 20, 21, 22, 23] [] rfl (by decide) rfl (by decide) (by decide) q_444 ⟨Nat.le_of_ble_eq_true rfl, Nat.le_of_ble_eq_true rfl⟩ ⟨(by show cells + 2 ≤ 1200; omega), (by show slots + 12 ≤ 9000; omega)⟩ hl (Nat.le_of_ble_eq_true rfl) rfl d_law_436 (fun H locs hP hD hS hz9 => ?_)
                        have hP : va_P D classes (cwL cs ad (muPut μ) (roPut μ ρ)) H := hP
                        have hD : va_D (lwA s) (cwL cs ad (muPut μ) (roPut μ ρ)) := hD
                        have hz : s.heap.size + (N9 + 1) ≤ H.size := by omega
                        refine lv_bipush (v := (-3)) hx hb d_law_439 (by decide) ?_
                        refine lv_icmp_ne (tgt := 448) hx hb d_law_441 (by decide) (fun c441 => ?_) (fun c441 => ?_)
                        · exact (c441 rfl : False).elim
                        · refine lv_iconst (v := nI 1) hx hb d_law_444 (by decide) ?_
                          refine lv_goto (tgt := 449) hx hb d_law_445 (by decide) ?_
                          refine lv_istore (lv' := [(6, .int (nI 1)), (13, .int (nI c9)), (12, .int (nI 10)), (11, .int x11), (10, .int (lowI ((xs (1 + i)) >>> (nI 3 &&& 31)) (nI 7))), (9, .int (xs (1 + i))), (8, .int (nI i)), (0, .ref b), (1, .ref (ad 0)), (2, .int (nI c9)), (3, .int (nI 0)), (4, .int (nI 0)), (5, .int (nI 0)), (7, .int (nI 60))]) hx hb d_law_449 hl (by decide) rfl (fun ls hl => ?_)
                          refine lv_iload_n hx hb d_law_451 rfl (lv_at hl 9 rfl) ?_
                          refine lv_iload hx hb d_law_452 (lv_at hl 1 rfl) ?_
                          refine lv_bipush (v := (-3)) hx hb d_law_454 (by decide) ?_
                          refine lv_icmp_ne (tgt := 463) hx hb d_law_456 (by decide) (fun c456 => ?_) (fun c456 => ?_)
                          · refine lv_iconst (v := nI 1) hx hb d_law_463 (by decide) ?_
                            refine rr_iadd (a := c9) (b := 1) hx hb d_law_464 ?_
                            refine lv_istore_n (lv' := [(2, .int (nI (c9 + 1))), (6, .int (nI 1)), (13, .int (nI c9)), (12, .int (nI 10)), (11, .int x11), (10, .int (lowI ((xs (1 + i)) >>> (nI 3 &&& 31)) (nI 7))), (9, .int (xs (1 + i))), (8, .int (nI i)), (0, .ref b), (1, .ref (ad 0)), (3, .int (nI 0)), (4, .int (nI 0)), (5, .int (nI 0)), (7, .int (nI 60))]) hx hb d_law_465 rfl hl (by decide) rfl (fun ls hl => ?_)
                            refine lv_goto (tgt := 878) hx hb d_law_466 (by decide) ?_
                            refine lv_iload hx hb d_law_878 (lv_at hl 1 rfl) ?_
                            refine rr_if_eq (a := 1) (tgt := 902) (by omega) hx hb d_law_880 (by decide) (fun c880 => ?_) (fun c880 => ?_)
                            · exact (by omega : False).elim
                            · refine lv_aload_n hx hb d_law_883 rfl (lv_at hl 9 rfl) ?_
                              refine rr_rSW (As := [.ref (ad 0)]) (rest := []) (idx := 69) S hK hP (c_A_votes l D cs ad (muPut μ) (roPut μ ρ) (c9 + 1) 1 hM1 hC1 hSC1) k_A_votes [0, 1, 2, 3, 4, 5, 6, 7, 8, 9, 10, 11, 12, 13, 14, 15, 16, 17, 18, 19, 20, 21, 22, 23] rfl q_500 ⟨Nat.le_of_ble_eq_true rfl, Nat.le_of_ble_eq_true rfl⟩ ⟨(by show cells + 2 ≤ 1200; omega), (by show slots + 12 ≤ 9000; omega)⟩ hl (Nat.le_of_ble_eq_true rfl) rfl d_law_884 (fun r9 hr9 => ?_)
                              subst hr9
                              refine rr_if_eq (a := 1) (tgt := 902) (by omega) hx hb d_law_887 (by decide) (fun c887 => ?_) (fun c887 => ?_)
                              · exact (by omega : False).elim
                              · refine lv_aload_n hx hb d_law_890 rfl (lv_at hl 9 rfl) ?_
                                refine lv_iload_n hx hb d_law_891 rfl (lv_at hl 0 rfl) ?_
                                refine rf_cS (As := [.ref (ad 0), .int (nI (c9 + 1))]) (rest := []) (idx := 73) (wr := []) S hK hY hZ hP hD hS hA (c_A_cars l D cs ad (muPut μ) (roPut μ ρ) (c9 + 1) 1 hM1 hC1 hSC1 (by omega) (by omega) (by omega) hfl H.size) k_A_cars [0, 1, 2, 3, 4, 5, 6, 7, 8, 9, 10, 11, 12, 13, 14, 15, 16, 17, 18, 19, 20, 21, 22, 23] [] rfl (by decide) rfl (by decide) (by decide) q_526 ⟨Nat.le_of_ble_eq_true rfl, Nat.le_of_ble_eq_true rfl⟩ ⟨(by show cells + 18 ≤ 1200; omega), (by show slots + 108 ≤ 9000; omega)⟩ hl (Nat.le_of_ble_eq_true rfl) rfl d_law_892 (fun H locs hP hD hS hz9 => ?_)
                                have hP : va_P D classes (cwL cs ad (muPut μ) (roPut μ ρ)) H := hP
                                have hD : va_D (lwA s) (cwL cs ad (muPut μ) (roPut μ ρ)) := hD
                                have hz : s.heap.size + (N9 + 1 + c9) ≤ H.size := by omega
                                refine rr_if_eq (a := 1) (tgt := 902) (by omega) hx hb d_law_895 (by decide) (fun c895 => ?_) (fun c895 => ?_)
                                · exact (by omega : False).elim
                                · refine lv_iconst (v := nI 1) hx hb d_law_898 (by decide) ?_
                                  refine lv_goto (tgt := 903) hx hb d_law_899 (by decide) ?_
                                  refine lv_istore (lv' := [(6, .int (nI 1)), (2, .int (nI (c9 + 1))), (13, .int (nI c9)), (12, .int (nI 10)), (11, .int x11), (10, .int (lowI ((xs (1 + i)) >>> (nI 3 &&& 31)) (nI 7))), (9, .int (xs (1 + i))), (8, .int (nI i)), (0, .ref b), (1, .ref (ad 0)), (3, .int (nI 0)), (4, .int (nI 0)), (5, .int (nI 0)), (7, .int (nI 60))]) hx hb d_law_903 hl (by decide) rfl (fun ls hl => ?_)
                                  refine lv_iinc (v := nI (i + 1)) (lv' := [(8, .int (nI (i + 1))), (6, .int (nI 1)), (2, .int (nI (c9 + 1))), (13, .int (nI c9)), (12, .int (nI 10)), (11, .int x11), (10, .int (lowI ((xs (1 + i)) >>> (nI 3 &&& 31)) (nI 7))), (9, .int (xs (1 + i))), (0, .ref b), (1, .ref (ad 0)), (3, .int (nI 0)), (4, .int (nI 0)), (5, .int (nI 0)), (7, .int (nI 60))]) hx hb d_law_905 hl (k := 7) rfl (nI_add i 1) (by decide) rfl (fun ls hl => ?_)
                                  refine lv_goto (tgt := 65) hx hb d_law_908 (by decide) ?_
                                  exact G (muPut μ) (roPut μ ρ) H locs ls ⟨hM1, hC1, hSC1, hP, hD, hS, lv_sub hl [0, 8, 9, 2, 10, 11, 12, 1, 13] rfl, by omega⟩
                          · exact (nI_neg3 (by omega) c456 : False).elim
              · exact (by omega : False).elim
            · exact (by omega : False).elim
          · exact (by omega : False).elim
        · exact (by omega : False).elim
      refine lv_iload_n hx hb d_law_98 rfl (lv_at hl 5 rfl) ?_
      refine rr_if_ne (a := c9) (tgt := 106) (by omega) hx hb d_law_99 (by decide) (fun c99 => ?_) (fun c99 => ?_)
      · refine lv_iload hx hb d_law_106 (lv_at hl 1 rfl) ?_
        refine lv_bipush (v := nI 6) hx hb d_law_108 (by decide) ?_
        refine lv_ishr hx hb d_law_110 ?_
        refine lv_iload_n hx hb d_law_111 rfl (lv_at hl 5 rfl) ?_
        refine rr_rS (As := [.int ((xs (1 + i)) >>> (nI 6 &&& 31)), .int (nI c9)]) (rest := []) (idx := 83) S hK (c_A_low l D cs ((xs (1 + i)) >>> (nI 6 &&& 31)) (nI c9) (nI_ne0 (by omega) (by omega))) k_A_low q_436 ⟨Nat.le_of_ble_eq_true rfl, Nat.le_of_ble_eq_true rfl⟩ ⟨(by show cells + 0 ≤ 1200; omega), (by show slots + 0 ≤ 9000; omega)⟩ hl (Nat.le_of_ble_eq_true rfl) rfl d_law_112 (fun r9 hr9 => ?_)
        subst hr9
        refine lv_istore (lv' := [(11, .int (lowI ((xs (1 + i)) >>> (nI 6 &&& 31)) (nI c9))), (10, .int (lowI ((xs (1 + i)) >>> (nI 3 &&& 31)) (nI 7))), (9, .int (xs (1 + i))), (8, .int (nI i)), (0, .ref b), (1, .ref (ad 0)), (2, .int (nI c9)), (3, .int (nI 0)), (4, .int (nI 0)), (5, .int (nI 0)), (6, .int (nI 1)), (7, .int (nI 60))]) hx hb d_law_115 hl (by decide) rfl (fun ls hl => ?_)
        exact K9 _ ls (lv_sub hl [0, 1, 2, 3, 4, 5, 6, 7, 8, 9, 10, 11] rfl)
      · refine lv_iconst (v := nI 0) hx hb d_law_102 (by decide) ?_
        refine lv_goto (tgt := 115) hx hb d_law_103 (by decide) ?_
        refine lv_istore (lv' := [(11, .int (nI 0)), (10, .int (lowI ((xs (1 + i)) >>> (nI 3 &&& 31)) (nI 7))), (9, .int (xs (1 + i))), (8, .int (nI i)), (0, .ref b), (1, .ref (ad 0)), (2, .int (nI c9)), (3, .int (nI 0)), (4, .int (nI 0)), (5, .int (nI 0)), (6, .int (nI 1)), (7, .int (nI 60))]) hx hb d_law_115 hl (by decide) rfl (fun ls hl => ?_)
        exact K9 _ ls (lv_sub hl [0, 1, 2, 3, 4, 5, 6, 7, 8, 9, 10, 11] rfl)
set_option maxHeartbeats 4000000 in
set_option maxRecDepth 100000 in
/-- a turn that takes it off -/
theorem rf_itT {p : Program} {l : Launch} {e : Env} {s : State} {m : MethodId} {below : List Frame} {meth : Method} {c : Code} {b : Nat} {xs : Nat → Int32} {D : va_G} {cs : rr_C3} {ad : Nat → Nat} {μ ρ : NS} {i c9 N9 cells slots : Nat} {H : Heap} {locs : List Loc} {ls : Array Slot} (C1 : rfC p l s m meth c b xs D cs) (hi : i < 60) (hc : c9 < 16) (hsort : lowI (xs (1 + i) >>> (nI 20 &&& 31)) (nI 24) = nI 16) (hcar : lowI (xs (1 + i) >>> (nI 6 &&& 31)) (nI (c9 + 1)) = nI c9) (hcl : cells + 18 ≤ 1200 ∧ slots + 108 ≤ 9000) (h : rfS s b D cs ad i (c9 + 1) 1 N9 μ ρ H locs ls) (G : ∀ (μ ρ : NS) (H : Heap) (locs : List Loc) (ls : Array Slot), rfS s b D cs ad (i + 1) (c9 + 1) 0 (N9 + 1 + (c9 + 1)) μ ρ H locs ls → W p l e rf_room s m #[Value.ref b] below meth c H locs (cells + 18) (slots + 108) (rf_Z below s 764) (F0 m 65 ls [])) : W p l e rf_room s m #[Value.ref b] below meth c H locs cells slots (rf_Z below s 764) (F0 m 65 ls []) := by
  obtain ⟨S, hr, hlk, hfl, hX, hbl, hK, hY, hZ⟩ := id C1
  obtain ⟨hx, hb, hml, hown, ht⟩ := id S
  have hA : ∀ q : Nat, s.heap.size ≤ q → lwA s q := fun _ h => h
  have hbA : ¬ lwA s b := Nat.not_le.mpr hbl
  obtain ⟨hM, hC, hSC, hP, hD, hS, hl, hz⟩ := h
  have hk9 : ix 16 (nI c9) = c9 := ix_nI (by omega) (by decide)
  refine lv_iload hx hb d_law_65 (lv_at hl 0 rfl) ?_
  refine lv_iload hx hb d_law_67 (lv_at hl 8 rfl) ?_
  refine rr_icmp_ge (a := i) (b := 60) (tgt := 911) (by omega) (by omega) hx hb d_law_69 (by decide) (fun c69 => ?_) (fun c69 => ?_)
  · exact (by omega : False).elim
  · refine lv_iload hx hb d_law_72 (lv_at hl 7 rfl) ?_
    refine rr_if_eq (a := 1) (tgt := 911) (by omega) hx hb d_law_74 (by decide) (fun c74 => ?_) (fun c74 => ?_)
    · exact (by omega : False).elim
    · refine lv_aload_n hx hb d_law_77 rfl (lv_at hl 1 rfl) ?_
      refine lv_iconst (v := nI 1) hx hb d_law_78 (by decide) ?_
      refine lv_iload hx hb d_law_79 (lv_at hl 0 rfl) ?_
      refine rr_iadd (a := 1) (b := i) hx hb d_law_81 ?_
      refine rf_sx (As := [.ref b, .int (nI (1 + i))]) (rest := []) (idx := 79) S hK hX hbl hbA hS (c_A_cell l D cs b 61 xs (1 + i) (by omega) (by decide)) k_A_cell q_440 ⟨Nat.le_of_ble_eq_true rfl, Nat.le_of_ble_eq_true rfl⟩ ⟨(by show cells + 0 ≤ 1200; omega), (by show slots + 0 ≤ 9000; omega)⟩ hl (Nat.le_of_ble_eq_true rfl) rfl d_law_82 (fun r9 hr9 => ?_)
      subst hr9
      refine lv_istore (lv' := [(9, .int (xs (1 + i))), (8, .int (nI i)), (0, .ref b), (1, .ref (ad 0)), (2, .int (nI (c9 + 1))), (3, .int (nI 0)), (4, .int (nI 0)), (5, .int (nI 0)), (6, .int (nI 1)), (7, .int (nI 60))]) hx hb d_law_85 hl (by decide) rfl (fun ls hl => ?_)
      refine lv_iload hx hb d_law_87 (lv_at hl 0 rfl) ?_
      refine lv_iconst (v := nI 3) hx hb d_law_89 (by decide) ?_
      refine lv_ishr hx hb d_law_90 ?_
      refine lv_bipush (v := nI 7) hx hb d_law_91 (by decide) ?_
      refine rr_rS (As := [.int ((xs (1 + i)) >>> (nI 3 &&& 31)), .int (nI 7)]) (rest := []) (idx := 83) S hK (c_A_low l D cs ((xs (1 + i)) >>> (nI 3 &&& 31)) (nI 7) (by decide)) k_A_low q_436 ⟨Nat.le_of_ble_eq_true rfl, Nat.le_of_ble_eq_true rfl⟩ ⟨(by show cells + 0 ≤ 1200; omega), (by show slots + 0 ≤ 9000; omega)⟩ hl (Nat.le_of_ble_eq_true rfl) rfl d_law_93 (fun r9 hr9 => ?_)
      subst hr9
      refine lv_istore (lv' := [(10, .int (lowI ((xs (1 + i)) >>> (nI 3 &&& 31)) (nI 7))), (9, .int (xs (1 + i))), (8, .int (nI i)), (0, .ref b), (1, .ref (ad 0)), (2, .int (nI (c9 + 1))), (3, .int (nI 0)), (4, .int (nI 0)), (5, .int (nI 0)), (6, .int (nI 1)), (7, .int (nI 60))]) hx hb d_law_96 hl (by decide) rfl (fun ls hl => ?_)
      refine lv_iload_n hx hb d_law_98 rfl (lv_at hl 5 rfl) ?_
      refine rr_if_ne (a := (c9 + 1)) (tgt := 106) (by omega) hx hb d_law_99 (by decide) (fun c99 => ?_) (fun c99 => ?_)
      · refine lv_iload hx hb d_law_106 (lv_at hl 1 rfl) ?_
        refine lv_bipush (v := nI 6) hx hb d_law_108 (by decide) ?_
        refine lv_ishr hx hb d_law_110 ?_
        refine lv_iload_n hx hb d_law_111 rfl (lv_at hl 5 rfl) ?_
        refine rr_rS (As := [.int ((xs (1 + i)) >>> (nI 6 &&& 31)), .int (nI (c9 + 1))]) (rest := []) (idx := 83) S hK (c_A_low l D cs ((xs (1 + i)) >>> (nI 6 &&& 31)) (nI (c9 + 1)) (nI_ne0 (by omega) (by omega))) k_A_low q_436 ⟨Nat.le_of_ble_eq_true rfl, Nat.le_of_ble_eq_true rfl⟩ ⟨(by show cells + 0 ≤ 1200; omega), (by show slots + 0 ≤ 9000; omega)⟩ hl (Nat.le_of_ble_eq_true rfl) rfl d_law_112 (fun r9 hr9 => ?_)
        subst hr9
        refine rr_top (show (lowI ((xs (1 + i)) >>> (nI 6 &&& 31)) (nI (c9 + 1)) : Int32) = nI c9 from hcar) ?_
        refine lv_istore (lv' := [(11, .int (nI c9)), (10, .int (lowI ((xs (1 + i)) >>> (nI 3 &&& 31)) (nI 7))), (9, .int (xs (1 + i))), (8, .int (nI i)), (0, .ref b), (1, .ref (ad 0)), (2, .int (nI (c9 + 1))), (3, .int (nI 0)), (4, .int (nI 0)), (5, .int (nI 0)), (6, .int (nI 1)), (7, .int (nI 60))]) hx hb d_law_115 hl (by decide) rfl (fun ls hl => ?_)
        refine lv_iload hx hb d_law_117 (lv_at hl 2 rfl) ?_
        refine lv_bipush (v := nI 20) hx hb d_law_119 (by decide) ?_
        refine lv_ishr hx hb d_law_121 ?_
        refine lv_bipush (v := nI 24) hx hb d_law_122 (by decide) ?_
        refine rr_rS (As := [.int ((xs (1 + i)) >>> (nI 20 &&& 31)), .int (nI 24)]) (rest := []) (idx := 83) S hK (c_A_low l D cs ((xs (1 + i)) >>> (nI 20 &&& 31)) (nI 24) (by decide)) k_A_low q_436 ⟨Nat.le_of_ble_eq_true rfl, Nat.le_of_ble_eq_true rfl⟩ ⟨(by show cells + 0 ≤ 1200; omega), (by show slots + 0 ≤ 9000; omega)⟩ hl (Nat.le_of_ble_eq_true rfl) rfl d_law_124 (fun r9 hr9 => ?_)
        subst hr9
        refine rr_top (show (lowI ((xs (1 + i)) >>> (nI 20 &&& 31)) (nI 24) : Int32) = nI 16 from hsort) ?_
        refine lv_istore (lv' := [(12, .int (nI 16)), (11, .int (nI c9)), (10, .int (lowI ((xs (1 + i)) >>> (nI 3 &&& 31)) (nI 7))), (9, .int (xs (1 + i))), (8, .int (nI i)), (0, .ref b), (1, .ref (ad 0)), (2, .int (nI (c9 + 1))), (3, .int (nI 0)), (4, .int (nI 0)), (5, .int (nI 0)), (6, .int (nI 1)), (7, .int (nI 60))]) hx hb d_law_127 hl (by decide) rfl (fun ls hl => ?_)
        refine lv_iload hx hb d_law_129 (lv_at hl 0 rfl) ?_
        refine lv_iconst (v := nI 4) hx hb d_law_131 (by decide) ?_
        refine rr_icmp_ge (a := 16) (b := 4) (tgt := 211) (by omega) (by omega) hx hb d_law_132 (by decide) (fun c132 => ?_) (fun c132 => ?_)
        · refine lv_iload hx hb d_law_211 (lv_at hl 0 rfl) ?_
          refine lv_iconst (v := nI 5) hx hb d_law_213 (by decide) ?_
          refine rr_icmp_ge (a := 16) (b := 5) (tgt := 272) (by omega) (by omega) hx hb d_law_214 (by decide) (fun c214 => ?_) (fun c214 => ?_)
          · refine lv_iload hx hb d_law_272 (lv_at hl 0 rfl) ?_
            refine lv_bipush (v := nI 9) hx hb d_law_274 (by decide) ?_
            refine rr_icmp_ge (a := 16) (b := 9) (tgt := 340) (by omega) (by omega) hx hb d_law_276 (by decide) (fun c276 => ?_) (fun c276 => ?_)
            · refine lv_iload hx hb d_law_340 (lv_at hl 0 rfl) ?_
              refine lv_bipush (v := nI 10) hx hb d_law_342 (by decide) ?_
              refine rr_icmp_ge (a := 16) (b := 10) (tgt := 400) (by omega) (by omega) hx hb d_law_344 (by decide) (fun c344 => ?_) (fun c344 => ?_)
              · refine lv_iload hx hb d_law_400 (lv_at hl 0 rfl) ?_
                refine lv_bipush (v := nI 13) hx hb d_law_402 (by decide) ?_
                refine rr_icmp_ge (a := 16) (b := 13) (tgt := 469) (by omega) (by omega) hx hb d_law_404 (by decide) (fun c404 => ?_) (fun c404 => ?_)
                · refine lv_iload hx hb d_law_469 (lv_at hl 0 rfl) ?_
                  refine lv_bipush (v := nI 16) hx hb d_law_471 (by decide) ?_
                  refine rr_icmp_ge (a := 16) (b := 16) (tgt := 600) (by omega) (by omega) hx hb d_law_473 (by decide) (fun c473 => ?_) (fun c473 => ?_)
                  · refine lv_iload hx hb d_law_600 (lv_at hl 0 rfl) ?_
                    refine lv_bipush (v := nI 17) hx hb d_law_602 (by decide) ?_
                    refine rr_icmp_ge (a := 16) (b := 17) (tgt := 656) (by omega) (by omega) hx hb d_law_604 (by decide) (fun c604 => ?_) (fun c604 => ?_)
                    · exact (by omega : False).elim
                    · refine lv_iload_n hx hb d_law_607 rfl (lv_at hl 7 rfl) ?_
                      refine rr_if_le (a := (c9 + 1)) (tgt := 656) (by omega) hx hb d_law_608 (by decide) (fun c608 => ?_) (fun c608 => ?_)
                      · exact (by omega : False).elim
                      · refine lv_aload_n hx hb d_law_611 rfl (lv_at hl 6 rfl) ?_
                        refine lv_iload hx hb d_law_612 (lv_at hl 1 rfl) ?_
                        refine rf_wS (As := [.ref (ad 0), .int (nI c9)]) (rest := []) (idx := 116) (wr := []) S hK hY hZ hP hD hS hA (c_A_takeOff0 l D cs ad μ ρ (nI c9) (nI 0) hM hC (hSC.off0 (by omega)) (congrArg nI (hSC.offA (by omega))) hfl H.size) k_A_takeOff [0, 1, 2, 3, 4, 5, 6, 7, 8, 9, 10, 11, 12, 13, 14, 15, 16, 17, 18, 19, 20, 21, 22, 23] [] rfl (by decide) rfl (by decide) (by decide) q_466 ⟨Nat.le_of_ble_eq_true rfl, Nat.le_of_ble_eq_true rfl⟩ ⟨(by show cells + 1 ≤ 1200; omega), (by show slots + 6 ≤ 9000; omega)⟩ hl (Nat.le_of_ble_eq_true rfl) rfl d_law_614 (fun H locs hP hD hS hz9 => ?_)
                        have hP : va_P D classes (cwL cs ad (muOff μ (ix 16 (nI c9))) (roOff ρ (ix 16 (nI c9)))) H := hP
                        have hD : va_D (lwA s) (cwL cs ad (muOff μ (ix 16 (nI c9))) (roOff ρ (ix 16 (nI c9)))) := hD
                        have hz : s.heap.size + (N9) ≤ H.size := by omega
                        rw [hk9] at hP hD
                        have hM1 := IM_off hM (k := c9) (by rw [hSC.2.2.2.1]; omega) (hSC.pp c9)
                        have hC1 := IC_off hC c9
                        have hSC1 := SC_off hSC
                        refine lv_istore (lv' := [(13, .int (nI 0)), (12, .int (nI 16)), (11, .int (nI c9)), (10, .int (lowI ((xs (1 + i)) >>> (nI 3 &&& 31)) (nI 7))), (9, .int (xs (1 + i))), (8, .int (nI i)), (0, .ref b), (1, .ref (ad 0)), (2, .int (nI (c9 + 1))), (3, .int (nI 0)), (4, .int (nI 0)), (5, .int (nI 0)), (6, .int (nI 1)), (7, .int (nI 60))]) hx hb d_law_617 hl (by decide) rfl (fun ls hl => ?_)
                        refine lv_iload hx hb d_law_619 (lv_at hl 0 rfl) ?_
                        refine lv_if_lt (tgt := 646) hx hb d_law_621 (by decide) (fun c621 => absurd c621 (nI_pos (by omega))) (fun _ => ?_)
                        refine lv_iload hx hb d_law_624 (lv_at hl 0 rfl) ?_
                        refine lv_sipush (v := nI 1200) hx hb d_law_626 (by decide) ?_
                        refine rr_irem (a := 0) (b := 1200) (by omega) (by omega) (by omega) hx hb d_law_629 ?_
                        refine lv_bipush (v := nI 20) hx hb d_law_630 (by decide) ?_
                        refine rr_icmp_ge (a := (0 % 1200)) (b := 20) (tgt := 650) (by omega) (by omega) hx hb d_law_632 (by decide) (fun c632 => ?_) (fun c632 => ?_)
                        · exact (by omega : False).elim
                        · refine lv_aload_n hx hb d_law_635 rfl (lv_at hl 7 rfl) ?_
                          refine lv_iload hx hb d_law_636 (lv_at hl 2 rfl) ?_
                          refine rf_wS (As := [.ref (ad 0), .int (nI c9)]) (rest := []) (idx := 53) (wr := []) S hK hY hZ hP hD hS hA (c_A_place0 l D cs ad (muOff μ c9) (roOff ρ c9) (nI c9) hM1 hC1 (hSC1.car0 (by omega) (by omega) (by omega)) hfl H.size) k_A_place [0, 1, 2, 3, 4, 5, 6, 7, 8, 9, 10, 11, 12, 13, 14, 15, 16, 17, 18, 19, 20, 21, 22, 23] [] rfl (by decide) rfl (by decide) (by decide) q_497 ⟨Nat.le_of_ble_eq_true rfl, Nat.le_of_ble_eq_true rfl⟩ ⟨(by show cells + 2 ≤ 1200; omega), (by show slots + 12 ≤ 9000; omega)⟩ hl (Nat.le_of_ble_eq_true rfl) rfl d_law_638 (fun H locs hP hD hS hz9 => ?_)
                          have hP : va_P D classes (cwL cs ad (muOff μ c9) (roOff ρ c9)) H := hP
                          have hD : va_D (lwA s) (cwL cs ad (muOff μ c9) (roOff ρ c9)) := hD
                          have hz : s.heap.size + (N9 + 1) ≤ H.size := by omega
                          refine lv_bipush (v := (-4)) hx hb d_law_641 (by decide) ?_
                          refine lv_icmp_ne (tgt := 650) hx hb d_law_643 (by decide) (fun c643 => ?_) (fun c643 => ?_)
                          · exact (c643 rfl : False).elim
                          · refine lv_iconst (v := nI 1) hx hb d_law_646 (by decide) ?_
                            refine lv_goto (tgt := 651) hx hb d_law_647 (by decide) ?_
                            refine lv_istore (lv' := [(6, .int (nI 1)), (13, .int (nI 0)), (12, .int (nI 16)), (11, .int (nI c9)), (10, .int (lowI ((xs (1 + i)) >>> (nI 3 &&& 31)) (nI 7))), (9, .int (xs (1 + i))), (8, .int (nI i)), (0, .ref b), (1, .ref (ad 0)), (2, .int (nI (c9 + 1))), (3, .int (nI 0)), (4, .int (nI 0)), (5, .int (nI 0)), (7, .int (nI 60))]) hx hb d_law_651 hl (by decide) rfl (fun ls hl => ?_)
                            refine lv_goto (tgt := 878) hx hb d_law_653 (by decide) ?_
                            refine lv_iload hx hb d_law_878 (lv_at hl 0 rfl) ?_
                            refine rr_if_eq (a := 1) (tgt := 902) (by omega) hx hb d_law_880 (by decide) (fun c880 => ?_) (fun c880 => ?_)
                            · exact (by omega : False).elim
                            · refine lv_aload_n hx hb d_law_883 rfl (lv_at hl 8 rfl) ?_
                              refine rr_rSW (As := [.ref (ad 0)]) (rest := []) (idx := 69) S hK hP (c_A_votes l D cs ad (muOff μ c9) (roOff ρ c9) (c9 + 1) 0 hM1 hC1 hSC1) k_A_votes [0, 1, 2, 3, 4, 5, 6, 7, 8, 9, 10, 11, 12, 13, 14, 15, 16, 17, 18, 19, 20, 21, 22, 23] rfl q_500 ⟨Nat.le_of_ble_eq_true rfl, Nat.le_of_ble_eq_true rfl⟩ ⟨(by show cells + 2 ≤ 1200; omega), (by show slots + 12 ≤ 9000; omega)⟩ hl (Nat.le_of_ble_eq_true rfl) rfl d_law_884 (fun r9 hr9 => ?_)
                              subst hr9
                              refine rr_if_eq (a := 1) (tgt := 902) (by omega) hx hb d_law_887 (by decide) (fun c887 => ?_) (fun c887 => ?_)
                              · exact (by omega : False).elim
                              · refine lv_aload_n hx hb d_law_890 rfl (lv_at hl 8 rfl) ?_
                                refine lv_iload_n hx hb d_law_891 rfl (lv_at hl 9 rfl) ?_
                                refine rf_cS (As := [.ref (ad 0), .int (nI (c9 + 1))]) (rest := []) (idx := 73) (wr := []) S hK hY hZ hP hD hS hA (c_A_cars l D cs ad (muOff μ c9) (roOff ρ c9) (c9 + 1) 0 hM1 hC1 hSC1 (by omega) (by omega) (by omega) hfl H.size) k_A_cars [0, 1, 2, 3, 4, 5, 6, 7, 8, 9, 10, 11, 12, 13, 14, 15, 16, 17, 18, 19, 20, 21, 22, 23] [] rfl (by decide) rfl (by decide) (by decide) q_526 ⟨Nat.le_of_ble_eq_true rfl, Nat.le_of_ble_eq_true rfl⟩ ⟨(by show cells + 18 ≤ 1200; omega), (by show slots + 108 ≤ 9000; omega)⟩ hl (Nat.le_of_ble_eq_true rfl) rfl d_law_892 (fun H locs hP hD hS hz9 => ?_)
                                have hP : va_P D classes (cwL cs ad (muOff μ c9) (roOff ρ c9)) H := hP
                                have hD : va_D (lwA s) (cwL cs ad (muOff μ c9) (roOff ρ c9)) := hD
                                have hz : s.heap.size + (N9 + 1 + (c9 + 1)) ≤ H.size := by omega
                                refine rr_if_eq (a := 1) (tgt := 902) (by omega) hx hb d_law_895 (by decide) (fun c895 => ?_) (fun c895 => ?_)
                                · exact (by omega : False).elim
                                · refine lv_iconst (v := nI 1) hx hb d_law_898 (by decide) ?_
                                  refine lv_goto (tgt := 903) hx hb d_law_899 (by decide) ?_
                                  refine lv_istore (lv' := [(6, .int (nI 1)), (13, .int (nI 0)), (12, .int (nI 16)), (11, .int (nI c9)), (10, .int (lowI ((xs (1 + i)) >>> (nI 3 &&& 31)) (nI 7))), (9, .int (xs (1 + i))), (8, .int (nI i)), (0, .ref b), (1, .ref (ad 0)), (2, .int (nI (c9 + 1))), (3, .int (nI 0)), (4, .int (nI 0)), (5, .int (nI 0)), (7, .int (nI 60))]) hx hb d_law_903 hl (by decide) rfl (fun ls hl => ?_)
                                  refine lv_iinc (v := nI (i + 1)) (lv' := [(8, .int (nI (i + 1))), (6, .int (nI 1)), (13, .int (nI 0)), (12, .int (nI 16)), (11, .int (nI c9)), (10, .int (lowI ((xs (1 + i)) >>> (nI 3 &&& 31)) (nI 7))), (9, .int (xs (1 + i))), (0, .ref b), (1, .ref (ad 0)), (2, .int (nI (c9 + 1))), (3, .int (nI 0)), (4, .int (nI 0)), (5, .int (nI 0)), (7, .int (nI 60))]) hx hb d_law_905 hl (k := 6) rfl (nI_add i 1) (by decide) rfl (fun ls hl => ?_)
                                  refine lv_goto (tgt := 65) hx hb d_law_908 (by decide) ?_
                                  exact G (muOff μ c9) (roOff ρ c9) H locs ls ⟨hM1, hC1, hSC1, hP, hD, hS, lv_sub hl [0, 7, 8, 9, 10, 11, 12, 1, 13] rfl, by omega⟩
                  · exact (by omega : False).elim
                · exact (by omega : False).elim
              · exact (by omega : False).elim
            · exact (by omega : False).elim
          · exact (by omega : False).elim
        · exact (by omega : False).elim
      · exact (by omega : False).elim
set_option maxHeartbeats 4000000 in
set_option maxRecDepth 100000 in
/-- a turn that is refused a car: there were 16 -/
theorem rf_itN {p : Program} {l : Launch} {e : Env} {s : State} {m : MethodId} {below : List Frame} {meth : Method} {c : Code} {b : Nat} {xs : Nat → Int32} {D : va_G} {cs : rr_C3} {ad : Nat → Nat} {μ ρ : NS} {i N9 cells slots : Nat} {H : Heap} {locs : List Loc} {ls : Array Slot} (C1 : rfC p l s m meth c b xs D cs) (hi : i < 60) (hsort : lowI (xs (1 + i) >>> (nI 20 &&& 31)) (nI 24) = nI 10) (hcl : cells + 17 ≤ 1200 ∧ slots + 102 ≤ 9000) (h : rfS s b D cs ad i 16 0 N9 μ ρ H locs ls) (G : ∀ (μ ρ : NS) (H : Heap) (locs : List Loc) (ls : Array Slot), rfS s b D cs ad (i + 1) 16 0 (N9 + 1 + 16) μ ρ H locs ls → W p l e rf_room s m #[Value.ref b] below meth c H locs (cells + 17) (slots + 102) (rf_Z below s 764) (F0 m 65 ls [])) : W p l e rf_room s m #[Value.ref b] below meth c H locs cells slots (rf_Z below s 764) (F0 m 65 ls []) := by
  obtain ⟨S, hr, hlk, hfl, hX, hbl, hK, hY, hZ⟩ := id C1
  obtain ⟨hx, hb, hml, hown, ht⟩ := id S
  have hA : ∀ q : Nat, s.heap.size ≤ q → lwA s q := fun _ h => h
  have hbA : ¬ lwA s b := Nat.not_le.mpr hbl
  obtain ⟨hM, hC, hSC, hP, hD, hS, hl, hz⟩ := h
  refine lv_iload hx hb d_law_65 (lv_at hl 0 rfl) ?_
  refine lv_iload hx hb d_law_67 (lv_at hl 8 rfl) ?_
  refine rr_icmp_ge (a := i) (b := 60) (tgt := 911) (by omega) (by omega) hx hb d_law_69 (by decide) (fun c69 => ?_) (fun c69 => ?_)
  · exact (by omega : False).elim
  · refine lv_iload hx hb d_law_72 (lv_at hl 7 rfl) ?_
    refine rr_if_eq (a := 1) (tgt := 911) (by omega) hx hb d_law_74 (by decide) (fun c74 => ?_) (fun c74 => ?_)
    · exact (by omega : False).elim
    · refine lv_aload_n hx hb d_law_77 rfl (lv_at hl 1 rfl) ?_
      refine lv_iconst (v := nI 1) hx hb d_law_78 (by decide) ?_
      refine lv_iload hx hb d_law_79 (lv_at hl 0 rfl) ?_
      refine rr_iadd (a := 1) (b := i) hx hb d_law_81 ?_
      refine rf_sx (As := [.ref b, .int (nI (1 + i))]) (rest := []) (idx := 79) S hK hX hbl hbA hS (c_A_cell l D cs b 61 xs (1 + i) (by omega) (by decide)) k_A_cell q_440 ⟨Nat.le_of_ble_eq_true rfl, Nat.le_of_ble_eq_true rfl⟩ ⟨(by show cells + 0 ≤ 1200; omega), (by show slots + 0 ≤ 9000; omega)⟩ hl (Nat.le_of_ble_eq_true rfl) rfl d_law_82 (fun r9 hr9 => ?_)
      subst hr9
      refine lv_istore (lv' := [(9, .int (xs (1 + i))), (8, .int (nI i)), (0, .ref b), (1, .ref (ad 0)), (2, .int (nI 16)), (3, .int (nI 0)), (4, .int (nI 0)), (5, .int (nI 0)), (6, .int (nI 1)), (7, .int (nI 60))]) hx hb d_law_85 hl (by decide) rfl (fun ls hl => ?_)
      refine lv_iload hx hb d_law_87 (lv_at hl 0 rfl) ?_
      refine lv_iconst (v := nI 3) hx hb d_law_89 (by decide) ?_
      refine lv_ishr hx hb d_law_90 ?_
      refine lv_bipush (v := nI 7) hx hb d_law_91 (by decide) ?_
      refine rr_rS (As := [.int ((xs (1 + i)) >>> (nI 3 &&& 31)), .int (nI 7)]) (rest := []) (idx := 83) S hK (c_A_low l D cs ((xs (1 + i)) >>> (nI 3 &&& 31)) (nI 7) (by decide)) k_A_low q_436 ⟨Nat.le_of_ble_eq_true rfl, Nat.le_of_ble_eq_true rfl⟩ ⟨(by show cells + 0 ≤ 1200; omega), (by show slots + 0 ≤ 9000; omega)⟩ hl (Nat.le_of_ble_eq_true rfl) rfl d_law_93 (fun r9 hr9 => ?_)
      subst hr9
      refine lv_istore (lv' := [(10, .int (lowI ((xs (1 + i)) >>> (nI 3 &&& 31)) (nI 7))), (9, .int (xs (1 + i))), (8, .int (nI i)), (0, .ref b), (1, .ref (ad 0)), (2, .int (nI 16)), (3, .int (nI 0)), (4, .int (nI 0)), (5, .int (nI 0)), (6, .int (nI 1)), (7, .int (nI 60))]) hx hb d_law_96 hl (by decide) rfl (fun ls hl => ?_)
      refine lv_iload_n hx hb d_law_98 rfl (lv_at hl 5 rfl) ?_
      refine rr_if_ne (a := 16) (tgt := 106) (by omega) hx hb d_law_99 (by decide) (fun c99 => ?_) (fun c99 => ?_)
      · refine lv_iload hx hb d_law_106 (lv_at hl 1 rfl) ?_
        refine lv_bipush (v := nI 6) hx hb d_law_108 (by decide) ?_
        refine lv_ishr hx hb d_law_110 ?_
        refine lv_iload_n hx hb d_law_111 rfl (lv_at hl 5 rfl) ?_
        refine rr_rS (As := [.int ((xs (1 + i)) >>> (nI 6 &&& 31)), .int (nI 16)]) (rest := []) (idx := 83) S hK (c_A_low l D cs ((xs (1 + i)) >>> (nI 6 &&& 31)) (nI 16) (by decide)) k_A_low q_436 ⟨Nat.le_of_ble_eq_true rfl, Nat.le_of_ble_eq_true rfl⟩ ⟨(by show cells + 0 ≤ 1200; omega), (by show slots + 0 ≤ 9000; omega)⟩ hl (Nat.le_of_ble_eq_true rfl) rfl d_law_112 (fun r9 hr9 => ?_)
        subst hr9
        refine lv_istore (lv' := [(11, .int (lowI ((xs (1 + i)) >>> (nI 6 &&& 31)) (nI 16))), (10, .int (lowI ((xs (1 + i)) >>> (nI 3 &&& 31)) (nI 7))), (9, .int (xs (1 + i))), (8, .int (nI i)), (0, .ref b), (1, .ref (ad 0)), (2, .int (nI 16)), (3, .int (nI 0)), (4, .int (nI 0)), (5, .int (nI 0)), (6, .int (nI 1)), (7, .int (nI 60))]) hx hb d_law_115 hl (by decide) rfl (fun ls hl => ?_)
        refine lv_iload hx hb d_law_117 (lv_at hl 2 rfl) ?_
        refine lv_bipush (v := nI 20) hx hb d_law_119 (by decide) ?_
        refine lv_ishr hx hb d_law_121 ?_
        refine lv_bipush (v := nI 24) hx hb d_law_122 (by decide) ?_
        refine rr_rS (As := [.int ((xs (1 + i)) >>> (nI 20 &&& 31)), .int (nI 24)]) (rest := []) (idx := 83) S hK (c_A_low l D cs ((xs (1 + i)) >>> (nI 20 &&& 31)) (nI 24) (by decide)) k_A_low q_436 ⟨Nat.le_of_ble_eq_true rfl, Nat.le_of_ble_eq_true rfl⟩ ⟨(by show cells + 0 ≤ 1200; omega), (by show slots + 0 ≤ 9000; omega)⟩ hl (Nat.le_of_ble_eq_true rfl) rfl d_law_124 (fun r9 hr9 => ?_)
        subst hr9
        refine rr_top (show (lowI ((xs (1 + i)) >>> (nI 20 &&& 31)) (nI 24) : Int32) = nI 10 from hsort) ?_
        refine lv_istore (lv' := [(12, .int (nI 10)), (11, .int (lowI ((xs (1 + i)) >>> (nI 6 &&& 31)) (nI 16))), (10, .int (lowI ((xs (1 + i)) >>> (nI 3 &&& 31)) (nI 7))), (9, .int (xs (1 + i))), (8, .int (nI i)), (0, .ref b), (1, .ref (ad 0)), (2, .int (nI 16)), (3, .int (nI 0)), (4, .int (nI 0)), (5, .int (nI 0)), (6, .int (nI 1)), (7, .int (nI 60))]) hx hb d_law_127 hl (by decide) rfl (fun ls hl => ?_)
        refine lv_iload hx hb d_law_129 (lv_at hl 0 rfl) ?_
        refine lv_iconst (v := nI 4) hx hb d_law_131 (by decide) ?_
        refine rr_icmp_ge (a := 10) (b := 4) (tgt := 211) (by omega) (by omega) hx hb d_law_132 (by decide) (fun c132 => ?_) (fun c132 => ?_)
        · refine lv_iload hx hb d_law_211 (lv_at hl 0 rfl) ?_
          refine lv_iconst (v := nI 5) hx hb d_law_213 (by decide) ?_
          refine rr_icmp_ge (a := 10) (b := 5) (tgt := 272) (by omega) (by omega) hx hb d_law_214 (by decide) (fun c214 => ?_) (fun c214 => ?_)
          · refine lv_iload hx hb d_law_272 (lv_at hl 0 rfl) ?_
            refine lv_bipush (v := nI 9) hx hb d_law_274 (by decide) ?_
            refine rr_icmp_ge (a := 10) (b := 9) (tgt := 340) (by omega) (by omega) hx hb d_law_276 (by decide) (fun c276 => ?_) (fun c276 => ?_)
            · refine lv_iload hx hb d_law_340 (lv_at hl 0 rfl) ?_
              refine lv_bipush (v := nI 10) hx hb d_law_342 (by decide) ?_
              refine rr_icmp_ge (a := 10) (b := 10) (tgt := 400) (by omega) (by omega) hx hb d_law_344 (by decide) (fun c344 => ?_) (fun c344 => ?_)
              · refine lv_iload hx hb d_law_400 (lv_at hl 0 rfl) ?_
                refine lv_bipush (v := nI 13) hx hb d_law_402 (by decide) ?_
                refine rr_icmp_ge (a := 10) (b := 13) (tgt := 469) (by omega) (by omega) hx hb d_law_404 (by decide) (fun c404 => ?_) (fun c404 => ?_)
                · exact (by omega : False).elim
                · refine lv_aload_n hx hb d_law_407 rfl (lv_at hl 6 rfl) ?_
                  refine rf_wS (As := [.ref (ad 0)]) (rest := []) (idx := 101) (wr := []) S hK hY hZ hP hD hS hA (c_A_putOn1 l D cs ad μ ρ hM hC (hSC.putF) hfl H.size) k_A_putOn [0, 1, 2, 3, 4, 5, 6, 7, 8, 9, 10, 11, 12, 13, 14, 15, 16, 17, 18, 19, 20, 21, 22, 23] [] rfl (by decide) rfl (by decide) (by decide) q_444 ⟨Nat.le_of_ble_eq_true rfl, Nat.le_of_ble_eq_true rfl⟩ ⟨(by show cells + 1 ≤ 1200; omega), (by show slots + 6 ≤ 9000; omega)⟩ hl (Nat.le_of_ble_eq_true rfl) rfl d_law_408 (fun H locs hP hD hS hz9 => ?_)
                  have hP : va_P D classes (cwL cs ad μ ρ) H := hP
                  have hD : va_D (lwA s) (cwL cs ad μ ρ) := hD
                  have hz : s.heap.size + (N9 + 1) ≤ H.size := by omega
                  refine lv_istore (lv' := [(13, .int (-3)), (12, .int (nI 10)), (11, .int (lowI ((xs (1 + i)) >>> (nI 6 &&& 31)) (nI 16))), (10, .int (lowI ((xs (1 + i)) >>> (nI 3 &&& 31)) (nI 7))), (9, .int (xs (1 + i))), (8, .int (nI i)), (0, .ref b), (1, .ref (ad 0)), (2, .int (nI 16)), (3, .int (nI 0)), (4, .int (nI 0)), (5, .int (nI 0)), (6, .int (nI 1)), (7, .int (nI 60))]) hx hb d_law_411 hl (by decide) rfl (fun ls hl => ?_)
                  refine lv_iload hx hb d_law_413 (lv_at hl 0 rfl) ?_
                  refine lv_bipush (v := (-3)) hx hb d_law_415 (by decide) ?_
                  refine lv_icmp_eq (tgt := 444) hx hb d_law_417 (by decide) (fun c417 => ?_) (fun c417 => ?_)
                  · refine lv_iconst (v := nI 1) hx hb d_law_444 (by decide) ?_
                    refine lv_goto (tgt := 449) hx hb d_law_445 (by decide) ?_
                    refine lv_istore (lv' := [(6, .int (nI 1)), (13, .int (-3)), (12, .int (nI 10)), (11, .int (lowI ((xs (1 + i)) >>> (nI 6 &&& 31)) (nI 16))), (10, .int (lowI ((xs (1 + i)) >>> (nI 3 &&& 31)) (nI 7))), (9, .int (xs (1 + i))), (8, .int (nI i)), (0, .ref b), (1, .ref (ad 0)), (2, .int (nI 16)), (3, .int (nI 0)), (4, .int (nI 0)), (5, .int (nI 0)), (7, .int (nI 60))]) hx hb d_law_449 hl (by decide) rfl (fun ls hl => ?_)
                    refine lv_iload_n hx hb d_law_451 rfl (lv_at hl 9 rfl) ?_
                    refine lv_iload hx hb d_law_452 (lv_at hl 1 rfl) ?_
                    refine lv_bipush (v := (-3)) hx hb d_law_454 (by decide) ?_
                    refine lv_icmp_ne (tgt := 463) hx hb d_law_456 (by decide) (fun c456 => ?_) (fun c456 => ?_)
                    · exact (c456 rfl : False).elim
                    · refine lv_iconst (v := nI 0) hx hb d_law_459 (by decide) ?_
                      refine lv_goto (tgt := 464) hx hb d_law_460 (by decide) ?_
                      refine rr_iadd (a := 16) (b := 0) hx hb d_law_464 ?_
                      refine lv_istore_n (lv' := [(2, .int (nI (16 + 0))), (6, .int (nI 1)), (13, .int (-3)), (12, .int (nI 10)), (11, .int (lowI ((xs (1 + i)) >>> (nI 6 &&& 31)) (nI 16))), (10, .int (lowI ((xs (1 + i)) >>> (nI 3 &&& 31)) (nI 7))), (9, .int (xs (1 + i))), (8, .int (nI i)), (0, .ref b), (1, .ref (ad 0)), (3, .int (nI 0)), (4, .int (nI 0)), (5, .int (nI 0)), (7, .int (nI 60))]) hx hb d_law_465 rfl hl (by decide) rfl (fun ls hl => ?_)
                      refine lv_goto (tgt := 878) hx hb d_law_466 (by decide) ?_
                      refine lv_iload hx hb d_law_878 (lv_at hl 1 rfl) ?_
                      refine rr_if_eq (a := 1) (tgt := 902) (by omega) hx hb d_law_880 (by decide) (fun c880 => ?_) (fun c880 => ?_)
                      · exact (by omega : False).elim
                      · refine lv_aload_n hx hb d_law_883 rfl (lv_at hl 9 rfl) ?_
                        refine rr_rSW (As := [.ref (ad 0)]) (rest := []) (idx := 69) S hK hP (c_A_votes l D cs ad μ ρ (16) 0 hM hC hSC) k_A_votes [0, 1, 2, 3, 4, 5, 6, 7, 8, 9, 10, 11, 12, 13, 14, 15, 16, 17, 18, 19, 20, 21, 22, 23] rfl q_500 ⟨Nat.le_of_ble_eq_true rfl, Nat.le_of_ble_eq_true rfl⟩ ⟨(by show cells + 1 ≤ 1200; omega), (by show slots + 6 ≤ 9000; omega)⟩ hl (Nat.le_of_ble_eq_true rfl) rfl d_law_884 (fun r9 hr9 => ?_)
                        subst hr9
                        refine rr_if_eq (a := 1) (tgt := 902) (by omega) hx hb d_law_887 (by decide) (fun c887 => ?_) (fun c887 => ?_)
                        · exact (by omega : False).elim
                        · refine lv_aload_n hx hb d_law_890 rfl (lv_at hl 9 rfl) ?_
                          refine lv_iload_n hx hb d_law_891 rfl (lv_at hl 0 rfl) ?_
                          refine rf_cS (As := [.ref (ad 0), .int (nI (16))]) (rest := []) (idx := 73) (wr := []) S hK hY hZ hP hD hS hA (c_A_cars l D cs ad μ ρ (16) 0 hM hC hSC (by omega) (by omega) (by omega) hfl H.size) k_A_cars [0, 1, 2, 3, 4, 5, 6, 7, 8, 9, 10, 11, 12, 13, 14, 15, 16, 17, 18, 19, 20, 21, 22, 23] [] rfl (by decide) rfl (by decide) (by decide) q_526 ⟨Nat.le_of_ble_eq_true rfl, Nat.le_of_ble_eq_true rfl⟩ ⟨(by show cells + 17 ≤ 1200; omega), (by show slots + 102 ≤ 9000; omega)⟩ hl (Nat.le_of_ble_eq_true rfl) rfl d_law_892 (fun H locs hP hD hS hz9 => ?_)
                          have hP : va_P D classes (cwL cs ad μ ρ) H := hP
                          have hD : va_D (lwA s) (cwL cs ad μ ρ) := hD
                          have hz : s.heap.size + (N9 + 1 + 16) ≤ H.size := by omega
                          refine rr_if_eq (a := 1) (tgt := 902) (by omega) hx hb d_law_895 (by decide) (fun c895 => ?_) (fun c895 => ?_)
                          · exact (by omega : False).elim
                          · refine lv_iconst (v := nI 1) hx hb d_law_898 (by decide) ?_
                            refine lv_goto (tgt := 903) hx hb d_law_899 (by decide) ?_
                            refine lv_istore (lv' := [(6, .int (nI 1)), (2, .int (nI (16 + 0))), (13, .int (-3)), (12, .int (nI 10)), (11, .int (lowI ((xs (1 + i)) >>> (nI 6 &&& 31)) (nI 16))), (10, .int (lowI ((xs (1 + i)) >>> (nI 3 &&& 31)) (nI 7))), (9, .int (xs (1 + i))), (8, .int (nI i)), (0, .ref b), (1, .ref (ad 0)), (3, .int (nI 0)), (4, .int (nI 0)), (5, .int (nI 0)), (7, .int (nI 60))]) hx hb d_law_903 hl (by decide) rfl (fun ls hl => ?_)
                            refine lv_iinc (v := nI (i + 1)) (lv' := [(8, .int (nI (i + 1))), (6, .int (nI 1)), (2, .int (nI (16 + 0))), (13, .int (-3)), (12, .int (nI 10)), (11, .int (lowI ((xs (1 + i)) >>> (nI 6 &&& 31)) (nI 16))), (10, .int (lowI ((xs (1 + i)) >>> (nI 3 &&& 31)) (nI 7))), (9, .int (xs (1 + i))), (0, .ref b), (1, .ref (ad 0)), (3, .int (nI 0)), (4, .int (nI 0)), (5, .int (nI 0)), (7, .int (nI 60))]) hx hb d_law_905 hl (k := 7) rfl (nI_add i 1) (by decide) rfl (fun ls hl => ?_)
                            refine lv_goto (tgt := 65) hx hb d_law_908 (by decide) ?_
                            exact G μ ρ H locs ls ⟨hM, hC, hSC, hP, hD, hS, lv_sub hl [0, 8, 9, 2, 10, 11, 12, 1, 13] rfl, by omega⟩
                  · exact (c417 rfl : False).elim
              · exact (by omega : False).elim
            · exact (by omega : False).elim
          · exact (by omega : False).elim
        · exact (by omega : False).elim
      · exact (by omega : False).elim
