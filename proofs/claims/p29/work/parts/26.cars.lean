theorem k_A_cars : rr_CS y_A_cars b_A_cars 6 (some .boolean) 2 := ⟨q_527, q_0, q_528, by decide, by decide, by decide +kernel⟩
set_option maxHeartbeats 4000000 in
set_option maxRecDepth 100000 in
/-- the law's cars: for each car that was taken off an exception is made -/
theorem c_A_cars (l : Launch) (D : va_G) (cs : rr_C3) (ad : Nat → Nat) (μ : NS) (ρ : NS) (c9 : Nat) (d9 : Nat) (hM : IM μ) (hC : IC μ ρ) (hSC : SC μ c9 d9) (hd1 : d9 ≤ 1) (hdc : d9 ≤ c9) (hc : c9 ≤ 16) (hfl : l.stackTraces = false) (sz : Nat) : CXs l y_A_cars b_A_cars 6 (some .boolean) 8 125 16 96 D cs (cwL cs ad μ ρ) sz [.ref (ad 0), .int (nI c9)] (nI 1) (cwL cs ad μ ρ) (c9 - d9) := by
  refine CXs.of (by decide) (Nat.le_of_ble_eq_true rfl) ?_
  intro p e s m args below meth c A S hr hlk hK hY hZ hP hD hA hS ls hl
  obtain ⟨hx, hb, hml, hown, ht⟩ := id S
  have hl : lv_has ls 6 [(0, .ref (ad 0)), (1, .int (nI c9))] := hl
  have key : ∀ (q i : Nat) (H : Heap) (locs : List Loc) (ls : Array Slot), i + q = c9 → lv_has ls 6 [(4, .int (nI i)), (3, .int (nI 1)), (2, .int (nI (i + d9 - c9))), (0, .ref (ad 0)), (1, .int (nI c9))] → va_P D classes (cwL cs ad μ ρ) H → va_D A (cwL cs ad μ ρ) → va_S A s.heap H locs → s.heap.size + (i - (i + d9 - c9)) ≤ H.size → W p l e { frames := 8, cells := 16, slots := 96, locals := 125 } s m args below meth c H locs i (6 * i) (MQ below (va_Qi (fun r (_ : Unit) => r = nI 1) (fun _ t => va_P D classes (cwL cs ad μ ρ) t.heap ∧ va_D A (cwL cs ad μ ρ) ∧ s.heap.size + (c9 - d9) ≤ t.heap.size) A) args s 16 96 A) (F0 m 7 ls []) := by
    intro q
    induction q with
    | zero =>
      intro i H locs ls hi hl hP hD hS hz
      refine lv_iload hx hb d_A_cars_7 (lv_at hl 0 rfl) ?_
      refine lv_iload_n hx hb d_A_cars_9 rfl (lv_at hl 4 rfl) ?_
      refine rr_icmp_ge (a := i) (b := c9) (tgt := 103) (by omega) (by omega) hx hb d_A_cars_10 (by decide) (fun c10 => ?_) (fun c10 => ?_)
      · refine lv_iload_n hx hb d_A_cars_103 rfl (lv_at hl 1 rfl) ?_
        refine rr_if_eq (a := 1) (tgt := 144) (by omega) hx hb d_A_cars_104 (by decide) (fun c104 => ?_) (fun c104 => ?_)
        · exact (by omega : False).elim
        · refine lv_aload_n hx hb d_A_cars_107 rfl (lv_at hl 3 rfl) ?_
          refine rr_rV (As := []) (rest := []) (idx := 62) (q0 := 0) (ci := 5) S hK hP (c_V_cars l D cs ad μ ρ (by first | assumption | omega) (by first | assumption | omega)) k_V_cars [0, 1, 2, 3, 4, 5, 6, 7, 8, 9, 10, 11, 12, 13, 14, 15, 16, 17, 18, 19, 20, 21, 22, 23] rfl rfl rfl rfl q_537 ⟨Nat.le_of_ble_eq_true rfl, Nat.le_of_ble_eq_true rfl⟩ ⟨(by show i ≤ 16; omega), (by show 6 * i ≤ 96; omega)⟩ hl (Nat.le_of_ble_eq_true rfl) rfl d_A_cars_108 (fun r9 hr9 => ?_)
          subst hr9
          refine rr_top (show (nI (ct (onM μ) 16) : Int32) = nI d9 from congrArg nI (hSC.cntAll hdc hc)) ?_
          refine lv_iload_n hx hb d_A_cars_111 rfl (lv_at hl 2 rfl) ?_
          refine rr_icmp_ne (a := d9) (b := (i + d9 - c9)) (tgt := 144) (by omega) (by omega) hx hb d_A_cars_112 (by decide) (fun c112 => ?_) (fun c112 => ?_)
          · exact (by omega : False).elim
          · refine lv_iload_n hx hb d_A_cars_115 rfl (lv_at hl 2 rfl) ?_
            refine lv_iconst (v := nI 1) hx hb d_A_cars_116 (by decide) ?_
            refine rr_icmp_le (a := (i + d9 - c9)) (b := 1) (tgt := 132) (by omega) (by omega) hx hb d_A_cars_117 (by decide) (fun c117 => ?_) (fun c117 => ?_)
            · refine lv_aload_n hx hb d_A_cars_132 rfl (lv_at hl 3 rfl) ?_
              refine rr_rV (As := []) (rest := []) (idx := 65) (q0 := 0) (ci := 5) S hK hP (c_V_leastGap l D cs ad μ ρ (by first | assumption | omega) (by first | assumption | omega)) k_V_leastGap [0, 1, 2, 3, 4, 5, 6, 7, 8, 9, 10, 11, 12, 13, 14, 15, 16, 17, 18, 19, 20, 21, 22, 23] rfl rfl rfl rfl q_545 ⟨Nat.le_of_ble_eq_true rfl, Nat.le_of_ble_eq_true rfl⟩ ⟨(by show i ≤ 16; omega), (by show 6 * i ≤ 96; omega)⟩ hl (Nat.le_of_ble_eq_true rfl) rfl d_A_cars_133 (fun r9 hr9 => ?_)
              subst hr9
              refine rr_top (show (mI (lgo (onM μ) (pN μ) 16) : Int32) = (-1) from by rw [hSC.gap hd1]; exact mI_0) ?_
              refine lv_iconst (v := (-1)) hx hb d_A_cars_136 (by decide) ?_
              refine lv_icmp_ne (tgt := 144) hx hb d_A_cars_137 (by decide) (fun c137 => ?_) (fun c137 => ?_)
              · exact (c137 rfl : False).elim
              · refine lv_iconst (v := nI 1) hx hb d_A_cars_140 (by decide) ?_
                refine lv_goto (tgt := 145) hx hb d_A_cars_141 (by decide) ?_
                refine W.widen (k := 16) (n := 96) (by omega) (by omega) ?_
                exact rf_mretZ (v := 1) (Nat.le_refl 1) hx hb hr hlk hP hD hS (by omega) d_A_cars_145
            · exact (by omega : False).elim
      · exact (by omega : False).elim
    | succ q ih =>
      intro i H locs ls hi hl hP hD hS hz
      by_cases hon : c9 ≤ i + d9
      · refine lv_iload hx hb d_A_cars_7 (lv_at hl 0 rfl) ?_
        refine lv_iload_n hx hb d_A_cars_9 rfl (lv_at hl 4 rfl) ?_
        refine rr_icmp_ge (a := i) (b := c9) (tgt := 103) (by omega) (by omega) hx hb d_A_cars_10 (by decide) (fun c10 => ?_) (fun c10 => ?_)
        · exact (by omega : False).elim
        · refine lv_iload_n hx hb d_A_cars_13 rfl (lv_at hl 1 rfl) ?_
          refine rr_if_eq (a := 1) (tgt := 103) (by omega) hx hb d_A_cars_14 (by decide) (fun c14 => ?_) (fun c14 => ?_)
          · exact (by omega : False).elim
          · refine lv_aload_n hx hb d_A_cars_17 rfl (lv_at hl 3 rfl) ?_
            refine lv_iload hx hb d_A_cars_18 (lv_at hl 0 rfl) ?_
            refine rf_wS (As := [.ref (ad 0), .int (nI i)]) (rest := []) (idx := 53) (wr := []) S hK hY hZ hP hD hS hA (c_A_place1 l D cs ad μ ρ (nI i) (nI 0) hM hC (hSC.car1 hc (by omega) hon) (by rw [ix_nI (show i < 16 by omega) (by decide), hSC.pl (by omega)]) hfl H.size) k_A_place [0, 1, 2, 3, 4, 5, 6, 7, 8, 9, 10, 11, 12, 13, 14, 15, 16, 17, 18, 19, 20, 21, 22, 23] [] rfl (by decide) rfl (by decide) (by decide) q_497 ⟨Nat.le_of_ble_eq_true rfl, Nat.le_of_ble_eq_true rfl⟩ ⟨(by show i + 1 ≤ 16; omega), (by show 6 * i + 6 ≤ 96; omega)⟩ hl (Nat.le_of_ble_eq_true rfl) rfl d_A_cars_20 (fun H locs hP hD hS hz9 => ?_)
            have hP : va_P D classes (cwL cs ad μ ρ) H := hP
            have hD : va_D A (cwL cs ad μ ρ) := hD
            have hz : s.heap.size + (i + 1 - (i + 1 + d9 - c9)) ≤ H.size := by omega
            refine lv_istore (lv' := [(5, .int (nI 0)), (4, .int (nI i)), (3, .int (nI 1)), (2, .int (nI (i + d9 - c9))), (0, .ref (ad 0)), (1, .int (nI c9))]) hx hb d_A_cars_23 hl (by decide) rfl (fun ls hl => ?_)
            refine lv_iload_n hx hb d_A_cars_25 rfl (lv_at hl 3 rfl) ?_
            refine lv_iload hx hb d_A_cars_26 (lv_at hl 0 rfl) ?_
            refine lv_bipush (v := (-4)) hx hb d_A_cars_28 (by decide) ?_
            refine lv_icmp_ne (tgt := 37) hx hb d_A_cars_30 (by decide) (fun c30 => ?_) (fun c30 => ?_)
            · refine lv_iconst (v := nI 1) hx hb d_A_cars_37 (by decide) ?_
              refine rr_iadd (a := (i + d9 - c9)) (b := 1) hx hb d_A_cars_38 ?_
              refine lv_istore_n (lv' := [(2, .int (nI ((i + d9 - c9) + 1))), (5, .int (nI 0)), (4, .int (nI i)), (3, .int (nI 1)), (0, .ref (ad 0)), (1, .int (nI c9))]) hx hb d_A_cars_39 rfl hl (by decide) rfl (fun ls hl => ?_)
              refine lv_iload hx hb d_A_cars_40 (lv_at hl 1 rfl) ?_
              refine lv_bipush (v := (-4)) hx hb d_A_cars_42 (by decide) ?_
              refine lv_icmp_eq (tgt := 91) hx hb d_A_cars_44 (by decide) (fun c44 => ?_) (fun c44 => ?_)
              · exact (absurd c44 (by decide) : False).elim
              · refine lv_iload hx hb d_A_cars_47 (lv_at hl 1 rfl) ?_
                refine lv_aload_n hx hb d_A_cars_49 rfl (lv_at hl 4 rfl) ?_
                refine lv_iload hx hb d_A_cars_50 (lv_at hl 2 rfl) ?_
                refine rr_rV (As := [.int (nI i)]) (rest := [.int (nI 0)]) (idx := 56) (q0 := 0) (ci := 5) S hK hP (c_V_placeByTurns0 l D cs ad μ ρ (nI i) (by first | assumption | omega) (by first | assumption | omega) (hSC.car1 hc (by omega) hon)) k_V_placeByTurns [0, 1, 2, 3, 4, 5, 6, 7, 8, 9, 10, 11, 12, 13, 14, 15, 16, 17, 18, 19, 20, 21, 22, 23] rfl rfl rfl rfl q_529 ⟨Nat.le_of_ble_eq_true rfl, Nat.le_of_ble_eq_true rfl⟩ ⟨(by show i + 1 ≤ 16; omega), (by show 6 * i + 6 ≤ 96; omega)⟩ hl (Nat.le_of_ble_eq_true rfl) rfl d_A_cars_52 (fun r9 hr9 => ?_)
                subst hr9
                refine rr_top (show (nI (pN μ (ix 16 (nI i))) : Int32) = nI 0 from congrArg nI (by rw [ix_nI (show i < 16 by omega) (by decide), hSC.pl (by omega)])) ?_
                refine rr_icmp_ne (a := 0) (b := 0) (tgt := 95) (by omega) (by omega) hx hb d_A_cars_55 (by decide) (fun c55 => ?_) (fun c55 => ?_)
                · exact (by omega : False).elim
                · refine lv_iload hx hb d_A_cars_58 (lv_at hl 1 rfl) ?_
                  refine lv_if_lt (tgt := 95) hx hb d_A_cars_60 (by decide) (fun c60 => absurd c60 (nI_pos (by omega))) (fun _ => ?_)
                  refine lv_iload hx hb d_A_cars_63 (lv_at hl 1 rfl) ?_
                  refine lv_sipush (v := nI 1200) hx hb d_A_cars_65 (by decide) ?_
                  refine rr_icmp_ge (a := 0) (b := 1200) (tgt := 95) (by omega) (by omega) hx hb d_A_cars_68 (by decide) (fun c68 => ?_) (fun c68 => ?_)
                  · exact (by omega : False).elim
                  · refine lv_aload_n hx hb d_A_cars_71 rfl (lv_at hl 4 rfl) ?_
                    refine lv_iload hx hb d_A_cars_72 (lv_at hl 2 rfl) ?_
                    refine rr_rV (As := [.int (nI i)]) (rest := []) (idx := 59) (q0 := 0) (ci := 5) S hK hP (c_V_people0 l D cs ad μ ρ (nI i) (by first | assumption | omega) (by first | assumption | omega) (hSC.car1 hc (by omega) hon)) k_V_people [0, 1, 2, 3, 4, 5, 6, 7, 8, 9, 10, 11, 12, 13, 14, 15, 16, 17, 18, 19, 20, 21, 22, 23] rfl rfl rfl rfl q_533 ⟨Nat.le_of_ble_eq_true rfl, Nat.le_of_ble_eq_true rfl⟩ ⟨(by show i + 1 ≤ 16; omega), (by show 6 * i + 6 ≤ 96; omega)⟩ hl (Nat.le_of_ble_eq_true rfl) rfl d_A_cars_74 (fun r9 hr9 => ?_)
                    subst hr9
                    refine rr_top (show (nI (ppl μ (ix 16 (nI i))) : Int32) = nI 0 from congrArg nI (hSC.pp _)) ?_
                    refine lv_if_lt (tgt := 95) hx hb d_A_cars_77 (by decide) (fun c77 => absurd c77 (nI_pos (by omega))) (fun _ => ?_)
                    refine lv_aload_n hx hb d_A_cars_80 rfl (lv_at hl 4 rfl) ?_
                    refine lv_iload hx hb d_A_cars_81 (lv_at hl 2 rfl) ?_
                    refine rr_rV (As := [.int (nI i)]) (rest := []) (idx := 59) (q0 := 0) (ci := 5) S hK hP (c_V_people0 l D cs ad μ ρ (nI i) (by first | assumption | omega) (by first | assumption | omega) (hSC.car1 hc (by omega) hon)) k_V_people [0, 1, 2, 3, 4, 5, 6, 7, 8, 9, 10, 11, 12, 13, 14, 15, 16, 17, 18, 19, 20, 21, 22, 23] rfl rfl rfl rfl q_533 ⟨Nat.le_of_ble_eq_true rfl, Nat.le_of_ble_eq_true rfl⟩ ⟨(by show i + 1 ≤ 16; omega), (by show 6 * i + 6 ≤ 96; omega)⟩ hl (Nat.le_of_ble_eq_true rfl) rfl d_A_cars_83 (fun r9 hr9 => ?_)
                    subst hr9
                    refine rr_top (show (nI (ppl μ (ix 16 (nI i))) : Int32) = nI 0 from congrArg nI (hSC.pp _)) ?_
                    refine lv_bipush (v := nI 9) hx hb d_A_cars_86 (by decide) ?_
                    refine rr_icmp_ge (a := 0) (b := 9) (tgt := 95) (by omega) (by omega) hx hb d_A_cars_88 (by decide) (fun c88 => ?_) (fun c88 => ?_)
                    · exact (by omega : False).elim
                    · refine lv_iconst (v := nI 1) hx hb d_A_cars_91 (by decide) ?_
                      refine lv_goto (tgt := 96) hx hb d_A_cars_92 (by decide) ?_
                      refine lv_istore_n (lv' := [(3, .int (nI 1)), (2, .int (nI ((i + d9 - c9) + 1))), (5, .int (nI 0)), (4, .int (nI i)), (0, .ref (ad 0)), (1, .int (nI c9))]) hx hb d_A_cars_96 rfl hl (by decide) rfl (fun ls hl => ?_)
                      refine lv_iinc (v := nI (i + 1)) (lv' := [(4, .int (nI (i + 1))), (3, .int (nI 1)), (2, .int (nI ((i + d9 - c9) + 1))), (5, .int (nI 0)), (0, .ref (ad 0)), (1, .int (nI c9))]) hx hb d_A_cars_97 hl (k := 3) rfl (nI_add i 1) (by decide) rfl (fun ls hl => ?_)
                      refine lv_goto (tgt := 7) hx hb d_A_cars_100 (by decide) ?_
                      exact ih (i + 1) H locs ls (by omega) (by show lv_has ls 6 [(4, .int (nI (i + 1))), (3, .int (nI 1)), (2, .int (nI (i + 1 + d9 - c9))), (0, .ref (ad 0)), (1, .int (nI c9))]; rw [show i + 1 + d9 - c9 = i + d9 - c9 + 1 from by omega]; exact lv_sub hl [0, 1, 2, 4, 5] rfl) hP hD hS hz
            · exact (absurd c30 (by decide) : False).elim
      · refine lv_iload hx hb d_A_cars_7 (lv_at hl 0 rfl) ?_
        refine lv_iload_n hx hb d_A_cars_9 rfl (lv_at hl 4 rfl) ?_
        refine rr_icmp_ge (a := i) (b := c9) (tgt := 103) (by omega) (by omega) hx hb d_A_cars_10 (by decide) (fun c10 => ?_) (fun c10 => ?_)
        · exact (by omega : False).elim
        · refine lv_iload_n hx hb d_A_cars_13 rfl (lv_at hl 1 rfl) ?_
          refine rr_if_eq (a := 1) (tgt := 103) (by omega) hx hb d_A_cars_14 (by decide) (fun c14 => ?_) (fun c14 => ?_)
          · exact (by omega : False).elim
          · refine lv_aload_n hx hb d_A_cars_17 rfl (lv_at hl 3 rfl) ?_
            refine lv_iload hx hb d_A_cars_18 (lv_at hl 0 rfl) ?_
            refine rf_wS (As := [.ref (ad 0), .int (nI i)]) (rest := []) (idx := 53) (wr := []) S hK hY hZ hP hD hS hA (c_A_place0 l D cs ad μ ρ (nI i) hM hC (hSC.car0 hc (by omega) (by omega)) hfl H.size) k_A_place [0, 1, 2, 3, 4, 5, 6, 7, 8, 9, 10, 11, 12, 13, 14, 15, 16, 17, 18, 19, 20, 21, 22, 23] [] rfl (by decide) rfl (by decide) (by decide) q_497 ⟨Nat.le_of_ble_eq_true rfl, Nat.le_of_ble_eq_true rfl⟩ ⟨(by show i + 1 ≤ 16; omega), (by show 6 * i + 6 ≤ 96; omega)⟩ hl (Nat.le_of_ble_eq_true rfl) rfl d_A_cars_20 (fun H locs hP hD hS hz9 => ?_)
            have hP : va_P D classes (cwL cs ad μ ρ) H := hP
            have hD : va_D A (cwL cs ad μ ρ) := hD
            have hz : s.heap.size + (i + 1 - (i + 1 + d9 - c9)) ≤ H.size := by omega
            refine lv_istore (lv' := [(5, .int (-4)), (4, .int (nI i)), (3, .int (nI 1)), (2, .int (nI (i + d9 - c9))), (0, .ref (ad 0)), (1, .int (nI c9))]) hx hb d_A_cars_23 hl (by decide) rfl (fun ls hl => ?_)
            refine lv_iload_n hx hb d_A_cars_25 rfl (lv_at hl 3 rfl) ?_
            refine lv_iload hx hb d_A_cars_26 (lv_at hl 0 rfl) ?_
            refine lv_bipush (v := (-4)) hx hb d_A_cars_28 (by decide) ?_
            refine lv_icmp_ne (tgt := 37) hx hb d_A_cars_30 (by decide) (fun c30 => ?_) (fun c30 => ?_)
            · exact (c30 rfl : False).elim
            · refine lv_iconst (v := nI 0) hx hb d_A_cars_33 (by decide) ?_
              refine lv_goto (tgt := 38) hx hb d_A_cars_34 (by decide) ?_
              refine rr_iadd (a := (i + d9 - c9)) (b := 0) hx hb d_A_cars_38 ?_
              refine lv_istore_n (lv' := [(2, .int (nI ((i + d9 - c9) + 0))), (5, .int (-4)), (4, .int (nI i)), (3, .int (nI 1)), (0, .ref (ad 0)), (1, .int (nI c9))]) hx hb d_A_cars_39 rfl hl (by decide) rfl (fun ls hl => ?_)
              refine lv_iload hx hb d_A_cars_40 (lv_at hl 1 rfl) ?_
              refine lv_bipush (v := (-4)) hx hb d_A_cars_42 (by decide) ?_
              refine lv_icmp_eq (tgt := 91) hx hb d_A_cars_44 (by decide) (fun c44 => ?_) (fun c44 => ?_)
              · refine lv_iconst (v := nI 1) hx hb d_A_cars_91 (by decide) ?_
                refine lv_goto (tgt := 96) hx hb d_A_cars_92 (by decide) ?_
                refine lv_istore_n (lv' := [(3, .int (nI 1)), (2, .int (nI ((i + d9 - c9) + 0))), (5, .int (-4)), (4, .int (nI i)), (0, .ref (ad 0)), (1, .int (nI c9))]) hx hb d_A_cars_96 rfl hl (by decide) rfl (fun ls hl => ?_)
                refine lv_iinc (v := nI (i + 1)) (lv' := [(4, .int (nI (i + 1))), (3, .int (nI 1)), (2, .int (nI ((i + d9 - c9) + 0))), (5, .int (-4)), (0, .ref (ad 0)), (1, .int (nI c9))]) hx hb d_A_cars_97 hl (k := 3) rfl (nI_add i 1) (by decide) rfl (fun ls hl => ?_)
                refine lv_goto (tgt := 7) hx hb d_A_cars_100 (by decide) ?_
                exact ih (i + 1) H locs ls (by omega) (by show lv_has ls 6 [(4, .int (nI (i + 1))), (3, .int (nI 1)), (2, .int (nI (i + 1 + d9 - c9))), (0, .ref (ad 0)), (1, .int (nI c9))]; rw [show i + 1 + d9 - c9 = i + d9 - c9 + 0 from by omega]; exact lv_sub hl [0, 1, 2, 4, 5] rfl) hP hD hS hz
              · exact (c44 rfl : False).elim
  refine lv_iconst (v := nI 0) hx hb d_A_cars_0 (by decide) ?_
  refine lv_istore_n (lv' := [(2, .int (nI 0)), (0, .ref (ad 0)), (1, .int (nI c9))]) hx hb d_A_cars_1 rfl hl (by decide) rfl (fun ls hl => ?_)
  refine lv_iconst (v := nI 1) hx hb d_A_cars_2 (by decide) ?_
  refine lv_istore_n (lv' := [(3, .int (nI 1)), (2, .int (nI 0)), (0, .ref (ad 0)), (1, .int (nI c9))]) hx hb d_A_cars_3 rfl hl (by decide) rfl (fun ls hl => ?_)
  refine lv_iconst (v := nI 0) hx hb d_A_cars_4 (by decide) ?_
  refine lv_istore (lv' := [(4, .int (nI 0)), (3, .int (nI 1)), (2, .int (nI 0)), (0, .ref (ad 0)), (1, .int (nI c9))]) hx hb d_A_cars_5 hl (by decide) rfl (fun ls hl => ?_)
  exact key c9 0 s.heap [] ls (by omega) (by show lv_has ls 6 [(4, .int (nI 0)), (3, .int (nI 1)), (2, .int (nI (0 + d9 - c9))), (0, .ref (ad 0)), (1, .int (nI c9))]; rw [show 0 + d9 - c9 = 0 from by omega]; exact lv_sub hl [0, 1, 2, 3, 4] rfl) hP hD hS (by show s.heap.size + (0 - (0 + d9 - c9)) ≤ s.heap.size; omega)
