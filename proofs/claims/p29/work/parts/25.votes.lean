theorem k_A_votes : rr_CS y_A_votes b_A_votes 7 (some .boolean) 1 := ⟨q_501, q_0, q_502, by decide, by decide, by decide +kernel⟩
set_option maxHeartbeats 4000000 in
set_option maxRecDepth 100000 in
/-- the law's votes, no minute passed -/
theorem c_A_votes (l : Launch) (D : va_G) (cs : rr_C3) (ad : Nat → Nat) (μ : NS) (ρ : NS) (c9 : Nat) (d9 : Nat) (hM : IM μ) (hC : IC μ ρ) (hSC : SC μ c9 d9) : RO l y_A_votes b_A_votes 7 (some .boolean) 3 65 D cs [((ad 0), .inr (5, [.ref (ad 1), .ref (ad 2), .ref (ad 3), .ref (ad 4), .ref (ad 5), .ref (ad 6), .int (nI (μ 0 0)), .int (nI (μ 1 0)), .int (nI (μ 2 0))])), ((ad 1), .inr (1, [.ref (ad 7), .ref (ad 8), .ref (ad 9), .int (nI (μ 3 0))])), ((ad 2), .inr (4, [.ref (ad 10), .ref (ad 11), .ref (ad 12), .ref (ad 13)])), ((ad 3), .inr (2, [.ref (ad 14), .ref (ad 15)])), ((ad 4), .inr (0, [.ref (ad 16), .ref (ad 17)])), ((ad 5), .inr (3, [.ref (ad 18), .ref (ad 19), .ref (ad 20), .ref (ad 21), .ref (ad 22), .ref (ad 23), .int (nI (μ 15 0))])), ((ad 6), .inl (cs.1, 1001, .inl (fun j => nI ((μ 14) j)))), ((ad 7), .inl (cs.1, 16, .inl (fun j => nI ((ρ 0) j)))), ((ad 8), .inl (cs.1, 16, .inl (fun j => nI ((μ 4) j)))), ((ad 9), .inl (cs.2.1, 16, .inl (fun j => nI ((ρ 1) j)))), ((ad 10), .inl (cs.1, 7, .inl (fun j => nI ((μ 6) j)))), ((ad 11), .inl (cs.1, 7, .inl (fun j => nI ((μ 7) j)))), ((ad 12), .inl (cs.1, 7, .inl (fun j => nI ((μ 8) j)))), ((ad 13), .inl (cs.2.1, 7, .inl (fun j => nI ((μ 9) j)))), ((ad 14), .inl (cs.1, 49, .inl (fun j => nI ((ρ 2) j)))), ((ad 15), .inl (cs.1, 49, .inl (fun j => nI ((ρ 3) j)))), ((ad 16), .inl (cs.1, 7, .inl (fun j => mI ((ρ 4) j)))), ((ad 17), .inl (cs.1, 7, .inl (fun j => zI ((μ 12) j)))), ((ad 18), .inl (cs.1, 60, .inl (fun j => nI ((μ 16) j)))), ((ad 19), .inl (cs.1, 60, .inl (fun j => nI ((μ 17) j)))), ((ad 20), .inl (cs.1, 60, .inl (fun j => nI ((μ 18) j)))), ((ad 21), .inl (cs.1, 60, .inl (fun j => nI ((μ 19) j)))), ((ad 22), .inl (cs.1, 60, .inl (fun j => mI ((ρ 5) j)))), ((ad 23), .inl (cs.1, 60, .inl (fun j => nI ((μ 21) j))))] [.ref (ad 0)] (fun r => r = nI 1) := by
  refine RO.of (by decide) (Nat.le_of_ble_eq_true rfl) ?_
  intro p e s m args below meth c S hr hlk hK hP ls hl
  obtain ⟨hx, hb, hml, hown, ht⟩ := id S
  have hl : lv_has ls 7 [(0, .ref (ad 0))] := hl
  refine lv_aload_n hx hb d_A_votes_0 rfl (lv_at hl 0 rfl) ?_
  refine rr_rV (As := []) (rest := []) (idx := 30) (q0 := 0) (ci := 5) S hK hP (c_V_time l D cs ad μ ρ (by first | assumption | omega) (by first | assumption | omega)) k_V_time [0, 1, 2, 3, 4, 5, 6, 7, 8, 9, 10, 11, 12, 13, 14, 15, 16, 17, 18, 19, 20, 21, 22, 23] rfl rfl rfl rfl q_386 ⟨Nat.le_of_ble_eq_true rfl, Nat.le_of_ble_eq_true rfl⟩ ⟨Nat.le_of_ble_eq_true rfl, Nat.le_of_ble_eq_true rfl⟩ hl (Nat.le_of_ble_eq_true rfl) rfl d_A_votes_1 (fun r9 hr9 => ?_)
  subst hr9
  refine rr_top (show (nI (μ 0 0) : Int32) = nI 0 from by rw [hSC.1]) ?_
  refine lv_istore_n (lv' := [(1, .int (nI 0)), (0, .ref (ad 0))]) hx hb d_A_votes_4 rfl hl (by decide) rfl (fun ls hl => ?_)
  refine lv_aload_n hx hb d_A_votes_5 rfl (lv_at hl 1 rfl) ?_
  refine rr_rV (As := []) (rest := []) (idx := 33) (q0 := 0) (ci := 5) S hK hP (c_V_fresh l D cs ad μ ρ (by first | assumption | omega) (by first | assumption | omega)) k_V_fresh [0, 1, 2, 3, 4, 5, 6, 7, 8, 9, 10, 11, 12, 13, 14, 15, 16, 17, 18, 19, 20, 21, 22, 23] rfl rfl rfl rfl q_503 ⟨Nat.le_of_ble_eq_true rfl, Nat.le_of_ble_eq_true rfl⟩ ⟨Nat.le_of_ble_eq_true rfl, Nat.le_of_ble_eq_true rfl⟩ hl (Nat.le_of_ble_eq_true rfl) rfl d_A_votes_6 (fun r9 hr9 => ?_)
  subst hr9
  refine rr_top hSC.fresh ?_
  refine lv_istore_n (lv' := [(2, .int (nI 0)), (1, .int (nI 0)), (0, .ref (ad 0))]) hx hb d_A_votes_9 rfl hl (by decide) rfl (fun ls hl => ?_)
  refine lv_iload_n hx hb d_A_votes_10 rfl (lv_at hl 0 rfl) ?_
  refine lv_if_lt (tgt := 41) hx hb d_A_votes_11 (by decide) (fun c11 => absurd c11 (nI_pos (by omega))) (fun _ => ?_)
  refine lv_iload_n hx hb d_A_votes_14 rfl (lv_at hl 0 rfl) ?_
  refine lv_sipush (v := nI 128) hx hb d_A_votes_15 (by decide) ?_
  refine rr_icmp_ge (a := 0) (b := 128) (tgt := 41) (by omega) (by omega) hx hb d_A_votes_18 (by decide) (fun c18 => ?_) (fun c18 => ?_)
  · exact (by omega : False).elim
  · refine lv_aload_n hx hb d_A_votes_21 rfl (lv_at hl 2 rfl) ?_
    refine rr_rV (As := []) (rest := []) (idx := 36) (q0 := 0) (ci := 5) S hK hP (c_V_onTheWay l D cs ad μ ρ (by first | assumption | omega) (by first | assumption | omega)) k_V_onTheWay [0, 1, 2, 3, 4, 5, 6, 7, 8, 9, 10, 11, 12, 13, 14, 15, 16, 17, 18, 19, 20, 21, 22, 23] rfl rfl rfl rfl q_507 ⟨Nat.le_of_ble_eq_true rfl, Nat.le_of_ble_eq_true rfl⟩ ⟨Nat.le_of_ble_eq_true rfl, Nat.le_of_ble_eq_true rfl⟩ hl (Nat.le_of_ble_eq_true rfl) rfl d_A_votes_22 (fun r9 hr9 => ?_)
    subst hr9
    refine rr_top (show (nI (owN (μ 0 0) (μ 10) 56) : Int32) = nI 0 from congrArg nI hSC.way) ?_
    refine lv_if_lt (tgt := 41) hx hb d_A_votes_25 (by decide) (fun c25 => absurd c25 (nI_pos (by omega))) (fun _ => ?_)
    refine lv_aload_n hx hb d_A_votes_28 rfl (lv_at hl 2 rfl) ?_
    refine rr_rV (As := []) (rest := []) (idx := 36) (q0 := 0) (ci := 5) S hK hP (c_V_onTheWay l D cs ad μ ρ (by first | assumption | omega) (by first | assumption | omega)) k_V_onTheWay [0, 1, 2, 3, 4, 5, 6, 7, 8, 9, 10, 11, 12, 13, 14, 15, 16, 17, 18, 19, 20, 21, 22, 23] rfl rfl rfl rfl q_507 ⟨Nat.le_of_ble_eq_true rfl, Nat.le_of_ble_eq_true rfl⟩ ⟨Nat.le_of_ble_eq_true rfl, Nat.le_of_ble_eq_true rfl⟩ hl (Nat.le_of_ble_eq_true rfl) rfl d_A_votes_29 (fun r9 hr9 => ?_)
    subst hr9
    refine rr_top (show (nI (owN (μ 0 0) (μ 10) 56) : Int32) = nI 0 from congrArg nI hSC.way) ?_
    refine lv_bipush (v := nI 42) hx hb d_A_votes_32 (by decide) ?_
    refine rr_icmp_gt (a := 0) (b := 42) (tgt := 41) (by omega) (by omega) hx hb d_A_votes_34 (by decide) (fun c34 => ?_) (fun c34 => ?_)
    · exact (by omega : False).elim
    · refine lv_iconst (v := nI 1) hx hb d_A_votes_37 (by decide) ?_
      refine lv_goto (tgt := 42) hx hb d_A_votes_38 (by decide) ?_
      refine lv_istore_n (lv' := [(3, .int (nI 1)), (2, .int (nI 0)), (1, .int (nI 0)), (0, .ref (ad 0))]) hx hb d_A_votes_42 rfl hl (by decide) rfl (fun ls hl => ?_)
      refine lv_iconst (v := nI 0) hx hb d_A_votes_43 (by decide) ?_
      refine lv_istore (lv' := [(4, .int (nI 0)), (3, .int (nI 1)), (2, .int (nI 0)), (1, .int (nI 0)), (0, .ref (ad 0))]) hx hb d_A_votes_44 hl (by decide) rfl (fun ls hl => ?_)
      refine rr_loop (fun i => [(4, .int (nI i)), (3, .int (nI 1)), (2, .int (nI 0)), (1, .int (nI 0)), (0, .ref (ad 0))]) (fun i => True) 0 7 (by omega) trivial (lv_sub hl [0, 1, 2, 3, 4] rfl) (fun i ls hi_2 hI_3 hl ih_1 => ?_)
      have hl : lv_has ls 7 [(4, .int (nI i)), (3, .int (nI 1)), (2, .int (nI 0)), (1, .int (nI 0)), (0, .ref (ad 0))] := hl
      refine lv_iload hx hb d_A_votes_46 (lv_at hl 0 rfl) ?_
      refine lv_bipush (v := nI 7) hx hb d_A_votes_48 (by decide) ?_
      refine rr_icmp_ge (a := i) (b := 7) (tgt := 149) (by omega) (by omega) hx hb d_A_votes_50 (by decide) (fun c50 => ?_) (fun c50 => ?_)
      · refine lv_iload_n hx hb d_A_votes_149 rfl (lv_at hl 1 rfl) ?_
        refine rr_if_eq (a := 1) (tgt := 188) (by omega) hx hb d_A_votes_150 (by decide) (fun c150 => ?_) (fun c150 => ?_)
        · exact (by omega : False).elim
        · refine lv_iload_n hx hb d_A_votes_153 rfl (lv_at hl 3 rfl) ?_
          refine rr_if_eq (a := 0) (tgt := 184) (by omega) hx hb d_A_votes_154 (by decide) (fun c154 => ?_) (fun c154 => ?_)
          · refine lv_iconst (v := nI 1) hx hb d_A_votes_184 (by decide) ?_
            refine lv_goto (tgt := 189) hx hb d_A_votes_185 (by decide) ?_
            exact rr_retZ (v := 1) (by first | exact bq_le _ | omega) hx hb hr hlk rfl d_A_votes_189
          · exact (by omega : False).elim
      · refine lv_iload_n hx hb d_A_votes_53 rfl (lv_at hl 1 rfl) ?_
        refine rr_if_eq (a := 1) (tgt := 149) (by omega) hx hb d_A_votes_54 (by decide) (fun c54 => ?_) (fun c54 => ?_)
        · exact (by omega : False).elim
        · refine lv_aload_n hx hb d_A_votes_57 rfl (lv_at hl 4 rfl) ?_
          refine lv_iload hx hb d_A_votes_58 (lv_at hl 0 rfl) ?_
          refine rr_rV (As := [.int (nI i)]) (rest := []) (idx := 39) (q0 := 0) (ci := 5) S hK hP (c_V_voteTime0 l D cs ad μ ρ (nI i) (by first | assumption | omega) (by first | assumption | omega) (SC.tow (by omega))) k_V_voteTime [0, 1, 2, 3, 4, 5, 6, 7, 8, 9, 10, 11, 12, 13, 14, 15, 16, 17, 18, 19, 20, 21, 22, 23] rfl rfl rfl rfl q_515 ⟨Nat.le_of_ble_eq_true rfl, Nat.le_of_ble_eq_true rfl⟩ ⟨Nat.le_of_ble_eq_true rfl, Nat.le_of_ble_eq_true rfl⟩ hl (Nat.le_of_ble_eq_true rfl) rfl d_A_votes_60 (fun r9 hr9 => ?_)
          subst hr9
          refine rr_top (show (zI (μ 12 (ix 7 (nI i))) : Int32) = (-1) from hSC.vt (by omega)) ?_
          refine lv_istore (lv' := [(5, .int (-1)), (4, .int (nI i)), (3, .int (nI 1)), (2, .int (nI 0)), (1, .int (nI 0)), (0, .ref (ad 0))]) hx hb d_A_votes_63 hl (by decide) rfl (fun ls hl => ?_)
          refine lv_aload_n hx hb d_A_votes_65 rfl (lv_at hl 5 rfl) ?_
          refine lv_iload hx hb d_A_votes_66 (lv_at hl 1 rfl) ?_
          refine rr_rV (As := [.int (nI i)]) (rest := []) (idx := 42) (q0 := 0) (ci := 5) S hK hP (c_V_vote0 l D cs ad μ ρ (nI i) (by first | assumption | omega) (by first | assumption | omega) (SC.tow (by omega))) k_V_vote [0, 1, 2, 3, 4, 5, 6, 7, 8, 9, 10, 11, 12, 13, 14, 15, 16, 17, 18, 19, 20, 21, 22, 23] rfl rfl rfl rfl q_519 ⟨Nat.le_of_ble_eq_true rfl, Nat.le_of_ble_eq_true rfl⟩ ⟨Nat.le_of_ble_eq_true rfl, Nat.le_of_ble_eq_true rfl⟩ hl (Nat.le_of_ble_eq_true rfl) rfl d_A_votes_68 (fun r9 hr9 => ?_)
          subst hr9
          refine rr_top (show (mI (vlN μ (ix 7 (nI i))) : Int32) = (-1) from hSC.vl (by omega)) ?_
          refine lv_istore (lv' := [(6, .int (-1)), (5, .int (-1)), (4, .int (nI i)), (3, .int (nI 1)), (2, .int (nI 0)), (1, .int (nI 0)), (0, .ref (ad 0))]) hx hb d_A_votes_71 hl (by decide) rfl (fun ls hl => ?_)
          refine lv_iload hx hb d_A_votes_73 (lv_at hl 1 rfl) ?_
          refine lv_iconst (v := (-1)) hx hb d_A_votes_75 (by decide) ?_
          refine lv_icmp_ne (tgt := 83) hx hb d_A_votes_76 (by decide) (fun c76 => ?_) (fun c76 => ?_)
          · exact (c76 rfl : False).elim
          · refine lv_iconst (v := nI 1) hx hb d_A_votes_79 (by decide) ?_
            refine lv_goto (tgt := 84) hx hb d_A_votes_80 (by decide) ?_
            refine lv_iload hx hb d_A_votes_84 (lv_at hl 0 rfl) ?_
            refine lv_iconst (v := (-1)) hx hb d_A_votes_86 (by decide) ?_
            refine lv_icmp_ne (tgt := 94) hx hb d_A_votes_87 (by decide) (fun c87 => ?_) (fun c87 => ?_)
            · exact (c87 rfl : False).elim
            · refine lv_iconst (v := nI 1) hx hb d_A_votes_90 (by decide) ?_
              refine lv_goto (tgt := 95) hx hb d_A_votes_91 (by decide) ?_
              refine rr_icmp_ne (a := 1) (b := 1) (tgt := 141) (by omega) (by omega) hx hb d_A_votes_95 (by decide) (fun c95 => ?_) (fun c95 => ?_)
              · exact (by omega : False).elim
              · refine lv_iload hx hb d_A_votes_98 (lv_at hl 1 rfl) ?_
                refine lv_iload_n hx hb d_A_votes_100 rfl (lv_at hl 5 rfl) ?_
                refine lv_icmp_gt (tgt := 141) hx hb d_A_votes_101 (by decide) (fun c101 => ?_) (fun c101 => ?_)
                · exact (absurd c101 (by decide) : False).elim
                · refine lv_iload hx hb d_A_votes_104 (lv_at hl 0 rfl) ?_
                  refine lv_iconst (v := nI 3) hx hb d_A_votes_106 (by decide) ?_
                  refine lv_icmp_ge (tgt := 141) hx hb d_A_votes_107 (by decide) (fun c107 => ?_) (fun c107 => ?_)
                  · exact (absurd c107 (by decide) : False).elim
                  · refine lv_iload_n hx hb d_A_votes_110 rfl (lv_at hl 4 rfl) ?_
                    refine lv_iload hx hb d_A_votes_111 (lv_at hl 2 rfl) ?_
                    refine lv_ishr hx hb d_A_votes_113 ?_
                    refine lv_iconst (v := nI 1) hx hb d_A_votes_114 (by decide) ?_
                    refine lv_iand hx hb d_A_votes_115 ?_
                    refine rr_top (shr0 (t := i) (by omega)) ?_
                    refine lv_iload hx hb d_A_votes_116 (lv_at hl 1 rfl) ?_
                    refine lv_if_le (tgt := 133) hx hb d_A_votes_118 (by decide) (fun c118 => ?_) (fun c118 => ?_)
                    · refine lv_iconst (v := nI 0) hx hb d_A_votes_133 (by decide) ?_
                      refine rr_icmp_ne (a := 0) (b := 0) (tgt := 141) (by omega) (by omega) hx hb d_A_votes_134 (by decide) (fun c134 => ?_) (fun c134 => ?_)
                      · exact (by omega : False).elim
                      · refine lv_iconst (v := nI 1) hx hb d_A_votes_137 (by decide) ?_
                        refine lv_goto (tgt := 142) hx hb d_A_votes_138 (by decide) ?_
                        refine lv_istore_n (lv' := [(3, .int (nI 1)), (6, .int (-1)), (5, .int (-1)), (4, .int (nI i)), (2, .int (nI 0)), (1, .int (nI 0)), (0, .ref (ad 0))]) hx hb d_A_votes_142 rfl hl (by decide) rfl (fun ls hl => ?_)
                        refine lv_iinc (v := nI (i + 1)) (lv' := [(4, .int (nI (i + 1))), (3, .int (nI 1)), (6, .int (-1)), (5, .int (-1)), (2, .int (nI 0)), (1, .int (nI 0)), (0, .ref (ad 0))]) hx hb d_A_votes_143 hl (k := 3) rfl (nI_add i 1) (by decide) rfl (fun ls hl => ?_)
                        refine lv_goto (tgt := 46) hx hb d_A_votes_146 (by decide) ?_
                        exact ih_1 ls (by omega) trivial (by show lv_has ls 7 [(4, .int (nI (i + 1))), (3, .int (nI 1)), (2, .int (nI 0)), (1, .int (nI 0)), (0, .ref (ad 0))]; skip; exact lv_sub hl [0, 1, 4, 5, 6] rfl)
                    · exact (c118 (by decide) : False).elim
