-- the law's own methods on this road, leaves first
def cwL (cs : rr_C3) (ad : Nat → Nat) (μ ρ : NS) : va_W := [((ad 0), .inr (5, [.ref (ad 1), .ref (ad 2), .ref (ad 3), .ref (ad 4), .ref (ad 5), .ref (ad 6), .int (nI (μ 0 0)), .int (nI (μ 1 0)), .int (nI (μ 2 0))])), ((ad 1), .inr (1, [.ref (ad 7), .ref (ad 8), .ref (ad 9), .int (nI (μ 3 0))])), ((ad 2), .inr (4, [.ref (ad 10), .ref (ad 11), .ref (ad 12), .ref (ad 13)])), ((ad 3), .inr (2, [.ref (ad 14), .ref (ad 15)])), ((ad 4), .inr (0, [.ref (ad 16), .ref (ad 17)])), ((ad 5), .inr (3, [.ref (ad 18), .ref (ad 19), .ref (ad 20), .ref (ad 21), .ref (ad 22), .ref (ad 23), .int (nI (μ 15 0))])), ((ad 6), .inl (cs.1, 1001, .inl (fun j => nI ((μ 14) j)))), ((ad 7), .inl (cs.1, 16, .inl (fun j => nI ((ρ 0) j)))), ((ad 8), .inl (cs.1, 16, .inl (fun j => nI ((μ 4) j)))), ((ad 9), .inl (cs.2.1, 16, .inl (fun j => nI ((ρ 1) j)))), ((ad 10), .inl (cs.1, 7, .inl (fun j => nI ((μ 6) j)))), ((ad 11), .inl (cs.1, 7, .inl (fun j => nI ((μ 7) j)))), ((ad 12), .inl (cs.1, 7, .inl (fun j => nI ((μ 8) j)))), ((ad 13), .inl (cs.2.1, 7, .inl (fun j => nI ((μ 9) j)))), ((ad 14), .inl (cs.1, 49, .inl (fun j => nI ((ρ 2) j)))), ((ad 15), .inl (cs.1, 49, .inl (fun j => nI ((ρ 3) j)))), ((ad 16), .inl (cs.1, 7, .inl (fun j => mI ((ρ 4) j)))), ((ad 17), .inl (cs.1, 7, .inl (fun j => zI ((μ 12) j)))), ((ad 18), .inl (cs.1, 60, .inl (fun j => nI ((μ 16) j)))), ((ad 19), .inl (cs.1, 60, .inl (fun j => nI ((μ 17) j)))), ((ad 20), .inl (cs.1, 60, .inl (fun j => nI ((μ 18) j)))), ((ad 21), .inl (cs.1, 60, .inl (fun j => nI ((μ 19) j)))), ((ad 22), .inl (cs.1, 60, .inl (fun j => mI ((ρ 5) j)))), ((ad 23), .inl (cs.1, 60, .inl (fun j => nI ((μ 21) j))))]
theorem nI_neg3 {n : Nat} (h : n < 2 ^ 31) : ¬ nI n = -3 := fun e => by
  have h1 := nI_toInt h
  rw [e] at h1
  have z : (-3 : Int32).toInt = -3 := by decide
  omega
set_option maxRecDepth 20000 in
theorem q_446 : (Jvm.Cond.codeWith ({ cls := "RopeVotesLaw", name := "putOn", desc := "(LRopeVotes;)I" } : Jvm.MethodName) method_4_code (2 : Nat) (Option.some Jvm.ClassFile.FieldType.int) [((0 : Nat), (4 : Nat), (5 : Nat), (15 : Nat))]) ∈ rr_all := rr_in 449 rfl rfl
set_option maxRecDepth 20000 in
theorem q_468 : (Jvm.Cond.codeWith ({ cls := "RopeVotesLaw", name := "takeOff", desc := "(LRopeVotes;I)I" } : Jvm.MethodName) method_5_code (3 : Nat) (Option.some Jvm.ClassFile.FieldType.int) [((0 : Nat), (5 : Nat), (6 : Nat), (15 : Nat)), ((0 : Nat), (5 : Nat), (10 : Nat), (21 : Nat))]) ∈ rr_all := rr_in 471 rfl rfl
set_option maxRecDepth 20000 in
theorem q_481 : (Jvm.Cond.codeWith ({ cls := "RopeVotesLaw", name := "board", desc := "(LRopeVotes;III)I" } : Jvm.MethodName) method_6_code (5 : Nat) (Option.some Jvm.ClassFile.FieldType.int) [((0 : Nat), (7 : Nat), (8 : Nat), (15 : Nat)), ((0 : Nat), (7 : Nat), (13 : Nat), (21 : Nat))]) ∈ rr_all := rr_in 484 rfl rfl
set_option maxRecDepth 20000 in
theorem q_499 : (Jvm.Cond.codeWith ({ cls := "RopeVotesLaw", name := "place", desc := "(LRopeVotes;I)I" } : Jvm.MethodName) method_7_code (3 : Nat) (Option.some Jvm.ClassFile.FieldType.int) [((0 : Nat), (5 : Nat), (6 : Nat), (21 : Nat))]) ∈ rr_all := rr_in 502 rfl rfl
theorem k_A_low : rr_CS y_A_low b_A_low 2 (some .int) 2 := ⟨q_437, q_0, q_438, by decide, by decide, by decide +kernel⟩
set_option maxHeartbeats 4000000 in
set_option maxRecDepth 100000 in
/-- the law's low -/
theorem c_A_low (l : Launch) (D : va_G) (cs : rr_C3) (v : Int32) (n9 : Int32) (hn : ¬ n9 = 0) : RO l y_A_low b_A_low 2 (some .int) 0 0 D cs [] [.int v, .int n9] (fun r => r = lowI v n9) := by
  refine RO.of (by decide) (Nat.le_of_ble_eq_true rfl) ?_
  intro p e s m args below meth c S hr hlk hK hP ls hl
  obtain ⟨hx, hb, hml, hown, ht⟩ := id S
  have hl : lv_has ls 2 [(0, .int v), (1, .int n9)] := hl
  refine lv_iload_n hx hb d_A_low_0 rfl (lv_at hl 0 rfl) ?_
  refine lv_ldc (v := 2147483647) hx hb hown (ht _ q_439) d_A_low_1 ?_
  refine lv_iand hx hb d_A_low_3 ?_
  refine lv_iload_n hx hb d_A_low_4 rfl (lv_at hl 1 rfl) ?_
  refine lv_irem hx hb d_A_low_5 hn ?_
  exact rr_ret hx hb hr hlk rfl d_A_low_6
theorem k_A_cell : rr_CS y_A_cell b_A_cell 2 (some .int) 2 := ⟨q_441, q_0, q_442, by decide, by decide, by decide +kernel⟩
set_option maxHeartbeats 4000000 in
set_option maxRecDepth 100000 in
/-- the law's cell, within the script -/
theorem c_A_cell (l : Launch) (D : va_G) (cs : rr_C3) (sb L : Nat) (xs : Nat → Int32) (k : Nat) (hk : k < L) (hL : L < 2 ^ 31) : SXs l y_A_cell b_A_cell 2 (some .int) 0 0 D cs sb L xs [.ref sb, .int (nI k)] (fun r => r = xs k) := by
  refine SXs.of (by decide) (Nat.le_of_ble_eq_true rfl) ?_
  intro p e s m args below meth c S hr hlk hK hX hbl ls hl
  obtain ⟨hx, hb, hml, hown, ht⟩ := id S
  have hl : lv_has ls 2 [(0, .ref sb), (1, .int (nI k))] := hl
  have hS : va_S (fun _ => False) s.heap s.heap [] := va_S.rf
  refine lv_iload_n hx hb d_A_cell_0 rfl (lv_at hl 1 rfl) ?_
  refine lv_aload_n hx hb d_A_cell_1 rfl (lv_at hl 0 rfl) ?_
  refine va_slen hx hb hX hbl (fun h => h) hS d_A_cell_2 ?_
  refine rr_icmp_ge (a := k) (b := L) (tgt := 12) (by omega) (by omega) hx hb d_A_cell_3 (by decide) (fun c3 => absurd c3 (by omega)) (fun _ => ?_)
  refine lv_aload_n hx hb d_A_cell_6 rfl (lv_at hl 0 rfl) ?_
  refine lv_iload_n hx hb d_A_cell_7 rfl (lv_at hl 1 rfl) ?_
  refine va_sld hx hb hX hbl (fun h => h) hS (vp_in_nI (by omega) (by omega)) d_A_cell_8 ?_
  refine rr_top (show xs (nI k).toNatClampNeg = xs k from by rw [nI_clamp (by omega)]) ?_
  refine lv_goto (tgt := 20) hx hb d_A_cell_9 (by decide) ?_
  exact rr_ret hx hb hr hlk rfl d_A_cell_20
theorem k_A_putOn : rr_CW y_A_putOn b_A_putOn 2 [((0 : Nat), (4 : Nat), (5 : Nat), (15 : Nat))] 1 := ⟨q_445, q_0, q_446, by decide, by decide, by decide +kernel⟩
set_option maxHeartbeats 4000000 in
set_option maxRecDepth 100000 in
/-- the law's putOn: a car is put on -/
theorem c_A_putOn0 (l : Launch) (D : va_G) (cs : rr_C3) (ad : Nat → Nat) (μ ρ : NS) (v : Int32) (hM : IM μ) (hC : IC μ ρ) (hth : thPut μ = 0) (hv : nI (μ 3 0) = v) (hfl : l.stackTraces = false) (sz : Nat) : WXs l y_A_putOn b_A_putOn 2 [((0 : Nat), (4 : Nat), (5 : Nat), (15 : Nat))] 7 102 D cs (cwL cs ad μ ρ) sz [.ref (ad 0)] v (cwL cs ad (muPut μ) (roPut μ ρ)) 0 := by
  refine WXs.of (by decide) (Nat.le_of_ble_eq_true rfl) ?_
  intro p e s m args below meth c A S hr hlk htab hK hY hZ hP hD hA hS ls hl
  obtain ⟨hx, hb, hml, hown, ht⟩ := id S
  have hl : lv_has ls 2 [(0, .ref (ad 0))] := hl
  have htab : c.exceptionTable.toList = [⟨0, 4, 5, 15⟩] := htab
  refine lv_aload_n hx hb d_A_putOn_0 rfl (lv_at hl 0 rfl) ?_
  refine rf_xV (As := []) (rest := []) (idx := 9) (q0 := 0) (ci := 5) (wr := []) S hK hY hZ hP hD hS hA (c_V_putOn l D cs ad μ ρ  hM hC hfl s.heap.size) k_V_putOn [0, 1, 2, 3, 4, 5, 6, 7, 8, 9, 10, 11, 12, 13, 14, 15, 16, 17, 18, 19, 20, 21, 22, 23] [] rfl (by decide) rfl (by decide) (by decide) rfl rfl rfl q_448 ⟨Nat.le_of_ble_eq_true rfl, Nat.le_of_ble_eq_true rfl⟩ ⟨Nat.le_of_ble_eq_true rfl, Nat.le_of_ble_eq_true rfl⟩ hl (Nat.le_of_ble_eq_true rfl) rfl d_A_putOn_1 (fun E ce q9 H locs hE hP hD hS hz g1 g2 g3 => ?_) (fun r u H locs hp hP hD hS hz => ?_)
  · exact absurd hE.2 (by omega)
  · obtain ⟨rfl, h0⟩ := hp
    subst hv
    have hP : va_P D classes (cwL cs ad (muPut μ) (roPut μ ρ)) H := hP
    have hD : va_D A (cwL cs ad (muPut μ) (roPut μ ρ)) := hD
    exact rf_mret hx hb hr hlk hP hD hS hz d_A_putOn_4
set_option maxHeartbeats 4000000 in
set_option maxRecDepth 100000 in
/-- .. is refused: an exception is made -/
theorem c_A_putOn1 (l : Launch) (D : va_G) (cs : rr_C3) (ad : Nat → Nat) (μ ρ : NS)  (hM : IM μ) (hC : IC μ ρ) (hth : ¬ thPut μ = 0) (hfl : l.stackTraces = false) (sz : Nat) : WXs l y_A_putOn b_A_putOn 2 [((0 : Nat), (4 : Nat), (5 : Nat), (15 : Nat))] 7 102 D cs (cwL cs ad μ ρ) sz [.ref (ad 0)] (-3) (cwL cs ad μ ρ) 1 := by
  refine WXs.of (by decide) (Nat.le_of_ble_eq_true rfl) ?_
  intro p e s m args below meth c A S hr hlk htab hK hY hZ hP hD hA hS ls hl
  obtain ⟨hx, hb, hml, hown, ht⟩ := id S
  have hl : lv_has ls 2 [(0, .ref (ad 0))] := hl
  have htab : c.exceptionTable.toList = [⟨0, 4, 5, 15⟩] := htab
  refine lv_aload_n hx hb d_A_putOn_0 rfl (lv_at hl 0 rfl) ?_
  refine rf_xV (As := []) (rest := []) (idx := 9) (q0 := 0) (ci := 5) (wr := []) S hK hY hZ hP hD hS hA (c_V_putOn l D cs ad μ ρ  hM hC hfl s.heap.size) k_V_putOn [0, 1, 2, 3, 4, 5, 6, 7, 8, 9, 10, 11, 12, 13, 14, 15, 16, 17, 18, 19, 20, 21, 22, 23] [] rfl (by decide) rfl (by decide) (by decide) rfl rfl rfl q_448 ⟨Nat.le_of_ble_eq_true rfl, Nat.le_of_ble_eq_true rfl⟩ ⟨Nat.le_of_ble_eq_true rfl, Nat.le_of_ble_eq_true rfl⟩ hl (Nat.le_of_ble_eq_true rfl) rfl d_A_putOn_1 (fun E ce q9 H locs hE hP hD hS hz g1 g2 g3 => ?_) (fun r u H locs hp hP hD hS hz => ?_)
  · obtain ⟨rfl, h1⟩ := hE
    have hP : va_P D classes (cwL cs ad μ ρ) H := hP
    have hD : va_D A (cwL cs ad μ ρ) := hD
    refine rr_catch1 S hY (by decide) htab rfl (by decide) q_447 g1 g2 g3 ?_
    refine lv_astore_n (lv' := [(1, .ref q9), (0, .ref (ad 0))]) hx hb d_A_putOn_5 rfl hl (by decide) rfl (fun ls hl => ?_)
    refine lv_bipush (v := (-3)) hx hb d_A_putOn_6 (by decide) ?_
    exact rf_mret hx hb hr hlk hP hD hS hz d_A_putOn_8
  · exact absurd hp.2 hth
theorem k_A_takeOff : rr_CW y_A_takeOff b_A_takeOff 3 [((0 : Nat), (5 : Nat), (6 : Nat), (15 : Nat)), ((0 : Nat), (5 : Nat), (10 : Nat), (21 : Nat))] 2 := ⟨q_467, q_0, q_468, by decide, by decide, by decide +kernel⟩
set_option maxHeartbeats 4000000 in
set_option maxRecDepth 100000 in
/-- the law's takeOff: a car is taken off -/
theorem c_A_takeOff0 (l : Launch) (D : va_G) (cs : rr_C3) (ad : Nat → Nat) (μ ρ : NS) (x : Int32) (v : Int32) (hM : IM μ) (hC : IC μ ρ) (hth : thOff μ x = 0) (hv : nI (μ 1 0 - μ 4 (ix 16 x)) = v) (hfl : l.stackTraces = false) (sz : Nat) : WXs l y_A_takeOff b_A_takeOff 3 [((0 : Nat), (5 : Nat), (6 : Nat), (15 : Nat)), ((0 : Nat), (5 : Nat), (10 : Nat), (21 : Nat))] 7 103 D cs (cwL cs ad μ ρ) sz [.ref (ad 0), .int x] v (cwL cs ad (muOff μ (ix 16 x)) (roOff ρ (ix 16 x))) 0 := by
  refine WXs.of (by decide) (Nat.le_of_ble_eq_true rfl) ?_
  intro p e s m args below meth c A S hr hlk htab hK hY hZ hP hD hA hS ls hl
  obtain ⟨hx, hb, hml, hown, ht⟩ := id S
  have hl : lv_has ls 3 [(0, .ref (ad 0)), (1, .int x)] := hl
  have htab : c.exceptionTable.toList = [⟨0, 5, 6, 15⟩, ⟨0, 5, 10, 21⟩] := htab
  refine lv_aload_n hx hb d_A_takeOff_0 rfl (lv_at hl 0 rfl) ?_
  refine lv_iload_n hx hb d_A_takeOff_1 rfl (lv_at hl 1 rfl) ?_
  refine rf_xV (As := [.int x]) (rest := []) (idx := 17) (q0 := 0) (ci := 5) (wr := []) S hK hY hZ hP hD hS hA (c_V_takeOff l D cs ad μ ρ x hM hC hfl s.heap.size) k_V_takeOff [0, 1, 2, 3, 4, 5, 6, 7, 8, 9, 10, 11, 12, 13, 14, 15, 16, 17, 18, 19, 20, 21, 22, 23] [] rfl (by decide) rfl (by decide) (by decide) rfl rfl rfl q_470 ⟨Nat.le_of_ble_eq_true rfl, Nat.le_of_ble_eq_true rfl⟩ ⟨Nat.le_of_ble_eq_true rfl, Nat.le_of_ble_eq_true rfl⟩ hl (Nat.le_of_ble_eq_true rfl) rfl d_A_takeOff_2 (fun E ce q9 H locs hE hP hD hS hz g1 g2 g3 => ?_) (fun r u H locs hp hP hD hS hz => ?_)
  · exact absurd hth (by rcases hE with ⟨-, h⟩ | ⟨-, h⟩ <;> omega)
  · obtain ⟨rfl, h0⟩ := hp
    subst hv
    have hP : va_P D classes (cwL cs ad (muOff μ (ix 16 x)) (roOff ρ (ix 16 x))) H := hP
    have hD : va_D A (cwL cs ad (muOff μ (ix 16 x)) (roOff ρ (ix 16 x))) := hD
    exact rf_mret hx hb hr hlk hP hD hS hz d_A_takeOff_5
theorem k_A_place : rr_CW y_A_place b_A_place 3 [((0 : Nat), (5 : Nat), (6 : Nat), (21 : Nat))] 2 := ⟨q_498, q_0, q_499, by decide, by decide, by decide +kernel⟩
set_option maxHeartbeats 4000000 in
set_option maxRecDepth 100000 in
/-- the law's place: there is such a car -/
theorem c_A_place1 (l : Launch) (D : va_G) (cs : rr_C3) (ad : Nat → Nat) (μ ρ : NS) (x : Int32) (v : Int32) (hM : IM μ) (hC : IC μ ρ) (hth : thCar μ x = 0) (hv : nI (pN μ (ix 16 x)) = v) (hfl : l.stackTraces = false) (sz : Nat) : WXs l y_A_place b_A_place 3 [((0 : Nat), (5 : Nat), (6 : Nat), (21 : Nat))] 7 103 D cs (cwL cs ad μ ρ) sz [.ref (ad 0), .int x] v (cwL cs ad μ ρ) 0 := by
  refine WXs.of (by decide) (Nat.le_of_ble_eq_true rfl) ?_
  intro p e s m args below meth c A S hr hlk htab hK hY hZ hP hD hA hS ls hl
  obtain ⟨hx, hb, hml, hown, ht⟩ := id S
  have hl : lv_has ls 3 [(0, .ref (ad 0)), (1, .int x)] := hl
  have htab : c.exceptionTable.toList = [⟨0, 5, 6, 21⟩] := htab
  refine lv_aload_n hx hb d_A_place_0 rfl (lv_at hl 0 rfl) ?_
  refine lv_iload_n hx hb d_A_place_1 rfl (lv_at hl 1 rfl) ?_
  refine rf_xV (As := [.int x]) (rest := []) (idx := 27) (q0 := 0) (ci := 5) (wr := []) S hK hY hZ hP hD hS hA (c_V_place l D cs ad μ ρ x hM hC hfl s.heap.size) k_V_place [0, 1, 2, 3, 4, 5, 6, 7, 8, 9, 10, 11, 12, 13, 14, 15, 16, 17, 18, 19, 20, 21, 22, 23] [] rfl (by decide) rfl (by decide) (by decide) rfl rfl rfl q_156 ⟨Nat.le_of_ble_eq_true rfl, Nat.le_of_ble_eq_true rfl⟩ ⟨Nat.le_of_ble_eq_true rfl, Nat.le_of_ble_eq_true rfl⟩ hl (Nat.le_of_ble_eq_true rfl) rfl d_A_place_2 (fun E ce q9 H locs hE hP hD hS hz g1 g2 g3 => ?_) (fun r u H locs hp hP hD hS hz => ?_)
  · exact absurd hE.2 (by omega)
  · obtain ⟨rfl, h0⟩ := hp
    subst hv
    have hP : va_P D classes (cwL cs ad μ ρ) H := hP
    have hD : va_D A (cwL cs ad μ ρ) := hD
    exact rf_mret hx hb hr hlk hP hD hS hz d_A_place_5
set_option maxHeartbeats 4000000 in
set_option maxRecDepth 100000 in
/-- .. there is none: an exception is made -/
theorem c_A_place0 (l : Launch) (D : va_G) (cs : rr_C3) (ad : Nat → Nat) (μ ρ : NS) (x : Int32) (hM : IM μ) (hC : IC μ ρ) (hth : ¬ thCar μ x = 0) (hfl : l.stackTraces = false) (sz : Nat) : WXs l y_A_place b_A_place 3 [((0 : Nat), (5 : Nat), (6 : Nat), (21 : Nat))] 7 103 D cs (cwL cs ad μ ρ) sz [.ref (ad 0), .int x] (-4) (cwL cs ad μ ρ) 1 := by
  refine WXs.of (by decide) (Nat.le_of_ble_eq_true rfl) ?_
  intro p e s m args below meth c A S hr hlk htab hK hY hZ hP hD hA hS ls hl
  obtain ⟨hx, hb, hml, hown, ht⟩ := id S
  have hl : lv_has ls 3 [(0, .ref (ad 0)), (1, .int x)] := hl
  have htab : c.exceptionTable.toList = [⟨0, 5, 6, 21⟩] := htab
  refine lv_aload_n hx hb d_A_place_0 rfl (lv_at hl 0 rfl) ?_
  refine lv_iload_n hx hb d_A_place_1 rfl (lv_at hl 1 rfl) ?_
  refine rf_xV (As := [.int x]) (rest := []) (idx := 27) (q0 := 0) (ci := 5) (wr := []) S hK hY hZ hP hD hS hA (c_V_place l D cs ad μ ρ x hM hC hfl s.heap.size) k_V_place [0, 1, 2, 3, 4, 5, 6, 7, 8, 9, 10, 11, 12, 13, 14, 15, 16, 17, 18, 19, 20, 21, 22, 23] [] rfl (by decide) rfl (by decide) (by decide) rfl rfl rfl q_156 ⟨Nat.le_of_ble_eq_true rfl, Nat.le_of_ble_eq_true rfl⟩ ⟨Nat.le_of_ble_eq_true rfl, Nat.le_of_ble_eq_true rfl⟩ hl (Nat.le_of_ble_eq_true rfl) rfl d_A_place_2 (fun E ce q9 H locs hE hP hD hS hz g1 g2 g3 => ?_) (fun r u H locs hp hP hD hS hz => ?_)
  · obtain ⟨rfl, h1⟩ := hE
    have hP : va_P D classes (cwL cs ad μ ρ) H := hP
    have hD : va_D A (cwL cs ad μ ρ) := hD
    refine rr_catch1 S hY (by decide) htab rfl (by decide) q_469 g1 g2 g3 ?_
    refine lv_astore_n (lv' := [(2, .ref q9), (0, .ref (ad 0)), (1, .int x)]) hx hb d_A_place_6 rfl hl (by decide) rfl (fun ls hl => ?_)
    refine lv_bipush (v := (-4)) hx hb d_A_place_7 (by decide) ?_
    exact rf_mret hx hb hr hlk hP hD hS hz d_A_place_9
  · exact absurd hp.2 hth
