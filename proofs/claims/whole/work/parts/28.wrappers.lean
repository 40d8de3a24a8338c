theorem k_A_putOn : rr_CW y_A_putOn b_A_putOn 3 [((0 : Nat), (8 : Nat), (11 : Nat), (13 : Nat))] 2 := ⟨q_244, q_0, q_245, by decide, by decide, by decide +kernel⟩
set_option maxHeartbeats 4000000 in
set_option maxRecDepth 100000 in
/-- the law's putOn: what the class answers, or the code of what it threw -/
theorem c_A_putOn (l : Launch) (D : va_G) (cs : rr_C3) (ad : Nat → Nat) (oc : Nat) (μ ρ : NS) (f : Nat → Int64)  (hM : IM μ) (hC : IC μ ρ) (hfl : l.stackTraces = false) (sz : Nat) : WX l y_A_putOn b_A_putOn 3 [((0 : Nat), (8 : Nat), (11 : Nat), (13 : Nat))] 7 102 D cs (cwL cs ad μ ρ ++ [ouL cs oc f]) sz [.ref (ad 0), .ref oc] (fun (r : Int32) (u : NS × NS × (Nat → Int64)) => r = nI (thPut μ) ∧ ((thPut μ = 0 ∧ u.1 = (muPut μ) ∧ u.2.1 = (roPut μ ρ) ∧ u.2.2 0 = Int32.toInt64 (nI (μ 3 0))) ∨ (¬ thPut μ = 0 ∧ u = (μ, ρ, f)))) (fun u => cwL cs ad u.1 u.2.1 ++ [ouL cs oc u.2.2]) := by
  refine WX.of (by decide) (Nat.le_of_ble_eq_true rfl) ?_
  intro p e s m args below meth c A S hr hlk htab hK hY hX hZ hP hD hA hS ls hl
  obtain ⟨hx, hb, hml, hown, ht⟩ := id S
  have hl : lv_has ls 3 [(0, .ref (ad 0)), (1, .ref oc)] := hl
  have htab : c.exceptionTable.toList = [⟨0, 8, 11, 13⟩] := htab
  refine lv_aload_n hx hb d_A_putOn_0 rfl (lv_at hl 1 rfl) ?_
  refine lv_iconst (v := nI 0) hx hb d_A_putOn_1 (by decide) ?_
  refine lv_aload_n hx hb d_A_putOn_2 rfl (lv_at hl 0 rfl) ?_
  refine rr_xV (As := []) (rest := [.int (nI 0), .ref oc]) (idx := 7) (q0 := 0) (ci := 5) (wr := [ouL cs oc f]) S hK hY hZ hP hD hS hA (c_V_putOn l D cs ad μ ρ  hM hC  hfl s.heap.size) k_V_putOn [0, 1, 2, 3, 4, 5, 6, 7, 8, 9, 10, 11, 12, 13, 14, 15, 16, 17, 18, 19, 20, 21, 22, 23] [24] rfl (by decide) rfl (by decide) (by decide) rfl rfl rfl q_247 ⟨Nat.le_of_ble_eq_true rfl, Nat.le_of_ble_eq_true rfl⟩ ⟨Nat.le_of_ble_eq_true rfl, Nat.le_of_ble_eq_true rfl⟩ hl (Nat.le_of_ble_eq_true rfl) rfl d_A_putOn_3 (fun E ce q9 H locs hE hP hD hS g1 g2 g3 => ?_) (fun r u H locs hp hP hD hS => ?_)
  · rcases hE with ⟨rfl, h1⟩
    · have hP := hP.sub (ws' := cwL cs ad μ ρ ++ [ouL cs oc f]) [1, 2, 3, 4, 5, 6, 7, 8, 9, 10, 11, 12, 13, 14, 15, 16, 17, 18, 19, 20, 21, 22, 23, 24, 0] rfl
      have hD := hD.sub (ws' := cwL cs ad μ ρ ++ [ouL cs oc f]) [1, 2, 3, 4, 5, 6, 7, 8, 9, 10, 11, 12, 13, 14, 15, 16, 17, 18, 19, 20, 21, 22, 23, 24, 0] (by decide) rfl
      refine rr_catch1 S hY (by decide) htab rfl (by decide) q_246 g1 g2 g3 ?_
      refine lv_astore_n (lv' := [(2, .ref q9), (0, .ref (ad 0)), (1, .ref oc)]) hx hb d_A_putOn_11 rfl hl (by decide) rfl (fun ls hl => ?_)
      refine lv_iconst (v := nI 1) hx hb d_A_putOn_12 (by decide) ?_
      exact rr_mret (μ, ρ, f) hx hb hr hlk hP hD hS ⟨(by rw [h1]), Or.inr ⟨(by omega), rfl⟩⟩ d_A_putOn_13
  · obtain ⟨rfl, h0⟩ := hp
    refine lv_i2l (v := Int32.toInt64 (nI (μ 3 0))) hx hb d_A_putOn_6 rfl ?_
    refine va_last (f := f) hx hb hK.1 hP hD hS 0 2 rfl rfl (vp_in_nI (by decide) (by decide)) d_A_putOn_7 (fun H locs hP hD hS => ?_)
    have hP := hP.sub (ws' := cwL cs ad (muPut μ) (roPut μ ρ) ++ [ouL cs oc (vp_updL f (nI 0).toNatClampNeg (Int32.toInt64 (nI (μ 3 0))))]) [1, 2, 3, 4, 5, 6, 7, 8, 9, 10, 11, 12, 13, 14, 15, 16, 17, 18, 19, 20, 21, 22, 23, 24, 0] rfl
    have hD := hD.sub (ws' := cwL cs ad (muPut μ) (roPut μ ρ) ++ [ouL cs oc (vp_updL f (nI 0).toNatClampNeg (Int32.toInt64 (nI (μ 3 0))))]) [1, 2, 3, 4, 5, 6, 7, 8, 9, 10, 11, 12, 13, 14, 15, 16, 17, 18, 19, 20, 21, 22, 23, 24, 0] (by decide) rfl
    refine lv_goto (tgt := 14) hx hb d_A_putOn_8 (by decide) ?_
    refine lv_iconst (v := nI 0) hx hb d_A_putOn_14 (by decide) ?_
    exact rr_mret ((muPut μ), (roPut μ ρ), (vp_updL f (nI 0).toNatClampNeg (Int32.toInt64 (nI (μ 3 0))))) hx hb hr hlk hP hD hS ⟨(by rw [h0]), Or.inl ⟨h0, rfl, rfl, rr_upL f _⟩⟩ d_A_putOn_15
theorem k_A_takeOff : rr_CW y_A_takeOff b_A_takeOff 4 [((0 : Nat), (9 : Nat), (12 : Nat), (19 : Nat)), ((0 : Nat), (9 : Nat), (15 : Nat), (13 : Nat))] 3 := ⟨q_328, q_0, q_329, by decide, by decide, by decide +kernel⟩
set_option maxHeartbeats 4000000 in
set_option maxRecDepth 100000 in
/-- the law's takeOff: what the class answers, or the code of what it threw -/
theorem c_A_takeOff (l : Launch) (D : va_G) (cs : rr_C3) (ad : Nat → Nat) (oc : Nat) (μ ρ : NS) (f : Nat → Int64) (x : Int32) (hM : IM μ) (hC : IC μ ρ) (hfl : l.stackTraces = false) (sz : Nat) : WX l y_A_takeOff b_A_takeOff 4 [((0 : Nat), (9 : Nat), (12 : Nat), (19 : Nat)), ((0 : Nat), (9 : Nat), (15 : Nat), (13 : Nat))] 7 103 D cs (cwL cs ad μ ρ ++ [ouL cs oc f]) sz [.ref (ad 0), .int x, .ref oc] (fun (r : Int32) (u : NS × NS × (Nat → Int64)) => r = nI (thOff μ x) ∧ ((thOff μ x = 0 ∧ u.1 = (muOff μ (ix 16 x)) ∧ u.2.1 = (roOff ρ (ix 16 x)) ∧ u.2.2 0 = Int32.toInt64 (nI (μ 1 0 - μ 4 (ix 16 x)))) ∨ (¬ thOff μ x = 0 ∧ u = (μ, ρ, f)))) (fun u => cwL cs ad u.1 u.2.1 ++ [ouL cs oc u.2.2]) := by
  refine WX.of (by decide) (Nat.le_of_ble_eq_true rfl) ?_
  intro p e s m args below meth c A S hr hlk htab hK hY hX hZ hP hD hA hS ls hl
  obtain ⟨hx, hb, hml, hown, ht⟩ := id S
  have hl : lv_has ls 4 [(0, .ref (ad 0)), (1, .int x), (2, .ref oc)] := hl
  have htab : c.exceptionTable.toList = [⟨0, 9, 12, 19⟩, ⟨0, 9, 15, 13⟩] := htab
  refine lv_aload_n hx hb d_A_takeOff_0 rfl (lv_at hl 2 rfl) ?_
  refine lv_iconst (v := nI 0) hx hb d_A_takeOff_1 (by decide) ?_
  refine lv_aload_n hx hb d_A_takeOff_2 rfl (lv_at hl 0 rfl) ?_
  refine lv_iload_n hx hb d_A_takeOff_3 rfl (lv_at hl 1 rfl) ?_
  refine rr_xV (As := [.int x]) (rest := [.int (nI 0), .ref oc]) (idx := 15) (q0 := 0) (ci := 5) (wr := [ouL cs oc f]) S hK hY hZ hP hD hS hA (c_V_takeOff l D cs ad μ ρ x hM hC  hfl s.heap.size) k_V_takeOff [0, 1, 2, 3, 4, 5, 6, 7, 8, 9, 10, 11, 12, 13, 14, 15, 16, 17, 18, 19, 20, 21, 22, 23] [24] rfl (by decide) rfl (by decide) (by decide) rfl rfl rfl q_331 ⟨Nat.le_of_ble_eq_true rfl, Nat.le_of_ble_eq_true rfl⟩ ⟨Nat.le_of_ble_eq_true rfl, Nat.le_of_ble_eq_true rfl⟩ hl (Nat.le_of_ble_eq_true rfl) rfl d_A_takeOff_4 (fun E ce q9 H locs hE hP hD hS g1 g2 g3 => ?_) (fun r u H locs hp hP hD hS => ?_)
  · rcases hE with ⟨rfl, h1⟩ | ⟨rfl, h1⟩
    · have hP := hP.sub (ws' := cwL cs ad μ ρ ++ [ouL cs oc f]) [1, 2, 3, 4, 5, 6, 7, 8, 9, 10, 11, 12, 13, 14, 15, 16, 17, 18, 19, 20, 21, 22, 23, 24, 0] rfl
      have hD := hD.sub (ws' := cwL cs ad μ ρ ++ [ouL cs oc f]) [1, 2, 3, 4, 5, 6, 7, 8, 9, 10, 11, 12, 13, 14, 15, 16, 17, 18, 19, 20, 21, 22, 23, 24, 0] (by decide) rfl
      refine rr_catch1 S hY (by decide) htab rfl (by decide) q_330 g1 g2 g3 ?_
      refine lv_astore_n (lv' := [(3, .ref q9), (0, .ref (ad 0)), (1, .int x), (2, .ref oc)]) hx hb d_A_takeOff_12 rfl hl (by decide) rfl (fun ls hl => ?_)
      refine lv_iconst (v := nI 1) hx hb d_A_takeOff_13 (by decide) ?_
      exact rr_mret (μ, ρ, f) hx hb hr hlk hP hD hS ⟨(by rw [h1]), Or.inr ⟨(by omega), rfl⟩⟩ d_A_takeOff_14
    · have hP := hP.sub (ws' := cwL cs ad μ ρ ++ [ouL cs oc f]) [1, 2, 3, 4, 5, 6, 7, 8, 9, 10, 11, 12, 13, 14, 15, 16, 17, 18, 19, 20, 21, 22, 23, 24, 0] rfl
      have hD := hD.sub (ws' := cwL cs ad μ ρ ++ [ouL cs oc f]) [1, 2, 3, 4, 5, 6, 7, 8, 9, 10, 11, 12, 13, 14, 15, 16, 17, 18, 19, 20, 21, 22, 23, 24, 0] (by decide) rfl
      refine rr_catch2 (E1 := eI) S hY (by decide) hX.1 htab (by decide) q_330 rfl (by decide) q_246 g1 g2 g3 ?_
      refine lv_astore_n (lv' := [(3, .ref q9), (0, .ref (ad 0)), (1, .int x), (2, .ref oc)]) hx hb d_A_takeOff_15 rfl hl (by decide) rfl (fun ls hl => ?_)
      refine lv_iconst (v := nI 2) hx hb d_A_takeOff_16 (by decide) ?_
      exact rr_mret (μ, ρ, f) hx hb hr hlk hP hD hS ⟨(by rw [h1]), Or.inr ⟨(by omega), rfl⟩⟩ d_A_takeOff_17
  · obtain ⟨rfl, h0⟩ := hp
    refine lv_i2l (v := Int32.toInt64 (nI (μ 1 0 - μ 4 (ix 16 x)))) hx hb d_A_takeOff_7 rfl ?_
    refine va_last (f := f) hx hb hK.1 hP hD hS 0 2 rfl rfl (vp_in_nI (by decide) (by decide)) d_A_takeOff_8 (fun H locs hP hD hS => ?_)
    have hP := hP.sub (ws' := cwL cs ad (muOff μ (ix 16 x)) (roOff ρ (ix 16 x)) ++ [ouL cs oc (vp_updL f (nI 0).toNatClampNeg (Int32.toInt64 (nI (μ 1 0 - μ 4 (ix 16 x)))))]) [1, 2, 3, 4, 5, 6, 7, 8, 9, 10, 11, 12, 13, 14, 15, 16, 17, 18, 19, 20, 21, 22, 23, 24, 0] rfl
    have hD := hD.sub (ws' := cwL cs ad (muOff μ (ix 16 x)) (roOff ρ (ix 16 x)) ++ [ouL cs oc (vp_updL f (nI 0).toNatClampNeg (Int32.toInt64 (nI (μ 1 0 - μ 4 (ix 16 x)))))]) [1, 2, 3, 4, 5, 6, 7, 8, 9, 10, 11, 12, 13, 14, 15, 16, 17, 18, 19, 20, 21, 22, 23, 24, 0] (by decide) rfl
    refine lv_goto (tgt := 18) hx hb d_A_takeOff_9 (by decide) ?_
    refine lv_iconst (v := nI 0) hx hb d_A_takeOff_18 (by decide) ?_
    exact rr_mret ((muOff μ (ix 16 x)), (roOff ρ (ix 16 x)), (vp_updL f (nI 0).toNatClampNeg (Int32.toInt64 (nI (μ 1 0 - μ 4 (ix 16 x)))))) hx hb hr hlk hP hD hS ⟨(by rw [h0]), Or.inl ⟨h0, rfl, rfl, rr_upL f _⟩⟩ d_A_takeOff_19
theorem k_A_place : rr_CW y_A_place b_A_place 4 [((0 : Nat), (9 : Nat), (12 : Nat), (19 : Nat))] 3 := ⟨q_364, q_0, q_365, by decide, by decide, by decide +kernel⟩
set_option maxHeartbeats 4000000 in
set_option maxRecDepth 100000 in
/-- the law's place: what the class answers, or the code of what it threw -/
theorem c_A_place (l : Launch) (D : va_G) (cs : rr_C3) (ad : Nat → Nat) (oc : Nat) (μ ρ : NS) (f : Nat → Int64) (x : Int32) (hM : IM μ) (hC : IC μ ρ) (hfl : l.stackTraces = false) (sz : Nat) : WX l y_A_place b_A_place 4 [((0 : Nat), (9 : Nat), (12 : Nat), (19 : Nat))] 7 103 D cs (cwL cs ad μ ρ ++ [ouL cs oc f]) sz [.ref (ad 0), .int x, .ref oc] (fun (r : Int32) (u : NS × NS × (Nat → Int64)) => r = nI (thCar μ x) ∧ ((thCar μ x = 0 ∧ u.1 = μ ∧ u.2.1 = ρ ∧ u.2.2 0 = Int32.toInt64 (nI (pN μ (ix 16 x)))) ∨ (¬ thCar μ x = 0 ∧ u = (μ, ρ, f)))) (fun u => cwL cs ad u.1 u.2.1 ++ [ouL cs oc u.2.2]) := by
  refine WX.of (by decide) (Nat.le_of_ble_eq_true rfl) ?_
  intro p e s m args below meth c A S hr hlk htab hK hY hX hZ hP hD hA hS ls hl
  obtain ⟨hx, hb, hml, hown, ht⟩ := id S
  have hl : lv_has ls 4 [(0, .ref (ad 0)), (1, .int x), (2, .ref oc)] := hl
  have htab : c.exceptionTable.toList = [⟨0, 9, 12, 19⟩] := htab
  refine lv_aload_n hx hb d_A_place_0 rfl (lv_at hl 2 rfl) ?_
  refine lv_iconst (v := nI 0) hx hb d_A_place_1 (by decide) ?_
  refine lv_aload_n hx hb d_A_place_2 rfl (lv_at hl 0 rfl) ?_
  refine lv_iload_n hx hb d_A_place_3 rfl (lv_at hl 1 rfl) ?_
  refine rr_xV (As := [.int x]) (rest := [.int (nI 0), .ref oc]) (idx := 21) (q0 := 0) (ci := 5) (wr := [ouL cs oc f]) S hK hY hZ hP hD hS hA (c_V_place l D cs ad μ ρ x hM hC  hfl s.heap.size) k_V_place [0, 1, 2, 3, 4, 5, 6, 7, 8, 9, 10, 11, 12, 13, 14, 15, 16, 17, 18, 19, 20, 21, 22, 23] [24] rfl (by decide) rfl (by decide) (by decide) rfl rfl rfl q_366 ⟨Nat.le_of_ble_eq_true rfl, Nat.le_of_ble_eq_true rfl⟩ ⟨Nat.le_of_ble_eq_true rfl, Nat.le_of_ble_eq_true rfl⟩ hl (Nat.le_of_ble_eq_true rfl) rfl d_A_place_4 (fun E ce q9 H locs hE hP hD hS g1 g2 g3 => ?_) (fun r u H locs hp hP hD hS => ?_)
  · rcases hE with ⟨rfl, h1⟩
    · have hP := hP.sub (ws' := cwL cs ad μ ρ ++ [ouL cs oc f]) [1, 2, 3, 4, 5, 6, 7, 8, 9, 10, 11, 12, 13, 14, 15, 16, 17, 18, 19, 20, 21, 22, 23, 24, 0] rfl
      have hD := hD.sub (ws' := cwL cs ad μ ρ ++ [ouL cs oc f]) [1, 2, 3, 4, 5, 6, 7, 8, 9, 10, 11, 12, 13, 14, 15, 16, 17, 18, 19, 20, 21, 22, 23, 24, 0] (by decide) rfl
      refine rr_catch1 S hY (by decide) htab rfl (by decide) q_330 g1 g2 g3 ?_
      refine lv_astore_n (lv' := [(3, .ref q9), (0, .ref (ad 0)), (1, .int x), (2, .ref oc)]) hx hb d_A_place_12 rfl hl (by decide) rfl (fun ls hl => ?_)
      refine lv_iconst (v := nI 1) hx hb d_A_place_13 (by decide) ?_
      exact rr_mret (μ, ρ, f) hx hb hr hlk hP hD hS ⟨(by rw [h1]), Or.inr ⟨(by omega), rfl⟩⟩ d_A_place_14
  · obtain ⟨rfl, h0⟩ := hp
    refine lv_i2l (v := Int32.toInt64 (nI (pN μ (ix 16 x)))) hx hb d_A_place_7 rfl ?_
    refine va_last (f := f) hx hb hK.1 hP hD hS 0 2 rfl rfl (vp_in_nI (by decide) (by decide)) d_A_place_8 (fun H locs hP hD hS => ?_)
    have hP := hP.sub (ws' := cwL cs ad μ ρ ++ [ouL cs oc (vp_updL f (nI 0).toNatClampNeg (Int32.toInt64 (nI (pN μ (ix 16 x)))))]) [1, 2, 3, 4, 5, 6, 7, 8, 9, 10, 11, 12, 13, 14, 15, 16, 17, 18, 19, 20, 21, 22, 23, 24, 0] rfl
    have hD := hD.sub (ws' := cwL cs ad μ ρ ++ [ouL cs oc (vp_updL f (nI 0).toNatClampNeg (Int32.toInt64 (nI (pN μ (ix 16 x)))))]) [1, 2, 3, 4, 5, 6, 7, 8, 9, 10, 11, 12, 13, 14, 15, 16, 17, 18, 19, 20, 21, 22, 23, 24, 0] (by decide) rfl
    refine lv_goto (tgt := 15) hx hb d_A_place_9 (by decide) ?_
    refine lv_iconst (v := nI 0) hx hb d_A_place_15 (by decide) ?_
    exact rr_mret (μ, ρ, (vp_updL f (nI 0).toNatClampNeg (Int32.toInt64 (nI (pN μ (ix 16 x)))))) hx hb hr hlk hP hD hS ⟨(by rw [h0]), Or.inl ⟨h0, rfl, rfl, rr_upL f _⟩⟩ d_A_place_16
theorem k_A_placeByTurns : rr_CW y_A_placeByTurns b_A_placeByTurns 4 [((0 : Nat), (9 : Nat), (12 : Nat), (19 : Nat))] 3 := ⟨q_371, q_0, q_372, by decide, by decide, by decide +kernel⟩
set_option maxHeartbeats 4000000 in
set_option maxRecDepth 100000 in
/-- the law's placeByTurns: what the class answers, or the code of what it threw -/
theorem c_A_placeByTurns (l : Launch) (D : va_G) (cs : rr_C3) (ad : Nat → Nat) (oc : Nat) (μ ρ : NS) (f : Nat → Int64) (x : Int32) (hM : IM μ) (hC : IC μ ρ) (hfl : l.stackTraces = false) (sz : Nat) : WX l y_A_placeByTurns b_A_placeByTurns 4 [((0 : Nat), (9 : Nat), (12 : Nat), (19 : Nat))] 7 103 D cs (cwL cs ad μ ρ ++ [ouL cs oc f]) sz [.ref (ad 0), .int x, .ref oc] (fun (r : Int32) (u : NS × NS × (Nat → Int64)) => r = nI (thCar μ x) ∧ ((thCar μ x = 0 ∧ u.1 = μ ∧ u.2.1 = ρ ∧ u.2.2 0 = Int32.toInt64 (nI (pN μ (ix 16 x)))) ∨ (¬ thCar μ x = 0 ∧ u = (μ, ρ, f)))) (fun u => cwL cs ad u.1 u.2.1 ++ [ouL cs oc u.2.2]) := by
  refine WX.of (by decide) (Nat.le_of_ble_eq_true rfl) ?_
  intro p e s m args below meth c A S hr hlk htab hK hY hX hZ hP hD hA hS ls hl
  obtain ⟨hx, hb, hml, hown, ht⟩ := id S
  have hl : lv_has ls 4 [(0, .ref (ad 0)), (1, .int x), (2, .ref oc)] := hl
  have htab : c.exceptionTable.toList = [⟨0, 9, 12, 19⟩] := htab
  refine lv_aload_n hx hb d_A_placeByTurns_0 rfl (lv_at hl 2 rfl) ?_
  refine lv_iconst (v := nI 0) hx hb d_A_placeByTurns_1 (by decide) ?_
  refine lv_aload_n hx hb d_A_placeByTurns_2 rfl (lv_at hl 0 rfl) ?_
  refine lv_iload_n hx hb d_A_placeByTurns_3 rfl (lv_at hl 1 rfl) ?_
  refine rr_xV (As := [.int x]) (rest := [.int (nI 0), .ref oc]) (idx := 24) (q0 := 0) (ci := 5) (wr := [ouL cs oc f]) S hK hY hZ hP hD hS hA (c_V_placeByTurns l D cs ad μ ρ x hM hC  hfl s.heap.size) k_V_placeByTurns [0, 1, 2, 3, 4, 5, 6, 7, 8, 9, 10, 11, 12, 13, 14, 15, 16, 17, 18, 19, 20, 21, 22, 23] [24] rfl (by decide) rfl (by decide) (by decide) rfl rfl rfl q_373 ⟨Nat.le_of_ble_eq_true rfl, Nat.le_of_ble_eq_true rfl⟩ ⟨Nat.le_of_ble_eq_true rfl, Nat.le_of_ble_eq_true rfl⟩ hl (Nat.le_of_ble_eq_true rfl) rfl d_A_placeByTurns_4 (fun E ce q9 H locs hE hP hD hS g1 g2 g3 => ?_) (fun r u H locs hp hP hD hS => ?_)
  · rcases hE with ⟨rfl, h1⟩
    · have hP := hP.sub (ws' := cwL cs ad μ ρ ++ [ouL cs oc f]) [1, 2, 3, 4, 5, 6, 7, 8, 9, 10, 11, 12, 13, 14, 15, 16, 17, 18, 19, 20, 21, 22, 23, 24, 0] rfl
      have hD := hD.sub (ws' := cwL cs ad μ ρ ++ [ouL cs oc f]) [1, 2, 3, 4, 5, 6, 7, 8, 9, 10, 11, 12, 13, 14, 15, 16, 17, 18, 19, 20, 21, 22, 23, 24, 0] (by decide) rfl
      refine rr_catch1 S hY (by decide) htab rfl (by decide) q_330 g1 g2 g3 ?_
      refine lv_astore_n (lv' := [(3, .ref q9), (0, .ref (ad 0)), (1, .int x), (2, .ref oc)]) hx hb d_A_placeByTurns_12 rfl hl (by decide) rfl (fun ls hl => ?_)
      refine lv_iconst (v := nI 1) hx hb d_A_placeByTurns_13 (by decide) ?_
      exact rr_mret (μ, ρ, f) hx hb hr hlk hP hD hS ⟨(by rw [h1]), Or.inr ⟨(by omega), rfl⟩⟩ d_A_placeByTurns_14
  · obtain ⟨rfl, h0⟩ := hp
    refine lv_i2l (v := Int32.toInt64 (nI (pN μ (ix 16 x)))) hx hb d_A_placeByTurns_7 rfl ?_
    refine va_last (f := f) hx hb hK.1 hP hD hS 0 2 rfl rfl (vp_in_nI (by decide) (by decide)) d_A_placeByTurns_8 (fun H locs hP hD hS => ?_)
    have hP := hP.sub (ws' := cwL cs ad μ ρ ++ [ouL cs oc (vp_updL f (nI 0).toNatClampNeg (Int32.toInt64 (nI (pN μ (ix 16 x)))))]) [1, 2, 3, 4, 5, 6, 7, 8, 9, 10, 11, 12, 13, 14, 15, 16, 17, 18, 19, 20, 21, 22, 23, 24, 0] rfl
    have hD := hD.sub (ws' := cwL cs ad μ ρ ++ [ouL cs oc (vp_updL f (nI 0).toNatClampNeg (Int32.toInt64 (nI (pN μ (ix 16 x)))))]) [1, 2, 3, 4, 5, 6, 7, 8, 9, 10, 11, 12, 13, 14, 15, 16, 17, 18, 19, 20, 21, 22, 23, 24, 0] (by decide) rfl
    refine lv_goto (tgt := 15) hx hb d_A_placeByTurns_9 (by decide) ?_
    refine lv_iconst (v := nI 0) hx hb d_A_placeByTurns_15 (by decide) ?_
    exact rr_mret (μ, ρ, (vp_updL f (nI 0).toNatClampNeg (Int32.toInt64 (nI (pN μ (ix 16 x)))))) hx hb hr hlk hP hD hS ⟨(by rw [h0]), Or.inl ⟨h0, rfl, rfl, rr_upL f _⟩⟩ d_A_placeByTurns_16
theorem k_A_wind : rr_CW y_A_wind b_A_wind 5 [((0 : Nat), (10 : Nat), (13 : Nat), (19 : Nat)), ((0 : Nat), (10 : Nat), (17 : Nat), (31 : Nat))] 4 := ⟨q_378, q_0, q_379, by decide, by decide, by decide +kernel⟩
set_option maxHeartbeats 4000000 in
set_option maxRecDepth 100000 in
/-- the law's wind: what the class answers, or the code of what it threw -/
theorem c_A_wind (l : Launch) (D : va_G) (cs : rr_C3) (ad : Nat → Nat) (oc : Nat) (μ ρ : NS) (f : Nat → Int64) (x : Int32) (w9 : Int32) (hM : IM μ) (hC : IC μ ρ) (hfl : l.stackTraces = false) (sz : Nat) : WX l y_A_wind b_A_wind 5 [((0 : Nat), (10 : Nat), (13 : Nat), (19 : Nat)), ((0 : Nat), (10 : Nat), (17 : Nat), (31 : Nat))] 7 104 D cs (cwL cs ad μ ρ ++ [ouL cs oc f]) sz [.ref (ad 0), .int x, .int w9, .ref oc] (fun (r : Int32) (u : NS × NS × (Nat → Int64)) => r = nI (thWin x w9) ∧ ((thWin x w9 = 0 ∧ u.1 = (muWin μ (ix 7 x) (ix 151 w9)) ∧ u.2.1 = ρ ∧ u.2.2 0 = Int32.toInt64 (nI (vnN (va_up (μ 6) (ix 7 x) (ix 151 w9)) (μ 7) (μ 8) (ix 7 x)))) ∨ (¬ thWin x w9 = 0 ∧ u = (μ, ρ, f)))) (fun u => cwL cs ad u.1 u.2.1 ++ [ouL cs oc u.2.2]) := by
  refine WX.of (by decide) (Nat.le_of_ble_eq_true rfl) ?_
  intro p e s m args below meth c A S hr hlk htab hK hY hX hZ hP hD hA hS ls hl
  obtain ⟨hx, hb, hml, hown, ht⟩ := id S
  have hl : lv_has ls 5 [(0, .ref (ad 0)), (1, .int x), (2, .int w9), (3, .ref oc)] := hl
  have htab : c.exceptionTable.toList = [⟨0, 10, 13, 19⟩, ⟨0, 10, 17, 31⟩] := htab
  refine lv_aload_n hx hb d_A_wind_0 rfl (lv_at hl 3 rfl) ?_
  refine lv_iconst (v := nI 0) hx hb d_A_wind_1 (by decide) ?_
  refine lv_aload_n hx hb d_A_wind_2 rfl (lv_at hl 0 rfl) ?_
  refine lv_iload_n hx hb d_A_wind_3 rfl (lv_at hl 1 rfl) ?_
  refine lv_iload_n hx hb d_A_wind_4 rfl (lv_at hl 2 rfl) ?_
  refine rr_xV (As := [.int x, .int w9]) (rest := [.int (nI 0), .ref oc]) (idx := 27) (q0 := 0) (ci := 5) (wr := [ouL cs oc f]) S hK hY hZ hP hD hS hA (c_V_wind l D cs ad μ ρ x w9 hM hC  hfl s.heap.size) k_V_wind [0, 1, 2, 3, 4, 5, 6, 7, 8, 9, 10, 11, 12, 13, 14, 15, 16, 17, 18, 19, 20, 21, 22, 23] [24] rfl (by decide) rfl (by decide) (by decide) rfl rfl rfl q_381 ⟨Nat.le_of_ble_eq_true rfl, Nat.le_of_ble_eq_true rfl⟩ ⟨Nat.le_of_ble_eq_true rfl, Nat.le_of_ble_eq_true rfl⟩ hl (Nat.le_of_ble_eq_true rfl) rfl d_A_wind_5 (fun E ce q9 H locs hE hP hD hS g1 g2 g3 => ?_) (fun r u H locs hp hP hD hS => ?_)
  · rcases hE with ⟨rfl, h1⟩ | ⟨rfl, h1⟩
    · have hP := hP.sub (ws' := cwL cs ad μ ρ ++ [ouL cs oc f]) [1, 2, 3, 4, 5, 6, 7, 8, 9, 10, 11, 12, 13, 14, 15, 16, 17, 18, 19, 20, 21, 22, 23, 24, 0] rfl
      have hD := hD.sub (ws' := cwL cs ad μ ρ ++ [ouL cs oc f]) [1, 2, 3, 4, 5, 6, 7, 8, 9, 10, 11, 12, 13, 14, 15, 16, 17, 18, 19, 20, 21, 22, 23, 24, 0] (by decide) rfl
      refine rr_catch1 S hY (by decide) htab rfl (by decide) q_330 g1 g2 g3 ?_
      refine lv_astore (lv' := [(4, .ref q9), (0, .ref (ad 0)), (1, .int x), (2, .int w9), (3, .ref oc)]) hx hb d_A_wind_13 hl (by decide) rfl (fun ls hl => ?_)
      refine lv_iconst (v := nI 1) hx hb d_A_wind_15 (by decide) ?_
      exact rr_mret (μ, ρ, f) hx hb hr hlk hP hD hS ⟨(by rw [h1]), Or.inr ⟨(by omega), rfl⟩⟩ d_A_wind_16
    · have hP := hP.sub (ws' := cwL cs ad μ ρ ++ [ouL cs oc f]) [1, 2, 3, 4, 5, 6, 7, 8, 9, 10, 11, 12, 13, 14, 15, 16, 17, 18, 19, 20, 21, 22, 23, 24, 0] rfl
      have hD := hD.sub (ws' := cwL cs ad μ ρ ++ [ouL cs oc f]) [1, 2, 3, 4, 5, 6, 7, 8, 9, 10, 11, 12, 13, 14, 15, 16, 17, 18, 19, 20, 21, 22, 23, 24, 0] (by decide) rfl
      refine rr_catch2 (E1 := eI) S hY (by decide) hX.2.1 htab (by decide) q_330 rfl (by decide) q_380 g1 g2 g3 ?_
      refine lv_astore (lv' := [(4, .ref q9), (0, .ref (ad 0)), (1, .int x), (2, .int w9), (3, .ref oc)]) hx hb d_A_wind_17 hl (by decide) rfl (fun ls hl => ?_)
      refine lv_iconst (v := nI 2) hx hb d_A_wind_19 (by decide) ?_
      exact rr_mret (μ, ρ, f) hx hb hr hlk hP hD hS ⟨(by rw [h1]), Or.inr ⟨(by omega), rfl⟩⟩ d_A_wind_20
  · obtain ⟨rfl, h0⟩ := hp
    refine lv_i2l (v := Int32.toInt64 (nI (vnN (va_up (μ 6) (ix 7 x) (ix 151 w9)) (μ 7) (μ 8) (ix 7 x)))) hx hb d_A_wind_8 rfl ?_
    refine va_last (f := f) hx hb hK.1 hP hD hS 0 2 rfl rfl (vp_in_nI (by decide) (by decide)) d_A_wind_9 (fun H locs hP hD hS => ?_)
    have hP := hP.sub (ws' := cwL cs ad (muWin μ (ix 7 x) (ix 151 w9)) ρ ++ [ouL cs oc (vp_updL f (nI 0).toNatClampNeg (Int32.toInt64 (nI (vnN (va_up (μ 6) (ix 7 x) (ix 151 w9)) (μ 7) (μ 8) (ix 7 x)))))]) [1, 2, 3, 4, 5, 6, 7, 8, 9, 10, 11, 12, 13, 14, 15, 16, 17, 18, 19, 20, 21, 22, 23, 24, 0] rfl
    have hD := hD.sub (ws' := cwL cs ad (muWin μ (ix 7 x) (ix 151 w9)) ρ ++ [ouL cs oc (vp_updL f (nI 0).toNatClampNeg (Int32.toInt64 (nI (vnN (va_up (μ 6) (ix 7 x) (ix 151 w9)) (μ 7) (μ 8) (ix 7 x)))))]) [1, 2, 3, 4, 5, 6, 7, 8, 9, 10, 11, 12, 13, 14, 15, 16, 17, 18, 19, 20, 21, 22, 23, 24, 0] (by decide) rfl
    refine lv_goto (tgt := 21) hx hb d_A_wind_10 (by decide) ?_
    refine lv_iconst (v := nI 0) hx hb d_A_wind_21 (by decide) ?_
    exact rr_mret ((muWin μ (ix 7 x) (ix 151 w9)), ρ, (vp_updL f (nI 0).toNatClampNeg (Int32.toInt64 (nI (vnN (va_up (μ 6) (ix 7 x) (ix 151 w9)) (μ 7) (μ 8) (ix 7 x)))))) hx hb hr hlk hP hD hS ⟨(by rw [h0]), Or.inl ⟨h0, rfl, rfl, rr_upL f _⟩⟩ d_A_wind_22
theorem k_A_setLimits : rr_CW y_A_setLimits b_A_setLimits 6 [((0 : Nat), (12 : Nat), (15 : Nat), (19 : Nat)), ((0 : Nat), (12 : Nat), (19 : Nat), (31 : Nat))] 5 := ⟨q_410, q_0, q_411, by decide, by decide, by decide +kernel⟩
set_option maxHeartbeats 4000000 in
set_option maxRecDepth 100000 in
/-- the law's setLimits: what the class answers, or the code of what it threw -/
theorem c_A_setLimits (l : Launch) (D : va_G) (cs : rr_C3) (ad : Nat → Nat) (oc : Nat) (μ ρ : NS) (f : Nat → Int64) (x : Int32) (a9 : Int32) (b9 : Int32) (hM : IM μ) (hC : IC μ ρ) (hfl : l.stackTraces = false) (sz : Nat) : WX l y_A_setLimits b_A_setLimits 6 [((0 : Nat), (12 : Nat), (15 : Nat), (19 : Nat)), ((0 : Nat), (12 : Nat), (19 : Nat), (31 : Nat))] 7 105 D cs (cwL cs ad μ ρ ++ [ouL cs oc f]) sz [.ref (ad 0), .int x, .int a9, .int b9, .ref oc] (fun (r : Int32) (u : NS × NS × (Nat → Int64)) => r = nI (thLim x a9 b9) ∧ ((thLim x a9 b9 = 0 ∧ u.1 = (muLim μ (ix 7 x) (ix 151 a9) (ix 151 b9)) ∧ u.2.1 = ρ ∧ u.2.2 0 = Int32.toInt64 (nI (vnN (μ 6) (va_up (μ 7) (ix 7 x) (ix 151 a9)) (va_up (μ 8) (ix 7 x) (ix 151 b9)) (ix 7 x)))) ∨ (¬ thLim x a9 b9 = 0 ∧ u = (μ, ρ, f)))) (fun u => cwL cs ad u.1 u.2.1 ++ [ouL cs oc u.2.2]) := by
  refine WX.of (by decide) (Nat.le_of_ble_eq_true rfl) ?_
  intro p e s m args below meth c A S hr hlk htab hK hY hX hZ hP hD hA hS ls hl
  obtain ⟨hx, hb, hml, hown, ht⟩ := id S
  have hl : lv_has ls 6 [(0, .ref (ad 0)), (1, .int x), (2, .int a9), (3, .int b9), (4, .ref oc)] := hl
  have htab : c.exceptionTable.toList = [⟨0, 12, 15, 19⟩, ⟨0, 12, 19, 31⟩] := htab
  refine lv_aload hx hb d_A_setLimits_0 (lv_at hl 4 rfl) ?_
  refine lv_iconst (v := nI 0) hx hb d_A_setLimits_2 (by decide) ?_
  refine lv_aload_n hx hb d_A_setLimits_3 rfl (lv_at hl 0 rfl) ?_
  refine lv_iload_n hx hb d_A_setLimits_4 rfl (lv_at hl 1 rfl) ?_
  refine lv_iload_n hx hb d_A_setLimits_5 rfl (lv_at hl 2 rfl) ?_
  refine lv_iload_n hx hb d_A_setLimits_6 rfl (lv_at hl 3 rfl) ?_
  refine rr_xV (As := [.int x, .int a9, .int b9]) (rest := [.int (nI 0), .ref oc]) (idx := 33) (q0 := 0) (ci := 5) (wr := [ouL cs oc f]) S hK hY hZ hP hD hS hA (c_V_setLimits l D cs ad μ ρ x a9 b9 hM hC  hfl s.heap.size) k_V_setLimits [0, 1, 2, 3, 4, 5, 6, 7, 8, 9, 10, 11, 12, 13, 14, 15, 16, 17, 18, 19, 20, 21, 22, 23] [24] rfl (by decide) rfl (by decide) (by decide) rfl rfl rfl q_412 ⟨Nat.le_of_ble_eq_true rfl, Nat.le_of_ble_eq_true rfl⟩ ⟨Nat.le_of_ble_eq_true rfl, Nat.le_of_ble_eq_true rfl⟩ hl (Nat.le_of_ble_eq_true rfl) rfl d_A_setLimits_7 (fun E ce q9 H locs hE hP hD hS g1 g2 g3 => ?_) (fun r u H locs hp hP hD hS => ?_)
  · rcases hE with ⟨rfl, h1⟩ | ⟨rfl, h1⟩
    · have hP := hP.sub (ws' := cwL cs ad μ ρ ++ [ouL cs oc f]) [1, 2, 3, 4, 5, 6, 7, 8, 9, 10, 11, 12, 13, 14, 15, 16, 17, 18, 19, 20, 21, 22, 23, 24, 0] rfl
      have hD := hD.sub (ws' := cwL cs ad μ ρ ++ [ouL cs oc f]) [1, 2, 3, 4, 5, 6, 7, 8, 9, 10, 11, 12, 13, 14, 15, 16, 17, 18, 19, 20, 21, 22, 23, 24, 0] (by decide) rfl
      refine rr_catch1 S hY (by decide) htab rfl (by decide) q_330 g1 g2 g3 ?_
      refine lv_astore (lv' := [(5, .ref q9), (0, .ref (ad 0)), (1, .int x), (2, .int a9), (3, .int b9), (4, .ref oc)]) hx hb d_A_setLimits_15 hl (by decide) rfl (fun ls hl => ?_)
      refine lv_iconst (v := nI 1) hx hb d_A_setLimits_17 (by decide) ?_
      exact rr_mret (μ, ρ, f) hx hb hr hlk hP hD hS ⟨(by rw [h1]), Or.inr ⟨(by omega), rfl⟩⟩ d_A_setLimits_18
    · have hP := hP.sub (ws' := cwL cs ad μ ρ ++ [ouL cs oc f]) [1, 2, 3, 4, 5, 6, 7, 8, 9, 10, 11, 12, 13, 14, 15, 16, 17, 18, 19, 20, 21, 22, 23, 24, 0] rfl
      have hD := hD.sub (ws' := cwL cs ad μ ρ ++ [ouL cs oc f]) [1, 2, 3, 4, 5, 6, 7, 8, 9, 10, 11, 12, 13, 14, 15, 16, 17, 18, 19, 20, 21, 22, 23, 24, 0] (by decide) rfl
      refine rr_catch2 (E1 := eI) S hY (by decide) hX.2.1 htab (by decide) q_330 rfl (by decide) q_380 g1 g2 g3 ?_
      refine lv_astore (lv' := [(5, .ref q9), (0, .ref (ad 0)), (1, .int x), (2, .int a9), (3, .int b9), (4, .ref oc)]) hx hb d_A_setLimits_19 hl (by decide) rfl (fun ls hl => ?_)
      refine lv_iconst (v := nI 2) hx hb d_A_setLimits_21 (by decide) ?_
      exact rr_mret (μ, ρ, f) hx hb hr hlk hP hD hS ⟨(by rw [h1]), Or.inr ⟨(by omega), rfl⟩⟩ d_A_setLimits_22
  · obtain ⟨rfl, h0⟩ := hp
    refine lv_i2l (v := Int32.toInt64 (nI (vnN (μ 6) (va_up (μ 7) (ix 7 x) (ix 151 a9)) (va_up (μ 8) (ix 7 x) (ix 151 b9)) (ix 7 x)))) hx hb d_A_setLimits_10 rfl ?_
    refine va_last (f := f) hx hb hK.1 hP hD hS 0 2 rfl rfl (vp_in_nI (by decide) (by decide)) d_A_setLimits_11 (fun H locs hP hD hS => ?_)
    have hP := hP.sub (ws' := cwL cs ad (muLim μ (ix 7 x) (ix 151 a9) (ix 151 b9)) ρ ++ [ouL cs oc (vp_updL f (nI 0).toNatClampNeg (Int32.toInt64 (nI (vnN (μ 6) (va_up (μ 7) (ix 7 x) (ix 151 a9)) (va_up (μ 8) (ix 7 x) (ix 151 b9)) (ix 7 x)))))]) [1, 2, 3, 4, 5, 6, 7, 8, 9, 10, 11, 12, 13, 14, 15, 16, 17, 18, 19, 20, 21, 22, 23, 24, 0] rfl
    have hD := hD.sub (ws' := cwL cs ad (muLim μ (ix 7 x) (ix 151 a9) (ix 151 b9)) ρ ++ [ouL cs oc (vp_updL f (nI 0).toNatClampNeg (Int32.toInt64 (nI (vnN (μ 6) (va_up (μ 7) (ix 7 x) (ix 151 a9)) (va_up (μ 8) (ix 7 x) (ix 151 b9)) (ix 7 x)))))]) [1, 2, 3, 4, 5, 6, 7, 8, 9, 10, 11, 12, 13, 14, 15, 16, 17, 18, 19, 20, 21, 22, 23, 24, 0] (by decide) rfl
    refine lv_goto (tgt := 23) hx hb d_A_setLimits_12 (by decide) ?_
    refine lv_iconst (v := nI 0) hx hb d_A_setLimits_23 (by decide) ?_
    exact rr_mret ((muLim μ (ix 7 x) (ix 151 a9) (ix 151 b9)), ρ, (vp_updL f (nI 0).toNatClampNeg (Int32.toInt64 (nI (vnN (μ 6) (va_up (μ 7) (ix 7 x) (ix 151 a9)) (va_up (μ 8) (ix 7 x) (ix 151 b9)) (ix 7 x)))))) hx hb hr hlk hP hD hS ⟨(by rw [h0]), Or.inl ⟨h0, rfl, rfl, rr_upL f _⟩⟩ d_A_setLimits_24
theorem k_A_cut : rr_CW y_A_cut b_A_cut 5 [((0 : Nat), (10 : Nat), (13 : Nat), (19 : Nat))] 4 := ⟨q_418, q_0, q_419, by decide, by decide, by decide +kernel⟩
set_option maxHeartbeats 4000000 in
set_option maxRecDepth 100000 in
/-- the law's cut: what the class answers, or the code of what it threw -/
theorem c_A_cut (l : Launch) (D : va_G) (cs : rr_C3) (ad : Nat → Nat) (oc : Nat) (μ ρ : NS) (f : Nat → Int64) (x : Int32) (k9 : Nat) (hM : IM μ) (hC : IC μ ρ) (hk9 : k9 ≤ 1) (hfl : l.stackTraces = false) (sz : Nat) : WX l y_A_cut b_A_cut 5 [((0 : Nat), (10 : Nat), (13 : Nat), (19 : Nat))] 7 104 D cs (cwL cs ad μ ρ ++ [ouL cs oc f]) sz [.ref (ad 0), .int x, .int (nI k9), .ref oc] (fun (r : Int32) (u : NS × NS × (Nat → Int64)) => r = nI (thTow x) ∧ ((thTow x = 0 ∧ u.1 = (muCut μ (ix 7 x) k9) ∧ u.2.1 = ρ ∧ u.2.2 0 = Int32.toInt64 (nI (ct (va_up (μ 9) (ix 7 x) k9) 7))) ∨ (¬ thTow x = 0 ∧ u = (μ, ρ, f)))) (fun u => cwL cs ad u.1 u.2.1 ++ [ouL cs oc u.2.2]) := by
  refine WX.of (by decide) (Nat.le_of_ble_eq_true rfl) ?_
  intro p e s m args below meth c A S hr hlk htab hK hY hX hZ hP hD hA hS ls hl
  obtain ⟨hx, hb, hml, hown, ht⟩ := id S
  have hl : lv_has ls 5 [(0, .ref (ad 0)), (1, .int x), (2, .int (nI k9)), (3, .ref oc)] := hl
  have htab : c.exceptionTable.toList = [⟨0, 10, 13, 19⟩] := htab
  refine lv_aload_n hx hb d_A_cut_0 rfl (lv_at hl 3 rfl) ?_
  refine lv_iconst (v := nI 0) hx hb d_A_cut_1 (by decide) ?_
  refine lv_aload_n hx hb d_A_cut_2 rfl (lv_at hl 0 rfl) ?_
  refine lv_iload_n hx hb d_A_cut_3 rfl (lv_at hl 1 rfl) ?_
  refine lv_iload_n hx hb d_A_cut_4 rfl (lv_at hl 2 rfl) ?_
  refine rr_xV (As := [.int x, .int (nI k9)]) (rest := [.int (nI 0), .ref oc]) (idx := 37) (q0 := 0) (ci := 5) (wr := [ouL cs oc f]) S hK hY hZ hP hD hS hA (c_V_cut l D cs ad μ ρ x k9 hM hC hk9 hfl s.heap.size) k_V_cut [0, 1, 2, 3, 4, 5, 6, 7, 8, 9, 10, 11, 12, 13, 14, 15, 16, 17, 18, 19, 20, 21, 22, 23] [24] rfl (by decide) rfl (by decide) (by decide) rfl rfl rfl q_420 ⟨Nat.le_of_ble_eq_true rfl, Nat.le_of_ble_eq_true rfl⟩ ⟨Nat.le_of_ble_eq_true rfl, Nat.le_of_ble_eq_true rfl⟩ hl (Nat.le_of_ble_eq_true rfl) rfl d_A_cut_5 (fun E ce q9 H locs hE hP hD hS g1 g2 g3 => ?_) (fun r u H locs hp hP hD hS => ?_)
  · rcases hE with ⟨rfl, h1⟩
    · have hP := hP.sub (ws' := cwL cs ad μ ρ ++ [ouL cs oc f]) [1, 2, 3, 4, 5, 6, 7, 8, 9, 10, 11, 12, 13, 14, 15, 16, 17, 18, 19, 20, 21, 22, 23, 24, 0] rfl
      have hD := hD.sub (ws' := cwL cs ad μ ρ ++ [ouL cs oc f]) [1, 2, 3, 4, 5, 6, 7, 8, 9, 10, 11, 12, 13, 14, 15, 16, 17, 18, 19, 20, 21, 22, 23, 24, 0] (by decide) rfl
      refine rr_catch1 S hY (by decide) htab rfl (by decide) q_330 g1 g2 g3 ?_
      refine lv_astore (lv' := [(4, .ref q9), (0, .ref (ad 0)), (1, .int x), (2, .int (nI k9)), (3, .ref oc)]) hx hb d_A_cut_13 hl (by decide) rfl (fun ls hl => ?_)
      refine lv_iconst (v := nI 1) hx hb d_A_cut_15 (by decide) ?_
      exact rr_mret (μ, ρ, f) hx hb hr hlk hP hD hS ⟨(by rw [h1]), Or.inr ⟨(by omega), rfl⟩⟩ d_A_cut_16
  · obtain ⟨rfl, h0⟩ := hp
    refine lv_i2l (v := Int32.toInt64 (nI (ct (va_up (μ 9) (ix 7 x) k9) 7))) hx hb d_A_cut_8 rfl ?_
    refine va_last (f := f) hx hb hK.1 hP hD hS 0 2 rfl rfl (vp_in_nI (by decide) (by decide)) d_A_cut_9 (fun H locs hP hD hS => ?_)
    have hP := hP.sub (ws' := cwL cs ad (muCut μ (ix 7 x) k9) ρ ++ [ouL cs oc (vp_updL f (nI 0).toNatClampNeg (Int32.toInt64 (nI (ct (va_up (μ 9) (ix 7 x) k9) 7))))]) [1, 2, 3, 4, 5, 6, 7, 8, 9, 10, 11, 12, 13, 14, 15, 16, 17, 18, 19, 20, 21, 22, 23, 24, 0] rfl
    have hD := hD.sub (ws' := cwL cs ad (muCut μ (ix 7 x) k9) ρ ++ [ouL cs oc (vp_updL f (nI 0).toNatClampNeg (Int32.toInt64 (nI (ct (va_up (μ 9) (ix 7 x) k9) 7))))]) [1, 2, 3, 4, 5, 6, 7, 8, 9, 10, 11, 12, 13, 14, 15, 16, 17, 18, 19, 20, 21, 22, 23, 24, 0] (by decide) rfl
    refine lv_goto (tgt := 17) hx hb d_A_cut_10 (by decide) ?_
    refine lv_iconst (v := nI 0) hx hb d_A_cut_17 (by decide) ?_
    exact rr_mret ((muCut μ (ix 7 x) k9), ρ, (vp_updL f (nI 0).toNatClampNeg (Int32.toInt64 (nI (ct (va_up (μ 9) (ix 7 x) k9) 7))))) hx hb hr hlk hP hD hS ⟨(by rw [h0]), Or.inl ⟨h0, rfl, rfl, rr_upL f _⟩⟩ d_A_cut_18
theorem k_A_vote : rr_CW y_A_vote b_A_vote 4 [((0 : Nat), (9 : Nat), (12 : Nat), (19 : Nat))] 3 := ⟨q_429, q_0, q_430, by decide, by decide, by decide +kernel⟩
set_option maxHeartbeats 4000000 in
set_option maxRecDepth 100000 in
/-- the law's vote: what the class answers, or the code of what it threw -/
theorem c_A_vote (l : Launch) (D : va_G) (cs : rr_C3) (ad : Nat → Nat) (oc : Nat) (μ ρ : NS) (f : Nat → Int64) (x : Int32) (hM : IM μ) (hC : IC μ ρ) (hfl : l.stackTraces = false) (sz : Nat) : WX l y_A_vote b_A_vote 4 [((0 : Nat), (9 : Nat), (12 : Nat), (19 : Nat))] 7 103 D cs (cwL cs ad μ ρ ++ [ouL cs oc f]) sz [.ref (ad 0), .int x, .ref oc] (fun (r : Int32) (u : NS × NS × (Nat → Int64)) => r = nI (thTow x) ∧ ((thTow x = 0 ∧ u.1 = μ ∧ u.2.1 = ρ ∧ u.2.2 0 = Int32.toInt64 (mI (vlN μ (ix 7 x)))) ∨ (¬ thTow x = 0 ∧ u = (μ, ρ, f)))) (fun u => cwL cs ad u.1 u.2.1 ++ [ouL cs oc u.2.2]) := by
  refine WX.of (by decide) (Nat.le_of_ble_eq_true rfl) ?_
  intro p e s m args below meth c A S hr hlk htab hK hY hX hZ hP hD hA hS ls hl
  obtain ⟨hx, hb, hml, hown, ht⟩ := id S
  have hl : lv_has ls 4 [(0, .ref (ad 0)), (1, .int x), (2, .ref oc)] := hl
  have htab : c.exceptionTable.toList = [⟨0, 9, 12, 19⟩] := htab
  refine lv_aload_n hx hb d_A_vote_0 rfl (lv_at hl 2 rfl) ?_
  refine lv_iconst (v := nI 0) hx hb d_A_vote_1 (by decide) ?_
  refine lv_aload_n hx hb d_A_vote_2 rfl (lv_at hl 0 rfl) ?_
  refine lv_iload_n hx hb d_A_vote_3 rfl (lv_at hl 1 rfl) ?_
  refine rr_xV (As := [.int x]) (rest := [.int (nI 0), .ref oc]) (idx := 41) (q0 := 0) (ci := 5) (wr := [ouL cs oc f]) S hK hY hZ hP hD hS hA (c_V_vote l D cs ad μ ρ x hM hC  hfl s.heap.size) k_V_vote [0, 1, 2, 3, 4, 5, 6, 7, 8, 9, 10, 11, 12, 13, 14, 15, 16, 17, 18, 19, 20, 21, 22, 23] [24] rfl (by decide) rfl (by decide) (by decide) rfl rfl rfl q_431 ⟨Nat.le_of_ble_eq_true rfl, Nat.le_of_ble_eq_true rfl⟩ ⟨Nat.le_of_ble_eq_true rfl, Nat.le_of_ble_eq_true rfl⟩ hl (Nat.le_of_ble_eq_true rfl) rfl d_A_vote_4 (fun E ce q9 H locs hE hP hD hS g1 g2 g3 => ?_) (fun r u H locs hp hP hD hS => ?_)
  · rcases hE with ⟨rfl, h1⟩
    · have hP := hP.sub (ws' := cwL cs ad μ ρ ++ [ouL cs oc f]) [1, 2, 3, 4, 5, 6, 7, 8, 9, 10, 11, 12, 13, 14, 15, 16, 17, 18, 19, 20, 21, 22, 23, 24, 0] rfl
      have hD := hD.sub (ws' := cwL cs ad μ ρ ++ [ouL cs oc f]) [1, 2, 3, 4, 5, 6, 7, 8, 9, 10, 11, 12, 13, 14, 15, 16, 17, 18, 19, 20, 21, 22, 23, 24, 0] (by decide) rfl
      refine rr_catch1 S hY (by decide) htab rfl (by decide) q_330 g1 g2 g3 ?_
      refine lv_astore_n (lv' := [(3, .ref q9), (0, .ref (ad 0)), (1, .int x), (2, .ref oc)]) hx hb d_A_vote_12 rfl hl (by decide) rfl (fun ls hl => ?_)
      refine lv_iconst (v := nI 1) hx hb d_A_vote_13 (by decide) ?_
      exact rr_mret (μ, ρ, f) hx hb hr hlk hP hD hS ⟨(by rw [h1]), Or.inr ⟨(by omega), rfl⟩⟩ d_A_vote_14
  · obtain ⟨rfl, h0⟩ := hp
    refine lv_i2l (v := Int32.toInt64 (mI (vlN μ (ix 7 x)))) hx hb d_A_vote_7 rfl ?_
    refine va_last (f := f) hx hb hK.1 hP hD hS 0 2 rfl rfl (vp_in_nI (by decide) (by decide)) d_A_vote_8 (fun H locs hP hD hS => ?_)
    have hP := hP.sub (ws' := cwL cs ad μ ρ ++ [ouL cs oc (vp_updL f (nI 0).toNatClampNeg (Int32.toInt64 (mI (vlN μ (ix 7 x)))))]) [1, 2, 3, 4, 5, 6, 7, 8, 9, 10, 11, 12, 13, 14, 15, 16, 17, 18, 19, 20, 21, 22, 23, 24, 0] rfl
    have hD := hD.sub (ws' := cwL cs ad μ ρ ++ [ouL cs oc (vp_updL f (nI 0).toNatClampNeg (Int32.toInt64 (mI (vlN μ (ix 7 x)))))]) [1, 2, 3, 4, 5, 6, 7, 8, 9, 10, 11, 12, 13, 14, 15, 16, 17, 18, 19, 20, 21, 22, 23, 24, 0] (by decide) rfl
    refine lv_goto (tgt := 15) hx hb d_A_vote_9 (by decide) ?_
    refine lv_iconst (v := nI 0) hx hb d_A_vote_15 (by decide) ?_
    exact rr_mret (μ, ρ, (vp_updL f (nI 0).toNatClampNeg (Int32.toInt64 (mI (vlN μ (ix 7 x)))))) hx hb hr hlk hP hD hS ⟨(by rw [h0]), Or.inl ⟨h0, rfl, rfl, rr_upL f _⟩⟩ d_A_vote_16
theorem k_A_voteTime : rr_CW y_A_voteTime b_A_voteTime 4 [((0 : Nat), (9 : Nat), (12 : Nat), (19 : Nat))] 3 := ⟨q_436, q_0, q_437, by decide, by decide, by decide +kernel⟩
set_option maxHeartbeats 4000000 in
set_option maxRecDepth 100000 in
/-- the law's voteTime: what the class answers, or the code of what it threw -/
theorem c_A_voteTime (l : Launch) (D : va_G) (cs : rr_C3) (ad : Nat → Nat) (oc : Nat) (μ ρ : NS) (f : Nat → Int64) (x : Int32) (hM : IM μ) (hC : IC μ ρ) (hfl : l.stackTraces = false) (sz : Nat) : WX l y_A_voteTime b_A_voteTime 4 [((0 : Nat), (9 : Nat), (12 : Nat), (19 : Nat))] 7 103 D cs (cwL cs ad μ ρ ++ [ouL cs oc f]) sz [.ref (ad 0), .int x, .ref oc] (fun (r : Int32) (u : NS × NS × (Nat → Int64)) => r = nI (thTow x) ∧ ((thTow x = 0 ∧ u.1 = μ ∧ u.2.1 = ρ ∧ u.2.2 0 = Int32.toInt64 (zI (μ 12 (ix 7 x)))) ∨ (¬ thTow x = 0 ∧ u = (μ, ρ, f)))) (fun u => cwL cs ad u.1 u.2.1 ++ [ouL cs oc u.2.2]) := by
  refine WX.of (by decide) (Nat.le_of_ble_eq_true rfl) ?_
  intro p e s m args below meth c A S hr hlk htab hK hY hX hZ hP hD hA hS ls hl
  obtain ⟨hx, hb, hml, hown, ht⟩ := id S
  have hl : lv_has ls 4 [(0, .ref (ad 0)), (1, .int x), (2, .ref oc)] := hl
  have htab : c.exceptionTable.toList = [⟨0, 9, 12, 19⟩] := htab
  refine lv_aload_n hx hb d_A_voteTime_0 rfl (lv_at hl 2 rfl) ?_
  refine lv_iconst (v := nI 0) hx hb d_A_voteTime_1 (by decide) ?_
  refine lv_aload_n hx hb d_A_voteTime_2 rfl (lv_at hl 0 rfl) ?_
  refine lv_iload_n hx hb d_A_voteTime_3 rfl (lv_at hl 1 rfl) ?_
  refine rr_xV (As := [.int x]) (rest := [.int (nI 0), .ref oc]) (idx := 44) (q0 := 0) (ci := 5) (wr := [ouL cs oc f]) S hK hY hZ hP hD hS hA (c_V_voteTime l D cs ad μ ρ x hM hC  hfl s.heap.size) k_V_voteTime [0, 1, 2, 3, 4, 5, 6, 7, 8, 9, 10, 11, 12, 13, 14, 15, 16, 17, 18, 19, 20, 21, 22, 23] [24] rfl (by decide) rfl (by decide) (by decide) rfl rfl rfl q_438 ⟨Nat.le_of_ble_eq_true rfl, Nat.le_of_ble_eq_true rfl⟩ ⟨Nat.le_of_ble_eq_true rfl, Nat.le_of_ble_eq_true rfl⟩ hl (Nat.le_of_ble_eq_true rfl) rfl d_A_voteTime_4 (fun E ce q9 H locs hE hP hD hS g1 g2 g3 => ?_) (fun r u H locs hp hP hD hS => ?_)
  · rcases hE with ⟨rfl, h1⟩
    · have hP := hP.sub (ws' := cwL cs ad μ ρ ++ [ouL cs oc f]) [1, 2, 3, 4, 5, 6, 7, 8, 9, 10, 11, 12, 13, 14, 15, 16, 17, 18, 19, 20, 21, 22, 23, 24, 0] rfl
      have hD := hD.sub (ws' := cwL cs ad μ ρ ++ [ouL cs oc f]) [1, 2, 3, 4, 5, 6, 7, 8, 9, 10, 11, 12, 13, 14, 15, 16, 17, 18, 19, 20, 21, 22, 23, 24, 0] (by decide) rfl
      refine rr_catch1 S hY (by decide) htab rfl (by decide) q_330 g1 g2 g3 ?_
      refine lv_astore_n (lv' := [(3, .ref q9), (0, .ref (ad 0)), (1, .int x), (2, .ref oc)]) hx hb d_A_voteTime_12 rfl hl (by decide) rfl (fun ls hl => ?_)
      refine lv_iconst (v := nI 1) hx hb d_A_voteTime_13 (by decide) ?_
      exact rr_mret (μ, ρ, f) hx hb hr hlk hP hD hS ⟨(by rw [h1]), Or.inr ⟨(by omega), rfl⟩⟩ d_A_voteTime_14
  · obtain ⟨rfl, h0⟩ := hp
    refine lv_i2l (v := Int32.toInt64 (zI (μ 12 (ix 7 x)))) hx hb d_A_voteTime_7 rfl ?_
    refine va_last (f := f) hx hb hK.1 hP hD hS 0 2 rfl rfl (vp_in_nI (by decide) (by decide)) d_A_voteTime_8 (fun H locs hP hD hS => ?_)
    have hP := hP.sub (ws' := cwL cs ad μ ρ ++ [ouL cs oc (vp_updL f (nI 0).toNatClampNeg (Int32.toInt64 (zI (μ 12 (ix 7 x)))))]) [1, 2, 3, 4, 5, 6, 7, 8, 9, 10, 11, 12, 13, 14, 15, 16, 17, 18, 19, 20, 21, 22, 23, 24, 0] rfl
    have hD := hD.sub (ws' := cwL cs ad μ ρ ++ [ouL cs oc (vp_updL f (nI 0).toNatClampNeg (Int32.toInt64 (zI (μ 12 (ix 7 x)))))]) [1, 2, 3, 4, 5, 6, 7, 8, 9, 10, 11, 12, 13, 14, 15, 16, 17, 18, 19, 20, 21, 22, 23, 24, 0] (by decide) rfl
    refine lv_goto (tgt := 15) hx hb d_A_voteTime_9 (by decide) ?_
    refine lv_iconst (v := nI 0) hx hb d_A_voteTime_15 (by decide) ?_
    exact rr_mret (μ, ρ, (vp_updL f (nI 0).toNatClampNeg (Int32.toInt64 (zI (μ 12 (ix 7 x)))))) hx hb hr hlk hP hD hS ⟨(by rw [h0]), Or.inl ⟨h0, rfl, rfl, rr_upL f _⟩⟩ d_A_voteTime_16
theorem k_A_pass : rr_CW y_A_pass b_A_pass 4 [((0 : Nat), (9 : Nat), (12 : Nat), (31 : Nat)), ((0 : Nat), (9 : Nat), (15 : Nat), (13 : Nat))] 3 := ⟨q_443, q_0, q_444, by decide, by decide, by decide +kernel⟩
set_option maxHeartbeats 4000000 in
set_option maxRecDepth 100000 in
/-- the law's pass: what the class answers, or the code of what it threw -/
theorem c_A_pass (l : Launch) (D : va_G) (cs : rr_C3) (ad : Nat → Nat) (oc : Nat) (μ ρ : NS) (f : Nat → Int64) (x : Int32) (hM : IM μ) (hC : IC μ ρ) (hfl : l.stackTraces = false) (sz : Nat) : WX l y_A_pass b_A_pass 4 [((0 : Nat), (9 : Nat), (12 : Nat), (31 : Nat)), ((0 : Nat), (9 : Nat), (15 : Nat), (13 : Nat))] 7 135 D cs (cwL cs ad μ ρ ++ [ouL cs oc f]) sz [.ref (ad 0), .int x, .ref oc] (fun (r : Int32) (u : NS × NS × (Nat → Int64)) => r = nI (thPas μ x) ∧ ((thPas μ x = 0 ∧ u.1 = (itM μ (ix 61 x)) ∧ u.2.1 = (itR μ ρ (ix 61 x)) ∧ u.2.2 0 = Int32.toInt64 (nI (itM μ (ix 61 x) 1 0 - μ 1 0))) ∨ (¬ thPas μ x = 0 ∧ u = (μ, ρ, f)))) (fun u => cwL cs ad u.1 u.2.1 ++ [ouL cs oc u.2.2]) := by
  refine WX.of (by decide) (Nat.le_of_ble_eq_true rfl) ?_
  intro p e s m args below meth c A S hr hlk htab hK hY hX hZ hP hD hA hS ls hl
  obtain ⟨hx, hb, hml, hown, ht⟩ := id S
  have hl : lv_has ls 4 [(0, .ref (ad 0)), (1, .int x), (2, .ref oc)] := hl
  have htab : c.exceptionTable.toList = [⟨0, 9, 12, 31⟩, ⟨0, 9, 15, 13⟩] := htab
  refine lv_aload_n hx hb d_A_pass_0 rfl (lv_at hl 2 rfl) ?_
  refine lv_iconst (v := nI 0) hx hb d_A_pass_1 (by decide) ?_
  refine lv_aload_n hx hb d_A_pass_2 rfl (lv_at hl 0 rfl) ?_
  refine lv_iload_n hx hb d_A_pass_3 rfl (lv_at hl 1 rfl) ?_
  refine rr_xV (As := [.int x]) (rest := [.int (nI 0), .ref oc]) (idx := 47) (q0 := 0) (ci := 5) (wr := [ouL cs oc f]) S hK hY hZ hP hD hS hA (c_V_pass l D cs ad μ ρ x hM hC  hfl s.heap.size) k_V_pass [0, 1, 2, 3, 4, 5, 6, 7, 8, 9, 10, 11, 12, 13, 14, 15, 16, 17, 18, 19, 20, 21, 22, 23] [24] rfl (by decide) rfl (by decide) (by decide) rfl rfl rfl q_445 ⟨Nat.le_of_ble_eq_true rfl, Nat.le_of_ble_eq_true rfl⟩ ⟨Nat.le_of_ble_eq_true rfl, Nat.le_of_ble_eq_true rfl⟩ hl (Nat.le_of_ble_eq_true rfl) rfl d_A_pass_4 (fun E ce q9 H locs hE hP hD hS g1 g2 g3 => ?_) (fun r u H locs hp hP hD hS => ?_)
  · rcases hE with ⟨rfl, h1⟩ | ⟨rfl, h1⟩
    · have hP := hP.sub (ws' := cwL cs ad μ ρ ++ [ouL cs oc f]) [1, 2, 3, 4, 5, 6, 7, 8, 9, 10, 11, 12, 13, 14, 15, 16, 17, 18, 19, 20, 21, 22, 23, 24, 0] rfl
      have hD := hD.sub (ws' := cwL cs ad μ ρ ++ [ouL cs oc f]) [1, 2, 3, 4, 5, 6, 7, 8, 9, 10, 11, 12, 13, 14, 15, 16, 17, 18, 19, 20, 21, 22, 23, 24, 0] (by decide) rfl
      refine rr_catch1 S hY (by decide) htab rfl (by decide) q_380 g1 g2 g3 ?_
      refine lv_astore_n (lv' := [(3, .ref q9), (0, .ref (ad 0)), (1, .int x), (2, .ref oc)]) hx hb d_A_pass_12 rfl hl (by decide) rfl (fun ls hl => ?_)
      refine lv_iconst (v := nI 1) hx hb d_A_pass_13 (by decide) ?_
      exact rr_mret (μ, ρ, f) hx hb hr hlk hP hD hS ⟨(by rw [h1]), Or.inr ⟨(by omega), rfl⟩⟩ d_A_pass_14
    · have hP := hP.sub (ws' := cwL cs ad μ ρ ++ [ouL cs oc f]) [1, 2, 3, 4, 5, 6, 7, 8, 9, 10, 11, 12, 13, 14, 15, 16, 17, 18, 19, 20, 21, 22, 23, 24, 0] rfl
      have hD := hD.sub (ws' := cwL cs ad μ ρ ++ [ouL cs oc f]) [1, 2, 3, 4, 5, 6, 7, 8, 9, 10, 11, 12, 13, 14, 15, 16, 17, 18, 19, 20, 21, 22, 23, 24, 0] (by decide) rfl
      refine rr_catch2 (E1 := eA) S hY (by decide) hX.2.2 htab (by decide) q_380 rfl (by decide) q_246 g1 g2 g3 ?_
      refine lv_astore_n (lv' := [(3, .ref q9), (0, .ref (ad 0)), (1, .int x), (2, .ref oc)]) hx hb d_A_pass_15 rfl hl (by decide) rfl (fun ls hl => ?_)
      refine lv_iconst (v := nI 2) hx hb d_A_pass_16 (by decide) ?_
      exact rr_mret (μ, ρ, f) hx hb hr hlk hP hD hS ⟨(by rw [h1]), Or.inr ⟨(by omega), rfl⟩⟩ d_A_pass_17
  · obtain ⟨rfl, h0⟩ := hp
    refine lv_i2l (v := Int32.toInt64 (nI (itM μ (ix 61 x) 1 0 - μ 1 0))) hx hb d_A_pass_7 rfl ?_
    refine va_last (f := f) hx hb hK.1 hP hD hS 0 2 rfl rfl (vp_in_nI (by decide) (by decide)) d_A_pass_8 (fun H locs hP hD hS => ?_)
    have hP := hP.sub (ws' := cwL cs ad (itM μ (ix 61 x)) (itR μ ρ (ix 61 x)) ++ [ouL cs oc (vp_updL f (nI 0).toNatClampNeg (Int32.toInt64 (nI (itM μ (ix 61 x) 1 0 - μ 1 0))))]) [1, 2, 3, 4, 5, 6, 7, 8, 9, 10, 11, 12, 13, 14, 15, 16, 17, 18, 19, 20, 21, 22, 23, 24, 0] rfl
    have hD := hD.sub (ws' := cwL cs ad (itM μ (ix 61 x)) (itR μ ρ (ix 61 x)) ++ [ouL cs oc (vp_updL f (nI 0).toNatClampNeg (Int32.toInt64 (nI (itM μ (ix 61 x) 1 0 - μ 1 0))))]) [1, 2, 3, 4, 5, 6, 7, 8, 9, 10, 11, 12, 13, 14, 15, 16, 17, 18, 19, 20, 21, 22, 23, 24, 0] (by decide) rfl
    refine lv_goto (tgt := 18) hx hb d_A_pass_9 (by decide) ?_
    refine lv_iconst (v := nI 0) hx hb d_A_pass_18 (by decide) ?_
    exact rr_mret ((itM μ (ix 61 x)), (itR μ ρ (ix 61 x)), (vp_updL f (nI 0).toNatClampNeg (Int32.toInt64 (nI (itM μ (ix 61 x) 1 0 - μ 1 0))))) hx hb hr hlk hP hD hS ⟨(by rw [h0]), Or.inl ⟨h0, rfl, rfl, rr_upL f _⟩⟩ d_A_pass_19
theorem k_A_decided : rr_CW y_A_decided b_A_decided 4 [((0 : Nat), (9 : Nat), (12 : Nat), (19 : Nat))] 3 := ⟨q_511, q_0, q_512, by decide, by decide, by decide +kernel⟩
set_option maxHeartbeats 4000000 in
set_option maxRecDepth 100000 in
/-- the law's decided: what the class answers, or the code of what it threw -/
theorem c_A_decided (l : Launch) (D : va_G) (cs : rr_C3) (ad : Nat → Nat) (oc : Nat) (μ ρ : NS) (f : Nat → Int64) (x : Int32) (hM : IM μ) (hC : IC μ ρ) (hfl : l.stackTraces = false) (sz : Nat) : WX l y_A_decided b_A_decided 4 [((0 : Nat), (9 : Nat), (12 : Nat), (19 : Nat))] 7 103 D cs (cwL cs ad μ ρ ++ [ouL cs oc f]) sz [.ref (ad 0), .int x, .ref oc] (fun (r : Int32) (u : NS × NS × (Nat → Int64)) => r = nI (thDec μ x) ∧ ((thDec μ x = 0 ∧ u.1 = μ ∧ u.2.1 = ρ ∧ u.2.2 0 = Int32.toInt64 (nI (μ 14 (ix 1001 x)))) ∨ (¬ thDec μ x = 0 ∧ u = (μ, ρ, f)))) (fun u => cwL cs ad u.1 u.2.1 ++ [ouL cs oc u.2.2]) := by
  refine WX.of (by decide) (Nat.le_of_ble_eq_true rfl) ?_
  intro p e s m args below meth c A S hr hlk htab hK hY hX hZ hP hD hA hS ls hl
  obtain ⟨hx, hb, hml, hown, ht⟩ := id S
  have hl : lv_has ls 4 [(0, .ref (ad 0)), (1, .int x), (2, .ref oc)] := hl
  have htab : c.exceptionTable.toList = [⟨0, 9, 12, 19⟩] := htab
  refine lv_aload_n hx hb d_A_decided_0 rfl (lv_at hl 2 rfl) ?_
  refine lv_iconst (v := nI 0) hx hb d_A_decided_1 (by decide) ?_
  refine lv_aload_n hx hb d_A_decided_2 rfl (lv_at hl 0 rfl) ?_
  refine lv_iload_n hx hb d_A_decided_3 rfl (lv_at hl 1 rfl) ?_
  refine rr_xV (As := [.int x]) (rest := [.int (nI 0), .ref oc]) (idx := 50) (q0 := 0) (ci := 5) (wr := [ouL cs oc f]) S hK hY hZ hP hD hS hA (c_V_decided l D cs ad μ ρ x hM hC  hfl s.heap.size) k_V_decided [0, 1, 2, 3, 4, 5, 6, 7, 8, 9, 10, 11, 12, 13, 14, 15, 16, 17, 18, 19, 20, 21, 22, 23] [24] rfl (by decide) rfl (by decide) (by decide) rfl rfl rfl q_513 ⟨Nat.le_of_ble_eq_true rfl, Nat.le_of_ble_eq_true rfl⟩ ⟨Nat.le_of_ble_eq_true rfl, Nat.le_of_ble_eq_true rfl⟩ hl (Nat.le_of_ble_eq_true rfl) rfl d_A_decided_4 (fun E ce q9 H locs hE hP hD hS g1 g2 g3 => ?_) (fun r u H locs hp hP hD hS => ?_)
  · rcases hE with ⟨rfl, h1⟩
    · have hP := hP.sub (ws' := cwL cs ad μ ρ ++ [ouL cs oc f]) [1, 2, 3, 4, 5, 6, 7, 8, 9, 10, 11, 12, 13, 14, 15, 16, 17, 18, 19, 20, 21, 22, 23, 24, 0] rfl
      have hD := hD.sub (ws' := cwL cs ad μ ρ ++ [ouL cs oc f]) [1, 2, 3, 4, 5, 6, 7, 8, 9, 10, 11, 12, 13, 14, 15, 16, 17, 18, 19, 20, 21, 22, 23, 24, 0] (by decide) rfl
      refine rr_catch1 S hY (by decide) htab rfl (by decide) q_330 g1 g2 g3 ?_
      refine lv_astore_n (lv' := [(3, .ref q9), (0, .ref (ad 0)), (1, .int x), (2, .ref oc)]) hx hb d_A_decided_12 rfl hl (by decide) rfl (fun ls hl => ?_)
      refine lv_iconst (v := nI 1) hx hb d_A_decided_13 (by decide) ?_
      exact rr_mret (μ, ρ, f) hx hb hr hlk hP hD hS ⟨(by rw [h1]), Or.inr ⟨(by omega), rfl⟩⟩ d_A_decided_14
  · obtain ⟨rfl, h0⟩ := hp
    refine lv_i2l (v := Int32.toInt64 (nI (μ 14 (ix 1001 x)))) hx hb d_A_decided_7 rfl ?_
    refine va_last (f := f) hx hb hK.1 hP hD hS 0 2 rfl rfl (vp_in_nI (by decide) (by decide)) d_A_decided_8 (fun H locs hP hD hS => ?_)
    have hP := hP.sub (ws' := cwL cs ad μ ρ ++ [ouL cs oc (vp_updL f (nI 0).toNatClampNeg (Int32.toInt64 (nI (μ 14 (ix 1001 x)))))]) [1, 2, 3, 4, 5, 6, 7, 8, 9, 10, 11, 12, 13, 14, 15, 16, 17, 18, 19, 20, 21, 22, 23, 24, 0] rfl
    have hD := hD.sub (ws' := cwL cs ad μ ρ ++ [ouL cs oc (vp_updL f (nI 0).toNatClampNeg (Int32.toInt64 (nI (μ 14 (ix 1001 x)))))]) [1, 2, 3, 4, 5, 6, 7, 8, 9, 10, 11, 12, 13, 14, 15, 16, 17, 18, 19, 20, 21, 22, 23, 24, 0] (by decide) rfl
    refine lv_goto (tgt := 15) hx hb d_A_decided_9 (by decide) ?_
    refine lv_iconst (v := nI 0) hx hb d_A_decided_15 (by decide) ?_
    exact rr_mret (μ, ρ, (vp_updL f (nI 0).toNatClampNeg (Int32.toInt64 (nI (μ 14 (ix 1001 x)))))) hx hb hr hlk hP hD hS ⟨(by rw [h0]), Or.inl ⟨h0, rfl, rfl, rr_upL f _⟩⟩ d_A_decided_16
theorem k_A_minutes : rr_CW y_A_minutes b_A_minutes 4 [((0 : Nat), (9 : Nat), (12 : Nat), (31 : Nat))] 3 := ⟨q_519, q_0, q_520, by decide, by decide, by decide +kernel⟩
set_option maxHeartbeats 4000000 in
set_option maxRecDepth 100000 in
/-- the law's minutes: what the class answers, or the code of what it threw -/
theorem c_A_minutes (l : Launch) (D : va_G) (cs : rr_C3) (ad : Nat → Nat) (oc : Nat) (μ ρ : NS) (f : Nat → Int64) (x : Int32) (hM : IM μ) (hC : IC μ ρ) (hfl : l.stackTraces = false) (sz : Nat) : WX l y_A_minutes b_A_minutes 4 [((0 : Nat), (9 : Nat), (12 : Nat), (31 : Nat))] 7 105 D cs (cwL cs ad μ ρ ++ [ouL cs oc f]) sz [.ref (ad 0), .int x, .ref oc] (fun (r : Int32) (u : NS × NS × (Nat → Int64)) => r = nI (thMin x) ∧ ((thMin x = 0 ∧ u.1 = μ ∧ u.2.1 = ρ ∧ u.2.2 0 = Int32.toInt64 (nI (mnN (μ 14) (ix 3 x) (μ 0 0)))) ∨ (¬ thMin x = 0 ∧ u = (μ, ρ, f)))) (fun u => cwL cs ad u.1 u.2.1 ++ [ouL cs oc u.2.2]) := by
  refine WX.of (by decide) (Nat.le_of_ble_eq_true rfl) ?_
  intro p e s m args below meth c A S hr hlk htab hK hY hX hZ hP hD hA hS ls hl
  obtain ⟨hx, hb, hml, hown, ht⟩ := id S
  have hl : lv_has ls 4 [(0, .ref (ad 0)), (1, .int x), (2, .ref oc)] := hl
  have htab : c.exceptionTable.toList = [⟨0, 9, 12, 31⟩] := htab
  refine lv_aload_n hx hb d_A_minutes_0 rfl (lv_at hl 2 rfl) ?_
  refine lv_iconst (v := nI 0) hx hb d_A_minutes_1 (by decide) ?_
  refine lv_aload_n hx hb d_A_minutes_2 rfl (lv_at hl 0 rfl) ?_
  refine lv_iload_n hx hb d_A_minutes_3 rfl (lv_at hl 1 rfl) ?_
  refine rr_xV (As := [.int x]) (rest := [.int (nI 0), .ref oc]) (idx := 53) (q0 := 0) (ci := 5) (wr := [ouL cs oc f]) S hK hY hZ hP hD hS hA (c_V_minutes l D cs ad μ ρ x hM hC  hfl s.heap.size) k_V_minutes [0, 1, 2, 3, 4, 5, 6, 7, 8, 9, 10, 11, 12, 13, 14, 15, 16, 17, 18, 19, 20, 21, 22, 23] [24] rfl (by decide) rfl (by decide) (by decide) rfl rfl rfl q_521 ⟨Nat.le_of_ble_eq_true rfl, Nat.le_of_ble_eq_true rfl⟩ ⟨Nat.le_of_ble_eq_true rfl, Nat.le_of_ble_eq_true rfl⟩ hl (Nat.le_of_ble_eq_true rfl) rfl d_A_minutes_4 (fun E ce q9 H locs hE hP hD hS g1 g2 g3 => ?_) (fun r u H locs hp hP hD hS => ?_)
  · rcases hE with ⟨rfl, h1⟩
    · have hP := hP.sub (ws' := cwL cs ad μ ρ ++ [ouL cs oc f]) [1, 2, 3, 4, 5, 6, 7, 8, 9, 10, 11, 12, 13, 14, 15, 16, 17, 18, 19, 20, 21, 22, 23, 24, 0] rfl
      have hD := hD.sub (ws' := cwL cs ad μ ρ ++ [ouL cs oc f]) [1, 2, 3, 4, 5, 6, 7, 8, 9, 10, 11, 12, 13, 14, 15, 16, 17, 18, 19, 20, 21, 22, 23, 24, 0] (by decide) rfl
      refine rr_catch1 S hY (by decide) htab rfl (by decide) q_380 g1 g2 g3 ?_
      refine lv_astore_n (lv' := [(3, .ref q9), (0, .ref (ad 0)), (1, .int x), (2, .ref oc)]) hx hb d_A_minutes_12 rfl hl (by decide) rfl (fun ls hl => ?_)
      refine lv_iconst (v := nI 1) hx hb d_A_minutes_13 (by decide) ?_
      exact rr_mret (μ, ρ, f) hx hb hr hlk hP hD hS ⟨(by rw [h1]), Or.inr ⟨(by omega), rfl⟩⟩ d_A_minutes_14
  · obtain ⟨rfl, h0⟩ := hp
    refine lv_i2l (v := Int32.toInt64 (nI (mnN (μ 14) (ix 3 x) (μ 0 0)))) hx hb d_A_minutes_7 rfl ?_
    refine va_last (f := f) hx hb hK.1 hP hD hS 0 2 rfl rfl (vp_in_nI (by decide) (by decide)) d_A_minutes_8 (fun H locs hP hD hS => ?_)
    have hP := hP.sub (ws' := cwL cs ad μ ρ ++ [ouL cs oc (vp_updL f (nI 0).toNatClampNeg (Int32.toInt64 (nI (mnN (μ 14) (ix 3 x) (μ 0 0)))))]) [1, 2, 3, 4, 5, 6, 7, 8, 9, 10, 11, 12, 13, 14, 15, 16, 17, 18, 19, 20, 21, 22, 23, 24, 0] rfl
    have hD := hD.sub (ws' := cwL cs ad μ ρ ++ [ouL cs oc (vp_updL f (nI 0).toNatClampNeg (Int32.toInt64 (nI (mnN (μ 14) (ix 3 x) (μ 0 0)))))]) [1, 2, 3, 4, 5, 6, 7, 8, 9, 10, 11, 12, 13, 14, 15, 16, 17, 18, 19, 20, 21, 22, 23, 24, 0] (by decide) rfl
    refine lv_goto (tgt := 15) hx hb d_A_minutes_9 (by decide) ?_
    refine lv_iconst (v := nI 0) hx hb d_A_minutes_15 (by decide) ?_
    exact rr_mret (μ, ρ, (vp_updL f (nI 0).toNatClampNeg (Int32.toInt64 (nI (mnN (μ 14) (ix 3 x) (μ 0 0)))))) hx hb hr hlk hP hD hS ⟨(by rw [h0]), Or.inl ⟨h0, rfl, rfl, rr_upL f _⟩⟩ d_A_minutes_16
theorem k_A_board : rr_CW y_A_board b_A_board 6 [((0 : Nat), (12 : Nat), (15 : Nat), (19 : Nat)), ((0 : Nat), (12 : Nat), (19 : Nat), (31 : Nat)), ((0 : Nat), (12 : Nat), (23 : Nat), (13 : Nat))] 5 := ⟨q_527, q_0, q_528, by decide, by decide, by decide +kernel⟩
set_option maxHeartbeats 4000000 in
set_option maxRecDepth 100000 in
/-- the law's board: what the class answers, or the code of what it threw -/
theorem c_A_board (l : Launch) (D : va_G) (cs : rr_C3) (ad : Nat → Nat) (oc : Nat) (μ ρ : NS) (f : Nat → Int64) (x : Int32) (p9 : Int32) (f9 : Int32) (hM : IM μ) (hC : IC μ ρ) (hfl : l.stackTraces = false) (sz : Nat) : WX l y_A_board b_A_board 6 [((0 : Nat), (12 : Nat), (15 : Nat), (19 : Nat)), ((0 : Nat), (12 : Nat), (19 : Nat), (31 : Nat)), ((0 : Nat), (12 : Nat), (23 : Nat), (13 : Nat))] 7 107 D cs (cwL cs ad μ ρ ++ [ouL cs oc f]) sz [.ref (ad 0), .int x, .int p9, .int f9, .ref oc] (fun (r : Int32) (u : NS × NS × (Nat → Int64)) => r = nI (thBoa μ x p9 f9) ∧ ((thBoa μ x p9 f9 = 0 ∧ u.1 = (muBoa μ (ix 16 x) (ix 9 p9) (ix 1001 f9)) ∧ u.2.1 = (roBoa μ ρ) ∧ u.2.2 0 = Int32.toInt64 (nI (μ 15 0))) ∨ (¬ thBoa μ x p9 f9 = 0 ∧ u = (μ, ρ, f)))) (fun u => cwL cs ad u.1 u.2.1 ++ [ouL cs oc u.2.2]) := by
  refine WX.of (by decide) (Nat.le_of_ble_eq_true rfl) ?_
  intro p e s m args below meth c A S hr hlk htab hK hY hX hZ hP hD hA hS ls hl
  obtain ⟨hx, hb, hml, hown, ht⟩ := id S
  have hl : lv_has ls 6 [(0, .ref (ad 0)), (1, .int x), (2, .int p9), (3, .int f9), (4, .ref oc)] := hl
  have htab : c.exceptionTable.toList = [⟨0, 12, 15, 19⟩, ⟨0, 12, 19, 31⟩, ⟨0, 12, 23, 13⟩] := htab
  refine lv_aload hx hb d_A_board_0 (lv_at hl 4 rfl) ?_
  refine lv_iconst (v := nI 0) hx hb d_A_board_2 (by decide) ?_
  refine lv_aload_n hx hb d_A_board_3 rfl (lv_at hl 0 rfl) ?_
  refine lv_iload_n hx hb d_A_board_4 rfl (lv_at hl 1 rfl) ?_
  refine lv_iload_n hx hb d_A_board_5 rfl (lv_at hl 2 rfl) ?_
  refine lv_iload_n hx hb d_A_board_6 rfl (lv_at hl 3 rfl) ?_
  refine rr_xV (As := [.int x, .int p9, .int f9]) (rest := [.int (nI 0), .ref oc]) (idx := 56) (q0 := 0) (ci := 5) (wr := [ouL cs oc f]) S hK hY hZ hP hD hS hA (c_V_board l D cs ad μ ρ x p9 f9 hM hC  hfl s.heap.size) k_V_board [0, 1, 2, 3, 4, 5, 6, 7, 8, 9, 10, 11, 12, 13, 14, 15, 16, 17, 18, 19, 20, 21, 22, 23] [24] rfl (by decide) rfl (by decide) (by decide) rfl rfl rfl q_529 ⟨Nat.le_of_ble_eq_true rfl, Nat.le_of_ble_eq_true rfl⟩ ⟨Nat.le_of_ble_eq_true rfl, Nat.le_of_ble_eq_true rfl⟩ hl (Nat.le_of_ble_eq_true rfl) rfl d_A_board_7 (fun E ce q9 H locs hE hP hD hS g1 g2 g3 => ?_) (fun r u H locs hp hP hD hS => ?_)
  · rcases hE with ⟨rfl, h1⟩ | ⟨rfl, h1⟩ | ⟨rfl, h1⟩
    · have hP := hP.sub (ws' := cwL cs ad μ ρ ++ [ouL cs oc f]) [1, 2, 3, 4, 5, 6, 7, 8, 9, 10, 11, 12, 13, 14, 15, 16, 17, 18, 19, 20, 21, 22, 23, 24, 0] rfl
      have hD := hD.sub (ws' := cwL cs ad μ ρ ++ [ouL cs oc f]) [1, 2, 3, 4, 5, 6, 7, 8, 9, 10, 11, 12, 13, 14, 15, 16, 17, 18, 19, 20, 21, 22, 23, 24, 0] (by decide) rfl
      refine rr_catch1 S hY (by decide) htab rfl (by decide) q_330 g1 g2 g3 ?_
      refine lv_astore (lv' := [(5, .ref q9), (0, .ref (ad 0)), (1, .int x), (2, .int p9), (3, .int f9), (4, .ref oc)]) hx hb d_A_board_15 hl (by decide) rfl (fun ls hl => ?_)
      refine lv_iconst (v := nI 1) hx hb d_A_board_17 (by decide) ?_
      exact rr_mret (μ, ρ, f) hx hb hr hlk hP hD hS ⟨(by rw [h1]), Or.inr ⟨(by omega), rfl⟩⟩ d_A_board_18
    · have hP := hP.sub (ws' := cwL cs ad μ ρ ++ [ouL cs oc f]) [1, 2, 3, 4, 5, 6, 7, 8, 9, 10, 11, 12, 13, 14, 15, 16, 17, 18, 19, 20, 21, 22, 23, 24, 0] rfl
      have hD := hD.sub (ws' := cwL cs ad μ ρ ++ [ouL cs oc f]) [1, 2, 3, 4, 5, 6, 7, 8, 9, 10, 11, 12, 13, 14, 15, 16, 17, 18, 19, 20, 21, 22, 23, 24, 0] (by decide) rfl
      refine rr_catch2 (E1 := eI) S hY (by decide) hX.2.1 htab (by decide) q_330 rfl (by decide) q_380 g1 g2 g3 ?_
      refine lv_astore (lv' := [(5, .ref q9), (0, .ref (ad 0)), (1, .int x), (2, .int p9), (3, .int f9), (4, .ref oc)]) hx hb d_A_board_19 hl (by decide) rfl (fun ls hl => ?_)
      refine lv_iconst (v := nI 2) hx hb d_A_board_21 (by decide) ?_
      exact rr_mret (μ, ρ, f) hx hb hr hlk hP hD hS ⟨(by rw [h1]), Or.inr ⟨(by omega), rfl⟩⟩ d_A_board_22
    · have hP := hP.sub (ws' := cwL cs ad μ ρ ++ [ouL cs oc f]) [1, 2, 3, 4, 5, 6, 7, 8, 9, 10, 11, 12, 13, 14, 15, 16, 17, 18, 19, 20, 21, 22, 23, 24, 0] rfl
      have hD := hD.sub (ws' := cwL cs ad μ ρ ++ [ouL cs oc f]) [1, 2, 3, 4, 5, 6, 7, 8, 9, 10, 11, 12, 13, 14, 15, 16, 17, 18, 19, 20, 21, 22, 23, 24, 0] (by decide) rfl
      refine rr_catch3 (E1 := eI) (E2 := eA) S hY (by decide) hX.1 hX.2.2 htab (by decide) q_330 (by decide) q_380 rfl (by decide) q_246 g1 g2 g3 ?_
      refine lv_astore (lv' := [(5, .ref q9), (0, .ref (ad 0)), (1, .int x), (2, .int p9), (3, .int f9), (4, .ref oc)]) hx hb d_A_board_23 hl (by decide) rfl (fun ls hl => ?_)
      refine lv_iconst (v := nI 3) hx hb d_A_board_25 (by decide) ?_
      exact rr_mret (μ, ρ, f) hx hb hr hlk hP hD hS ⟨(by rw [h1]), Or.inr ⟨(by omega), rfl⟩⟩ d_A_board_26
  · obtain ⟨rfl, h0⟩ := hp
    refine lv_i2l (v := Int32.toInt64 (nI (μ 15 0))) hx hb d_A_board_10 rfl ?_
    refine va_last (f := f) hx hb hK.1 hP hD hS 0 2 rfl rfl (vp_in_nI (by decide) (by decide)) d_A_board_11 (fun H locs hP hD hS => ?_)
    have hP := hP.sub (ws' := cwL cs ad (muBoa μ (ix 16 x) (ix 9 p9) (ix 1001 f9)) (roBoa μ ρ) ++ [ouL cs oc (vp_updL f (nI 0).toNatClampNeg (Int32.toInt64 (nI (μ 15 0))))]) [1, 2, 3, 4, 5, 6, 7, 8, 9, 10, 11, 12, 13, 14, 15, 16, 17, 18, 19, 20, 21, 22, 23, 24, 0] rfl
    have hD := hD.sub (ws' := cwL cs ad (muBoa μ (ix 16 x) (ix 9 p9) (ix 1001 f9)) (roBoa μ ρ) ++ [ouL cs oc (vp_updL f (nI 0).toNatClampNeg (Int32.toInt64 (nI (μ 15 0))))]) [1, 2, 3, 4, 5, 6, 7, 8, 9, 10, 11, 12, 13, 14, 15, 16, 17, 18, 19, 20, 21, 22, 23, 24, 0] (by decide) rfl
    refine lv_goto (tgt := 27) hx hb d_A_board_12 (by decide) ?_
    refine lv_iconst (v := nI 0) hx hb d_A_board_27 (by decide) ?_
    exact rr_mret ((muBoa μ (ix 16 x) (ix 9 p9) (ix 1001 f9)), (roBoa μ ρ), (vp_updL f (nI 0).toNatClampNeg (Int32.toInt64 (nI (μ 15 0))))) hx hb hr hlk hP hD hS ⟨(by rw [h0]), Or.inl ⟨h0, rfl, rfl, rr_upL f _⟩⟩ d_A_board_28
theorem k_A_people : rr_CW y_A_people b_A_people 4 [((0 : Nat), (9 : Nat), (12 : Nat), (19 : Nat))] 3 := ⟨q_545, q_0, q_546, by decide, by decide, by decide +kernel⟩
set_option maxHeartbeats 4000000 in
set_option maxRecDepth 100000 in
/-- the law's people: what the class answers, or the code of what it threw -/
theorem c_A_people (l : Launch) (D : va_G) (cs : rr_C3) (ad : Nat → Nat) (oc : Nat) (μ ρ : NS) (f : Nat → Int64) (x : Int32) (hM : IM μ) (hC : IC μ ρ) (hfl : l.stackTraces = false) (sz : Nat) : WX l y_A_people b_A_people 4 [((0 : Nat), (9 : Nat), (12 : Nat), (19 : Nat))] 7 103 D cs (cwL cs ad μ ρ ++ [ouL cs oc f]) sz [.ref (ad 0), .int x, .ref oc] (fun (r : Int32) (u : NS × NS × (Nat → Int64)) => r = nI (thCar μ x) ∧ ((thCar μ x = 0 ∧ u.1 = μ ∧ u.2.1 = ρ ∧ u.2.2 0 = Int32.toInt64 (nI (ppl μ (ix 16 x)))) ∨ (¬ thCar μ x = 0 ∧ u = (μ, ρ, f)))) (fun u => cwL cs ad u.1 u.2.1 ++ [ouL cs oc u.2.2]) := by
  refine WX.of (by decide) (Nat.le_of_ble_eq_true rfl) ?_
  intro p e s m args below meth c A S hr hlk htab hK hY hX hZ hP hD hA hS ls hl
  obtain ⟨hx, hb, hml, hown, ht⟩ := id S
  have hl : lv_has ls 4 [(0, .ref (ad 0)), (1, .int x), (2, .ref oc)] := hl
  have htab : c.exceptionTable.toList = [⟨0, 9, 12, 19⟩] := htab
  refine lv_aload_n hx hb d_A_people_0 rfl (lv_at hl 2 rfl) ?_
  refine lv_iconst (v := nI 0) hx hb d_A_people_1 (by decide) ?_
  refine lv_aload_n hx hb d_A_people_2 rfl (lv_at hl 0 rfl) ?_
  refine lv_iload_n hx hb d_A_people_3 rfl (lv_at hl 1 rfl) ?_
  refine rr_xV (As := [.int x]) (rest := [.int (nI 0), .ref oc]) (idx := 59) (q0 := 0) (ci := 5) (wr := [ouL cs oc f]) S hK hY hZ hP hD hS hA (c_V_people l D cs ad μ ρ x hM hC  hfl s.heap.size) k_V_people [0, 1, 2, 3, 4, 5, 6, 7, 8, 9, 10, 11, 12, 13, 14, 15, 16, 17, 18, 19, 20, 21, 22, 23] [24] rfl (by decide) rfl (by decide) (by decide) rfl rfl rfl q_547 ⟨Nat.le_of_ble_eq_true rfl, Nat.le_of_ble_eq_true rfl⟩ ⟨Nat.le_of_ble_eq_true rfl, Nat.le_of_ble_eq_true rfl⟩ hl (Nat.le_of_ble_eq_true rfl) rfl d_A_people_4 (fun E ce q9 H locs hE hP hD hS g1 g2 g3 => ?_) (fun r u H locs hp hP hD hS => ?_)
  · rcases hE with ⟨rfl, h1⟩
    · have hP := hP.sub (ws' := cwL cs ad μ ρ ++ [ouL cs oc f]) [1, 2, 3, 4, 5, 6, 7, 8, 9, 10, 11, 12, 13, 14, 15, 16, 17, 18, 19, 20, 21, 22, 23, 24, 0] rfl
      have hD := hD.sub (ws' := cwL cs ad μ ρ ++ [ouL cs oc f]) [1, 2, 3, 4, 5, 6, 7, 8, 9, 10, 11, 12, 13, 14, 15, 16, 17, 18, 19, 20, 21, 22, 23, 24, 0] (by decide) rfl
      refine rr_catch1 S hY (by decide) htab rfl (by decide) q_330 g1 g2 g3 ?_
      refine lv_astore_n (lv' := [(3, .ref q9), (0, .ref (ad 0)), (1, .int x), (2, .ref oc)]) hx hb d_A_people_12 rfl hl (by decide) rfl (fun ls hl => ?_)
      refine lv_iconst (v := nI 1) hx hb d_A_people_13 (by decide) ?_
      exact rr_mret (μ, ρ, f) hx hb hr hlk hP hD hS ⟨(by rw [h1]), Or.inr ⟨(by omega), rfl⟩⟩ d_A_people_14
  · obtain ⟨rfl, h0⟩ := hp
    refine lv_i2l (v := Int32.toInt64 (nI (ppl μ (ix 16 x)))) hx hb d_A_people_7 rfl ?_
    refine va_last (f := f) hx hb hK.1 hP hD hS 0 2 rfl rfl (vp_in_nI (by decide) (by decide)) d_A_people_8 (fun H locs hP hD hS => ?_)
    have hP := hP.sub (ws' := cwL cs ad μ ρ ++ [ouL cs oc (vp_updL f (nI 0).toNatClampNeg (Int32.toInt64 (nI (ppl μ (ix 16 x)))))]) [1, 2, 3, 4, 5, 6, 7, 8, 9, 10, 11, 12, 13, 14, 15, 16, 17, 18, 19, 20, 21, 22, 23, 24, 0] rfl
    have hD := hD.sub (ws' := cwL cs ad μ ρ ++ [ouL cs oc (vp_updL f (nI 0).toNatClampNeg (Int32.toInt64 (nI (ppl μ (ix 16 x)))))]) [1, 2, 3, 4, 5, 6, 7, 8, 9, 10, 11, 12, 13, 14, 15, 16, 17, 18, 19, 20, 21, 22, 23, 24, 0] (by decide) rfl
    refine lv_goto (tgt := 15) hx hb d_A_people_9 (by decide) ?_
    refine lv_iconst (v := nI 0) hx hb d_A_people_15 (by decide) ?_
    exact rr_mret (μ, ρ, (vp_updL f (nI 0).toNatClampNeg (Int32.toInt64 (nI (ppl μ (ix 16 x)))))) hx hb hr hlk hP hD hS ⟨(by rw [h0]), Or.inl ⟨h0, rfl, rfl, rr_upL f _⟩⟩ d_A_people_16
theorem k_A_arrived : rr_CW y_A_arrived b_A_arrived 4 [((0 : Nat), (9 : Nat), (12 : Nat), (19 : Nat))] 3 := ⟨q_552, q_0, q_553, by decide, by decide, by decide +kernel⟩
set_option maxHeartbeats 4000000 in
set_option maxRecDepth 100000 in
/-- the law's arrived: what the class answers, or the code of what it threw -/
theorem c_A_arrived (l : Launch) (D : va_G) (cs : rr_C3) (ad : Nat → Nat) (oc : Nat) (μ ρ : NS) (f : Nat → Int64) (x : Int32) (hM : IM μ) (hC : IC μ ρ) (hfl : l.stackTraces = false) (sz : Nat) : WX l y_A_arrived b_A_arrived 4 [((0 : Nat), (9 : Nat), (12 : Nat), (19 : Nat))] 7 103 D cs (cwL cs ad μ ρ ++ [ouL cs oc f]) sz [.ref (ad 0), .int x, .ref oc] (fun (r : Int32) (u : NS × NS × (Nat → Int64)) => r = nI (thTic μ x) ∧ ((thTic μ x = 0 ∧ u.1 = μ ∧ u.2.1 = ρ ∧ u.2.2 0 = Int32.toInt64 (mI (arN μ (ix 60 x)))) ∨ (¬ thTic μ x = 0 ∧ u = (μ, ρ, f)))) (fun u => cwL cs ad u.1 u.2.1 ++ [ouL cs oc u.2.2]) := by
  refine WX.of (by decide) (Nat.le_of_ble_eq_true rfl) ?_
  intro p e s m args below meth c A S hr hlk htab hK hY hX hZ hP hD hA hS ls hl
  obtain ⟨hx, hb, hml, hown, ht⟩ := id S
  have hl : lv_has ls 4 [(0, .ref (ad 0)), (1, .int x), (2, .ref oc)] := hl
  have htab : c.exceptionTable.toList = [⟨0, 9, 12, 19⟩] := htab
  refine lv_aload_n hx hb d_A_arrived_0 rfl (lv_at hl 2 rfl) ?_
  refine lv_iconst (v := nI 0) hx hb d_A_arrived_1 (by decide) ?_
  refine lv_aload_n hx hb d_A_arrived_2 rfl (lv_at hl 0 rfl) ?_
  refine lv_iload_n hx hb d_A_arrived_3 rfl (lv_at hl 1 rfl) ?_
  refine rr_xV (As := [.int x]) (rest := [.int (nI 0), .ref oc]) (idx := 62) (q0 := 0) (ci := 5) (wr := [ouL cs oc f]) S hK hY hZ hP hD hS hA (c_V_arrived l D cs ad μ ρ x hM hC  hfl s.heap.size) k_V_arrived [0, 1, 2, 3, 4, 5, 6, 7, 8, 9, 10, 11, 12, 13, 14, 15, 16, 17, 18, 19, 20, 21, 22, 23] [24] rfl (by decide) rfl (by decide) (by decide) rfl rfl rfl q_554 ⟨Nat.le_of_ble_eq_true rfl, Nat.le_of_ble_eq_true rfl⟩ ⟨Nat.le_of_ble_eq_true rfl, Nat.le_of_ble_eq_true rfl⟩ hl (Nat.le_of_ble_eq_true rfl) rfl d_A_arrived_4 (fun E ce q9 H locs hE hP hD hS g1 g2 g3 => ?_) (fun r u H locs hp hP hD hS => ?_)
  · rcases hE with ⟨rfl, h1⟩
    · have hP := hP.sub (ws' := cwL cs ad μ ρ ++ [ouL cs oc f]) [1, 2, 3, 4, 5, 6, 7, 8, 9, 10, 11, 12, 13, 14, 15, 16, 17, 18, 19, 20, 21, 22, 23, 24, 0] rfl
      have hD := hD.sub (ws' := cwL cs ad μ ρ ++ [ouL cs oc f]) [1, 2, 3, 4, 5, 6, 7, 8, 9, 10, 11, 12, 13, 14, 15, 16, 17, 18, 19, 20, 21, 22, 23, 24, 0] (by decide) rfl
      refine rr_catch1 S hY (by decide) htab rfl (by decide) q_330 g1 g2 g3 ?_
      refine lv_astore_n (lv' := [(3, .ref q9), (0, .ref (ad 0)), (1, .int x), (2, .ref oc)]) hx hb d_A_arrived_12 rfl hl (by decide) rfl (fun ls hl => ?_)
      refine lv_iconst (v := nI 1) hx hb d_A_arrived_13 (by decide) ?_
      exact rr_mret (μ, ρ, f) hx hb hr hlk hP hD hS ⟨(by rw [h1]), Or.inr ⟨(by omega), rfl⟩⟩ d_A_arrived_14
  · obtain ⟨rfl, h0⟩ := hp
    refine lv_i2l (v := Int32.toInt64 (mI (arN μ (ix 60 x)))) hx hb d_A_arrived_7 rfl ?_
    refine va_last (f := f) hx hb hK.1 hP hD hS 0 2 rfl rfl (vp_in_nI (by decide) (by decide)) d_A_arrived_8 (fun H locs hP hD hS => ?_)
    have hP := hP.sub (ws' := cwL cs ad μ ρ ++ [ouL cs oc (vp_updL f (nI 0).toNatClampNeg (Int32.toInt64 (mI (arN μ (ix 60 x)))))]) [1, 2, 3, 4, 5, 6, 7, 8, 9, 10, 11, 12, 13, 14, 15, 16, 17, 18, 19, 20, 21, 22, 23, 24, 0] rfl
    have hD := hD.sub (ws' := cwL cs ad μ ρ ++ [ouL cs oc (vp_updL f (nI 0).toNatClampNeg (Int32.toInt64 (mI (arN μ (ix 60 x)))))]) [1, 2, 3, 4, 5, 6, 7, 8, 9, 10, 11, 12, 13, 14, 15, 16, 17, 18, 19, 20, 21, 22, 23, 24, 0] (by decide) rfl
    refine lv_goto (tgt := 15) hx hb d_A_arrived_9 (by decide) ?_
    refine lv_iconst (v := nI 0) hx hb d_A_arrived_15 (by decide) ?_
    exact rr_mret (μ, ρ, (vp_updL f (nI 0).toNatClampNeg (Int32.toInt64 (mI (arN μ (ix 60 x)))))) hx hb hr hlk hP hD hS ⟨(by rw [h0]), Or.inl ⟨h0, rfl, rfl, rr_upL f _⟩⟩ d_A_arrived_16
theorem k_A_hung : rr_CW y_A_hung b_A_hung 4 [((0 : Nat), (9 : Nat), (12 : Nat), (19 : Nat))] 3 := ⟨q_564, q_0, q_565, by decide, by decide, by decide +kernel⟩
set_option maxHeartbeats 4000000 in
set_option maxRecDepth 100000 in
/-- the law's hung: what the class answers, or the code of what it threw -/
theorem c_A_hung (l : Launch) (D : va_G) (cs : rr_C3) (ad : Nat → Nat) (oc : Nat) (μ ρ : NS) (f : Nat → Int64) (x : Int32) (hM : IM μ) (hC : IC μ ρ) (hfl : l.stackTraces = false) (sz : Nat) : WX l y_A_hung b_A_hung 4 [((0 : Nat), (9 : Nat), (12 : Nat), (19 : Nat))] 7 103 D cs (cwL cs ad μ ρ ++ [ouL cs oc f]) sz [.ref (ad 0), .int x, .ref oc] (fun (r : Int32) (u : NS × NS × (Nat → Int64)) => r = nI (thTic μ x) ∧ ((thTic μ x = 0 ∧ u.1 = μ ∧ u.2.1 = ρ ∧ u.2.2 0 = Int32.toInt64 (nI (μ 21 (ix 60 x)))) ∨ (¬ thTic μ x = 0 ∧ u = (μ, ρ, f)))) (fun u => cwL cs ad u.1 u.2.1 ++ [ouL cs oc u.2.2]) := by
  refine WX.of (by decide) (Nat.le_of_ble_eq_true rfl) ?_
  intro p e s m args below meth c A S hr hlk htab hK hY hX hZ hP hD hA hS ls hl
  obtain ⟨hx, hb, hml, hown, ht⟩ := id S
  have hl : lv_has ls 4 [(0, .ref (ad 0)), (1, .int x), (2, .ref oc)] := hl
  have htab : c.exceptionTable.toList = [⟨0, 9, 12, 19⟩] := htab
  refine lv_aload_n hx hb d_A_hung_0 rfl (lv_at hl 2 rfl) ?_
  refine lv_iconst (v := nI 0) hx hb d_A_hung_1 (by decide) ?_
  refine lv_aload_n hx hb d_A_hung_2 rfl (lv_at hl 0 rfl) ?_
  refine lv_iload_n hx hb d_A_hung_3 rfl (lv_at hl 1 rfl) ?_
  refine rr_xV (As := [.int x]) (rest := [.int (nI 0), .ref oc]) (idx := 65) (q0 := 0) (ci := 5) (wr := [ouL cs oc f]) S hK hY hZ hP hD hS hA (c_V_hung l D cs ad μ ρ x hM hC  hfl s.heap.size) k_V_hung [0, 1, 2, 3, 4, 5, 6, 7, 8, 9, 10, 11, 12, 13, 14, 15, 16, 17, 18, 19, 20, 21, 22, 23] [24] rfl (by decide) rfl (by decide) (by decide) rfl rfl rfl q_566 ⟨Nat.le_of_ble_eq_true rfl, Nat.le_of_ble_eq_true rfl⟩ ⟨Nat.le_of_ble_eq_true rfl, Nat.le_of_ble_eq_true rfl⟩ hl (Nat.le_of_ble_eq_true rfl) rfl d_A_hung_4 (fun E ce q9 H locs hE hP hD hS g1 g2 g3 => ?_) (fun r u H locs hp hP hD hS => ?_)
  · rcases hE with ⟨rfl, h1⟩
    · have hP := hP.sub (ws' := cwL cs ad μ ρ ++ [ouL cs oc f]) [1, 2, 3, 4, 5, 6, 7, 8, 9, 10, 11, 12, 13, 14, 15, 16, 17, 18, 19, 20, 21, 22, 23, 24, 0] rfl
      have hD := hD.sub (ws' := cwL cs ad μ ρ ++ [ouL cs oc f]) [1, 2, 3, 4, 5, 6, 7, 8, 9, 10, 11, 12, 13, 14, 15, 16, 17, 18, 19, 20, 21, 22, 23, 24, 0] (by decide) rfl
      refine rr_catch1 S hY (by decide) htab rfl (by decide) q_330 g1 g2 g3 ?_
      refine lv_astore_n (lv' := [(3, .ref q9), (0, .ref (ad 0)), (1, .int x), (2, .ref oc)]) hx hb d_A_hung_12 rfl hl (by decide) rfl (fun ls hl => ?_)
      refine lv_iconst (v := nI 1) hx hb d_A_hung_13 (by decide) ?_
      exact rr_mret (μ, ρ, f) hx hb hr hlk hP hD hS ⟨(by rw [h1]), Or.inr ⟨(by omega), rfl⟩⟩ d_A_hung_14
  · obtain ⟨rfl, h0⟩ := hp
    refine lv_i2l (v := Int32.toInt64 (nI (μ 21 (ix 60 x)))) hx hb d_A_hung_7 rfl ?_
    refine va_last (f := f) hx hb hK.1 hP hD hS 0 2 rfl rfl (vp_in_nI (by decide) (by decide)) d_A_hung_8 (fun H locs hP hD hS => ?_)
    have hP := hP.sub (ws' := cwL cs ad μ ρ ++ [ouL cs oc (vp_updL f (nI 0).toNatClampNeg (Int32.toInt64 (nI (μ 21 (ix 60 x)))))]) [1, 2, 3, 4, 5, 6, 7, 8, 9, 10, 11, 12, 13, 14, 15, 16, 17, 18, 19, 20, 21, 22, 23, 24, 0] rfl
    have hD := hD.sub (ws' := cwL cs ad μ ρ ++ [ouL cs oc (vp_updL f (nI 0).toNatClampNeg (Int32.toInt64 (nI (μ 21 (ix 60 x)))))]) [1, 2, 3, 4, 5, 6, 7, 8, 9, 10, 11, 12, 13, 14, 15, 16, 17, 18, 19, 20, 21, 22, 23, 24, 0] (by decide) rfl
    refine lv_goto (tgt := 15) hx hb d_A_hung_9 (by decide) ?_
    refine lv_iconst (v := nI 0) hx hb d_A_hung_15 (by decide) ?_
    exact rr_mret (μ, ρ, (vp_updL f (nI 0).toNatClampNeg (Int32.toInt64 (nI (μ 21 (ix 60 x)))))) hx hb hr hlk hP hD hS ⟨(by rw [h0]), Or.inl ⟨h0, rfl, rfl, rr_upL f _⟩⟩ d_A_hung_16
theorem k_A_refund : rr_CW y_A_refund b_A_refund 4 [((0 : Nat), (9 : Nat), (12 : Nat), (19 : Nat))] 3 := ⟨q_571, q_0, q_572, by decide, by decide, by decide +kernel⟩
set_option maxHeartbeats 4000000 in
set_option maxRecDepth 100000 in
/-- the law's refund: what the class answers, or the code of what it threw -/
theorem c_A_refund (l : Launch) (D : va_G) (cs : rr_C3) (ad : Nat → Nat) (oc : Nat) (μ ρ : NS) (f : Nat → Int64) (x : Int32) (hM : IM μ) (hC : IC μ ρ) (hfl : l.stackTraces = false) (sz : Nat) : WX l y_A_refund b_A_refund 4 [((0 : Nat), (9 : Nat), (12 : Nat), (19 : Nat))] 7 103 D cs (cwL cs ad μ ρ ++ [ouL cs oc f]) sz [.ref (ad 0), .int x, .ref oc] (fun (r : Int32) (u : NS × NS × (Nat → Int64)) => r = nI (thTic μ x) ∧ ((thTic μ x = 0 ∧ u.1 = μ ∧ u.2.1 = ρ ∧ u.2.2 0 = Int32.toInt64 (nI (rfN (μ 18 (ix 60 x) * μ 17 (ix 60 x)) (μ 21 (ix 60 x))))) ∨ (¬ thTic μ x = 0 ∧ u = (μ, ρ, f)))) (fun u => cwL cs ad u.1 u.2.1 ++ [ouL cs oc u.2.2]) := by
  refine WX.of (by decide) (Nat.le_of_ble_eq_true rfl) ?_
  intro p e s m args below meth c A S hr hlk htab hK hY hX hZ hP hD hA hS ls hl
  obtain ⟨hx, hb, hml, hown, ht⟩ := id S
  have hl : lv_has ls 4 [(0, .ref (ad 0)), (1, .int x), (2, .ref oc)] := hl
  have htab : c.exceptionTable.toList = [⟨0, 9, 12, 19⟩] := htab
  refine lv_aload_n hx hb d_A_refund_0 rfl (lv_at hl 2 rfl) ?_
  refine lv_iconst (v := nI 0) hx hb d_A_refund_1 (by decide) ?_
  refine lv_aload_n hx hb d_A_refund_2 rfl (lv_at hl 0 rfl) ?_
  refine lv_iload_n hx hb d_A_refund_3 rfl (lv_at hl 1 rfl) ?_
  refine rr_xV (As := [.int x]) (rest := [.int (nI 0), .ref oc]) (idx := 68) (q0 := 0) (ci := 5) (wr := [ouL cs oc f]) S hK hY hZ hP hD hS hA (c_V_refund l D cs ad μ ρ x hM hC  hfl s.heap.size) k_V_refund [0, 1, 2, 3, 4, 5, 6, 7, 8, 9, 10, 11, 12, 13, 14, 15, 16, 17, 18, 19, 20, 21, 22, 23] [24] rfl (by decide) rfl (by decide) (by decide) rfl rfl rfl q_573 ⟨Nat.le_of_ble_eq_true rfl, Nat.le_of_ble_eq_true rfl⟩ ⟨Nat.le_of_ble_eq_true rfl, Nat.le_of_ble_eq_true rfl⟩ hl (Nat.le_of_ble_eq_true rfl) rfl d_A_refund_4 (fun E ce q9 H locs hE hP hD hS g1 g2 g3 => ?_) (fun r u H locs hp hP hD hS => ?_)
  · rcases hE with ⟨rfl, h1⟩
    · have hP := hP.sub (ws' := cwL cs ad μ ρ ++ [ouL cs oc f]) [1, 2, 3, 4, 5, 6, 7, 8, 9, 10, 11, 12, 13, 14, 15, 16, 17, 18, 19, 20, 21, 22, 23, 24, 0] rfl
      have hD := hD.sub (ws' := cwL cs ad μ ρ ++ [ouL cs oc f]) [1, 2, 3, 4, 5, 6, 7, 8, 9, 10, 11, 12, 13, 14, 15, 16, 17, 18, 19, 20, 21, 22, 23, 24, 0] (by decide) rfl
      refine rr_catch1 S hY (by decide) htab rfl (by decide) q_330 g1 g2 g3 ?_
      refine lv_astore_n (lv' := [(3, .ref q9), (0, .ref (ad 0)), (1, .int x), (2, .ref oc)]) hx hb d_A_refund_12 rfl hl (by decide) rfl (fun ls hl => ?_)
      refine lv_iconst (v := nI 1) hx hb d_A_refund_13 (by decide) ?_
      exact rr_mret (μ, ρ, f) hx hb hr hlk hP hD hS ⟨(by rw [h1]), Or.inr ⟨(by omega), rfl⟩⟩ d_A_refund_14
  · obtain ⟨rfl, h0⟩ := hp
    refine lv_i2l (v := Int32.toInt64 (nI (rfN (μ 18 (ix 60 x) * μ 17 (ix 60 x)) (μ 21 (ix 60 x))))) hx hb d_A_refund_7 rfl ?_
    refine va_last (f := f) hx hb hK.1 hP hD hS 0 2 rfl rfl (vp_in_nI (by decide) (by decide)) d_A_refund_8 (fun H locs hP hD hS => ?_)
    have hP := hP.sub (ws' := cwL cs ad μ ρ ++ [ouL cs oc (vp_updL f (nI 0).toNatClampNeg (Int32.toInt64 (nI (rfN (μ 18 (ix 60 x) * μ 17 (ix 60 x)) (μ 21 (ix 60 x))))))]) [1, 2, 3, 4, 5, 6, 7, 8, 9, 10, 11, 12, 13, 14, 15, 16, 17, 18, 19, 20, 21, 22, 23, 24, 0] rfl
    have hD := hD.sub (ws' := cwL cs ad μ ρ ++ [ouL cs oc (vp_updL f (nI 0).toNatClampNeg (Int32.toInt64 (nI (rfN (μ 18 (ix 60 x) * μ 17 (ix 60 x)) (μ 21 (ix 60 x))))))]) [1, 2, 3, 4, 5, 6, 7, 8, 9, 10, 11, 12, 13, 14, 15, 16, 17, 18, 19, 20, 21, 22, 23, 24, 0] (by decide) rfl
    refine lv_goto (tgt := 15) hx hb d_A_refund_9 (by decide) ?_
    refine lv_iconst (v := nI 0) hx hb d_A_refund_15 (by decide) ?_
    exact rr_mret (μ, ρ, (vp_updL f (nI 0).toNatClampNeg (Int32.toInt64 (nI (rfN (μ 18 (ix 60 x) * μ 17 (ix 60 x)) (μ 21 (ix 60 x))))))) hx hb hr hlk hP hD hS ⟨(by rw [h0]), Or.inl ⟨h0, rfl, rfl, rr_upL f _⟩⟩ d_A_refund_16
