set_option maxHeartbeats 4000000 in
set_option maxRecDepth 100000 in
theorem lk_0 {p : Program} {l : Launch} {e : Env} {s : State} {m : MethodId} {below : List Frame} {meth : Method} {c : Code} {b L : Nat} {xs : Nat → Int32} {D : va_G} {cs : rr_C3} {ad bd : Nat → Nat} {oc i cells slots : Nat} {μ ρ : NS} {t9 : Nat} {f : Nat → Int64} {H : Heap} {locs : List Loc} {ls : Array Slot} (C1 : lwC p l s m meth c b L xs D cs) (hcl : cells + 1 ≤ 1090 ∧ slots + 6 ≤ 11478) (hi : i + 4 ≤ L) (G : lwGo p l e s m below meth c b D cs ad bd oc i (cells + 1) (slots + 6)) (h : lwS s b D cs ad bd oc i μ ρ t9 f H locs ls) : W p l e room_1 s m #[Value.ref b] below meth c H locs cells slots (lw_Z below #[Value.ref b] s) (F0 m 156 ls []) := by
  obtain ⟨S, hr, hlk, hfl, hL, hX, hbl, hK, hY, hX9, hZ⟩ := id C1
  obtain ⟨hM, hC, hP, hD, hS, hl⟩ := h
  obtain ⟨hx, hb, hml, hown, ht⟩ := id S
  have hA : ∀ q : Nat, s.heap.size ≤ q → lwA s q := fun _ h => h
  have hbA : ¬ lwA s b := Nat.not_le.mpr hbl
  refine lv_aload_n hx hb d_law_156 rfl (lv_at hl 2 rfl) ?_
  refine lv_aload_n hx hb d_law_157 rfl (lv_at hl 4 rfl) ?_
  refine rr_wS (As := [.ref (ad 0), .ref oc]) (rest := []) (idx := 75) (wr := mwL cs bd μ t9) S hK hY hX9 hZ hP hD hS hA (c_A_putOn l D cs ad oc μ ρ f  hM hC  hfl H.size) k_A_putOn ([0, 1, 2, 3, 4, 5, 6, 7, 8, 9, 10, 11, 12, 13, 14, 15, 16, 17, 18, 19, 20, 21, 22, 23] ++ [42]) [24, 25, 26, 27, 28, 29, 30, 31, 32, 33, 34, 35, 36, 37, 38, 39, 40, 41] rfl (by decide) rfl (by decide) (by decide) q_243 ⟨Nat.le_of_ble_eq_true rfl, Nat.le_of_ble_eq_true rfl⟩ hcl hl (Nat.le_of_ble_eq_true rfl) rfl d_law_158 (fun r u H locs hp hP hD hS => ?_)
  obtain ⟨u1, u2, u3⟩ := u
  obtain ⟨rfl, hp⟩ := hp
  dsimp only at hp
  have hP := hP.sub (ws' := cwL cs ad u1 u2 ++ mwL cs bd μ t9 ++ [ouL cs oc u3]) ([18, 19, 20, 21, 22, 23, 24, 25, 26, 27, 28, 29, 30, 31, 32, 33, 34, 35, 36, 37, 38, 39, 40, 41] ++ [0, 1, 2, 3, 4, 5, 6, 7, 8, 9, 10, 11, 12, 13, 14, 15, 16, 17] ++ [42]) rfl
  have hD := hD.sub (ws' := cwL cs ad u1 u2 ++ mwL cs bd μ t9 ++ [ouL cs oc u3]) ([18, 19, 20, 21, 22, 23, 24, 25, 26, 27, 28, 29, 30, 31, 32, 33, 34, 35, 36, 37, 38, 39, 40, 41] ++ [0, 1, 2, 3, 4, 5, 6, 7, 8, 9, 10, 11, 12, 13, 14, 15, 16, 17] ++ [42]) (by decide) rfl
  refine lv_istore (lv' := [(5, .int (nI (thPut μ))), (4, .int (nI i)), (0, .ref b), (1, .ref (ad 0)), (2, .ref (bd 0)), (3, .ref oc)]) hx hb d_law_161 hl (by decide) rfl (fun ls hl => ?_)
  refine lv_aload_n hx hb d_law_163 rfl (lv_at hl 4 rfl) ?_
  refine rr_mVi (As := []) (rest := []) (idx := 80) (q0 := 24) (ci := 6) (wr := cwL cs ad u1 u2 ++ [ouL cs oc u3]) S hK hP hD hS hA (c_M_putOn l D cs bd μ t9  hM  H.size) k_M_putOn [24, 25, 26, 27, 28, 29, 30, 31, 32, 33, 34, 35, 36, 37, 38, 39, 40, 41] ([0, 1, 2, 3, 4, 5, 6, 7, 8, 9, 10, 11, 12, 13, 14, 15, 16, 17, 18, 19, 20, 21, 22, 23] ++ [42]) rfl (by decide) rfl (by decide) (by decide) rfl rfl rfl q_658 ⟨Nat.le_of_ble_eq_true rfl, Nat.le_of_ble_eq_true rfl⟩ hcl hl (Nat.le_of_ble_eq_true rfl) rfl d_law_164 (fun r9 u9 H locs hp9 hP hD hS => ?_)
  rcases hp with ⟨h0, e1, e2, e3⟩ | ⟨h0, e1⟩
  · have e1 := e1.symm
    have e2 := e2.symm
    subst e1
    subst e2
    rcases hp9 with ⟨-, e4, e5⟩ | ⟨z, -⟩
    · have e4 := e4.symm
      subst e4
      subst e5
      have hP := hP.sub (ws' := lwW cs ad bd oc (muPut μ) (roPut μ ρ) (thPut μ) u3) ([0, 1, 2, 3, 4, 5, 6, 7, 8, 9, 10, 11, 12, 13, 14, 15, 16, 17, 18, 19, 20, 21, 22, 23] ++ [25, 26, 27, 28, 29, 30, 31, 32, 33, 34, 35, 36, 37, 38, 39, 40, 41, 42] ++ [24]) rfl
      have hD := hD.sub (ws' := lwW cs ad bd oc (muPut μ) (roPut μ ρ) (thPut μ) u3) ([0, 1, 2, 3, 4, 5, 6, 7, 8, 9, 10, 11, 12, 13, 14, 15, 16, 17, 18, 19, 20, 21, 22, 23] ++ [25, 26, 27, 28, 29, 30, 31, 32, 33, 34, 35, 36, 37, 38, 39, 40, 41, 42] ++ [24]) (by decide) rfl
      exact lw_tail C1 (t := 167) hcl G (IM_put hM (by unfold thPut at h0; split at h0 <;> omega)) (IC_put hM hC (by unfold thPut at h0; split at h0 <;> omega)) (thPut_le μ) (fun _ => e3) d_law_167 d_law_169 d_law_170 d_law_173 d_law_175 d_law_180 d_law_182 d_law_185 d_law_186 d_law_187 d_law_188 d_law_190 d_law_191 d_law_192 d_law_197 (by decide) hP hD hS hl
    · exact absurd h0 z
  · have e2 : μ = u1 := (congrArg (fun z => z.1) e1).symm
    have e3 : ρ = u2 := (congrArg (fun z => z.2.1) e1).symm
    have e4 : f = u3 := (congrArg (fun z => z.2.2) e1).symm
    subst e2
    subst e3
    subst e4
    rcases hp9 with ⟨z, -⟩ | ⟨-, e5⟩
    · exact absurd z h0
    · have e5 := e5.symm
      subst e5
      have hP := hP.sub (ws' := lwW cs ad bd oc μ ρ (thPut μ) f) ([0, 1, 2, 3, 4, 5, 6, 7, 8, 9, 10, 11, 12, 13, 14, 15, 16, 17, 18, 19, 20, 21, 22, 23] ++ [25, 26, 27, 28, 29, 30, 31, 32, 33, 34, 35, 36, 37, 38, 39, 40, 41, 42] ++ [24]) rfl
      have hD := hD.sub (ws' := lwW cs ad bd oc μ ρ (thPut μ) f) ([0, 1, 2, 3, 4, 5, 6, 7, 8, 9, 10, 11, 12, 13, 14, 15, 16, 17, 18, 19, 20, 21, 22, 23] ++ [25, 26, 27, 28, 29, 30, 31, 32, 33, 34, 35, 36, 37, 38, 39, 40, 41, 42] ++ [24]) (by decide) rfl
      exact lw_tail C1 (t := 167) hcl G hM hC (thPut_le μ) (fun z => absurd z h0) d_law_167 d_law_169 d_law_170 d_law_173 d_law_175 d_law_180 d_law_182 d_law_185 d_law_186 d_law_187 d_law_188 d_law_190 d_law_191 d_law_192 d_law_197 (by decide) hP hD hS hl
set_option maxHeartbeats 4000000 in
set_option maxRecDepth 100000 in
theorem lk_1 {p : Program} {l : Launch} {e : Env} {s : State} {m : MethodId} {below : List Frame} {meth : Method} {c : Code} {b L : Nat} {xs : Nat → Int32} {D : va_G} {cs : rr_C3} {ad bd : Nat → Nat} {oc i cells slots : Nat} {μ ρ : NS} {t9 : Nat} {f : Nat → Int64} {H : Heap} {locs : List Loc} {ls : Array Slot} (C1 : lwC p l s m meth c b L xs D cs) (hcl : cells + 1 ≤ 1090 ∧ slots + 6 ≤ 11478) (hi : i + 4 ≤ L) (G : lwGo p l e s m below meth c b D cs ad bd oc i (cells + 1) (slots + 6)) (h : lwS s b D cs ad bd oc i μ ρ t9 f H locs ls) : W p l e room_1 s m #[Value.ref b] below meth c H locs cells slots (lw_Z below #[Value.ref b] s) (F0 m 200 ls []) := by
  obtain ⟨S, hr, hlk, hfl, hL, hX, hbl, hK, hY, hX9, hZ⟩ := id C1
  obtain ⟨hM, hC, hP, hD, hS, hl⟩ := h
  obtain ⟨hx, hb, hml, hown, ht⟩ := id S
  have hA : ∀ q : Nat, s.heap.size ≤ q → lwA s q := fun _ h => h
  have hbA : ¬ lwA s b := Nat.not_le.mpr hbl
  refine lv_aload_n hx hb d_law_200 rfl (lv_at hl 2 rfl) ?_
  refine lv_aload_n hx hb d_law_201 rfl (lv_at hl 1 rfl) ?_
  refine lv_iload hx hb d_law_202 (lv_at hl 0 rfl) ?_
  refine lv_iconst (v := nI 1) hx hb d_law_204 (by decide) ?_
  refine rr_iadd (a := i) (b := 1) hx hb d_law_205 ?_
  refine va_sld hx hb hX hbl hbA hS (vp_in_nI (by omega) (by omega)) d_law_206 ?_
  refine lv_aload_n hx hb d_law_207 rfl (lv_at hl 4 rfl) ?_
  refine rr_wS (As := [.ref (ad 0), .int (xs (nI (i + 1)).toNatClampNeg), .ref oc]) (rest := []) (idx := 84) (wr := mwL cs bd μ t9) S hK hY hX9 hZ hP hD hS hA (c_A_takeOff l D cs ad oc μ ρ f (xs (nI (i + 1)).toNatClampNeg) hM hC  hfl H.size) k_A_takeOff ([0, 1, 2, 3, 4, 5, 6, 7, 8, 9, 10, 11, 12, 13, 14, 15, 16, 17, 18, 19, 20, 21, 22, 23] ++ [42]) [24, 25, 26, 27, 28, 29, 30, 31, 32, 33, 34, 35, 36, 37, 38, 39, 40, 41] rfl (by decide) rfl (by decide) (by decide) q_327 ⟨Nat.le_of_ble_eq_true rfl, Nat.le_of_ble_eq_true rfl⟩ hcl hl (Nat.le_of_ble_eq_true rfl) rfl d_law_208 (fun r u H locs hp hP hD hS => ?_)
  obtain ⟨u1, u2, u3⟩ := u
  obtain ⟨rfl, hp⟩ := hp
  dsimp only at hp
  have hP := hP.sub (ws' := cwL cs ad u1 u2 ++ mwL cs bd μ t9 ++ [ouL cs oc u3]) ([18, 19, 20, 21, 22, 23, 24, 25, 26, 27, 28, 29, 30, 31, 32, 33, 34, 35, 36, 37, 38, 39, 40, 41] ++ [0, 1, 2, 3, 4, 5, 6, 7, 8, 9, 10, 11, 12, 13, 14, 15, 16, 17] ++ [42]) rfl
  have hD := hD.sub (ws' := cwL cs ad u1 u2 ++ mwL cs bd μ t9 ++ [ouL cs oc u3]) ([18, 19, 20, 21, 22, 23, 24, 25, 26, 27, 28, 29, 30, 31, 32, 33, 34, 35, 36, 37, 38, 39, 40, 41] ++ [0, 1, 2, 3, 4, 5, 6, 7, 8, 9, 10, 11, 12, 13, 14, 15, 16, 17] ++ [42]) (by decide) rfl
  refine lv_istore (lv' := [(5, .int (nI (thOff μ (xs (nI (i + 1)).toNatClampNeg)))), (4, .int (nI i)), (0, .ref b), (1, .ref (ad 0)), (2, .ref (bd 0)), (3, .ref oc)]) hx hb d_law_211 hl (by decide) rfl (fun ls hl => ?_)
  refine lv_aload_n hx hb d_law_213 rfl (lv_at hl 4 rfl) ?_
  refine lv_aload_n hx hb d_law_214 rfl (lv_at hl 2 rfl) ?_
  refine lv_iload hx hb d_law_215 (lv_at hl 1 rfl) ?_
  refine lv_iconst (v := nI 1) hx hb d_law_217 (by decide) ?_
  refine rr_iadd (a := i) (b := 1) hx hb d_law_218 ?_
  refine va_sld hx hb hX hbl hbA hS (vp_in_nI (by omega) (by omega)) d_law_219 ?_
  refine rr_mVi (As := [.int (xs (nI (i + 1)).toNatClampNeg)]) (rest := []) (idx := 87) (q0 := 24) (ci := 6) (wr := cwL cs ad u1 u2 ++ [ouL cs oc u3]) S hK hP hD hS hA (c_M_takeOff l D cs bd μ t9 (xs (nI (i + 1)).toNatClampNeg) hM  H.size) k_M_takeOff [24, 25, 26, 27, 28, 29, 30, 31, 32, 33, 34, 35, 36, 37, 38, 39, 40, 41] ([0, 1, 2, 3, 4, 5, 6, 7, 8, 9, 10, 11, 12, 13, 14, 15, 16, 17, 18, 19, 20, 21, 22, 23] ++ [42]) rfl (by decide) rfl (by decide) (by decide) rfl rfl rfl q_669 ⟨Nat.le_of_ble_eq_true rfl, Nat.le_of_ble_eq_true rfl⟩ hcl hl (Nat.le_of_ble_eq_true rfl) rfl d_law_220 (fun r9 u9 H locs hp9 hP hD hS => ?_)
  rcases hp with ⟨h0, e1, e2, e3⟩ | ⟨h0, e1⟩
  · have e1 := e1.symm
    have e2 := e2.symm
    subst e1
    subst e2
    rcases hp9 with ⟨-, e4, e5⟩ | ⟨z, -⟩
    · have e4 := e4.symm
      subst e4
      subst e5
      have hP := hP.sub (ws' := lwW cs ad bd oc (muOff μ (ix 16 (xs (nI (i + 1)).toNatClampNeg))) (roOff ρ (ix 16 (xs (nI (i + 1)).toNatClampNeg))) (thOff μ (xs (nI (i + 1)).toNatClampNeg)) u3) ([0, 1, 2, 3, 4, 5, 6, 7, 8, 9, 10, 11, 12, 13, 14, 15, 16, 17, 18, 19, 20, 21, 22, 23] ++ [25, 26, 27, 28, 29, 30, 31, 32, 33, 34, 35, 36, 37, 38, 39, 40, 41, 42] ++ [24]) rfl
      have hD := hD.sub (ws' := lwW cs ad bd oc (muOff μ (ix 16 (xs (nI (i + 1)).toNatClampNeg))) (roOff ρ (ix 16 (xs (nI (i + 1)).toNatClampNeg))) (thOff μ (xs (nI (i + 1)).toNatClampNeg)) u3) ([0, 1, 2, 3, 4, 5, 6, 7, 8, 9, 10, 11, 12, 13, 14, 15, 16, 17, 18, 19, 20, 21, 22, 23] ++ [25, 26, 27, 28, 29, 30, 31, 32, 33, 34, 35, 36, 37, 38, 39, 40, 41, 42] ++ [24]) (by decide) rfl
      have hoff9 : ix 16 (xs (nI (i + 1)).toNatClampNeg) < μ 3 0 ∧ ppl μ (ix 16 (xs (nI (i + 1)).toNatClampNeg)) = 0 := by
        unfold thOff at h0
        split at h0
        · rename_i q
          split at h0
          · rename_i q2; exact ⟨q.1, q2.2⟩
          · omega
        · omega
      exact lw_tail C1 (t := 223) hcl G (IM_off hM hoff9.1 hoff9.2) (IC_off hC _) (thOff_le μ (xs (nI (i + 1)).toNatClampNeg)) (fun _ => e3) d_law_223 d_law_225 d_law_226 d_law_229 d_law_231 d_law_236 d_law_238 d_law_241 d_law_242 d_law_243 d_law_244 d_law_246 d_law_247 d_law_248 d_law_253 (by decide) hP hD hS hl
    · exact absurd h0 z
  · have e2 : μ = u1 := (congrArg (fun z => z.1) e1).symm
    have e3 : ρ = u2 := (congrArg (fun z => z.2.1) e1).symm
    have e4 : f = u3 := (congrArg (fun z => z.2.2) e1).symm
    subst e2
    subst e3
    subst e4
    rcases hp9 with ⟨z, -⟩ | ⟨-, e5⟩
    · exact absurd z h0
    · have e5 := e5.symm
      subst e5
      have hP := hP.sub (ws' := lwW cs ad bd oc μ ρ (thOff μ (xs (nI (i + 1)).toNatClampNeg)) f) ([0, 1, 2, 3, 4, 5, 6, 7, 8, 9, 10, 11, 12, 13, 14, 15, 16, 17, 18, 19, 20, 21, 22, 23] ++ [25, 26, 27, 28, 29, 30, 31, 32, 33, 34, 35, 36, 37, 38, 39, 40, 41, 42] ++ [24]) rfl
      have hD := hD.sub (ws' := lwW cs ad bd oc μ ρ (thOff μ (xs (nI (i + 1)).toNatClampNeg)) f) ([0, 1, 2, 3, 4, 5, 6, 7, 8, 9, 10, 11, 12, 13, 14, 15, 16, 17, 18, 19, 20, 21, 22, 23] ++ [25, 26, 27, 28, 29, 30, 31, 32, 33, 34, 35, 36, 37, 38, 39, 40, 41, 42] ++ [24]) (by decide) rfl
      exact lw_tail C1 (t := 223) hcl G hM hC (thOff_le μ (xs (nI (i + 1)).toNatClampNeg)) (fun z => absurd z h0) d_law_223 d_law_225 d_law_226 d_law_229 d_law_231 d_law_236 d_law_238 d_law_241 d_law_242 d_law_243 d_law_244 d_law_246 d_law_247 d_law_248 d_law_253 (by decide) hP hD hS hl
set_option maxHeartbeats 4000000 in
set_option maxRecDepth 100000 in
theorem lk_2 {p : Program} {l : Launch} {e : Env} {s : State} {m : MethodId} {below : List Frame} {meth : Method} {c : Code} {b L : Nat} {xs : Nat → Int32} {D : va_G} {cs : rr_C3} {ad bd : Nat → Nat} {oc i cells slots : Nat} {μ ρ : NS} {t9 : Nat} {f : Nat → Int64} {H : Heap} {locs : List Loc} {ls : Array Slot} (C1 : lwC p l s m meth c b L xs D cs) (hcl : cells + 1 ≤ 1090 ∧ slots + 6 ≤ 11478) (hi : i + 4 ≤ L) (G : lwGo p l e s m below meth c b D cs ad bd oc i (cells + 1) (slots + 6)) (h : lwS s b D cs ad bd oc i μ ρ t9 f H locs ls) : W p l e room_1 s m #[Value.ref b] below meth c H locs cells slots (lw_Z below #[Value.ref b] s) (F0 m 256 ls []) := by
  obtain ⟨S, hr, hlk, hfl, hL, hX, hbl, hK, hY, hX9, hZ⟩ := id C1
  obtain ⟨hM, hC, hP, hD, hS, hl⟩ := h
  obtain ⟨hx, hb, hml, hown, ht⟩ := id S
  have hA : ∀ q : Nat, s.heap.size ≤ q → lwA s q := fun _ h => h
  have hbA : ¬ lwA s b := Nat.not_le.mpr hbl
  refine lv_aload_n hx hb d_law_256 rfl (lv_at hl 2 rfl) ?_
  refine rr_rV (As := []) (rest := []) (idx := 88) (q0 := 0) (ci := 5) S hK hP (c_V_cars l D cs ad μ ρ hM hC) k_V_cars [0, 1, 2, 3, 4, 5, 6, 7, 8, 9, 10, 11, 12, 13, 14, 15, 16, 17, 18, 19, 20, 21, 22, 23] rfl rfl rfl rfl q_157 ⟨Nat.le_of_ble_eq_true rfl, Nat.le_of_ble_eq_true rfl⟩ ⟨(by show cells ≤ 1090; omega), (by show slots ≤ 11478; omega)⟩ hl (Nat.le_of_ble_eq_true rfl) rfl d_law_257 (fun r hp => ?_)
  subst hp
  refine lv_aload_n hx hb d_law_260 rfl (lv_at hl 3 rfl) ?_
  refine rr_mVi (As := []) (rest := [.int (nI (ct (onM μ) 16))]) (idx := 91) (q0 := 24) (ci := 6) (wr := cwL cs ad μ ρ ++ [ouL cs oc f]) S hK hP hD hS hA (c_M_cars l D cs bd μ t9 hM H.size) k_M_cars [24, 25, 26, 27, 28, 29, 30, 31, 32, 33, 34, 35, 36, 37, 38, 39, 40, 41] ([0, 1, 2, 3, 4, 5, 6, 7, 8, 9, 10, 11, 12, 13, 14, 15, 16, 17, 18, 19, 20, 21, 22, 23] ++ [42]) rfl (by decide) rfl (by decide) (by decide) rfl rfl rfl q_684 ⟨Nat.le_of_ble_eq_true rfl, Nat.le_of_ble_eq_true rfl⟩ ⟨(by show cells + 0 ≤ 1090; omega), (by show slots + 0 ≤ 11478; omega)⟩ hl (Nat.le_of_ble_eq_true rfl) rfl d_law_261 (fun r u H locs hp hP hD hS => ?_)
  subst hp
  have hP := hP.sub (ws' := lwW cs ad bd oc μ ρ 0 f) ([0, 1, 2, 3, 4, 5, 6, 7, 8, 9, 10, 11, 12, 13, 14, 15, 16, 17, 18, 19, 20, 21, 22, 23] ++ [25, 26, 27, 28, 29, 30, 31, 32, 33, 34, 35, 36, 37, 38, 39, 40, 41, 42] ++ [24]) rfl
  have hD := hD.sub (ws' := lwW cs ad bd oc μ ρ 0 f) ([0, 1, 2, 3, 4, 5, 6, 7, 8, 9, 10, 11, 12, 13, 14, 15, 16, 17, 18, 19, 20, 21, 22, 23] ++ [25, 26, 27, 28, 29, 30, 31, 32, 33, 34, 35, 36, 37, 38, 39, 40, 41, 42] ++ [24]) (by decide) rfl
  refine lv_icmp_eq (tgt := 1329) hx hb d_law_264 (by decide) (fun _ => ?_) (fun z => absurd rfl z)
  refine W.widen (k := cells + 1) (n := slots + 6) (by omega) (by omega) ?_
  exact G μ ρ 0 f H locs ls ⟨hM, hC, hP, hD, hS, hl⟩
set_option maxHeartbeats 4000000 in
set_option maxRecDepth 100000 in
theorem lk_3 {p : Program} {l : Launch} {e : Env} {s : State} {m : MethodId} {below : List Frame} {meth : Method} {c : Code} {b L : Nat} {xs : Nat → Int32} {D : va_G} {cs : rr_C3} {ad bd : Nat → Nat} {oc i cells slots : Nat} {μ ρ : NS} {t9 : Nat} {f : Nat → Int64} {H : Heap} {locs : List Loc} {ls : Array Slot} (C1 : lwC p l s m meth c b L xs D cs) (hcl : cells + 1 ≤ 1090 ∧ slots + 6 ≤ 11478) (hi : i + 4 ≤ L) (G : lwGo p l e s m below meth c b D cs ad bd oc i (cells + 1) (slots + 6)) (h : lwS s b D cs ad bd oc i μ ρ t9 f H locs ls) : W p l e room_1 s m #[Value.ref b] below meth c H locs cells slots (lw_Z below #[Value.ref b] s) (F0 m 269 ls []) := by
  obtain ⟨S, hr, hlk, hfl, hL, hX, hbl, hK, hY, hX9, hZ⟩ := id C1
  obtain ⟨hM, hC, hP, hD, hS, hl⟩ := h
  obtain ⟨hx, hb, hml, hown, ht⟩ := id S
  have hA : ∀ q : Nat, s.heap.size ≤ q → lwA s q := fun _ h => h
  have hbA : ¬ lwA s b := Nat.not_le.mpr hbl
  refine lv_aload_n hx hb d_law_269 rfl (lv_at hl 2 rfl) ?_
  refine lv_aload_n hx hb d_law_270 rfl (lv_at hl 1 rfl) ?_
  refine lv_iload hx hb d_law_271 (lv_at hl 0 rfl) ?_
  refine lv_iconst (v := nI 1) hx hb d_law_273 (by decide) ?_
  refine rr_iadd (a := i) (b := 1) hx hb d_law_274 ?_
  refine va_sld hx hb hX hbl hbA hS (vp_in_nI (by omega) (by omega)) d_law_275 ?_
  refine lv_aload_n hx hb d_law_276 rfl (lv_at hl 4 rfl) ?_
  refine rr_wS (As := [.ref (ad 0), .int (xs (nI (i + 1)).toNatClampNeg), .ref oc]) (rest := []) (idx := 92) (wr := mwL cs bd μ t9) S hK hY hX9 hZ hP hD hS hA (c_A_place l D cs ad oc μ ρ f (xs (nI (i + 1)).toNatClampNeg) hM hC  hfl H.size) k_A_place ([0, 1, 2, 3, 4, 5, 6, 7, 8, 9, 10, 11, 12, 13, 14, 15, 16, 17, 18, 19, 20, 21, 22, 23] ++ [42]) [24, 25, 26, 27, 28, 29, 30, 31, 32, 33, 34, 35, 36, 37, 38, 39, 40, 41] rfl (by decide) rfl (by decide) (by decide) q_363 ⟨Nat.le_of_ble_eq_true rfl, Nat.le_of_ble_eq_true rfl⟩ hcl hl (Nat.le_of_ble_eq_true rfl) rfl d_law_277 (fun r u H locs hp hP hD hS => ?_)
  obtain ⟨u1, u2, u3⟩ := u
  obtain ⟨rfl, hp⟩ := hp
  dsimp only at hp
  have hP := hP.sub (ws' := cwL cs ad u1 u2 ++ mwL cs bd μ t9 ++ [ouL cs oc u3]) ([18, 19, 20, 21, 22, 23, 24, 25, 26, 27, 28, 29, 30, 31, 32, 33, 34, 35, 36, 37, 38, 39, 40, 41] ++ [0, 1, 2, 3, 4, 5, 6, 7, 8, 9, 10, 11, 12, 13, 14, 15, 16, 17] ++ [42]) rfl
  have hD := hD.sub (ws' := cwL cs ad u1 u2 ++ mwL cs bd μ t9 ++ [ouL cs oc u3]) ([18, 19, 20, 21, 22, 23, 24, 25, 26, 27, 28, 29, 30, 31, 32, 33, 34, 35, 36, 37, 38, 39, 40, 41] ++ [0, 1, 2, 3, 4, 5, 6, 7, 8, 9, 10, 11, 12, 13, 14, 15, 16, 17] ++ [42]) (by decide) rfl
  refine lv_istore (lv' := [(5, .int (nI (thCar μ (xs (nI (i + 1)).toNatClampNeg)))), (4, .int (nI i)), (0, .ref b), (1, .ref (ad 0)), (2, .ref (bd 0)), (3, .ref oc)]) hx hb d_law_280 hl (by decide) rfl (fun ls hl => ?_)
  refine lv_aload_n hx hb d_law_282 rfl (lv_at hl 4 rfl) ?_
  refine lv_aload_n hx hb d_law_283 rfl (lv_at hl 2 rfl) ?_
  refine lv_iload hx hb d_law_284 (lv_at hl 1 rfl) ?_
  refine lv_iconst (v := nI 1) hx hb d_law_286 (by decide) ?_
  refine rr_iadd (a := i) (b := 1) hx hb d_law_287 ?_
  refine va_sld hx hb hX hbl hbA hS (vp_in_nI (by omega) (by omega)) d_law_288 ?_
  refine rr_mVi (As := [.int (xs (nI (i + 1)).toNatClampNeg)]) (rest := []) (idx := 94) (q0 := 24) (ci := 6) (wr := cwL cs ad u1 u2 ++ [ouL cs oc u3]) S hK hP hD hS hA (c_M_place l D cs bd μ t9 (xs (nI (i + 1)).toNatClampNeg) hM  H.size) k_M_place [24, 25, 26, 27, 28, 29, 30, 31, 32, 33, 34, 35, 36, 37, 38, 39, 40, 41] ([0, 1, 2, 3, 4, 5, 6, 7, 8, 9, 10, 11, 12, 13, 14, 15, 16, 17, 18, 19, 20, 21, 22, 23] ++ [42]) rfl (by decide) rfl (by decide) (by decide) rfl rfl rfl q_688 ⟨Nat.le_of_ble_eq_true rfl, Nat.le_of_ble_eq_true rfl⟩ hcl hl (Nat.le_of_ble_eq_true rfl) rfl d_law_289 (fun r9 u9 H locs hp9 hP hD hS => ?_)
  rcases hp with ⟨h0, e1, e2, e3⟩ | ⟨h0, e1⟩
  · have e1 := e1.symm
    have e2 := e2.symm
    subst e1
    subst e2
    rcases hp9 with ⟨-, e5⟩ | z
    · subst e5
      have hP := hP.sub (ws' := lwW cs ad bd oc μ ρ (thCar μ (xs (nI (i + 1)).toNatClampNeg)) u3) ([0, 1, 2, 3, 4, 5, 6, 7, 8, 9, 10, 11, 12, 13, 14, 15, 16, 17, 18, 19, 20, 21, 22, 23] ++ [25, 26, 27, 28, 29, 30, 31, 32, 33, 34, 35, 36, 37, 38, 39, 40, 41, 42] ++ [24]) rfl
      have hD := hD.sub (ws' := lwW cs ad bd oc μ ρ (thCar μ (xs (nI (i + 1)).toNatClampNeg)) u3) ([0, 1, 2, 3, 4, 5, 6, 7, 8, 9, 10, 11, 12, 13, 14, 15, 16, 17, 18, 19, 20, 21, 22, 23] ++ [25, 26, 27, 28, 29, 30, 31, 32, 33, 34, 35, 36, 37, 38, 39, 40, 41, 42] ++ [24]) (by decide) rfl
      exact lw_tail C1 (t := 292) hcl G hM hC (thCar_le μ (xs (nI (i + 1)).toNatClampNeg)) (fun _ => e3) d_law_292 d_law_294 d_law_295 d_law_298 d_law_300 d_law_305 d_law_307 d_law_310 d_law_311 d_law_312 d_law_313 d_law_315 d_law_316 d_law_317 d_law_322 (by decide) hP hD hS hl
    · exact absurd h0 z
  · have e2 : μ = u1 := (congrArg (fun z => z.1) e1).symm
    have e3 : ρ = u2 := (congrArg (fun z => z.2.1) e1).symm
    have e4 : f = u3 := (congrArg (fun z => z.2.2) e1).symm
    subst e2
    subst e3
    subst e4
    have hP := hP.sub (ws' := lwW cs ad bd oc μ ρ (thCar μ (xs (nI (i + 1)).toNatClampNeg)) f) ([0, 1, 2, 3, 4, 5, 6, 7, 8, 9, 10, 11, 12, 13, 14, 15, 16, 17, 18, 19, 20, 21, 22, 23] ++ [25, 26, 27, 28, 29, 30, 31, 32, 33, 34, 35, 36, 37, 38, 39, 40, 41, 42] ++ [24]) rfl
    have hD := hD.sub (ws' := lwW cs ad bd oc μ ρ (thCar μ (xs (nI (i + 1)).toNatClampNeg)) f) ([0, 1, 2, 3, 4, 5, 6, 7, 8, 9, 10, 11, 12, 13, 14, 15, 16, 17, 18, 19, 20, 21, 22, 23] ++ [25, 26, 27, 28, 29, 30, 31, 32, 33, 34, 35, 36, 37, 38, 39, 40, 41, 42] ++ [24]) (by decide) rfl
    exact lw_tail C1 (t := 292) hcl G hM hC (thCar_le μ (xs (nI (i + 1)).toNatClampNeg)) (fun z => absurd z h0) d_law_292 d_law_294 d_law_295 d_law_298 d_law_300 d_law_305 d_law_307 d_law_310 d_law_311 d_law_312 d_law_313 d_law_315 d_law_316 d_law_317 d_law_322 (by decide) hP hD hS hl
set_option maxHeartbeats 4000000 in
set_option maxRecDepth 100000 in
theorem lk_4 {p : Program} {l : Launch} {e : Env} {s : State} {m : MethodId} {below : List Frame} {meth : Method} {c : Code} {b L : Nat} {xs : Nat → Int32} {D : va_G} {cs : rr_C3} {ad bd : Nat → Nat} {oc i cells slots : Nat} {μ ρ : NS} {t9 : Nat} {f : Nat → Int64} {H : Heap} {locs : List Loc} {ls : Array Slot} (C1 : lwC p l s m meth c b L xs D cs) (hcl : cells + 1 ≤ 1090 ∧ slots + 6 ≤ 11478) (hi : i + 4 ≤ L) (G : lwGo p l e s m below meth c b D cs ad bd oc i (cells + 1) (slots + 6)) (h : lwS s b D cs ad bd oc i μ ρ t9 f H locs ls) : W p l e room_1 s m #[Value.ref b] below meth c H locs cells slots (lw_Z below #[Value.ref b] s) (F0 m 325 ls []) := by
  obtain ⟨S, hr, hlk, hfl, hL, hX, hbl, hK, hY, hX9, hZ⟩ := id C1
  obtain ⟨hM, hC, hP, hD, hS, hl⟩ := h
  obtain ⟨hx, hb, hml, hown, ht⟩ := id S
  have hA : ∀ q : Nat, s.heap.size ≤ q → lwA s q := fun _ h => h
  have hbA : ¬ lwA s b := Nat.not_le.mpr hbl
  refine lv_aload_n hx hb d_law_325 rfl (lv_at hl 2 rfl) ?_
  refine lv_aload_n hx hb d_law_326 rfl (lv_at hl 1 rfl) ?_
  refine lv_iload hx hb d_law_327 (lv_at hl 0 rfl) ?_
  refine lv_iconst (v := nI 1) hx hb d_law_329 (by decide) ?_
  refine rr_iadd (a := i) (b := 1) hx hb d_law_330 ?_
  refine va_sld hx hb hX hbl hbA hS (vp_in_nI (by omega) (by omega)) d_law_331 ?_
  refine lv_aload_n hx hb d_law_332 rfl (lv_at hl 4 rfl) ?_
  refine rr_wS (As := [.ref (ad 0), .int (xs (nI (i + 1)).toNatClampNeg), .ref oc]) (rest := []) (idx := 95) (wr := mwL cs bd μ t9) S hK hY hX9 hZ hP hD hS hA (c_A_placeByTurns l D cs ad oc μ ρ f (xs (nI (i + 1)).toNatClampNeg) hM hC  hfl H.size) k_A_placeByTurns ([0, 1, 2, 3, 4, 5, 6, 7, 8, 9, 10, 11, 12, 13, 14, 15, 16, 17, 18, 19, 20, 21, 22, 23] ++ [42]) [24, 25, 26, 27, 28, 29, 30, 31, 32, 33, 34, 35, 36, 37, 38, 39, 40, 41] rfl (by decide) rfl (by decide) (by decide) q_370 ⟨Nat.le_of_ble_eq_true rfl, Nat.le_of_ble_eq_true rfl⟩ hcl hl (Nat.le_of_ble_eq_true rfl) rfl d_law_333 (fun r u H locs hp hP hD hS => ?_)
  obtain ⟨u1, u2, u3⟩ := u
  obtain ⟨rfl, hp⟩ := hp
  dsimp only at hp
  have hP := hP.sub (ws' := cwL cs ad u1 u2 ++ mwL cs bd μ t9 ++ [ouL cs oc u3]) ([18, 19, 20, 21, 22, 23, 24, 25, 26, 27, 28, 29, 30, 31, 32, 33, 34, 35, 36, 37, 38, 39, 40, 41] ++ [0, 1, 2, 3, 4, 5, 6, 7, 8, 9, 10, 11, 12, 13, 14, 15, 16, 17] ++ [42]) rfl
  have hD := hD.sub (ws' := cwL cs ad u1 u2 ++ mwL cs bd μ t9 ++ [ouL cs oc u3]) ([18, 19, 20, 21, 22, 23, 24, 25, 26, 27, 28, 29, 30, 31, 32, 33, 34, 35, 36, 37, 38, 39, 40, 41] ++ [0, 1, 2, 3, 4, 5, 6, 7, 8, 9, 10, 11, 12, 13, 14, 15, 16, 17] ++ [42]) (by decide) rfl
  refine lv_istore (lv' := [(5, .int (nI (thCar μ (xs (nI (i + 1)).toNatClampNeg)))), (4, .int (nI i)), (0, .ref b), (1, .ref (ad 0)), (2, .ref (bd 0)), (3, .ref oc)]) hx hb d_law_336 hl (by decide) rfl (fun ls hl => ?_)
  refine lv_aload_n hx hb d_law_338 rfl (lv_at hl 4 rfl) ?_
  refine lv_aload_n hx hb d_law_339 rfl (lv_at hl 2 rfl) ?_
  refine lv_iload hx hb d_law_340 (lv_at hl 1 rfl) ?_
  refine lv_iconst (v := nI 1) hx hb d_law_342 (by decide) ?_
  refine rr_iadd (a := i) (b := 1) hx hb d_law_343 ?_
  refine va_sld hx hb hX hbl hbA hS (vp_in_nI (by omega) (by omega)) d_law_344 ?_
  refine rr_mVi (As := [.int (xs (nI (i + 1)).toNatClampNeg)]) (rest := []) (idx := 97) (q0 := 24) (ci := 6) (wr := cwL cs ad u1 u2 ++ [ouL cs oc u3]) S hK hP hD hS hA (c_M_placeByTurns l D cs bd μ t9 (xs (nI (i + 1)).toNatClampNeg) hM  H.size) k_M_placeByTurns [24, 25, 26, 27, 28, 29, 30, 31, 32, 33, 34, 35, 36, 37, 38, 39, 40, 41] ([0, 1, 2, 3, 4, 5, 6, 7, 8, 9, 10, 11, 12, 13, 14, 15, 16, 17, 18, 19, 20, 21, 22, 23] ++ [42]) rfl (by decide) rfl (by decide) (by decide) rfl rfl rfl q_692 ⟨Nat.le_of_ble_eq_true rfl, Nat.le_of_ble_eq_true rfl⟩ hcl hl (Nat.le_of_ble_eq_true rfl) rfl d_law_345 (fun r9 u9 H locs hp9 hP hD hS => ?_)
  rcases hp with ⟨h0, e1, e2, e3⟩ | ⟨h0, e1⟩
  · have e1 := e1.symm
    have e2 := e2.symm
    subst e1
    subst e2
    rcases hp9 with ⟨-, e5⟩ | z
    · subst e5
      have hP := hP.sub (ws' := lwW cs ad bd oc μ ρ (thCar μ (xs (nI (i + 1)).toNatClampNeg)) u3) ([0, 1, 2, 3, 4, 5, 6, 7, 8, 9, 10, 11, 12, 13, 14, 15, 16, 17, 18, 19, 20, 21, 22, 23] ++ [25, 26, 27, 28, 29, 30, 31, 32, 33, 34, 35, 36, 37, 38, 39, 40, 41, 42] ++ [24]) rfl
      have hD := hD.sub (ws' := lwW cs ad bd oc μ ρ (thCar μ (xs (nI (i + 1)).toNatClampNeg)) u3) ([0, 1, 2, 3, 4, 5, 6, 7, 8, 9, 10, 11, 12, 13, 14, 15, 16, 17, 18, 19, 20, 21, 22, 23] ++ [25, 26, 27, 28, 29, 30, 31, 32, 33, 34, 35, 36, 37, 38, 39, 40, 41, 42] ++ [24]) (by decide) rfl
      exact lw_tail C1 (t := 348) hcl G hM hC (thCar_le μ (xs (nI (i + 1)).toNatClampNeg)) (fun _ => e3) d_law_348 d_law_350 d_law_351 d_law_354 d_law_356 d_law_361 d_law_363 d_law_366 d_law_367 d_law_368 d_law_369 d_law_371 d_law_372 d_law_373 d_law_378 (by decide) hP hD hS hl
    · exact absurd h0 z
  · have e2 : μ = u1 := (congrArg (fun z => z.1) e1).symm
    have e3 : ρ = u2 := (congrArg (fun z => z.2.1) e1).symm
    have e4 : f = u3 := (congrArg (fun z => z.2.2) e1).symm
    subst e2
    subst e3
    subst e4
    have hP := hP.sub (ws' := lwW cs ad bd oc μ ρ (thCar μ (xs (nI (i + 1)).toNatClampNeg)) f) ([0, 1, 2, 3, 4, 5, 6, 7, 8, 9, 10, 11, 12, 13, 14, 15, 16, 17, 18, 19, 20, 21, 22, 23] ++ [25, 26, 27, 28, 29, 30, 31, 32, 33, 34, 35, 36, 37, 38, 39, 40, 41, 42] ++ [24]) rfl
    have hD := hD.sub (ws' := lwW cs ad bd oc μ ρ (thCar μ (xs (nI (i + 1)).toNatClampNeg)) f) ([0, 1, 2, 3, 4, 5, 6, 7, 8, 9, 10, 11, 12, 13, 14, 15, 16, 17, 18, 19, 20, 21, 22, 23] ++ [25, 26, 27, 28, 29, 30, 31, 32, 33, 34, 35, 36, 37, 38, 39, 40, 41, 42] ++ [24]) (by decide) rfl
    exact lw_tail C1 (t := 348) hcl G hM hC (thCar_le μ (xs (nI (i + 1)).toNatClampNeg)) (fun z => absurd z h0) d_law_348 d_law_350 d_law_351 d_law_354 d_law_356 d_law_361 d_law_363 d_law_366 d_law_367 d_law_368 d_law_369 d_law_371 d_law_372 d_law_373 d_law_378 (by decide) hP hD hS hl
set_option maxHeartbeats 4000000 in
set_option maxRecDepth 100000 in
theorem lk_5 {p : Program} {l : Launch} {e : Env} {s : State} {m : MethodId} {below : List Frame} {meth : Method} {c : Code} {b L : Nat} {xs : Nat → Int32} {D : va_G} {cs : rr_C3} {ad bd : Nat → Nat} {oc i cells slots : Nat} {μ ρ : NS} {t9 : Nat} {f : Nat → Int64} {H : Heap} {locs : List Loc} {ls : Array Slot} (C1 : lwC p l s m meth c b L xs D cs) (hcl : cells + 1 ≤ 1090 ∧ slots + 6 ≤ 11478) (hi : i + 4 ≤ L) (G : lwGo p l e s m below meth c b D cs ad bd oc i (cells + 1) (slots + 6)) (h : lwS s b D cs ad bd oc i μ ρ t9 f H locs ls) : W p l e room_1 s m #[Value.ref b] below meth c H locs cells slots (lw_Z below #[Value.ref b] s) (F0 m 381 ls []) := by
  obtain ⟨S, hr, hlk, hfl, hL, hX, hbl, hK, hY, hX9, hZ⟩ := id C1
  obtain ⟨hM, hC, hP, hD, hS, hl⟩ := h
  obtain ⟨hx, hb, hml, hown, ht⟩ := id S
  have hA : ∀ q : Nat, s.heap.size ≤ q → lwA s q := fun _ h => h
  have hbA : ¬ lwA s b := Nat.not_le.mpr hbl
  refine lv_aload_n hx hb d_law_381 rfl (lv_at hl 2 rfl) ?_
  refine rr_rV (As := []) (rest := []) (idx := 98) (q0 := 0) (ci := 5) S hK hP (c_V_leastGap l D cs ad μ ρ hM hC) k_V_leastGap [0, 1, 2, 3, 4, 5, 6, 7, 8, 9, 10, 11, 12, 13, 14, 15, 16, 17, 18, 19, 20, 21, 22, 23] rfl rfl rfl rfl q_165 ⟨Nat.le_of_ble_eq_true rfl, Nat.le_of_ble_eq_true rfl⟩ ⟨(by show cells ≤ 1090; omega), (by show slots ≤ 11478; omega)⟩ hl (Nat.le_of_ble_eq_true rfl) rfl d_law_382 (fun r hp => ?_)
  subst hp
  refine lv_aload_n hx hb d_law_385 rfl (lv_at hl 3 rfl) ?_
  refine rr_mVi (As := []) (rest := [.int (mI (lgo (onM μ) (pN μ) 16))]) (idx := 101) (q0 := 24) (ci := 6) (wr := cwL cs ad μ ρ ++ [ouL cs oc f]) S hK hP hD hS hA (c_M_leastGap l D cs bd μ t9 hM H.size) k_M_leastGap [24, 25, 26, 27, 28, 29, 30, 31, 32, 33, 34, 35, 36, 37, 38, 39, 40, 41] ([0, 1, 2, 3, 4, 5, 6, 7, 8, 9, 10, 11, 12, 13, 14, 15, 16, 17, 18, 19, 20, 21, 22, 23] ++ [42]) rfl (by decide) rfl (by decide) (by decide) rfl rfl rfl q_697 ⟨Nat.le_of_ble_eq_true rfl, Nat.le_of_ble_eq_true rfl⟩ ⟨(by show cells + 0 ≤ 1090; omega), (by show slots + 0 ≤ 11478; omega)⟩ hl (Nat.le_of_ble_eq_true rfl) rfl d_law_386 (fun r u H locs hp hP hD hS => ?_)
  subst hp
  have hP := hP.sub (ws' := lwW cs ad bd oc μ ρ 0 f) ([0, 1, 2, 3, 4, 5, 6, 7, 8, 9, 10, 11, 12, 13, 14, 15, 16, 17, 18, 19, 20, 21, 22, 23] ++ [25, 26, 27, 28, 29, 30, 31, 32, 33, 34, 35, 36, 37, 38, 39, 40, 41, 42] ++ [24]) rfl
  have hD := hD.sub (ws' := lwW cs ad bd oc μ ρ 0 f) ([0, 1, 2, 3, 4, 5, 6, 7, 8, 9, 10, 11, 12, 13, 14, 15, 16, 17, 18, 19, 20, 21, 22, 23] ++ [25, 26, 27, 28, 29, 30, 31, 32, 33, 34, 35, 36, 37, 38, 39, 40, 41, 42] ++ [24]) (by decide) rfl
  refine lv_icmp_eq (tgt := 1329) hx hb d_law_389 (by decide) (fun _ => ?_) (fun z => absurd rfl z)
  refine W.widen (k := cells + 1) (n := slots + 6) (by omega) (by omega) ?_
  exact G μ ρ 0 f H locs ls ⟨hM, hC, hP, hD, hS, hl⟩
set_option maxHeartbeats 4000000 in
set_option maxRecDepth 100000 in
theorem lk_6 {p : Program} {l : Launch} {e : Env} {s : State} {m : MethodId} {below : List Frame} {meth : Method} {c : Code} {b L : Nat} {xs : Nat → Int32} {D : va_G} {cs : rr_C3} {ad bd : Nat → Nat} {oc i cells slots : Nat} {μ ρ : NS} {t9 : Nat} {f : Nat → Int64} {H : Heap} {locs : List Loc} {ls : Array Slot} (C1 : lwC p l s m meth c b L xs D cs) (hcl : cells + 1 ≤ 1090 ∧ slots + 6 ≤ 11478) (hi : i + 4 ≤ L) (G : lwGo p l e s m below meth c b D cs ad bd oc i (cells + 1) (slots + 6)) (h : lwS s b D cs ad bd oc i μ ρ t9 f H locs ls) : W p l e room_1 s m #[Value.ref b] below meth c H locs cells slots (lw_Z below #[Value.ref b] s) (F0 m 394 ls []) := by
  obtain ⟨S, hr, hlk, hfl, hL, hX, hbl, hK, hY, hX9, hZ⟩ := id C1
  obtain ⟨hM, hC, hP, hD, hS, hl⟩ := h
  obtain ⟨hx, hb, hml, hown, ht⟩ := id S
  have hA : ∀ q : Nat, s.heap.size ≤ q → lwA s q := fun _ h => h
  have hbA : ¬ lwA s b := Nat.not_le.mpr hbl
  refine lv_aload_n hx hb d_law_394 rfl (lv_at hl 2 rfl) ?_
  refine lv_aload_n hx hb d_law_395 rfl (lv_at hl 1 rfl) ?_
  refine lv_iload hx hb d_law_396 (lv_at hl 0 rfl) ?_
  refine lv_iconst (v := nI 1) hx hb d_law_398 (by decide) ?_
  refine rr_iadd (a := i) (b := 1) hx hb d_law_399 ?_
  refine va_sld hx hb hX hbl hbA hS (vp_in_nI (by omega) (by omega)) d_law_400 ?_
  refine lv_aload_n hx hb d_law_401 rfl (lv_at hl 1 rfl) ?_
  refine lv_iload hx hb d_law_402 (lv_at hl 0 rfl) ?_
  refine lv_iconst (v := nI 2) hx hb d_law_404 (by decide) ?_
  refine rr_iadd (a := i) (b := 2) hx hb d_law_405 ?_
  refine va_sld hx hb hX hbl hbA hS (vp_in_nI (by omega) (by omega)) d_law_406 ?_
  refine lv_aload_n hx hb d_law_407 rfl (lv_at hl 4 rfl) ?_
  refine rr_wS (As := [.ref (ad 0), .int (xs (nI (i + 1)).toNatClampNeg), .int (xs (nI (i + 2)).toNatClampNeg), .ref oc]) (rest := []) (idx := 102) (wr := mwL cs bd μ t9) S hK hY hX9 hZ hP hD hS hA (c_A_wind l D cs ad oc μ ρ f (xs (nI (i + 1)).toNatClampNeg) (xs (nI (i + 2)).toNatClampNeg) hM hC  hfl H.size) k_A_wind ([0, 1, 2, 3, 4, 5, 6, 7, 8, 9, 10, 11, 12, 13, 14, 15, 16, 17, 18, 19, 20, 21, 22, 23] ++ [42]) [24, 25, 26, 27, 28, 29, 30, 31, 32, 33, 34, 35, 36, 37, 38, 39, 40, 41] rfl (by decide) rfl (by decide) (by decide) q_377 ⟨Nat.le_of_ble_eq_true rfl, Nat.le_of_ble_eq_true rfl⟩ hcl hl (Nat.le_of_ble_eq_true rfl) rfl d_law_408 (fun r u H locs hp hP hD hS => ?_)
  obtain ⟨u1, u2, u3⟩ := u
  obtain ⟨rfl, hp⟩ := hp
  dsimp only at hp
  have hP := hP.sub (ws' := cwL cs ad u1 u2 ++ mwL cs bd μ t9 ++ [ouL cs oc u3]) ([18, 19, 20, 21, 22, 23, 24, 25, 26, 27, 28, 29, 30, 31, 32, 33, 34, 35, 36, 37, 38, 39, 40, 41] ++ [0, 1, 2, 3, 4, 5, 6, 7, 8, 9, 10, 11, 12, 13, 14, 15, 16, 17] ++ [42]) rfl
  have hD := hD.sub (ws' := cwL cs ad u1 u2 ++ mwL cs bd μ t9 ++ [ouL cs oc u3]) ([18, 19, 20, 21, 22, 23, 24, 25, 26, 27, 28, 29, 30, 31, 32, 33, 34, 35, 36, 37, 38, 39, 40, 41] ++ [0, 1, 2, 3, 4, 5, 6, 7, 8, 9, 10, 11, 12, 13, 14, 15, 16, 17] ++ [42]) (by decide) rfl
  refine lv_istore (lv' := [(5, .int (nI (thWin (xs (nI (i + 1)).toNatClampNeg) (xs (nI (i + 2)).toNatClampNeg)))), (4, .int (nI i)), (0, .ref b), (1, .ref (ad 0)), (2, .ref (bd 0)), (3, .ref oc)]) hx hb d_law_411 hl (by decide) rfl (fun ls hl => ?_)
  refine lv_aload_n hx hb d_law_413 rfl (lv_at hl 4 rfl) ?_
  refine lv_aload_n hx hb d_law_414 rfl (lv_at hl 2 rfl) ?_
  refine lv_iload hx hb d_law_415 (lv_at hl 1 rfl) ?_
  refine lv_iconst (v := nI 1) hx hb d_law_417 (by decide) ?_
  refine rr_iadd (a := i) (b := 1) hx hb d_law_418 ?_
  refine va_sld hx hb hX hbl hbA hS (vp_in_nI (by omega) (by omega)) d_law_419 ?_
  refine lv_aload_n hx hb d_law_420 rfl (lv_at hl 2 rfl) ?_
  refine lv_iload hx hb d_law_421 (lv_at hl 1 rfl) ?_
  refine lv_iconst (v := nI 2) hx hb d_law_423 (by decide) ?_
  refine rr_iadd (a := i) (b := 2) hx hb d_law_424 ?_
  refine va_sld hx hb hX hbl hbA hS (vp_in_nI (by omega) (by omega)) d_law_425 ?_
  refine rr_mVi (As := [.int (xs (nI (i + 1)).toNatClampNeg), .int (xs (nI (i + 2)).toNatClampNeg)]) (rest := []) (idx := 105) (q0 := 24) (ci := 6) (wr := cwL cs ad u1 u2 ++ [ouL cs oc u3]) S hK hP hD hS hA (c_M_wind l D cs bd μ t9 (xs (nI (i + 1)).toNatClampNeg) (xs (nI (i + 2)).toNatClampNeg) hM  H.size) k_M_wind [24, 25, 26, 27, 28, 29, 30, 31, 32, 33, 34, 35, 36, 37, 38, 39, 40, 41] ([0, 1, 2, 3, 4, 5, 6, 7, 8, 9, 10, 11, 12, 13, 14, 15, 16, 17, 18, 19, 20, 21, 22, 23] ++ [42]) rfl (by decide) rfl (by decide) (by decide) rfl rfl rfl q_701 ⟨Nat.le_of_ble_eq_true rfl, Nat.le_of_ble_eq_true rfl⟩ hcl hl (Nat.le_of_ble_eq_true rfl) rfl d_law_426 (fun r9 u9 H locs hp9 hP hD hS => ?_)
  rcases hp with ⟨h0, e1, e2, e3⟩ | ⟨h0, e1⟩
  · have e1 := e1.symm
    have e2 := e2.symm
    subst e1
    subst e2
    rcases hp9 with ⟨-, e4, e5⟩ | ⟨z, -⟩
    · have e4 := e4.symm
      subst e4
      subst e5
      have hP := hP.sub (ws' := lwW cs ad bd oc (muWin μ (ix 7 (xs (nI (i + 1)).toNatClampNeg)) (ix 151 (xs (nI (i + 2)).toNatClampNeg))) ρ (thWin (xs (nI (i + 1)).toNatClampNeg) (xs (nI (i + 2)).toNatClampNeg)) u3) ([0, 1, 2, 3, 4, 5, 6, 7, 8, 9, 10, 11, 12, 13, 14, 15, 16, 17, 18, 19, 20, 21, 22, 23] ++ [25, 26, 27, 28, 29, 30, 31, 32, 33, 34, 35, 36, 37, 38, 39, 40, 41, 42] ++ [24]) rfl
      have hD := hD.sub (ws' := lwW cs ad bd oc (muWin μ (ix 7 (xs (nI (i + 1)).toNatClampNeg)) (ix 151 (xs (nI (i + 2)).toNatClampNeg))) ρ (thWin (xs (nI (i + 1)).toNatClampNeg) (xs (nI (i + 2)).toNatClampNeg)) u3) ([0, 1, 2, 3, 4, 5, 6, 7, 8, 9, 10, 11, 12, 13, 14, 15, 16, 17, 18, 19, 20, 21, 22, 23] ++ [25, 26, 27, 28, 29, 30, 31, 32, 33, 34, 35, 36, 37, 38, 39, 40, 41, 42] ++ [24]) (by decide) rfl
      exact lw_tail C1 (t := 429) hcl G (IM_win hM (by unfold thWin at h0; repeat (first | omega | split at h0))) (IC_win hC _ _) (thWin_le (xs (nI (i + 1)).toNatClampNeg) (xs (nI (i + 2)).toNatClampNeg)) (fun _ => e3) d_law_429 d_law_431 d_law_432 d_law_435 d_law_437 d_law_442 d_law_444 d_law_447 d_law_448 d_law_449 d_law_450 d_law_452 d_law_453 d_law_454 d_law_459 (by decide) hP hD hS hl
    · exact absurd h0 z
  · have e2 : μ = u1 := (congrArg (fun z => z.1) e1).symm
    have e3 : ρ = u2 := (congrArg (fun z => z.2.1) e1).symm
    have e4 : f = u3 := (congrArg (fun z => z.2.2) e1).symm
    subst e2
    subst e3
    subst e4
    rcases hp9 with ⟨z, -⟩ | ⟨-, e5⟩
    · exact absurd z h0
    · have e5 := e5.symm
      subst e5
      have hP := hP.sub (ws' := lwW cs ad bd oc μ ρ (thWin (xs (nI (i + 1)).toNatClampNeg) (xs (nI (i + 2)).toNatClampNeg)) f) ([0, 1, 2, 3, 4, 5, 6, 7, 8, 9, 10, 11, 12, 13, 14, 15, 16, 17, 18, 19, 20, 21, 22, 23] ++ [25, 26, 27, 28, 29, 30, 31, 32, 33, 34, 35, 36, 37, 38, 39, 40, 41, 42] ++ [24]) rfl
      have hD := hD.sub (ws' := lwW cs ad bd oc μ ρ (thWin (xs (nI (i + 1)).toNatClampNeg) (xs (nI (i + 2)).toNatClampNeg)) f) ([0, 1, 2, 3, 4, 5, 6, 7, 8, 9, 10, 11, 12, 13, 14, 15, 16, 17, 18, 19, 20, 21, 22, 23] ++ [25, 26, 27, 28, 29, 30, 31, 32, 33, 34, 35, 36, 37, 38, 39, 40, 41, 42] ++ [24]) (by decide) rfl
      exact lw_tail C1 (t := 429) hcl G hM hC (thWin_le (xs (nI (i + 1)).toNatClampNeg) (xs (nI (i + 2)).toNatClampNeg)) (fun z => absurd z h0) d_law_429 d_law_431 d_law_432 d_law_435 d_law_437 d_law_442 d_law_444 d_law_447 d_law_448 d_law_449 d_law_450 d_law_452 d_law_453 d_law_454 d_law_459 (by decide) hP hD hS hl
