set_option maxHeartbeats 4000000 in
set_option maxRecDepth 100000 in
/-- behind the last turn: the law ends -/
theorem rf_out {p : Program} {l : Launch} {e : Env} {s : State} {m : MethodId} {below : List Frame} {meth : Method} {c : Code} {b : Nat} {xs : Nat → Int32} {D : va_G} {cs : rr_C3} {ad : Nat → Nat} {μ ρ : NS} {cells slots : Nat} {H : Heap} {locs : List Loc} {ls : Array Slot} (C1 : rfC p l s m meth c b xs D cs) (hcl : cells ≤ 1200 ∧ slots ≤ 9000) (h : rfS s b D cs ad 60 16 0 764 μ ρ H locs ls) : W p l e rf_room s m #[Value.ref b] below meth c H locs cells slots (rf_Z below s 764) (F0 m 65 ls []) := by
  obtain ⟨S, hr, hlk, hfl, hX, hbl, hK, hY, hZ⟩ := id C1
  obtain ⟨hx, hb, hml, hown, ht⟩ := id S
  have hA : ∀ q : Nat, s.heap.size ≤ q → lwA s q := fun _ h => h
  have hbA : ¬ lwA s b := Nat.not_le.mpr hbl
  obtain ⟨hM, hC, hSC, hP, hD, hS, hl, hz⟩ := h
  refine lv_iload hx hb d_law_65 (lv_at hl 0 rfl) ?_
  refine lv_iload hx hb d_law_67 (lv_at hl 8 rfl) ?_
  refine rr_icmp_ge (a := 60) (b := 60) (tgt := 911) (by omega) (by omega) hx hb d_law_69 (by decide) (fun c69 => ?_) (fun c69 => ?_)
  · refine lv_iconst (v := nI 0) hx hb d_law_911 (by decide) ?_
    refine lv_istore (lv' := [(8, .int (nI 0)), (0, .ref b), (1, .ref (ad 0)), (2, .int (nI 16)), (3, .int (nI 0)), (4, .int (nI 0)), (5, .int (nI 0)), (6, .int (nI 1)), (7, .int (nI 60))]) hx hb d_law_912 hl (by decide) rfl (fun ls hl => ?_)
    refine lv_iconst (v := nI 0) hx hb d_law_914 (by decide) ?_
    refine lv_istore (lv' := [(9, .int (nI 0)), (8, .int (nI 0)), (0, .ref b), (1, .ref (ad 0)), (2, .int (nI 16)), (3, .int (nI 0)), (4, .int (nI 0)), (5, .int (nI 0)), (6, .int (nI 1)), (7, .int (nI 60))]) hx hb d_law_915 hl (by decide) rfl (fun ls hl => ?_)
    refine lv_iload hx hb d_law_917 (lv_at hl 0 rfl) ?_
    refine lv_iload_n hx hb d_law_919 rfl (lv_at hl 5 rfl) ?_
    refine rr_icmp_ge (a := 0) (b := 0) (tgt := 993) (by omega) (by omega) hx hb d_law_920 (by decide) (fun c920 => ?_) (fun c920 => ?_)
    · refine lv_iload hx hb d_law_993 (lv_at hl 8 rfl) ?_
      refine rr_if_eq (a := 1) (tgt := 1011) (by omega) hx hb d_law_995 (by decide) (fun c995 => ?_) (fun c995 => ?_)
      · exact (by omega : False).elim
      · refine lv_aload_n hx hb d_law_998 rfl (lv_at hl 3 rfl) ?_
        refine rr_rV (As := []) (rest := []) (idx := 127) (q0 := 0) (ci := 5) S hK hP (c_V_refunds l D cs ad μ ρ hM hC) k_V_refunds [0, 1, 2, 3, 4, 5, 6, 7, 8, 9, 10, 11, 12, 13, 14, 15, 16, 17, 18, 19, 20, 21, 22, 23] rfl rfl rfl rfl q_427 ⟨Nat.le_of_ble_eq_true rfl, Nat.le_of_ble_eq_true rfl⟩ ⟨(by show cells ≤ 1200; omega), (by show slots ≤ 9000; omega)⟩ hl (Nat.le_of_ble_eq_true rfl) rfl d_law_999 (fun r9 hr9 => ?_)
        subst hr9
        refine rr_top (show (nI (rsN (μ 18) (μ 17) (μ 21) (μ 15 0)) : Int32) = nI 0 from congrArg nI hSC.ref) ?_
        refine lv_iload hx hb d_law_1002 (lv_at hl 1 rfl) ?_
        refine rr_icmp_ne (a := 0) (b := 0) (tgt := 1011) (by omega) (by omega) hx hb d_law_1004 (by decide) (fun c1004 => ?_) (fun c1004 => ?_)
        · exact (by omega : False).elim
        · refine lv_iconst (v := nI 1) hx hb d_law_1007 (by decide) ?_
          refine lv_goto (tgt := 1012) hx hb d_law_1008 (by decide) ?_
          exact rf_ret hx hb hr hlk hz d_law_1012
    · exact (by omega : False).elim
  · exact (by omega : False).elim
/-- behind 16 cars: 28 refusals -/
theorem rf_loopN {p : Program} {l : Launch} {e : Env} {s : State} {m : MethodId} {below : List Frame} {meth : Method} {c : Code} {b : Nat} {xs : Nat → Int32} {D : va_G} {cs : rr_C3} {ad : Nat → Nat} (C1 : rfC p l s m meth c b xs D cs) (hxs : rfX xs) : ∀ (q j : Nat), j + q = 28 → ∀ (μ ρ : NS) (H : Heap) (locs : List Loc) (ls : Array Slot), rfS s b D cs ad (32 + j) 16 0 (288 + 17 * j) μ ρ H locs ls → W p l e rf_room s m #[Value.ref b] below meth c H locs (616 + 17 * j) (5129 + 102 * j) (rf_Z below s 764) (F0 m 65 ls []) := by
  intro q
  induction q with
  | zero =>
    intro j hj μ ρ H locs ls h
    have hj2 : j = 28 := by omega
    subst hj2
    exact rf_out C1 (by omega) h
  | succ q ih =>
    intro j hj μ ρ H locs ls h
    refine rf_itN C1 (by omega) (hxs.2.2 j (by omega)) (by omega) h (fun μ ρ H locs ls h => ?_)
    rw [show 288 + 17 * j + 1 + 16 = 288 + 17 * (j + 1) from by omega, show 32 + j + 1 = 32 + (j + 1) from by omega] at h
    rw [show 616 + 17 * j + 17 = 616 + 17 * (j + 1) from by omega, show 5129 + 102 * j + 102 = 5129 + 102 * (j + 1) from by omega]
    exact ih (j + 1) (by omega) μ ρ H locs ls h
/-- all turns: 16 times on and off, then the refusals -/
theorem rf_loop {p : Program} {l : Launch} {e : Env} {s : State} {m : MethodId} {below : List Frame} {meth : Method} {c : Code} {b : Nat} {xs : Nat → Int32} {D : va_G} {cs : rr_C3} {ad : Nat → Nat} (C1 : rfC p l s m meth c b xs D cs) (hxs : rfX xs) : ∀ (q j : Nat), j + q = 16 → ∀ (μ ρ : NS) (H : Heap) (locs : List Loc) (ls : Array Slot), rfS s b D cs ad (2 * j) j 0 (j * j + 2 * j) μ ρ H locs ls → W p l e rf_room s m #[Value.ref b] below meth c H locs (40 + 36 * j) (1673 + 216 * j) (rf_Z below s 764) (F0 m 65 ls []) := by
  intro q
  induction q with
  | zero =>
    intro j hj μ ρ H locs ls h
    have hj2 : j = 16 := by omega
    subst hj2
    exact rf_loopN C1 hxs 28 0 rfl μ ρ H locs ls h
  | succ q ih =>
    intro j hj μ ρ H locs ls h
    obtain ⟨x1, x2, x3⟩ := hxs.2.1 j (by omega)
    refine rf_itP C1 (by omega) (by omega) x1 (by omega) h (fun μ ρ H locs ls h => ?_)
    refine rf_itT C1 (by omega) (by omega) x2 x3 (by omega) h (fun μ ρ H locs ls h => ?_)
    have e9 : j * j + 2 * j + 1 + j + 1 + (j + 1) = (j + 1) * (j + 1) + 2 * (j + 1) := by rw [Nat.add_mul, Nat.mul_add]; omega
    rw [e9, show 2 * j + 1 + 1 = 2 * (j + 1) from by omega] at h
    rw [show 40 + 36 * j + 18 + 18 = 40 + 36 * (j + 1) from by omega, show 1673 + 216 * j + 108 + 108 = 1673 + 216 * (j + 1) from by omega]
    exact ih (j + 1) (by omega) μ ρ H locs ls h
