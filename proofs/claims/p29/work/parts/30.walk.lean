set_option maxHeartbeats 4000000 in
set_option maxRecDepth 100000 in
/-- the law on this road, from its entry -/
theorem rf_start {p : Program} {l : Launch} {e : Env} {s : State} {m : MethodId} {below : List Frame} {meth : Method} {c : Code} {b : Nat} {xs : Nat → Int32} {D : va_G} {cs : rr_C3} (C1 : rfC p l s m meth c b xs D cs) (hxs : rfX xs) : W p l e rf_room s m #[Value.ref b] below meth c s.heap [] 0 0 (rf_Z below s 764) (entryFrame m ([Value.ref b] : List Value).toArray 18) := by
  obtain ⟨S, hr, hlk, hfl, hX, hbl, hK, hY, hZ⟩ := id C1
  obtain ⟨hx, hb, hml, hown, ht⟩ := id S
  have hA : ∀ q : Nat, s.heap.size ≤ q → lwA s q := fun _ h => h
  have hbA : ¬ lwA s b := Nat.not_le.mpr hbl
  have hS : va_S (lwA s) s.heap s.heap [] := va_S.rf
  have hP : va_P D classes [] s.heap := fun k q h => by simp at h
  have hD : va_D (lwA s) [] := ⟨fun i j p q h => by simp at h, fun k q h => by simp at h⟩
  have hl := lv_entry ([.ref b]) (n := 18) (Nat.le_of_ble_eq_true rfl)
  rw [lg_entry_eq]
  generalize (lg_sl ([.ref b]) ++ List.replicate (18 - (lg_sl ([.ref b])).length) Slot.unset).toArray = ls at hl ⊢
  have hl : lv_has ls 18 [(0, .ref b)] := hl
  refine va_new (ci := 5) (fs := [.null, .null, .null, .null, .null, .null, .int (nI 0), .int (nI 0), .int (nI 0)]) (C := R_V) (T := F_V) (N := 9) hx hb ht j_V t_V t_V_ok hown (ht _ q_15) (ht _ q_16) (ht _ q_1) hK.1 hP hD hS hA rfl (fun j hj => by rcases (show j = 0 ∨ j = 1 ∨ j = 2 ∨ j = 3 ∨ j = 4 ∨ j = 5 ∨ j = 6 ∨ j = 7 ∨ j = 8 by omega) with rfl | rfl | rfl | rfl | rfl | rfl | rfl | rfl | rfl <;> rfl) (Nat.le_of_ble_eq_true rfl) (Nat.le_of_ble_eq_true rfl) d_law_0 (fun q0 H hP hD hS => ?_)
  have hP : va_P D classes [(q0, .inr (5, [.null, .null, .null, .null, .null, .null, .int (nI 0), .int (nI 0), .int (nI 0)]))] H := hP
  have hD : va_D (lwA s) [(q0, .inr (5, [.null, .null, .null, .null, .null, .null, .int (nI 0), .int (nI 0), .int (nI 0)]))] := hD
  refine lv_dup hx hb d_law_3 rfl ?_
  refine rr_cI (As := []) (rest := [.ref q0]) (idx := 68) (wr := []) S hK hP hD hS hA (c_V_init l D cs q0 H.size) k_V_init [0] [] rfl (by decide) rfl (by decide) (by decide) q_17 ⟨Nat.le_of_ble_eq_true rfl, Nat.le_of_ble_eq_true rfl⟩ ⟨Nat.le_of_ble_eq_true rfl, Nat.le_of_ble_eq_true rfl⟩ hl (Nat.le_of_ble_eq_true rfl) rfl d_law_4 (fun ad H locs had hP1 hD1 hS1 => ?_)
  subst had
  have hP : va_P D classes (cwL cs ad mu0 ro0) H := hP1
  have hD : va_D (lwA s) (cwL cs ad mu0 ro0) := hD1
  have hS := hS1
  have hz : s.heap.size + (0) ≤ H.size := hS1.1
  have hM := IM_0
  have hC := IC_0
  have hSC := SC_0
  refine lv_astore_n (lv' := [(1, .ref (ad 0)), (0, .ref b)]) hx hb d_law_7 rfl hl (by decide) rfl (fun ls hl => ?_)
  refine lv_iconst (v := nI 0) hx hb d_law_8 (by decide) ?_
  refine lv_istore_n (lv' := [(2, .int (nI 0)), (1, .ref (ad 0)), (0, .ref b)]) hx hb d_law_9 rfl hl (by decide) rfl (fun ls hl => ?_)
  refine lv_iconst (v := nI 0) hx hb d_law_10 (by decide) ?_
  refine lv_istore_n (lv' := [(3, .int (nI 0)), (2, .int (nI 0)), (1, .ref (ad 0)), (0, .ref b)]) hx hb d_law_11 rfl hl (by decide) rfl (fun ls hl => ?_)
  refine lv_iconst (v := nI 0) hx hb d_law_12 (by decide) ?_
  refine lv_istore (lv' := [(4, .int (nI 0)), (3, .int (nI 0)), (2, .int (nI 0)), (1, .ref (ad 0)), (0, .ref b)]) hx hb d_law_13 hl (by decide) rfl (fun ls hl => ?_)
  refine lv_iconst (v := nI 0) hx hb d_law_15 (by decide) ?_
  refine lv_istore (lv' := [(5, .int (nI 0)), (4, .int (nI 0)), (3, .int (nI 0)), (2, .int (nI 0)), (1, .ref (ad 0)), (0, .ref b)]) hx hb d_law_16 hl (by decide) rfl (fun ls hl => ?_)
  refine lv_aload_n hx hb d_law_18 rfl (lv_at hl 4 rfl) ?_
  refine rr_rSW (As := [.ref (ad 0)]) (rest := []) (idx := 69) S hK hP (c_A_votes l D cs ad mu0 ro0 (0) 0 hM hC hSC) k_A_votes [0, 1, 2, 3, 4, 5, 6, 7, 8, 9, 10, 11, 12, 13, 14, 15, 16, 17, 18, 19, 20, 21, 22, 23] rfl q_500 ⟨Nat.le_of_ble_eq_true rfl, Nat.le_of_ble_eq_true rfl⟩ ⟨(by exact Nat.le_of_ble_eq_true rfl), (by exact Nat.le_of_ble_eq_true rfl)⟩ hl (Nat.le_of_ble_eq_true rfl) rfl d_law_19 (fun r9 hr9 => ?_)
  subst hr9
  refine rr_if_eq (a := 1) (tgt := 44) (by omega) hx hb d_law_22 (by decide) (fun c22 => ?_) (fun c22 => ?_)
  · exact (by omega : False).elim
  · refine lv_aload_n hx hb d_law_25 rfl (lv_at hl 4 rfl) ?_
    refine lv_iconst (v := nI 0) hx hb d_law_26 (by decide) ?_
    refine rf_cS (As := [.ref (ad 0), .int (nI (0))]) (rest := []) (idx := 73) (wr := []) S hK hY hZ hP hD hS hA (c_A_cars l D cs ad mu0 ro0 (0) 0 hM hC hSC (by omega) (by omega) (by omega) hfl H.size) k_A_cars [0, 1, 2, 3, 4, 5, 6, 7, 8, 9, 10, 11, 12, 13, 14, 15, 16, 17, 18, 19, 20, 21, 22, 23] [] rfl (by decide) rfl (by decide) (by decide) q_526 ⟨Nat.le_of_ble_eq_true rfl, Nat.le_of_ble_eq_true rfl⟩ ⟨(by exact Nat.le_of_ble_eq_true rfl), (by exact Nat.le_of_ble_eq_true rfl)⟩ hl (Nat.le_of_ble_eq_true rfl) rfl d_law_27 (fun H locs hP hD hS hz9 => ?_)
    have hP : va_P D classes (cwL cs ad mu0 ro0) H := hP
    have hD : va_D (lwA s) (cwL cs ad mu0 ro0) := hD
    have hz : s.heap.size + (0) ≤ H.size := by omega
    refine rr_if_eq (a := 1) (tgt := 44) (by omega) hx hb d_law_30 (by decide) (fun c30 => ?_) (fun c30 => ?_)
    · exact (by omega : False).elim
    · refine lv_aload_n hx hb d_law_33 rfl (lv_at hl 4 rfl) ?_
      refine rr_rV (As := []) (rest := []) (idx := 76) (q0 := 0) (ci := 5) S hK hP (c_V_wouldDecide l D cs (ad 0) (ad 4) (ad 16) (ad 17) (.ref (ad 1)) (.ref (ad 2)) (.ref (ad 3)) (.ref (ad 5)) (.ref (ad 6)) (.int (nI (mu0 1 0))) (mu0 0 0) (mu0 2 0) (ro0 4) (mu0 12) (hC.cb hM) (fun j hj => hM.2.2.2.2.2.2.2.2.2.2.2.1 j hj) hM.1 hM.2.2.1) k_V_wouldDecide [0, 4, 16, 17] rfl rfl rfl rfl q_273 ⟨Nat.le_of_ble_eq_true rfl, Nat.le_of_ble_eq_true rfl⟩ ⟨Nat.le_of_ble_eq_true rfl, Nat.le_of_ble_eq_true rfl⟩ hl (Nat.le_of_ble_eq_true rfl) rfl d_law_34 (fun r9 hr9 => ?_)
      rw [hSC.dec] at hr9
      subst hr9
      refine rr_if_ne (a := 0) (tgt := 44) (by omega) hx hb d_law_37 (by decide) (fun c37 => ?_) (fun c37 => ?_)
      · exact (by omega : False).elim
      · refine lv_iconst (v := nI 1) hx hb d_law_40 (by decide) ?_
        refine lv_goto (tgt := 45) hx hb d_law_41 (by decide) ?_
        refine lv_istore (lv' := [(6, .int (nI 1)), (5, .int (nI 0)), (4, .int (nI 0)), (3, .int (nI 0)), (2, .int (nI 0)), (1, .ref (ad 0)), (0, .ref b)]) hx hb d_law_45 hl (by decide) rfl (fun ls hl => ?_)
        refine lv_bipush (v := nI 6) hx hb d_law_47 (by decide) ?_
        refine lv_aload_n hx hb d_law_49 rfl (lv_at hl 6 rfl) ?_
        refine lv_iconst (v := nI 0) hx hb d_law_50 (by decide) ?_
        refine rf_sx (As := [.ref b, .int (nI 0)]) (rest := [.int (nI 6)]) (idx := 79) S hK hX hbl hbA hS (c_A_cell l D cs b 61 xs 0 (by omega) (by decide)) k_A_cell q_440 ⟨Nat.le_of_ble_eq_true rfl, Nat.le_of_ble_eq_true rfl⟩ ⟨(by exact Nat.le_of_ble_eq_true rfl), (by exact Nat.le_of_ble_eq_true rfl)⟩ hl (Nat.le_of_ble_eq_true rfl) rfl d_law_51 (fun r9 hr9 => ?_)
        subst hr9
        refine lv_bipush (v := nI 55) hx hb d_law_54 (by decide) ?_
        refine rr_rS (As := [.int (xs 0), .int (nI 55)]) (rest := [.int (nI 6)]) (idx := 83) S hK (c_A_low l D cs (xs 0) (nI 55) (by decide)) k_A_low q_436 ⟨Nat.le_of_ble_eq_true rfl, Nat.le_of_ble_eq_true rfl⟩ ⟨(by exact Nat.le_of_ble_eq_true rfl), (by exact Nat.le_of_ble_eq_true rfl)⟩ hl (Nat.le_of_ble_eq_true rfl) rfl d_law_56 (fun r9 hr9 => ?_)
        subst hr9
        refine rr_top (show (lowI (xs 0) (nI 55) : Int32) = nI 54 from hxs.1) ?_
        refine rr_iadd (a := 6) (b := 54) hx hb d_law_59 ?_
        refine rr_top (show (nI (6 + 54) : Int32) = nI 60 from rfl) ?_
        refine lv_istore (lv' := [(7, .int (nI 60)), (6, .int (nI 1)), (5, .int (nI 0)), (4, .int (nI 0)), (3, .int (nI 0)), (2, .int (nI 0)), (1, .ref (ad 0)), (0, .ref b)]) hx hb d_law_60 hl (by decide) rfl (fun ls hl => ?_)
        refine lv_iconst (v := nI 0) hx hb d_law_62 (by decide) ?_
        refine lv_istore (lv' := [(8, .int (nI 0)), (7, .int (nI 60)), (6, .int (nI 1)), (5, .int (nI 0)), (4, .int (nI 0)), (3, .int (nI 0)), (2, .int (nI 0)), (1, .ref (ad 0)), (0, .ref b)]) hx hb d_law_63 hl (by decide) rfl (fun ls hl => ?_)
        exact rf_loop C1 hxs 16 0 rfl mu0 ro0 H locs ls ⟨hM, hC, hSC, hP, hD, hS, lv_sub hl [0, 8, 7, 6, 5, 4, 3, 2, 1] rfl, hz⟩
