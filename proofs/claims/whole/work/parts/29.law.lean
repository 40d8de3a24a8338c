-- the law's state at its loop's head, what it stands on, the end that most of its cases share
abbrev lwA (s : State) : Nat → Prop := fun q => s.heap.size ≤ q
def lwW (cs : rr_C3) (ad bd : Nat → Nat) (oc : Nat) (μ ρ : NS) (th : Nat) (f : Nat → Int64) : va_W := cwL cs ad μ ρ ++ mwL cs bd μ th ++ [ouL cs oc f]
def lwC (p : Program) (l : Launch) (s : State) (m : MethodId) (meth : Method) (c : Code) (b L : Nat) (xs : Nat → Int32) (D : va_G) (cs : rr_C3) : Prop := CallFix p m c code 7 s #[Value.ref b] rr_all "RopeVotesLaw" ∧ meth.sig.returnType = ret ∧ meth.locks = false ∧ l.stackTraces = false ∧ L ≤ 2048 ∧ va_X b L xs s s.heap ∧ b < s.heap.size ∧ rr_K D cs s ∧ rr_Y s ∧ rr_X s ∧ rr_Z (lwA s) s s.heap
def lwS (s : State) (b : Nat) (D : va_G) (cs : rr_C3) (ad bd : Nat → Nat) (oc i : Nat) (μ ρ : NS) (t9 : Nat) (f : Nat → Int64) (H : Heap) (locs : List Loc) (ls : Array Slot) : Prop := IM μ ∧ IC μ ρ ∧ va_P D classes (lwW cs ad bd oc μ ρ t9 f) H ∧ va_D (lwA s) (lwW cs ad bd oc μ ρ t9 f) ∧ va_S (lwA s) s.heap H locs ∧ lv_has ls 7 [(4, .int (nI i)), (0, .ref b), (1, .ref (ad 0)), (2, .ref (bd 0)), (3, .ref oc)]
def lwGo (p : Program) (l : Launch) (e : Env) (s : State) (m : MethodId) (below : List Frame) (meth : Method) (c : Code) (b : Nat) (D : va_G) (cs : rr_C3) (ad bd : Nat → Nat) (oc i cells slots : Nat) : Prop := ∀ (μ ρ : NS) (t9 : Nat) (f : Nat → Int64) (H : Heap) (locs : List Loc) (ls : Array Slot), lwS s b D cs ad bd oc i μ ρ t9 f H locs ls → W p l e room_1 s m #[Value.ref b] below meth c H locs cells slots (lw_Z below #[Value.ref b] s) (F0 m 1329 ls [])
theorem thPut_le (μ : NS) : thPut μ ≤ 3 := by unfold thPut; repeat (first | omega | split)
theorem thOff_le (μ : NS) (x : Int32) : thOff μ x ≤ 3 := by unfold thOff; repeat (first | omega | split)
theorem thCar_le (μ : NS) (x : Int32) : thCar μ x ≤ 3 := by unfold thCar; repeat (first | omega | split)
theorem thTow_le (x : Int32) : thTow x ≤ 3 := by unfold thTow; repeat (first | omega | split)
theorem thWin_le (x w : Int32) : thWin x w ≤ 3 := by unfold thWin; repeat (first | omega | split)
theorem thLim_le (x a b : Int32) : thLim x a b ≤ 3 := by unfold thLim; repeat (first | omega | split)
theorem thPas_le (μ : NS) (x : Int32) : thPas μ x ≤ 3 := by unfold thPas; repeat (first | omega | split)
theorem thDec_le (μ : NS) (x : Int32) : thDec μ x ≤ 3 := by unfold thDec; repeat (first | omega | split)
theorem thMin_le (x : Int32) : thMin x ≤ 3 := by unfold thMin; repeat (first | omega | split)
theorem thBoa_le (μ : NS) (x p f : Int32) : thBoa μ x p f ≤ 3 := by unfold thBoa; repeat (first | omega | split)
theorem thTic_le (μ : NS) (x : Int32) : thTic μ x ≤ 3 := by unfold thTic; repeat (first | omega | split)
theorem IC_win {μ ρ : NS} (hC : IC μ ρ) (k w : Nat) : IC (muWin μ k w) ρ := ⟨hC.1, hC.2.1, hC.2.2.1, hC.2.2.2.1, hC.2.2.2.2⟩
theorem IC_lim {μ ρ : NS} (hC : IC μ ρ) (k a b : Nat) : IC (muLim μ k a b) ρ := ⟨hC.1, hC.2.1, hC.2.2.1, hC.2.2.2.1, hC.2.2.2.2⟩
theorem IC_cut {μ ρ : NS} (hC : IC μ ρ) (k b : Nat) : IC (muCut μ k b) ρ := ⟨hC.1, hC.2.1, hC.2.2.1, hC.2.2.2.1, hC.2.2.2.2⟩
theorem IC_hol {μ ρ : NS} (hC : IC μ ρ) (b : Nat) : IC (muHol μ b) ρ := ⟨hC.1, hC.2.1, hC.2.2.1, hC.2.2.2.1, hC.2.2.2.2⟩
section LW1
variable {p : Program} {l : Launch} {e : Env} {s : State} {m : MethodId} {below : List Frame} {meth : Method} {c : Code} {b L : Nat} {xs : Nat → Int32} {D : va_G} {cs : rr_C3} {ad bd : Nat → Nat} {oc i cells slots : Nat}
set_option maxHeartbeats 4000000 in
set_option maxRecDepth 100000 in
/-- behind the model's call: the codes agree, and without a refusal the answers -/
theorem lw_tail {μ ρ : NS} {f : Nat → Int64} {H : Heap} {locs : List Loc} {ls : Array Slot} {th t : Nat} {r : Int32} {off : Int} (C1 : lwC p l s m meth c b L xs D cs) (hcl : cells ≤ 1090 ∧ slots ≤ 11478) (G : lwGo p l e s m below meth c b D cs ad bd oc i cells slots) (hM : IM μ) (hC : IC μ ρ) (hth : th ≤ 3) (hf : th = 0 → f 0 = Int32.toInt64 r)
    (d0 : decode code t = .ok (.istore 6, 2)) (d2 : decode code (t + 2) = .ok (.aload_n 2, 1)) (d3 : decode code (t + 3) = .ok (.invokevirtual 81, 3)) (d6 : decode code (t + 6) = .ok (.iload 5, 2)) (d8 : decode code (t + 8) = .ok (.if_icmp .eq 5, 3)) (d13 : decode code (t + 13) = .ok (.iload 5, 2)) (d15 : decode code (t + 15) = .ok (.ifCond .ne 15, 3)) (d18 : decode code (t + 18) = .ok (.aload_n 3, 1)) (d19 : decode code (t + 19) = .ok (.iconst 0, 1)) (d20 : decode code (t + 20) = .ok (.laload, 1)) (d21 : decode code (t + 21) = .ok (.iload 6, 2)) (d23 : decode code (t + 23) = .ok (.i2l, 1)) (d24 : decode code (t + 24) = .ok (.lcmp, 1)) (d25 : decode code (t + 25) = .ok (.ifCond .eq 5, 3)) (d30 : decode code (t + 30) = .ok (.goto off, 3)) (hoff : ((t + 30 : Nat) : Int) + off = (1329 : Nat))
    (hP : va_P D classes (lwW cs ad bd oc μ ρ th f) H) (hD : va_D (lwA s) (lwW cs ad bd oc μ ρ th f)) (hS : va_S (lwA s) s.heap H locs) (hl : lv_has ls 7 [(5, .int (nI th)), (4, .int (nI i)), (0, .ref b), (1, .ref (ad 0)), (2, .ref (bd 0)), (3, .ref oc)]) :
    W p l e room_1 s m #[Value.ref b] below meth c H locs cells slots (lw_Z below #[Value.ref b] s) (F0 m t ls [.int r]) := by
  obtain ⟨S, hr, hlk, hfl, hL, hX, hbl, hK, hY, hX9, hZ⟩ := C1
  obtain ⟨hx, hb, hml, hown, ht⟩ := id S
  refine lv_istore (lv' := [(6, .int r), (5, .int (nI th)), (4, .int (nI i)), (0, .ref b), (1, .ref (ad 0)), (2, .ref (bd 0)), (3, .ref oc)]) hx hb d0 hl (by decide) rfl (fun ls hl => ?_)
  have hlE : lv_has ls 7 [(4, .int (nI i)), (0, .ref b), (1, .ref (ad 0)), (2, .ref (bd 0)), (3, .ref oc)] := lv_sub hl [2, 3, 4, 5, 6] rfl
  refine lv_aload_n hx hb d2 rfl (lv_at hl 5 rfl) ?_
  refine rr_rV (As := []) (rest := []) (idx := 81) (q0 := 24) (ci := 6) S hK hP (c_M_thrown l D cs (bd 0) (.int (nI (μ 0 0))) (.int (nI (μ 1 0))) (.int (nI (μ 2 0))) (.int (nI (μ 3 0))) (.ref (bd 1)) (.ref (bd 2)) (.ref (bd 3)) (.ref (bd 4)) (.ref (bd 5)) (.ref (bd 6)) (.ref (bd 7)) (.ref (bd 8)) (.ref (bd 9)) (.ref (bd 10)) (.ref (bd 11)) (.int (nI (μ 15 0))) (.ref (bd 12)) (.ref (bd 13)) (.ref (bd 14)) (.ref (bd 15)) (.ref (bd 16)) (.ref (bd 17)) th) k_M_thrown [24] rfl rfl rfl rfl q_654 ⟨Nat.le_of_ble_eq_true rfl, Nat.le_of_ble_eq_true rfl⟩ hcl hl (Nat.le_of_ble_eq_true rfl) rfl d3 (fun r9 hr9 => ?_)
  subst hr9
  refine lv_iload hx hb d6 (lv_at hl 1 rfl) ?_
  refine lv_icmp_eq (tgt := t + 13) hx hb d8 (by omega) (fun _ => ?_) (fun z => absurd rfl z)
  refine lv_iload hx hb d13 (lv_at hl 1 rfl) ?_
  refine rr_if_ne (a := th) (tgt := t + 30) (by omega) hx hb d15 (by omega) (fun h => ?_) (fun h => ?_)
  · refine lv_goto (tgt := 1329) hx hb d30 hoff ?_
    exact G μ ρ th f H locs ls ⟨hM, hC, hP, hD, hS, hlE⟩
  · refine lv_aload_n hx hb d18 rfl (lv_at hl 6 rfl) ?_
    refine lv_iconst (v := nI 0) hx hb d19 (by decide) ?_
    refine va_lald hx hb hK.1 hP 42 2 (f := f) rfl rfl (vp_in_nI (by decide) (by decide)) d20 ?_
    have e0 : f (nI 0).toNatClampNeg = Int32.toInt64 r := by rw [nI_clamp (by decide)]; exact hf h
    rw [e0]
    refine lv_iload hx hb d21 (lv_at hl 0 rfl) ?_
    refine lv_i2l (v := Int32.toInt64 r) hx hb d23 rfl ?_
    refine rr_lcmp hx hb d24 ?_
    refine lv_if_eq (tgt := t + 30) hx hb d25 (by omega) (fun _ => ?_) (fun z => absurd rfl z)
    refine lv_goto (tgt := 1329) hx hb d30 hoff ?_
    exact G μ ρ th f H locs ls ⟨hM, hC, hP, hD, hS, hlE⟩
end LW1
theorem lw_and (x : Int32) : ∃ k : Nat, k < 32 ∧ x &&& nI 31 = nI k := by
  refine ⟨(x &&& nI 31).toBitVec.toNat, ?_, ?_⟩
  · rw [Int32.toBitVec_and, BitVec.toNat_and]
    have h : (nI 31).toBitVec.toNat = 31 := by decide
    rw [h]
    exact Nat.lt_succ_of_le Nat.and_le_right
  · refine Int32.toBitVec_inj.mp ?_
    show _ = BitVec.ofNat 32 _
    rw [BitVec.ofNat_toNat, BitVec.setWidth_eq]
