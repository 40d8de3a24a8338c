theorem lw_str {s : State} {args : Array Value} {k : Nat} {tx : String} (h1 : (Cond.stringRef "RopeVotes" k tx).before args s = true) (h2 : (Cond.exactly (.string "RopeVotes" k) "java/lang/String").before args s = true) : ∃ sa : Nat, vk_R "RopeVotes" k tx sa s := by
  obtain ⟨a, c9, cell, k9, he, -⟩ := Cond.exactly_spec h2
  exact ⟨a, vk_R.of h1 he⟩
theorem lw_arr {s : State} {args : Array Value} {ty : FieldType} (h : (Cond.arrayClass ty).before args s = true) : ∃ cA : ClassId, ArrOfT s cA ty ∧ s.vm.findClass ("[" ++ ty.toString) = some cA := by
  obtain ⟨cA, kA, comp, f1, f2, f3⟩ := Cond.arrayClass_spec h
  exact ⟨cA, fun N z => ⟨fun k h => (by cases h), kA, f2, comp, f3⟩, f1⟩
set_option maxHeartbeats 4000000 in
set_option maxRecDepth 100000 in
theorem lw_Y {s : State} {b : Nat} (hts : ∀ w ∈ lw_tbl, w.before #[Value.ref b] s = true) (hgv : (Jvm.Cond.and given_1 narrow_1).before #[Value.ref b] s = true) : rr_Y s := by
  have hfl := flat_of_before _ hgv
  have h1 : ∀ X ∈ rr_xc, (Cond.castable X X).before #[Value.ref b] s = true := (List.forall_mem_cons.mpr ⟨hts (.castable eS eS) (List.mem_of_getElem? (i := 272) rfl), (List.forall_mem_cons.mpr ⟨hts (.castable eI eI) (List.mem_of_getElem? (i := 356) rfl), (List.forall_mem_cons.mpr ⟨hts (.castable eA eA) (List.mem_of_getElem? (i := 406) rfl), (fun _ h => absurd h List.not_mem_nil)⟩)⟩)⟩)
  have h2 : ∀ y ∈ rr_xd, (Cond.declares y).before #[Value.ref b] s = true := (List.forall_mem_cons.mpr ⟨hts _ (List.mem_of_getElem? (i := 274) rfl), (List.forall_mem_cons.mpr ⟨hts _ (List.mem_of_getElem? (i := 276) rfl), (List.forall_mem_cons.mpr ⟨hts _ (List.mem_of_getElem? (i := 278) rfl), (fun _ h => absurd h List.not_mem_nil)⟩)⟩)⟩)
  refine ⟨fun X hX => va_Nw.of rfl (h1 X hX), fun y hy => va_Nw.of rfl (h2 y hy), ?_⟩
  exact (List.forall_mem_cons.mpr ⟨lw_str (hts _ (List.mem_of_getElem? (i := 311) rfl)) (hfl (.exactly (.string "RopeVotes" 65) "java/lang/String") (by decide +kernel)), (List.forall_mem_cons.mpr ⟨lw_str (hts _ (List.mem_of_getElem? (i := 363) rfl)) (hfl (.exactly (.string "RopeVotes" 80) "java/lang/String") (by decide +kernel)), (List.forall_mem_cons.mpr ⟨lw_str (hts _ (List.mem_of_getElem? (i := 377) rfl)) (hfl (.exactly (.string "RopeVotes" 92) "java/lang/String") (by decide +kernel)), (List.forall_mem_cons.mpr ⟨lw_str (hts _ (List.mem_of_getElem? (i := 403) rfl)) (hfl (.exactly (.string "RopeVotes" 111) "java/lang/String") (by decide +kernel)), (List.forall_mem_cons.mpr ⟨lw_str (hts _ (List.mem_of_getElem? (i := 413) rfl)) (hfl (.exactly (.string "RopeVotes" 115) "java/lang/String") (by decide +kernel)), (List.forall_mem_cons.mpr ⟨lw_str (hts _ (List.mem_of_getElem? (i := 431) rfl)) (hfl (.exactly (.string "RopeVotes" 124) "java/lang/String") (by decide +kernel)), (List.forall_mem_cons.mpr ⟨lw_str (hts _ (List.mem_of_getElem? (i := 464) rfl)) (hfl (.exactly (.string "RopeVotes" 153) "java/lang/String") (by decide +kernel)), (List.forall_mem_cons.mpr ⟨lw_str (hts _ (List.mem_of_getElem? (i := 465) rfl)) (hfl (.exactly (.string "RopeVotes" 155) "java/lang/String") (by decide +kernel)), (List.forall_mem_cons.mpr ⟨lw_str (hts _ (List.mem_of_getElem? (i := 532) rfl)) (hfl (.exactly (.string "RopeVotes" 160) "java/lang/String") (by decide +kernel)), (List.forall_mem_cons.mpr ⟨lw_str (hts _ (List.mem_of_getElem? (i := 540) rfl)) (hfl (.exactly (.string "RopeVotes" 162) "java/lang/String") (by decide +kernel)), (List.forall_mem_cons.mpr ⟨lw_str (hts _ (List.mem_of_getElem? (i := 548) rfl)) (hfl (.exactly (.string "RopeVotes" 164) "java/lang/String") (by decide +kernel)), (List.forall_mem_cons.mpr ⟨lw_str (hts _ (List.mem_of_getElem? (i := 554) rfl)) (hfl (.exactly (.string "RopeVotes" 172) "java/lang/String") (by decide +kernel)), (List.forall_mem_cons.mpr ⟨lw_str (hts _ (List.mem_of_getElem? (i := 577) rfl)) (hfl (.exactly (.string "RopeVotes" 179) "java/lang/String") (by decide +kernel)), (fun _ h => absurd h List.not_mem_nil)⟩)⟩)⟩)⟩)⟩)⟩)⟩)⟩)⟩)⟩)⟩)⟩)⟩)
set_option maxHeartbeats 4000000 in
set_option maxRecDepth 100000 in
theorem lw_XZ {s : State} {b : Nat} (hts : ∀ w ∈ lw_tbl, w.before #[Value.ref b] s = true) (hgv : (Jvm.Cond.and given_1 narrow_1).before #[Value.ref b] s = true) : rr_X s ∧ rr_Z (lwA s) s s.heap := by
  have hfl := flat_of_before _ hgv
  have hnA : ∀ a : Nat, a < s.heap.size → ¬ lwA s a := fun a ha h => absurd ha (Nat.not_lt.mpr h)
  refine ⟨⟨va_Nc.of (args := #[Value.ref b]) (hfl (.not (.castable eS eI)) (by decide +kernel)), va_Nc.of (args := #[Value.ref b]) (hfl (.not (.castable eA eI)) (by decide +kernel)), va_Nc.of (args := #[Value.ref b]) (hfl (.not (.castable eS eA)) (by decide +kernel))⟩, ?_, ?_⟩
  · exact vx_Zqof (args := #[Value.ref b]) (hts (.laysStatic Bundle.tN "UNASSIGNED_STACK" Bundle.steD) (List.mem_of_getElem? (i := 297) rfl)) (hts (.initialized Bundle.tN) (List.mem_of_getElem? (i := 24) rfl)) (hfl (.isRef (.static Bundle.tN "UNASSIGNED_STACK" Bundle.steD)) (by decide +kernel)) hnA
  · exact vx_Zqof (args := #[Value.ref b]) (hts (.laysStatic Bundle.tN "SUPPRESSED_SENTINEL" Bundle.listD) (List.mem_of_getElem? (i := 299) rfl)) (hts (.initialized Bundle.tN) (List.mem_of_getElem? (i := 24) rfl)) (hfl (.isRef (.static Bundle.tN "SUPPRESSED_SENTINEL" Bundle.listD)) (by decide +kernel)) hnA
set_option maxHeartbeats 4000000 in
set_option maxRecDepth 100000 in
theorem lw_K {s : State} {b : Nat} (hts : ∀ w ∈ lw_tbl, w.before #[Value.ref b] s = true) : ∃ (D : va_G) (cs : rr_C3), rr_K D cs s := by
  have ht : ∀ w ∈ rr_all, w.before #[Value.ref b] s = true := fun w h => hts w (List.mem_filter.mp h).1
  obtain ⟨c0, i0, hKn0⟩ := u_known (C := R_C) (T := F_C) (N := 2) (n := 2) ht j_C (ht _ q_85)
  obtain ⟨c1, i1, hKn1⟩ := u_known (C := R_L) (T := F_L) (N := 4) (n := 4) ht j_L (ht _ q_25)
  obtain ⟨c2, i2, hKn2⟩ := u_known (C := R_P) (T := F_P) (N := 2) (n := 2) ht j_P (ht _ q_72)
  obtain ⟨c3, i3, hKn3⟩ := u_known (C := R_K) (T := F_K) (N := 7) (n := 7) ht j_K (ht _ q_100)
  obtain ⟨c4, i4, hKn4⟩ := u_known (C := R_W) (T := F_W) (N := 4) (n := 4) ht j_W (ht _ q_49)
  obtain ⟨c5, i5, hKn5⟩ := u_known (C := R_V) (T := F_V) (N := 9) (n := 9) ht j_V (ht _ q_17)
  obtain ⟨c6, i6, hKn6⟩ := u_known (C := R_M) (T := F_M) (N := 23) (n := 23) ht j_M (ht _ q_579)
  obtain ⟨dC, dI, hKc⟩ : ∃ (dC : Nat → ClassId) (dI : Nat → Nat → Nat), ∀ (k : Nat) (q : vw_C), classes[k]? = some q → u_Kn s q.1 q.2.1 q.2.2 (dC k) (dI k) := by
    refine ⟨fun k => if k = 0 then c0 else if k = 1 then c1 else if k = 2 then c2 else if k = 3 then c3 else if k = 4 then c4 else if k = 5 then c5 else c6, fun k => if k = 0 then i0 else if k = 1 then i1 else if k = 2 then i2 else if k = 3 then i3 else if k = 4 then i4 else if k = 5 then i5 else i6, ?_⟩
    intro k q hq
    match k, hq with
    | 0, hq => cases hq; exact hKn0
    | 1, hq => cases hq; exact hKn1
    | 2, hq => cases hq; exact hKn2
    | 3, hq => cases hq; exact hKn3
    | 4, hq => cases hq; exact hKn4
    | 5, hq => cases hq; exact hKn5
    | 6, hq => cases hq; exact hKn6
    | k + 7, hq => simp [classes] at hq
  obtain ⟨cI, aI, fI⟩ := lw_arr (ht _ q_46)
  obtain ⟨cZ, aZ, fZ⟩ := lw_arr (ht _ q_47)
  obtain ⟨cJ, aJ, fJ⟩ := lw_arr (ht _ q_823)
  refine ⟨(dC, dI), (cI, cZ, cJ), ⟨hKc, fun k q hq => ?_⟩, ?_⟩
  · match k, hq with
    | 0, hq => cases hq; exact ⟨aI, fI⟩
    | 1, hq => cases hq; exact ⟨aZ, fZ⟩
    | 2, hq => cases hq; exact ⟨aJ, fJ⟩
    | k + 3, hq => simp at hq
  · exact (List.forall_mem_cons.mpr ⟨va_Nw.of rfl (hts _ (List.mem_of_getElem? (i := 41) rfl)), (List.forall_mem_cons.mpr ⟨va_Nw.of rfl (hts _ (List.mem_of_getElem? (i := 88) rfl)), (List.forall_mem_cons.mpr ⟨va_Nw.of rfl (hts _ (List.mem_of_getElem? (i := 116) rfl)), (List.forall_mem_cons.mpr ⟨va_Nw.of rfl (hts _ (List.mem_of_getElem? (i := 188) rfl)), (List.forall_mem_cons.mpr ⟨va_Nw.of rfl (hts _ (List.mem_of_getElem? (i := 522) rfl)), (fun _ h => absurd h List.not_mem_nil)⟩)⟩)⟩)⟩)⟩)
set_option maxHeartbeats 4000000 in
set_option maxRecDepth 100000 in
/-- the law, from its entry -/
theorem whole_start {p : Program} {e : Env} {s : State} {m : MethodId} {below : List Frame} {meth : Method} {c : Code} (l : Launch) (hflags : l.flags = flags0) {b L : Nat} {xs : Nat → Int32} (hL : L ≤ 2048) (C0 : lw_At p s m meth c b L xs) : W p l e room_1 s m #[Value.ref b] below meth c s.heap [] 0 0 (lw_Z below #[Value.ref b] s) (entryFrame m ([Value.ref b] : List Value).toArray 7) := by
  obtain ⟨hx, hb, hr, hml, hown, hts, hX, hbl, hlocks, hgv⟩ := id C0
  have hfl : l.stackTraces = false := by unfold Launch.stackTraces; rw [hflags]; decide +kernel
  have ht : ∀ w ∈ rr_all, w.before #[Value.ref b] s = true := fun w h => hts w (List.mem_filter.mp h).1
  obtain ⟨D, cs, hK⟩ := lw_K hts
  have hY := lw_Y hts hgv
  obtain ⟨hX9, hZ⟩ := lw_XZ hts hgv
  have S : CallFix p m c code 7 s #[Value.ref b] rr_all "RopeVotesLaw" := ⟨hx, hb, hml, hown, ht⟩
  have C1 : lwC p l s m meth c b L xs D cs := ⟨S, hr, hlocks, hfl, hL, hX, hbl, hK, hY, hX9, hZ⟩
  have hA : ∀ q : Nat, s.heap.size ≤ q → lwA s q := fun _ h => h
  have hS : va_S (lwA s) s.heap s.heap [] := va_S.rf
  have hP : va_P D classes [] s.heap := fun k q h => by simp at h
  have hD : va_D (lwA s) [] := ⟨fun i j p q h => by simp at h, fun k q h => by simp at h⟩
  have hl := lv_entry ([.ref b]) (n := 7) (Nat.le_of_ble_eq_true rfl)
  rw [lg_entry_eq]
  generalize (lg_sl ([.ref b]) ++ List.replicate (7 - (lg_sl ([.ref b])).length) Slot.unset).toArray = ls at hl ⊢
  have hl : lv_has ls 7 [(0, .ref b)] := hl
  refine va_new (ci := 5) (fs := [.null, .null, .null, .null, .null, .null, .int (nI 0), .int (nI 0), .int (nI 0)]) (C := R_V) (T := F_V) (N := 9) hx hb ht j_V t_V t_V_ok hown (ht _ q_16) (ht _ q_17) (ht _ q_1) hK.1 hP hD hS hA rfl (fun j hj => by rcases (show j = 0 ∨ j = 1 ∨ j = 2 ∨ j = 3 ∨ j = 4 ∨ j = 5 ∨ j = 6 ∨ j = 7 ∨ j = 8 by omega) with rfl | rfl | rfl | rfl | rfl | rfl | rfl | rfl | rfl <;> rfl) (Nat.le_of_ble_eq_true rfl) (Nat.le_of_ble_eq_true rfl) d_law_0 (fun q0 H hP hD hS => ?_)
  have hP : va_P D classes [(q0, .inr (5, [.null, .null, .null, .null, .null, .null, .int (nI 0), .int (nI 0), .int (nI 0)]))] H := hP
  have hD : va_D (lwA s) [(q0, .inr (5, [.null, .null, .null, .null, .null, .null, .int (nI 0), .int (nI 0), .int (nI 0)]))] := hD
  refine lv_dup hx hb d_law_3 rfl ?_
  refine rr_cI (As := []) (rest := [.ref q0]) (idx := 71) (wr := []) S hK hP hD hS hA (c_V_init l D cs q0 H.size) k_V_init [0] [] rfl (by decide) rfl (by decide) (by decide) q_18 ⟨Nat.le_of_ble_eq_true rfl, Nat.le_of_ble_eq_true rfl⟩ ⟨Nat.le_of_ble_eq_true rfl, Nat.le_of_ble_eq_true rfl⟩ hl (Nat.le_of_ble_eq_true rfl) rfl d_law_4 (fun ad H1 locs1 had hP1 hD1 hS1 => ?_)
  subst had
  have hP : va_P D classes (cwL cs ad mu0 ro0) H1 := hP1
  have hD : va_D (lwA s) (cwL cs ad mu0 ro0) := hD1
  have hS := hS1
  refine lv_astore_n (lv' := [(1, .ref (ad 0)), (0, .ref b)]) hx hb d_law_7 rfl hl (by decide) rfl (fun ls hl => ?_)
  refine va_new (ci := 6) (fs := [.int (nI 0), .int (nI 0), .int (nI 0), .int (nI 0), .null, .null, .null, .null, .null, .null, .null, .null, .null, .null, .null, .int (nI 0), .null, .null, .null, .null, .null, .null, .int (nI 0)]) (C := R_M) (T := F_M) (N := 23) hx hb ht j_M t_M t_M_ok hown (ht _ q_578) (ht _ q_579) (ht _ q_7) hK.1 hP hD hS hA rfl (fun j hj => by rcases (show j = 0 ∨ j = 1 ∨ j = 2 ∨ j = 3 ∨ j = 4 ∨ j = 5 ∨ j = 6 ∨ j = 7 ∨ j = 8 ∨ j = 9 ∨ j = 10 ∨ j = 11 ∨ j = 12 ∨ j = 13 ∨ j = 14 ∨ j = 15 ∨ j = 16 ∨ j = 17 ∨ j = 18 ∨ j = 19 ∨ j = 20 ∨ j = 21 ∨ j = 22 by omega) with rfl | rfl | rfl | rfl | rfl | rfl | rfl | rfl | rfl | rfl | rfl | rfl | rfl | rfl | rfl | rfl | rfl | rfl | rfl | rfl | rfl | rfl | rfl <;> rfl) (Nat.le_of_ble_eq_true rfl) (Nat.le_of_ble_eq_true rfl) d_law_8 (fun q1 H hP hD hS => ?_)
  refine lv_dup hx hb d_law_11 rfl ?_
  refine rr_cI (As := []) (rest := [.ref q1]) (idx := 74) (wr := cwL cs ad mu0 ro0) S hK hP hD hS hA (c_M_init l D cs q1 H.size) k_M_init [24] [0, 1, 2, 3, 4, 5, 6, 7, 8, 9, 10, 11, 12, 13, 14, 15, 16, 17, 18, 19, 20, 21, 22, 23] rfl (by decide) rfl (by decide) (by decide) q_580 ⟨Nat.le_of_ble_eq_true rfl, Nat.le_of_ble_eq_true rfl⟩ ⟨Nat.le_of_ble_eq_true rfl, Nat.le_of_ble_eq_true rfl⟩ hl (Nat.le_of_ble_eq_true rfl) rfl d_law_12 (fun bd H2 locs2 hbd hP2 hD2 hS2 => ?_)
  subst hbd
  have hP : va_P D classes (cwL cs ad mu0 ro0 ++ mwL cs bd mu0 0) H2 := hP2
  have hD : va_D (lwA s) (cwL cs ad mu0 ro0 ++ mwL cs bd mu0 0) := hD2
  have hS := hS2
  refine lv_astore_n (lv' := [(2, .ref (bd 0)), (1, .ref (ad 0)), (0, .ref b)]) hx hb d_law_15 rfl hl (by decide) rfl (fun ls hl => ?_)
  refine lv_iconst (v := nI 1) hx hb d_law_16 (by decide) ?_
  refine rr_newJ (N := 1) hx hb (ht _ q_823) hK hP hD hS hA (by decide) (Nat.le_of_ble_eq_true rfl) (Nat.le_of_ble_eq_true rfl) d_law_17 (fun oc H hP hD hS => ?_)
  refine lv_astore_n (lv' := [(3, .ref oc), (2, .ref (bd 0)), (1, .ref (ad 0)), (0, .ref b)]) hx hb d_law_19 rfl hl (by decide) rfl (fun ls hl => ?_)
  refine lv_iconst (v := nI 0) hx hb d_law_20 (by decide) ?_
  refine lv_istore (lv' := [(4, .int (nI 0)), (3, .ref oc), (2, .ref (bd 0)), (1, .ref (ad 0)), (0, .ref b)]) hx hb d_law_21 hl (by decide) rfl (fun ls hl => ?_)
  exact lw_loop C1 (L + 1) 0 (Nat.zero_le L) (by omega) mu0 ro0 0 (fun _ => 0) H locs2 ls ⟨IM_0, IC_0, hP, hD, hS, lv_sub hl [0, 4, 3, 2, 1] rfl⟩
