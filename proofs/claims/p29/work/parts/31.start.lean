theorem lw_str {s : State} {args : Array Value} {k : Nat} {tx : String} (h1 : (Cond.stringRef "RopeVotes" k tx).before args s = true) (h2 : (Cond.exactly (.string "RopeVotes" k) "java/lang/String").before args s = true) : ∃ sa : Nat, vk_R "RopeVotes" k tx sa s := by
  obtain ⟨a, c9, cell, k9, he, -⟩ := Cond.exactly_spec h2
  exact ⟨a, vk_R.of h1 he⟩
theorem lw_arr {s : State} {args : Array Value} {ty : FieldType} (h : (Cond.arrayClass ty).before args s = true) : ∃ cA : ClassId, ArrOfT s cA ty ∧ s.vm.findClass ("[" ++ ty.toString) = some cA := by
  obtain ⟨cA, kA, comp, f1, f2, f3⟩ := Cond.arrayClass_spec h
  exact ⟨cA, fun N z => ⟨fun k h => (by cases h), kA, f2, comp, f3⟩, f1⟩
set_option maxHeartbeats 4000000 in
set_option maxRecDepth 100000 in
theorem lw_Y {s : State} {b : Nat} (hts : ∀ w ∈ lw_tbl, w.before #[Value.ref b] s = true) (hgv : (Jvm.Cond.and given_1 narrow_1).before #[Value.ref b] s = true) : rr_Y s := by
  have hfl := flat_of_before _ hgv
  have h1 : ∀ X ∈ rr_xc, (Cond.castable X X).before #[Value.ref b] s = true := (List.forall_mem_cons.mpr ⟨hts (.castable eS eS) (List.mem_of_getElem? (i := 303) rfl), (List.forall_mem_cons.mpr ⟨hts (.castable eI eI) (List.mem_of_getElem? (i := 169) rfl), (List.forall_mem_cons.mpr ⟨hts (.castable eA eA) (List.mem_of_getElem? (i := 245) rfl), (fun _ h => absurd h List.not_mem_nil)⟩)⟩)⟩)
  have h2 : ∀ y ∈ rr_xd, (Cond.declares y).before #[Value.ref b] s = true := (List.forall_mem_cons.mpr ⟨hts _ (List.mem_of_getElem? (i := 171) rfl), (List.forall_mem_cons.mpr ⟨hts _ (List.mem_of_getElem? (i := 173) rfl), (List.forall_mem_cons.mpr ⟨hts _ (List.mem_of_getElem? (i := 175) rfl), (fun _ h => absurd h List.not_mem_nil)⟩)⟩)⟩)
  refine ⟨fun X hX => va_Nw.of rfl (h1 X hX), fun y hy => va_Nw.of rfl (h2 y hy), ?_⟩
  exact (List.forall_mem_cons.mpr ⟨lw_str (hts _ (List.mem_of_getElem? (i := 464) rfl)) (hfl (.exactly (.string "RopeVotes" 65) "java/lang/String") (by decide +kernel)), (List.forall_mem_cons.mpr ⟨lw_str (hts _ (List.mem_of_getElem? (i := 208) rfl)) (hfl (.exactly (.string "RopeVotes" 80) "java/lang/String") (by decide +kernel)), (List.forall_mem_cons.mpr ⟨lw_str (hts _ (List.mem_of_getElem? (i := 481) rfl)) (hfl (.exactly (.string "RopeVotes" 92) "java/lang/String") (by decide +kernel)), (List.forall_mem_cons.mpr ⟨lw_str (hts _ (List.mem_of_getElem? (i := 242) rfl)) (hfl (.exactly (.string "RopeVotes" 111) "java/lang/String") (by decide +kernel)), (List.forall_mem_cons.mpr ⟨lw_str (hts _ (List.mem_of_getElem? (i := 252) rfl)) (hfl (.exactly (.string "RopeVotes" 115) "java/lang/String") (by decide +kernel)), (List.forall_mem_cons.mpr ⟨lw_str (hts _ (List.mem_of_getElem? (i := 267) rfl)) (hfl (.exactly (.string "RopeVotes" 124) "java/lang/String") (by decide +kernel)), (List.forall_mem_cons.mpr ⟨lw_str (hts _ (List.mem_of_getElem? (i := 300) rfl)) (hfl (.exactly (.string "RopeVotes" 153) "java/lang/String") (by decide +kernel)), (List.forall_mem_cons.mpr ⟨lw_str (hts _ (List.mem_of_getElem? (i := 310) rfl)) (hfl (.exactly (.string "RopeVotes" 155) "java/lang/String") (by decide +kernel)), (List.forall_mem_cons.mpr ⟨lw_str (hts _ (List.mem_of_getElem? (i := 401) rfl)) (hfl (.exactly (.string "RopeVotes" 160) "java/lang/String") (by decide +kernel)), (List.forall_mem_cons.mpr ⟨lw_str (hts _ (List.mem_of_getElem? (i := 406) rfl)) (hfl (.exactly (.string "RopeVotes" 162) "java/lang/String") (by decide +kernel)), (List.forall_mem_cons.mpr ⟨lw_str (hts _ (List.mem_of_getElem? (i := 489) rfl)) (hfl (.exactly (.string "RopeVotes" 164) "java/lang/String") (by decide +kernel)), (List.forall_mem_cons.mpr ⟨lw_str (hts _ (List.mem_of_getElem? (i := 495) rfl)) (hfl (.exactly (.string "RopeVotes" 172) "java/lang/String") (by decide +kernel)), (List.forall_mem_cons.mpr ⟨lw_str (hts _ (List.mem_of_getElem? (i := 415) rfl)) (hfl (.exactly (.string "RopeVotes" 179) "java/lang/String") (by decide +kernel)), (fun _ h => absurd h List.not_mem_nil)⟩)⟩)⟩)⟩)⟩)⟩)⟩)⟩)⟩)⟩)⟩)⟩)⟩)
set_option maxHeartbeats 4000000 in
set_option maxRecDepth 100000 in
theorem lw_Zs {s : State} {b : Nat} (hts : ∀ w ∈ lw_tbl, w.before #[Value.ref b] s = true) (hgv : (Jvm.Cond.and given_1 narrow_1).before #[Value.ref b] s = true) : rr_Z (lwA s) s s.heap := by
  have hfl := flat_of_before _ hgv
  have hnA : ∀ a : Nat, a < s.heap.size → ¬ lwA s a := fun a ha h => absurd ha (Nat.not_lt.mpr h)
  refine ⟨?_, ?_⟩
  · exact vx_Zqof (args := #[Value.ref b]) (hts (.laysStatic Bundle.tN "UNASSIGNED_STACK" Bundle.steD) (List.mem_of_getElem? (i := 194) rfl)) (hts (.initialized Bundle.tN) (List.mem_of_getElem? (i := 10) rfl)) (hfl (.isRef (.static Bundle.tN "UNASSIGNED_STACK" Bundle.steD)) (by decide +kernel)) hnA
  · exact vx_Zqof (args := #[Value.ref b]) (hts (.laysStatic Bundle.tN "SUPPRESSED_SENTINEL" Bundle.listD) (List.mem_of_getElem? (i := 196) rfl)) (hts (.initialized Bundle.tN) (List.mem_of_getElem? (i := 10) rfl)) (hfl (.isRef (.static Bundle.tN "SUPPRESSED_SENTINEL" Bundle.listD)) (by decide +kernel)) hnA
set_option maxHeartbeats 4000000 in
set_option maxRecDepth 100000 in
theorem lw_K {s : State} {b : Nat} (hts : ∀ w ∈ lw_tbl, w.before #[Value.ref b] s = true) : ∃ (D : va_G) (cs : rr_C3), rr_K D cs s := by
  have ht : ∀ w ∈ rr_all, w.before #[Value.ref b] s = true := fun w h => hts w (List.mem_filter.mp h).1
  obtain ⟨c0, i0, hKn0⟩ := u_known (C := R_C) (T := F_C) (N := 2) (n := 2) ht j_C (ht _ q_84)
  obtain ⟨c1, i1, hKn1⟩ := u_known (C := R_L) (T := F_L) (N := 4) (n := 4) ht j_L (ht _ q_24)
  obtain ⟨c2, i2, hKn2⟩ := u_known (C := R_P) (T := F_P) (N := 2) (n := 2) ht j_P (ht _ q_71)
  obtain ⟨c3, i3, hKn3⟩ := u_known (C := R_K) (T := F_K) (N := 7) (n := 7) ht j_K (ht _ q_99)
  obtain ⟨c4, i4, hKn4⟩ := u_known (C := R_W) (T := F_W) (N := 4) (n := 4) ht j_W (ht _ q_48)
  obtain ⟨c5, i5, hKn5⟩ := u_known (C := R_V) (T := F_V) (N := 9) (n := 9) ht j_V (ht _ q_16)
  obtain ⟨dC, dI, hKc⟩ : ∃ (dC : Nat → ClassId) (dI : Nat → Nat → Nat), ∀ (k : Nat) (q : vw_C), classes[k]? = some q → u_Kn s q.1 q.2.1 q.2.2 (dC k) (dI k) := by
    refine ⟨fun k => if k = 0 then c0 else if k = 1 then c1 else if k = 2 then c2 else if k = 3 then c3 else if k = 4 then c4 else c5, fun k => if k = 0 then i0 else if k = 1 then i1 else if k = 2 then i2 else if k = 3 then i3 else if k = 4 then i4 else i5, ?_⟩
    intro k q hq
    match k, hq with
    | 0, hq => cases hq; exact hKn0
    | 1, hq => cases hq; exact hKn1
    | 2, hq => cases hq; exact hKn2
    | 3, hq => cases hq; exact hKn3
    | 4, hq => cases hq; exact hKn4
    | 5, hq => cases hq; exact hKn5
    | k + 6, hq => simp [classes] at hq
  obtain ⟨cI, aI, fI⟩ := lw_arr (ht _ q_45)
  obtain ⟨cZ, aZ, fZ⟩ := lw_arr (ht _ q_46)
  obtain ⟨cB, aB, fB⟩ := lw_arr (ht _ q_231)
  refine ⟨(dC, dI), (cI, cZ, cB), ⟨hKc, fun k q hq => ?_⟩, ?_⟩
  · match k, hq with
    | 0, hq => cases hq; exact ⟨aI, fI⟩
    | 1, hq => cases hq; exact ⟨aZ, fZ⟩
    | 2, hq => cases hq; exact ⟨aB, fB⟩
    | k + 3, hq => simp at hq
  · exact (List.forall_mem_cons.mpr ⟨va_Nw.of rfl (hts _ (List.mem_of_getElem? (i := 28) rfl)), (List.forall_mem_cons.mpr ⟨va_Nw.of rfl (hts _ (List.mem_of_getElem? (i := 75) rfl)), (List.forall_mem_cons.mpr ⟨va_Nw.of rfl (hts _ (List.mem_of_getElem? (i := 103) rfl)), (List.forall_mem_cons.mpr ⟨va_Nw.of rfl (hts _ (List.mem_of_getElem? (i := 459) rfl)), (List.forall_mem_cons.mpr ⟨va_Nw.of rfl (hts _ (List.mem_of_getElem? (i := 383) rfl)), (fun _ h => absurd h List.not_mem_nil)⟩)⟩)⟩)⟩)⟩)
/-- the script -/
def rf_xs : List Int32 := [54, 10485760, 16777216, 10485760, 16777280, 10485760, 16777280, 10485760, 16777408, 10485760, 16777216, 10485760, 16777280, 10485760, 16777536, 10485760, 16777664, 10485760, 16777664, 10485760, 16777536, 10485760, 16777664, 10485760, 16777664, 10485760, 16777216, 10485760, 16777536, 10485760, 16777856, 10485760, 16778176, 10485760, 10485760, 10485760, 10485760, 10485760, 10485760, 10485760, 10485760, 10485760, 10485760, 10485760, 10485760, 10485760, 10485760, 10485760, 10485760, 10485760, 10485760, 10485760, 10485760, 10485760, 10485760, 10485760, 10485760, 10485760, 10485760, 10485760, 10485760]
theorem rf_x : rfX (fun j => rf_xs.getD j 0) := ⟨by decide +kernel, by decide +kernel, by decide +kernel⟩
def rf_Pre (b : Addr) (args : Array Value) (s : State) : Prop := args = #[.ref b] ∧ s.IntsAt b rf_xs ∧ (Jvm.Cond.and given_1 narrow_1).before args s = true
set_option maxHeartbeats 4000000 in
/-- on this script, with more room than the claim grants: the law ends, and has made at least 764 cells -/
theorem rf_walk (l : Launch) (hflags : l.flags = flags0) (b : Addr) : MetFree l x (headSpec (Jvm.Cond.code x code maxLocals ret :: tables_1) rf_room) (rf_Pre b) (fun _ _ _ _ _ => True) (fun _ s _ t => s.heap.size + 764 ≤ t.heap.size) := by
  refine MetFree.of_bodyS (code := code) (maxLocals := maxLocals) (ret := ret) (by decide) ?_ ?_
  · intro args s m h hn
    obtain ⟨meth, c, h1, h2, h3, h4, h5, h6, -, -⟩ := Cond.code_spec hn (atoms_spec (ws := Jvm.Cond.code x code maxLocals ret :: tables_1) h _ List.mem_cons_self)
    exact ⟨meth, c, h1, h2, h3, h4, h5, h6⟩
  · intro p e s m args below meth c s₁ B hml0 hP _
    obtain ⟨rfl, hx, hgv⟩ := hP
    obtain ⟨scr, harrAt, hlist, hof, hsmall⟩ := hx
    obtain ⟨hcb, hkn, -, -⟩ := State.arrayAt?_spec harrAt
    have hown : s.vm.findClass R_law = some m.cls := findClass_of_methodNamed B.named
    have hts0 : ∀ c ∈ (Jvm.Cond.code x code maxLocals ret :: tables_1), c.before #[Value.ref b] s = true := atoms_spec (ws := Jvm.Cond.code x code maxLocals ret :: tables_1) B.pre
    have hts : ∀ w ∈ lw_tbl, w.before #[Value.ref b] s = true := k2_hts_sels lw_privs (fun w hw => hts0 w (List.mem_cons_of_mem _ hw)) lw_privs_ok
    have hml : c.maxLocals = 18 := B.maxLocals_eq (hts0 _ List.mem_cons_self)
    have X₀ : Stand p l e rf_room s m #[Value.ref b] below meth c s₁ [] 0 0 := Stand.of_body B
    have hh0 : s₁.heap = s.heap := by rw [B.state]; rfl
    have hsz : scr.slots.size = rf_xs.length := by rw [← Array.length_toList, hlist, List.length_map]
    have hval : ∀ j : Nat, j < rf_xs.length → scr.slots[j]? = some (.int (rf_xs.getD j 0)) := fun j hj => by
      rw [← Array.getElem?_toList, hlist]
      simp [hj]
    have hbl : b < s.heap.size := (Array.getElem?_eq_some_iff.mp hcb).1
    have hX : va_X b rf_xs.length (fun j => rf_xs.getD j 0) s s.heap := ⟨scr, hcb, hof, hkn, hsz, hval⟩
    have K : W p l e rf_room s m #[Value.ref b] below meth c s₁.heap [] 0 0 (rf_Z below s 764) (entryFrame m ([Value.ref b] : List Value).toArray 18) := by
      rw [hh0]
      have hfl : l.stackTraces = false := by unfold Launch.stackTraces; rw [hflags]; decide +kernel
      obtain ⟨D, cs, hK⟩ := lw_K hts
      have ht : ∀ w ∈ rr_all, w.before #[Value.ref b] s = true := fun w h => hts w (List.mem_filter.mp h).1
      have S : CallFix p m c code 18 s #[Value.ref b] rr_all "RopeVotesLaw" := ⟨B.exec, B.bytes, hml, hown, ht⟩
      exact rf_start (D := D) (cs := cs) (xs := fun j => rf_xs.getD j 0) ⟨S, B.returns, B.notSynchronized, hfl, hX, hbl, hK, lw_Y hts hgv, lw_Zs hts hgv⟩ rf_x
    obtain ⟨t, a1, o, b1, b2, b3⟩ := K s₁ rfl X₀
    exact ⟨t, o, a1, b1, b2, b3⟩
