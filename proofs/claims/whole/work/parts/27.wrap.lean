-- the law's own static methods, that catch what the class throws: their contract, their calls, their ends
def rr_X (U : State) : Prop := va_Nc eS eI U ∧ va_Nc eA eI U ∧ va_Nc eS eA U
theorem rr_X.moved {u U : State} (h : rr_X u) (hvm : u.vm.Alike U.vm) : rr_X U := ⟨va_Nc.moved hvm h.1, va_Nc.moved hvm h.2.1, va_Nc.moved hvm h.2.2⟩
theorem rr_gcodeW {y : MethodName} {b : ByteArray} {n : Nat} {ret : Option FieldType} {hh : List (Nat × Nat × Nat × Nat)} (h : Cond.codeWith y b n ret hh ∈ rr_all) : GoodIn rr_all (.codeWith y b n ret hh :: rr_all) := fun w hw => (List.mem_cons.mp hw).elim (fun e => by rw [e]; exact ⟨h, rr_of_good h⟩) (fun h2 => ⟨h2, rr_of_good h2⟩)
/-- what a call of such a method needs of the tables -/
def rr_CW (y : MethodName) (b : ByteArray) (n : Nat) (hh : List (Nat × Nat × Nat × Nat)) (k : Nat) : Prop := Cond.static y ∈ rr_all ∧ Cond.initialized y.cls ∈ rr_all ∧ Cond.codeWith y b n (some .int) hh ∈ rr_all ∧ y.cls ≠ "java/lang/invoke/MethodHandle" ∧ y.cls ≠ "java/lang/invoke/VarHandle" ∧ (parseMethodDescriptor y.desc).map (fun d => d.parameters.length) = some k
def WX (l : Launch) (y : MethodName) (b : ByteArray) (n : Nat) (hh : List (Nat × Nat × Nat × Nat)) (fr lc : Nat) (D : va_G) (cs : rr_C3) (ws : va_W) (sz : Nat) (as : List Value) {S : Type} (post : Int32 → S → Prop) (B : S → va_W) : Prop :=
  Met l y (.codeWith y b n (some .int) hh :: rr_all) { frames := fr, cells := 1, slots := 6, locals := lc } (va_Pc as (fun U => U.heap.size = sz ∧ va_P D classes ws U.heap ∧ rr_K D cs U ∧ va_D (fun _ => True) ws ∧ rr_Y U ∧ rr_X U ∧ rr_Z (va_A ws sz) U U.heap)) (va_Qi post (fun u t => va_P D classes (B u) t.heap ∧ va_D (va_A ws sz) (B u)) (va_A ws sz)) 1 6 (va_A ws sz)
section WX1
variable {l : Launch} {y : MethodName} {b : ByteArray} {n : Nat} {hh : List (Nat × Nat × Nat × Nat)} {fr lc : Nat} {D : va_G} {cs : rr_C3} {ws : va_W} {as : List Value} {sz : Nat}
theorem WX.of {S : Type} {post : Int32 → S → Prop} {B : S → va_W} (hy : plainName y.cls = true) (hn : (lg_sl as).length ≤ n)
    (body : ∀ (p : Program) (e : Env) (s : State) (m : MethodId) (args : Array Value) (below : List Frame) (meth : Method) (c : Code) (A : Nat → Prop), CallFix p m c b n s args rr_all y.cls → meth.sig.returnType = some .int → meth.locks = false → c.exceptionTable.toList = tableOf hh → rr_K D cs s → rr_Y s → rr_X s → rr_Z A s s.heap → va_P D classes ws s.heap → va_D A ws → (∀ q : Nat, s.heap.size ≤ q → A q) → va_S A s.heap s.heap [] →
      ∀ ls : Array Slot, lv_has ls n (lv_args 0 as) → W p l e { frames := fr, cells := 1, slots := 6, locals := lc } s m args below meth c s.heap [] 0 0 (MQ below (va_Qi post (fun u t => va_P D classes (B u) t.heap ∧ va_D A (B u)) A) args s 1 6 A) (F0 m 0 ls [])) : WX l y b n hh fr lc D cs ws sz as post B := by
  refine va_MetW (cc := b) (maxL := n) (ret := some .int) (hh := hh) hy rfl ?_
  intro p e s m args below meth c s₁ Bd hml hv
  obtain ⟨rfl, rfl, hP, hK, hD0, hY, hX, hZ⟩ := hv
  have hts := atoms_spec (ws := .codeWith y b n (some .int) hh :: rr_all) Bd.pre
  rw [lg_entry_eq]
  exact body p e s m _ below meth c (va_A ws s.heap.size) ⟨Bd.exec, Bd.bytes, hml, findClass_of_methodNamed Bd.named, fun w h => hts w (List.mem_cons_of_mem _ h)⟩ Bd.returns Bd.notSynchronized (vx_table (x := y) Bd (hts _ List.mem_cons_self)) hK hY hX hZ hP (hD0.self (sz := s.heap.size)) (fun q h => Or.inr h) va_S.rf _ (lv_entry as hn)
end WX1
section WX2
variable {p : Program} {l : Launch} {e : Env} {R : Room} {s : State} {m : MethodId} {args : Array Value} {below : List Frame} {meth : Method} {c : Code} {H : Heap} {locs : List Loc} {cells slots : Nat} {Q : State → Prop}
variable {pc : Nat} {ls : Array Slot} {rest st0 : List Value} {cc : ByteArray} {nL : Nat} {own : String} {D : va_G} {cs : rr_C3} {ws wc : va_W} {A : Nat → Prop}
theorem rr_blindX {as : List Value} {sz : Nat} {A9 : Nat → Prop} : FrameBlind (va_Pc as (fun U => U.heap.size = sz ∧ va_P D classes wc U.heap ∧ rr_K D cs U ∧ va_D (fun _ => True) wc ∧ rr_Y U ∧ rr_Z A9 U U.heap)) := fun a U g mk h => ⟨h.1, h.2.1, h.2.2.1, h.2.2.2.1.calling, h.2.2.2.2.1, rr_Y.same (s := U) (U := U.calling g mk a) rfl h.2.2.2.2.2.1, rr_Z.moved (u := U) (U := U.calling g mk a) (Vm.Alike.refl U.vm) h.2.2.2.2.2.2⟩
theorem rr_blindW {as : List Value} {sz : Nat} {A9 : Nat → Prop} : FrameBlind (va_Pc as (fun U => U.heap.size = sz ∧ va_P D classes wc U.heap ∧ rr_K D cs U ∧ va_D (fun _ => True) wc ∧ rr_Y U ∧ rr_X U ∧ rr_Z A9 U U.heap)) := fun a U g mk h => ⟨h.1, h.2.1, h.2.2.1, h.2.2.2.1.calling, h.2.2.2.2.1, rr_Y.same (s := U) (U := U.calling g mk a) rfl h.2.2.2.2.2.1, rr_X.moved (u := U) (U := U.calling g mk a) h.2.2.2.2.2.2.1 (Vm.Alike.refl U.vm), rr_Z.moved (u := U) (U := U.calling g mk a) (Vm.Alike.refl U.vm) h.2.2.2.2.2.2.2⟩
/-- a call of a method of the class that may throw -/
theorem rr_xV {y : MethodName} {b : ByteArray} {n fr lc idx q0 ci o : Nat} {ret : Option FieldType} {As : List Value} {S9 : Type} {post : Int32 → S9 → Prop} {B : S9 → va_W} {XP : String → Prop} {q : vw_C} {fs : List Value} {lv : List (Nat × Value)} {wr : va_W} (S : CallFix p m c cc nL s args rr_all own) (hK : rr_K D cs s) (hY : rr_Y s) (hZ : rr_Z A s s.heap) (hP : va_P D classes ws H) (hD : va_D A ws) (hS : va_S A s.heap H locs) (hA : ∀ q : Nat, s.heap.size ≤ q → A q) (hM : MX l y b n ret fr lc D cs wc H.size (.ref o :: As) post B XP) (K : rr_CK y b n ret As.length) (isC isR : List Nat) (hC : isC.map (fun i => ws[i]?) = wc.map some) (hnd : va_nd isC = true) (hRr : isR.map (fun i => ws[i]?) = wr.map some) (hn : va_nd isR = true) (hdis : ∀ i ∈ isR, i ∉ isC) (he : ws[q0]? = some (o, .inr (ci, fs))) (hc : classes[ci]? = some q) (hq : q.1 = y.cls)
    (hlink : Cond.methodLink own idx y ∈ rr_all) (hR : fr + 1 ≤ R.frames ∧ 8 + (n + 11) + lc ≤ R.locals) (hf : cells + 1 ≤ R.cells ∧ slots + 6 ≤ R.slots) (hl : lv_has ls nL lv) (hst : (rest.map fun v => v.category).sum ≤ 8) (h0 : st0 = As.reverse ++ .ref o :: rest) (hdg : decode cc pc = .ok (.invokevirtual idx, 3))
    (kx : ∀ (E : String) (ce : Cell) (q9 : Addr) (H1 : Heap) (locs1 : List Loc), XP E → va_P D classes (wr ++ wc) H1 → va_D A (wr ++ wc) → va_S A s.heap H1 locs1 → H1[q9]? = some ce → ce.vm = .none → s.vm.findClass E = some ce.cls → vx_W p l e R s m args below meth c H1 locs1 (cells + 1) (slots + 6) Q (F0 m pc ls rest) q9)
    (kk : ∀ (r : Int32) (u : S9) (H1 : Heap) (locs1 : List Loc), post r u → va_P D classes (wr ++ B u) H1 → va_D A (wr ++ B u) → va_S A s.heap H1 locs1 → W p l e R s m args below meth c H1 locs1 (cells + 1) (slots + 6) Q (F0 m (pc + 3) ls (.int r :: rest))) : W p l e R s m args below meth c H locs cells slots Q (F0 m pc ls st0) := by
  obtain ⟨k1, k2, k3, k4, k5, k6, k7⟩ := K
  have ht := S.2.2.2.2
  have hPc : va_P D classes wc H := rr_cut hP hC
  have hDc : va_D (fun _ => True) wc := (hD.sub isC hnd hC).weaken (fun _ _ _ _ => trivial)
  have hFc := va_free (wc := wc) hD hS hA isC hC
  have hZc : rr_Z (va_A wc H.size) s H := (hZ.kept hS.2.1).narrow hFc
  refine vx_calli (AX := va_A wc H.size) (vx_runV (C := y.cls) (As := As) (rest := rest) S hM ⟨callB_of As.length ht (rr_gcode k4) rfl rfl rfl (ht _ k3) (ht _ hlink) ⟨k5, k6, k7⟩ hR, ht _ k1, ht _ k2⟩ ⟨rr_blindX, by rw [← hq]; exact va_recv hK.1 hP hc he, fun U hU hW => ⟨rfl, by rw [hU], by rw [hU]; exact hPc, hK.warm hW, hDc, hY.warm hW, by rw [hU]; exact hZc.moved hW.alike⟩⟩ rfl rfl hl.1 h0 (lv_room hst) hdg hf) hS (fun q _ h => hFc q h) hFc (fun q _ h => hFc q h) ?_ ?_
  · intro E ce q9 u t H1 locs1 ht1 hvm hp hB hz hk hS1 g1 g2 g3
    obtain ⟨hX1, hP1, hD1⟩ := hB
    rw [ht1] at hP1
    obtain ⟨f1, f2⟩ := va_join (wr := wr) (w1 := wc) hP hD isC isR hC hRr hn hdis hk hFc hP1 hD1
    exact kx E ce q9 H1 locs1 hX1 f1 f2 hS1 g1 g2 g3
  · intro r u t H1 locs1 ht1 hvm hp hB hz hk hS1
    obtain ⟨hP1, hD1⟩ := hB
    rw [ht1] at hP1
    obtain ⟨g1, g2⟩ := va_join (wr := wr) (w1 := B u) hP hD isC isR hC hRr hn hdis hk hFc hP1 hD1
    exact kk r u H1 locs1 hp g1 g2 hS1
/-- a call of a method that catches -/
theorem rr_wS {y : MethodName} {b : ByteArray} {n fr lc idx : Nat} {hh : List (Nat × Nat × Nat × Nat)} {As : List Value} {S9 : Type} {post : Int32 → S9 → Prop} {B : S9 → va_W} {lv : List (Nat × Value)} {wr : va_W} (S : CallFix p m c cc nL s args rr_all own) (hK : rr_K D cs s) (hY : rr_Y s) (hX : rr_X s) (hZ : rr_Z A s s.heap) (hP : va_P D classes ws H) (hD : va_D A ws) (hS : va_S A s.heap H locs) (hA : ∀ q : Nat, s.heap.size ≤ q → A q) (hM : WX l y b n hh fr lc D cs wc H.size As post B) (K : rr_CW y b n hh As.length) (isC isR : List Nat) (hC : isC.map (fun i => ws[i]?) = wc.map some) (hnd : va_nd isC = true) (hRr : isR.map (fun i => ws[i]?) = wr.map some) (hn : va_nd isR = true) (hdis : ∀ i ∈ isR, i ∉ isC)
    (hlink : Cond.methodLink own idx y ∈ rr_all) (hR : fr + 1 ≤ R.frames ∧ 8 + (n + 11) + lc ≤ R.locals) (hf : cells + 1 ≤ R.cells ∧ slots + 6 ≤ R.slots) (hl : lv_has ls nL lv) (hst : (rest.map fun v => v.category).sum ≤ 8) (h0 : st0 = As.reverse ++ rest) (hdg : decode cc pc = .ok (.invokestatic idx, 3))
    (kk : ∀ (r : Int32) (u : S9) (H1 : Heap) (locs1 : List Loc), post r u → va_P D classes (wr ++ B u) H1 → va_D A (wr ++ B u) → va_S A s.heap H1 locs1 → W p l e R s m args below meth c H1 locs1 (cells + 1) (slots + 6) Q (F0 m (pc + 3) ls (.int r :: rest))) : W p l e R s m args below meth c H locs cells slots Q (F0 m pc ls st0) := by
  obtain ⟨k1, k3, k4, k5, k6, k7⟩ := K
  have ht := S.2.2.2.2
  have hPc : va_P D classes wc H := rr_cut hP hC
  have hDc : va_D (fun _ => True) wc := (hD.sub isC hnd hC).weaken (fun _ _ _ _ => trivial)
  have hFc := va_free (wc := wc) hD hS hA isC hC
  have hZc : rr_Z (va_A wc H.size) s H := (hZ.kept hS.2.1).narrow hFc
  have cw : vx_CSW R s args own idx y b n (some .int) hh (.codeWith y b n (some .int) hh :: rr_all) { frames := fr, cells := 1, slots := 6, locals := lc } 1 6 As.length := ⟨⟨rfl, rfl, hR.1, hR.2, pay_in ht (rr_gcodeW k4), List.mem_cons_self⟩, ht _ k4, ht _ k3, ⟨k5, k6⟩, fun sig h => (by rw [h] at k7; exact (Option.some.inj k7).symm), ht _ hlink, ht _ k1⟩
  refine va_calli (vx_runSW (As := As) (rest := rest) S hM cw ⟨rr_blindW, fun U hU hW => ⟨rfl, by rw [hU], by rw [hU]; exact hPc, hK.warm hW, hDc, hY.warm hW, hX.moved hW.alike, by rw [hU]; exact hZc.moved hW.alike⟩⟩ rfl rfl hl.1 h0 (lv_room hst) hdg hf) hS (fun q _ h => hFc q h) hFc ?_
  intro r u t H1 locs1 ht1 hvm hp hB hz hk hS1
  obtain ⟨hP1, hD1⟩ := hB
  rw [ht1] at hP1
  obtain ⟨g1, g2⟩ := va_join (wr := wr) (w1 := B u) hP hD isC isR hC hRr hn hdis hk hFc hP1 hD1
  exact kk r u H1 locs1 hp g1 g2 hS1
/-- caught: by the first row -/
theorem rr_catch1 {E : String} {ce : Cell} {q : Addr} {x : ExceptionTableEntry} {suf : List ExceptionTableEntry} (S : CallFix p m c cc nL s args rr_all "RopeVotesLaw") (hY : rr_Y s) (hE : E ∈ rr_xc) (ht : c.exceptionTable.toList = x :: suf) (hx : covers x pc = true) (h0 : x.catchType ≠ 0) (hlink : Cond.classLink "RopeVotesLaw" x.catchType E ∈ rr_all) (g1 : H[q]? = some ce) (g2 : ce.vm = .none) (g3 : s.vm.findClass E = some ce.cls) (kk : W p l e R s m args below meth c H locs cells slots Q (F0 m x.handlerPc ls [.ref q])) : vx_W p l e R s m args below meth c H locs cells slots Q (F0 m pc ls rest) q :=
  vx_catch (own := "RopeVotesLaw") (name := E) (E := E) S.2.2.2.1 [] x suf ht (fun z hz => nomatch hz) hx h0 (S.2.2.2.2 _ hlink) (va_Nw.use rfl (hY.1 E hE)) g1 g2 g3 kk
/-- .. by the second, past one of another class -/
theorem rr_catch2 {E E1 : String} {ce : Cell} {q : Addr} {x1 x : ExceptionTableEntry} {suf : List ExceptionTableEntry} (S : CallFix p m c cc nL s args rr_all "RopeVotesLaw") (hY : rr_Y s) (hE : E ∈ rr_xc) (hN1 : va_Nc E E1 s) (ht : c.exceptionTable.toList = x1 :: x :: suf) (h1 : x1.catchType ≠ 0) (hl1 : Cond.classLink "RopeVotesLaw" x1.catchType E1 ∈ rr_all) (hx : covers x pc = true) (h0 : x.catchType ≠ 0) (hlink : Cond.classLink "RopeVotesLaw" x.catchType E ∈ rr_all) (g1 : H[q]? = some ce) (g2 : ce.vm = .none) (g3 : s.vm.findClass E = some ce.cls) (kk : W p l e R s m args below meth c H locs cells slots Q (F0 m x.handlerPc ls [.ref q])) : vx_W p l e R s m args below meth c H locs cells slots Q (F0 m pc ls rest) q :=
  vx_catch (own := "RopeVotesLaw") (name := E) (E := E) S.2.2.2.1 [x1] x suf ht (fun z hz => by
    cases List.mem_singleton.mp hz
    exact Or.inr ⟨h1, E1, S.2.2.2.2 _ hl1, hN1⟩) hx h0 (S.2.2.2.2 _ hlink) (va_Nw.use rfl (hY.1 E hE)) g1 g2 g3 kk
/-- .. by the third, past two -/
theorem rr_catch3 {E E1 E2 : String} {ce : Cell} {q : Addr} {x1 x2 x : ExceptionTableEntry} {suf : List ExceptionTableEntry} (S : CallFix p m c cc nL s args rr_all "RopeVotesLaw") (hY : rr_Y s) (hE : E ∈ rr_xc) (hN1 : va_Nc E E1 s) (hN2 : va_Nc E E2 s) (ht : c.exceptionTable.toList = x1 :: x2 :: x :: suf) (h1 : x1.catchType ≠ 0) (hl1 : Cond.classLink "RopeVotesLaw" x1.catchType E1 ∈ rr_all) (h2 : x2.catchType ≠ 0) (hl2 : Cond.classLink "RopeVotesLaw" x2.catchType E2 ∈ rr_all) (hx : covers x pc = true) (h0 : x.catchType ≠ 0) (hlink : Cond.classLink "RopeVotesLaw" x.catchType E ∈ rr_all) (g1 : H[q]? = some ce) (g2 : ce.vm = .none) (g3 : s.vm.findClass E = some ce.cls) (kk : W p l e R s m args below meth c H locs cells slots Q (F0 m x.handlerPc ls [.ref q])) : vx_W p l e R s m args below meth c H locs cells slots Q (F0 m pc ls rest) q :=
  vx_catch (own := "RopeVotesLaw") (name := E) (E := E) S.2.2.2.1 [x1, x2] x suf ht (fun z hz => by
    rcases List.mem_cons.mp hz with h | h
    · cases h; exact Or.inr ⟨h1, E1, S.2.2.2.2 _ hl1, hN1⟩
    · cases List.mem_singleton.mp h; exact Or.inr ⟨h2, E2, S.2.2.2.2 _ hl2, hN2⟩) hx h0 (S.2.2.2.2 _ hlink) (va_Nw.use rfl (hY.1 E hE)) g1 g2 g3 kk
/-- lcmp of equal longs -/
theorem rr_lcmp {x : Int64} (hexec : p.tables.exec = Jvm.exec) (hb : c.code = cc) (hdg : decode cc pc = .ok (.lcmp, 1)) (k : W p l e R s m args below meth c H locs cells slots Q (F0 m (pc + 1) ls (.int 0 :: rest))) : W p l e R s m args below meth c H locs cells slots Q (F0 m pc ls (.long x :: .long x :: rest)) := by
  intro T hT X
  obtain ⟨t, a, b⟩ := k T hT X
  refine ⟨t, ?_, b⟩
  have h1 : ¬ x < x := Int64.lt_irrefl
  jvm_step X.here [X.here.top, hexec, hb, hdg, h1]
  exact a
end WX2
/-- the class's cells, the model's, and the one of the law's row -/
def cwL (cs : rr_C3) (ad : Nat → Nat) (μ ρ : NS) : va_W := [((ad 0), .inr (5, [.ref (ad 1), .ref (ad 2), .ref (ad 3), .ref (ad 4), .ref (ad 5), .ref (ad 6), .int (nI (μ 0 0)), .int (nI (μ 1 0)), .int (nI (μ 2 0))])), ((ad 1), .inr (1, [.ref (ad 7), .ref (ad 8), .ref (ad 9), .int (nI (μ 3 0))])), ((ad 2), .inr (4, [.ref (ad 10), .ref (ad 11), .ref (ad 12), .ref (ad 13)])), ((ad 3), .inr (2, [.ref (ad 14), .ref (ad 15)])), ((ad 4), .inr (0, [.ref (ad 16), .ref (ad 17)])), ((ad 5), .inr (3, [.ref (ad 18), .ref (ad 19), .ref (ad 20), .ref (ad 21), .ref (ad 22), .ref (ad 23), .int (nI (μ 15 0))])), ((ad 6), .inl (cs.1, 1001, .inl (fun j => nI ((μ 14) j)))), ((ad 7), .inl (cs.1, 16, .inl (fun j => nI ((ρ 0) j)))), ((ad 8), .inl (cs.1, 16, .inl (fun j => nI ((μ 4) j)))), ((ad 9), .inl (cs.2.1, 16, .inl (fun j => nI ((ρ 1) j)))), ((ad 10), .inl (cs.1, 7, .inl (fun j => nI ((μ 6) j)))), ((ad 11), .inl (cs.1, 7, .inl (fun j => nI ((μ 7) j)))), ((ad 12), .inl (cs.1, 7, .inl (fun j => nI ((μ 8) j)))), ((ad 13), .inl (cs.2.1, 7, .inl (fun j => nI ((μ 9) j)))), ((ad 14), .inl (cs.1, 49, .inl (fun j => nI ((ρ 2) j)))), ((ad 15), .inl (cs.1, 49, .inl (fun j => nI ((ρ 3) j)))), ((ad 16), .inl (cs.1, 7, .inl (fun j => mI ((ρ 4) j)))), ((ad 17), .inl (cs.1, 7, .inl (fun j => zI ((μ 12) j)))), ((ad 18), .inl (cs.1, 60, .inl (fun j => nI ((μ 16) j)))), ((ad 19), .inl (cs.1, 60, .inl (fun j => nI ((μ 17) j)))), ((ad 20), .inl (cs.1, 60, .inl (fun j => nI ((μ 18) j)))), ((ad 21), .inl (cs.1, 60, .inl (fun j => nI ((μ 19) j)))), ((ad 22), .inl (cs.1, 60, .inl (fun j => mI ((ρ 5) j)))), ((ad 23), .inl (cs.1, 60, .inl (fun j => nI ((μ 21) j))))]
def mwL (cs : rr_C3) (bd : Nat → Nat) (μ : NS) (th : Nat) : va_W := [((bd 0), .inr (6, [.int (nI (μ 0 0)), .int (nI (μ 1 0)), .int (nI (μ 2 0)), .int (nI (μ 3 0)), .ref (bd 1), .ref (bd 2), .ref (bd 3), .ref (bd 4), .ref (bd 5), .ref (bd 6), .ref (bd 7), .ref (bd 8), .ref (bd 9), .ref (bd 10), .ref (bd 11), .int (nI (μ 15 0)), .ref (bd 12), .ref (bd 13), .ref (bd 14), .ref (bd 15), .ref (bd 16), .ref (bd 17), .int (nI th)])), ((bd 1), .inl (cs.1, 16, .inl (fun j => nI ((μ 4) j)))), ((bd 2), .inl (cs.1, 16, .inl (fun j => nI ((μ 5) j)))), ((bd 3), .inl (cs.1, 7, .inl (fun j => nI ((μ 6) j)))), ((bd 4), .inl (cs.1, 7, .inl (fun j => nI ((μ 7) j)))), ((bd 5), .inl (cs.1, 7, .inl (fun j => nI ((μ 8) j)))), ((bd 6), .inl (cs.1, 7, .inl (fun j => nI ((μ 9) j)))), ((bd 7), .inl (cs.1, 56, .inl (fun j => nI ((μ 10) j)))), ((bd 8), .inl (cs.1, 56, .inl (fun j => nI ((μ 11) j)))), ((bd 9), .inl (cs.1, 7, .inl (fun j => nI ((μ 12) j)))), ((bd 10), .inl (cs.1, 7, .inl (fun j => nI ((μ 13) j)))), ((bd 11), .inl (cs.1, 1001, .inl (fun j => nI ((μ 14) j)))), ((bd 12), .inl (cs.1, 60, .inl (fun j => nI ((μ 16) j)))), ((bd 13), .inl (cs.1, 60, .inl (fun j => nI ((μ 17) j)))), ((bd 14), .inl (cs.1, 60, .inl (fun j => nI ((μ 18) j)))), ((bd 15), .inl (cs.1, 60, .inl (fun j => nI ((μ 19) j)))), ((bd 16), .inl (cs.1, 60, .inl (fun j => nI ((μ 20) j)))), ((bd 17), .inl (cs.1, 60, .inl (fun j => nI ((μ 21) j))))]
def ouL (cs : rr_C3) (oc : Nat) (f : Nat → Int64) : Nat × va_E := (oc, .inl (cs.2.2, 1, .inr (.inl f)))
theorem rr_upL (f : Nat → Int64) (x : Int64) : vp_updL f (nI 0).toNatClampNeg x 0 = x := by
  rw [nI_clamp (by decide)]
  unfold vp_updL
  exact if_pos rfl
