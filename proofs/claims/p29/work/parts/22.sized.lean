-- calls with the heap's size told: what the refutation's walk counts by
def rr_gcodeW {y : MethodName} {b : ByteArray} {n : Nat} {ret : Option FieldType} {hh : List (Nat × Nat × Nat × Nat)} (h : Cond.codeWith y b n ret hh ∈ rr_all) : GoodIn rr_all (.codeWith y b n ret hh :: rr_all) := fun w hw => (List.mem_cons.mp hw).elim (fun e => by rw [e]; exact ⟨h, rr_of_good h⟩) (fun h2 => ⟨h2, rr_of_good h2⟩)
/-- what a call of a method with a table of its own needs of the tables -/
def rr_CW (y : MethodName) (b : ByteArray) (n : Nat) (hh : List (Nat × Nat × Nat × Nat)) (k : Nat) : Prop := Cond.static y ∈ rr_all ∧ Cond.initialized y.cls ∈ rr_all ∧ Cond.codeWith y b n (some .int) hh ∈ rr_all ∧ y.cls ≠ "java/lang/invoke/MethodHandle" ∧ y.cls ≠ "java/lang/invoke/VarHandle" ∧ (parseMethodDescriptor y.desc).map (fun d => d.parameters.length) = some k
/-- what holds where such a method is called: its cells, the tables, what a throw needs -/
def rf_P (D : va_G) (cs : rr_C3) (ws : va_W) (sz : Nat) (as : List Value) : Array Value → State → Prop := va_Pc as (fun U => U.heap.size = sz ∧ va_P D classes ws U.heap ∧ rr_K D cs U ∧ va_D (fun _ => True) ws ∧ rr_Y U ∧ rr_Z (va_A ws sz) U U.heap)
/-- .. and at its end: the answer v, the cells w1, at least g cells more -/
def rf_Q (D : va_G) (ws : va_W) (sz : Nat) (v : Int32) (w1 : va_W) (g : Nat) : Array Value → State → Outcome → State → Prop := va_Qi (fun r (_ : Unit) => r = v) (fun _ t => va_P D classes w1 t.heap ∧ va_D (va_A ws sz) w1 ∧ sz + g ≤ t.heap.size) (va_A ws sz)
/-- a static method that catches -/
def WXs (l : Launch) (y : MethodName) (b : ByteArray) (n : Nat) (hh : List (Nat × Nat × Nat × Nat)) (fr lc : Nat) (D : va_G) (cs : rr_C3) (ws : va_W) (sz : Nat) (as : List Value) (v : Int32) (w1 : va_W) (g : Nat) : Prop :=
  Met l y (.codeWith y b n (some .int) hh :: rr_all) { frames := fr, cells := 1, slots := 6, locals := lc } (rf_P D cs ws sz as) (rf_Q D ws sz v w1 g) 1 6 (va_A ws sz)
/-- a static method that calls such -/
def CXs (l : Launch) (y : MethodName) (b : ByteArray) (n : Nat) (ret : Option FieldType) (fr lc mc ms : Nat) (D : va_G) (cs : rr_C3) (ws : va_W) (sz : Nat) (as : List Value) (v : Int32) (w1 : va_W) (g : Nat) : Prop :=
  Met l y (.code y b n ret :: rr_all) { frames := fr, cells := mc, slots := ms, locals := lc } (rf_P D cs ws sz as) (rf_Q D ws sz v w1 g) mc ms (va_A ws sz)
/-- a static method that reads the script -/
def SXs (l : Launch) (y : MethodName) (b : ByteArray) (n : Nat) (ret : Option FieldType) (fr lc : Nat) (D : va_G) (cs : rr_C3) (sb L : Nat) (xs : Nat → Int32) (as : List Value) (post : Int32 → Prop) : Prop :=
  Met l y (.code y b n ret :: rr_all) { frames := fr, cells := 0, slots := 0, locals := lc } (va_Pc as (fun U => va_X sb L xs U U.heap ∧ rr_K D cs U)) (vp_Si post) 0 0 (fun _ => False)
theorem rf_blind {D : va_G} {cs : rr_C3} {ws : va_W} {sz : Nat} {as : List Value} : FrameBlind (rf_P D cs ws sz as) := fun a U g mk h => ⟨h.1, h.2.1, h.2.2.1, h.2.2.2.1.calling, h.2.2.2.2.1, rr_Y.same (s := U) (U := U.calling g mk a) rfl h.2.2.2.2.2.1, rr_Z.moved (u := U) (U := U.calling g mk a) (Vm.Alike.refl U.vm) h.2.2.2.2.2.2⟩
theorem rf_blindS {D : va_G} {cs : rr_C3} {sb L : Nat} {xs : Nat → Int32} {as : List Value} : FrameBlind (va_Pc as (fun U => va_X sb L xs U U.heap ∧ rr_K D cs U)) := fun a U g mk h => ⟨h.1, va_X.moved (u := U) (U := U.calling g mk a) (Vm.Alike.refl U.vm) h.2.1, h.2.2.calling⟩
theorem rf_blindX {D : va_G} {cs : rr_C3} {wc : va_W} {as : List Value} {sz : Nat} {A9 : Nat → Prop} : FrameBlind (va_Pc as (fun U => U.heap.size = sz ∧ va_P D classes wc U.heap ∧ rr_K D cs U ∧ va_D (fun _ => True) wc ∧ rr_Y U ∧ rr_Z A9 U U.heap)) := fun a U g mk h => ⟨h.1, h.2.1, h.2.2.1, h.2.2.2.1.calling, h.2.2.2.2.1, rr_Y.same (s := U) (U := U.calling g mk a) rfl h.2.2.2.2.2.1, rr_Z.moved (u := U) (U := U.calling g mk a) (Vm.Alike.refl U.vm) h.2.2.2.2.2.2⟩
section SZ1
variable {l : Launch} {y : MethodName} {b : ByteArray} {n : Nat} {hh : List (Nat × Nat × Nat × Nat)} {ret : Option FieldType} {fr lc mc ms : Nat} {D : va_G} {cs : rr_C3} {ws w1 : va_W} {as : List Value} {sz g : Nat} {v : Int32}
theorem WXs.of (hy : plainName y.cls = true) (hn : (lg_sl as).length ≤ n)
    (body : ∀ (p : Program) (e : Env) (s : State) (m : MethodId) (args : Array Value) (below : List Frame) (meth : Method) (c : Code) (A : Nat → Prop), CallFix p m c b n s args rr_all y.cls → meth.sig.returnType = some .int → meth.locks = false → c.exceptionTable.toList = tableOf hh → rr_K D cs s → rr_Y s → rr_Z A s s.heap → va_P D classes ws s.heap → va_D A ws → (∀ q : Nat, s.heap.size ≤ q → A q) → va_S A s.heap s.heap [] →
      ∀ ls : Array Slot, lv_has ls n (lv_args 0 as) → W p l e { frames := fr, cells := 1, slots := 6, locals := lc } s m args below meth c s.heap [] 0 0 (MQ below (va_Qi (fun r (_ : Unit) => r = v) (fun _ t => va_P D classes w1 t.heap ∧ va_D A w1 ∧ s.heap.size + g ≤ t.heap.size) A) args s 1 6 A) (F0 m 0 ls [])) : WXs l y b n hh fr lc D cs ws sz as v w1 g := by
  refine va_MetW (cc := b) (maxL := n) (ret := some .int) (hh := hh) hy rfl ?_
  intro p e s m args below meth c s₁ Bd hml hv
  obtain ⟨rfl, rfl, hP, hK, hD0, hY, hZ⟩ := hv
  have hts := atoms_spec (ws := .codeWith y b n (some .int) hh :: rr_all) Bd.pre
  rw [lg_entry_eq]
  exact body p e s m _ below meth c (va_A ws s.heap.size) ⟨Bd.exec, Bd.bytes, hml, findClass_of_methodNamed Bd.named, fun w h => hts w (List.mem_cons_of_mem _ h)⟩ Bd.returns Bd.notSynchronized (vx_table (x := y) Bd (hts _ List.mem_cons_self)) hK hY hZ hP (hD0.self (sz := s.heap.size)) (fun q h => Or.inr h) va_S.rf _ (lv_entry as hn)
theorem CXs.of (hy : plainName y.cls = true) (hn : (lg_sl as).length ≤ n)
    (body : ∀ (p : Program) (e : Env) (s : State) (m : MethodId) (args : Array Value) (below : List Frame) (meth : Method) (c : Code) (A : Nat → Prop), CallFix p m c b n s args rr_all y.cls → meth.sig.returnType = ret → meth.locks = false → rr_K D cs s → rr_Y s → rr_Z A s s.heap → va_P D classes ws s.heap → va_D A ws → (∀ q : Nat, s.heap.size ≤ q → A q) → va_S A s.heap s.heap [] →
      ∀ ls : Array Slot, lv_has ls n (lv_args 0 as) → W p l e { frames := fr, cells := mc, slots := ms, locals := lc } s m args below meth c s.heap [] 0 0 (MQ below (va_Qi (fun r (_ : Unit) => r = v) (fun _ t => va_P D classes w1 t.heap ∧ va_D A w1 ∧ s.heap.size + g ≤ t.heap.size) A) args s mc ms A) (F0 m 0 ls [])) : CXs l y b n ret fr lc mc ms D cs ws sz as v w1 g := by
  refine Met.ofW (cc := b) (maxL := n) (ret := ret) hy rfl ?_
  intro p e s m args below meth c s₁ Bd hml hv
  obtain ⟨rfl, rfl, hP, hK, hD0, hY, hZ⟩ := hv
  have hts := atoms_spec (ws := .code y b n ret :: rr_all) Bd.pre
  rw [lg_entry_eq]
  exact body p e s m _ below meth c (va_A ws s.heap.size) ⟨Bd.exec, Bd.bytes, hml, findClass_of_methodNamed Bd.named, fun w h => hts w (List.mem_cons_of_mem _ h)⟩ Bd.returns Bd.notSynchronized hK hY hZ hP (hD0.self (sz := s.heap.size)) (fun q h => Or.inr h) va_S.rf _ (lv_entry as hn)
theorem SXs.of {sb L : Nat} {xs : Nat → Int32} {post : Int32 → Prop} (hy : plainName y.cls = true) (hn : (lg_sl as).length ≤ n)
    (body : ∀ (p : Program) (e : Env) (s : State) (m : MethodId) (args : Array Value) (below : List Frame) (meth : Method) (c : Code), CallFix p m c b n s args rr_all y.cls → meth.sig.returnType = ret → meth.locks = false → rr_K D cs s → va_X sb L xs s s.heap → sb < s.heap.size →
      ∀ ls : Array Slot, lv_has ls n (lv_args 0 as) → W p l e { frames := fr, cells := 0, slots := 0, locals := lc } s m args below meth c s.heap [] 0 0 (MQ below (vp_Si post) args s 0 0 (fun _ => False)) (F0 m 0 ls [])) : SXs l y b n ret fr lc D cs sb L xs as post := by
  refine Met.ofW (cc := b) (maxL := n) (ret := ret) hy rfl ?_
  intro p e s m args below meth c s₁ Bd hml hv
  obtain ⟨rfl, hX, hK⟩ := hv
  have hts := atoms_spec (ws := .code y b n ret :: rr_all) Bd.pre
  rw [lg_entry_eq]
  have hbl : sb < s.heap.size := by
    obtain ⟨scr, h1, -⟩ := hX
    exact (Array.getElem?_eq_some_iff.mp h1).1
  exact body p e s m _ below meth c ⟨Bd.exec, Bd.bytes, hml, findClass_of_methodNamed Bd.named, fun w h => hts w (List.mem_cons_of_mem _ h)⟩ Bd.returns Bd.notSynchronized hK hX hbl _ (lv_entry as hn)
end SZ1
section SZ2
variable {p : Program} {l : Launch} {e : Env} {R : Room} {s : State} {m : MethodId} {args : Array Value} {below : List Frame} {meth : Method} {c : Code} {H : Heap} {locs : List Loc} {cells slots : Nat} {Q : State → Prop}
variable {pc : Nat} {ls : Array Slot} {rest st0 : List Value} {cc : ByteArray} {nL : Nat} {own : String} {D : va_G} {cs : rr_C3} {ws wc : va_W} {A : Nat → Prop}
/-- a call of a static method that only reads, with cells -/
theorem rr_rSW {y : MethodName} {b : ByteArray} {n fr lc idx : Nat} {ret : Option FieldType} {As : List Value} {post : Int32 → Prop} {lv : List (Nat × Value)} (S : CallFix p m c cc nL s args rr_all own) (hK : rr_K D cs s) (hP : va_P D classes ws H) (hM : RO l y b n ret fr lc D cs wc As post) (K : rr_CS y b n ret As.length) (is : List Nat) (hs : is.filterMap (fun i => ws[i]?) = wc)
    (hlink : Cond.methodLink own idx y ∈ rr_all) (hR : fr + 1 ≤ R.frames ∧ 8 + (n + 11) + lc ≤ R.locals) (hf : cells ≤ R.cells ∧ slots ≤ R.slots) (hl : lv_has ls nL lv) (hst : (rest.map fun v => v.category).sum ≤ 8) (h0 : st0 = As.reverse ++ rest) (hdg : decode cc pc = .ok (.invokestatic idx, 3))
    (kk : ∀ r : Int32, post r → W p l e R s m args below meth c H locs cells slots Q (F0 m (pc + 3) ls (.int r :: rest))) : W p l e R s m args below meth c H locs cells slots Q (F0 m pc ls st0) := by
  obtain ⟨k1, k3, k4, k5, k6, k7⟩ := K
  have ht := S.2.2.2.2
  have hPc := hP.sub is hs
  exact rr_csi (va_runS (As := As) (rest := rest) S hM ⟨callB_of As.length ht (rr_gcode k4) rfl rfl rfl (ht _ k3) (ht _ hlink) ⟨k5, k6, k7⟩ hR, ht _ k1⟩ ⟨rr_blindR, fun U hU hW => ⟨rfl, by rw [hU]; exact hPc, hK.warm hW⟩⟩ rfl rfl hl.1 h0 (lv_room hst) hdg hf) kk
/-- .. of one that reads the script -/
theorem rf_sx {y : MethodName} {b : ByteArray} {n fr lc idx sb L : Nat} {xs : Nat → Int32} {ret : Option FieldType} {As : List Value} {post : Int32 → Prop} {lv : List (Nat × Value)} (S : CallFix p m c cc nL s args rr_all own) (hK : rr_K D cs s) (hX : va_X sb L xs s s.heap) (hbl : sb < s.heap.size) (hbA : ¬ A sb) (hS : va_S A s.heap H locs) (hM : SXs l y b n ret fr lc D cs sb L xs As post) (K : rr_CS y b n ret As.length)
    (hlink : Cond.methodLink own idx y ∈ rr_all) (hR : fr + 1 ≤ R.frames ∧ 8 + (n + 11) + lc ≤ R.locals) (hf : cells ≤ R.cells ∧ slots ≤ R.slots) (hl : lv_has ls nL lv) (hst : (rest.map fun v => v.category).sum ≤ 8) (h0 : st0 = As.reverse ++ rest) (hdg : decode cc pc = .ok (.invokestatic idx, 3))
    (kk : ∀ r : Int32, post r → W p l e R s m args below meth c H locs cells slots Q (F0 m (pc + 3) ls (.int r :: rest))) : W p l e R s m args below meth c H locs cells slots Q (F0 m pc ls st0) := by
  obtain ⟨k1, k3, k4, k5, k6, k7⟩ := K
  have ht := S.2.2.2.2
  have hX2 : va_X sb L xs s H := hX.kept (hS.2.1 sb hbl hbA)
  exact rr_csi (va_runS (As := As) (rest := rest) S hM ⟨callB_of As.length ht (rr_gcode k4) rfl rfl rfl (ht _ k3) (ht _ hlink) ⟨k5, k6, k7⟩ hR, ht _ k1⟩ ⟨rf_blindS, fun U hU hW => ⟨rfl, va_X.moved hW.alike (by rw [hU]; exact hX2), hK.warm hW⟩⟩ rfl rfl hl.1 h0 (lv_room hst) hdg hf) kk
/-- a call of a method of the class that may throw -/
theorem rf_xV {y : MethodName} {b : ByteArray} {n fr lc idx q0 ci o : Nat} {ret : Option FieldType} {As : List Value} {S9 : Type} {post : Int32 → S9 → Prop} {B : S9 → va_W} {XP : String → Prop} {q : vw_C} {fs : List Value} {lv : List (Nat × Value)} {wr : va_W} (S : CallFix p m c cc nL s args rr_all own) (hK : rr_K D cs s) (hY : rr_Y s) (hZ : rr_Z A s s.heap) (hP : va_P D classes ws H) (hD : va_D A ws) (hS : va_S A s.heap H locs) (hA : ∀ q : Nat, s.heap.size ≤ q → A q) (hM : MX l y b n ret fr lc D cs wc H.size (.ref o :: As) post B XP) (K : rr_CK y b n ret As.length) (isC isR : List Nat) (hC : isC.map (fun i => ws[i]?) = wc.map some) (hnd : va_nd isC = true) (hRr : isR.map (fun i => ws[i]?) = wr.map some) (hn : va_nd isR = true) (hdis : ∀ i ∈ isR, i ∉ isC) (he : ws[q0]? = some (o, .inr (ci, fs))) (hc : classes[ci]? = some q) (hq : q.1 = y.cls)
    (hlink : Cond.methodLink own idx y ∈ rr_all) (hR : fr + 1 ≤ R.frames ∧ 8 + (n + 11) + lc ≤ R.locals) (hf : cells + 1 ≤ R.cells ∧ slots + 6 ≤ R.slots) (hl : lv_has ls nL lv) (hst : (rest.map fun v => v.category).sum ≤ 8) (h0 : st0 = As.reverse ++ .ref o :: rest) (hdg : decode cc pc = .ok (.invokevirtual idx, 3))
    (kx : ∀ (E : String) (ce : Cell) (q9 : Addr) (H1 : Heap) (locs1 : List Loc), XP E → va_P D classes (wr ++ wc) H1 → va_D A (wr ++ wc) → va_S A s.heap H1 locs1 → H.size + 1 ≤ H1.size → H1[q9]? = some ce → ce.vm = .none → s.vm.findClass E = some ce.cls → vx_W p l e R s m args below meth c H1 locs1 (cells + 1) (slots + 6) Q (F0 m pc ls rest) q9)
    (kk : ∀ (r : Int32) (u : S9) (H1 : Heap) (locs1 : List Loc), post r u → va_P D classes (wr ++ B u) H1 → va_D A (wr ++ B u) → va_S A s.heap H1 locs1 → H.size ≤ H1.size → W p l e R s m args below meth c H1 locs1 (cells + 1) (slots + 6) Q (F0 m (pc + 3) ls (.int r :: rest))) : W p l e R s m args below meth c H locs cells slots Q (F0 m pc ls st0) := by
  obtain ⟨k1, k2, k3, k4, k5, k6, k7⟩ := K
  have ht := S.2.2.2.2
  have hPc : va_P D classes wc H := rr_cut hP hC
  have hDc : va_D (fun _ => True) wc := (hD.sub isC hnd hC).weaken (fun _ _ _ _ => trivial)
  have hFc := va_free (wc := wc) hD hS hA isC hC
  have hZc : rr_Z (va_A wc H.size) s H := (hZ.kept hS.2.1).narrow hFc
  refine vx_calli (AX := va_A wc H.size) (vx_runV (C := y.cls) (As := As) (rest := rest) S hM ⟨callB_of As.length ht (rr_gcode k4) rfl rfl rfl (ht _ k3) (ht _ hlink) ⟨k5, k6, k7⟩ hR, ht _ k1, ht _ k2⟩ ⟨rf_blindX, by rw [← hq]; exact va_recv hK.1 hP hc he, fun U hU hW => ⟨rfl, by rw [hU], by rw [hU]; exact hPc, hK.warm hW, hDc, hY.warm hW, by rw [hU]; exact hZc.moved hW.alike⟩⟩ rfl rfl hl.1 h0 (lv_room hst) hdg hf) hS (fun q _ h => hFc q h) hFc (fun q _ h => hFc q h) ?_ ?_
  · intro E ce q9 u t H1 locs1 ht1 hvm hp hB hz hk hS1 g1 g2 g3
    obtain ⟨hX1, hP1, hD1, hz1⟩ := hB
    rw [ht1] at hP1 hz1
    obtain ⟨f1, f2⟩ := va_join (wr := wr) (w1 := wc) hP hD isC isR hC hRr hn hdis hk hFc hP1 hD1
    exact kx E ce q9 H1 locs1 hX1 f1 f2 hS1 hz1 g1 g2 g3
  · intro r u t H1 locs1 ht1 hvm hp hB hz hk hS1
    obtain ⟨hP1, hD1⟩ := hB
    rw [ht1] at hP1
    obtain ⟨g1, g2⟩ := va_join (wr := wr) (w1 := B u) hP hD isC isR hC hRr hn hdis hk hFc hP1 hD1
    exact kk r u H1 locs1 hp g1 g2 hS1 hz
/-- a call of a method that catches -/
theorem rf_wS {y : MethodName} {b : ByteArray} {n fr lc idx : Nat} {hh : List (Nat × Nat × Nat × Nat)} {As : List Value} {v : Int32} {w1 wr : va_W} {g : Nat} {lv : List (Nat × Value)} (S : CallFix p m c cc nL s args rr_all own) (hK : rr_K D cs s) (hY : rr_Y s) (hZ : rr_Z A s s.heap) (hP : va_P D classes ws H) (hD : va_D A ws) (hS : va_S A s.heap H locs) (hA : ∀ q : Nat, s.heap.size ≤ q → A q) (hM : WXs l y b n hh fr lc D cs wc H.size As v w1 g) (K : rr_CW y b n hh As.length) (isC isR : List Nat) (hC : isC.map (fun i => ws[i]?) = wc.map some) (hnd : va_nd isC = true) (hRr : isR.map (fun i => ws[i]?) = wr.map some) (hn : va_nd isR = true) (hdis : ∀ i ∈ isR, i ∉ isC)
    (hlink : Cond.methodLink own idx y ∈ rr_all) (hR : fr + 1 ≤ R.frames ∧ 8 + (n + 11) + lc ≤ R.locals) (hf : cells + 1 ≤ R.cells ∧ slots + 6 ≤ R.slots) (hl : lv_has ls nL lv) (hst : (rest.map fun v => v.category).sum ≤ 8) (h0 : st0 = As.reverse ++ rest) (hdg : decode cc pc = .ok (.invokestatic idx, 3))
    (kk : ∀ (H1 : Heap) (locs1 : List Loc), va_P D classes (wr ++ w1) H1 → va_D A (wr ++ w1) → va_S A s.heap H1 locs1 → H.size + g ≤ H1.size → W p l e R s m args below meth c H1 locs1 (cells + 1) (slots + 6) Q (F0 m (pc + 3) ls (.int v :: rest))) : W p l e R s m args below meth c H locs cells slots Q (F0 m pc ls st0) := by
  obtain ⟨k1, k3, k4, k5, k6, k7⟩ := K
  have ht := S.2.2.2.2
  have hPc : va_P D classes wc H := rr_cut hP hC
  have hDc : va_D (fun _ => True) wc := (hD.sub isC hnd hC).weaken (fun _ _ _ _ => trivial)
  have hFc := va_free (wc := wc) hD hS hA isC hC
  have hZc : rr_Z (va_A wc H.size) s H := (hZ.kept hS.2.1).narrow hFc
  have cw : vx_CSW R s args own idx y b n (some .int) hh (.codeWith y b n (some .int) hh :: rr_all) { frames := fr, cells := 1, slots := 6, locals := lc } 1 6 As.length := ⟨⟨rfl, rfl, hR.1, hR.2, pay_in ht (rr_gcodeW k4), List.mem_cons_self⟩, ht _ k4, ht _ k3, ⟨k5, k6⟩, fun sig h => (by rw [h] at k7; exact (Option.some.inj k7).symm), ht _ hlink, ht _ k1⟩
  refine va_calli (vx_runSW (As := As) (rest := rest) S hM cw ⟨rf_blind, fun U hU hW => ⟨rfl, by rw [hU], by rw [hU]; exact hPc, hK.warm hW, hDc, hY.warm hW, by rw [hU]; exact hZc.moved hW.alike⟩⟩ rfl rfl hl.1 h0 (lv_room hst) hdg hf) hS (fun q _ h => hFc q h) hFc ?_
  intro r u t H1 locs1 ht1 hvm hp hB hz hk hS1
  obtain ⟨hP1, hD1, hz1⟩ := hB
  rw [ht1] at hP1 hz1
  obtain ⟨g1, g2⟩ := va_join (wr := wr) (w1 := w1) hP hD isC isR hC hRr hn hdis hk hFc hP1 hD1
  have hp2 : r = v := hp
  subst hp2
  exact kk H1 locs1 g1 g2 hS1 hz1
/-- .. of one that calls such -/
theorem rf_cS {y : MethodName} {b : ByteArray} {n fr lc mc ms idx : Nat} {ret : Option FieldType} {As : List Value} {v : Int32} {w1 wr : va_W} {g : Nat} {lv : List (Nat × Value)} (S : CallFix p m c cc nL s args rr_all own) (hK : rr_K D cs s) (hY : rr_Y s) (hZ : rr_Z A s s.heap) (hP : va_P D classes ws H) (hD : va_D A ws) (hS : va_S A s.heap H locs) (hA : ∀ q : Nat, s.heap.size ≤ q → A q) (hM : CXs l y b n ret fr lc mc ms D cs wc H.size As v w1 g) (K : rr_CS y b n ret As.length) (isC isR : List Nat) (hC : isC.map (fun i => ws[i]?) = wc.map some) (hnd : va_nd isC = true) (hRr : isR.map (fun i => ws[i]?) = wr.map some) (hn : va_nd isR = true) (hdis : ∀ i ∈ isR, i ∉ isC)
    (hlink : Cond.methodLink own idx y ∈ rr_all) (hR : fr + 1 ≤ R.frames ∧ 8 + (n + 11) + lc ≤ R.locals) (hf : cells + mc ≤ R.cells ∧ slots + ms ≤ R.slots) (hl : lv_has ls nL lv) (hst : (rest.map fun v => v.category).sum ≤ 8) (h0 : st0 = As.reverse ++ rest) (hdg : decode cc pc = .ok (.invokestatic idx, 3))
    (kk : ∀ (H1 : Heap) (locs1 : List Loc), va_P D classes (wr ++ w1) H1 → va_D A (wr ++ w1) → va_S A s.heap H1 locs1 → H.size + g ≤ H1.size → W p l e R s m args below meth c H1 locs1 (cells + mc) (slots + ms) Q (F0 m (pc + 3) ls (.int v :: rest))) : W p l e R s m args below meth c H locs cells slots Q (F0 m pc ls st0) := by
  obtain ⟨k1, k3, k4, k5, k6, k7⟩ := K
  have ht := S.2.2.2.2
  have hPc : va_P D classes wc H := rr_cut hP hC
  have hDc : va_D (fun _ => True) wc := (hD.sub isC hnd hC).weaken (fun _ _ _ _ => trivial)
  have hFc := va_free (wc := wc) hD hS hA isC hC
  have hZc : rr_Z (va_A wc H.size) s H := (hZ.kept hS.2.1).narrow hFc
  refine va_calli (va_runS (As := As) (rest := rest) S hM ⟨callB_of As.length ht (rr_gcode k4) rfl rfl rfl (ht _ k3) (ht _ hlink) ⟨k5, k6, k7⟩ hR, ht _ k1⟩ ⟨rf_blind, fun U hU hW => ⟨rfl, by rw [hU], by rw [hU]; exact hPc, hK.warm hW, hDc, hY.warm hW, by rw [hU]; exact hZc.moved hW.alike⟩⟩ rfl rfl hl.1 h0 (lv_room hst) hdg hf) hS (fun q _ h => hFc q h) hFc ?_
  intro r u t H1 locs1 ht1 hvm hp hB hz hk hS1
  obtain ⟨hP1, hD1, hz1⟩ := hB
  rw [ht1] at hP1 hz1
  obtain ⟨g1, g2⟩ := va_join (wr := wr) (w1 := w1) hP hD isC isR hC hRr hn hdis hk hFc hP1 hD1
  have hp2 : r = v := hp
  subst hp2
  exact kk H1 locs1 g1 g2 hS1 hz1
/-- caught by the first row -/
theorem rr_catch1 {E : String} {ce : Cell} {q : Addr} {x : ExceptionTableEntry} {suf : List ExceptionTableEntry} (S : CallFix p m c cc nL s args rr_all "RopeVotesLaw") (hY : rr_Y s) (hE : E ∈ rr_xc) (ht : c.exceptionTable.toList = x :: suf) (hx : covers x pc = true) (h0 : x.catchType ≠ 0) (hlink : Cond.classLink "RopeVotesLaw" x.catchType E ∈ rr_all) (g1 : H[q]? = some ce) (g2 : ce.vm = .none) (g3 : s.vm.findClass E = some ce.cls) (kk : W p l e R s m args below meth c H locs cells slots Q (F0 m x.handlerPc ls [.ref q])) : vx_W p l e R s m args below meth c H locs cells slots Q (F0 m pc ls rest) q :=
  vx_catch (own := "RopeVotesLaw") (name := E) (E := E) S.2.2.2.1 [] x suf ht (fun z hz => nomatch hz) hx h0 (S.2.2.2.2 _ hlink) (va_Nw.use rfl (hY.1 E hE)) g1 g2 g3 kk
/-- ends -/
theorem rf_mret {v : Int32} {w1 : va_W} {g : Nat} (hexec : p.tables.exec = Jvm.exec) (hb : c.code = cc) (hr : meth.sig.returnType = some .int) (hlk : meth.locks = false) (hP : va_P D classes w1 H) (hD : va_D A w1) (hS : va_S A s.heap H locs) (hz : s.heap.size + g ≤ H.size) (hdg : decode cc pc = .ok (.ireturn, 1)) : W p l e R s m args below meth c H locs cells slots (MQ below (va_Qi (fun r (_ : Unit) => r = v) (fun _ t => va_P D classes w1 t.heap ∧ va_D A w1 ∧ s.heap.size + g ≤ t.heap.size) A) args s cells slots A) (F0 m pc ls [.int v]) := W.iret hexec hb hr (fun t ht _ => ⟨⟨v, (), rfl, rfl, by rw [ht]; exact hP, hD, by rw [ht]; exact hz⟩, hS.F ht⟩) hS.2.2 hdg hlk
theorem rf_mretZ {v : Nat} {w1 : va_W} {g : Nat} (hv : v ≤ 1) (hexec : p.tables.exec = Jvm.exec) (hb : c.code = cc) (hr : meth.sig.returnType = some .boolean) (hlk : meth.locks = false) (hP : va_P D classes w1 H) (hD : va_D A w1) (hS : va_S A s.heap H locs) (hz : s.heap.size + g ≤ H.size) (hdg : decode cc pc = .ok (.ireturn, 1)) : W p l e R s m args below meth c H locs cells slots (MQ below (va_Qi (fun r (_ : Unit) => r = nI v) (fun _ t => va_P D classes w1 t.heap ∧ va_D A w1 ∧ s.heap.size + g ≤ t.heap.size) A) args s cells slots A) (F0 m pc ls [.int (nI v)]) := W.zret hexec hb hr (by rcases (show v = 0 ∨ v = 1 by omega) with rfl | rfl <;> decide) (fun t ht _ => ⟨⟨nI v, (), rfl, rfl, by rw [ht]; exact hP, hD, by rw [ht]; exact hz⟩, hS.F ht⟩) hS.2.2 hdg hlk
end SZ2
