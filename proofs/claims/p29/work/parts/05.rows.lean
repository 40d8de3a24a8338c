-- own rows over the kit: contexts, short arithmetic, calls of methods that only read, calls of methods that write
def rr_nl : List (String × Nat × MethodName × String) := [("RopeVotes", 9, ⟨"RopeVotes$Loop", "<init>", "()V"⟩, "RopeVotes"), ("RopeVotes", 25, ⟨"RopeVotes$Post", "<init>", "()V"⟩, "RopeVotes"), ("RopeVotes", 39, ⟨"RopeVotes$Tickets", "<init>", "()V"⟩, "RopeVotes"), ("RopeVotes$Loop", 26, ⟨"RopeVotes", "gapBetween", "(II)I"⟩, "RopeVotes"), ("RopeVotes$Loop", 39, ⟨"RopeVotes", "isInStation", "(I)Z"⟩, "RopeVotes")]
def rr_N (U : State) : Prop := ∀ q ∈ rr_nl, va_Nw (.methodLinkNest q.1 q.2.1 q.2.2.1 q.2.2.2) U
theorem rr_N.warm {s U : State} (hW : s.WarmedH U.vm) (h : rr_N s) : rr_N U := fun q hq => va_Nw.warmM hW (h q hq)
theorem rr_N.same {s U : State} (hv : s.vm = U.vm) (h : rr_N s) : rr_N U := fun q hq => va_Nw.same rfl hv (h q hq)
abbrev rr_C3 : Type := ClassId × ClassId × ClassId
abbrev rr_ty (cs : rr_C3) : List (ClassId × FieldType) := [(cs.1, .int), (cs.2.1, .boolean), (cs.2.2, .byte)]
def rr_K (D : va_G) (cs : rr_C3) (U : State) : Prop := va_K D classes (rr_ty cs) U ∧ rr_N U
theorem rr_K.warm {D : va_G} {cs : rr_C3} {s U : State} (hW : s.WarmedH U.vm) (h : rr_K D cs s) : rr_K D cs U := ⟨h.1.moved hW.alike, h.2.warm hW⟩
theorem rr_K.calling {D : va_G} {cs : rr_C3} {U : State} {g : JFrame} {mk : MethodId} {a : Array Value} (h : rr_K D cs U) : rr_K D cs (U.calling g mk a) := ⟨va_K.moved (u := U) (U := U.calling g mk a) (Vm.Alike.refl U.vm) h.1, rr_N.same (s := U) (U := U.calling g mk a) rfl h.2⟩
/-- what a call needs of its callee's tables: an instance method of k arguments -/
def rr_CK (y : MethodName) (b : ByteArray) (n : Nat) (ret : Option FieldType) (k : Nat) : Prop := Cond.instanceMethod y ∈ rr_all ∧ Cond.selects y.cls y y ∈ rr_all ∧ Cond.initialized y.cls ∈ rr_all ∧ Cond.code y b n ret ∈ rr_all ∧ y.cls ≠ "java/lang/invoke/MethodHandle" ∧ y.cls ≠ "java/lang/invoke/VarHandle" ∧ (parseMethodDescriptor y.desc).map (fun d => d.parameters.length) = some k
/-- .. a static one -/
def rr_CS (y : MethodName) (b : ByteArray) (n : Nat) (ret : Option FieldType) (k : Nat) : Prop := Cond.static y ∈ rr_all ∧ Cond.initialized y.cls ∈ rr_all ∧ Cond.code y b n ret ∈ rr_all ∧ y.cls ≠ "java/lang/invoke/MethodHandle" ∧ y.cls ≠ "java/lang/invoke/VarHandle" ∧ (parseMethodDescriptor y.desc).map (fun d => d.parameters.length) = some k
/-- .. a constructor -/
def rr_CI (y : MethodName) (b : ByteArray) (n : Nat) (k : Nat) : Prop := y.name = "<init>" ∧ Cond.instanceMethod y ∈ rr_all ∧ Cond.initialized y.cls ∈ rr_all ∧ Cond.code y b n none ∈ rr_all ∧ y.cls ≠ "java/lang/invoke/MethodHandle" ∧ y.cls ≠ "java/lang/invoke/VarHandle" ∧ (parseMethodDescriptor y.desc).map (fun d => d.parameters.length) = some k
theorem rr_gcode {y : MethodName} {b : ByteArray} {n : Nat} {ret : Option FieldType} (h : Cond.code y b n ret ∈ rr_all) : GoodIn rr_all (.code y b n ret :: rr_all) := fun w hw => (List.mem_cons.mp hw).elim (fun e => by rw [e]; exact ⟨h, rr_of_good h⟩) (fun h2 => ⟨h2, rr_of_good h2⟩)
/-- a method that only reads: its cells ws, its arguments, what its answer is -/
def RO (l : Launch) (y : MethodName) (b : ByteArray) (n : Nat) (ret : Option FieldType) (fr lc : Nat) (D : va_G) (cs : rr_C3) (ws : va_W) (as : List Value) (post : Int32 → Prop) : Prop :=
  Met l y (.code y b n ret :: rr_all) { frames := fr, cells := 0, slots := 0, locals := lc } (va_Pc as (fun U => va_P D classes ws U.heap ∧ rr_K D cs U)) (vp_Si post) 0 0 (fun _ => False)
/-- a method that writes its cells ws (or makes cells): answers an int -/
def MI (l : Launch) (y : MethodName) (b : ByteArray) (n : Nat) (ret : Option FieldType) (fr lc mc ms : Nat) (D : va_G) (cs : rr_C3) (ws : va_W) (sz : Nat) (as : List Value) {S : Type} (post : Int32 → S → Prop) (B : S → va_W) : Prop :=
  Met l y (.code y b n ret :: rr_all) { frames := fr, cells := mc, slots := ms, locals := lc } (va_Pc as (fun U => U.heap.size = sz ∧ va_P D classes ws U.heap ∧ rr_K D cs U ∧ va_D (fun _ => True) ws)) (va_Qi post (fun u t => va_P D classes (B u) t.heap ∧ va_D (va_A ws sz) (B u)) (va_A ws sz)) mc ms (va_A ws sz)
/-- .. answers nothing -/
def MV (l : Launch) (y : MethodName) (b : ByteArray) (n : Nat) (fr lc mc ms : Nat) (D : va_G) (cs : rr_C3) (ws : va_W) (sz : Nat) (as : List Value) {S : Type} (post : S → Prop) (B : S → va_W) : Prop :=
  Met l y (.code y b n none :: rr_all) { frames := fr, cells := mc, slots := ms, locals := lc } (va_Pc as (fun U => U.heap.size = sz ∧ va_P D classes ws U.heap ∧ rr_K D cs U ∧ va_D (fun _ => True) ws)) (va_Qv post (fun u t => va_P D classes (B u) t.heap ∧ va_D (va_A ws sz) (B u)) (va_A ws sz)) mc ms (va_A ws sz)
section RR1
variable {l : Launch} {y : MethodName} {b : ByteArray} {n : Nat} {ret : Option FieldType} {fr lc mc ms : Nat} {D : va_G} {cs : rr_C3} {ws : va_W} {as : List Value} {sz : Nat}
theorem RO.of {post : Int32 → Prop} (hy : plainName y.cls = true) (hn : (lg_sl as).length ≤ n)
    (body : ∀ (p : Program) (e : Env) (s : State) (m : MethodId) (args : Array Value) (below : List Frame) (meth : Method) (c : Code), CallFix p m c b n s args rr_all y.cls → meth.sig.returnType = ret → meth.locks = false → rr_K D cs s → va_P D classes ws s.heap →
      ∀ ls : Array Slot, lv_has ls n (lv_args 0 as) → W p l e { frames := fr, cells := 0, slots := 0, locals := lc } s m args below meth c s.heap [] 0 0 (MQ below (vp_Si post) args s 0 0 (fun _ => False)) (F0 m 0 ls [])) : RO l y b n ret fr lc D cs ws as post := by
  refine Met.ofW (cc := b) (maxL := n) (ret := ret) hy rfl ?_
  intro p e s m args below meth c s₁ B hml hv
  obtain ⟨rfl, hP, hK⟩ := hv
  have hts := atoms_spec (ws := .code y b n ret :: rr_all) B.pre
  rw [lg_entry_eq]
  exact body p e s m _ below meth c ⟨B.exec, B.bytes, hml, findClass_of_methodNamed B.named, fun w h => hts w (List.mem_cons_of_mem _ h)⟩ B.returns B.notSynchronized hK hP _ (lv_entry as hn)
theorem RO.ofF {post : Int32 → Prop} (hy : plainFor y = true) (hn : (lg_sl as).length ≤ n)
    (body : ∀ (p : Program) (e : Env) (s : State) (m : MethodId) (args : Array Value) (below : List Frame) (meth : Method) (c : Code), CallFix p m c b n s args rr_all y.cls → meth.sig.returnType = ret → meth.locks = false → rr_K D cs s → va_P D classes ws s.heap →
      ∀ ls : Array Slot, lv_has ls n (lv_args 0 as) → W p l e { frames := fr, cells := 0, slots := 0, locals := lc } s m args below meth c s.heap [] 0 0 (MQ below (vp_Si post) args s 0 0 (fun _ => False)) (F0 m 0 ls [])) : RO l y b n ret fr lc D cs ws as post := by
  refine va_MetF (cc := b) (maxL := n) (ret := ret) hy rfl ?_
  intro p e s m args below meth c s₁ B hml hv
  obtain ⟨rfl, hP, hK⟩ := hv
  have hts := atoms_spec (ws := .code y b n ret :: rr_all) B.pre
  rw [lg_entry_eq]
  exact body p e s m _ below meth c ⟨B.exec, B.bytes, hml, findClass_of_methodNamed B.named, fun w h => hts w (List.mem_cons_of_mem _ h)⟩ B.returns B.notSynchronized hK hP _ (lv_entry as hn)
theorem MI.of {S : Type} {post : Int32 → S → Prop} {B : S → va_W} (hy : plainName y.cls = true) (hn : (lg_sl as).length ≤ n)
    (body : ∀ (p : Program) (e : Env) (s : State) (m : MethodId) (args : Array Value) (below : List Frame) (meth : Method) (c : Code) (A : Nat → Prop), CallFix p m c b n s args rr_all y.cls → meth.sig.returnType = ret → meth.locks = false → (meth.name = y.name) → rr_K D cs s → va_P D classes ws s.heap → va_D A ws → (∀ q : Nat, s.heap.size ≤ q → A q) → va_S A s.heap s.heap [] →
      ∀ ls : Array Slot, lv_has ls n (lv_args 0 as) → W p l e { frames := fr, cells := mc, slots := ms, locals := lc } s m args below meth c s.heap [] 0 0 (MQ below (va_Qi post (fun u t => va_P D classes (B u) t.heap ∧ va_D A (B u)) A) args s mc ms A) (F0 m 0 ls [])) : MI l y b n ret fr lc mc ms D cs ws sz as post B := by
  refine Met.ofW (cc := b) (maxL := n) (ret := ret) hy rfl ?_
  intro p e s m args below meth c s₁ Bd hml hv
  obtain ⟨rfl, rfl, hP, hK, hD0⟩ := hv
  have hts := atoms_spec (ws := .code y b n ret :: rr_all) Bd.pre
  rw [lg_entry_eq]
  exact body p e s m _ below meth c (va_A ws s.heap.size) ⟨Bd.exec, Bd.bytes, hml, findClass_of_methodNamed Bd.named, fun w h => hts w (List.mem_cons_of_mem _ h)⟩ Bd.returns Bd.notSynchronized (name_of_methodNamed Bd.named Bd.method).1 hK hP (hD0.self (sz := s.heap.size)) (fun q h => Or.inr h) va_S.rf _ (lv_entry as hn)
theorem MV.of {S : Type} {post : S → Prop} {B : S → va_W} (hy : plainName y.cls = true) (hn : (lg_sl as).length ≤ n)
    (body : ∀ (p : Program) (e : Env) (s : State) (m : MethodId) (args : Array Value) (below : List Frame) (meth : Method) (c : Code) (A : Nat → Prop), CallFix p m c b n s args rr_all y.cls → meth.sig.returnType = none → meth.locks = false → (meth.name = y.name) → rr_K D cs s → va_P D classes ws s.heap → va_D A ws → (∀ q : Nat, s.heap.size ≤ q → A q) → va_S A s.heap s.heap [] →
      ∀ ls : Array Slot, lv_has ls n (lv_args 0 as) → W p l e { frames := fr, cells := mc, slots := ms, locals := lc } s m args below meth c s.heap [] 0 0 (MQ below (va_Qv post (fun u t => va_P D classes (B u) t.heap ∧ va_D A (B u)) A) args s mc ms A) (F0 m 0 ls [])) : MV l y b n fr lc mc ms D cs ws sz as post B := by
  refine Met.ofW (cc := b) (maxL := n) (ret := none) hy rfl ?_
  intro p e s m args below meth c s₁ Bd hml hv
  obtain ⟨rfl, rfl, hP, hK, hD0⟩ := hv
  have hts := atoms_spec (ws := .code y b n none :: rr_all) Bd.pre
  rw [lg_entry_eq]
  exact body p e s m _ below meth c (va_A ws s.heap.size) ⟨Bd.exec, Bd.bytes, hml, findClass_of_methodNamed Bd.named, fun w h => hts w (List.mem_cons_of_mem _ h)⟩ Bd.returns Bd.notSynchronized (name_of_methodNamed Bd.named Bd.method).1 hK hP (hD0.self (sz := s.heap.size)) (fun q h => Or.inr h) va_S.rf _ (lv_entry as hn)
end RR1
section RR2
variable {p : Program} {l : Launch} {e : Env} {R : Room} {s : State} {m : MethodId} {args : Array Value} {below : List Frame} {meth : Method} {c : Code} {H : Heap} {locs : List Loc} {cells slots : Nat} {Q : State → Prop}
variable {pc : Nat} {ls : Array Slot} {rest st0 : List Value} {cc : ByteArray} {nL : Nat} {own : String} {D : va_G} {cs : rr_C3} {ws wc : va_W} {A : Nat → Prop} {H0 : Heap}
/-- the top of the stack by another name -/
theorem rr_top {x z : Int32} (h : x = z) (k : W p l e R s m args below meth c H locs cells slots Q (F0 m pc ls (.int z :: rest))) : W p l e R s m args below meth c H locs cells slots Q (F0 m pc ls (.int x :: rest)) := h ▸ k
theorem rr_iadd {a b : Nat} (hexec : p.tables.exec = Jvm.exec) (hb : c.code = cc) (hdg : decode cc pc = .ok (.iadd, 1)) (k : W p l e R s m args below meth c H locs cells slots Q (F0 m (pc + 1) ls (.int (nI (a + b)) :: rest))) : W p l e R s m args below meth c H locs cells slots Q (F0 m pc ls (.int (nI b) :: .int (nI a) :: rest)) := lv_iadd hexec hb hdg (rr_top (nI_add a b) k)
theorem rr_isub {a b : Nat} (h : b ≤ a) (hexec : p.tables.exec = Jvm.exec) (hb : c.code = cc) (hdg : decode cc pc = .ok (.isub, 1)) (k : W p l e R s m args below meth c H locs cells slots Q (F0 m (pc + 1) ls (.int (nI (a - b)) :: rest))) : W p l e R s m args below meth c H locs cells slots Q (F0 m pc ls (.int (nI b) :: .int (nI a) :: rest)) := lv_isub hexec hb hdg (rr_top (by
  rw [show nI a = nI (a - b) + nI b from by rw [nI_add, Nat.sub_add_cancel h]]
  exact Int32.add_sub_cancel _ _) k)
theorem rr_imul {a b : Nat} (hexec : p.tables.exec = Jvm.exec) (hb : c.code = cc) (hdg : decode cc pc = .ok (.imul, 1)) (k : W p l e R s m args below meth c H locs cells slots Q (F0 m (pc + 1) ls (.int (nI (a * b)) :: rest))) : W p l e R s m args below meth c H locs cells slots Q (F0 m pc ls (.int (nI b) :: .int (nI a) :: rest)) := lv_imul hexec hb hdg (rr_top (pk_mul a b) k)
theorem rr_idiv {a b : Nat} (ha : a < 2 ^ 31) (h0 : 0 < b) (hb2 : b < 2 ^ 31) (hexec : p.tables.exec = Jvm.exec) (hb : c.code = cc) (hdg : decode cc pc = .ok (.idiv, 1)) (k : W p l e R s m args below meth c H locs cells slots Q (F0 m (pc + 1) ls (.int (nI (a / b)) :: rest))) : W p l e R s m args below meth c H locs cells slots Q (F0 m pc ls (.int (nI b) :: .int (nI a) :: rest)) := lv_idiv hexec hb hdg (nI_ne0 h0 hb2) (rr_top (pk_div ha h0 hb2) k)
theorem rr_irem {a b : Nat} (ha : a < 2 ^ 31) (h0 : 0 < b) (hb2 : b < 2 ^ 31) (hexec : p.tables.exec = Jvm.exec) (hb : c.code = cc) (hdg : decode cc pc = .ok (.irem, 1)) (k : W p l e R s m args below meth c H locs cells slots Q (F0 m (pc + 1) ls (.int (nI (a % b)) :: rest))) : W p l e R s m args below meth c H locs cells slots Q (F0 m pc ls (.int (nI b) :: .int (nI a) :: rest)) := lv_irem hexec hb hdg (nI_ne0 h0 hb2) (rr_top (pk_rem ha h0 hb2) k)
theorem rr_icmp_eq {a b : Nat} {off : Int} {tgt : Nat} (ha : a < 2 ^ 31) (hb2 : b < 2 ^ 31) (hexec : p.tables.exec = Jvm.exec) (hb : c.code = cc) (hdg : decode cc pc = .ok (.if_icmp .eq off, 3)) (ht : (pc : Int) + off = (tgt : Int)) (kt : a = b → W p l e R s m args below meth c H locs cells slots Q (F0 m tgt ls rest)) (kf : ¬ a = b → W p l e R s m args below meth c H locs cells slots Q (F0 m (pc + 3) ls rest)) : W p l e R s m args below meth c H locs cells slots Q (F0 m pc ls (.int (nI b) :: .int (nI a) :: rest)) := lv_icmp_eq hexec hb hdg ht (fun h => kt ((nI_eq ha hb2).mp h)) (fun h => kf (fun g => h ((nI_eq ha hb2).mpr g)))
theorem rr_icmp_ne {a b : Nat} {off : Int} {tgt : Nat} (ha : a < 2 ^ 31) (hb2 : b < 2 ^ 31) (hexec : p.tables.exec = Jvm.exec) (hb : c.code = cc) (hdg : decode cc pc = .ok (.if_icmp .ne off, 3)) (ht : (pc : Int) + off = (tgt : Int)) (kt : ¬ a = b → W p l e R s m args below meth c H locs cells slots Q (F0 m tgt ls rest)) (kf : a = b → W p l e R s m args below meth c H locs cells slots Q (F0 m (pc + 3) ls rest)) : W p l e R s m args below meth c H locs cells slots Q (F0 m pc ls (.int (nI b) :: .int (nI a) :: rest)) := lv_icmp_ne hexec hb hdg ht (fun h => kt (fun g => h ((nI_eq ha hb2).mpr g))) (fun h => kf ((nI_eq ha hb2).mp h))
theorem rr_icmp_lt {a b : Nat} {off : Int} {tgt : Nat} (ha : a < 2 ^ 31) (hb2 : b < 2 ^ 31) (hexec : p.tables.exec = Jvm.exec) (hb : c.code = cc) (hdg : decode cc pc = .ok (.if_icmp .lt off, 3)) (ht : (pc : Int) + off = (tgt : Int)) (kt : a < b → W p l e R s m args below meth c H locs cells slots Q (F0 m tgt ls rest)) (kf : b ≤ a → W p l e R s m args below meth c H locs cells slots Q (F0 m (pc + 3) ls rest)) : W p l e R s m args below meth c H locs cells slots Q (F0 m pc ls (.int (nI b) :: .int (nI a) :: rest)) := lv_icmp_lt hexec hb hdg ht (fun h => kt ((nI_ltI ha hb2).mp h)) (fun h => kf (Nat.not_lt.mp fun g => h ((nI_ltI ha hb2).mpr g)))
theorem rr_icmp_ge {a b : Nat} {off : Int} {tgt : Nat} (ha : a < 2 ^ 31) (hb2 : b < 2 ^ 31) (hexec : p.tables.exec = Jvm.exec) (hb : c.code = cc) (hdg : decode cc pc = .ok (.if_icmp .ge off, 3)) (ht : (pc : Int) + off = (tgt : Int)) (kt : b ≤ a → W p l e R s m args below meth c H locs cells slots Q (F0 m tgt ls rest)) (kf : a < b → W p l e R s m args below meth c H locs cells slots Q (F0 m (pc + 3) ls rest)) : W p l e R s m args below meth c H locs cells slots Q (F0 m pc ls (.int (nI b) :: .int (nI a) :: rest)) := lv_icmp_ge hexec hb hdg ht (fun h => kt ((nI_leI hb2 ha).mp h)) (fun h => kf (Nat.not_le.mp fun g => h ((nI_leI hb2 ha).mpr g)))
theorem rr_icmp_gt {a b : Nat} {off : Int} {tgt : Nat} (ha : a < 2 ^ 31) (hb2 : b < 2 ^ 31) (hexec : p.tables.exec = Jvm.exec) (hb : c.code = cc) (hdg : decode cc pc = .ok (.if_icmp .gt off, 3)) (ht : (pc : Int) + off = (tgt : Int)) (kt : b < a → W p l e R s m args below meth c H locs cells slots Q (F0 m tgt ls rest)) (kf : a ≤ b → W p l e R s m args below meth c H locs cells slots Q (F0 m (pc + 3) ls rest)) : W p l e R s m args below meth c H locs cells slots Q (F0 m pc ls (.int (nI b) :: .int (nI a) :: rest)) := lv_icmp_gt hexec hb hdg ht (fun h => kt ((nI_ltI hb2 ha).mp h)) (fun h => kf (Nat.not_lt.mp fun g => h ((nI_ltI hb2 ha).mpr g)))
theorem rr_icmp_le {a b : Nat} {off : Int} {tgt : Nat} (ha : a < 2 ^ 31) (hb2 : b < 2 ^ 31) (hexec : p.tables.exec = Jvm.exec) (hb : c.code = cc) (hdg : decode cc pc = .ok (.if_icmp .le off, 3)) (ht : (pc : Int) + off = (tgt : Int)) (kt : a ≤ b → W p l e R s m args below meth c H locs cells slots Q (F0 m tgt ls rest)) (kf : b < a → W p l e R s m args below meth c H locs cells slots Q (F0 m (pc + 3) ls rest)) : W p l e R s m args below meth c H locs cells slots Q (F0 m pc ls (.int (nI b) :: .int (nI a) :: rest)) := lv_icmp_le hexec hb hdg ht (fun h => kt ((nI_leI ha hb2).mp h)) (fun h => kf (Nat.not_le.mp fun g => h ((nI_leI ha hb2).mpr g)))
theorem rr_if_eq {a : Nat} {off : Int} {tgt : Nat} (ha : a < 2 ^ 31) (hexec : p.tables.exec = Jvm.exec) (hb : c.code = cc) (hdg : decode cc pc = .ok (.ifCond .eq off, 3)) (ht : (pc : Int) + off = (tgt : Int)) (kt : a = 0 → W p l e R s m args below meth c H locs cells slots Q (F0 m tgt ls rest)) (kf : ¬ a = 0 → W p l e R s m args below meth c H locs cells slots Q (F0 m (pc + 3) ls rest)) : W p l e R s m args below meth c H locs cells slots Q (F0 m pc ls (.int (nI a) :: rest)) := lv_if_eq hexec hb hdg ht (fun h => kt ((nI_eq ha (by decide)).mp (h.trans nI_0.symm))) (fun h => kf (fun g => h (by rw [g]; exact nI_0)))
theorem rr_if_ne {a : Nat} {off : Int} {tgt : Nat} (ha : a < 2 ^ 31) (hexec : p.tables.exec = Jvm.exec) (hb : c.code = cc) (hdg : decode cc pc = .ok (.ifCond .ne off, 3)) (ht : (pc : Int) + off = (tgt : Int)) (kt : ¬ a = 0 → W p l e R s m args below meth c H locs cells slots Q (F0 m tgt ls rest)) (kf : a = 0 → W p l e R s m args below meth c H locs cells slots Q (F0 m (pc + 3) ls rest)) : W p l e R s m args below meth c H locs cells slots Q (F0 m pc ls (.int (nI a) :: rest)) := lv_if_ne hexec hb hdg ht (fun h => kt (fun g => h (by rw [g]; exact nI_0))) (fun h => kf ((nI_eq ha (by decide)).mp (h.trans nI_0.symm)))
theorem rr_if_gt {a : Nat} {off : Int} {tgt : Nat} (ha : a < 2 ^ 31) (hexec : p.tables.exec = Jvm.exec) (hb : c.code = cc) (hdg : decode cc pc = .ok (.ifCond .gt off, 3)) (ht : (pc : Int) + off = (tgt : Int)) (kt : 0 < a → W p l e R s m args below meth c H locs cells slots Q (F0 m tgt ls rest)) (kf : a = 0 → W p l e R s m args below meth c H locs cells slots Q (F0 m (pc + 3) ls rest)) : W p l e R s m args below meth c H locs cells slots Q (F0 m pc ls (.int (nI a) :: rest)) := lv_if_gt hexec hb hdg ht (fun h => kt (Nat.pos_of_ne_zero fun g => by rw [g, nI_0] at h; exact absurd h (by decide))) (fun h => kf (by
  rcases Nat.eq_zero_or_pos a with g | g
  · exact g
  · exact absurd ((nI_ltI (a := 0) (by decide) ha).mpr g) (by rw [nI_0]; exact h)))
theorem rr_if_le {a : Nat} {off : Int} {tgt : Nat} (ha : a < 2 ^ 31) (hexec : p.tables.exec = Jvm.exec) (hb : c.code = cc) (hdg : decode cc pc = .ok (.ifCond .le off, 3)) (ht : (pc : Int) + off = (tgt : Int)) (kt : a = 0 → W p l e R s m args below meth c H locs cells slots Q (F0 m tgt ls rest)) (kf : 0 < a → W p l e R s m args below meth c H locs cells slots Q (F0 m (pc + 3) ls rest)) : W p l e R s m args below meth c H locs cells slots Q (F0 m pc ls (.int (nI a) :: rest)) := lv_if_le hexec hb hdg ht (fun h => kt (by
  rcases Nat.eq_zero_or_pos a with g | g
  · exact g
  · exact absurd h (by rw [← nI_0]; exact nI_ge g ha))) (fun h => kf (Nat.pos_of_ne_zero fun g => h (by rw [g, nI_0]; decide)))
theorem rr_iald {a q0 n : Nat} {f : Nat → Int32} {k : Nat} (hexec : p.tables.exec = Jvm.exec) (hb : c.code = cc) (hK : rr_K D cs s) (hP : va_P D classes ws H) (ha : ws[q0]? = some (a, .inl (cs.1, n, .inl f))) (hk : k < n) (hn : n < 2 ^ 31) (hdg : decode cc pc = .ok (.iaload, 1)) (kk : W p l e R s m args below meth c H locs cells slots Q (F0 m (pc + 1) ls (.int (f k) :: rest))) : W p l e R s m args below meth c H locs cells slots Q (F0 m pc ls (.int (nI k) :: .ref a :: rest)) := va_iald hexec hb hK.1 hP q0 0 ha rfl (vp_in_nI hk hn) hdg (by rw [nI_clamp (Nat.lt_trans hk hn)]; exact kk)
theorem rr_zald {a q0 n : Nat} {f : Nat → Int32} {k : Nat} (hexec : p.tables.exec = Jvm.exec) (hb : c.code = cc) (hK : rr_K D cs s) (hP : va_P D classes ws H) (ha : ws[q0]? = some (a, .inl (cs.2.1, n, .inl f))) (hk : k < n) (hn : n < 2 ^ 31) (hdg : decode cc pc = .ok (.baload, 1)) (kk : W p l e R s m args below meth c H locs cells slots Q (F0 m (pc + 1) ls (.int (f k) :: rest))) : W p l e R s m args below meth c H locs cells slots Q (F0 m pc ls (.int (nI k) :: .ref a :: rest)) := va_zald hexec hb hK.1 hP q0 1 ha rfl (vp_in_nI hk hn) hdg (by rw [nI_clamp (Nat.lt_trans hk hn)]; exact kk)
theorem rr_upd (f : Nat → Int32) (g : Nat → Nat) (E : Nat → Int32) (k v : Nat) (h : ∀ j, f j = E (g j)) : upd f k (E v) = fun j => E (va_up g k v j) := by
  funext j
  by_cases e : j = k
  · subst e; rw [pk_us]; simp [va_up]
  · rw [pk_un e, h]; simp [va_up, e]
/-- a store into an int row whose contents are E of numbers -/
theorem rr_iast {a q0 n : Nat} (E : Nat → Int32) (g : Nat → Nat) {k v : Nat} (hexec : p.tables.exec = Jvm.exec) (hb : c.code = cc) (hK : rr_K D cs s) (hP : va_P D classes ws H) (hD : va_D A ws) (hS : va_S A H0 H locs) (ha : ws[q0]? = some (a, .inl (cs.1, n, .inl (fun j => E (g j))))) (hk : k < n) (hn : n < 2 ^ 31) (hdg : decode cc pc = .ok (.iastore, 1))
    (kk : ∀ (H1 : Heap) (locs1 : List Loc), va_P D classes (ws.set q0 (a, .inl (cs.1, n, .inl (fun j => E (va_up g k v j))))) H1 → va_D A (ws.set q0 (a, .inl (cs.1, n, .inl (fun j => E (va_up g k v j))))) → va_S A H0 H1 locs1 → W p l e R s m args below meth c H1 locs1 cells slots Q (F0 m (pc + 1) ls rest)) : W p l e R s m args below meth c H locs cells slots Q (F0 m pc ls (.int (E v) :: .int (nI k) :: .ref a :: rest)) := by
  refine va_iast hexec hb hK.1 hP hD hS q0 0 ha rfl (vp_in_nI hk hn) hdg ?_
  rw [nI_clamp (Nat.lt_trans hk hn), rr_upd _ g E k v (fun _ => rfl)]
  exact kk
theorem rr_zast {a q0 n : Nat} (g : Nat → Nat) {k v : Nat} (hv : v ≤ 1) (hexec : p.tables.exec = Jvm.exec) (hb : c.code = cc) (hK : rr_K D cs s) (hP : va_P D classes ws H) (hD : va_D A ws) (hS : va_S A H0 H locs) (ha : ws[q0]? = some (a, .inl (cs.2.1, n, .inl (fun j => nI (g j))))) (hk : k < n) (hn : n < 2 ^ 31) (hdg : decode cc pc = .ok (.bastore, 1))
    (kk : ∀ (H1 : Heap) (locs1 : List Loc), va_P D classes (ws.set q0 (a, .inl (cs.2.1, n, .inl (fun j => nI (va_up g k v j))))) H1 → va_D A (ws.set q0 (a, .inl (cs.2.1, n, .inl (fun j => nI (va_up g k v j))))) → va_S A H0 H1 locs1 → W p l e R s m args below meth c H1 locs1 cells slots Q (F0 m (pc + 1) ls rest)) : W p l e R s m args below meth c H locs cells slots Q (F0 m pc ls (.int (nI v) :: .int (nI k) :: .ref a :: rest)) := by
  refine va_zast hexec hb hK.1 hP hD hS q0 1 ha rfl (vp_in_nI hk hn) hdg ?_
  rw [nI_clamp (Nat.lt_trans hk hn), show vp_nar .boolean (nI v) = nI v from by rcases (show v = 0 ∨ v = 1 by omega) with rfl | rfl <;> decide, rr_upd _ g nI k v (fun _ => rfl)]
  exact kk
/-- behind a call that only reads -/
theorem rr_csi {post : Int32 → Prop} {a : Array Value} (run : va_Run p l e R s m args below meth c H locs cells slots 0 0 (F0 m pc ls st0) rest (vp_Si post a) (fun _ => False))
    (kk : ∀ r : Int32, post r → W p l e R s m args below meth c H locs cells slots Q (F0 m (pc + 3) ls (.int r :: rest))) : W p l e R s m args below meth c H locs cells slots Q (F0 m pc ls st0) := by
  intro T hT X
  obtain ⟨v, st₀, t, T', L, h0, X', hL, e1, e2, ⟨r, hv, hp, hh⟩, st⟩ := run T hT X
  cases hv
  obtain ⟨t2, a1, b1⟩ := kk r hp T' (by rw [e1, hh, h0]) (Stand.forget X' (fun q h => (hL q h).elim))
  exact ⟨t2, st t2 a1, b1⟩
theorem rr_blindR {as : List Value} : FrameBlind (va_Pc as (fun U => va_P D classes wc U.heap ∧ rr_K D cs U)) := fun _ _ _ _ h => ⟨h.1, h.2.1, h.2.2.calling⟩
/-- a call of an instance method that only reads: the callee's cells are the places 'is' of the caller's -/
theorem rr_rV {y : MethodName} {b : ByteArray} {n fr lc idx q0 ci o : Nat} {ret : Option FieldType} {As : List Value} {post : Int32 → Prop} {q : vw_C} {fs : List Value} {lv : List (Nat × Value)} (S : CallFix p m c cc nL s args rr_all own) (hK : rr_K D cs s) (hP : va_P D classes ws H) (hM : RO l y b n ret fr lc D cs wc (.ref o :: As) post) (K : rr_CK y b n ret As.length) (is : List Nat) (hs : is.filterMap (fun i => ws[i]?) = wc) (he : ws[q0]? = some (o, .inr (ci, fs))) (hc : classes[ci]? = some q) (hq : q.1 = y.cls)
    (hlink : Cond.methodLink own idx y ∈ rr_all) (hR : fr + 1 ≤ R.frames ∧ 8 + (n + 11) + lc ≤ R.locals) (hf : cells ≤ R.cells ∧ slots ≤ R.slots) (hl : lv_has ls nL lv) (hst : (rest.map fun v => v.category).sum ≤ 8) (h0 : st0 = As.reverse ++ .ref o :: rest) (hdg : decode cc pc = .ok (.invokevirtual idx, 3))
    (kk : ∀ r : Int32, post r → W p l e R s m args below meth c H locs cells slots Q (F0 m (pc + 3) ls (.int r :: rest))) : W p l e R s m args below meth c H locs cells slots Q (F0 m pc ls st0) := by
  obtain ⟨k1, k2, k3, k4, k5, k6, k7⟩ := K
  have ht := S.2.2.2.2
  have hPc := hP.sub is hs
  exact rr_csi (va_runV (C := y.cls) (As := As) (rest := rest) S hM ⟨callB_of As.length ht (rr_gcode k4) rfl rfl rfl (ht _ k3) (ht _ hlink) ⟨k5, k6, k7⟩ hR, ht _ k1, ht _ k2⟩ ⟨rr_blindR, by rw [← hq]; exact va_recv hK.1 hP hc he, fun U hU hW => ⟨rfl, by rw [hU]; exact hPc, hK.warm hW⟩⟩ rfl rfl hl.1 h0 (lv_room hst) hdg hf) kk
/-- .. of a static method -/
theorem rr_rS {y : MethodName} {b : ByteArray} {n fr lc idx : Nat} {ret : Option FieldType} {As : List Value} {post : Int32 → Prop} {lv : List (Nat × Value)} (S : CallFix p m c cc nL s args rr_all own) (hK : rr_K D cs s) (hM : RO l y b n ret fr lc D cs [] As post) (K : rr_CS y b n ret As.length)
    (hlink : Cond.methodLink own idx y ∈ rr_all) (hR : fr + 1 ≤ R.frames ∧ 8 + (n + 11) + lc ≤ R.locals) (hf : cells ≤ R.cells ∧ slots ≤ R.slots) (hl : lv_has ls nL lv) (hst : (rest.map fun v => v.category).sum ≤ 8) (h0 : st0 = As.reverse ++ rest) (hdg : decode cc pc = .ok (.invokestatic idx, 3))
    (kk : ∀ r : Int32, post r → W p l e R s m args below meth c H locs cells slots Q (F0 m (pc + 3) ls (.int r :: rest))) : W p l e R s m args below meth c H locs cells slots Q (F0 m pc ls st0) := by
  obtain ⟨k1, k3, k4, k5, k6, k7⟩ := K
  have ht := S.2.2.2.2
  exact rr_csi (va_runS (As := As) (rest := rest) S hM ⟨callB_of As.length ht (rr_gcode k4) rfl rfl rfl (ht _ k3) (ht _ hlink) ⟨k5, k6, k7⟩ hR, ht _ k1⟩ ⟨rr_blindR, fun U hU hW => ⟨rfl, (fun k q h => by simp at h), hK.warm hW⟩⟩ rfl rfl hl.1 h0 (lv_room hst) hdg hf) kk
/-- .. of a private static method of a nest mate -/
theorem rr_rSN {y : MethodName} {b : ByteArray} {n fr lc idx : Nat} {host : String} {ret : Option FieldType} {As : List Value} {post : Int32 → Prop} {lv : List (Nat × Value)} (S : CallFix p m c cc nL s args rr_all own) (hK : rr_K D cs s) (hM : RO l y b n ret fr lc D cs [] As post) (K : rr_CS y b n ret As.length)
    (hlink : (own, idx, y, host) ∈ rr_nl) (hR : fr + 1 ≤ R.frames ∧ 8 + (n + 11) + lc ≤ R.locals) (hf : cells ≤ R.cells ∧ slots ≤ R.slots) (hl : lv_has ls nL lv) (hst : (rest.map fun v => v.category).sum ≤ 8) (h0 : st0 = As.reverse ++ rest) (hdg : decode cc pc = .ok (.invokestatic idx, 3))
    (kk : ∀ r : Int32, post r → W p l e R s m args below meth c H locs cells slots Q (F0 m (pc + 3) ls (.int r :: rest))) : W p l e R s m args below meth c H locs cells slots Q (F0 m pc ls st0) := by
  obtain ⟨k1, k3, k4, k5, k6, k7⟩ := K
  have ht := S.2.2.2.2
  exact rr_csi (va_runSN (As := As) (rest := rest) S hM ⟨va_cnB As.length ht (rr_gcode k4) rfl rfl rfl (hK.2 _ hlink) (ht _ k3) ⟨k5, k6, k7⟩ hR, ht _ k1, trivial⟩ ⟨rr_blindR, fun U hU hW => ⟨rfl, (fun k q h => by simp at h), hK.warm hW⟩⟩ rfl rfl hl.1 h0 (lv_room hst) hdg hf) kk
theorem rr_blindM {as : List Value} {sz : Nat} : FrameBlind (va_Pc as (fun U => U.heap.size = sz ∧ va_P D classes wc U.heap ∧ rr_K D cs U ∧ va_D (fun _ => True) wc)) := fun _ _ _ _ h => ⟨h.1, h.2.1, h.2.2.1, h.2.2.2.1.calling, h.2.2.2.2⟩
/-- a call of an instance method that writes: the callee's cells are the places isC of the caller's, the places isR stay; 'back' lays the caller's world anew -/
theorem rr_mVi {y : MethodName} {b : ByteArray} {n fr lc mc ms idx q0 ci o : Nat} {ret : Option FieldType} {As : List Value} {S9 : Type} {post : Int32 → S9 → Prop} {B : S9 → va_W} {q : vw_C} {fs : List Value} {lv : List (Nat × Value)} {wr : va_W} (S : CallFix p m c cc nL s args rr_all own) (hK : rr_K D cs s) (hP : va_P D classes ws H) (hD : va_D A ws) (hS : va_S A H0 H locs) (hA : ∀ q : Nat, H0.size ≤ q → A q) (hM : MI l y b n ret fr lc mc ms D cs wc H.size (.ref o :: As) post B) (K : rr_CK y b n ret As.length) (isC isR : List Nat) (hC : isC.map (fun i => ws[i]?) = wc.map some) (hnd : va_nd isC = true) (hRr : isR.map (fun i => ws[i]?) = wr.map some) (hn : va_nd isR = true) (hdis : ∀ i ∈ isR, i ∉ isC) (he : ws[q0]? = some (o, .inr (ci, fs))) (hc : classes[ci]? = some q) (hq : q.1 = y.cls)
    (hlink : Cond.methodLink own idx y ∈ rr_all) (hR : fr + 1 ≤ R.frames ∧ 8 + (n + 11) + lc ≤ R.locals) (hf : cells + mc ≤ R.cells ∧ slots + ms ≤ R.slots) (hl : lv_has ls nL lv) (hst : (rest.map fun v => v.category).sum ≤ 8) (h0 : st0 = As.reverse ++ .ref o :: rest) (hdg : decode cc pc = .ok (.invokevirtual idx, 3))
    (kk : ∀ (r : Int32) (u : S9) (H1 : Heap) (locs1 : List Loc), post r u → va_P D classes (wr ++ B u) H1 → va_D A (wr ++ B u) → va_S A H0 H1 locs1 → W p l e R s m args below meth c H1 locs1 (cells + mc) (slots + ms) Q (F0 m (pc + 3) ls (.int r :: rest))) : W p l e R s m args below meth c H locs cells slots Q (F0 m pc ls st0) := by
  obtain ⟨k1, k2, k3, k4, k5, k6, k7⟩ := K
  have ht := S.2.2.2.2
  have hPc : va_P D classes wc H := fun k q hk => by
    have h1 : (isC.map (fun i => ws[i]?))[k]? = some (some q) := by rw [hC, List.getElem?_map, hk]; rfl
    rw [List.getElem?_map] at h1
    cases hi : isC[k]? with
    | none => rw [hi] at h1; cases h1
    | some i => rw [hi] at h1; exact hP i q (Option.some.inj h1)
  have hDc : va_D (fun _ => True) wc := (hD.sub isC hnd hC).weaken (fun _ _ _ _ => trivial)
  have hFc := va_free (wc := wc) hD hS hA isC hC
  refine va_calli (va_runV (C := y.cls) (As := As) (rest := rest) S hM ⟨callB_of As.length ht (rr_gcode k4) rfl rfl rfl (ht _ k3) (ht _ hlink) ⟨k5, k6, k7⟩ hR, ht _ k1, ht _ k2⟩ ⟨rr_blindM, by rw [← hq]; exact va_recv hK.1 hP hc he, fun U hU hW => ⟨rfl, by rw [hU], by rw [hU]; exact hPc, hK.warm hW, hDc⟩⟩ rfl rfl hl.1 h0 (lv_room hst) hdg hf) hS (fun q _ h => hFc q h) hFc ?_
  intro r u t H1 locs1 ht1 hvm hp hB hz hk hS1
  obtain ⟨hP1, hD1⟩ := hB
  rw [ht1] at hP1
  obtain ⟨g1, g2⟩ := va_join (wr := wr) (w1 := B u) hP hD isC isR hC hRr hn hdis hk hFc hP1 hD1
  exact kk r u H1 locs1 hp g1 g2 hS1
theorem rr_mVv {y : MethodName} {b : ByteArray} {n fr lc mc ms idx q0 ci o : Nat} {As : List Value} {S9 : Type} {post : S9 → Prop} {B : S9 → va_W} {q : vw_C} {fs : List Value} {lv : List (Nat × Value)} {wr : va_W} (S : CallFix p m c cc nL s args rr_all own) (hK : rr_K D cs s) (hP : va_P D classes ws H) (hD : va_D A ws) (hS : va_S A H0 H locs) (hA : ∀ q : Nat, H0.size ≤ q → A q) (hM : MV l y b n fr lc mc ms D cs wc H.size (.ref o :: As) post B) (K : rr_CK y b n none As.length) (isC isR : List Nat) (hC : isC.map (fun i => ws[i]?) = wc.map some) (hnd : va_nd isC = true) (hRr : isR.map (fun i => ws[i]?) = wr.map some) (hn : va_nd isR = true) (hdis : ∀ i ∈ isR, i ∉ isC) (he : ws[q0]? = some (o, .inr (ci, fs))) (hc : classes[ci]? = some q) (hq : q.1 = y.cls)
    (hlink : Cond.methodLink own idx y ∈ rr_all) (hR : fr + 1 ≤ R.frames ∧ 8 + (n + 11) + lc ≤ R.locals) (hf : cells + mc ≤ R.cells ∧ slots + ms ≤ R.slots) (hl : lv_has ls nL lv) (hst : (rest.map fun v => v.category).sum ≤ 8) (h0 : st0 = As.reverse ++ .ref o :: rest) (hdg : decode cc pc = .ok (.invokevirtual idx, 3))
    (kk : ∀ (u : S9) (H1 : Heap) (locs1 : List Loc), post u → va_P D classes (wr ++ B u) H1 → va_D A (wr ++ B u) → va_S A H0 H1 locs1 → W p l e R s m args below meth c H1 locs1 (cells + mc) (slots + ms) Q (F0 m (pc + 3) ls rest)) : W p l e R s m args below meth c H locs cells slots Q (F0 m pc ls st0) := by
  obtain ⟨k1, k2, k3, k4, k5, k6, k7⟩ := K
  have ht := S.2.2.2.2
  have hPc : va_P D classes wc H := fun k q hk => by
    have h1 : (isC.map (fun i => ws[i]?))[k]? = some (some q) := by rw [hC, List.getElem?_map, hk]; rfl
    rw [List.getElem?_map] at h1
    cases hi : isC[k]? with
    | none => rw [hi] at h1; cases h1
    | some i => rw [hi] at h1; exact hP i q (Option.some.inj h1)
  have hDc : va_D (fun _ => True) wc := (hD.sub isC hnd hC).weaken (fun _ _ _ _ => trivial)
  have hFc := va_free (wc := wc) hD hS hA isC hC
  refine va_callv (va_runV (C := y.cls) (As := As) (rest := rest) S hM ⟨callB_of As.length ht (rr_gcode k4) rfl rfl rfl (ht _ k3) (ht _ hlink) ⟨k5, k6, k7⟩ hR, ht _ k1, ht _ k2⟩ ⟨rr_blindM, by rw [← hq]; exact va_recv hK.1 hP hc he, fun U hU hW => ⟨rfl, by rw [hU], by rw [hU]; exact hPc, hK.warm hW, hDc⟩⟩ rfl rfl hl.1 h0 (lv_room hst) hdg hf) hS (fun q _ h => hFc q h) hFc ?_
  intro u t H1 locs1 ht1 hvm hp hB hz hk hS1
  obtain ⟨hP1, hD1⟩ := hB
  rw [ht1] at hP1
  obtain ⟨g1, g2⟩ := va_join (wr := wr) (w1 := B u) hP hD isC isR hC hRr hn hdis hk hFc hP1 hD1
  exact kk u H1 locs1 hp g1 g2 hS1
/-- ends -/
theorem rr_ret {post : Int32 → Prop} {v : Int32} (hexec : p.tables.exec = Jvm.exec) (hb : c.code = cc) (hr : meth.sig.returnType = some .int) (hlk : meth.locks = false) (hp : post v) (hdg : decode cc pc = .ok (.ireturn, 1)) : W p l e R s m args below meth c s.heap [] 0 0 (MQ below (vp_Si post) args s 0 0 (fun _ => False)) (F0 m pc ls [.int v]) := W.iret hexec hb hr (fun t ht _ => ⟨v, rfl, hp, ht⟩) (fun _ h => nomatch h) hdg hlk
theorem rr_retZ {post : Int32 → Prop} {v : Nat} (hv : v ≤ 1) (hexec : p.tables.exec = Jvm.exec) (hb : c.code = cc) (hr : meth.sig.returnType = some .boolean) (hlk : meth.locks = false) (hp : post (nI v)) (hdg : decode cc pc = .ok (.ireturn, 1)) : W p l e R s m args below meth c s.heap [] 0 0 (MQ below (vp_Si post) args s 0 0 (fun _ => False)) (F0 m pc ls [.int (nI v)]) := W.zret hexec hb hr (by rcases (show v = 0 ∨ v = 1 by omega) with rfl | rfl <;> decide) (fun t ht _ => ⟨nI v, rfl, hp, ht⟩) (fun _ h => nomatch h) hdg hlk
theorem rr_mret {S9 : Type} {post : Int32 → S9 → Prop} {B : S9 → va_W} {v : Int32} (u : S9) (hexec : p.tables.exec = Jvm.exec) (hb : c.code = cc) (hr : meth.sig.returnType = some .int) (hlk : meth.locks = false) (hP : va_P D classes (B u) H) (hD : va_D A (B u)) (hS : va_S A s.heap H locs) (hp : post v u) (hdg : decode cc pc = .ok (.ireturn, 1)) : W p l e R s m args below meth c H locs cells slots (MQ below (va_Qi post (fun u t => va_P D classes (B u) t.heap ∧ va_D A (B u)) A) args s cells slots A) (F0 m pc ls [.int v]) := W.iret hexec hb hr (fun t ht _ => ⟨⟨v, u, rfl, hp, by rw [ht]; exact hP, hD⟩, hS.F ht⟩) hS.2.2 hdg hlk
theorem rr_mretZ {S9 : Type} {post : Int32 → S9 → Prop} {B : S9 → va_W} {v : Nat} (hv : v ≤ 1) (u : S9) (hexec : p.tables.exec = Jvm.exec) (hb : c.code = cc) (hr : meth.sig.returnType = some .boolean) (hlk : meth.locks = false) (hP : va_P D classes (B u) H) (hD : va_D A (B u)) (hS : va_S A s.heap H locs) (hp : post (nI v) u) (hdg : decode cc pc = .ok (.ireturn, 1)) : W p l e R s m args below meth c H locs cells slots (MQ below (va_Qi post (fun u t => va_P D classes (B u) t.heap ∧ va_D A (B u)) A) args s cells slots A) (F0 m pc ls [.int (nI v)]) := W.zret hexec hb hr (by rcases (show v = 0 ∨ v = 1 by omega) with rfl | rfl <;> decide) (fun t ht _ => ⟨⟨nI v, u, rfl, hp, by rw [ht]; exact hP, hD⟩, hS.F ht⟩) hS.2.2 hdg hlk
theorem rr_mvret {S9 : Type} {post : S9 → Prop} {B : S9 → va_W} (u : S9) (hexec : p.tables.exec = Jvm.exec) (hb : c.code = cc) (hr : meth.sig.returnType = none) (hlk : meth.locks = false) (hP : va_P D classes (B u) H) (hD : va_D A (B u)) (hS : va_S A s.heap H locs) (hp : post u) (hdg : decode cc pc = .ok (.return_, 1)) : W p l e R s m args below meth c H locs cells slots (MQ below (va_Qv post (fun u t => va_P D classes (B u) t.heap ∧ va_D A (B u)) A) args s cells slots A) (F0 m pc ls []) := W.vret hexec hb hr (fun t ht _ => ⟨⟨u, rfl, hp, by rw [ht]; exact hP, hD⟩, hS.F ht⟩) hS.2.2 hdg hlk
/-- a counting loop that only reads -/
theorem rr_loop {pc : Nat} (lv : Nat → List (Nat × Value)) (I : Nat → Prop) (i0' N' : Nat) (hi : i0' ≤ N') (h0 : I i0') (hl : lv_has ls nL (lv i0'))
    (step : ∀ (i : Nat) (ls : Array Slot), i ≤ N' → I i → lv_has ls nL (lv i) → (∀ ls' : Array Slot, i < N' → I (i + 1) → lv_has ls' nL (lv (i + 1)) → W p l e R s m args below meth c H locs cells slots Q (F0 m pc ls' [])) → W p l e R s m args below meth c H locs cells slots Q (F0 m pc ls [])) :
    W p l e R s m args below meth c H locs cells slots Q (F0 m pc ls []) := by
  have key : ∀ (d i : Nat) (ls : Array Slot), i + d = N' → I i → lv_has ls nL (lv i) → W p l e R s m args below meth c H locs cells slots Q (F0 m pc ls []) := by
    intro d
    induction d with
    | zero => exact fun i ls hd hI h => step i ls (by omega) hI h (fun ls' hlt => absurd hlt (by omega))
    | succ d ih => exact fun i ls hd hI h => step i ls (by omega) hI h (fun ls' _ hI' h' => ih (i + 1) ls' (by omega) hI' h')
  exact key (N' - i0') i0' ls (by omega) h0 hl
/-- .. that writes: its world at each turn -/
theorem rr_loopM {pc : Nat} (lv : Nat → List (Nat × Value)) (I : Nat → Prop) (wf : Nat → va_W) (i0' N' : Nat) (hi : i0' ≤ N') (h0 : I i0') (hl : lv_has ls nL (lv i0')) (hP : va_P D classes (wf i0') H) (hD : va_D A (wf i0')) (hS : va_S A H0 H locs)
    (step : ∀ (i : Nat) (ls : Array Slot) (H : Heap) (locs : List Loc), i ≤ N' → I i → lv_has ls nL (lv i) → va_P D classes (wf i) H → va_D A (wf i) → va_S A H0 H locs → (∀ (ls' : Array Slot) (H' : Heap) (locs' : List Loc), i < N' → I (i + 1) → lv_has ls' nL (lv (i + 1)) → va_P D classes (wf (i + 1)) H' → va_D A (wf (i + 1)) → va_S A H0 H' locs' → W p l e R s m args below meth c H' locs' cells slots Q (F0 m pc ls' [])) → W p l e R s m args below meth c H locs cells slots Q (F0 m pc ls [])) :
    W p l e R s m args below meth c H locs cells slots Q (F0 m pc ls []) := by
  have key : ∀ (d i : Nat) (ls : Array Slot) (H : Heap) (locs : List Loc), i + d = N' → I i → lv_has ls nL (lv i) → va_P D classes (wf i) H → va_D A (wf i) → va_S A H0 H locs → W p l e R s m args below meth c H locs cells slots Q (F0 m pc ls []) := by
    intro d
    induction d with
    | zero => exact fun i ls H locs hd hI h g1 g2 g3 => step i ls H locs (by omega) hI h g1 g2 g3 (fun ls' H' locs' hlt => absurd hlt (by omega))
    | succ d ih => exact fun i ls H locs hd hI h g1 g2 g3 => step i ls H locs (by omega) hI h g1 g2 g3 (fun ls' H' locs' _ hI' h' f1 f2 f3 => ih (i + 1) ls' H' locs' (by omega) hI' h' f1 f2 f3)
  exact key (N' - i0') i0' ls H locs (by omega) h0 hl hP hD hS
/-- .. with a state of its own at each turn -/
theorem rr_loopS {pc : Nat} {T9 : Type} (lv : Nat → T9 → List (Nat × Value)) (I : Nat → T9 → Prop) (wf : Nat → T9 → va_W) (i0' N' : Nat) (t0 : T9) (hi : i0' ≤ N') (h0 : I i0' t0) (hl : lv_has ls nL (lv i0' t0)) (hP : va_P D classes (wf i0' t0) H) (hD : va_D A (wf i0' t0)) (hS : va_S A H0 H locs)
    (step : ∀ (i : Nat) (t : T9) (ls : Array Slot) (H : Heap) (locs : List Loc), i ≤ N' → I i t → lv_has ls nL (lv i t) → va_P D classes (wf i t) H → va_D A (wf i t) → va_S A H0 H locs → (∀ (t' : T9) (ls' : Array Slot) (H' : Heap) (locs' : List Loc), i < N' → I (i + 1) t' → lv_has ls' nL (lv (i + 1) t') → va_P D classes (wf (i + 1) t') H' → va_D A (wf (i + 1) t') → va_S A H0 H' locs' → W p l e R s m args below meth c H' locs' cells slots Q (F0 m pc ls' [])) → W p l e R s m args below meth c H locs cells slots Q (F0 m pc ls [])) :
    W p l e R s m args below meth c H locs cells slots Q (F0 m pc ls []) := by
  have key : ∀ (d i : Nat) (t : T9) (ls : Array Slot) (H : Heap) (locs : List Loc), i + d = N' → I i t → lv_has ls nL (lv i t) → va_P D classes (wf i t) H → va_D A (wf i t) → va_S A H0 H locs → W p l e R s m args below meth c H locs cells slots Q (F0 m pc ls []) := by
    intro d
    induction d with
    | zero => exact fun i t ls H locs hd hI h g1 g2 g3 => step i t ls H locs (by omega) hI h g1 g2 g3 (fun t' ls' H' locs' hlt => absurd hlt (by omega))
    | succ d ih => exact fun i t ls H locs hd hI h g1 g2 g3 => step i t ls H locs (by omega) hI h g1 g2 g3 (fun t' ls' H' locs' _ hI' h' f1 f2 f3 => ih (i + 1) t' ls' H' locs' (by omega) hI' h' f1 f2 f3)
  exact key (N' - i0') i0' t0 ls H locs (by omega) h0 hl hP hD hS
end RR2
