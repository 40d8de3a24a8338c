section
-- ===== PART A: goes FIRST, ahead of the names: the tables' words, and 'selects' of the private methods out of them =====
/-- a private method of a class that the tables say can be made, by its rows of tables_1 -/
def lw_okq (q : MethodName × Nat) : Prop := (q.1.cls ≠ "java/lang/invoke/MethodHandle" ∧ q.1.cls ≠ "java/lang/invoke/VarHandle") ∧ Cond.instantiable q.1.cls q.2 ∈ tables_1 ∧ Cond.privateMethod q.1 ∈ tables_1 ∧ Cond.instanceMethod q.1 ∈ tables_1
theorem lw_p0 : lw_okq (⟨"java/lang/Throwable", "fillInStackTrace", "(I)Ljava/lang/Throwable;"⟩, 6) := ⟨⟨by decide +kernel, by decide +kernel⟩, List.mem_of_getElem? (i := 203) (by decide +kernel), List.mem_of_getElem? (i := 201) (by decide +kernel), List.mem_of_getElem? (i := 202) (by decide +kernel)⟩
theorem lw_p1 : lw_okq (⟨"RopeVotes", "passMinute", "()V"⟩, 9) := ⟨⟨by decide +kernel, by decide +kernel⟩, List.mem_of_getElem? (i := 16) (by decide +kernel), List.mem_of_getElem? (i := 315) (by decide +kernel), List.mem_of_getElem? (i := 316) (by decide +kernel)⟩
theorem lw_p2 : lw_okq (⟨"RopeVotes", "makeVotes", "()V"⟩, 9) := ⟨⟨by decide +kernel, by decide +kernel⟩, List.mem_of_getElem? (i := 16) (by decide +kernel), List.mem_of_getElem? (i := 319) (by decide +kernel), List.mem_of_getElem? (i := 320) (by decide +kernel)⟩
def lw_privs_1 : List (MethodName × Nat) := [(⟨"java/lang/Throwable", "fillInStackTrace", "(I)Ljava/lang/Throwable;"⟩, 6), (⟨"RopeVotes", "passMinute", "()V"⟩, 9), (⟨"RopeVotes", "makeVotes", "()V"⟩, 9)]
theorem lw_r1 : ∀ q ∈ lw_privs_1, lw_okq q := List.forall_mem_cons.mpr ⟨lw_p0, List.forall_mem_cons.mpr ⟨lw_p1, List.forall_mem_cons.mpr ⟨lw_p2, fun _ h => absurd h List.not_mem_nil⟩⟩⟩
def lw_privs : List (MethodName × Nat) := lw_privs_1
def lw_tbl : List Cond := k2_sels lw_privs ++ tables_1
theorem lw_privs_ok : ∀ q ∈ lw_privs, lw_okq q := lw_r1
end
section
/-! ===== BEGIN words of one list among another's, by their places ===== -/
theorem goodIn_r {big : List Cond} (ws : List Cond) (ps : List Nat) (hp : ws = ps.filterMap (fun i => big[i]?)) (h : ws.all goodWord = true) : GoodIn big ws := by
  intro w hw
  have h1 := List.all_eq_true.mp h w hw
  rw [hp] at hw
  obtain ⟨i, -, hi⟩ := List.mem_filterMap.mp hw
  have hm : w ∈ big := by first | exact List.mem_of_getElem? hi | exact List.getElem?_mem hi
  exact ⟨hm, good_of_word h1⟩
theorem goodIn_app {big a b : List Cond} (ha : GoodIn big a) (hb : GoodIn big b) : GoodIn big (a ++ b) := fun w h => (List.mem_append.mp h).elim (ha w) (hb w)
theorem goodIn_ca {big a b : List Cond} {c : Cond} (ha : GoodIn big (c :: a)) (hb : GoodIn big b) : GoodIn big (c :: (a ++ b)) := fun w h => (List.mem_cons.mp h).elim (fun e => ha w (List.mem_cons.mpr (Or.inl e))) (fun h => (List.mem_append.mp h).elim (fun h => ha w (List.mem_cons.mpr (Or.inr h))) (hb w))
theorem goodIn_sub {big ws : List Cond} (hm : ∀ w ∈ ws, w ∈ big) (h : ws.all goodWord = true) : GoodIn big ws := fun w hw => ⟨hm w hw, good_of_word (List.all_eq_true.mp h w hw)⟩
/-! ===== END ===== -/
/-! ===== BEGIN exceptions that leave a method, and their catching by the caller (launches without stack traces) ===== -/
section VXA
/-! The laws vx_back, vx_callV, vx_callS, vx_callSW, vx_throw0, vx_throwS follow proofs of the library, with one case more: JvmDerived/Free/Laws.lean (Back.of_free), Shelf42/LK1.lean (callV, callS), Shelf/KitTraced.lean (throwNew0V, throwNewS). -/
/-- where a method has thrown q: the class by its name, the cell, what was written, the world -/
def vx_T (XC : String → State → State → Prop) (st : State) (q : Addr) (t : State) (mc ms : Nat) (free : Addr → Prop) : Prop :=
  ∃ (E : String) (ce : Cell) (L : List Loc), XC E st t ∧ t.heap[q]? = some ce ∧ ce.vm = .none ∧ st.vm.findClass E = some ce.cls ∧ st.WarmedH t.vm ∧ st.sameButNew ({ t with vm := st.vm } : State) L mc ms ∧ ∀ z ∈ L, free z.base
def vx_Q (Qc : Array Value → State → Outcome → State → Prop) (XC : String → State → State → Prop) (mc ms : Nat) (free : Addr → Prop) : Array Value → State → Outcome → State → Prop := fun a st o t =>
  (Qc a st o t ∧ ∃ L, FrameEnd st o t L mc ms ∧ ∀ q ∈ L, free q.base) ∨ ∃ q, o = .threw q ∧ vx_T XC st q t mc ms free
/-- a callee that returns or throws -/
def vx_Met (l : Launch) (y : MethodName) (ws : List Cond) (rm : Room) (Pc : Array Value → State → Prop) (Qc : Array Value → State → Outcome → State → Prop) (XC : String → State → State → Prop) (mc ms : Nat) (free : Addr → Prop) : Prop :=
  MetFree l y (headSpec ws rm) Pc (fun _ _ _ _ _ => True) (vx_Q Qc XC mc ms free)
def vx_Post (XC : String → State → State → Prop) (mc ms : Nat) (free : Addr → Prop) : Pt → Array Value → Addr → Pt → Prop := fun A a q B =>
  ∃ (g : JFrame) (mk : MethodId) (t : State) (L : List Loc) (E : String) (ce : Cell), B.U.heap = t.heap ∧ B.U.vm = t.vm ∧ XC E (A.U.calling g mk a) t ∧ t.heap[q]? = some ce ∧ ce.vm = .none ∧ A.U.vm.findClass E = some ce.cls ∧ B.locs = A.locs ++ L ∧ (∀ z ∈ L, free z.base) ∧ B.cells = A.cells + mc ∧ B.slots = A.slots + ms
def vx_Back (l : Launch) (R : Room) (p : Program) (e : Env) (below : List Frame) (s : State) (sargs : Array Value) (y : MethodName) (len W9 : Nat)
    (Pre : Pt → Array Value → Prop) (Post : Pt → Array Value → Option Value → Pt → Prop) (PostX : Pt → Array Value → Addr → Pt → Prop) : Prop :=
  ∀ (m : MethodId) (meth : Method) (c : Code) (A : Pt) (g : JFrame) (ig : Instr) (mk : MethodId) (a : Array Value),
    Stand p l e R s m sargs below meth c A.U A.locs A.cells A.slots → g.method = m → g.locals.size = c.maxLocals → decode c.code g.pc = .ok (ig, len) →
    2 * g.monitorRoom + (g.stack.map fun v => v.category).sum ≤ W9 → A.U.methodNamed? y = some mk → Pre A a →
    (∃ (v : Option Value) (B : Pt), Stand p l e R s m sargs below meth c B.U B.locs B.cells B.slots ∧ Post A a v B ∧
      Steps p.tables e below (doInvoke e (A.U.setTop g) [] mk a).1 (B.U.setTop { g with pc := g.pc + len, stack := v.toList ++ g.stack })) ∨
    (∃ (q : Addr) (B : Pt), Stand p l e R s m sargs below meth c B.U B.locs B.cells B.slots ∧ PostX A a q B ∧
      Steps p.tables e below (doInvoke e (A.U.setTop g) [] mk a).1 ((B.U.setTop g).pushFrame (.throwing q)))
section Payer
variable {l : Launch} {R : Room} {p : Program} {e : Env} {below : List Frame} {s : State} {sargs : Array Value} {y : MethodName} {len W9 : Nat}
theorem vx_back {ws : List Cond} {rm : Room} {Pc : Array Value → State → Prop} {Qc : Array Value → State → Outcome → State → Prop} {XC : String → State → State → Prop} {mc ms : Nat} {free : Addr → Prop} {bytes : ByteArray} {maxL : Nat} {ret : Option FieldType}
    (hM : vx_Met l y ws rm Pc Qc XC mc ms free) (hblind : FrameBlind Pc) (hrc : rm.cells = mc) (hrs : rm.slots = ms)
    (hframes : rm.frames + 1 ≤ R.frames) (hlocals : W9 + (maxL + 11) + rm.locals ≤ R.locals)
    (hws : ∀ w ∈ ws, ∀ a' U, s.WarmedH U.vm → w.before a' U = true) (hcode : Cond.code y bytes maxL ret ∈ ws) (hinit : ∀ a' U, s.WarmedH U.vm → (Cond.initialized y.cls).before a' U = true) :
    vx_Back l R p e below s sargs y len W9 (PreOf R mc ms Pc) (PostOf Qc mc ms free) (vx_Post XC mc ms free) := by
  intro m meth c A g ig mk a X hg hsize hdg hW hn hp
  have h1 : (headSpec ws rm).pre.before a A.U = true := atoms_intro fun w hw => hws w hw _ _ X.warmed
  have h2 : (Cond.code y bytes maxL ret).before a A.U = true := hws _ hcode _ _ X.warmed
  have h3 : (Cond.initialized y.cls).before a A.U = true := hinit _ _ X.warmed
  have h4 : A.cells + (headSpec ws rm).room.cells ≤ R.cells := by rw [show (headSpec ws rm).room.cells = mc from hrc]; exact hp.1
  have h5 : A.slots + (headSpec ws rm).room.slots ≤ R.slots := by rw [show (headSpec ws rm).room.slots = ms from hrs]; exact hp.2.1
  have hPc : Pc a (A.U.calling g mk a) := hblind _ _ _ _ hp.2.2
  obtain ⟨U, Ls, c0, s0⟩ := A
  dsimp only [Pt.U, Pt.locs, Pt.cells, Pt.slots] at h1 h2 h3 h4 h5 X hn hPc ⊢
  obtain ⟨methY, cY, hmY, hcY, -, hlY, -, -, -, -⟩ := Cond.code_spec hn h2
  obtain ⟨kY, hkY, -⟩ := className_of_methodNamed hn
  have hinitY : kY.init = .initialized := Cond.initialized_spec (findClass_of_methodNamed hn) hkY h3
  have h : At U g.method c below := by rw [hg]; exact X.here
  have hlocals9 : W9 + (maxL + 11) + (headSpec ws rm).room.locals ≤ R.locals := hlocals
  have happ : (headSpec ws rm).appliesLoose y e.platform (U.calling g mk a) = true :=
    Spec.appliesLoose_calling (g := g) h hdg hn hkY hinitY
      (X.room_calling (g := g) (R' := (headSpec ws rm).room) hsize hmY hcY hframes (by rw [hlY]; omega) h4 h5) h1
  obtain ⟨mid, hmid⟩ := h.above
  have hfr : (U.setTop g).frames = (.java g :: mid) ++ below := by rw [State.frames_setTop' g h.top, hmid]; rfl
  obtain ⟨o, s₂, hsteps, -, hend, hq⟩ := Steps.callFree hM p X.admits X.cas X.clock (acts := []) hfr happ hPc trivial
  have hq' : vx_Q Qc XC mc ms free a (U.calling g mk a) o s₂ := hq
  rw [State.frames_setTop' g h.top] at hend
  obtain ⟨g₀, hg0⟩ := Option.isSome_iff_exists.mp h.top
  obtain ⟨r, hr⟩ := State.topJava?_eq_some.mp hg0
  have hr' : (({ U with heap := s₂.heap, slotsUsed := s₂.slotsUsed } : State).setVm s₂.vm).frames = .java g₀ :: r := hr
  rcases hq' with ⟨hqc, L, hfe, hL⟩ | ⟨q, rfl, E, ce, L, hx, hce, hcv, hcl, hW₂, hsm, hL⟩
  · obtain ⟨⟨v, rfl⟩, hW₂, e2, q2, q3, q4, q5, q6⟩ := id hfe
    have e3 : s₂ = ({ (U.calling g mk a).setFrames s₂.frames with heap := s₂.heap, slotsUsed := s₂.slotsUsed } : State).setVm s₂.vm := by
      have : s₂ = ({ s₂ with vm := (U.calling g mk a).vm } : State).setVm s₂.vm := rfl
      rw [e2] at this
      exact this
    obtain ⟨c₂, i₂, len₂, hc₂, hd₂, hf₂⟩ := hend
    have hW' : U.WarmedH s₂.vm := hW₂
    have hcc : c₂ = c := by
      have h1 : s₂.code? g.method = U.code? g.method := by
        rw [State.code?_eq, State.code?_eq, hW'.alike.method?]
      exact Option.some.inj (hc₂.symm.trans (h1.trans h.code))
    subst hcc
    have hlen : len₂ = len := by rw [hdg] at hd₂; cases hd₂; rfl
    subst hlen
    have hs₂ : s₂ = (({ U with heap := s₂.heap, slotsUsed := s₂.slotsUsed } : State).setVm s₂.vm).setTop { g with pc := g.pc + len₂, stack := v.toList ++ g.stack } := by
      refine e3.trans ?_
      rw [hf₂, State.calling_eq h.top, State.setFrames_setFrames, State.setTop_of_frames _ hr', hr]
      rfl
    have hsame : U.sameButNew ({ U with heap := s₂.heap, slotsUsed := s₂.slotsUsed } : State) L mc ms := by
      refine ⟨?_, q2, q3, q4, q5, q6⟩
      obtain ⟨t, ht, -⟩ := State.frames_cons hr
      show ({ U with heap := s₂.heap, slotsUsed := s₂.slotsUsed } : State) = { U.setFrames U.frames with heap := s₂.heap, slotsUsed := s₂.slotsUsed }
      rw [State.setFrames_self ht]
    subst hg
    refine Or.inl ⟨v, ⟨(({ U with heap := s₂.heap, slotsUsed := s₂.slotsUsed } : State).setVm s₂.vm), Ls ++ L, c0 + mc, s0 + ms⟩,
      ⟨X.admits, X.cas, X.clock, X.frames, X.room, X.hears, X.method, X.code, (X.here.setHeapUsed s₂.heap s₂.slotsUsed).setVm hW'.alike, X.tail, State.WarmedH.trans X.warmed hW', X.limits, X.bytes, X.same.trans (hsame.setVm s.vm)⟩,
      ⟨g, mk, s₂, L, rfl, rfl, hqc, rfl, hL, rfl, rfl⟩, ?_⟩
    show Steps p.tables e below _ ((({ U with heap := s₂.heap, slotsUsed := s₂.slotsUsed } : State).setVm s₂.vm).setTop { g with pc := g.pc + len₂, stack := v.toList ++ g.stack })
    rw [← hs₂]
    exact hsteps
  · obtain ⟨e2, q2, q3, q4, q5, q6⟩ := id hsm
    have e3 : s₂ = ({ (U.calling g mk a).setFrames s₂.frames with heap := s₂.heap, slotsUsed := s₂.slotsUsed } : State).setVm s₂.vm := by
      have : s₂ = ({ s₂ with vm := (U.calling g mk a).vm } : State).setVm s₂.vm := rfl
      rw [e2] at this
      exact this
    have hf₂ : s₂.frames = .throwing q :: .java g :: U.frames.tail := hend
    have hW' : U.WarmedH s₂.vm := hW₂
    have hs₂ : s₂ = ((({ U with heap := s₂.heap, slotsUsed := s₂.slotsUsed } : State).setVm s₂.vm).setTop g).pushFrame (.throwing q) := by
      refine e3.trans ?_
      rw [hf₂, State.calling_eq h.top, State.setFrames_setFrames, State.pushFrame, State.frames_setTop _ hr', State.setTop_of_frames _ hr', State.setFrames_setFrames, hr]
      rfl
    have hsame : U.sameButNew ({ U with heap := s₂.heap, slotsUsed := s₂.slotsUsed } : State) L mc ms := by
      refine ⟨?_, q2, q3, q4, q5, q6⟩
      obtain ⟨t, ht, -⟩ := State.frames_cons hr
      show ({ U with heap := s₂.heap, slotsUsed := s₂.slotsUsed } : State) = { U.setFrames U.frames with heap := s₂.heap, slotsUsed := s₂.slotsUsed }
      rw [State.setFrames_self ht]
    subst hg
    refine Or.inr ⟨q, ⟨(({ U with heap := s₂.heap, slotsUsed := s₂.slotsUsed } : State).setVm s₂.vm), Ls ++ L, c0 + mc, s0 + ms⟩,
      ⟨X.admits, X.cas, X.clock, X.frames, X.room, X.hears, X.method, X.code, (X.here.setHeapUsed s₂.heap s₂.slotsUsed).setVm hW'.alike, X.tail, State.WarmedH.trans X.warmed hW', X.limits, X.bytes, X.same.trans (hsame.setVm s.vm)⟩,
      ⟨g, mk, s₂, L, E, ce, rfl, rfl, hx, hce, hcv, hcl, rfl, hL, rfl, rfl⟩, ?_⟩
    show Steps p.tables e below _ (((({ U with heap := s₂.heap, slotsUsed := s₂.slotsUsed } : State).setVm s₂.vm).setTop g).pushFrame (.throwing q))
    rw [← hs₂]
    exact hsteps
end Payer
section Calls
variable {p : Program} {l : Launch} {e : Env} {R : Room} {s : State} {m : MethodId} {args : Array Value} {below : List Frame} {meth : Method} {c : Code} {T : State} {locs : List Loc} {cells slots : Nat}
theorem vx_callV (X : Stand p l e R s m args below meth c T locs cells slots) (hexec : p.tables.exec = Jvm.exec) {own C : String} {index : Nat} {y : MethodName} {bytes : ByteArray} {maxL : Nat} {ret : Option FieldType}
    (hown : s.vm.findClass own = some m.cls) (hlink : (Cond.methodLink own index y).before args s = true) (hinst : (Cond.instanceMethod y).before args s = true) (hsel : (Cond.selects C y y).before args s = true)
    (hcode : (Cond.code y bytes maxL ret).before args s = true) (hy : y.cls ≠ "java/lang/invoke/MethodHandle" ∧ y.cls ≠ "java/lang/invoke/VarHandle")
    {W9 : Nat} {Pre : Pt → Array Value → Prop} {Post : Pt → Array Value → Option Value → Pt → Prop} {PostX : Pt → Array Value → Addr → Pt → Prop} (hK : vx_Back l R p e below s args y 3 W9 Pre Post PostX)
    {b : Addr} {cellB : Cell} (hcell : T.heap[b]? = some cellB) (hobj : cellB.vm.isStatics = false) (hcls : s.vm.findClass C = some cellB.cls)
    {g : JFrame} (hg : g.method = m) (hsize : g.locals.size = c.maxLocals) {argsL rest : List Value} (hlen : ∀ sig, parseMethodDescriptor y.desc = some sig → argsL.length = sig.parameters.length)
    (hstack : g.stack = argsL.reverse ++ .ref b :: rest) (hW : 2 * g.monitorRoom + (rest.map fun v => v.category).sum ≤ W9) (hdg : decode c.code g.pc = .ok (.invokevirtual index, 3))
    (hpre : ∀ vm₁, s.WarmedH vm₁ → Pre ⟨T.setVm vm₁, locs, cells, slots⟩ (Value.ref b :: argsL).toArray) :
    (∃ (v : Option Value) (vm₁ : Vm) (B : Pt), s.WarmedH vm₁ ∧ Stand p l e R s m args below meth c B.U B.locs B.cells B.slots ∧ Post ⟨T.setVm vm₁, locs, cells, slots⟩ (Value.ref b :: argsL).toArray v B ∧
      ∀ target, Steps p.tables e below (B.U.setTop { g with pc := g.pc + 3, stack := v.toList ++ rest }) target → Steps p.tables e below (T.setTop g) target) ∨
    (∃ (q : Addr) (vm₁ : Vm) (B : Pt), s.WarmedH vm₁ ∧ Stand p l e R s m args below meth c B.U B.locs B.cells B.slots ∧ PostX ⟨T.setVm vm₁, locs, cells, slots⟩ (Value.ref b :: argsL).toArray q B ∧
      Steps p.tables e below (T.setTop g) ((B.U.setTop { g with stack := rest }).pushFrame (.throwing q))) := by
  obtain ⟨mk, methM, hnamed, hmethM, hstM, habM⟩ := Cond.instanceMethod_spec hinst
  obtain ⟨methM', cM, hmethM', -, -, -, -, -, -, hsigM⟩ := Cond.code_spec hnamed hcode
  cases hmethM.symm.trans hmethM'
  obtain ⟨c2, r2, m2, q1, q2, q3, q4, kP, hkP, hkPi⟩ := Cond.selects_spec hsel
  cases hcls.symm.trans q1
  cases (State.methodFound?_of_named hnamed hy).symm.trans q2
  cases hnamed.symm.trans q3
  have hselP : selectMethod e.platform s.vm cellB.cls mk = .method mk := by rw [Launch.admits_selectMethod X.admits]; exact q4
  obtain ⟨vm₁, X₁, hstep₁⟩ := X.invokevirtual hexec hown hlink hnamed hmethM hstM hkP hkPi hy (a := b) (cell := cellB) hcell
    (fun z h => by rw [h] at hobj; cases hobj) hselP hmethM habM hkP hkPi (g := g) hg (argsL := argsL) (rest := rest) (hlen _ hsigM) hstack hdg
  rcases hK m meth c ⟨T.setVm vm₁, locs, cells, slots⟩ { g with stack := rest } (.invokevirtual index) mk (Value.ref b :: argsL).toArray X₁ hg hsize hdg hW (X₁.named hnamed) (hpre vm₁ X₁.warmed) with ⟨v, B, X', hpost, hsteps⟩ | ⟨q, B, X', hpost, hsteps⟩
  · exact Or.inl ⟨v, vm₁, B, X₁.warmed, X', hpost, fun target h => hstep₁ _ fun acts => by rw [doInvoke_state]; exact hsteps.trans h⟩
  · exact Or.inr ⟨q, vm₁, B, X₁.warmed, X', hpost, hstep₁ _ fun acts => by rw [doInvoke_state]; exact hsteps⟩
theorem vx_callS (X : Stand p l e R s m args below meth c T locs cells slots) (hexec : p.tables.exec = Jvm.exec) {own : String} {index : Nat} {y : MethodName} {bytes : ByteArray} {maxL : Nat} {ret : Option FieldType}
    (hown : s.vm.findClass own = some m.cls) (hlink : (Cond.methodLink own index y).before args s = true) (hstat : (Cond.static y).before args s = true) (hinit : (Cond.initialized y.cls).before args s = true)
    (hcode : (Cond.code y bytes maxL ret).before args s = true) (hy : y.cls ≠ "java/lang/invoke/MethodHandle" ∧ y.cls ≠ "java/lang/invoke/VarHandle")
    {W9 : Nat} {Pre : Pt → Array Value → Prop} {Post : Pt → Array Value → Option Value → Pt → Prop} {PostX : Pt → Array Value → Addr → Pt → Prop} (hK : vx_Back l R p e below s args y 3 W9 Pre Post PostX)
    {g : JFrame} (hg : g.method = m) (hsize : g.locals.size = c.maxLocals) {argsL rest : List Value} (hlen : ∀ sig, parseMethodDescriptor y.desc = some sig → argsL.length = sig.parameters.length)
    (hstack : g.stack = argsL.reverse ++ rest) (hW : 2 * g.monitorRoom + (rest.map fun v => v.category).sum ≤ W9) (hdg : decode c.code g.pc = .ok (.invokestatic index, 3))
    (hpre : ∀ vm₁, s.WarmedH vm₁ → Pre ⟨T.setVm vm₁, locs, cells, slots⟩ argsL.toArray) :
    (∃ (v : Option Value) (vm₁ : Vm) (B : Pt), s.WarmedH vm₁ ∧ Stand p l e R s m args below meth c B.U B.locs B.cells B.slots ∧ Post ⟨T.setVm vm₁, locs, cells, slots⟩ argsL.toArray v B ∧
      ∀ target, Steps p.tables e below (B.U.setTop { g with pc := g.pc + 3, stack := v.toList ++ rest }) target → Steps p.tables e below (T.setTop g) target) ∨
    (∃ (q : Addr) (vm₁ : Vm) (B : Pt), s.WarmedH vm₁ ∧ Stand p l e R s m args below meth c B.U B.locs B.cells B.slots ∧ PostX ⟨T.setVm vm₁, locs, cells, slots⟩ argsL.toArray q B ∧
      Steps p.tables e below (T.setTop g) ((B.U.setTop { g with stack := rest }).pushFrame (.throwing q))) := by
  obtain ⟨mk, hnamed⟩ := Cond.code_named hcode
  obtain ⟨methM, cM, hmethM, -, -, -, -, -, -, hsigM⟩ := Cond.code_spec hnamed hcode
  have hstatic : methM.isStatic = true := Cond.static_spec hnamed hmethM hstat
  obtain ⟨kP, hkP, -⟩ := className_of_methodNamed hnamed
  have hinitP : kP.init = .initialized := Cond.initialized_spec (findClass_of_methodNamed hnamed) hkP hinit
  obtain ⟨vm₁, X₁, hstep₁⟩ := X.invokestatic hexec hown hlink hnamed hmethM hstatic hkP hinitP hy (g := g) hg (argsL := argsL) (rest := rest) (hlen _ hsigM) hstack hdg
  rcases hK m meth c ⟨T.setVm vm₁, locs, cells, slots⟩ { g with stack := rest } (.invokestatic index) mk argsL.toArray X₁ hg hsize hdg hW (X₁.named hnamed) (hpre vm₁ X₁.warmed) with ⟨v, B, X', hpost, hsteps⟩ | ⟨q, B, X', hpost, hsteps⟩
  · exact Or.inl ⟨v, vm₁, B, X₁.warmed, X', hpost, fun target h => hstep₁ _ fun acts => by rw [doInvoke_state]; exact hsteps.trans h⟩
  · exact Or.inr ⟨q, vm₁, B, X₁.warmed, X', hpost, hstep₁ _ fun acts => by rw [doInvoke_state]; exact hsteps⟩
end Calls
theorem vx_cls {s : State} {T : State} {vm₁ : Vm} {E : String} {k : ClassId} (hW : s.WarmedH vm₁) (h : (T.setVm vm₁).vm.findClass E = some k) : s.vm.findClass E = some k := by
  have h1 : vm₁.findClass E = some k := h
  rw [hW.alike.findClass] at h1
  exact h1
/-- the method's frame g, with q thrown over it -/
def vx_W (p : Program) (l : Launch) (e : Env) (R : Room) (s : State) (m : MethodId) (args : Array Value) (below : List Frame) (meth : Method) (c : Code) (H : Heap) (locs : List Loc) (cells slots : Nat) (Q : State → Prop) (g : JFrame) (q : Addr) : Prop :=
  ∀ T : State, T.heap = H → Stand p l e R s m args below meth c T locs cells slots → ∃ t, Steps p.tables e below ((T.setTop g).pushFrame (.throwing q)) t ∧ Q t
def vx_Run (p : Program) (l : Launch) (e : Env) (R : Room) (s : State) (m : MethodId) (args : Array Value) (below : List Frame) (meth : Method) (c : Code) (H : Heap) (locs : List Loc) (cells slots mc ms : Nat) (g : JFrame) (rest : List Value) (Qa : State → Outcome → State → Prop) (XC : String → State → State → Prop) (free : Addr → Prop) : Prop :=
  ∀ T : State, T.heap = H → Stand p l e R s m args below meth c T locs cells slots →
    (∃ (v : Option Value) (st₀ t T' : State) (L : List Loc), st₀.heap = H ∧ Stand p l e R s m args below meth c T' (locs ++ L) (cells + mc) (slots + ms) ∧ (∀ q ∈ L, free q.base) ∧ T'.heap = t.heap ∧ T'.vm = t.vm ∧ Qa st₀ (.returned v) t ∧
      Goes p e below T g T' { g with pc := g.pc + 3, stack := v.toList ++ rest }) ∨
    (∃ (q : Addr) (st₀ t T' : State) (L : List Loc) (E : String) (ce : Cell), st₀.heap = H ∧ Stand p l e R s m args below meth c T' (locs ++ L) (cells + mc) (slots + ms) ∧ (∀ z ∈ L, free z.base) ∧ T'.heap = t.heap ∧ T'.vm = t.vm ∧ XC E st₀ t ∧ t.heap[q]? = some ce ∧ ce.vm = .none ∧ s.vm.findClass E = some ce.cls ∧
      Steps p.tables e below (T.setTop g) ((T'.setTop { g with stack := rest }).pushFrame (.throwing q)))
def vx_X {S : Type} (px : S → Prop) (B : String → S → State → Prop) (A : Nat → Prop) : String → State → State → Prop := fun E st t => ∃ u : S, px u ∧ B E u t ∧ va_F A st t
section Runs
variable {p : Program} {l : Launch} {e : Env} {R : Room} {s : State} {m : MethodId} {args : Array Value} {below : List Frame} {meth : Method} {c : Code} {H : Heap} {locs : List Loc} {cells slots : Nat}
variable {y : MethodName} {bytes cc : ByteArray} {maxL nL mc ms n index : Nat} {ret : Option FieldType} {ws : List Cond} {rm : Room} {Pc : Array Value → State → Prop} {Qc : Array Value → State → Outcome → State → Prop} {XC : String → State → State → Prop} {free : Addr → Prop} {Ts : List Cond} {own C : String} {b : Addr} {As rest : List Value} {g : JFrame}
theorem vx_callBack (cb : CallB R s args own index y bytes maxL ret ws rm mc ms n) (hM : vx_Met l y ws rm Pc Qc XC mc ms free) (hbl : FrameBlind Pc) : vx_Back l R p e below s args y 3 8 (PreOf R mc ms Pc) (PostOf Qc mc ms free) (vx_Post XC mc ms free) := by
  obtain ⟨hrc, hrs, hfr, hlo, hws, hcw, -, hini, -⟩ := cb
  exact vx_back (bytes := bytes) (maxL := maxL) (ret := ret) hM hbl hrc hrs hfr hlo hws hcw (fun a' U hW => word_at hW (Or.inl (by first | rfl | simp [Cond.onTables, Cond.keeps, Cond.steady])) hini)
theorem vx_runV (S : CallFix p m c cc nL s args Ts own) (hM : vx_Met l y ws rm Pc Qc XC mc ms free) (cw : CallW R s args own C index y bytes maxL ret ws rm mc ms n) (hp : PreV s H C b Pc As)
    (hg : g.method = m) (hn : As.length = n) (hsize : g.locals.size = nL) (hstack : g.stack = As.reverse ++ .ref b :: rest) (hW : 2 * g.monitorRoom + (rest.map fun v => v.category).sum ≤ 8) (hdg : decode cc g.pc = .ok (.invokevirtual index, 3)) (hf : cells + mc ≤ R.cells ∧ slots + ms ≤ R.slots) :
    vx_Run p l e R s m args below meth c H locs cells slots mc ms g rest (Qc (Value.ref b :: As).toArray) XC free := by
  have hK : vx_Back l R p e below s args y 3 8 (PreOf R mc ms Pc) (PostOf Qc mc ms free) (vx_Post XC mc ms free) := vx_callBack cw.1 hM hp.1
  obtain ⟨⟨-, -, -, -, -, -, hcode, -, hy, hlen, hl⟩, hin, hse⟩ := cw
  obtain ⟨hx, hb, hml, ho, -⟩ := S
  obtain ⟨-, ⟨cellB, hcB, hoB, hclB⟩, hPc⟩ := hp
  intro T hT X
  rcases vx_callV X hx (C := C) (bytes := bytes) (maxL := maxL) (ret := ret) ho hl hin hse hcode hy hK (by rw [hT]; exact hcB) hoB hclB hg (hsize.trans hml.symm) (argsL := As) (rest := rest) (fun sig h => hn.trans (hlen sig h)) hstack hW (by rw [hb]; exact hdg)
    (fun vm₁ hW₁ => ⟨hf.1, hf.2, hPc (T.setVm vm₁) hT hW₁⟩) with ⟨v, vm₁, ⟨U', l2, c2, s2⟩, hW₁, X', ⟨g', mk, t, L, e1, e2, hq, h1, hL, h2, h3⟩, st⟩ | ⟨q, vm₁, ⟨U', l2, c2, s2⟩, hW₁, X', ⟨g', mk, t, L, E, ce, e1, e2, hq, hce, hcv, hcl, h1, hL, h2, h3⟩, st⟩
  · dsimp only [Pt.U, Pt.locs, Pt.cells, Pt.slots] at X' e1 e2 h1 h2 h3 st
    subst h1; subst h2; subst h3
    exact Or.inl ⟨v, (T.setVm vm₁).calling g' mk (Value.ref b :: As).toArray, t, U', L, hT, X', hL, e1, e2, hq, st⟩
  · dsimp only [Pt.U, Pt.locs, Pt.cells, Pt.slots] at X' e1 e2 h1 h2 h3 st hcl
    subst h1; subst h2; subst h3
    exact Or.inr ⟨q, (T.setVm vm₁).calling g' mk (Value.ref b :: As).toArray, t, U', L, E, ce, hT, X', hL, e1, e2, hq, hce, hcv, vx_cls hW₁ hcl, st⟩
theorem vx_runS (S : CallFix p m c cc nL s args Ts own) (hM : vx_Met l y ws rm Pc Qc XC mc ms free) (cw : CallB R s args own index y bytes maxL ret ws rm mc ms n ∧ (Cond.static y).before args s = true) (hp : PreS s H Pc As)
    (hg : g.method = m) (hn : As.length = n) (hsize : g.locals.size = nL) (hstack : g.stack = As.reverse ++ rest) (hW : 2 * g.monitorRoom + (rest.map fun v => v.category).sum ≤ 8) (hdg : decode cc g.pc = .ok (.invokestatic index, 3)) (hf : cells + mc ≤ R.cells ∧ slots + ms ≤ R.slots) :
    vx_Run p l e R s m args below meth c H locs cells slots mc ms g rest (Qc As.toArray) XC free := by
  have hK : vx_Back l R p e below s args y 3 8 (PreOf R mc ms Pc) (PostOf Qc mc ms free) (vx_Post XC mc ms free) := vx_callBack cw.1 hM hp.1
  obtain ⟨⟨-, -, -, -, -, -, hcode, hini, hy, hlen, hl⟩, hstt⟩ := cw
  obtain ⟨hx, hb, hml, ho, -⟩ := S
  intro T hT X
  rcases vx_callS X hx (bytes := bytes) (maxL := maxL) (ret := ret) ho hl hstt hini hcode hy hK hg (hsize.trans hml.symm) (argsL := As) (rest := rest) (fun sig h => hn.trans (hlen sig h)) hstack hW (by rw [hb]; exact hdg)
    (fun vm₁ hW₁ => ⟨hf.1, hf.2, hp.2 (T.setVm vm₁) hT hW₁⟩) with ⟨v, vm₁, ⟨U', l2, c2, s2⟩, hW₁, X', ⟨g', mk, t, L, e1, e2, hq, h1, hL, h2, h3⟩, st⟩ | ⟨q, vm₁, ⟨U', l2, c2, s2⟩, hW₁, X', ⟨g', mk, t, L, E, ce, e1, e2, hq, hce, hcv, hcl, h1, hL, h2, h3⟩, st⟩
  · dsimp only [Pt.U, Pt.locs, Pt.cells, Pt.slots] at X' e1 e2 h1 h2 h3 st
    subst h1; subst h2; subst h3
    exact Or.inl ⟨v, (T.setVm vm₁).calling g' mk As.toArray, t, U', L, hT, X', hL, e1, e2, hq, st⟩
  · dsimp only [Pt.U, Pt.locs, Pt.cells, Pt.slots] at X' e1 e2 h1 h2 h3 st hcl
    subst h1; subst h2; subst h3
    exact Or.inr ⟨q, (T.setVm vm₁).calling g' mk As.toArray, t, U', L, E, ce, hT, X', hL, e1, e2, hq, hce, hcv, vx_cls hW₁ hcl, st⟩
end Runs
section Rows
variable {p : Program} {l : Launch} {e : Env} {R : Room} {s : State} {m : MethodId} {args : Array Value} {below : List Frame} {meth : Method} {c : Code} {H : Heap} {locs : List Loc} {cells slots : Nat} {Q : State → Prop}
variable {mc ms : Nat} {free : Addr → Prop} {A0 A1 : Nat → Prop} {H0 : Heap} {a : Array Value} {pc : Nat} {ls : Array Slot} {st0 rest : List Value}
theorem vx_keep {st₀ t T' : State} {L : List Loc} (h0 : st₀.heap = H) (e1 : T'.heap = t.heap) (hS : va_S A0 H0 H locs) (hA : ∀ q, q < H.size → A1 q → A0 q) (hf : ∀ q, free q → A0 q) (hL : ∀ q ∈ L, free q.base) (hF : va_F A1 st₀ t) :
    H.size ≤ T'.heap.size ∧ (∀ q : Nat, q < H.size → ¬ A1 q → T'.heap[q]? = H[q]?) ∧ va_S A0 H0 T'.heap (locs ++ L) := by
  obtain ⟨hz, hk⟩ := hF
  rw [h0] at hz hk
  exact ⟨by rw [e1]; exact hz, fun q h1 h2 => by rw [e1]; exact hk q h1 h2,
    ⟨Nat.le_trans hS.1 (by rw [e1]; exact hz), fun q h1 h2 => by rw [e1, hk q (Nat.lt_of_lt_of_le h1 hS.1) (fun z => h2 (hA q (Nat.lt_of_lt_of_le h1 hS.1) z))]; exact hS.2.1 q h1 h2, fun q hq => by
      rcases List.mem_append.mp hq with h | h
      · exact hS.2.2 q h
      · exact hf _ (hL q h)⟩⟩
theorem vx_calli {S SX : Type} {post : Int32 → S → Prop} {px : SX → Prop} {B : S → State → Prop} {BX : String → SX → State → Prop} {AX : Nat → Prop} (hr : vx_Run p l e R s m args below meth c H locs cells slots mc ms (F0 m pc ls st0) rest (va_Qi post B A1 a) (vx_X px BX AX) free) (hS : va_S A0 H0 H locs) (hA : ∀ q, q < H.size → A1 q → A0 q) (hf : ∀ q, free q → A0 q) (hAX : ∀ q, q < H.size → AX q → A0 q)
    (kx : ∀ (E : String) (ce : Cell) (q9 : Addr) (u : SX) (t : State) (H1 : Heap) (locs1 : List Loc), t.heap = H1 → s.vm.Alike t.vm → px u → BX E u t → H.size ≤ H1.size → (∀ q : Nat, q < H.size → ¬ AX q → H1[q]? = H[q]?) → va_S A0 H0 H1 locs1 → H1[q9]? = some ce → ce.vm = .none → s.vm.findClass E = some ce.cls → vx_W p l e R s m args below meth c H1 locs1 (cells + mc) (slots + ms) Q (F0 m pc ls rest) q9)
    (kk : ∀ (r : Int32) (u : S) (t : State) (H1 : Heap) (locs1 : List Loc), t.heap = H1 → s.vm.Alike t.vm → post r u → B u t → H.size ≤ H1.size → (∀ q : Nat, q < H.size → ¬ A1 q → H1[q]? = H[q]?) → va_S A0 H0 H1 locs1 → W p l e R s m args below meth c H1 locs1 (cells + mc) (slots + ms) Q (F0 m (pc + 3) ls (.int r :: rest))) : W p l e R s m args below meth c H locs cells slots Q (F0 m pc ls st0) := by
  intro T hT X
  rcases hr T hT X with ⟨v, st₀, t, T', L, h0, X', hL, e1, e2, ⟨⟨r, u, hv, hp, hb⟩, hF⟩, st⟩ | ⟨q, st₀, t, T', L, E, ce, h0, X', hL, e1, e2, ⟨u, hp, hb, hF⟩, hce, hcv, hcl, st⟩
  · cases hv
    obtain ⟨k1, k2, k3⟩ := vx_keep h0 e1 hS hA hf hL hF
    obtain ⟨t2, a1, b1⟩ := kk r u t T'.heap (locs ++ L) e1.symm (by rw [← e2]; exact X'.warmed.alike) hp hb k1 k2 k3 T' rfl X'
    exact ⟨t2, st t2 a1, b1⟩
  · obtain ⟨k1, k2, k3⟩ := vx_keep h0 e1 hS hAX hf hL hF
    obtain ⟨t2, a1, b1⟩ := kx E ce q u t T'.heap (locs ++ L) e1.symm (by rw [← e2]; exact X'.warmed.alike) hp hb k1 k2 k3 (by rw [e1]; exact hce) hcv hcl T' rfl X'
    exact ⟨t2, st.trans a1, b1⟩
theorem vx_calll {S SX : Type} {post : Int64 → S → Prop} {px : SX → Prop} {B : S → State → Prop} {BX : String → SX → State → Prop} {AX : Nat → Prop} (hr : vx_Run p l e R s m args below meth c H locs cells slots mc ms (F0 m pc ls st0) rest (va_Ql post B A1 a) (vx_X px BX AX) free) (hS : va_S A0 H0 H locs) (hA : ∀ q, q < H.size → A1 q → A0 q) (hf : ∀ q, free q → A0 q) (hAX : ∀ q, q < H.size → AX q → A0 q)
    (kx : ∀ (E : String) (ce : Cell) (q9 : Addr) (u : SX) (t : State) (H1 : Heap) (locs1 : List Loc), t.heap = H1 → s.vm.Alike t.vm → px u → BX E u t → H.size ≤ H1.size → (∀ q : Nat, q < H.size → ¬ AX q → H1[q]? = H[q]?) → va_S A0 H0 H1 locs1 → H1[q9]? = some ce → ce.vm = .none → s.vm.findClass E = some ce.cls → vx_W p l e R s m args below meth c H1 locs1 (cells + mc) (slots + ms) Q (F0 m pc ls rest) q9)
    (kk : ∀ (r : Int64) (u : S) (t : State) (H1 : Heap) (locs1 : List Loc), t.heap = H1 → s.vm.Alike t.vm → post r u → B u t → H.size ≤ H1.size → (∀ q : Nat, q < H.size → ¬ A1 q → H1[q]? = H[q]?) → va_S A0 H0 H1 locs1 → W p l e R s m args below meth c H1 locs1 (cells + mc) (slots + ms) Q (F0 m (pc + 3) ls (.long r :: rest))) : W p l e R s m args below meth c H locs cells slots Q (F0 m pc ls st0) := by
  intro T hT X
  rcases hr T hT X with ⟨v, st₀, t, T', L, h0, X', hL, e1, e2, ⟨⟨r, u, hv, hp, hb⟩, hF⟩, st⟩ | ⟨q, st₀, t, T', L, E, ce, h0, X', hL, e1, e2, ⟨u, hp, hb, hF⟩, hce, hcv, hcl, st⟩
  · cases hv
    obtain ⟨k1, k2, k3⟩ := vx_keep h0 e1 hS hA hf hL hF
    obtain ⟨t2, a1, b1⟩ := kk r u t T'.heap (locs ++ L) e1.symm (by rw [← e2]; exact X'.warmed.alike) hp hb k1 k2 k3 T' rfl X'
    exact ⟨t2, st t2 a1, b1⟩
  · obtain ⟨k1, k2, k3⟩ := vx_keep h0 e1 hS hAX hf hL hF
    obtain ⟨t2, a1, b1⟩ := kx E ce q u t T'.heap (locs ++ L) e1.symm (by rw [← e2]; exact X'.warmed.alike) hp hb k1 k2 k3 (by rw [e1]; exact hce) hcv hcl T' rfl X'
    exact ⟨t2, st.trans a1, b1⟩
theorem vx_callf {S SX : Type} {post : UInt32 → S → Prop} {px : SX → Prop} {B : S → State → Prop} {BX : String → SX → State → Prop} {AX : Nat → Prop} (hr : vx_Run p l e R s m args below meth c H locs cells slots mc ms (F0 m pc ls st0) rest (va_Qf post B A1 a) (vx_X px BX AX) free) (hS : va_S A0 H0 H locs) (hA : ∀ q, q < H.size → A1 q → A0 q) (hf : ∀ q, free q → A0 q) (hAX : ∀ q, q < H.size → AX q → A0 q)
    (kx : ∀ (E : String) (ce : Cell) (q9 : Addr) (u : SX) (t : State) (H1 : Heap) (locs1 : List Loc), t.heap = H1 → s.vm.Alike t.vm → px u → BX E u t → H.size ≤ H1.size → (∀ q : Nat, q < H.size → ¬ AX q → H1[q]? = H[q]?) → va_S A0 H0 H1 locs1 → H1[q9]? = some ce → ce.vm = .none → s.vm.findClass E = some ce.cls → vx_W p l e R s m args below meth c H1 locs1 (cells + mc) (slots + ms) Q (F0 m pc ls rest) q9)
    (kk : ∀ (r : UInt32) (u : S) (t : State) (H1 : Heap) (locs1 : List Loc), t.heap = H1 → s.vm.Alike t.vm → post r u → B u t → H.size ≤ H1.size → (∀ q : Nat, q < H.size → ¬ A1 q → H1[q]? = H[q]?) → va_S A0 H0 H1 locs1 → W p l e R s m args below meth c H1 locs1 (cells + mc) (slots + ms) Q (F0 m (pc + 3) ls (.float r :: rest))) : W p l e R s m args below meth c H locs cells slots Q (F0 m pc ls st0) := by
  intro T hT X
  rcases hr T hT X with ⟨v, st₀, t, T', L, h0, X', hL, e1, e2, ⟨⟨r, u, hv, hp, hb⟩, hF⟩, st⟩ | ⟨q, st₀, t, T', L, E, ce, h0, X', hL, e1, e2, ⟨u, hp, hb, hF⟩, hce, hcv, hcl, st⟩
  · cases hv
    obtain ⟨k1, k2, k3⟩ := vx_keep h0 e1 hS hA hf hL hF
    obtain ⟨t2, a1, b1⟩ := kk r u t T'.heap (locs ++ L) e1.symm (by rw [← e2]; exact X'.warmed.alike) hp hb k1 k2 k3 T' rfl X'
    exact ⟨t2, st t2 a1, b1⟩
  · obtain ⟨k1, k2, k3⟩ := vx_keep h0 e1 hS hAX hf hL hF
    obtain ⟨t2, a1, b1⟩ := kx E ce q u t T'.heap (locs ++ L) e1.symm (by rw [← e2]; exact X'.warmed.alike) hp hb k1 k2 k3 (by rw [e1]; exact hce) hcv hcl T' rfl X'
    exact ⟨t2, st.trans a1, b1⟩
theorem vx_calld {S SX : Type} {post : UInt64 → S → Prop} {px : SX → Prop} {B : S → State → Prop} {BX : String → SX → State → Prop} {AX : Nat → Prop} (hr : vx_Run p l e R s m args below meth c H locs cells slots mc ms (F0 m pc ls st0) rest (va_Qd post B A1 a) (vx_X px BX AX) free) (hS : va_S A0 H0 H locs) (hA : ∀ q, q < H.size → A1 q → A0 q) (hf : ∀ q, free q → A0 q) (hAX : ∀ q, q < H.size → AX q → A0 q)
    (kx : ∀ (E : String) (ce : Cell) (q9 : Addr) (u : SX) (t : State) (H1 : Heap) (locs1 : List Loc), t.heap = H1 → s.vm.Alike t.vm → px u → BX E u t → H.size ≤ H1.size → (∀ q : Nat, q < H.size → ¬ AX q → H1[q]? = H[q]?) → va_S A0 H0 H1 locs1 → H1[q9]? = some ce → ce.vm = .none → s.vm.findClass E = some ce.cls → vx_W p l e R s m args below meth c H1 locs1 (cells + mc) (slots + ms) Q (F0 m pc ls rest) q9)
    (kk : ∀ (r : UInt64) (u : S) (t : State) (H1 : Heap) (locs1 : List Loc), t.heap = H1 → s.vm.Alike t.vm → post r u → B u t → H.size ≤ H1.size → (∀ q : Nat, q < H.size → ¬ A1 q → H1[q]? = H[q]?) → va_S A0 H0 H1 locs1 → W p l e R s m args below meth c H1 locs1 (cells + mc) (slots + ms) Q (F0 m (pc + 3) ls (.double r :: rest))) : W p l e R s m args below meth c H locs cells slots Q (F0 m pc ls st0) := by
  intro T hT X
  rcases hr T hT X with ⟨v, st₀, t, T', L, h0, X', hL, e1, e2, ⟨⟨r, u, hv, hp, hb⟩, hF⟩, st⟩ | ⟨q, st₀, t, T', L, E, ce, h0, X', hL, e1, e2, ⟨u, hp, hb, hF⟩, hce, hcv, hcl, st⟩
  · cases hv
    obtain ⟨k1, k2, k3⟩ := vx_keep h0 e1 hS hA hf hL hF
    obtain ⟨t2, a1, b1⟩ := kk r u t T'.heap (locs ++ L) e1.symm (by rw [← e2]; exact X'.warmed.alike) hp hb k1 k2 k3 T' rfl X'
    exact ⟨t2, st t2 a1, b1⟩
  · obtain ⟨k1, k2, k3⟩ := vx_keep h0 e1 hS hAX hf hL hF
    obtain ⟨t2, a1, b1⟩ := kx E ce q u t T'.heap (locs ++ L) e1.symm (by rw [← e2]; exact X'.warmed.alike) hp hb k1 k2 k3 (by rw [e1]; exact hce) hcv hcl T' rfl X'
    exact ⟨t2, st.trans a1, b1⟩
theorem vx_callv {S SX : Type} {post : S → Prop} {px : SX → Prop} {B : S → State → Prop} {BX : String → SX → State → Prop} {AX : Nat → Prop} (hr : vx_Run p l e R s m args below meth c H locs cells slots mc ms (F0 m pc ls st0) rest (va_Qv post B A1 a) (vx_X px BX AX) free) (hS : va_S A0 H0 H locs) (hA : ∀ q, q < H.size → A1 q → A0 q) (hf : ∀ q, free q → A0 q) (hAX : ∀ q, q < H.size → AX q → A0 q)
    (kx : ∀ (E : String) (ce : Cell) (q9 : Addr) (u : SX) (t : State) (H1 : Heap) (locs1 : List Loc), t.heap = H1 → s.vm.Alike t.vm → px u → BX E u t → H.size ≤ H1.size → (∀ q : Nat, q < H.size → ¬ AX q → H1[q]? = H[q]?) → va_S A0 H0 H1 locs1 → H1[q9]? = some ce → ce.vm = .none → s.vm.findClass E = some ce.cls → vx_W p l e R s m args below meth c H1 locs1 (cells + mc) (slots + ms) Q (F0 m pc ls rest) q9)
    (kk : ∀ (u : S) (t : State) (H1 : Heap) (locs1 : List Loc), t.heap = H1 → s.vm.Alike t.vm → post u → B u t → H.size ≤ H1.size → (∀ q : Nat, q < H.size → ¬ A1 q → H1[q]? = H[q]?) → va_S A0 H0 H1 locs1 → W p l e R s m args below meth c H1 locs1 (cells + mc) (slots + ms) Q (F0 m (pc + 3) ls (rest))) : W p l e R s m args below meth c H locs cells slots Q (F0 m pc ls st0) := by
  intro T hT X
  rcases hr T hT X with ⟨v, st₀, t, T', L, h0, X', hL, e1, e2, ⟨⟨u, hv, hp, hb⟩, hF⟩, st⟩ | ⟨q, st₀, t, T', L, E, ce, h0, X', hL, e1, e2, ⟨u, hp, hb, hF⟩, hce, hcv, hcl, st⟩
  · cases hv
    obtain ⟨k1, k2, k3⟩ := vx_keep h0 e1 hS hA hf hL hF
    obtain ⟨t2, a1, b1⟩ := kk u t T'.heap (locs ++ L) e1.symm (by rw [← e2]; exact X'.warmed.alike) hp hb k1 k2 k3 T' rfl X'
    exact ⟨t2, st t2 a1, b1⟩
  · obtain ⟨k1, k2, k3⟩ := vx_keep h0 e1 hS hAX hf hL hF
    obtain ⟨t2, a1, b1⟩ := kx E ce q u t T'.heap (locs ++ L) e1.symm (by rw [← e2]; exact X'.warmed.alike) hp hb k1 k2 k3 (by rw [e1]; exact hce) hcv hcl T' rfl X'
    exact ⟨t2, st.trans a1, b1⟩
/-- caught by the row x of this method's table; the rows ahead don't take it -/
theorem vx_catch {own name : String} {E : String} {ce : Cell} {q : Addr} (hown : s.vm.findClass own = some m.cls) (pre : List ExceptionTableEntry) (x : ExceptionTableEntry) (suf : List ExceptionTableEntry) (hsplit : c.exceptionTable.toList = pre ++ x :: suf)
    (hpass : ∀ z ∈ pre, covers z pc = false ∨ (z.catchType ≠ 0 ∧ ∃ nm : String, (Cond.classLink own z.catchType nm).before args s = true ∧ va_Nc E nm s)) (hx : covers x pc = true) (h0 : x.catchType ≠ 0)
    (hlink : (Cond.classLink own x.catchType name).before args s = true) (hcast : (Cond.castable E name).before args s = true) (hcell : H[q]? = some ce) (hv : ce.vm = .none) (hcl : s.vm.findClass E = some ce.cls)
    (kk : W p l e R s m args below meth c H locs cells slots Q (F0 m x.handlerPc ls [.ref q])) : vx_W p l e R s m args below meth c H locs cells slots Q (F0 m pc ls rest) q := by
  intro T hT X
  have hpl : e.platform.magicAccessors = ({} : Platform).magicAccessors := by rw [X.admits.platform]
  obtain ⟨c3, c4, hc3, hc4, hasg⟩ := Cond.castable_spec hcast
  cases Option.some.inj (hc3.symm.trans hcl)
  obtain ⟨c5, hc5, hcl5⟩ := Cond.classLink_spec hown hlink e.platform hpl
  cases Option.some.inj (hc4.symm.trans hc5)
  obtain ⟨vm', X', st⟩ := X.thenCaughtThrough q (g := F0 m pc ls rest) rfl (Steps.refl _) (by rw [hT]; exact hcell) (by rw [hv]; rfl) (by obtain ⟨k9, h9, -⟩ := Vm.findClass_spec hcl; exact ⟨k9, h9⟩) pre x suf hsplit
    (fun z hz => by
      rcases hpass z hz with h | ⟨hz0, nm, hl1, hn1⟩
      · exact Or.inl h
      · obtain ⟨c6, hc6, hcl6⟩ := Cond.classLink_spec hown hl1 e.platform hpl
        obtain ⟨a8, b8, h1, h2, h3⟩ := hn1
        cases Option.some.inj (h1.symm.trans hcl)
        cases Option.some.inj (h2.symm.trans hc6)
        exact Or.inr ⟨hz0, _, hcl6, h3⟩) hx (Or.inr ⟨h0, c4, hcl5, hasg⟩)
  obtain ⟨t, a1, b1⟩ := kk (T.setVm vm') hT X'
  exact ⟨t, st.trans a1, b1⟩
end Rows
section Ends
variable {p : Program} {l : Launch} {e : Env} {R : Room} {s : State} {m : MethodId} {args : Array Value} {below : List Frame} {meth : Method} {c : Code} {H : Heap} {locs : List Loc} {cells slots : Nat} {Q : State → Prop}
variable {mc ms : Nat} {free : Addr → Prop} {A0 A1 : Nat → Prop} {H0 : Heap} {a : Array Value} {ls : Array Slot} {st0 rest : List Value}
variable {Qc : Array Value → State → Outcome → State → Prop} {XC : String → State → State → Prop}
/-- what a body that may throw owes at its end -/
def vx_MQ (below : List Frame) (Qc : Array Value → State → Outcome → State → Prop) (XC : String → State → State → Prop) (a : Array Value) (s : State) (mc ms : Nat) (free : Addr → Prop) : State → Prop := fun t =>
  ∃ o, t.status = .running ∧ Ended t below o ∧ vx_Q Qc XC mc ms free a s o t
theorem vx_ret {g : JFrame} {mc ms : Nat} (k : W p l e R s m args below meth c H locs cells slots (MQ below Qc args s mc ms free) g) : W p l e R s m args below meth c H locs cells slots (vx_MQ below Qc XC args s mc ms free) g := by
  intro T hT X
  obtain ⟨t, a1, o, b1, b2, b3, b4⟩ := k T hT X
  exact ⟨t, a1, o, b1, b2, Or.inl ⟨b3, b4⟩⟩
/-- not caught here: it goes on to the caller -/
theorem vx_widen {g : JFrame} {q : Addr} {k n : Nat} (h1 : cells ≤ k) (h2 : slots ≤ n) (kk : vx_W p l e R s m args below meth c H locs k n Q g q) : vx_W p l e R s m args below meth c H locs cells slots Q g q := fun T hT X => kk T hT (stand_widen X h1 h2)
theorem vx_out {pc : Nat} {E : String} {ce : Cell} {q : Addr} {mc ms : Nat} (hout : ∀ x ∈ c.exceptionTable.toList, covers x pc = false) (hlocks : meth.locks = false) (hcell : H[q]? = some ce) (hv : ce.vm = .none) (hcl : s.vm.findClass E = some ce.cls)
    (hx : ∀ t : State, t.heap = H → s.vm.Alike t.vm → XC E s t) (hf : ∀ z ∈ locs, free z.base) (hc : cells ≤ mc) (hs : slots ≤ ms) :
    vx_W p l e R s m args below meth c H locs cells slots (vx_MQ below Qc XC args s mc ms free) (F0 m pc ls rest) q := by
  intro T hT X
  obtain ⟨st1, hrun, hend, hW, hsm⟩ := X.leaveThrown q (g := F0 m pc ls rest) rfl rfl rfl hout hlocks
  have hcell9 : (T.setFrames (.throwing q :: below)).heap[q]? = some ce := by
    show T.heap[q]? = some ce
    rw [hT]; exact hcell
  exact ⟨_, st1, .threw q, hrun, hend, Or.inr ⟨q, rfl, E, ce, locs, hx _ hT hW.alike, hcell9, hv, hcl, hW, hsm.mono hc hs, hf⟩⟩
theorem vx_frame {U : State} {k n : Nat} (h : s.sameButNew ({ U with vm := s.vm } : State) locs k n) : s.heap.size ≤ U.heap.size ∧ ∀ q : Nat, q < s.heap.size → (∀ z ∈ locs, z.base ≠ q) → U.heap[q]? = s.heap[q]? := by
  obtain ⟨-, h2, -, -, -, h6⟩ := h
  refine ⟨h2, fun q hq hz => ?_⟩
  obtain ⟨c9, e1, e2, e3, e4⟩ := h6 q _ (Array.getElem?_eq_getElem hq)
  have hs : c9.slots = (s.heap[q]).slots := Array.ext_getElem? fun i => e4 i fun hm => hz _ hm rfl
  have h9 : c9 = s.heap[q] := by
    rw [hs] at e2
    exact e2
  have e5 : U.heap[q]? = some c9 := e1
  rw [e5, h9, Array.getElem?_eq_getElem hq]
/-- the words of a throw but the four that speak of the heap -/
def vx_no (w : Cond) : Bool := decide (w ≠ .isRef (.static Bundle.tN "UNASSIGNED_STACK" Bundle.steD)) && decide (w ≠ .isRef (.static Bundle.tN "SUPPRESSED_SENTINEL" Bundle.listD)) && decide (w ≠ .laysStatic Bundle.tN "UNASSIGNED_STACK" Bundle.steD) && decide (w ≠ .laysStatic Bundle.tN "SUPPRESSED_SENTINEL" Bundle.listD)
def vx_at0 (own : String) (ic : Nat) (X : String) (names : List String) : List Cond := (Bundle.ownAtoms0 own ic X names).filter vx_no
def vx_atS (own : String) (ic : Nat) (X : String) (names : List String) : List Cond := (Bundle.ownAtoms own ic X names).filter vx_no
/-- a word that the tables alone decide, or a good one -/
def vx_ot (w : Cond) : Bool := w.onTables || goodWord w
theorem vx_ot_at {args a' : Array Value} {s U : State} {w : Cond} (hW : s.WarmedH U.vm) (hvm : s.vm = U.vm) (hg : vx_ot w = true) (h : w.before args s = true) : w.before a' U = true := by
  simp only [vx_ot, Bool.or_eq_true] at hg
  rcases hg with hg | hg
  · exact va_tabs hg hvm h
  · exact word_at hW (good_of_word hg) h
/-- a list's words: the good ones out of the method's own list, the others by premises of their own -/
theorem vx_hat {args : Array Value} {s : State} {L B : List Cond} (h1 : ∀ w ∈ L.filter goodWord, w.before args s = true) (h2 : ∀ w ∈ L.filter (fun w => !goodWord w), w ∈ B) (h3 : ∀ w ∈ B, w.before args s = true) : ∀ w ∈ L, w.before args s = true := by
  intro w hw
  by_cases g : goodWord w = true
  · exact h1 w (List.mem_filter.mpr ⟨hw, g⟩)
  · refine h3 w (h2 w (List.mem_filter.mpr ⟨hw, ?_⟩))
    show (!goodWord w) = true
    cases hgw : goodWord w
    · rfl
    · exact absurd hgw g
theorem vx_c {args : Array Value} {s : State} {w : Cond} {B : List Cond} (h : w.before args s = true) (t : ∀ w ∈ B, w.before args s = true) : ∀ w' ∈ w :: B, w'.before args s = true := fun w' h' => (List.mem_cons.mp h').elim (fun e => by rw [e]; exact h) (t w')
theorem vx_n {args : Array Value} {s : State} : ∀ w ∈ ([] : List Cond), w.before args s = true := fun _ h => nomatch h
theorem vx_own {args : Array Value} {s : State} {L : List Cond} (h1 : ∀ w ∈ L.filter vx_no, w.before args s = true)
    (hU : (Cond.isRef (.static Bundle.tN "UNASSIGNED_STACK" Bundle.steD)).before args s = true) (hN : (Cond.isRef (.static Bundle.tN "SUPPRESSED_SENTINEL" Bundle.listD)).before args s = true)
    (lU : (Cond.laysStatic Bundle.tN "UNASSIGNED_STACK" Bundle.steD).before args s = true) (lN : (Cond.laysStatic Bundle.tN "SUPPRESSED_SENTINEL" Bundle.listD).before args s = true) : ∀ w ∈ L, w.before args s = true := by
  intro w hw
  by_cases e1 : w = .isRef (.static Bundle.tN "UNASSIGNED_STACK" Bundle.steD)
  · rw [e1]; exact hU
  · by_cases e2 : w = .isRef (.static Bundle.tN "SUPPRESSED_SENTINEL" Bundle.listD)
    · rw [e2]; exact hN
    · by_cases e3 : w = .laysStatic Bundle.tN "UNASSIGNED_STACK" Bundle.steD
      · rw [e3]; exact lU
      · by_cases e4 : w = .laysStatic Bundle.tN "SUPPRESSED_SENTINEL" Bundle.listD
        · rw [e4]; exact lN
        · exact h1 w (List.mem_filter.mpr ⟨hw, by unfold vx_no; rw [decide_eq_true e1, decide_eq_true e2, decide_eq_true e3, decide_eq_true e4]; rfl⟩)
/-- where a static field lies, its class's statics cell in H -/
def vx_L (C n d : String) (A : Nat → Prop) (U : State) (H : Heap) : Prop := ∃ (c : ClassId) (k : Class) (i : Nat) (f : Field) (a : Nat) (cell : Cell), U.vm.findClass C = some c ∧ U.fieldFound? C n d = some (c, k, i, f) ∧ f.isStatic = true ∧ k.statics = some a ∧ H[a]? = some cell ∧ cell.vm.isStatics = true ∧ cell.cls = c ∧ f.slot < cell.slots.size ∧ k.staticTypes[f.slot]? = some f.type ∧ ¬ A a
theorem vx_L.moved {C n d : String} {A : Nat → Prop} {u U : State} {H : Heap} (hvm : u.vm.Alike U.vm) (h : vx_L C n d A u H) : vx_L C n d A U H := by
  obtain ⟨c, k, i, f, a, cell, h1, h2, h3, h4, h5, h6, h7, h8, h9, h10⟩ := h
  obtain ⟨k', hi', he⟩ := State.fieldFound?_setVm hvm h2
  exact ⟨c, k', i, f, a, cell, by rw [hvm.findClass]; exact h1, hi', h3, by rw [he]; exact h4, h5, h6, h7, h8, by rw [he]; exact h9, h10⟩
theorem vx_L.kept {C n d : String} {A : Nat → Prop} {U : State} {H H1 : Heap} (h : vx_L C n d A U H) (hq : ∀ a : Nat, a < H.size → ¬ A a → H1[a]? = H[a]?) : vx_L C n d A U H1 := by
  obtain ⟨c, k, i, f, a, cell, h1, h2, h3, h4, h5, h6, h7, h8, h9, h10⟩ := h
  exact ⟨c, k, i, f, a, cell, h1, h2, h3, h4, by rw [hq a (Array.getElem?_eq_some_iff.mp h5).1 h10]; exact h5, h6, h7, h8, h9, h10⟩
theorem vx_L.narrow {C n d : String} {A B : Nat → Prop} {U : State} {H : Heap} (h : vx_L C n d A U H) (hAB : ∀ q, B q → A q) : vx_L C n d B U H := by
  obtain ⟨c, k, i, f, a, cell, h1, h2, h3, h4, h5, h6, h7, h8, h9, h10⟩ := h
  exact ⟨c, k, i, f, a, cell, h1, h2, h3, h4, h5, h6, h7, h8, h9, fun z => h10 (hAB _ z)⟩
theorem vx_L.word {C n d : String} {A : Nat → Prop} {s : State} {args : Array Value} (h : vx_L C n d A s s.heap) : (Cond.laysStatic C n d).before args s = true := by
  obtain ⟨c, k, i, f, a, cell, h1, h2, h3, h4, h5, h6, h7, h8, h9, -⟩ := h
  show (Cond.laysStatic C n d).holds args s none s [] = true
  exact Cond.laysStatic_of h1 h2 h3 h4 h5 h6 h7 h8 h9
/-- .. and what it holds: null or some reference -/
def vx_Zq (C n d : String) (A : Nat → Prop) (U : State) (H : Heap) : Prop := va_Zq C n d A U H ∧ vx_L C n d A U H
theorem vx_Zq.moved {C n d : String} {A : Nat → Prop} {u U : State} {H : Heap} (hvm : u.vm.Alike U.vm) (h : vx_Zq C n d A u H) : vx_Zq C n d A U H := ⟨va_Zq.moved hvm h.1, vx_L.moved hvm h.2⟩
theorem vx_Zq.kept {C n d : String} {A : Nat → Prop} {U : State} {H H1 : Heap} (h : vx_Zq C n d A U H) (hq : ∀ a : Nat, a < H.size → ¬ A a → H1[a]? = H[a]?) : vx_Zq C n d A U H1 := ⟨va_Zq.kept h.1 hq, vx_L.kept h.2 hq⟩
theorem vx_Zq.narrow {C n d : String} {A B : Nat → Prop} {U : State} {H : Heap} (h : vx_Zq C n d A U H) (hAB : ∀ q, B q → A q) : vx_Zq C n d B U H := ⟨va_Zq.narrow h.1 hAB, vx_L.narrow h.2 hAB⟩
theorem vx_Zqof {args : Array Value} {s : State} {C n d : String} {A : Nat → Prop} (hl : (Cond.laysStatic C n d).before args s = true) (hini : (Cond.initialized C).before args s = true) (h : (Cond.isRef (.static C n d)).before args s = true) (hA : ∀ a : Nat, a < s.heap.size → ¬ A a) : vx_Zq C n d A s s.heap := by
  refine ⟨va_Zqof hl hini h hA, ?_⟩
  obtain ⟨c, k, i, f, a, cell, h1, h2, h3, h4, h5, h6, h7, h8, h9⟩ := Cond.laysStatic_spec hl
  exact ⟨c, k, i, f, a, cell, h1, h2, h3, h4, h5, h6, h7, h8, h9, hA a (Array.getElem?_eq_some_iff.mp h5).1⟩
theorem vx_isRef {C n d : String} {v : Value} {A : Nat → Prop} {s : State} {args : Array Value} (h : va_Z C n d v A s s.heap) (hv : v.isRef = true) : (Cond.isRef (.static C n d)).before args s = true := by
  obtain ⟨cf, kf, fi, f, a, cell, h1, h2, h3, h4, h5, h6, h7, -⟩ := h
  have he : (Term.static C n d).eval args s none [] s = some v := by
    simp [Term.eval, State.fieldNamed?, h1, h2, h4, h5, h6, h7]
  simp only [Cond.before, Cond.holds, Cond.value, he]
  cases v <;> simp_all [Value.isRef]
theorem vx_isRefq {C n d : String} {A : Nat → Prop} {s : State} {args : Array Value} (h : va_Zq C n d A s s.heap) : (Cond.isRef (.static C n d)).before args s = true := by
  rcases h with h | ⟨t, h⟩
  · exact vx_isRef h rfl
  · exact vx_isRef h rfl
/-- the same frame, seen from here: as if the method were called anew in this heap -/
theorem vx_rebase {T : State} (X : Stand p l e R s m args below meth c T locs cells slots) {R' : Room} (hf : R'.frames ≤ R.frames) (hl : R'.locals ≤ R.locals) (hc : cells + R'.cells ≤ R.cells) (hs : slots + R'.slots ≤ R.slots) :
    Stand p l e R' ((T.setVm s.vm).setFrames (.invoking m args :: below)) m args below meth c T [] 0 0 := by
  have htop : (T.setVm s.vm).topJava?.isSome := X.here.top
  have hF : ((T.setVm s.vm).setFrames (.invoking m args :: below)).frames = .invoking m args :: below := State.frames_setFrames _ (State.cur_lt_of_top htop)
  obtain ⟨g₀, hg0⟩ := Option.isSome_iff_exists.mp htop
  obtain ⟨r, hr⟩ := State.topJava?_eq_some.mp hg0
  have hl9 : e.platform.stackLimits (T.setVm s.vm).me = e.platform.stackLimits s.me := X.limits
  have hb9 : (T.setVm s.vm).me.stackBytes = s.me.stackBytes := X.bytes
  refine ⟨X.admits, X.cas, X.clock, hF, ?_, X.hears, X.method, X.code, X.here, X.tail, X.warmed, ?_, ?_, ?_⟩
  · have h := X.room
    have hU : ((T.setVm s.vm).setFrames (.invoking m args :: below)).localsInUse = s.localsInUse := by
      rw [State.localsInUse_invoking hF (meth := meth) (c := c) X.method X.code, State.localsInUse_invoking X.frames X.method X.code]
    simp only [State.hasRoom, Bool.and_eq_true, decide_eq_true_eq] at h ⊢
    obtain ⟨⟨⟨⟨h1, h2, h3, h4, h5, h6⟩, h7⟩, h8⟩, h9⟩ := h
    rw [X.frames, List.length_cons] at h2 h3
    have q1 := X.heapSize
    have q2 := X.used
    simp only [hF, hU, List.length_cons, State.stackLimits_setFrames, State.stackBytes_setFrames, hl9, hb9]
    refine ⟨⟨⟨⟨by omega, by omega, by omega, by omega, by omega, h6⟩, ?_⟩, ?_⟩, X.book⟩
    · show T.heap.size + R'.cells ≤ e.platform.maxCells
      omega
    · show T.slotsUsed + R'.slots ≤ e.platform.maxSlots
      omega
  · rw [State.stackLimits_setFrames]; rfl
  · rw [State.stackBytes_setFrames]; rfl
  · refine ⟨?_, Nat.le_refl _, Nat.le_refl _, ?_, ?_, fun a c9 h9 => ⟨c9, h9, rfl, rfl, fun _ _ => rfl⟩⟩
    · obtain ⟨t, ht, -⟩ := State.frames_cons hr
      show T.setVm s.vm = { ((T.setVm s.vm).setFrames (.invoking m args :: below)).setFrames (T.setVm s.vm).frames with heap := T.heap, slotsUsed := T.slotsUsed }
      rw [State.setFrames_setFrames, State.setFrames_self ht]
      rfl
    · show T.slotsUsed = T.slotsUsed + ((T.heap.toList.drop T.heap.size).map (·.slots.size)).sum
      rw [List.drop_eq_nil_of_le (Nat.le_of_eq Array.length_toList)]
      rfl
    · show ((T.heap.toList.drop T.heap.size).map (·.slots.size)).sum ≤ 0
      rw [List.drop_eq_nil_of_le (Nat.le_of_eq Array.length_toList)]
      exact Nat.le_refl _
/-- 'throw new E()': new; dup; invokespecial; athrow -/
theorem vx_throw0 {cc : ByteArray} {pc : Nat} (hexec : p.tables.exec = Jvm.exec) (hb : c.code = cc) (hl : l.stackTraces = false) {own cls : String} {names : List String} {ik ic mc ms : Nat} {A : Nat → Prop}
    (hown : s.vm.findClass own = some m.cls) (hcls : Bundle.fit cls = true) (hnames : ∀ n ∈ names, Bundle.fit n = true)
    (hk : (Cond.classLink own ik cls).before args s = true) (hini : (Cond.initialized cls).before args s = true) (hat : ∀ w ∈ vx_at0 own ic cls names, w.before args s = true)
    (hgood : ∀ w ∈ Cond.classLink own ik cls :: Cond.initialized cls :: vx_at0 own ic cls names, vx_ot w = true)
    (hU : vx_Zq Bundle.tN "UNASSIGNED_STACK" Bundle.steD A s s.heap) (hN : vx_Zq Bundle.tN "SUPPRESSED_SENTINEL" Bundle.listD A s s.heap) (hS : va_S A s.heap H locs) (hsize : ls.size = c.maxLocals)
    (d0 : decode cc pc = .ok (.new ik, 3)) (d3 : decode cc (pc + 3) = .ok (.dup, 1)) (d4 : decode cc (pc + 4) = .ok (.invokespecial ic, 3)) (d7 : decode cc (pc + 7) = .ok (.athrow, 1))
    (hout : ∀ x ∈ c.exceptionTable.toList, covers x (pc + 7) = false)
    (hRframes : names.length + 3 < R.frames) (hRlocals : (rest.map fun v => v.category).sum + (13 * (names.length + 1) + 42) ≤ R.locals) (hRcells : cells + 1 ≤ R.cells) (hRslots : slots + 6 ≤ R.slots) (hlocks : meth.locks = false)
    (hx : ∀ t : State, s.vm.Alike t.vm → H.size ≤ t.heap.size → (∀ q : Nat, q < H.size → t.heap[q]? = H[q]?) → XC cls s t)
    (hf : ∀ z ∈ locs, free z.base) (hc : cells + 1 ≤ mc) (hs : slots + 6 ≤ ms) :
    W p l e R s m args below meth c H locs cells slots (vx_MQ below Qc XC args s mc ms free) (F0 m pc ls rest) := by
  intro T hT X
  have htr : e.platform.stackTraces = false := (show e.platform.stackTraces = l.stackTraces by rw [X.admits.platform]).trans hl
  have Y := vx_rebase X (R' := { frames := R.frames, locals := R.locals, cells := 1, slots := 6 }) (Nat.le_refl _) (Nat.le_refl _) hRcells hRslots
  obtain ⟨s', hA⟩ : ∃ z, z = (T.setVm s.vm).setFrames (.invoking m args :: below) := ⟨_, rfl⟩
  rw [← hA] at Y
  have hvm : s'.vm = s.vm := by rw [hA]; rfl
  have hhp : s'.heap = H := by rw [hA]; exact hT
  have hW0 : s.WarmedH s'.vm := by rw [hvm]; exact State.WarmedH.refl s
  have hat' : ∀ w ∈ vx_at0 own ic cls names, w.before args s' = true := fun w hw => vx_ot_at hW0 hvm.symm (hgood w (List.mem_cons_of_mem _ (List.mem_cons_of_mem _ hw))) (hat w hw)
  have hk' : (Cond.classLink own ik cls).before args s' = true := vx_ot_at hW0 hvm.symm (hgood _ List.mem_cons_self) hk
  have hini' : (Cond.initialized cls).before args s' = true := vx_ot_at hW0 hvm.symm (hgood _ (List.mem_cons_of_mem _ List.mem_cons_self)) hini
  have hU' : vx_Zq Bundle.tN "UNASSIGNED_STACK" Bundle.steD A s' s'.heap := by rw [hhp]; exact vx_Zq.moved hW0.alike (hU.kept hS.2.1)
  have hN' : vx_Zq Bundle.tN "SUPPRESSED_SENTINEL" Bundle.listD A s' s'.heap := by rw [hhp]; exact vx_Zq.moved hW0.alike (hN.kept hS.2.1)
  have h : ∀ w ∈ Bundle.ownAtoms0 own ic cls names, w.before args s' = true := vx_own hat' (vx_isRefq hU'.1) (vx_isRefq hN'.1) hU'.2.word hN'.2.word
  have hown' : s'.vm.findClass own = some m.cls := by rw [hvm]; exact hown
  have hins : (Cond.instantiable cls 6).before args s' = true := h _ (by simp [Bundle.ownAtoms0])
  obtain ⟨vm₁, cX, kX, hfX, hkX, -, -, X₁, st1⟩ := Y.newCold hexec (own := own) (C := cls) (index := ik) (n := 6) hown' hk' hins hini'
    (g := F0 m pc ls rest) rfl (by rw [hb]; exact d0) (Nat.le_refl _) (Nat.le_refl _)
  generalize hT1 : (T.setVm vm₁).pushCell { cls := cX, slots := kX.instanceTypes.map defaultValue, vm := .none } = T1 at X₁ st1
  have hcat : (Value.ref T.heap.size).category = 1 := rfl
  have hcellA : T1.heap[T.heap.size]? = some (freshCell cX kX) := by rw [← hT1]; exact State.heap_pushCell_size _ _
  have d3' : decode c.code (pc + 3) = .ok (.dup, 1) := by rw [hb]; exact d3
  obtain ⟨U, hsteps, hrun, hend, hW, hsame, ce, hce, hO⟩ := X₁.ctorThrow0 hexec htr (own := own) (cls := cls) (names := names) (ic := ic) hown' hcls hnames h (fun x hx => nomatch hx) hfX hkX hcellA (by rw [hhp, hT]; exact Nat.le_refl _)
    (g := { method := m, pc := pc + 4, locals := ls, stack := .ref T.heap.size :: .ref T.heap.size :: rest, locked := none }) rfl hsize rfl rfl (rest := rest) rfl
    (by rw [hb]; exact d4) (by rw [hb]; exact d7) hout hRframes (by simp only [List.map_cons, List.sum_cons, hcat]; omega) hlocks
  obtain ⟨f1, f2⟩ := vx_frame hsame
  rw [hhp] at f1 f2
  have hWs : s.WarmedH U.vm := State.WarmedH.trans hW0 hW
  have hcl : s.vm.findClass cls = some ce.cls := by
    have h9 := hO.cls
    rw [hvm] at h9
    exact h9
  have hall : s.sameButNew ({ U with vm := s.vm } : State) locs mc ms := by
    subst hA
    obtain ⟨e1, e2⟩ := hsame
    rw [State.setFrames_setFrames] at e1
    have h2 : (T.setVm s.vm).sameButNew ({ U with vm := s.vm } : State) [] (0 + 1) (0 + 6) := ⟨e1, e2⟩
    have h3 := X.same.trans h2
    rw [List.append_nil] at h3
    exact h3.mono hc hs
  refine ⟨U, ?_, .threw T.heap.size, hrun, hend, Or.inr ⟨T.heap.size, rfl, cls, ce, locs, hx U hWs.alike f1 (fun q hq => f2 q hq (fun z hz => nomatch hz)), hce, hO.vm, hcl, hWs, hall, hf⟩⟩
  refine st1 _ ?_
  show Steps p.tables e below (T1.setTop { method := m, pc := pc + 3, locals := ls, stack := .ref T.heap.size :: rest, locked := none }) _
  jvm_step X₁.here [X₁.here.top, hexec, d3', Value.category]
  exact hsteps
/-- 'throw new E("text")': new; dup; ldc; invokespecial; athrow -/
theorem vx_throwS {cc : ByteArray} {pc : Nat} (hexec : p.tables.exec = Jvm.exec) (hb : c.code = cc) (hl : l.stackTraces = false) {own cls text : String} {names : List String} {ik is ic mc ms sa : Nat} {A : Nat → Prop}
    (hown : s.vm.findClass own = some m.cls) (hcls : Bundle.fit cls = true) (hnames : ∀ n ∈ names, Bundle.fit n = true)
    (hk : (Cond.classLink own ik cls).before args s = true) (hini : (Cond.initialized cls).before args s = true) (hstr : vk_R own is text sa s) (hat : ∀ w ∈ vx_atS own ic cls names, w.before args s = true)
    (hgood : ∀ w ∈ Cond.classLink own ik cls :: Cond.initialized cls :: vx_atS own ic cls names, vx_ot w = true)
    (hU : vx_Zq Bundle.tN "UNASSIGNED_STACK" Bundle.steD A s s.heap) (hN : vx_Zq Bundle.tN "SUPPRESSED_SENTINEL" Bundle.listD A s s.heap) (hS : va_S A s.heap H locs) (hsize : ls.size = c.maxLocals)
    (d0 : decode cc pc = .ok (.new ik, 3)) (d3 : decode cc (pc + 3) = .ok (.dup, 1)) (d4 : decode cc (pc + 4) = .ok (.ldc is, 2)) (d6 : decode cc (pc + 6) = .ok (.invokespecial ic, 3)) (d9 : decode cc (pc + 9) = .ok (.athrow, 1))
    (hout : ∀ x ∈ c.exceptionTable.toList, covers x (pc + 9) = false)
    (hRframes : names.length + 3 < R.frames) (hRlocals : (rest.map fun v => v.category).sum + (13 * (names.length + 1) + 43) ≤ R.locals) (hRcells : cells + 1 ≤ R.cells) (hRslots : slots + 6 ≤ R.slots) (hlocks : meth.locks = false)
    (hx : ∀ t : State, s.vm.Alike t.vm → H.size ≤ t.heap.size → (∀ q : Nat, q < H.size → t.heap[q]? = H[q]?) → XC cls s t)
    (hf : ∀ z ∈ locs, free z.base) (hc : cells + 1 ≤ mc) (hs : slots + 6 ≤ ms) :
    W p l e R s m args below meth c H locs cells slots (vx_MQ below Qc XC args s mc ms free) (F0 m pc ls rest) := by
  intro T hT X
  have htr : e.platform.stackTraces = false := (show e.platform.stackTraces = l.stackTraces by rw [X.admits.platform]).trans hl
  have Y := vx_rebase X (R' := { frames := R.frames, locals := R.locals, cells := 1, slots := 6 }) (Nat.le_refl _) (Nat.le_refl _) hRcells hRslots
  obtain ⟨s', hA⟩ : ∃ z, z = (T.setVm s.vm).setFrames (.invoking m args :: below) := ⟨_, rfl⟩
  rw [← hA] at Y
  have hvm : s'.vm = s.vm := by rw [hA]; rfl
  have hhp : s'.heap = H := by rw [hA]; exact hT
  have hW0 : s.WarmedH s'.vm := by rw [hvm]; exact State.WarmedH.refl s
  have hat' : ∀ w ∈ vx_atS own ic cls names, w.before args s' = true := fun w hw => vx_ot_at hW0 hvm.symm (hgood w (List.mem_cons_of_mem _ (List.mem_cons_of_mem _ hw))) (hat w hw)
  have hk' : (Cond.classLink own ik cls).before args s' = true := vx_ot_at hW0 hvm.symm (hgood _ List.mem_cons_self) hk
  have hini' : (Cond.initialized cls).before args s' = true := vx_ot_at hW0 hvm.symm (hgood _ (List.mem_cons_of_mem _ List.mem_cons_self)) hini
  have hU' : vx_Zq Bundle.tN "UNASSIGNED_STACK" Bundle.steD A s' s'.heap := by rw [hhp]; exact vx_Zq.moved hW0.alike (hU.kept hS.2.1)
  have hN' : vx_Zq Bundle.tN "SUPPRESSED_SENTINEL" Bundle.listD A s' s'.heap := by rw [hhp]; exact vx_Zq.moved hW0.alike (hN.kept hS.2.1)
  have h : ∀ w ∈ Bundle.ownAtoms own ic cls names, w.before args s' = true := vx_own hat' (vx_isRefq hU'.1) (vx_isRefq hN'.1) hU'.2.word hN'.2.word
  have hown' : s'.vm.findClass own = some m.cls := by rw [hvm]; exact hown
  have hins : (Cond.instantiable cls 6).before args s' = true := h _ (by simp [Bundle.ownAtoms])
  obtain ⟨vm₁, cX, kX, hfX, hkX, -, -, X₁, st1⟩ := Y.newCold hexec (own := own) (C := cls) (index := ik) (n := 6) hown' hk' hins hini'
    (g := F0 m pc ls rest) rfl (by rw [hb]; exact d0) (Nat.le_refl _) (Nat.le_refl _)
  generalize hT1 : (T.setVm vm₁).pushCell { cls := cX, slots := kX.instanceTypes.map defaultValue, vm := .none } = T1 at X₁ st1
  have hcat : (Value.ref T.heap.size).category = 1 := rfl
  have hcellA : T1.heap[T.heap.size]? = some (freshCell cX kX) := by rw [← hT1]; exact State.heap_pushCell_size _ _
  have d3' : decode c.code (pc + 3) = .ok (.dup, 1) := by rw [hb]; exact d3
  have d4' : decode c.code (pc + 4) = .ok (.ldc is, 2) := by rw [hb]; exact d4
  have hstr' : vk_R own is text sa s' := vk_R.warm hW0 hstr
  obtain ⟨U, hsteps, hrun, hend, hW, hsame, ce, hce, hO⟩ := X₁.ctorThrowS hexec htr (own := own) (cls := cls) (names := names) (ic := ic) hown' hcls hnames h (fun x hx => nomatch hx) hfX hkX hcellA (by rw [hhp, hT]; exact Nat.le_refl _) (msg := .ref sa) rfl
    (g := { method := m, pc := pc + 6, locals := ls, stack := .ref sa :: .ref T.heap.size :: .ref T.heap.size :: rest, locked := none }) rfl hsize rfl rfl (rest := rest) rfl
    (by rw [hb]; exact d6) (by rw [hb]; exact d9) hout hRframes (by simp only [List.map_cons, List.sum_cons, hcat]; omega) hlocks
  obtain ⟨f1, f2⟩ := vx_frame hsame
  rw [hhp] at f1 f2
  have hWs : s.WarmedH U.vm := State.WarmedH.trans hW0 hW
  have hcl : s.vm.findClass cls = some ce.cls := by
    have h9 := hO.cls
    rw [hvm] at h9
    exact h9
  have hall : s.sameButNew ({ U with vm := s.vm } : State) locs mc ms := by
    subst hA
    obtain ⟨e1, e2⟩ := hsame
    rw [State.setFrames_setFrames] at e1
    have h2 : (T.setVm s.vm).sameButNew ({ U with vm := s.vm } : State) [] (0 + 1) (0 + 6) := ⟨e1, e2⟩
    have h3 := X.same.trans h2
    rw [List.append_nil] at h3
    exact h3.mono hc hs
  refine ⟨U, ?_, .threw T.heap.size, hrun, hend, Or.inr ⟨T.heap.size, rfl, cls, ce, locs, hx U hWs.alike f1 (fun q hq => f2 q hq (fun z hz => nomatch hz)), hce, hO.vm, hcl, hWs, hall, hf⟩⟩
  refine st1 _ ?_
  show Steps p.tables e below (T1.setTop { method := m, pc := pc + 3, locals := ls, stack := .ref T.heap.size :: rest, locked := none }) _
  jvm_step X₁.here [X₁.here.top, hexec, d3', Value.category]
  exact X₁.ldcString hexec (own := own) (text := text) (index := is) (a := sa) hown' hstr'.1 hstr'.2
    (g := { method := m, pc := pc + 4, locals := ls, stack := .ref T.heap.size :: .ref T.heap.size :: rest, locked := none }) rfl d4' _ hsteps
/-- 'throw new E("text")', the text by a wide index -/
theorem vx_throwSW {cc : ByteArray} {pc : Nat} (hexec : p.tables.exec = Jvm.exec) (hb : c.code = cc) (hl : l.stackTraces = false) {own cls text : String} {names : List String} {ik is ic mc ms sa : Nat} {A : Nat → Prop}
    (hown : s.vm.findClass own = some m.cls) (hcls : Bundle.fit cls = true) (hnames : ∀ n ∈ names, Bundle.fit n = true)
    (hk : (Cond.classLink own ik cls).before args s = true) (hini : (Cond.initialized cls).before args s = true) (hstr : vk_R own is text sa s) (hat : ∀ w ∈ vx_atS own ic cls names, w.before args s = true)
    (hgood : ∀ w ∈ Cond.classLink own ik cls :: Cond.initialized cls :: vx_atS own ic cls names, vx_ot w = true)
    (hU : vx_Zq Bundle.tN "UNASSIGNED_STACK" Bundle.steD A s s.heap) (hN : vx_Zq Bundle.tN "SUPPRESSED_SENTINEL" Bundle.listD A s s.heap) (hS : va_S A s.heap H locs) (hsize : ls.size = c.maxLocals)
    (d0 : decode cc pc = .ok (.new ik, 3)) (d3 : decode cc (pc + 3) = .ok (.dup, 1)) (d4 : decode cc (pc + 4) = .ok (.ldc_w is, 3)) (d7 : decode cc (pc + 7) = .ok (.invokespecial ic, 3)) (d10 : decode cc (pc + 10) = .ok (.athrow, 1))
    (hout : ∀ x ∈ c.exceptionTable.toList, covers x (pc + 10) = false)
    (hRframes : names.length + 3 < R.frames) (hRlocals : (rest.map fun v => v.category).sum + (13 * (names.length + 1) + 43) ≤ R.locals) (hRcells : cells + 1 ≤ R.cells) (hRslots : slots + 6 ≤ R.slots) (hlocks : meth.locks = false)
    (hx : ∀ t : State, s.vm.Alike t.vm → H.size ≤ t.heap.size → (∀ q : Nat, q < H.size → t.heap[q]? = H[q]?) → XC cls s t)
    (hf : ∀ z ∈ locs, free z.base) (hc : cells + 1 ≤ mc) (hs : slots + 6 ≤ ms) :
    W p l e R s m args below meth c H locs cells slots (vx_MQ below Qc XC args s mc ms free) (F0 m pc ls rest) := by
  intro T hT X
  have htr : e.platform.stackTraces = false := (show e.platform.stackTraces = l.stackTraces by rw [X.admits.platform]).trans hl
  have Y := vx_rebase X (R' := { frames := R.frames, locals := R.locals, cells := 1, slots := 6 }) (Nat.le_refl _) (Nat.le_refl _) hRcells hRslots
  obtain ⟨s', hA⟩ : ∃ z, z = (T.setVm s.vm).setFrames (.invoking m args :: below) := ⟨_, rfl⟩
  rw [← hA] at Y
  have hvm : s'.vm = s.vm := by rw [hA]; rfl
  have hhp : s'.heap = H := by rw [hA]; exact hT
  have hW0 : s.WarmedH s'.vm := by rw [hvm]; exact State.WarmedH.refl s
  have hat' : ∀ w ∈ vx_atS own ic cls names, w.before args s' = true := fun w hw => vx_ot_at hW0 hvm.symm (hgood w (List.mem_cons_of_mem _ (List.mem_cons_of_mem _ hw))) (hat w hw)
  have hk' : (Cond.classLink own ik cls).before args s' = true := vx_ot_at hW0 hvm.symm (hgood _ List.mem_cons_self) hk
  have hini' : (Cond.initialized cls).before args s' = true := vx_ot_at hW0 hvm.symm (hgood _ (List.mem_cons_of_mem _ List.mem_cons_self)) hini
  have hU' : vx_Zq Bundle.tN "UNASSIGNED_STACK" Bundle.steD A s' s'.heap := by rw [hhp]; exact vx_Zq.moved hW0.alike (hU.kept hS.2.1)
  have hN' : vx_Zq Bundle.tN "SUPPRESSED_SENTINEL" Bundle.listD A s' s'.heap := by rw [hhp]; exact vx_Zq.moved hW0.alike (hN.kept hS.2.1)
  have h : ∀ w ∈ Bundle.ownAtoms own ic cls names, w.before args s' = true := vx_own hat' (vx_isRefq hU'.1) (vx_isRefq hN'.1) hU'.2.word hN'.2.word
  have hown' : s'.vm.findClass own = some m.cls := by rw [hvm]; exact hown
  have hins : (Cond.instantiable cls 6).before args s' = true := h _ (by simp [Bundle.ownAtoms])
  obtain ⟨vm₁, cX, kX, hfX, hkX, -, -, X₁, st1⟩ := Y.newCold hexec (own := own) (C := cls) (index := ik) (n := 6) hown' hk' hins hini'
    (g := F0 m pc ls rest) rfl (by rw [hb]; exact d0) (Nat.le_refl _) (Nat.le_refl _)
  generalize hT1 : (T.setVm vm₁).pushCell { cls := cX, slots := kX.instanceTypes.map defaultValue, vm := .none } = T1 at X₁ st1
  have hcat : (Value.ref T.heap.size).category = 1 := rfl
  have hcellA : T1.heap[T.heap.size]? = some (freshCell cX kX) := by rw [← hT1]; exact State.heap_pushCell_size _ _
  have d3' : decode c.code (pc + 3) = .ok (.dup, 1) := by rw [hb]; exact d3
  have d4' : decode c.code (pc + 4) = .ok (.ldc_w is, 3) := by rw [hb]; exact d4
  have hstr' : vk_R own is text sa s' := vk_R.warm hW0 hstr
  obtain ⟨U, hsteps, hrun, hend, hW, hsame, ce, hce, hO⟩ := X₁.ctorThrowS hexec htr (own := own) (cls := cls) (names := names) (ic := ic) hown' hcls hnames h (fun x hx => nomatch hx) hfX hkX hcellA (by rw [hhp, hT]; exact Nat.le_refl _) (msg := .ref sa) rfl
    (g := { method := m, pc := pc + 7, locals := ls, stack := .ref sa :: .ref T.heap.size :: .ref T.heap.size :: rest, locked := none }) rfl hsize rfl rfl (rest := rest) rfl
    (by rw [hb]; exact d7) (by rw [hb]; exact d10) hout hRframes (by simp only [List.map_cons, List.sum_cons, hcat]; omega) hlocks
  obtain ⟨f1, f2⟩ := vx_frame hsame
  rw [hhp] at f1 f2
  have hWs : s.WarmedH U.vm := State.WarmedH.trans hW0 hW
  have hcl : s.vm.findClass cls = some ce.cls := by
    have h9 := hO.cls
    rw [hvm] at h9
    exact h9
  have hall : s.sameButNew ({ U with vm := s.vm } : State) locs mc ms := by
    subst hA
    obtain ⟨e1, e2⟩ := hsame
    rw [State.setFrames_setFrames] at e1
    have h2 : (T.setVm s.vm).sameButNew ({ U with vm := s.vm } : State) [] (0 + 1) (0 + 6) := ⟨e1, e2⟩
    have h3 := X.same.trans h2
    rw [List.append_nil] at h3
    exact h3.mono hc hs
  refine ⟨U, ?_, .threw T.heap.size, hrun, hend, Or.inr ⟨T.heap.size, rfl, cls, ce, locs, hx U hWs.alike f1 (fun q hq => f2 q hq (fun z hz => nomatch hz)), hce, hO.vm, hcl, hWs, hall, hf⟩⟩
  refine st1 _ ?_
  show Steps p.tables e below (T1.setTop { method := m, pc := pc + 3, locals := ls, stack := .ref T.heap.size :: rest, locked := none }) _
  jvm_step X₁.here [X₁.here.top, hexec, d3', Value.category]
  exact X₁.ldcStringW hexec (own := own) (text := text) (index := is) (a := sa) hown' hstr'.1 hstr'.2
    (g := { method := m, pc := pc + 4, locals := ls, stack := .ref T.heap.size :: .ref T.heap.size :: rest, locked := none }) rfl d4' _ hsteps
end Ends
section Bodies
variable {l : Launch}
theorem vx_ofW {y : MethodName} {ws ws' : List Cond} {rm : Room} {Pc : Array Value → State → Prop} {Qc : Array Value → State → Outcome → State → Prop} {XC : String → State → State → Prop} {mc ms : Nat} {free : Addr → Prop} {cc : ByteArray} {maxL : Nat} {ret : Option FieldType}
    (hy : plainName y.cls = true) (hw : ws = Cond.code y cc maxL ret :: ws')
    (body : ∀ p e s m args below meth c s₁, BodyLoose p l y (headSpec ws rm) cc maxL ret e s m args below meth c s₁ → c.maxLocals = maxL → (∀ x ∈ c.exceptionTable.toList, False) → Pc args s →
      W p l e (headSpec ws rm).room s m args below meth c s.heap [] 0 0 (vx_MQ below Qc XC args s mc ms free) (entryFrame m args maxL)) : vx_Met l y ws rm Pc Qc XC mc ms free := by
  refine MetFree.of_bodyS (code := cc) (maxLocals := maxL) (ret := ret) hy ?_ ?_
  · intro args s m h hn
    obtain ⟨meth, c, h1, h2, h3, h4, h5, h6, -, -⟩ := Cond.code_spec hn (atoms_spec (ws := ws) h _ (by rw [hw]; exact List.mem_cons_self))
    exact ⟨meth, c, h1, h2, h3, h4, h5, h6⟩
  · intro p e s m args below meth c s₁ B hml hP _
    have hh0 : s₁.heap = s.heap := by rw [B.state]; rfl
    have ht : ∀ x ∈ c.exceptionTable.toList, False := by
      obtain ⟨meth9, c9, h1, h2, -, -, -, -, h7, -⟩ := Cond.code_spec B.named (atoms_spec (ws := ws) B.pre _ (by rw [hw]; exact List.mem_cons_self))
      cases Option.some.inj (h1.symm.trans B.method)
      cases Option.some.inj (h2.symm.trans (Stand.of_body B).code)
      intro x hx
      rw [Array.isEmpty_iff.mp h7] at hx
      cases hx
    obtain ⟨t, a1, o, b1, b2, b3⟩ := body p e s m args below meth c s₁ B hml ht hP s₁ hh0 (Stand.of_body B)
    exact ⟨t, o, a1, b1, b2, b3⟩
/-- the table of a body with handlers -/
theorem vx_table {p : Program} {x y : MethodName} {S : Spec} {cc bytes : ByteArray} {maxL maxL' : Nat} {ret ret' : Option FieldType} {e : Env} {s s₁ : State} {m : MethodId} {args : Array Value} {below : List Frame} {meth : Method} {c : Code} {hh : List (Nat × Nat × Nat × Nat)}
    (B : BodyLoose p l y S cc maxL ret e s m args below meth c s₁) (h : (Cond.codeWith y bytes maxL' ret' hh).before args s = true) : c.exceptionTable.toList = tableOf hh := by
  obtain ⟨m9, meth9, c9, hn9, h1, h2, -, -, h6, -⟩ := Cond.codeWith_spec h
  cases Option.some.inj (hn9.symm.trans B.named)
  cases Option.some.inj (h1.symm.trans B.method)
  cases Option.some.inj (h2.symm.trans (Stand.of_body B).code)
  rw [← h6, table_eq]
end Bodies
end VXA
/-! ===== END ===== -/
/-! ===== BEGIN a static call of a method with an exception table ===== -/
section VXS
variable {p : Program} {l : Launch} {e : Env} {R : Room} {s : State} {m : MethodId} {args : Array Value} {below : List Frame} {meth : Method} {c : Code} {T : State} {H : Heap} {locs : List Loc} {cells slots : Nat}
abbrev vx_CSW (R : Room) (s : State) (args : Array Value) (own : String) (index : Nat) (y : MethodName) (bytes : ByteArray) (maxL : Nat) (ret : Option FieldType) (hh : List (Nat × Nat × Nat × Nat)) (ws : List Cond) (rm : Room) (mc ms n : Nat) : Prop :=
  (rm.cells = mc ∧ rm.slots = ms ∧ rm.frames + 1 ≤ R.frames ∧ 8 + (maxL + 11) + rm.locals ≤ R.locals ∧ (∀ w ∈ ws, ∀ (a' : Array Value) (U : State), s.WarmedH U.vm → w.before a' U = true) ∧ Cond.codeWith y bytes maxL ret hh ∈ ws) ∧
  (Cond.codeWith y bytes maxL ret hh).before args s = true ∧ (Cond.initialized y.cls).before args s = true ∧ (y.cls ≠ "java/lang/invoke/MethodHandle" ∧ y.cls ≠ "java/lang/invoke/VarHandle") ∧
  (∀ sig, parseMethodDescriptor y.desc = some sig → n = sig.parameters.length) ∧ (Cond.methodLink own index y).before args s = true ∧ (Cond.static y).before args s = true
theorem vx_cwSW {own : String} {index maxL mc ms : Nat} {y : MethodName} {bytes : ByteArray} {ret : Option FieldType} {hh : List (Nat × Nat × Nat × Nat)} {Ts ws ws' : List Cond} {rm : Room} (n : Nat) (ht : ∀ w ∈ Ts, w.before args s = true) (hT : GoodIn Ts (va_wsS own index y ws)) (hw : ws = Cond.codeWith y bytes maxL ret hh :: ws') (hrc : rm.cells = mc) (hrs : rm.slots = ms)
    (hd : y.cls ≠ "java/lang/invoke/MethodHandle" ∧ y.cls ≠ "java/lang/invoke/VarHandle" ∧ (parseMethodDescriptor y.desc).map (fun d => d.parameters.length) = some n) (hR : rm.frames + 1 ≤ R.frames ∧ 8 + (maxL + 11) + rm.locals ≤ R.locals) :
    vx_CSW R s args own index y bytes maxL ret hh ws rm mc ms n := by
  have ok : ∀ w ∈ va_wsS own index y ws, w.before args s = true := fun w h => ht w (hT w h).1
  have hG : GoodIn Ts ws := fun w h => hT w (by unfold va_wsS; exact List.mem_append_right _ h)
  have hc : Cond.codeWith y bytes maxL ret hh ∈ ws := by rw [hw]; exact List.mem_cons_self
  refine ⟨⟨hrc, hrs, hR.1, hR.2, pay_in ht hG, hc⟩, ht _ (hG _ hc).1, ok _ (by simp [va_wsS]), ⟨hd.1, hd.2.1⟩, fun sig h => ?_, ok _ (by simp [va_wsS]), ok _ (by simp [va_wsS])⟩
  have h2 := hd.2.2
  rw [h] at h2
  exact (Option.some.inj h2).symm
theorem vx_callSW (X : Stand p l e R s m args below meth c T locs cells slots) (hexec : p.tables.exec = Jvm.exec) {own : String} {index : Nat} {y : MethodName} {bytes : ByteArray} {maxL : Nat} {ret : Option FieldType} {hh : List (Nat × Nat × Nat × Nat)}
    (hown : s.vm.findClass own = some m.cls) (hlink : (Cond.methodLink own index y).before args s = true) (hstat : (Cond.static y).before args s = true) (hinit : (Cond.initialized y.cls).before args s = true)
    (hcode : (Cond.codeWith y bytes maxL ret hh).before args s = true) (hy : y.cls ≠ "java/lang/invoke/MethodHandle" ∧ y.cls ≠ "java/lang/invoke/VarHandle")
    {W9 : Nat} {Pre : Pt → Array Value → Prop} {Post : Pt → Array Value → Option Value → Pt → Prop} (hK : Back l R p e below s args y 3 W9 Pre Post)
    {g : JFrame} (hg : g.method = m) (hsize : g.locals.size = c.maxLocals) {argsL rest : List Value} (hlen : ∀ sig, parseMethodDescriptor y.desc = some sig → argsL.length = sig.parameters.length)
    (hstack : g.stack = argsL.reverse ++ rest) (hW : 2 * g.monitorRoom + (rest.map fun v => v.category).sum ≤ W9) (hdg : decode c.code g.pc = .ok (.invokestatic index, 3))
    (hpre : ∀ vm₁, s.WarmedH vm₁ → Pre ⟨T.setVm vm₁, locs, cells, slots⟩ argsL.toArray) :
    ∃ (v : Option Value) (vm₁ : Vm) (B : Pt), s.WarmedH vm₁ ∧ Stand p l e R s m args below meth c B.U B.locs B.cells B.slots ∧ Post ⟨T.setVm vm₁, locs, cells, slots⟩ argsL.toArray v B ∧
      ∀ target, Steps p.tables e below (B.U.setTop { g with pc := g.pc + 3, stack := v.toList ++ rest }) target → Steps p.tables e below (T.setTop g) target := by
  obtain ⟨mk, methM, cM, hnamed, hmethM, -, -, -, -, -, -, hsigM⟩ := Cond.codeWith_spec hcode
  have hstatic : methM.isStatic = true := Cond.static_spec hnamed hmethM hstat
  obtain ⟨kP, hkP, -⟩ := className_of_methodNamed hnamed
  have hinitP : kP.init = .initialized := Cond.initialized_spec (findClass_of_methodNamed hnamed) hkP hinit
  obtain ⟨vm₁, X₁, hstep₁⟩ := X.invokestatic hexec hown hlink hnamed hmethM hstatic hkP hinitP hy (g := g) hg (argsL := argsL) (rest := rest) (hlen _ hsigM) hstack hdg
  obtain ⟨v, B, X', hpost, hsteps⟩ := hK m meth c ⟨T.setVm vm₁, locs, cells, slots⟩ { g with stack := rest } (.invokestatic index) mk argsL.toArray X₁ hg hsize hdg hW (X₁.named hnamed) (hpre vm₁ X₁.warmed)
  exact ⟨v, vm₁, B, X₁.warmed, X', hpost, fun target h => hstep₁ _ fun acts => by rw [doInvoke_state]; exact hsteps.trans h⟩
theorem vx_runSW {y : MethodName} {bytes cc : ByteArray} {maxL nL mc ms n index : Nat} {ret : Option FieldType} {hh : List (Nat × Nat × Nat × Nat)} {ws : List Cond} {rm : Room} {Pc : Array Value → State → Prop} {Qc : Array Value → State → Outcome → State → Prop} {free : Addr → Prop} {Ts : List Cond} {own : String} {As rest : List Value} {g : JFrame}
    (S : CallFix p m c cc nL s args Ts own) (hM : Met l y ws rm Pc Qc mc ms free) (cw : vx_CSW R s args own index y bytes maxL ret hh ws rm mc ms n) (hp : PreS s H Pc As)
    (hg : g.method = m) (hn : As.length = n) (hsize : g.locals.size = nL) (hstack : g.stack = As.reverse ++ rest) (hW : 2 * g.monitorRoom + (rest.map fun v => v.category).sum ≤ 8) (hdg : decode cc g.pc = .ok (.invokestatic index, 3)) (hf : cells + mc ≤ R.cells ∧ slots + ms ≤ R.slots) :
    va_Run p l e R s m args below meth c H locs cells slots mc ms g rest (Qc As.toArray) (free) := by
  obtain ⟨⟨hrc, hrs, hfr, hlo, hws, hcw⟩, hcode, hini, hy, hlen, hl, hstt⟩ := cw
  have hK : Back l R p e below s args y 3 8 (PreOf R mc ms Pc) (PostOf Qc mc ms free) := va_backW (hh := hh) (bytes := bytes) (maxL := maxL) (ret := ret) hM hp.1 hrc hrs hfr hlo hws hcw (fun a' U hW => word_at hW (Or.inl (by first | rfl | simp [Cond.onTables, Cond.keeps, Cond.steady])) hini)
  obtain ⟨hx, hb, hml, ho, -⟩ := S
  intro T hT X
  obtain ⟨v, vm₁, ⟨U', l2, c2, s2⟩, hW₁, X', ⟨g', mk, t, L, e1, e2, hq, h1, hL, h2, h3⟩, st⟩ := vx_callSW X hx (hh := hh) (bytes := bytes) (maxL := maxL) (ret := ret) ho hl hstt hini hcode hy hK hg (hsize.trans hml.symm) (argsL := As) (rest := rest) (fun sig h => hn.trans (hlen sig h)) hstack hW (by rw [hb]; exact hdg)
    (fun vm₁ hW₁ => ⟨hf.1, hf.2, hp.2 (T.setVm vm₁) hT hW₁⟩)
  dsimp only [Pt.U, Pt.locs, Pt.cells, Pt.slots] at X' e1 e2 h1 h2 h3 st
  subst h1; subst h2; subst h3
  exact ⟨v, (T.setVm vm₁).calling g' mk As.toArray, t, U', L, hT, X', hL, e1, e2, hq, st⟩
/-- not caught here, past rows that name other classes: it goes on to the caller -/
theorem vx_outP {p : Program} {l : Launch} {e : Env} {R : Room} {s : State} {m : MethodId} {args : Array Value} {below : List Frame} {meth : Method} {c : Code} {H : Heap} {locs : List Loc} {cells slots : Nat} {free : Addr → Prop} {ls : Array Slot} {rest : List Value} {Qc : Array Value → State → Outcome → State → Prop} {XC : String → State → State → Prop}
    {pc : Nat} {own E : String} {ce : Cell} {q : Addr} {mc ms : Nat} (hown : s.vm.findClass own = some m.cls) (hlocks : meth.locks = false)
    (hpass : ∀ z ∈ c.exceptionTable.toList, covers z pc = false ∨ (z.catchType ≠ 0 ∧ ∃ nm : String, (Cond.classLink own z.catchType nm).before args s = true ∧ va_Nc E nm s)) (hcell : H[q]? = some ce) (hv : ce.vm = .none) (hcl : s.vm.findClass E = some ce.cls)
    (hx : ∀ t : State, t.heap = H → s.vm.Alike t.vm → XC E s t) (hf : ∀ z ∈ locs, free z.base) (hc : cells ≤ mc) (hs : slots ≤ ms) :
    vx_W p l e R s m args below meth c H locs cells slots (vx_MQ below Qc XC args s mc ms free) (F0 m pc ls rest) q := by
  intro T hT X
  have hpl : e.platform.magicAccessors = ({} : Platform).magicAccessors := by rw [X.admits.platform]
  obtain ⟨vm', hW', X', st⟩ := X.outThrough hlocks q (g := F0 m pc ls rest) rfl rfl rfl (cell := ce) (by rw [hT]; exact hcell) (by rw [hv]; rfl)
    (by obtain ⟨k9, h9, -⟩ := Vm.findClass_spec hcl; exact ⟨k9, h9⟩) (fun z hz => by
      rcases hpass z hz with h | ⟨hz0, nm, hl1, hn1⟩
      · exact Or.inl h
      · obtain ⟨c6, hc6, hcl6⟩ := Cond.classLink_spec hown hl1 e.platform hpl
        obtain ⟨a8, b8, h1, h2, h3⟩ := hn1
        cases Option.some.inj (h1.symm.trans hcl)
        cases Option.some.inj (h2.symm.trans hc6)
        exact Or.inr ⟨hz0, _, hcl6, h3⟩)
  obtain ⟨g₀, hfr⟩ := X'.frames_eq
  have hcell9 : ((T.setVm vm').setFrames (.throwing q :: below)).heap[q]? = some ce := by
    show T.heap[q]? = some ce
    rw [hT]; exact hcell
  have hend : Ended ((T.setVm vm').setFrames (.throwing q :: below)) below (.threw q) := State.frames_setFrames _ (State.cur_lt_of_frames hfr)
  refine ⟨(T.setVm vm').setFrames (.throwing q :: below), ?_, .threw q, X'.here.running, hend, Or.inr ⟨q, rfl, E, ce, locs, hx _ hT (X'.ends _).1.alike, hcell9, hv, hcl, (X'.ends _).1, (X'.ends _).2.mono hc hs, hf⟩⟩
  rw [X.pushThrowing_eq]
  exact st
/-- a thing of a world lies in the heap -/
theorem vx_lt {D : va_G} {cl : List vw_C} {ws : va_W} {H1 : Heap} (h : va_P D cl ws H1) {k : Nat} {q : Nat × va_E} (hk : ws[k]? = some q) : q.1 < H1.size := (h k q hk).lt
end VXS
/-! ===== END ===== -/
end
section
section RFT
variable {p : Program} {l : Launch} {e : Env} {R : Room} {s : State} {m : MethodId} {args : Array Value} {below : List Frame} {meth : Method} {c : Code} {H : Heap} {locs : List Loc} {cells slots : Nat} {Q : State → Prop}
variable {mc ms : Nat} {free : Addr → Prop} {A0 A1 : Nat → Prop} {H0 : Heap} {a : Array Value} {ls : Array Slot} {st0 rest : List Value}
variable {Qc : Array Value → State → Outcome → State → Prop} {XC : String → State → State → Prop}
/-- an exception is made, and thrown out of the method: one cell more -/
theorem rf_throwS {cc : ByteArray} {pc : Nat} (hexec : p.tables.exec = Jvm.exec) (hb : c.code = cc) (hl : l.stackTraces = false) {own cls text : String} {names : List String} {ik is ic mc ms sa : Nat} {A : Nat → Prop}
    (hown : s.vm.findClass own = some m.cls) (hcls : Bundle.fit cls = true) (hnames : ∀ n ∈ names, Bundle.fit n = true)
    (hk : (Cond.classLink own ik cls).before args s = true) (hini : (Cond.initialized cls).before args s = true) (hstr : vk_R own is text sa s) (hat : ∀ w ∈ vx_atS own ic cls names, w.before args s = true)
    (hgood : ∀ w ∈ Cond.classLink own ik cls :: Cond.initialized cls :: vx_atS own ic cls names, vx_ot w = true)
    (hU : vx_Zq Bundle.tN "UNASSIGNED_STACK" Bundle.steD A s s.heap) (hN : vx_Zq Bundle.tN "SUPPRESSED_SENTINEL" Bundle.listD A s s.heap) (hS : va_S A s.heap H locs) (hsize : ls.size = c.maxLocals)
    (d0 : decode cc pc = .ok (.new ik, 3)) (d3 : decode cc (pc + 3) = .ok (.dup, 1)) (d4 : decode cc (pc + 4) = .ok (.ldc is, 2)) (d6 : decode cc (pc + 6) = .ok (.invokespecial ic, 3)) (d9 : decode cc (pc + 9) = .ok (.athrow, 1))
    (hout : ∀ x ∈ c.exceptionTable.toList, covers x (pc + 9) = false)
    (hRframes : names.length + 3 < R.frames) (hRlocals : (rest.map fun v => v.category).sum + (13 * (names.length + 1) + 43) ≤ R.locals) (hRcells : cells + 1 ≤ R.cells) (hRslots : slots + 6 ≤ R.slots) (hlocks : meth.locks = false)
    (hx : ∀ t : State, s.vm.Alike t.vm → H.size + 1 ≤ t.heap.size → (∀ q : Nat, q < H.size → t.heap[q]? = H[q]?) → XC cls s t)
    (hf : ∀ z ∈ locs, free z.base) (hc : cells + 1 ≤ mc) (hs : slots + 6 ≤ ms) :
    W p l e R s m args below meth c H locs cells slots (vx_MQ below Qc XC args s mc ms free) (F0 m pc ls rest) := by
  intro T hT X
  have htr : e.platform.stackTraces = false := (show e.platform.stackTraces = l.stackTraces by rw [X.admits.platform]).trans hl
  have Y := vx_rebase X (R' := { frames := R.frames, locals := R.locals, cells := 1, slots := 6 }) (Nat.le_refl _) (Nat.le_refl _) hRcells hRslots
  obtain ⟨s', hA⟩ : ∃ z, z = (T.setVm s.vm).setFrames (.invoking m args :: below) := ⟨_, rfl⟩
  rw [← hA] at Y
  have hvm : s'.vm = s.vm := by rw [hA]; rfl
  have hhp : s'.heap = H := by rw [hA]; exact hT
  have hW0 : s.WarmedH s'.vm := by rw [hvm]; exact State.WarmedH.refl s
  have hat' : ∀ w ∈ vx_atS own ic cls names, w.before args s' = true := fun w hw => vx_ot_at hW0 hvm.symm (hgood w (List.mem_cons_of_mem _ (List.mem_cons_of_mem _ hw))) (hat w hw)
  have hk' : (Cond.classLink own ik cls).before args s' = true := vx_ot_at hW0 hvm.symm (hgood _ List.mem_cons_self) hk
  have hini' : (Cond.initialized cls).before args s' = true := vx_ot_at hW0 hvm.symm (hgood _ (List.mem_cons_of_mem _ List.mem_cons_self)) hini
  have hU' : vx_Zq Bundle.tN "UNASSIGNED_STACK" Bundle.steD A s' s'.heap := by rw [hhp]; exact vx_Zq.moved hW0.alike (hU.kept hS.2.1)
  have hN' : vx_Zq Bundle.tN "SUPPRESSED_SENTINEL" Bundle.listD A s' s'.heap := by rw [hhp]; exact vx_Zq.moved hW0.alike (hN.kept hS.2.1)
  have h : ∀ w ∈ Bundle.ownAtoms own ic cls names, w.before args s' = true := vx_own hat' (vx_isRefq hU'.1) (vx_isRefq hN'.1) hU'.2.word hN'.2.word
  have hown' : s'.vm.findClass own = some m.cls := by rw [hvm]; exact hown
  have hins : (Cond.instantiable cls 6).before args s' = true := h _ (by simp [Bundle.ownAtoms])
  obtain ⟨vm₁, cX, kX, hfX, hkX, -, -, X₁, st1⟩ := Y.newCold hexec (own := own) (C := cls) (index := ik) (n := 6) hown' hk' hins hini'
    (g := F0 m pc ls rest) rfl (by rw [hb]; exact d0) (Nat.le_refl _) (Nat.le_refl _)
  generalize hT1 : (T.setVm vm₁).pushCell { cls := cX, slots := kX.instanceTypes.map defaultValue, vm := .none } = T1 at X₁ st1
  have hcat : (Value.ref T.heap.size).category = 1 := rfl
  have hcellA : T1.heap[T.heap.size]? = some (freshCell cX kX) := by rw [← hT1]; exact State.heap_pushCell_size _ _
  have d3' : decode c.code (pc + 3) = .ok (.dup, 1) := by rw [hb]; exact d3
  have d4' : decode c.code (pc + 4) = .ok (.ldc is, 2) := by rw [hb]; exact d4
  have hstr' : vk_R own is text sa s' := vk_R.warm hW0 hstr
  obtain ⟨U, hsteps, hrun, hend, hW, hsame, ce, hce, hO⟩ := X₁.ctorThrowS hexec htr (own := own) (cls := cls) (names := names) (ic := ic) hown' hcls hnames h (fun x hx => nomatch hx) hfX hkX hcellA (by rw [hhp, hT]; exact Nat.le_refl _) (msg := .ref sa) rfl
    (g := { method := m, pc := pc + 6, locals := ls, stack := .ref sa :: .ref T.heap.size :: .ref T.heap.size :: rest, locked := none }) rfl hsize rfl rfl (rest := rest) rfl
    (by rw [hb]; exact d6) (by rw [hb]; exact d9) hout hRframes (by simp only [List.map_cons, List.sum_cons, hcat]; omega) hlocks
  obtain ⟨f1, f2⟩ := vx_frame hsame
  rw [hhp] at f1 f2
  have hWs : s.WarmedH U.vm := State.WarmedH.trans hW0 hW
  have hsz9 : H.size + 1 ≤ U.heap.size := by
    have h9 : T.heap.size < U.heap.size := (Array.getElem?_eq_some_iff.mp hce).1
    rw [hT] at h9
    exact h9
  have hcl : s.vm.findClass cls = some ce.cls := by
    have h9 := hO.cls
    rw [hvm] at h9
    exact h9
  have hall : s.sameButNew ({ U with vm := s.vm } : State) locs mc ms := by
    subst hA
    obtain ⟨e1, e2⟩ := hsame
    rw [State.setFrames_setFrames] at e1
    have h2 : (T.setVm s.vm).sameButNew ({ U with vm := s.vm } : State) [] (0 + 1) (0 + 6) := ⟨e1, e2⟩
    have h3 := X.same.trans h2
    rw [List.append_nil] at h3
    exact h3.mono hc hs
  refine ⟨U, ?_, .threw T.heap.size, hrun, hend, Or.inr ⟨T.heap.size, rfl, cls, ce, locs, hx U hWs.alike hsz9 (fun q hq => f2 q hq (fun z hz => nomatch hz)), hce, hO.vm, hcl, hWs, hall, hf⟩⟩
  refine st1 _ ?_
  show Steps p.tables e below (T1.setTop { method := m, pc := pc + 3, locals := ls, stack := .ref T.heap.size :: rest, locked := none }) _
  jvm_step X₁.here [X₁.here.top, hexec, d3', Value.category]
  exact X₁.ldcString hexec (own := own) (text := text) (index := is) (a := sa) hown' hstr'.1 hstr'.2
    (g := { method := m, pc := pc + 4, locals := ls, stack := .ref T.heap.size :: .ref T.heap.size :: rest, locked := none }) rfl d4' _ hsteps
end RFT
end
section
-- names, fields, decode rows: written by a program of this repository (wip/whole/gen_names.py) out of the claim's listing
def rr_all : List Cond := lw_tbl.filter goodWord
theorem rr_in {w : Cond} (i : Nat) (h : lw_tbl[i]? = some w) (g : goodWord w = true) : w ∈ rr_all := List.mem_filter.mpr ⟨List.mem_of_getElem? h, g⟩
theorem rr_of_good {w : Cond} (h : w ∈ rr_all) : (w.onTables && w.keeps) = true ∨ ∃ ty, w = .arrayClass ty := good_of_word (List.mem_filter.mp h).2
def R_C : String := "RopeVotes$Control"
def F_C : u_T := fun k => match k with
  | 0 => ("RopeVotes$Control", "ballot", "[I", true)
  | _ => ("RopeVotes$Control", "madeAt", "[I", true)
def t_C : Nat → FieldType := fun k => match k with
  | 0 => .array .int
  | _ => .array .int
theorem n_C : ∀ a, a < 2 → ∀ b, b < 2 → a ≠ b → (F_C a).2.1 ≠ (F_C b).2.1 := by decide +kernel
theorem t_C_ok : ∀ k, k < 2 → parseFieldDescriptor (F_C k).2.2.1 = some (t_C k) := by decide +kernel
theorem i_C : ∀ w ∈ u_ws R_C F_C 2, w ∈ lw_tbl ∧ goodWord w = true := by decide +kernel
theorem j_C : ∀ w ∈ u_ws R_C F_C 2, w ∈ rr_all := fun w h => List.mem_filter.mpr (i_C w h)
def R_L : String := "RopeVotes$Loop"
def F_L : u_T := fun k => match k with
  | 0 => ("RopeVotes$Loop", "place", "[I", true)
  | 1 => ("RopeVotes$Loop", "turnsAtStart", "[I", true)
  | 2 => ("RopeVotes$Loop", "isOn", "[Z", true)
  | _ => ("RopeVotes$Loop", "started", "I", false)
def t_L : Nat → FieldType := fun k => match k with
  | 0 => .array .int
  | 1 => .array .int
  | 2 => .array .boolean
  | _ => .int
theorem n_L : ∀ a, a < 4 → ∀ b, b < 4 → a ≠ b → (F_L a).2.1 ≠ (F_L b).2.1 := by decide +kernel
theorem t_L_ok : ∀ k, k < 4 → parseFieldDescriptor (F_L k).2.2.1 = some (t_L k) := by decide +kernel
theorem i_L : ∀ w ∈ u_ws R_L F_L 4, w ∈ lw_tbl ∧ goodWord w = true := by decide +kernel
theorem j_L : ∀ w ∈ u_ws R_L F_L 4, w ∈ rr_all := fun w h => List.mem_filter.mpr (i_L w h)
def R_P : String := "RopeVotes$Post"
def F_P : u_T := fun k => match k with
  | 0 => ("RopeVotes$Post", "ballot", "[I", true)
  | _ => ("RopeVotes$Post", "comesAt", "[I", true)
def t_P : Nat → FieldType := fun k => match k with
  | 0 => .array .int
  | _ => .array .int
theorem n_P : ∀ a, a < 2 → ∀ b, b < 2 → a ≠ b → (F_P a).2.1 ≠ (F_P b).2.1 := by decide +kernel
theorem t_P_ok : ∀ k, k < 2 → parseFieldDescriptor (F_P k).2.2.1 = some (t_P k) := by decide +kernel
theorem i_P : ∀ w ∈ u_ws R_P F_P 2, w ∈ lw_tbl ∧ goodWord w = true := by decide +kernel
theorem j_P : ∀ w ∈ u_ws R_P F_P 2, w ∈ rr_all := fun w h => List.mem_filter.mpr (i_P w h)
def R_K : String := "RopeVotes$Tickets"
def F_K : u_T := fun k => match k with
  | 0 => ("RopeVotes$Tickets", "car", "[I", true)
  | 1 => ("RopeVotes$Tickets", "people", "[I", true)
  | 2 => ("RopeVotes$Tickets", "fare", "[I", true)
  | 3 => ("RopeVotes$Tickets", "goalTurns", "[I", true)
  | 4 => ("RopeVotes$Tickets", "arrivedAt", "[I", true)
  | 5 => ("RopeVotes$Tickets", "minutesHung", "[I", true)
  | _ => ("RopeVotes$Tickets", "sold", "I", false)
def t_K : Nat → FieldType := fun k => match k with
  | 0 => .array .int
  | 1 => .array .int
  | 2 => .array .int
  | 3 => .array .int
  | 4 => .array .int
  | 5 => .array .int
  | _ => .int
theorem n_K : ∀ a, a < 7 → ∀ b, b < 7 → a ≠ b → (F_K a).2.1 ≠ (F_K b).2.1 := by decide +kernel
theorem t_K_ok : ∀ k, k < 7 → parseFieldDescriptor (F_K k).2.2.1 = some (t_K k) := by decide +kernel
theorem i_K : ∀ w ∈ u_ws R_K F_K 7, w ∈ lw_tbl ∧ goodWord w = true := by decide +kernel
theorem j_K : ∀ w ∈ u_ws R_K F_K 7, w ∈ rr_all := fun w h => List.mem_filter.mpr (i_K w h)
def R_W : String := "RopeVotes$Towers"
def F_W : u_T := fun k => match k with
  | 0 => ("RopeVotes$Towers", "wind", "[I", true)
  | 1 => ("RopeVotes$Towers", "slowLimit", "[I", true)
  | 2 => ("RopeVotes$Towers", "stopLimit", "[I", true)
  | _ => ("RopeVotes$Towers", "isCutOff", "[Z", true)
def t_W : Nat → FieldType := fun k => match k with
  | 0 => .array .int
  | 1 => .array .int
  | 2 => .array .int
  | _ => .array .boolean
theorem n_W : ∀ a, a < 4 → ∀ b, b < 4 → a ≠ b → (F_W a).2.1 ≠ (F_W b).2.1 := by decide +kernel
theorem t_W_ok : ∀ k, k < 4 → parseFieldDescriptor (F_W k).2.2.1 = some (t_W k) := by decide +kernel
theorem i_W : ∀ w ∈ u_ws R_W F_W 4, w ∈ lw_tbl ∧ goodWord w = true := by decide +kernel
theorem j_W : ∀ w ∈ u_ws R_W F_W 4, w ∈ rr_all := fun w h => List.mem_filter.mpr (i_W w h)
def R_V : String := "RopeVotes"
def F_V : u_T := fun k => match k with
  | 0 => ("RopeVotes", "loop", "LRopeVotes$Loop;", true)
  | 1 => ("RopeVotes", "towers", "LRopeVotes$Towers;", true)
  | 2 => ("RopeVotes", "post", "LRopeVotes$Post;", true)
  | 3 => ("RopeVotes", "control", "LRopeVotes$Control;", true)
  | 4 => ("RopeVotes", "tickets", "LRopeVotes$Tickets;", true)
  | 5 => ("RopeVotes", "record", "[I", true)
  | 6 => ("RopeVotes", "now", "I", false)
  | 7 => ("RopeVotes", "turns", "I", false)
  | _ => ("RopeVotes", "isHeldNow", "Z", false)
def t_V : Nat → FieldType := fun k => match k with
  | 0 => .object "RopeVotes$Loop"
  | 1 => .object "RopeVotes$Towers"
  | 2 => .object "RopeVotes$Post"
  | 3 => .object "RopeVotes$Control"
  | 4 => .object "RopeVotes$Tickets"
  | 5 => .array .int
  | 6 => .int
  | 7 => .int
  | _ => .boolean
theorem n_V : ∀ a, a < 9 → ∀ b, b < 9 → a ≠ b → (F_V a).2.1 ≠ (F_V b).2.1 := by decide +kernel
theorem t_V_ok : ∀ k, k < 9 → parseFieldDescriptor (F_V k).2.2.1 = some (t_V k) := by decide +kernel
theorem i_V : ∀ w ∈ u_ws R_V F_V 9, w ∈ lw_tbl ∧ goodWord w = true := by decide +kernel
theorem j_V : ∀ w ∈ u_ws R_V F_V 9, w ∈ rr_all := fun w h => List.mem_filter.mpr (i_V w h)
abbrev classes : List vw_C := [(R_C, F_C, 2), (R_L, F_L, 4), (R_P, F_P, 2), (R_K, F_K, 7), (R_W, F_W, 4), (R_V, F_V, 9)]
abbrev b_C_init : ByteArray := prog_2_method_1_code
def y_C_init : MethodName := ⟨"RopeVotes$Control", "<init>", "()V"⟩
abbrev b_C_take : ByteArray := prog_2_method_2_code
def y_C_take : MethodName := ⟨"RopeVotes$Control", "take", "(III)V"⟩
abbrev b_C_isFresh : ByteArray := prog_2_method_3_code
def y_C_isFresh : MethodName := ⟨"RopeVotes$Control", "isFresh", "(II)Z"⟩
abbrev b_C_freshSet : ByteArray := prog_2_method_4_code
def y_C_freshSet : MethodName := ⟨"RopeVotes$Control", "freshSet", "(I)I"⟩
abbrev b_C_countFresh : ByteArray := prog_2_method_5_code
def y_C_countFresh : MethodName := ⟨"RopeVotes$Control", "countFresh", "(II)I"⟩
abbrev b_C_speedByVotes : ByteArray := prog_2_method_6_code
def y_C_speedByVotes : MethodName := ⟨"RopeVotes$Control", "speedByVotes", "(I)I"⟩
abbrev b_L_init : ByteArray := prog_3_method_1_code
def y_L_init : MethodName := ⟨"RopeVotes$Loop", "<init>", "()V"⟩
abbrev b_L_has : ByteArray := prog_3_method_2_code
def y_L_has : MethodName := ⟨"RopeVotes$Loop", "has", "(I)Z"⟩
abbrev b_L_canStart : ByteArray := prog_3_method_3_code
def y_L_canStart : MethodName := ⟨"RopeVotes$Loop", "canStart", "()Z"⟩
abbrev b_L_start : ByteArray := prog_3_method_4_code
def y_L_start : MethodName := ⟨"RopeVotes$Loop", "start", "(I)I"⟩
abbrev b_L_countOn : ByteArray := prog_3_method_5_code
def y_L_countOn : MethodName := ⟨"RopeVotes$Loop", "countOn", "()I"⟩
abbrev b_L_leastGapOfPairs : ByteArray := prog_3_method_6_code
def y_L_leastGapOfPairs : MethodName := ⟨"RopeVotes$Loop", "leastGapOfPairs", "()I"⟩
abbrev b_L_move : ByteArray := prog_3_method_7_code
def y_L_move : MethodName := ⟨"RopeVotes$Loop", "move", "(I)V"⟩
abbrev b_L_isOutOfStations : ByteArray := prog_3_method_8_code
def y_L_isOutOfStations : MethodName := ⟨"RopeVotes$Loop", "isOutOfStations", "(I)Z"⟩
abbrev b_P_init : ByteArray := prog_4_method_1_code
def y_P_init : MethodName := ⟨"RopeVotes$Post", "<init>", "()V"⟩
abbrev b_P_send : ByteArray := prog_4_method_2_code
def y_P_send : MethodName := ⟨"RopeVotes$Post", "send", "(IIII)V"⟩
abbrev b_P_deliver : ByteArray := prog_4_method_3_code
def y_P_deliver : MethodName := ⟨"RopeVotes$Post", "deliver", "(ILRopeVotes$Control;)V"⟩
abbrev b_P_countLater : ByteArray := prog_4_method_4_code
def y_P_countLater : MethodName := ⟨"RopeVotes$Post", "countLater", "(I)I"⟩
abbrev b_P_slotOf : ByteArray := prog_4_method_5_code
def y_P_slotOf : MethodName := ⟨"RopeVotes$Post", "slotOf", "(II)I"⟩
abbrev b_K_init : ByteArray := prog_5_method_1_code
def y_K_init : MethodName := ⟨"RopeVotes$Tickets", "<init>", "()V"⟩
abbrev b_K_has : ByteArray := prog_5_method_2_code
def y_K_has : MethodName := ⟨"RopeVotes$Tickets", "has", "(I)Z"⟩
abbrev b_K_isLeft : ByteArray := prog_5_method_3_code
def y_K_isLeft : MethodName := ⟨"RopeVotes$Tickets", "isLeft", "()Z"⟩
abbrev b_K_sell : ByteArray := prog_5_method_4_code
def y_K_sell : MethodName := ⟨"RopeVotes$Tickets", "sell", "(IIII)I"⟩
abbrev b_K_peopleIn : ByteArray := prog_5_method_5_code
def y_K_peopleIn : MethodName := ⟨"RopeVotes$Tickets", "peopleIn", "(I)I"⟩
abbrev b_K_passMinute : ByteArray := prog_5_method_6_code
def y_K_passMinute : MethodName := ⟨"RopeVotes$Tickets", "passMinute", "(IIILRopeVotes$Loop;)V"⟩
abbrev b_K_refundOf : ByteArray := prog_5_method_7_code
def y_K_refundOf : MethodName := ⟨"RopeVotes$Tickets", "refundOf", "(I)I"⟩
abbrev b_K_sumOfRefunds : ByteArray := prog_5_method_8_code
def y_K_sumOfRefunds : MethodName := ⟨"RopeVotes$Tickets", "sumOfRefunds", "()I"⟩
abbrev b_W_init : ByteArray := prog_6_method_1_code
def y_W_init : MethodName := ⟨"RopeVotes$Towers", "<init>", "()V"⟩
abbrev b_W_ballotOf : ByteArray := prog_6_method_2_code
def y_W_ballotOf : MethodName := ⟨"RopeVotes$Towers", "ballotOf", "(I)I"⟩
abbrev b_W_countCutOff : ByteArray := prog_6_method_3_code
def y_W_countCutOff : MethodName := ⟨"RopeVotes$Towers", "countCutOff", "()I"⟩
abbrev b_W_delayOf : ByteArray := prog_6_method_4_code
def y_W_delayOf : MethodName := ⟨"RopeVotes$Towers", "delayOf", "(I)I"⟩
abbrev b_V_init : ByteArray := prog_1_method_1_code
def y_V_init : MethodName := ⟨"RopeVotes", "<init>", "()V"⟩
abbrev b_V_putOn : ByteArray := prog_1_method_2_code
def y_V_putOn : MethodName := ⟨"RopeVotes", "putOn", "()I"⟩
abbrev b_V_takeOff : ByteArray := prog_1_method_3_code
def y_V_takeOff : MethodName := ⟨"RopeVotes", "takeOff", "(I)I"⟩
abbrev b_V_cars : ByteArray := prog_1_method_4_code
def y_V_cars : MethodName := ⟨"RopeVotes", "cars", "()I"⟩
abbrev b_V_place : ByteArray := prog_1_method_5_code
def y_V_place : MethodName := ⟨"RopeVotes", "place", "(I)I"⟩
abbrev b_V_placeByTurns : ByteArray := prog_1_method_6_code
def y_V_placeByTurns : MethodName := ⟨"RopeVotes", "placeByTurns", "(I)I"⟩
abbrev b_V_leastGap : ByteArray := prog_1_method_7_code
def y_V_leastGap : MethodName := ⟨"RopeVotes", "leastGap", "()I"⟩
abbrev b_V_wind : ByteArray := prog_1_method_8_code
def y_V_wind : MethodName := ⟨"RopeVotes", "wind", "(II)I"⟩
abbrev b_V_setLimits : ByteArray := prog_1_method_9_code
def y_V_setLimits : MethodName := ⟨"RopeVotes", "setLimits", "(III)I"⟩
abbrev b_V_cut : ByteArray := prog_1_method_10_code
def y_V_cut : MethodName := ⟨"RopeVotes", "cut", "(IZ)I"⟩
abbrev b_V_vote : ByteArray := prog_1_method_11_code
def y_V_vote : MethodName := ⟨"RopeVotes", "vote", "(I)I"⟩
abbrev b_V_voteTime : ByteArray := prog_1_method_12_code
def y_V_voteTime : MethodName := ⟨"RopeVotes", "voteTime", "(I)I"⟩
abbrev b_V_fresh : ByteArray := prog_1_method_13_code
def y_V_fresh : MethodName := ⟨"RopeVotes", "fresh", "()I"⟩
abbrev b_V_onTheWay : ByteArray := prog_1_method_14_code
def y_V_onTheWay : MethodName := ⟨"RopeVotes", "onTheWay", "()I"⟩
abbrev b_V_wouldDecide : ByteArray := prog_1_method_15_code
def y_V_wouldDecide : MethodName := ⟨"RopeVotes", "wouldDecide", "()I"⟩
abbrev b_V_hold : ByteArray := prog_1_method_16_code
def y_V_hold : MethodName := ⟨"RopeVotes", "hold", "(Z)Z"⟩
abbrev b_V_pass : ByteArray := prog_1_method_17_code
def y_V_pass : MethodName := ⟨"RopeVotes", "pass", "(I)I"⟩
abbrev b_V_time : ByteArray := prog_1_method_18_code
def y_V_time : MethodName := ⟨"RopeVotes", "time", "()I"⟩
abbrev b_V_moved : ByteArray := prog_1_method_19_code
def y_V_moved : MethodName := ⟨"RopeVotes", "moved", "()I"⟩
abbrev b_V_decided : ByteArray := prog_1_method_20_code
def y_V_decided : MethodName := ⟨"RopeVotes", "decided", "(I)I"⟩
abbrev b_V_minutes : ByteArray := prog_1_method_21_code
def y_V_minutes : MethodName := ⟨"RopeVotes", "minutes", "(I)I"⟩
abbrev b_V_board : ByteArray := prog_1_method_22_code
def y_V_board : MethodName := ⟨"RopeVotes", "board", "(III)I"⟩
abbrev b_V_people : ByteArray := prog_1_method_23_code
def y_V_people : MethodName := ⟨"RopeVotes", "people", "(I)I"⟩
abbrev b_V_arrived : ByteArray := prog_1_method_24_code
def y_V_arrived : MethodName := ⟨"RopeVotes", "arrived", "(I)I"⟩
abbrev b_V_hung : ByteArray := prog_1_method_25_code
def y_V_hung : MethodName := ⟨"RopeVotes", "hung", "(I)I"⟩
abbrev b_V_refund : ByteArray := prog_1_method_26_code
def y_V_refund : MethodName := ⟨"RopeVotes", "refund", "(I)I"⟩
abbrev b_V_refunds : ByteArray := prog_1_method_27_code
def y_V_refunds : MethodName := ⟨"RopeVotes", "refunds", "()I"⟩
abbrev b_V_passMinute : ByteArray := prog_1_method_28_code
def y_V_passMinute : MethodName := ⟨"RopeVotes", "passMinute", "()V"⟩
abbrev b_V_makeVotes : ByteArray := prog_1_method_29_code
def y_V_makeVotes : MethodName := ⟨"RopeVotes", "makeVotes", "()V"⟩
abbrev b_V_partsAt : ByteArray := prog_1_method_30_code
def y_V_partsAt : MethodName := ⟨"RopeVotes", "partsAt", "(I)I"⟩
abbrev b_V_isTower : ByteArray := prog_1_method_31_code
def y_V_isTower : MethodName := ⟨"RopeVotes", "isTower", "(I)Z"⟩
abbrev b_V_isInBottom : ByteArray := prog_1_method_32_code
def y_V_isInBottom : MethodName := ⟨"RopeVotes", "isInBottom", "(I)Z"⟩
abbrev b_V_isInStation : ByteArray := prog_1_method_33_code
def y_V_isInStation : MethodName := ⟨"RopeVotes", "isInStation", "(I)Z"⟩
abbrev b_V_gapBetween : ByteArray := prog_1_method_34_code
def y_V_gapBetween : MethodName := ⟨"RopeVotes", "gapBetween", "(II)I"⟩
abbrev b_A_low : ByteArray := method_2_code
def y_A_low : MethodName := ⟨"RopeVotesLaw", "low", "(II)I"⟩
abbrev b_A_cell : ByteArray := method_3_code
def y_A_cell : MethodName := ⟨"RopeVotesLaw", "cell", "([II)I"⟩
abbrev b_A_putOn : ByteArray := method_4_code
def y_A_putOn : MethodName := ⟨"RopeVotesLaw", "putOn", "(LRopeVotes;)I"⟩
abbrev b_A_takeOff : ByteArray := method_5_code
def y_A_takeOff : MethodName := ⟨"RopeVotesLaw", "takeOff", "(LRopeVotes;I)I"⟩
abbrev b_A_board : ByteArray := method_6_code
def y_A_board : MethodName := ⟨"RopeVotesLaw", "board", "(LRopeVotes;III)I"⟩
abbrev b_A_place : ByteArray := method_7_code
def y_A_place : MethodName := ⟨"RopeVotesLaw", "place", "(LRopeVotes;I)I"⟩
abbrev b_A_bits : ByteArray := method_8_code
def y_A_bits : MethodName := ⟨"RopeVotesLaw", "bits", "(I)I"⟩
abbrev b_A_votes : ByteArray := method_9_code
def y_A_votes : MethodName := ⟨"RopeVotesLaw", "votes", "(LRopeVotes;)Z"⟩
abbrev b_A_cars : ByteArray := method_10_code
def y_A_cars : MethodName := ⟨"RopeVotesLaw", "cars", "(LRopeVotes;I)Z"⟩
abbrev b_J_bitCount : ByteArray := prog_13_method_49_code
def y_J_bitCount : MethodName := ⟨"java/lang/Integer", "bitCount", "(I)I"⟩
abbrev b_J_floorMod : ByteArray := prog_14_method_50_code
def y_J_floorMod : MethodName := ⟨"java/lang/Math", "floorMod", "(II)I"⟩
theorem d_C_init_0 : decode b_C_init 0 = .ok (.aload_n 0, 1) := by decide +kernel
theorem d_C_init_1 : decode b_C_init 1 = .ok (.invokespecial 3, 3) := by decide +kernel
theorem d_C_init_4 : decode b_C_init 4 = .ok (.aload_n 0, 1) := by decide +kernel
theorem d_C_init_5 : decode b_C_init 5 = .ok (.bipush 7, 2) := by decide +kernel
theorem d_C_init_7 : decode b_C_init 7 = .ok (.newarray .int, 2) := by decide +kernel
theorem d_C_init_9 : decode b_C_init 9 = .ok (.putfield 9, 3) := by decide +kernel
theorem d_C_init_12 : decode b_C_init 12 = .ok (.aload_n 0, 1) := by decide +kernel
theorem d_C_init_13 : decode b_C_init 13 = .ok (.bipush 7, 2) := by decide +kernel
theorem d_C_init_15 : decode b_C_init 15 = .ok (.newarray .int, 2) := by decide +kernel
theorem d_C_init_17 : decode b_C_init 17 = .ok (.putfield 15, 3) := by decide +kernel
theorem d_C_init_20 : decode b_C_init 20 = .ok (.iconst 0, 1) := by decide +kernel
theorem d_C_init_21 : decode b_C_init 21 = .ok (.istore_n 1, 1) := by decide +kernel
theorem d_C_init_22 : decode b_C_init 22 = .ok (.iload_n 1, 1) := by decide +kernel
theorem d_C_init_23 : decode b_C_init 23 = .ok (.bipush 7, 2) := by decide +kernel
theorem d_C_init_25 : decode b_C_init 25 = .ok (.if_icmp .ge 23, 3) := by decide +kernel
theorem d_C_init_28 : decode b_C_init 28 = .ok (.aload_n 0, 1) := by decide +kernel
theorem d_C_init_29 : decode b_C_init 29 = .ok (.getfield 9, 3) := by decide +kernel
theorem d_C_init_32 : decode b_C_init 32 = .ok (.iload_n 1, 1) := by decide +kernel
theorem d_C_init_33 : decode b_C_init 33 = .ok (.iconst (-1), 1) := by decide +kernel
theorem d_C_init_34 : decode b_C_init 34 = .ok (.iastore, 1) := by decide +kernel
theorem d_C_init_35 : decode b_C_init 35 = .ok (.aload_n 0, 1) := by decide +kernel
theorem d_C_init_36 : decode b_C_init 36 = .ok (.getfield 15, 3) := by decide +kernel
theorem d_C_init_39 : decode b_C_init 39 = .ok (.iload_n 1, 1) := by decide +kernel
theorem d_C_init_40 : decode b_C_init 40 = .ok (.iconst (-1), 1) := by decide +kernel
theorem d_C_init_41 : decode b_C_init 41 = .ok (.iastore, 1) := by decide +kernel
theorem d_C_init_42 : decode b_C_init 42 = .ok (.iinc 1 1, 3) := by decide +kernel
theorem d_C_init_45 : decode b_C_init 45 = .ok (.goto (-23), 3) := by decide +kernel
theorem d_C_init_48 : decode b_C_init 48 = .ok (.return_, 1) := by decide +kernel
theorem d_C_take_0 : decode b_C_take 0 = .ok (.iload_n 3, 1) := by decide +kernel
theorem d_C_take_1 : decode b_C_take 1 = .ok (.aload_n 0, 1) := by decide +kernel
theorem d_C_take_2 : decode b_C_take 2 = .ok (.getfield 15, 3) := by decide +kernel
theorem d_C_take_5 : decode b_C_take 5 = .ok (.iload_n 1, 1) := by decide +kernel
theorem d_C_take_6 : decode b_C_take 6 = .ok (.iaload, 1) := by decide +kernel
theorem d_C_take_7 : decode b_C_take 7 = .ok (.if_icmp .le 17, 3) := by decide +kernel
theorem d_C_take_10 : decode b_C_take 10 = .ok (.aload_n 0, 1) := by decide +kernel
theorem d_C_take_11 : decode b_C_take 11 = .ok (.getfield 9, 3) := by decide +kernel
theorem d_C_take_14 : decode b_C_take 14 = .ok (.iload_n 1, 1) := by decide +kernel
theorem d_C_take_15 : decode b_C_take 15 = .ok (.iload_n 2, 1) := by decide +kernel
theorem d_C_take_16 : decode b_C_take 16 = .ok (.iastore, 1) := by decide +kernel
theorem d_C_take_17 : decode b_C_take 17 = .ok (.aload_n 0, 1) := by decide +kernel
theorem d_C_take_18 : decode b_C_take 18 = .ok (.getfield 15, 3) := by decide +kernel
theorem d_C_take_21 : decode b_C_take 21 = .ok (.iload_n 1, 1) := by decide +kernel
theorem d_C_take_22 : decode b_C_take 22 = .ok (.iload_n 3, 1) := by decide +kernel
theorem d_C_take_23 : decode b_C_take 23 = .ok (.iastore, 1) := by decide +kernel
theorem d_C_take_24 : decode b_C_take 24 = .ok (.return_, 1) := by decide +kernel
theorem d_C_isFresh_0 : decode b_C_isFresh 0 = .ok (.aload_n 0, 1) := by decide +kernel
theorem d_C_isFresh_1 : decode b_C_isFresh 1 = .ok (.getfield 15, 3) := by decide +kernel
theorem d_C_isFresh_4 : decode b_C_isFresh 4 = .ok (.iload_n 1, 1) := by decide +kernel
theorem d_C_isFresh_5 : decode b_C_isFresh 5 = .ok (.iaload, 1) := by decide +kernel
theorem d_C_isFresh_6 : decode b_C_isFresh 6 = .ok (.iconst (-1), 1) := by decide +kernel
theorem d_C_isFresh_7 : decode b_C_isFresh 7 = .ok (.if_icmp .eq 19, 3) := by decide +kernel
theorem d_C_isFresh_10 : decode b_C_isFresh 10 = .ok (.iload_n 2, 1) := by decide +kernel
theorem d_C_isFresh_11 : decode b_C_isFresh 11 = .ok (.aload_n 0, 1) := by decide +kernel
theorem d_C_isFresh_12 : decode b_C_isFresh 12 = .ok (.getfield 15, 3) := by decide +kernel
theorem d_C_isFresh_15 : decode b_C_isFresh 15 = .ok (.iload_n 1, 1) := by decide +kernel
theorem d_C_isFresh_16 : decode b_C_isFresh 16 = .ok (.iaload, 1) := by decide +kernel
theorem d_C_isFresh_17 : decode b_C_isFresh 17 = .ok (.isub, 1) := by decide +kernel
theorem d_C_isFresh_18 : decode b_C_isFresh 18 = .ok (.iconst 3, 1) := by decide +kernel
theorem d_C_isFresh_19 : decode b_C_isFresh 19 = .ok (.if_icmp .gt 7, 3) := by decide +kernel
theorem d_C_isFresh_22 : decode b_C_isFresh 22 = .ok (.iconst 1, 1) := by decide +kernel
theorem d_C_isFresh_23 : decode b_C_isFresh 23 = .ok (.goto 4, 3) := by decide +kernel
theorem d_C_isFresh_26 : decode b_C_isFresh 26 = .ok (.iconst 0, 1) := by decide +kernel
theorem d_C_isFresh_27 : decode b_C_isFresh 27 = .ok (.ireturn, 1) := by decide +kernel
theorem d_C_freshSet_0 : decode b_C_freshSet 0 = .ok (.iconst 0, 1) := by decide +kernel
theorem d_C_freshSet_1 : decode b_C_freshSet 1 = .ok (.istore_n 2, 1) := by decide +kernel
theorem d_C_freshSet_2 : decode b_C_freshSet 2 = .ok (.iconst 0, 1) := by decide +kernel
theorem d_C_freshSet_3 : decode b_C_freshSet 3 = .ok (.istore_n 3, 1) := by decide +kernel
theorem d_C_freshSet_4 : decode b_C_freshSet 4 = .ok (.iload_n 3, 1) := by decide +kernel
theorem d_C_freshSet_5 : decode b_C_freshSet 5 = .ok (.bipush 7, 2) := by decide +kernel
theorem d_C_freshSet_7 : decode b_C_freshSet 7 = .ok (.if_icmp .ge 24, 3) := by decide +kernel
theorem d_C_freshSet_10 : decode b_C_freshSet 10 = .ok (.aload_n 0, 1) := by decide +kernel
theorem d_C_freshSet_11 : decode b_C_freshSet 11 = .ok (.iload_n 3, 1) := by decide +kernel
theorem d_C_freshSet_12 : decode b_C_freshSet 12 = .ok (.iload_n 1, 1) := by decide +kernel
theorem d_C_freshSet_13 : decode b_C_freshSet 13 = .ok (.invokevirtual 18, 3) := by decide +kernel
theorem d_C_freshSet_16 : decode b_C_freshSet 16 = .ok (.ifCond .eq 9, 3) := by decide +kernel
theorem d_C_freshSet_19 : decode b_C_freshSet 19 = .ok (.iload_n 2, 1) := by decide +kernel
theorem d_C_freshSet_20 : decode b_C_freshSet 20 = .ok (.iconst 1, 1) := by decide +kernel
theorem d_C_freshSet_21 : decode b_C_freshSet 21 = .ok (.iload_n 3, 1) := by decide +kernel
theorem d_C_freshSet_22 : decode b_C_freshSet 22 = .ok (.ishl, 1) := by decide +kernel
theorem d_C_freshSet_23 : decode b_C_freshSet 23 = .ok (.ior, 1) := by decide +kernel
theorem d_C_freshSet_24 : decode b_C_freshSet 24 = .ok (.istore_n 2, 1) := by decide +kernel
theorem d_C_freshSet_25 : decode b_C_freshSet 25 = .ok (.iinc 3 1, 3) := by decide +kernel
theorem d_C_freshSet_28 : decode b_C_freshSet 28 = .ok (.goto (-24), 3) := by decide +kernel
theorem d_C_freshSet_31 : decode b_C_freshSet 31 = .ok (.iload_n 2, 1) := by decide +kernel
theorem d_C_freshSet_32 : decode b_C_freshSet 32 = .ok (.ireturn, 1) := by decide +kernel
theorem d_C_countFresh_0 : decode b_C_countFresh 0 = .ok (.iconst 0, 1) := by decide +kernel
theorem d_C_countFresh_1 : decode b_C_countFresh 1 = .ok (.istore_n 3, 1) := by decide +kernel
theorem d_C_countFresh_2 : decode b_C_countFresh 2 = .ok (.iconst 0, 1) := by decide +kernel
theorem d_C_countFresh_3 : decode b_C_countFresh 3 = .ok (.istore 4, 2) := by decide +kernel
theorem d_C_countFresh_5 : decode b_C_countFresh 5 = .ok (.iload 4, 2) := by decide +kernel
theorem d_C_countFresh_7 : decode b_C_countFresh 7 = .ok (.bipush 7, 2) := by decide +kernel
theorem d_C_countFresh_9 : decode b_C_countFresh 9 = .ok (.if_icmp .ge 33, 3) := by decide +kernel
theorem d_C_countFresh_12 : decode b_C_countFresh 12 = .ok (.aload_n 0, 1) := by decide +kernel
theorem d_C_countFresh_13 : decode b_C_countFresh 13 = .ok (.getfield 9, 3) := by decide +kernel
theorem d_C_countFresh_16 : decode b_C_countFresh 16 = .ok (.iload 4, 2) := by decide +kernel
theorem d_C_countFresh_18 : decode b_C_countFresh 18 = .ok (.iaload, 1) := by decide +kernel
theorem d_C_countFresh_19 : decode b_C_countFresh 19 = .ok (.iload_n 1, 1) := by decide +kernel
theorem d_C_countFresh_20 : decode b_C_countFresh 20 = .ok (.if_icmp .ne 16, 3) := by decide +kernel
theorem d_C_countFresh_23 : decode b_C_countFresh 23 = .ok (.aload_n 0, 1) := by decide +kernel
theorem d_C_countFresh_24 : decode b_C_countFresh 24 = .ok (.iload 4, 2) := by decide +kernel
theorem d_C_countFresh_26 : decode b_C_countFresh 26 = .ok (.iload_n 2, 1) := by decide +kernel
theorem d_C_countFresh_27 : decode b_C_countFresh 27 = .ok (.invokevirtual 18, 3) := by decide +kernel
theorem d_C_countFresh_30 : decode b_C_countFresh 30 = .ok (.ifCond .eq 6, 3) := by decide +kernel
theorem d_C_countFresh_33 : decode b_C_countFresh 33 = .ok (.iinc 3 1, 3) := by decide +kernel
theorem d_C_countFresh_36 : decode b_C_countFresh 36 = .ok (.iinc 4 1, 3) := by decide +kernel
theorem d_C_countFresh_39 : decode b_C_countFresh 39 = .ok (.goto (-34), 3) := by decide +kernel
theorem d_C_countFresh_42 : decode b_C_countFresh 42 = .ok (.iload_n 3, 1) := by decide +kernel
theorem d_C_countFresh_43 : decode b_C_countFresh 43 = .ok (.ireturn, 1) := by decide +kernel
theorem d_C_speedByVotes_0 : decode b_C_speedByVotes 0 = .ok (.aload_n 0, 1) := by decide +kernel
theorem d_C_speedByVotes_1 : decode b_C_speedByVotes 1 = .ok (.iconst 2, 1) := by decide +kernel
theorem d_C_speedByVotes_2 : decode b_C_speedByVotes 2 = .ok (.iload_n 1, 1) := by decide +kernel
theorem d_C_speedByVotes_3 : decode b_C_speedByVotes 3 = .ok (.invokevirtual 22, 3) := by decide +kernel
theorem d_C_speedByVotes_6 : decode b_C_speedByVotes 6 = .ok (.istore_n 2, 1) := by decide +kernel
theorem d_C_speedByVotes_7 : decode b_C_speedByVotes 7 = .ok (.aload_n 0, 1) := by decide +kernel
theorem d_C_speedByVotes_8 : decode b_C_speedByVotes 8 = .ok (.iconst 1, 1) := by decide +kernel
theorem d_C_speedByVotes_9 : decode b_C_speedByVotes 9 = .ok (.iload_n 1, 1) := by decide +kernel
theorem d_C_speedByVotes_10 : decode b_C_speedByVotes 10 = .ok (.invokevirtual 22, 3) := by decide +kernel
theorem d_C_speedByVotes_13 : decode b_C_speedByVotes 13 = .ok (.istore_n 3, 1) := by decide +kernel
theorem d_C_speedByVotes_14 : decode b_C_speedByVotes 14 = .ok (.aload_n 0, 1) := by decide +kernel
theorem d_C_speedByVotes_15 : decode b_C_speedByVotes 15 = .ok (.iconst 0, 1) := by decide +kernel
theorem d_C_speedByVotes_16 : decode b_C_speedByVotes 16 = .ok (.iload_n 1, 1) := by decide +kernel
theorem d_C_speedByVotes_17 : decode b_C_speedByVotes 17 = .ok (.invokevirtual 22, 3) := by decide +kernel
theorem d_C_speedByVotes_20 : decode b_C_speedByVotes 20 = .ok (.istore 4, 2) := by decide +kernel
theorem d_C_speedByVotes_22 : decode b_C_speedByVotes 22 = .ok (.iload_n 2, 1) := by decide +kernel
theorem d_C_speedByVotes_23 : decode b_C_speedByVotes 23 = .ok (.iconst 4, 1) := by decide +kernel
theorem d_C_speedByVotes_24 : decode b_C_speedByVotes 24 = .ok (.if_icmp .lt 10, 3) := by decide +kernel
theorem d_C_speedByVotes_27 : decode b_C_speedByVotes 27 = .ok (.iload 4, 2) := by decide +kernel
theorem d_C_speedByVotes_29 : decode b_C_speedByVotes 29 = .ok (.ifCond .ne 5, 3) := by decide +kernel
theorem d_C_speedByVotes_32 : decode b_C_speedByVotes 32 = .ok (.iconst 2, 1) := by decide +kernel
theorem d_C_speedByVotes_33 : decode b_C_speedByVotes 33 = .ok (.ireturn, 1) := by decide +kernel
theorem d_C_speedByVotes_34 : decode b_C_speedByVotes 34 = .ok (.iload_n 2, 1) := by decide +kernel
theorem d_C_speedByVotes_35 : decode b_C_speedByVotes 35 = .ok (.iload_n 3, 1) := by decide +kernel
theorem d_C_speedByVotes_36 : decode b_C_speedByVotes 36 = .ok (.iadd, 1) := by decide +kernel
theorem d_C_speedByVotes_37 : decode b_C_speedByVotes 37 = .ok (.iconst 4, 1) := by decide +kernel
theorem d_C_speedByVotes_38 : decode b_C_speedByVotes 38 = .ok (.if_icmp .lt 13, 3) := by decide +kernel
theorem d_C_speedByVotes_41 : decode b_C_speedByVotes 41 = .ok (.iload 4, 2) := by decide +kernel
theorem d_C_speedByVotes_43 : decode b_C_speedByVotes 43 = .ok (.iconst 1, 1) := by decide +kernel
theorem d_C_speedByVotes_44 : decode b_C_speedByVotes 44 = .ok (.if_icmp .gt 7, 3) := by decide +kernel
theorem d_C_speedByVotes_47 : decode b_C_speedByVotes 47 = .ok (.iconst 1, 1) := by decide +kernel
theorem d_C_speedByVotes_48 : decode b_C_speedByVotes 48 = .ok (.goto 4, 3) := by decide +kernel
theorem d_C_speedByVotes_51 : decode b_C_speedByVotes 51 = .ok (.iconst 0, 1) := by decide +kernel
theorem d_C_speedByVotes_52 : decode b_C_speedByVotes 52 = .ok (.ireturn, 1) := by decide +kernel
theorem d_L_init_0 : decode b_L_init 0 = .ok (.aload_n 0, 1) := by decide +kernel
theorem d_L_init_1 : decode b_L_init 1 = .ok (.invokespecial 3, 3) := by decide +kernel
theorem d_L_init_4 : decode b_L_init 4 = .ok (.aload_n 0, 1) := by decide +kernel
theorem d_L_init_5 : decode b_L_init 5 = .ok (.bipush 16, 2) := by decide +kernel
theorem d_L_init_7 : decode b_L_init 7 = .ok (.newarray .int, 2) := by decide +kernel
theorem d_L_init_9 : decode b_L_init 9 = .ok (.putfield 9, 3) := by decide +kernel
theorem d_L_init_12 : decode b_L_init 12 = .ok (.aload_n 0, 1) := by decide +kernel
theorem d_L_init_13 : decode b_L_init 13 = .ok (.bipush 16, 2) := by decide +kernel
theorem d_L_init_15 : decode b_L_init 15 = .ok (.newarray .int, 2) := by decide +kernel
theorem d_L_init_17 : decode b_L_init 17 = .ok (.putfield 15, 3) := by decide +kernel
theorem d_L_init_20 : decode b_L_init 20 = .ok (.aload_n 0, 1) := by decide +kernel
theorem d_L_init_21 : decode b_L_init 21 = .ok (.bipush 16, 2) := by decide +kernel
theorem d_L_init_23 : decode b_L_init 23 = .ok (.newarray .boolean, 2) := by decide +kernel
theorem d_L_init_25 : decode b_L_init 25 = .ok (.putfield 18, 3) := by decide +kernel
theorem d_L_init_28 : decode b_L_init 28 = .ok (.aload_n 0, 1) := by decide +kernel
theorem d_L_init_29 : decode b_L_init 29 = .ok (.iconst 0, 1) := by decide +kernel
theorem d_L_init_30 : decode b_L_init 30 = .ok (.putfield 22, 3) := by decide +kernel
theorem d_L_init_33 : decode b_L_init 33 = .ok (.return_, 1) := by decide +kernel
theorem d_L_has_0 : decode b_L_has 0 = .ok (.iload_n 1, 1) := by decide +kernel
theorem d_L_has_1 : decode b_L_has 1 = .ok (.ifCond .lt 22, 3) := by decide +kernel
theorem d_L_has_4 : decode b_L_has 4 = .ok (.iload_n 1, 1) := by decide +kernel
theorem d_L_has_5 : decode b_L_has 5 = .ok (.bipush 16, 2) := by decide +kernel
theorem d_L_has_7 : decode b_L_has 7 = .ok (.if_icmp .ge 16, 3) := by decide +kernel
theorem d_L_has_10 : decode b_L_has 10 = .ok (.aload_n 0, 1) := by decide +kernel
theorem d_L_has_11 : decode b_L_has 11 = .ok (.getfield 18, 3) := by decide +kernel
theorem d_L_has_14 : decode b_L_has 14 = .ok (.iload_n 1, 1) := by decide +kernel
theorem d_L_has_15 : decode b_L_has 15 = .ok (.baload, 1) := by decide +kernel
theorem d_L_has_16 : decode b_L_has 16 = .ok (.ifCond .eq 7, 3) := by decide +kernel
theorem d_L_has_19 : decode b_L_has 19 = .ok (.iconst 1, 1) := by decide +kernel
theorem d_L_has_20 : decode b_L_has 20 = .ok (.goto 4, 3) := by decide +kernel
theorem d_L_has_23 : decode b_L_has 23 = .ok (.iconst 0, 1) := by decide +kernel
theorem d_L_has_24 : decode b_L_has 24 = .ok (.ireturn, 1) := by decide +kernel
theorem d_L_canStart_0 : decode b_L_canStart 0 = .ok (.aload_n 0, 1) := by decide +kernel
theorem d_L_canStart_1 : decode b_L_canStart 1 = .ok (.getfield 22, 3) := by decide +kernel
theorem d_L_canStart_4 : decode b_L_canStart 4 = .ok (.bipush 16, 2) := by decide +kernel
theorem d_L_canStart_6 : decode b_L_canStart 6 = .ok (.if_icmp .lt 5, 3) := by decide +kernel
theorem d_L_canStart_9 : decode b_L_canStart 9 = .ok (.iconst 0, 1) := by decide +kernel
theorem d_L_canStart_10 : decode b_L_canStart 10 = .ok (.ireturn, 1) := by decide +kernel
theorem d_L_canStart_11 : decode b_L_canStart 11 = .ok (.iconst 0, 1) := by decide +kernel
theorem d_L_canStart_12 : decode b_L_canStart 12 = .ok (.istore_n 1, 1) := by decide +kernel
theorem d_L_canStart_13 : decode b_L_canStart 13 = .ok (.iload_n 1, 1) := by decide +kernel
theorem d_L_canStart_14 : decode b_L_canStart 14 = .ok (.bipush 16, 2) := by decide +kernel
theorem d_L_canStart_16 : decode b_L_canStart 16 = .ok (.if_icmp .ge 35, 3) := by decide +kernel
theorem d_L_canStart_19 : decode b_L_canStart 19 = .ok (.aload_n 0, 1) := by decide +kernel
theorem d_L_canStart_20 : decode b_L_canStart 20 = .ok (.getfield 18, 3) := by decide +kernel
theorem d_L_canStart_23 : decode b_L_canStart 23 = .ok (.iload_n 1, 1) := by decide +kernel
theorem d_L_canStart_24 : decode b_L_canStart 24 = .ok (.baload, 1) := by decide +kernel
theorem d_L_canStart_25 : decode b_L_canStart 25 = .ok (.ifCond .eq 20, 3) := by decide +kernel
theorem d_L_canStart_28 : decode b_L_canStart 28 = .ok (.aload_n 0, 1) := by decide +kernel
theorem d_L_canStart_29 : decode b_L_canStart 29 = .ok (.getfield 9, 3) := by decide +kernel
theorem d_L_canStart_32 : decode b_L_canStart 32 = .ok (.iload_n 1, 1) := by decide +kernel
theorem d_L_canStart_33 : decode b_L_canStart 33 = .ok (.iaload, 1) := by decide +kernel
theorem d_L_canStart_34 : decode b_L_canStart 34 = .ok (.iconst 0, 1) := by decide +kernel
theorem d_L_canStart_35 : decode b_L_canStart 35 = .ok (.invokestatic 26, 3) := by decide +kernel
theorem d_L_canStart_38 : decode b_L_canStart 38 = .ok (.bipush 60, 2) := by decide +kernel
theorem d_L_canStart_40 : decode b_L_canStart 40 = .ok (.if_icmp .ge 5, 3) := by decide +kernel
theorem d_L_canStart_43 : decode b_L_canStart 43 = .ok (.iconst 0, 1) := by decide +kernel
theorem d_L_canStart_44 : decode b_L_canStart 44 = .ok (.ireturn, 1) := by decide +kernel
theorem d_L_canStart_45 : decode b_L_canStart 45 = .ok (.iinc 1 1, 3) := by decide +kernel
theorem d_L_canStart_48 : decode b_L_canStart 48 = .ok (.goto (-35), 3) := by decide +kernel
theorem d_L_canStart_51 : decode b_L_canStart 51 = .ok (.iconst 1, 1) := by decide +kernel
theorem d_L_canStart_52 : decode b_L_canStart 52 = .ok (.ireturn, 1) := by decide +kernel
theorem d_L_start_0 : decode b_L_start 0 = .ok (.aload_n 0, 1) := by decide +kernel
theorem d_L_start_1 : decode b_L_start 1 = .ok (.getfield 22, 3) := by decide +kernel
theorem d_L_start_4 : decode b_L_start 4 = .ok (.istore_n 2, 1) := by decide +kernel
theorem d_L_start_5 : decode b_L_start 5 = .ok (.iload_n 2, 1) := by decide +kernel
theorem d_L_start_6 : decode b_L_start 6 = .ok (.bipush 16, 2) := by decide +kernel
theorem d_L_start_8 : decode b_L_start 8 = .ok (.if_icmp .ge 34, 3) := by decide +kernel
theorem d_L_start_11 : decode b_L_start 11 = .ok (.aload_n 0, 1) := by decide +kernel
theorem d_L_start_12 : decode b_L_start 12 = .ok (.dup, 1) := by decide +kernel
theorem d_L_start_13 : decode b_L_start 13 = .ok (.getfield 22, 3) := by decide +kernel
theorem d_L_start_16 : decode b_L_start 16 = .ok (.iconst 1, 1) := by decide +kernel
theorem d_L_start_17 : decode b_L_start 17 = .ok (.iadd, 1) := by decide +kernel
theorem d_L_start_18 : decode b_L_start 18 = .ok (.putfield 22, 3) := by decide +kernel
theorem d_L_start_21 : decode b_L_start 21 = .ok (.aload_n 0, 1) := by decide +kernel
theorem d_L_start_22 : decode b_L_start 22 = .ok (.getfield 9, 3) := by decide +kernel
theorem d_L_start_25 : decode b_L_start 25 = .ok (.iload_n 2, 1) := by decide +kernel
theorem d_L_start_26 : decode b_L_start 26 = .ok (.iconst 0, 1) := by decide +kernel
theorem d_L_start_27 : decode b_L_start 27 = .ok (.iastore, 1) := by decide +kernel
theorem d_L_start_28 : decode b_L_start 28 = .ok (.aload_n 0, 1) := by decide +kernel
theorem d_L_start_29 : decode b_L_start 29 = .ok (.getfield 15, 3) := by decide +kernel
theorem d_L_start_32 : decode b_L_start 32 = .ok (.iload_n 2, 1) := by decide +kernel
theorem d_L_start_33 : decode b_L_start 33 = .ok (.iload_n 1, 1) := by decide +kernel
theorem d_L_start_34 : decode b_L_start 34 = .ok (.iastore, 1) := by decide +kernel
theorem d_L_start_35 : decode b_L_start 35 = .ok (.aload_n 0, 1) := by decide +kernel
theorem d_L_start_36 : decode b_L_start 36 = .ok (.getfield 18, 3) := by decide +kernel
theorem d_L_start_39 : decode b_L_start 39 = .ok (.iload_n 2, 1) := by decide +kernel
theorem d_L_start_40 : decode b_L_start 40 = .ok (.iconst 1, 1) := by decide +kernel
theorem d_L_start_41 : decode b_L_start 41 = .ok (.bastore, 1) := by decide +kernel
theorem d_L_start_42 : decode b_L_start 42 = .ok (.iload_n 2, 1) := by decide +kernel
theorem d_L_start_43 : decode b_L_start 43 = .ok (.ireturn, 1) := by decide +kernel
theorem d_L_countOn_0 : decode b_L_countOn 0 = .ok (.iconst 0, 1) := by decide +kernel
theorem d_L_countOn_1 : decode b_L_countOn 1 = .ok (.istore_n 1, 1) := by decide +kernel
theorem d_L_countOn_2 : decode b_L_countOn 2 = .ok (.iconst 0, 1) := by decide +kernel
theorem d_L_countOn_3 : decode b_L_countOn 3 = .ok (.istore_n 2, 1) := by decide +kernel
theorem d_L_countOn_4 : decode b_L_countOn 4 = .ok (.iload_n 2, 1) := by decide +kernel
theorem d_L_countOn_5 : decode b_L_countOn 5 = .ok (.bipush 16, 2) := by decide +kernel
theorem d_L_countOn_7 : decode b_L_countOn 7 = .ok (.if_icmp .ge 21, 3) := by decide +kernel
theorem d_L_countOn_10 : decode b_L_countOn 10 = .ok (.aload_n 0, 1) := by decide +kernel
theorem d_L_countOn_11 : decode b_L_countOn 11 = .ok (.getfield 18, 3) := by decide +kernel
theorem d_L_countOn_14 : decode b_L_countOn 14 = .ok (.iload_n 2, 1) := by decide +kernel
theorem d_L_countOn_15 : decode b_L_countOn 15 = .ok (.baload, 1) := by decide +kernel
theorem d_L_countOn_16 : decode b_L_countOn 16 = .ok (.ifCond .eq 6, 3) := by decide +kernel
theorem d_L_countOn_19 : decode b_L_countOn 19 = .ok (.iinc 1 1, 3) := by decide +kernel
theorem d_L_countOn_22 : decode b_L_countOn 22 = .ok (.iinc 2 1, 3) := by decide +kernel
theorem d_L_countOn_25 : decode b_L_countOn 25 = .ok (.goto (-21), 3) := by decide +kernel
theorem d_L_countOn_28 : decode b_L_countOn 28 = .ok (.iload_n 1, 1) := by decide +kernel
theorem d_L_countOn_29 : decode b_L_countOn 29 = .ok (.ireturn, 1) := by decide +kernel
theorem d_L_leastGapOfPairs_0 : decode b_L_leastGapOfPairs 0 = .ok (.iconst (-1), 1) := by decide +kernel
theorem d_L_leastGapOfPairs_1 : decode b_L_leastGapOfPairs 1 = .ok (.istore_n 1, 1) := by decide +kernel
theorem d_L_leastGapOfPairs_2 : decode b_L_leastGapOfPairs 2 = .ok (.iconst 0, 1) := by decide +kernel
theorem d_L_leastGapOfPairs_3 : decode b_L_leastGapOfPairs 3 = .ok (.istore_n 2, 1) := by decide +kernel
theorem d_L_leastGapOfPairs_4 : decode b_L_leastGapOfPairs 4 = .ok (.iload_n 2, 1) := by decide +kernel
theorem d_L_leastGapOfPairs_5 : decode b_L_leastGapOfPairs 5 = .ok (.bipush 16, 2) := by decide +kernel
theorem d_L_leastGapOfPairs_7 : decode b_L_leastGapOfPairs 7 = .ok (.if_icmp .ge 74, 3) := by decide +kernel
theorem d_L_leastGapOfPairs_10 : decode b_L_leastGapOfPairs 10 = .ok (.iconst 0, 1) := by decide +kernel
theorem d_L_leastGapOfPairs_11 : decode b_L_leastGapOfPairs 11 = .ok (.istore_n 3, 1) := by decide +kernel
theorem d_L_leastGapOfPairs_12 : decode b_L_leastGapOfPairs 12 = .ok (.iload_n 3, 1) := by decide +kernel
theorem d_L_leastGapOfPairs_13 : decode b_L_leastGapOfPairs 13 = .ok (.iload_n 2, 1) := by decide +kernel
theorem d_L_leastGapOfPairs_14 : decode b_L_leastGapOfPairs 14 = .ok (.if_icmp .ge 61, 3) := by decide +kernel
theorem d_L_leastGapOfPairs_17 : decode b_L_leastGapOfPairs 17 = .ok (.aload_n 0, 1) := by decide +kernel
theorem d_L_leastGapOfPairs_18 : decode b_L_leastGapOfPairs 18 = .ok (.getfield 18, 3) := by decide +kernel
theorem d_L_leastGapOfPairs_21 : decode b_L_leastGapOfPairs 21 = .ok (.iload_n 2, 1) := by decide +kernel
theorem d_L_leastGapOfPairs_22 : decode b_L_leastGapOfPairs 22 = .ok (.baload, 1) := by decide +kernel
theorem d_L_leastGapOfPairs_23 : decode b_L_leastGapOfPairs 23 = .ok (.ifCond .eq 46, 3) := by decide +kernel
theorem d_L_leastGapOfPairs_26 : decode b_L_leastGapOfPairs 26 = .ok (.aload_n 0, 1) := by decide +kernel
theorem d_L_leastGapOfPairs_27 : decode b_L_leastGapOfPairs 27 = .ok (.getfield 18, 3) := by decide +kernel
theorem d_L_leastGapOfPairs_30 : decode b_L_leastGapOfPairs 30 = .ok (.iload_n 3, 1) := by decide +kernel
theorem d_L_leastGapOfPairs_31 : decode b_L_leastGapOfPairs 31 = .ok (.baload, 1) := by decide +kernel
theorem d_L_leastGapOfPairs_32 : decode b_L_leastGapOfPairs 32 = .ok (.ifCond .eq 37, 3) := by decide +kernel
theorem d_L_leastGapOfPairs_35 : decode b_L_leastGapOfPairs 35 = .ok (.aload_n 0, 1) := by decide +kernel
theorem d_L_leastGapOfPairs_36 : decode b_L_leastGapOfPairs 36 = .ok (.getfield 9, 3) := by decide +kernel
theorem d_L_leastGapOfPairs_39 : decode b_L_leastGapOfPairs 39 = .ok (.iload_n 2, 1) := by decide +kernel
theorem d_L_leastGapOfPairs_40 : decode b_L_leastGapOfPairs 40 = .ok (.iaload, 1) := by decide +kernel
theorem d_L_leastGapOfPairs_41 : decode b_L_leastGapOfPairs 41 = .ok (.aload_n 0, 1) := by decide +kernel
theorem d_L_leastGapOfPairs_42 : decode b_L_leastGapOfPairs 42 = .ok (.getfield 9, 3) := by decide +kernel
theorem d_L_leastGapOfPairs_45 : decode b_L_leastGapOfPairs 45 = .ok (.iload_n 3, 1) := by decide +kernel
theorem d_L_leastGapOfPairs_46 : decode b_L_leastGapOfPairs 46 = .ok (.iaload, 1) := by decide +kernel
theorem d_L_leastGapOfPairs_47 : decode b_L_leastGapOfPairs 47 = .ok (.invokestatic 26, 3) := by decide +kernel
theorem d_L_leastGapOfPairs_50 : decode b_L_leastGapOfPairs 50 = .ok (.istore 4, 2) := by decide +kernel
theorem d_L_leastGapOfPairs_52 : decode b_L_leastGapOfPairs 52 = .ok (.iload_n 1, 1) := by decide +kernel
theorem d_L_leastGapOfPairs_53 : decode b_L_leastGapOfPairs 53 = .ok (.iconst (-1), 1) := by decide +kernel
theorem d_L_leastGapOfPairs_54 : decode b_L_leastGapOfPairs 54 = .ok (.if_icmp .ne 8, 3) := by decide +kernel
theorem d_L_leastGapOfPairs_57 : decode b_L_leastGapOfPairs 57 = .ok (.iload 4, 2) := by decide +kernel
theorem d_L_leastGapOfPairs_59 : decode b_L_leastGapOfPairs 59 = .ok (.goto 9, 3) := by decide +kernel
theorem d_L_leastGapOfPairs_62 : decode b_L_leastGapOfPairs 62 = .ok (.iload_n 1, 1) := by decide +kernel
theorem d_L_leastGapOfPairs_63 : decode b_L_leastGapOfPairs 63 = .ok (.iload 4, 2) := by decide +kernel
theorem d_L_leastGapOfPairs_65 : decode b_L_leastGapOfPairs 65 = .ok (.invokestatic 30, 3) := by decide +kernel
theorem d_L_leastGapOfPairs_68 : decode b_L_leastGapOfPairs 68 = .ok (.istore_n 1, 1) := by decide +kernel
theorem d_L_leastGapOfPairs_69 : decode b_L_leastGapOfPairs 69 = .ok (.iinc 3 1, 3) := by decide +kernel
theorem d_L_leastGapOfPairs_72 : decode b_L_leastGapOfPairs 72 = .ok (.goto (-60), 3) := by decide +kernel
theorem d_L_leastGapOfPairs_75 : decode b_L_leastGapOfPairs 75 = .ok (.iinc 2 1, 3) := by decide +kernel
theorem d_L_leastGapOfPairs_78 : decode b_L_leastGapOfPairs 78 = .ok (.goto (-74), 3) := by decide +kernel
theorem d_L_leastGapOfPairs_81 : decode b_L_leastGapOfPairs 81 = .ok (.iload_n 1, 1) := by decide +kernel
theorem d_L_leastGapOfPairs_82 : decode b_L_leastGapOfPairs 82 = .ok (.ireturn, 1) := by decide +kernel
theorem d_L_move_0 : decode b_L_move 0 = .ok (.iconst 0, 1) := by decide +kernel
theorem d_L_move_1 : decode b_L_move 1 = .ok (.istore_n 2, 1) := by decide +kernel
theorem d_L_move_2 : decode b_L_move 2 = .ok (.iload_n 2, 1) := by decide +kernel
theorem d_L_move_3 : decode b_L_move 3 = .ok (.bipush 16, 2) := by decide +kernel
theorem d_L_move_5 : decode b_L_move 5 = .ok (.if_icmp .ge 36, 3) := by decide +kernel
theorem d_L_move_8 : decode b_L_move 8 = .ok (.aload_n 0, 1) := by decide +kernel
theorem d_L_move_9 : decode b_L_move 9 = .ok (.getfield 18, 3) := by decide +kernel
theorem d_L_move_12 : decode b_L_move 12 = .ok (.iload_n 2, 1) := by decide +kernel
theorem d_L_move_13 : decode b_L_move 13 = .ok (.baload, 1) := by decide +kernel
theorem d_L_move_14 : decode b_L_move 14 = .ok (.ifCond .eq 21, 3) := by decide +kernel
theorem d_L_move_17 : decode b_L_move 17 = .ok (.aload_n 0, 1) := by decide +kernel
theorem d_L_move_18 : decode b_L_move 18 = .ok (.getfield 9, 3) := by decide +kernel
theorem d_L_move_21 : decode b_L_move 21 = .ok (.iload_n 2, 1) := by decide +kernel
theorem d_L_move_22 : decode b_L_move 22 = .ok (.aload_n 0, 1) := by decide +kernel
theorem d_L_move_23 : decode b_L_move 23 = .ok (.getfield 9, 3) := by decide +kernel
theorem d_L_move_26 : decode b_L_move 26 = .ok (.iload_n 2, 1) := by decide +kernel
theorem d_L_move_27 : decode b_L_move 27 = .ok (.iaload, 1) := by decide +kernel
theorem d_L_move_28 : decode b_L_move 28 = .ok (.iload_n 1, 1) := by decide +kernel
theorem d_L_move_29 : decode b_L_move 29 = .ok (.iadd, 1) := by decide +kernel
theorem d_L_move_30 : decode b_L_move 30 = .ok (.sipush 1200, 3) := by decide +kernel
theorem d_L_move_33 : decode b_L_move 33 = .ok (.irem, 1) := by decide +kernel
theorem d_L_move_34 : decode b_L_move 34 = .ok (.iastore, 1) := by decide +kernel
theorem d_L_move_35 : decode b_L_move 35 = .ok (.iinc 2 1, 3) := by decide +kernel
theorem d_L_move_38 : decode b_L_move 38 = .ok (.goto (-36), 3) := by decide +kernel
theorem d_L_move_41 : decode b_L_move 41 = .ok (.return_, 1) := by decide +kernel
theorem d_L_isOutOfStations_0 : decode b_L_isOutOfStations 0 = .ok (.aload_n 0, 1) := by decide +kernel
theorem d_L_isOutOfStations_1 : decode b_L_isOutOfStations 1 = .ok (.iload_n 1, 1) := by decide +kernel
theorem d_L_isOutOfStations_2 : decode b_L_isOutOfStations 2 = .ok (.invokevirtual 35, 3) := by decide +kernel
theorem d_L_isOutOfStations_5 : decode b_L_isOutOfStations 5 = .ok (.ifCond .eq 19, 3) := by decide +kernel
theorem d_L_isOutOfStations_8 : decode b_L_isOutOfStations 8 = .ok (.aload_n 0, 1) := by decide +kernel
theorem d_L_isOutOfStations_9 : decode b_L_isOutOfStations 9 = .ok (.getfield 9, 3) := by decide +kernel
theorem d_L_isOutOfStations_12 : decode b_L_isOutOfStations 12 = .ok (.iload_n 1, 1) := by decide +kernel
theorem d_L_isOutOfStations_13 : decode b_L_isOutOfStations 13 = .ok (.iaload, 1) := by decide +kernel
theorem d_L_isOutOfStations_14 : decode b_L_isOutOfStations 14 = .ok (.invokestatic 39, 3) := by decide +kernel
theorem d_L_isOutOfStations_17 : decode b_L_isOutOfStations 17 = .ok (.ifCond .ne 7, 3) := by decide +kernel
theorem d_L_isOutOfStations_20 : decode b_L_isOutOfStations 20 = .ok (.iconst 1, 1) := by decide +kernel
theorem d_L_isOutOfStations_21 : decode b_L_isOutOfStations 21 = .ok (.goto 4, 3) := by decide +kernel
theorem d_L_isOutOfStations_24 : decode b_L_isOutOfStations 24 = .ok (.iconst 0, 1) := by decide +kernel
theorem d_L_isOutOfStations_25 : decode b_L_isOutOfStations 25 = .ok (.ireturn, 1) := by decide +kernel
theorem d_P_init_0 : decode b_P_init 0 = .ok (.aload_n 0, 1) := by decide +kernel
theorem d_P_init_1 : decode b_P_init 1 = .ok (.invokespecial 3, 3) := by decide +kernel
theorem d_P_init_4 : decode b_P_init 4 = .ok (.aload_n 0, 1) := by decide +kernel
theorem d_P_init_5 : decode b_P_init 5 = .ok (.bipush 49, 2) := by decide +kernel
theorem d_P_init_7 : decode b_P_init 7 = .ok (.newarray .int, 2) := by decide +kernel
theorem d_P_init_9 : decode b_P_init 9 = .ok (.putfield 9, 3) := by decide +kernel
theorem d_P_init_12 : decode b_P_init 12 = .ok (.aload_n 0, 1) := by decide +kernel
theorem d_P_init_13 : decode b_P_init 13 = .ok (.bipush 49, 2) := by decide +kernel
theorem d_P_init_15 : decode b_P_init 15 = .ok (.newarray .int, 2) := by decide +kernel
theorem d_P_init_17 : decode b_P_init 17 = .ok (.putfield 15, 3) := by decide +kernel
theorem d_P_init_20 : decode b_P_init 20 = .ok (.return_, 1) := by decide +kernel
theorem d_P_send_0 : decode b_P_send 0 = .ok (.iload_n 1, 1) := by decide +kernel
theorem d_P_send_1 : decode b_P_send 1 = .ok (.iload_n 3, 1) := by decide +kernel
theorem d_P_send_2 : decode b_P_send 2 = .ok (.invokestatic 18, 3) := by decide +kernel
theorem d_P_send_5 : decode b_P_send 5 = .ok (.istore 5, 2) := by decide +kernel
theorem d_P_send_7 : decode b_P_send 7 = .ok (.aload_n 0, 1) := by decide +kernel
theorem d_P_send_8 : decode b_P_send 8 = .ok (.getfield 9, 3) := by decide +kernel
theorem d_P_send_11 : decode b_P_send 11 = .ok (.iload 5, 2) := by decide +kernel
theorem d_P_send_13 : decode b_P_send 13 = .ok (.iload_n 2, 1) := by decide +kernel
theorem d_P_send_14 : decode b_P_send 14 = .ok (.iastore, 1) := by decide +kernel
theorem d_P_send_15 : decode b_P_send 15 = .ok (.aload_n 0, 1) := by decide +kernel
theorem d_P_send_16 : decode b_P_send 16 = .ok (.getfield 15, 3) := by decide +kernel
theorem d_P_send_19 : decode b_P_send 19 = .ok (.iload 5, 2) := by decide +kernel
theorem d_P_send_21 : decode b_P_send 21 = .ok (.iload 4, 2) := by decide +kernel
theorem d_P_send_23 : decode b_P_send 23 = .ok (.iconst (-1), 1) := by decide +kernel
theorem d_P_send_24 : decode b_P_send 24 = .ok (.if_icmp .ne 7, 3) := by decide +kernel
theorem d_P_send_27 : decode b_P_send 27 = .ok (.iconst 0, 1) := by decide +kernel
theorem d_P_send_28 : decode b_P_send 28 = .ok (.goto 7, 3) := by decide +kernel
theorem d_P_send_31 : decode b_P_send 31 = .ok (.iload_n 3, 1) := by decide +kernel
theorem d_P_send_32 : decode b_P_send 32 = .ok (.iload 4, 2) := by decide +kernel
theorem d_P_send_34 : decode b_P_send 34 = .ok (.iadd, 1) := by decide +kernel
theorem d_P_send_35 : decode b_P_send 35 = .ok (.iastore, 1) := by decide +kernel
theorem d_P_send_36 : decode b_P_send 36 = .ok (.return_, 1) := by decide +kernel
theorem d_P_deliver_0 : decode b_P_deliver 0 = .ok (.iconst 1, 1) := by decide +kernel
theorem d_P_deliver_1 : decode b_P_deliver 1 = .ok (.iload_n 1, 1) := by decide +kernel
theorem d_P_deliver_2 : decode b_P_deliver 2 = .ok (.bipush 7, 2) := by decide +kernel
theorem d_P_deliver_4 : decode b_P_deliver 4 = .ok (.isub, 1) := by decide +kernel
theorem d_P_deliver_5 : decode b_P_deliver 5 = .ok (.iconst 1, 1) := by decide +kernel
theorem d_P_deliver_6 : decode b_P_deliver 6 = .ok (.iadd, 1) := by decide +kernel
theorem d_P_deliver_7 : decode b_P_deliver 7 = .ok (.invokestatic 22, 3) := by decide +kernel
theorem d_P_deliver_10 : decode b_P_deliver 10 = .ok (.istore_n 3, 1) := by decide +kernel
theorem d_P_deliver_11 : decode b_P_deliver 11 = .ok (.iload_n 3, 1) := by decide +kernel
theorem d_P_deliver_12 : decode b_P_deliver 12 = .ok (.iload_n 1, 1) := by decide +kernel
theorem d_P_deliver_13 : decode b_P_deliver 13 = .ok (.if_icmp .gt 58, 3) := by decide +kernel
theorem d_P_deliver_16 : decode b_P_deliver 16 = .ok (.iconst 0, 1) := by decide +kernel
theorem d_P_deliver_17 : decode b_P_deliver 17 = .ok (.istore 4, 2) := by decide +kernel
theorem d_P_deliver_19 : decode b_P_deliver 19 = .ok (.iload 4, 2) := by decide +kernel
theorem d_P_deliver_21 : decode b_P_deliver 21 = .ok (.bipush 7, 2) := by decide +kernel
theorem d_P_deliver_23 : decode b_P_deliver 23 = .ok (.if_icmp .ge 42, 3) := by decide +kernel
theorem d_P_deliver_26 : decode b_P_deliver 26 = .ok (.iload 4, 2) := by decide +kernel
theorem d_P_deliver_28 : decode b_P_deliver 28 = .ok (.iload_n 3, 1) := by decide +kernel
theorem d_P_deliver_29 : decode b_P_deliver 29 = .ok (.invokestatic 18, 3) := by decide +kernel
theorem d_P_deliver_32 : decode b_P_deliver 32 = .ok (.istore 5, 2) := by decide +kernel
theorem d_P_deliver_34 : decode b_P_deliver 34 = .ok (.aload_n 0, 1) := by decide +kernel
theorem d_P_deliver_35 : decode b_P_deliver 35 = .ok (.getfield 15, 3) := by decide +kernel
theorem d_P_deliver_38 : decode b_P_deliver 38 = .ok (.iload 5, 2) := by decide +kernel
theorem d_P_deliver_40 : decode b_P_deliver 40 = .ok (.iaload, 1) := by decide +kernel
theorem d_P_deliver_41 : decode b_P_deliver 41 = .ok (.iload_n 1, 1) := by decide +kernel
theorem d_P_deliver_42 : decode b_P_deliver 42 = .ok (.if_icmp .ne 17, 3) := by decide +kernel
theorem d_P_deliver_45 : decode b_P_deliver 45 = .ok (.aload_n 2, 1) := by decide +kernel
theorem d_P_deliver_46 : decode b_P_deliver 46 = .ok (.iload 4, 2) := by decide +kernel
theorem d_P_deliver_48 : decode b_P_deliver 48 = .ok (.aload_n 0, 1) := by decide +kernel
theorem d_P_deliver_49 : decode b_P_deliver 49 = .ok (.getfield 9, 3) := by decide +kernel
theorem d_P_deliver_52 : decode b_P_deliver 52 = .ok (.iload 5, 2) := by decide +kernel
theorem d_P_deliver_54 : decode b_P_deliver 54 = .ok (.iaload, 1) := by decide +kernel
theorem d_P_deliver_55 : decode b_P_deliver 55 = .ok (.iload_n 3, 1) := by decide +kernel
theorem d_P_deliver_56 : decode b_P_deliver 56 = .ok (.invokevirtual 27, 3) := by decide +kernel
theorem d_P_deliver_59 : decode b_P_deliver 59 = .ok (.iinc 4 1, 3) := by decide +kernel
theorem d_P_deliver_62 : decode b_P_deliver 62 = .ok (.goto (-43), 3) := by decide +kernel
theorem d_P_deliver_65 : decode b_P_deliver 65 = .ok (.iinc 3 1, 3) := by decide +kernel
theorem d_P_deliver_68 : decode b_P_deliver 68 = .ok (.goto (-57), 3) := by decide +kernel
theorem d_P_deliver_71 : decode b_P_deliver 71 = .ok (.return_, 1) := by decide +kernel
theorem d_P_countLater_0 : decode b_P_countLater 0 = .ok (.iconst 0, 1) := by decide +kernel
theorem d_P_countLater_1 : decode b_P_countLater 1 = .ok (.istore_n 2, 1) := by decide +kernel
theorem d_P_countLater_2 : decode b_P_countLater 2 = .ok (.iconst 0, 1) := by decide +kernel
theorem d_P_countLater_3 : decode b_P_countLater 3 = .ok (.istore_n 3, 1) := by decide +kernel
theorem d_P_countLater_4 : decode b_P_countLater 4 = .ok (.iload_n 3, 1) := by decide +kernel
theorem d_P_countLater_5 : decode b_P_countLater 5 = .ok (.aload_n 0, 1) := by decide +kernel
theorem d_P_countLater_6 : decode b_P_countLater 6 = .ok (.getfield 15, 3) := by decide +kernel
theorem d_P_countLater_9 : decode b_P_countLater 9 = .ok (.arraylength, 1) := by decide +kernel
theorem d_P_countLater_10 : decode b_P_countLater 10 = .ok (.if_icmp .ge 22, 3) := by decide +kernel
theorem d_P_countLater_13 : decode b_P_countLater 13 = .ok (.aload_n 0, 1) := by decide +kernel
theorem d_P_countLater_14 : decode b_P_countLater 14 = .ok (.getfield 15, 3) := by decide +kernel
theorem d_P_countLater_17 : decode b_P_countLater 17 = .ok (.iload_n 3, 1) := by decide +kernel
theorem d_P_countLater_18 : decode b_P_countLater 18 = .ok (.iaload, 1) := by decide +kernel
theorem d_P_countLater_19 : decode b_P_countLater 19 = .ok (.iload_n 1, 1) := by decide +kernel
theorem d_P_countLater_20 : decode b_P_countLater 20 = .ok (.if_icmp .le 6, 3) := by decide +kernel
theorem d_P_countLater_23 : decode b_P_countLater 23 = .ok (.iinc 2 1, 3) := by decide +kernel
theorem d_P_countLater_26 : decode b_P_countLater 26 = .ok (.iinc 3 1, 3) := by decide +kernel
theorem d_P_countLater_29 : decode b_P_countLater 29 = .ok (.goto (-25), 3) := by decide +kernel
theorem d_P_countLater_32 : decode b_P_countLater 32 = .ok (.iload_n 2, 1) := by decide +kernel
theorem d_P_countLater_33 : decode b_P_countLater 33 = .ok (.ireturn, 1) := by decide +kernel
theorem d_P_slotOf_0 : decode b_P_slotOf 0 = .ok (.iload_n 1, 1) := by decide +kernel
theorem d_P_slotOf_1 : decode b_P_slotOf 1 = .ok (.bipush 7, 2) := by decide +kernel
theorem d_P_slotOf_3 : decode b_P_slotOf 3 = .ok (.invokestatic 33, 3) := by decide +kernel
theorem d_P_slotOf_6 : decode b_P_slotOf 6 = .ok (.bipush 7, 2) := by decide +kernel
theorem d_P_slotOf_8 : decode b_P_slotOf 8 = .ok (.imul, 1) := by decide +kernel
theorem d_P_slotOf_9 : decode b_P_slotOf 9 = .ok (.iload_n 0, 1) := by decide +kernel
theorem d_P_slotOf_10 : decode b_P_slotOf 10 = .ok (.iadd, 1) := by decide +kernel
theorem d_P_slotOf_11 : decode b_P_slotOf 11 = .ok (.ireturn, 1) := by decide +kernel
theorem d_K_init_0 : decode b_K_init 0 = .ok (.aload_n 0, 1) := by decide +kernel
theorem d_K_init_1 : decode b_K_init 1 = .ok (.invokespecial 3, 3) := by decide +kernel
theorem d_K_init_4 : decode b_K_init 4 = .ok (.aload_n 0, 1) := by decide +kernel
theorem d_K_init_5 : decode b_K_init 5 = .ok (.bipush 60, 2) := by decide +kernel
theorem d_K_init_7 : decode b_K_init 7 = .ok (.newarray .int, 2) := by decide +kernel
theorem d_K_init_9 : decode b_K_init 9 = .ok (.putfield 9, 3) := by decide +kernel
theorem d_K_init_12 : decode b_K_init 12 = .ok (.aload_n 0, 1) := by decide +kernel
theorem d_K_init_13 : decode b_K_init 13 = .ok (.bipush 60, 2) := by decide +kernel
theorem d_K_init_15 : decode b_K_init 15 = .ok (.newarray .int, 2) := by decide +kernel
theorem d_K_init_17 : decode b_K_init 17 = .ok (.putfield 15, 3) := by decide +kernel
theorem d_K_init_20 : decode b_K_init 20 = .ok (.aload_n 0, 1) := by decide +kernel
theorem d_K_init_21 : decode b_K_init 21 = .ok (.bipush 60, 2) := by decide +kernel
theorem d_K_init_23 : decode b_K_init 23 = .ok (.newarray .int, 2) := by decide +kernel
theorem d_K_init_25 : decode b_K_init 25 = .ok (.putfield 18, 3) := by decide +kernel
theorem d_K_init_28 : decode b_K_init 28 = .ok (.aload_n 0, 1) := by decide +kernel
theorem d_K_init_29 : decode b_K_init 29 = .ok (.bipush 60, 2) := by decide +kernel
theorem d_K_init_31 : decode b_K_init 31 = .ok (.newarray .int, 2) := by decide +kernel
theorem d_K_init_33 : decode b_K_init 33 = .ok (.putfield 21, 3) := by decide +kernel
theorem d_K_init_36 : decode b_K_init 36 = .ok (.aload_n 0, 1) := by decide +kernel
theorem d_K_init_37 : decode b_K_init 37 = .ok (.bipush 60, 2) := by decide +kernel
theorem d_K_init_39 : decode b_K_init 39 = .ok (.newarray .int, 2) := by decide +kernel
theorem d_K_init_41 : decode b_K_init 41 = .ok (.putfield 24, 3) := by decide +kernel
theorem d_K_init_44 : decode b_K_init 44 = .ok (.aload_n 0, 1) := by decide +kernel
theorem d_K_init_45 : decode b_K_init 45 = .ok (.bipush 60, 2) := by decide +kernel
theorem d_K_init_47 : decode b_K_init 47 = .ok (.newarray .int, 2) := by decide +kernel
theorem d_K_init_49 : decode b_K_init 49 = .ok (.putfield 27, 3) := by decide +kernel
theorem d_K_init_52 : decode b_K_init 52 = .ok (.aload_n 0, 1) := by decide +kernel
theorem d_K_init_53 : decode b_K_init 53 = .ok (.iconst 0, 1) := by decide +kernel
theorem d_K_init_54 : decode b_K_init 54 = .ok (.putfield 30, 3) := by decide +kernel
theorem d_K_init_57 : decode b_K_init 57 = .ok (.return_, 1) := by decide +kernel
theorem d_K_has_0 : decode b_K_has 0 = .ok (.iload_n 1, 1) := by decide +kernel
theorem d_K_has_1 : decode b_K_has 1 = .ok (.ifCond .lt 21, 3) := by decide +kernel
theorem d_K_has_4 : decode b_K_has 4 = .ok (.iload_n 1, 1) := by decide +kernel
theorem d_K_has_5 : decode b_K_has 5 = .ok (.aload_n 0, 1) := by decide +kernel
theorem d_K_has_6 : decode b_K_has 6 = .ok (.getfield 30, 3) := by decide +kernel
theorem d_K_has_9 : decode b_K_has 9 = .ok (.if_icmp .ge 13, 3) := by decide +kernel
theorem d_K_has_12 : decode b_K_has 12 = .ok (.iload_n 1, 1) := by decide +kernel
theorem d_K_has_13 : decode b_K_has 13 = .ok (.bipush 60, 2) := by decide +kernel
theorem d_K_has_15 : decode b_K_has 15 = .ok (.if_icmp .ge 7, 3) := by decide +kernel
theorem d_K_has_18 : decode b_K_has 18 = .ok (.iconst 1, 1) := by decide +kernel
theorem d_K_has_19 : decode b_K_has 19 = .ok (.goto 4, 3) := by decide +kernel
theorem d_K_has_22 : decode b_K_has 22 = .ok (.iconst 0, 1) := by decide +kernel
theorem d_K_has_23 : decode b_K_has 23 = .ok (.ireturn, 1) := by decide +kernel
theorem d_K_isLeft_0 : decode b_K_isLeft 0 = .ok (.aload_n 0, 1) := by decide +kernel
theorem d_K_isLeft_1 : decode b_K_isLeft 1 = .ok (.getfield 30, 3) := by decide +kernel
theorem d_K_isLeft_4 : decode b_K_isLeft 4 = .ok (.bipush 60, 2) := by decide +kernel
theorem d_K_isLeft_6 : decode b_K_isLeft 6 = .ok (.if_icmp .ge 7, 3) := by decide +kernel
theorem d_K_isLeft_9 : decode b_K_isLeft 9 = .ok (.iconst 1, 1) := by decide +kernel
theorem d_K_isLeft_10 : decode b_K_isLeft 10 = .ok (.goto 4, 3) := by decide +kernel
theorem d_K_isLeft_13 : decode b_K_isLeft 13 = .ok (.iconst 0, 1) := by decide +kernel
theorem d_K_isLeft_14 : decode b_K_isLeft 14 = .ok (.ireturn, 1) := by decide +kernel
theorem d_K_sell_0 : decode b_K_sell 0 = .ok (.aload_n 0, 1) := by decide +kernel
theorem d_K_sell_1 : decode b_K_sell 1 = .ok (.getfield 30, 3) := by decide +kernel
theorem d_K_sell_4 : decode b_K_sell 4 = .ok (.istore 5, 2) := by decide +kernel
theorem d_K_sell_6 : decode b_K_sell 6 = .ok (.iload 5, 2) := by decide +kernel
theorem d_K_sell_8 : decode b_K_sell 8 = .ok (.bipush 60, 2) := by decide +kernel
theorem d_K_sell_10 : decode b_K_sell 10 = .ok (.if_icmp .ge 54, 3) := by decide +kernel
theorem d_K_sell_13 : decode b_K_sell 13 = .ok (.aload_n 0, 1) := by decide +kernel
theorem d_K_sell_14 : decode b_K_sell 14 = .ok (.dup, 1) := by decide +kernel
theorem d_K_sell_15 : decode b_K_sell 15 = .ok (.getfield 30, 3) := by decide +kernel
theorem d_K_sell_18 : decode b_K_sell 18 = .ok (.iconst 1, 1) := by decide +kernel
theorem d_K_sell_19 : decode b_K_sell 19 = .ok (.iadd, 1) := by decide +kernel
theorem d_K_sell_20 : decode b_K_sell 20 = .ok (.putfield 30, 3) := by decide +kernel
theorem d_K_sell_23 : decode b_K_sell 23 = .ok (.aload_n 0, 1) := by decide +kernel
theorem d_K_sell_24 : decode b_K_sell 24 = .ok (.getfield 9, 3) := by decide +kernel
theorem d_K_sell_27 : decode b_K_sell 27 = .ok (.iload 5, 2) := by decide +kernel
theorem d_K_sell_29 : decode b_K_sell 29 = .ok (.iload_n 1, 1) := by decide +kernel
theorem d_K_sell_30 : decode b_K_sell 30 = .ok (.iastore, 1) := by decide +kernel
theorem d_K_sell_31 : decode b_K_sell 31 = .ok (.aload_n 0, 1) := by decide +kernel
theorem d_K_sell_32 : decode b_K_sell 32 = .ok (.getfield 15, 3) := by decide +kernel
theorem d_K_sell_35 : decode b_K_sell 35 = .ok (.iload 5, 2) := by decide +kernel
theorem d_K_sell_37 : decode b_K_sell 37 = .ok (.iload_n 2, 1) := by decide +kernel
theorem d_K_sell_38 : decode b_K_sell 38 = .ok (.iastore, 1) := by decide +kernel
theorem d_K_sell_39 : decode b_K_sell 39 = .ok (.aload_n 0, 1) := by decide +kernel
theorem d_K_sell_40 : decode b_K_sell 40 = .ok (.getfield 18, 3) := by decide +kernel
theorem d_K_sell_43 : decode b_K_sell 43 = .ok (.iload 5, 2) := by decide +kernel
theorem d_K_sell_45 : decode b_K_sell 45 = .ok (.iload_n 3, 1) := by decide +kernel
theorem d_K_sell_46 : decode b_K_sell 46 = .ok (.iastore, 1) := by decide +kernel
theorem d_K_sell_47 : decode b_K_sell 47 = .ok (.aload_n 0, 1) := by decide +kernel
theorem d_K_sell_48 : decode b_K_sell 48 = .ok (.getfield 21, 3) := by decide +kernel
theorem d_K_sell_51 : decode b_K_sell 51 = .ok (.iload 5, 2) := by decide +kernel
theorem d_K_sell_53 : decode b_K_sell 53 = .ok (.iload 4, 2) := by decide +kernel
theorem d_K_sell_55 : decode b_K_sell 55 = .ok (.iastore, 1) := by decide +kernel
theorem d_K_sell_56 : decode b_K_sell 56 = .ok (.aload_n 0, 1) := by decide +kernel
theorem d_K_sell_57 : decode b_K_sell 57 = .ok (.getfield 24, 3) := by decide +kernel
theorem d_K_sell_60 : decode b_K_sell 60 = .ok (.iload 5, 2) := by decide +kernel
theorem d_K_sell_62 : decode b_K_sell 62 = .ok (.iconst (-1), 1) := by decide +kernel
theorem d_K_sell_63 : decode b_K_sell 63 = .ok (.iastore, 1) := by decide +kernel
theorem d_K_sell_64 : decode b_K_sell 64 = .ok (.iload 5, 2) := by decide +kernel
theorem d_K_sell_66 : decode b_K_sell 66 = .ok (.ireturn, 1) := by decide +kernel
theorem d_K_peopleIn_0 : decode b_K_peopleIn 0 = .ok (.iconst 0, 1) := by decide +kernel
theorem d_K_peopleIn_1 : decode b_K_peopleIn 1 = .ok (.istore_n 2, 1) := by decide +kernel
theorem d_K_peopleIn_2 : decode b_K_peopleIn 2 = .ok (.iconst 0, 1) := by decide +kernel
theorem d_K_peopleIn_3 : decode b_K_peopleIn 3 = .ok (.istore_n 3, 1) := by decide +kernel
theorem d_K_peopleIn_4 : decode b_K_peopleIn 4 = .ok (.iload_n 3, 1) := by decide +kernel
theorem d_K_peopleIn_5 : decode b_K_peopleIn 5 = .ok (.aload_n 0, 1) := by decide +kernel
theorem d_K_peopleIn_6 : decode b_K_peopleIn 6 = .ok (.getfield 30, 3) := by decide +kernel
theorem d_K_peopleIn_9 : decode b_K_peopleIn 9 = .ok (.if_icmp .ge 44, 3) := by decide +kernel
theorem d_K_peopleIn_12 : decode b_K_peopleIn 12 = .ok (.iload_n 3, 1) := by decide +kernel
theorem d_K_peopleIn_13 : decode b_K_peopleIn 13 = .ok (.bipush 60, 2) := by decide +kernel
theorem d_K_peopleIn_15 : decode b_K_peopleIn 15 = .ok (.if_icmp .ge 38, 3) := by decide +kernel
theorem d_K_peopleIn_18 : decode b_K_peopleIn 18 = .ok (.aload_n 0, 1) := by decide +kernel
theorem d_K_peopleIn_19 : decode b_K_peopleIn 19 = .ok (.getfield 9, 3) := by decide +kernel
theorem d_K_peopleIn_22 : decode b_K_peopleIn 22 = .ok (.iload_n 3, 1) := by decide +kernel
theorem d_K_peopleIn_23 : decode b_K_peopleIn 23 = .ok (.iaload, 1) := by decide +kernel
theorem d_K_peopleIn_24 : decode b_K_peopleIn 24 = .ok (.iload_n 1, 1) := by decide +kernel
theorem d_K_peopleIn_25 : decode b_K_peopleIn 25 = .ok (.if_icmp .ne 22, 3) := by decide +kernel
theorem d_K_peopleIn_28 : decode b_K_peopleIn 28 = .ok (.aload_n 0, 1) := by decide +kernel
theorem d_K_peopleIn_29 : decode b_K_peopleIn 29 = .ok (.getfield 24, 3) := by decide +kernel
theorem d_K_peopleIn_32 : decode b_K_peopleIn 32 = .ok (.iload_n 3, 1) := by decide +kernel
theorem d_K_peopleIn_33 : decode b_K_peopleIn 33 = .ok (.iaload, 1) := by decide +kernel
theorem d_K_peopleIn_34 : decode b_K_peopleIn 34 = .ok (.iconst (-1), 1) := by decide +kernel
theorem d_K_peopleIn_35 : decode b_K_peopleIn 35 = .ok (.if_icmp .ne 12, 3) := by decide +kernel
theorem d_K_peopleIn_38 : decode b_K_peopleIn 38 = .ok (.iload_n 2, 1) := by decide +kernel
theorem d_K_peopleIn_39 : decode b_K_peopleIn 39 = .ok (.aload_n 0, 1) := by decide +kernel
theorem d_K_peopleIn_40 : decode b_K_peopleIn 40 = .ok (.getfield 15, 3) := by decide +kernel
theorem d_K_peopleIn_43 : decode b_K_peopleIn 43 = .ok (.iload_n 3, 1) := by decide +kernel
theorem d_K_peopleIn_44 : decode b_K_peopleIn 44 = .ok (.iaload, 1) := by decide +kernel
theorem d_K_peopleIn_45 : decode b_K_peopleIn 45 = .ok (.iadd, 1) := by decide +kernel
theorem d_K_peopleIn_46 : decode b_K_peopleIn 46 = .ok (.istore_n 2, 1) := by decide +kernel
theorem d_K_peopleIn_47 : decode b_K_peopleIn 47 = .ok (.iinc 3 1, 3) := by decide +kernel
theorem d_K_peopleIn_50 : decode b_K_peopleIn 50 = .ok (.goto (-46), 3) := by decide +kernel
theorem d_K_peopleIn_53 : decode b_K_peopleIn 53 = .ok (.iload_n 2, 1) := by decide +kernel
theorem d_K_peopleIn_54 : decode b_K_peopleIn 54 = .ok (.ireturn, 1) := by decide +kernel
theorem d_K_passMinute_0 : decode b_K_passMinute 0 = .ok (.iconst 0, 1) := by decide +kernel
theorem d_K_passMinute_1 : decode b_K_passMinute 1 = .ok (.istore 5, 2) := by decide +kernel
theorem d_K_passMinute_3 : decode b_K_passMinute 3 = .ok (.iload 5, 2) := by decide +kernel
theorem d_K_passMinute_5 : decode b_K_passMinute 5 = .ok (.aload_n 0, 1) := by decide +kernel
theorem d_K_passMinute_6 : decode b_K_passMinute 6 = .ok (.getfield 30, 3) := by decide +kernel
theorem d_K_passMinute_9 : decode b_K_passMinute 9 = .ok (.if_icmp .ge 82, 3) := by decide +kernel
theorem d_K_passMinute_12 : decode b_K_passMinute 12 = .ok (.iload 5, 2) := by decide +kernel
theorem d_K_passMinute_14 : decode b_K_passMinute 14 = .ok (.bipush 60, 2) := by decide +kernel
theorem d_K_passMinute_16 : decode b_K_passMinute 16 = .ok (.if_icmp .ge 75, 3) := by decide +kernel
theorem d_K_passMinute_19 : decode b_K_passMinute 19 = .ok (.aload_n 0, 1) := by decide +kernel
theorem d_K_passMinute_20 : decode b_K_passMinute 20 = .ok (.getfield 24, 3) := by decide +kernel
theorem d_K_passMinute_23 : decode b_K_passMinute 23 = .ok (.iload 5, 2) := by decide +kernel
theorem d_K_passMinute_25 : decode b_K_passMinute 25 = .ok (.iaload, 1) := by decide +kernel
theorem d_K_passMinute_26 : decode b_K_passMinute 26 = .ok (.iconst (-1), 1) := by decide +kernel
theorem d_K_passMinute_27 : decode b_K_passMinute 27 = .ok (.if_icmp .eq 6, 3) := by decide +kernel
theorem d_K_passMinute_30 : decode b_K_passMinute 30 = .ok (.goto 55, 3) := by decide +kernel
theorem d_K_passMinute_33 : decode b_K_passMinute 33 = .ok (.iload_n 2, 1) := by decide +kernel
theorem d_K_passMinute_34 : decode b_K_passMinute 34 = .ok (.aload_n 0, 1) := by decide +kernel
theorem d_K_passMinute_35 : decode b_K_passMinute 35 = .ok (.getfield 21, 3) := by decide +kernel
theorem d_K_passMinute_38 : decode b_K_passMinute 38 = .ok (.iload 5, 2) := by decide +kernel
theorem d_K_passMinute_40 : decode b_K_passMinute 40 = .ok (.iaload, 1) := by decide +kernel
theorem d_K_passMinute_41 : decode b_K_passMinute 41 = .ok (.if_icmp .lt 14, 3) := by decide +kernel
theorem d_K_passMinute_44 : decode b_K_passMinute 44 = .ok (.aload_n 0, 1) := by decide +kernel
theorem d_K_passMinute_45 : decode b_K_passMinute 45 = .ok (.getfield 24, 3) := by decide +kernel
theorem d_K_passMinute_48 : decode b_K_passMinute 48 = .ok (.iload 5, 2) := by decide +kernel
theorem d_K_passMinute_50 : decode b_K_passMinute 50 = .ok (.iload_n 1, 1) := by decide +kernel
theorem d_K_passMinute_51 : decode b_K_passMinute 51 = .ok (.iastore, 1) := by decide +kernel
theorem d_K_passMinute_52 : decode b_K_passMinute 52 = .ok (.goto 33, 3) := by decide +kernel
theorem d_K_passMinute_55 : decode b_K_passMinute 55 = .ok (.iload_n 3, 1) := by decide +kernel
theorem d_K_passMinute_56 : decode b_K_passMinute 56 = .ok (.ifCond .ne 29, 3) := by decide +kernel
theorem d_K_passMinute_59 : decode b_K_passMinute 59 = .ok (.aload 4, 2) := by decide +kernel
theorem d_K_passMinute_61 : decode b_K_passMinute 61 = .ok (.aload_n 0, 1) := by decide +kernel
theorem d_K_passMinute_62 : decode b_K_passMinute 62 = .ok (.getfield 9, 3) := by decide +kernel
theorem d_K_passMinute_65 : decode b_K_passMinute 65 = .ok (.iload 5, 2) := by decide +kernel
theorem d_K_passMinute_67 : decode b_K_passMinute 67 = .ok (.iaload, 1) := by decide +kernel
theorem d_K_passMinute_68 : decode b_K_passMinute 68 = .ok (.invokevirtual 34, 3) := by decide +kernel
theorem d_K_passMinute_71 : decode b_K_passMinute 71 = .ok (.ifCond .eq 14, 3) := by decide +kernel
theorem d_K_passMinute_74 : decode b_K_passMinute 74 = .ok (.aload_n 0, 1) := by decide +kernel
theorem d_K_passMinute_75 : decode b_K_passMinute 75 = .ok (.getfield 27, 3) := by decide +kernel
theorem d_K_passMinute_78 : decode b_K_passMinute 78 = .ok (.iload 5, 2) := by decide +kernel
theorem d_K_passMinute_80 : decode b_K_passMinute 80 = .ok (.dup2, 1) := by decide +kernel
theorem d_K_passMinute_81 : decode b_K_passMinute 81 = .ok (.iaload, 1) := by decide +kernel
theorem d_K_passMinute_82 : decode b_K_passMinute 82 = .ok (.iconst 1, 1) := by decide +kernel
theorem d_K_passMinute_83 : decode b_K_passMinute 83 = .ok (.iadd, 1) := by decide +kernel
theorem d_K_passMinute_84 : decode b_K_passMinute 84 = .ok (.iastore, 1) := by decide +kernel
theorem d_K_passMinute_85 : decode b_K_passMinute 85 = .ok (.iinc 5 1, 3) := by decide +kernel
theorem d_K_passMinute_88 : decode b_K_passMinute 88 = .ok (.goto (-85), 3) := by decide +kernel
theorem d_K_passMinute_91 : decode b_K_passMinute 91 = .ok (.return_, 1) := by decide +kernel
theorem d_K_refundOf_0 : decode b_K_refundOf 0 = .ok (.aload_n 0, 1) := by decide +kernel
theorem d_K_refundOf_1 : decode b_K_refundOf 1 = .ok (.getfield 18, 3) := by decide +kernel
theorem d_K_refundOf_4 : decode b_K_refundOf 4 = .ok (.iload_n 1, 1) := by decide +kernel
theorem d_K_refundOf_5 : decode b_K_refundOf 5 = .ok (.iaload, 1) := by decide +kernel
theorem d_K_refundOf_6 : decode b_K_refundOf 6 = .ok (.aload_n 0, 1) := by decide +kernel
theorem d_K_refundOf_7 : decode b_K_refundOf 7 = .ok (.getfield 15, 3) := by decide +kernel
theorem d_K_refundOf_10 : decode b_K_refundOf 10 = .ok (.iload_n 1, 1) := by decide +kernel
theorem d_K_refundOf_11 : decode b_K_refundOf 11 = .ok (.iaload, 1) := by decide +kernel
theorem d_K_refundOf_12 : decode b_K_refundOf 12 = .ok (.imul, 1) := by decide +kernel
theorem d_K_refundOf_13 : decode b_K_refundOf 13 = .ok (.istore_n 2, 1) := by decide +kernel
theorem d_K_refundOf_14 : decode b_K_refundOf 14 = .ok (.iconst 0, 1) := by decide +kernel
theorem d_K_refundOf_15 : decode b_K_refundOf 15 = .ok (.aload_n 0, 1) := by decide +kernel
theorem d_K_refundOf_16 : decode b_K_refundOf 16 = .ok (.getfield 27, 3) := by decide +kernel
theorem d_K_refundOf_19 : decode b_K_refundOf 19 = .ok (.iload_n 1, 1) := by decide +kernel
theorem d_K_refundOf_20 : decode b_K_refundOf 20 = .ok (.iaload, 1) := by decide +kernel
theorem d_K_refundOf_21 : decode b_K_refundOf 21 = .ok (.iconst 5, 1) := by decide +kernel
theorem d_K_refundOf_22 : decode b_K_refundOf 22 = .ok (.isub, 1) := by decide +kernel
theorem d_K_refundOf_23 : decode b_K_refundOf 23 = .ok (.invokestatic 40, 3) := by decide +kernel
theorem d_K_refundOf_26 : decode b_K_refundOf 26 = .ok (.istore_n 3, 1) := by decide +kernel
theorem d_K_refundOf_27 : decode b_K_refundOf 27 = .ok (.iload_n 2, 1) := by decide +kernel
theorem d_K_refundOf_28 : decode b_K_refundOf 28 = .ok (.iload_n 2, 1) := by decide +kernel
theorem d_K_refundOf_29 : decode b_K_refundOf 29 = .ok (.iload_n 3, 1) := by decide +kernel
theorem d_K_refundOf_30 : decode b_K_refundOf 30 = .ok (.imul, 1) := by decide +kernel
theorem d_K_refundOf_31 : decode b_K_refundOf 31 = .ok (.bipush 10, 2) := by decide +kernel
theorem d_K_refundOf_33 : decode b_K_refundOf 33 = .ok (.idiv, 1) := by decide +kernel
theorem d_K_refundOf_34 : decode b_K_refundOf 34 = .ok (.invokestatic 46, 3) := by decide +kernel
theorem d_K_refundOf_37 : decode b_K_refundOf 37 = .ok (.ireturn, 1) := by decide +kernel
theorem d_K_sumOfRefunds_0 : decode b_K_sumOfRefunds 0 = .ok (.iconst 0, 1) := by decide +kernel
theorem d_K_sumOfRefunds_1 : decode b_K_sumOfRefunds 1 = .ok (.istore_n 1, 1) := by decide +kernel
theorem d_K_sumOfRefunds_2 : decode b_K_sumOfRefunds 2 = .ok (.iconst 0, 1) := by decide +kernel
theorem d_K_sumOfRefunds_3 : decode b_K_sumOfRefunds 3 = .ok (.istore_n 2, 1) := by decide +kernel
theorem d_K_sumOfRefunds_4 : decode b_K_sumOfRefunds 4 = .ok (.iload_n 2, 1) := by decide +kernel
theorem d_K_sumOfRefunds_5 : decode b_K_sumOfRefunds 5 = .ok (.aload_n 0, 1) := by decide +kernel
theorem d_K_sumOfRefunds_6 : decode b_K_sumOfRefunds 6 = .ok (.getfield 30, 3) := by decide +kernel
theorem d_K_sumOfRefunds_9 : decode b_K_sumOfRefunds 9 = .ok (.if_icmp .ge 23, 3) := by decide +kernel
theorem d_K_sumOfRefunds_12 : decode b_K_sumOfRefunds 12 = .ok (.iload_n 2, 1) := by decide +kernel
theorem d_K_sumOfRefunds_13 : decode b_K_sumOfRefunds 13 = .ok (.bipush 60, 2) := by decide +kernel
theorem d_K_sumOfRefunds_15 : decode b_K_sumOfRefunds 15 = .ok (.if_icmp .ge 17, 3) := by decide +kernel
theorem d_K_sumOfRefunds_18 : decode b_K_sumOfRefunds 18 = .ok (.iload_n 1, 1) := by decide +kernel
theorem d_K_sumOfRefunds_19 : decode b_K_sumOfRefunds 19 = .ok (.aload_n 0, 1) := by decide +kernel
theorem d_K_sumOfRefunds_20 : decode b_K_sumOfRefunds 20 = .ok (.iload_n 2, 1) := by decide +kernel
theorem d_K_sumOfRefunds_21 : decode b_K_sumOfRefunds 21 = .ok (.invokevirtual 49, 3) := by decide +kernel
theorem d_K_sumOfRefunds_24 : decode b_K_sumOfRefunds 24 = .ok (.iadd, 1) := by decide +kernel
theorem d_K_sumOfRefunds_25 : decode b_K_sumOfRefunds 25 = .ok (.istore_n 1, 1) := by decide +kernel
theorem d_K_sumOfRefunds_26 : decode b_K_sumOfRefunds 26 = .ok (.iinc 2 1, 3) := by decide +kernel
theorem d_K_sumOfRefunds_29 : decode b_K_sumOfRefunds 29 = .ok (.goto (-25), 3) := by decide +kernel
theorem d_K_sumOfRefunds_32 : decode b_K_sumOfRefunds 32 = .ok (.iload_n 1, 1) := by decide +kernel
theorem d_K_sumOfRefunds_33 : decode b_K_sumOfRefunds 33 = .ok (.ireturn, 1) := by decide +kernel
theorem d_W_init_0 : decode b_W_init 0 = .ok (.aload_n 0, 1) := by decide +kernel
theorem d_W_init_1 : decode b_W_init 1 = .ok (.invokespecial 3, 3) := by decide +kernel
theorem d_W_init_4 : decode b_W_init 4 = .ok (.aload_n 0, 1) := by decide +kernel
theorem d_W_init_5 : decode b_W_init 5 = .ok (.bipush 7, 2) := by decide +kernel
theorem d_W_init_7 : decode b_W_init 7 = .ok (.newarray .int, 2) := by decide +kernel
theorem d_W_init_9 : decode b_W_init 9 = .ok (.putfield 9, 3) := by decide +kernel
theorem d_W_init_12 : decode b_W_init 12 = .ok (.aload_n 0, 1) := by decide +kernel
theorem d_W_init_13 : decode b_W_init 13 = .ok (.bipush 7, 2) := by decide +kernel
theorem d_W_init_15 : decode b_W_init 15 = .ok (.newarray .int, 2) := by decide +kernel
theorem d_W_init_17 : decode b_W_init 17 = .ok (.putfield 15, 3) := by decide +kernel
theorem d_W_init_20 : decode b_W_init 20 = .ok (.aload_n 0, 1) := by decide +kernel
theorem d_W_init_21 : decode b_W_init 21 = .ok (.bipush 7, 2) := by decide +kernel
theorem d_W_init_23 : decode b_W_init 23 = .ok (.newarray .int, 2) := by decide +kernel
theorem d_W_init_25 : decode b_W_init 25 = .ok (.putfield 18, 3) := by decide +kernel
theorem d_W_init_28 : decode b_W_init 28 = .ok (.aload_n 0, 1) := by decide +kernel
theorem d_W_init_29 : decode b_W_init 29 = .ok (.bipush 7, 2) := by decide +kernel
theorem d_W_init_31 : decode b_W_init 31 = .ok (.newarray .boolean, 2) := by decide +kernel
theorem d_W_init_33 : decode b_W_init 33 = .ok (.putfield 21, 3) := by decide +kernel
theorem d_W_init_36 : decode b_W_init 36 = .ok (.iconst 0, 1) := by decide +kernel
theorem d_W_init_37 : decode b_W_init 37 = .ok (.istore_n 1, 1) := by decide +kernel
theorem d_W_init_38 : decode b_W_init 38 = .ok (.iload_n 1, 1) := by decide +kernel
theorem d_W_init_39 : decode b_W_init 39 = .ok (.bipush 7, 2) := by decide +kernel
theorem d_W_init_41 : decode b_W_init 41 = .ok (.if_icmp .ge 25, 3) := by decide +kernel
theorem d_W_init_44 : decode b_W_init 44 = .ok (.aload_n 0, 1) := by decide +kernel
theorem d_W_init_45 : decode b_W_init 45 = .ok (.getfield 15, 3) := by decide +kernel
theorem d_W_init_48 : decode b_W_init 48 = .ok (.iload_n 1, 1) := by decide +kernel
theorem d_W_init_49 : decode b_W_init 49 = .ok (.bipush 40, 2) := by decide +kernel
theorem d_W_init_51 : decode b_W_init 51 = .ok (.iastore, 1) := by decide +kernel
theorem d_W_init_52 : decode b_W_init 52 = .ok (.aload_n 0, 1) := by decide +kernel
theorem d_W_init_53 : decode b_W_init 53 = .ok (.getfield 18, 3) := by decide +kernel
theorem d_W_init_56 : decode b_W_init 56 = .ok (.iload_n 1, 1) := by decide +kernel
theorem d_W_init_57 : decode b_W_init 57 = .ok (.bipush 70, 2) := by decide +kernel
theorem d_W_init_59 : decode b_W_init 59 = .ok (.iastore, 1) := by decide +kernel
theorem d_W_init_60 : decode b_W_init 60 = .ok (.iinc 1 1, 3) := by decide +kernel
theorem d_W_init_63 : decode b_W_init 63 = .ok (.goto (-25), 3) := by decide +kernel
theorem d_W_init_66 : decode b_W_init 66 = .ok (.return_, 1) := by decide +kernel
theorem d_W_ballotOf_0 : decode b_W_ballotOf 0 = .ok (.aload_n 0, 1) := by decide +kernel
theorem d_W_ballotOf_1 : decode b_W_ballotOf 1 = .ok (.getfield 9, 3) := by decide +kernel
theorem d_W_ballotOf_4 : decode b_W_ballotOf 4 = .ok (.iload_n 1, 1) := by decide +kernel
theorem d_W_ballotOf_5 : decode b_W_ballotOf 5 = .ok (.iaload, 1) := by decide +kernel
theorem d_W_ballotOf_6 : decode b_W_ballotOf 6 = .ok (.aload_n 0, 1) := by decide +kernel
theorem d_W_ballotOf_7 : decode b_W_ballotOf 7 = .ok (.getfield 15, 3) := by decide +kernel
theorem d_W_ballotOf_10 : decode b_W_ballotOf 10 = .ok (.iload_n 1, 1) := by decide +kernel
theorem d_W_ballotOf_11 : decode b_W_ballotOf 11 = .ok (.iaload, 1) := by decide +kernel
theorem d_W_ballotOf_12 : decode b_W_ballotOf 12 = .ok (.if_icmp .ge 5, 3) := by decide +kernel
theorem d_W_ballotOf_15 : decode b_W_ballotOf 15 = .ok (.iconst 2, 1) := by decide +kernel
theorem d_W_ballotOf_16 : decode b_W_ballotOf 16 = .ok (.ireturn, 1) := by decide +kernel
theorem d_W_ballotOf_17 : decode b_W_ballotOf 17 = .ok (.aload_n 0, 1) := by decide +kernel
theorem d_W_ballotOf_18 : decode b_W_ballotOf 18 = .ok (.getfield 9, 3) := by decide +kernel
theorem d_W_ballotOf_21 : decode b_W_ballotOf 21 = .ok (.iload_n 1, 1) := by decide +kernel
theorem d_W_ballotOf_22 : decode b_W_ballotOf 22 = .ok (.iaload, 1) := by decide +kernel
theorem d_W_ballotOf_23 : decode b_W_ballotOf 23 = .ok (.aload_n 0, 1) := by decide +kernel
theorem d_W_ballotOf_24 : decode b_W_ballotOf 24 = .ok (.getfield 18, 3) := by decide +kernel
theorem d_W_ballotOf_27 : decode b_W_ballotOf 27 = .ok (.iload_n 1, 1) := by decide +kernel
theorem d_W_ballotOf_28 : decode b_W_ballotOf 28 = .ok (.iaload, 1) := by decide +kernel
theorem d_W_ballotOf_29 : decode b_W_ballotOf 29 = .ok (.if_icmp .ge 7, 3) := by decide +kernel
theorem d_W_ballotOf_32 : decode b_W_ballotOf 32 = .ok (.iconst 1, 1) := by decide +kernel
theorem d_W_ballotOf_33 : decode b_W_ballotOf 33 = .ok (.goto 4, 3) := by decide +kernel
theorem d_W_ballotOf_36 : decode b_W_ballotOf 36 = .ok (.iconst 0, 1) := by decide +kernel
theorem d_W_ballotOf_37 : decode b_W_ballotOf 37 = .ok (.ireturn, 1) := by decide +kernel
theorem d_W_countCutOff_0 : decode b_W_countCutOff 0 = .ok (.iconst 0, 1) := by decide +kernel
theorem d_W_countCutOff_1 : decode b_W_countCutOff 1 = .ok (.istore_n 1, 1) := by decide +kernel
theorem d_W_countCutOff_2 : decode b_W_countCutOff 2 = .ok (.iconst 0, 1) := by decide +kernel
theorem d_W_countCutOff_3 : decode b_W_countCutOff 3 = .ok (.istore_n 2, 1) := by decide +kernel
theorem d_W_countCutOff_4 : decode b_W_countCutOff 4 = .ok (.iload_n 2, 1) := by decide +kernel
theorem d_W_countCutOff_5 : decode b_W_countCutOff 5 = .ok (.bipush 7, 2) := by decide +kernel
theorem d_W_countCutOff_7 : decode b_W_countCutOff 7 = .ok (.if_icmp .ge 21, 3) := by decide +kernel
theorem d_W_countCutOff_10 : decode b_W_countCutOff 10 = .ok (.aload_n 0, 1) := by decide +kernel
theorem d_W_countCutOff_11 : decode b_W_countCutOff 11 = .ok (.getfield 21, 3) := by decide +kernel
theorem d_W_countCutOff_14 : decode b_W_countCutOff 14 = .ok (.iload_n 2, 1) := by decide +kernel
theorem d_W_countCutOff_15 : decode b_W_countCutOff 15 = .ok (.baload, 1) := by decide +kernel
theorem d_W_countCutOff_16 : decode b_W_countCutOff 16 = .ok (.ifCond .eq 6, 3) := by decide +kernel
theorem d_W_countCutOff_19 : decode b_W_countCutOff 19 = .ok (.iinc 1 1, 3) := by decide +kernel
theorem d_W_countCutOff_22 : decode b_W_countCutOff 22 = .ok (.iinc 2 1, 3) := by decide +kernel
theorem d_W_countCutOff_25 : decode b_W_countCutOff 25 = .ok (.goto (-21), 3) := by decide +kernel
theorem d_W_countCutOff_28 : decode b_W_countCutOff 28 = .ok (.iload_n 1, 1) := by decide +kernel
theorem d_W_countCutOff_29 : decode b_W_countCutOff 29 = .ok (.ireturn, 1) := by decide +kernel
theorem d_W_delayOf_0 : decode b_W_delayOf 0 = .ok (.iconst (-1), 1) := by decide +kernel
theorem d_W_delayOf_1 : decode b_W_delayOf 1 = .ok (.istore_n 2, 1) := by decide +kernel
theorem d_W_delayOf_2 : decode b_W_delayOf 2 = .ok (.iconst 0, 1) := by decide +kernel
theorem d_W_delayOf_3 : decode b_W_delayOf 3 = .ok (.istore_n 3, 1) := by decide +kernel
theorem d_W_delayOf_4 : decode b_W_delayOf 4 = .ok (.iload_n 3, 1) := by decide +kernel
theorem d_W_delayOf_5 : decode b_W_delayOf 5 = .ok (.bipush 7, 2) := by decide +kernel
theorem d_W_delayOf_7 : decode b_W_delayOf 7 = .ok (.if_icmp .ge 43, 3) := by decide +kernel
theorem d_W_delayOf_10 : decode b_W_delayOf 10 = .ok (.aload_n 0, 1) := by decide +kernel
theorem d_W_delayOf_11 : decode b_W_delayOf 11 = .ok (.getfield 21, 3) := by decide +kernel
theorem d_W_delayOf_14 : decode b_W_delayOf 14 = .ok (.iload_n 3, 1) := by decide +kernel
theorem d_W_delayOf_15 : decode b_W_delayOf 15 = .ok (.baload, 1) := by decide +kernel
theorem d_W_delayOf_16 : decode b_W_delayOf 16 = .ok (.ifCond .ne 28, 3) := by decide +kernel
theorem d_W_delayOf_19 : decode b_W_delayOf 19 = .ok (.iload_n 1, 1) := by decide +kernel
theorem d_W_delayOf_20 : decode b_W_delayOf 20 = .ok (.iload_n 3, 1) := by decide +kernel
theorem d_W_delayOf_21 : decode b_W_delayOf 21 = .ok (.isub, 1) := by decide +kernel
theorem d_W_delayOf_22 : decode b_W_delayOf 22 = .ok (.invokestatic 25, 3) := by decide +kernel
theorem d_W_delayOf_25 : decode b_W_delayOf 25 = .ok (.istore 4, 2) := by decide +kernel
theorem d_W_delayOf_27 : decode b_W_delayOf 27 = .ok (.iload_n 2, 1) := by decide +kernel
theorem d_W_delayOf_28 : decode b_W_delayOf 28 = .ok (.iconst (-1), 1) := by decide +kernel
theorem d_W_delayOf_29 : decode b_W_delayOf 29 = .ok (.if_icmp .ne 8, 3) := by decide +kernel
theorem d_W_delayOf_32 : decode b_W_delayOf 32 = .ok (.iload 4, 2) := by decide +kernel
theorem d_W_delayOf_34 : decode b_W_delayOf 34 = .ok (.goto 9, 3) := by decide +kernel
theorem d_W_delayOf_37 : decode b_W_delayOf 37 = .ok (.iload_n 2, 1) := by decide +kernel
theorem d_W_delayOf_38 : decode b_W_delayOf 38 = .ok (.iload 4, 2) := by decide +kernel
theorem d_W_delayOf_40 : decode b_W_delayOf 40 = .ok (.invokestatic 31, 3) := by decide +kernel
theorem d_W_delayOf_43 : decode b_W_delayOf 43 = .ok (.istore_n 2, 1) := by decide +kernel
theorem d_W_delayOf_44 : decode b_W_delayOf 44 = .ok (.iinc 3 1, 3) := by decide +kernel
theorem d_W_delayOf_47 : decode b_W_delayOf 47 = .ok (.goto (-43), 3) := by decide +kernel
theorem d_W_delayOf_50 : decode b_W_delayOf 50 = .ok (.iload_n 2, 1) := by decide +kernel
theorem d_W_delayOf_51 : decode b_W_delayOf 51 = .ok (.ireturn, 1) := by decide +kernel
theorem d_V_init_0 : decode b_V_init 0 = .ok (.aload_n 0, 1) := by decide +kernel
theorem d_V_init_1 : decode b_V_init 1 = .ok (.invokespecial 1, 3) := by decide +kernel
theorem d_V_init_4 : decode b_V_init 4 = .ok (.aload_n 0, 1) := by decide +kernel
theorem d_V_init_5 : decode b_V_init 5 = .ok (.new 7, 3) := by decide +kernel
theorem d_V_init_8 : decode b_V_init 8 = .ok (.dup, 1) := by decide +kernel
theorem d_V_init_9 : decode b_V_init 9 = .ok (.invokespecial 9, 3) := by decide +kernel
theorem d_V_init_12 : decode b_V_init 12 = .ok (.putfield 10, 3) := by decide +kernel
theorem d_V_init_15 : decode b_V_init 15 = .ok (.aload_n 0, 1) := by decide +kernel
theorem d_V_init_16 : decode b_V_init 16 = .ok (.new 16, 3) := by decide +kernel
theorem d_V_init_19 : decode b_V_init 19 = .ok (.dup, 1) := by decide +kernel
theorem d_V_init_20 : decode b_V_init 20 = .ok (.invokespecial 18, 3) := by decide +kernel
theorem d_V_init_23 : decode b_V_init 23 = .ok (.putfield 19, 3) := by decide +kernel
theorem d_V_init_26 : decode b_V_init 26 = .ok (.aload_n 0, 1) := by decide +kernel
theorem d_V_init_27 : decode b_V_init 27 = .ok (.new 23, 3) := by decide +kernel
theorem d_V_init_30 : decode b_V_init 30 = .ok (.dup, 1) := by decide +kernel
theorem d_V_init_31 : decode b_V_init 31 = .ok (.invokespecial 25, 3) := by decide +kernel
theorem d_V_init_34 : decode b_V_init 34 = .ok (.putfield 26, 3) := by decide +kernel
theorem d_V_init_37 : decode b_V_init 37 = .ok (.aload_n 0, 1) := by decide +kernel
theorem d_V_init_38 : decode b_V_init 38 = .ok (.new 30, 3) := by decide +kernel
theorem d_V_init_41 : decode b_V_init 41 = .ok (.dup, 1) := by decide +kernel
theorem d_V_init_42 : decode b_V_init 42 = .ok (.invokespecial 32, 3) := by decide +kernel
theorem d_V_init_45 : decode b_V_init 45 = .ok (.putfield 33, 3) := by decide +kernel
theorem d_V_init_48 : decode b_V_init 48 = .ok (.aload_n 0, 1) := by decide +kernel
theorem d_V_init_49 : decode b_V_init 49 = .ok (.new 37, 3) := by decide +kernel
theorem d_V_init_52 : decode b_V_init 52 = .ok (.dup, 1) := by decide +kernel
theorem d_V_init_53 : decode b_V_init 53 = .ok (.invokespecial 39, 3) := by decide +kernel
theorem d_V_init_56 : decode b_V_init 56 = .ok (.putfield 40, 3) := by decide +kernel
theorem d_V_init_59 : decode b_V_init 59 = .ok (.aload_n 0, 1) := by decide +kernel
theorem d_V_init_60 : decode b_V_init 60 = .ok (.sipush 1001, 3) := by decide +kernel
theorem d_V_init_63 : decode b_V_init 63 = .ok (.newarray .int, 2) := by decide +kernel
theorem d_V_init_65 : decode b_V_init 65 = .ok (.putfield 44, 3) := by decide +kernel
theorem d_V_init_68 : decode b_V_init 68 = .ok (.aload_n 0, 1) := by decide +kernel
theorem d_V_init_69 : decode b_V_init 69 = .ok (.iconst 0, 1) := by decide +kernel
theorem d_V_init_70 : decode b_V_init 70 = .ok (.putfield 48, 3) := by decide +kernel
theorem d_V_init_73 : decode b_V_init 73 = .ok (.aload_n 0, 1) := by decide +kernel
theorem d_V_init_74 : decode b_V_init 74 = .ok (.iconst 0, 1) := by decide +kernel
theorem d_V_init_75 : decode b_V_init 75 = .ok (.putfield 52, 3) := by decide +kernel
theorem d_V_init_78 : decode b_V_init 78 = .ok (.aload_n 0, 1) := by decide +kernel
theorem d_V_init_79 : decode b_V_init 79 = .ok (.iconst 0, 1) := by decide +kernel
theorem d_V_init_80 : decode b_V_init 80 = .ok (.putfield 55, 3) := by decide +kernel
theorem d_V_init_83 : decode b_V_init 83 = .ok (.return_, 1) := by decide +kernel
theorem d_V_putOn_0 : decode b_V_putOn 0 = .ok (.aload_n 0, 1) := by decide +kernel
theorem d_V_putOn_1 : decode b_V_putOn 1 = .ok (.getfield 10, 3) := by decide +kernel
theorem d_V_putOn_4 : decode b_V_putOn 4 = .ok (.invokevirtual 59, 3) := by decide +kernel
theorem d_V_putOn_7 : decode b_V_putOn 7 = .ok (.ifCond .ne 13, 3) := by decide +kernel
theorem d_V_putOn_10 : decode b_V_putOn 10 = .ok (.new 63, 3) := by decide +kernel
theorem d_V_putOn_13 : decode b_V_putOn 13 = .ok (.dup, 1) := by decide +kernel
theorem d_V_putOn_14 : decode b_V_putOn 14 = .ok (.ldc 65, 2) := by decide +kernel
theorem d_V_putOn_16 : decode b_V_putOn 16 = .ok (.invokespecial 67, 3) := by decide +kernel
theorem d_V_putOn_19 : decode b_V_putOn 19 = .ok (.athrow, 1) := by decide +kernel
theorem d_V_putOn_20 : decode b_V_putOn 20 = .ok (.aload_n 0, 1) := by decide +kernel
theorem d_V_putOn_21 : decode b_V_putOn 21 = .ok (.getfield 10, 3) := by decide +kernel
theorem d_V_putOn_24 : decode b_V_putOn 24 = .ok (.aload_n 0, 1) := by decide +kernel
theorem d_V_putOn_25 : decode b_V_putOn 25 = .ok (.getfield 52, 3) := by decide +kernel
theorem d_V_putOn_28 : decode b_V_putOn 28 = .ok (.invokevirtual 70, 3) := by decide +kernel
theorem d_V_putOn_31 : decode b_V_putOn 31 = .ok (.ireturn, 1) := by decide +kernel
theorem d_V_takeOff_0 : decode b_V_takeOff 0 = .ok (.aload_n 0, 1) := by decide +kernel
theorem d_V_takeOff_1 : decode b_V_takeOff 1 = .ok (.getfield 10, 3) := by decide +kernel
theorem d_V_takeOff_4 : decode b_V_takeOff 4 = .ok (.iload_n 1, 1) := by decide +kernel
theorem d_V_takeOff_5 : decode b_V_takeOff 5 = .ok (.invokevirtual 74, 3) := by decide +kernel
theorem d_V_takeOff_8 : decode b_V_takeOff 8 = .ok (.ifCond .ne 13, 3) := by decide +kernel
theorem d_V_takeOff_11 : decode b_V_takeOff 11 = .ok (.new 78, 3) := by decide +kernel
theorem d_V_takeOff_14 : decode b_V_takeOff 14 = .ok (.dup, 1) := by decide +kernel
theorem d_V_takeOff_15 : decode b_V_takeOff 15 = .ok (.ldc 80, 2) := by decide +kernel
theorem d_V_takeOff_17 : decode b_V_takeOff 17 = .ok (.invokespecial 82, 3) := by decide +kernel
theorem d_V_takeOff_20 : decode b_V_takeOff 20 = .ok (.athrow, 1) := by decide +kernel
theorem d_V_takeOff_21 : decode b_V_takeOff 21 = .ok (.aload_n 0, 1) := by decide +kernel
theorem d_V_takeOff_22 : decode b_V_takeOff 22 = .ok (.getfield 10, 3) := by decide +kernel
theorem d_V_takeOff_25 : decode b_V_takeOff 25 = .ok (.getfield 83, 3) := by decide +kernel
theorem d_V_takeOff_28 : decode b_V_takeOff 28 = .ok (.iload_n 1, 1) := by decide +kernel
theorem d_V_takeOff_29 : decode b_V_takeOff 29 = .ok (.iaload, 1) := by decide +kernel
theorem d_V_takeOff_30 : decode b_V_takeOff 30 = .ok (.invokestatic 86, 3) := by decide +kernel
theorem d_V_takeOff_33 : decode b_V_takeOff 33 = .ok (.ifCond .eq 14, 3) := by decide +kernel
theorem d_V_takeOff_36 : decode b_V_takeOff 36 = .ok (.aload_n 0, 1) := by decide +kernel
theorem d_V_takeOff_37 : decode b_V_takeOff 37 = .ok (.getfield 40, 3) := by decide +kernel
theorem d_V_takeOff_40 : decode b_V_takeOff 40 = .ok (.iload_n 1, 1) := by decide +kernel
theorem d_V_takeOff_41 : decode b_V_takeOff 41 = .ok (.invokevirtual 89, 3) := by decide +kernel
theorem d_V_takeOff_44 : decode b_V_takeOff 44 = .ok (.ifCond .le 13, 3) := by decide +kernel
theorem d_V_takeOff_47 : decode b_V_takeOff 47 = .ok (.new 63, 3) := by decide +kernel
theorem d_V_takeOff_50 : decode b_V_takeOff 50 = .ok (.dup, 1) := by decide +kernel
theorem d_V_takeOff_51 : decode b_V_takeOff 51 = .ok (.ldc 92, 2) := by decide +kernel
theorem d_V_takeOff_53 : decode b_V_takeOff 53 = .ok (.invokespecial 67, 3) := by decide +kernel
theorem d_V_takeOff_56 : decode b_V_takeOff 56 = .ok (.athrow, 1) := by decide +kernel
theorem d_V_takeOff_57 : decode b_V_takeOff 57 = .ok (.aload_n 0, 1) := by decide +kernel
theorem d_V_takeOff_58 : decode b_V_takeOff 58 = .ok (.getfield 10, 3) := by decide +kernel
theorem d_V_takeOff_61 : decode b_V_takeOff 61 = .ok (.getfield 94, 3) := by decide +kernel
theorem d_V_takeOff_64 : decode b_V_takeOff 64 = .ok (.iload_n 1, 1) := by decide +kernel
theorem d_V_takeOff_65 : decode b_V_takeOff 65 = .ok (.iconst 0, 1) := by decide +kernel
theorem d_V_takeOff_66 : decode b_V_takeOff 66 = .ok (.bastore, 1) := by decide +kernel
theorem d_V_takeOff_67 : decode b_V_takeOff 67 = .ok (.aload_n 0, 1) := by decide +kernel
theorem d_V_takeOff_68 : decode b_V_takeOff 68 = .ok (.getfield 52, 3) := by decide +kernel
theorem d_V_takeOff_71 : decode b_V_takeOff 71 = .ok (.aload_n 0, 1) := by decide +kernel
theorem d_V_takeOff_72 : decode b_V_takeOff 72 = .ok (.getfield 10, 3) := by decide +kernel
theorem d_V_takeOff_75 : decode b_V_takeOff 75 = .ok (.getfield 98, 3) := by decide +kernel
theorem d_V_takeOff_78 : decode b_V_takeOff 78 = .ok (.iload_n 1, 1) := by decide +kernel
theorem d_V_takeOff_79 : decode b_V_takeOff 79 = .ok (.iaload, 1) := by decide +kernel
theorem d_V_takeOff_80 : decode b_V_takeOff 80 = .ok (.isub, 1) := by decide +kernel
theorem d_V_takeOff_81 : decode b_V_takeOff 81 = .ok (.ireturn, 1) := by decide +kernel
theorem d_V_cars_0 : decode b_V_cars 0 = .ok (.aload_n 0, 1) := by decide +kernel
theorem d_V_cars_1 : decode b_V_cars 1 = .ok (.getfield 10, 3) := by decide +kernel
theorem d_V_cars_4 : decode b_V_cars 4 = .ok (.invokevirtual 101, 3) := by decide +kernel
theorem d_V_cars_7 : decode b_V_cars 7 = .ok (.ireturn, 1) := by decide +kernel
theorem d_V_place_0 : decode b_V_place 0 = .ok (.aload_n 0, 1) := by decide +kernel
theorem d_V_place_1 : decode b_V_place 1 = .ok (.getfield 10, 3) := by decide +kernel
theorem d_V_place_4 : decode b_V_place 4 = .ok (.iload_n 1, 1) := by decide +kernel
theorem d_V_place_5 : decode b_V_place 5 = .ok (.invokevirtual 74, 3) := by decide +kernel
theorem d_V_place_8 : decode b_V_place 8 = .ok (.ifCond .ne 13, 3) := by decide +kernel
theorem d_V_place_11 : decode b_V_place 11 = .ok (.new 78, 3) := by decide +kernel
theorem d_V_place_14 : decode b_V_place 14 = .ok (.dup, 1) := by decide +kernel
theorem d_V_place_15 : decode b_V_place 15 = .ok (.ldc 80, 2) := by decide +kernel
theorem d_V_place_17 : decode b_V_place 17 = .ok (.invokespecial 82, 3) := by decide +kernel
theorem d_V_place_20 : decode b_V_place 20 = .ok (.athrow, 1) := by decide +kernel
theorem d_V_place_21 : decode b_V_place 21 = .ok (.aload_n 0, 1) := by decide +kernel
theorem d_V_place_22 : decode b_V_place 22 = .ok (.getfield 10, 3) := by decide +kernel
theorem d_V_place_25 : decode b_V_place 25 = .ok (.getfield 83, 3) := by decide +kernel
theorem d_V_place_28 : decode b_V_place 28 = .ok (.iload_n 1, 1) := by decide +kernel
theorem d_V_place_29 : decode b_V_place 29 = .ok (.iaload, 1) := by decide +kernel
theorem d_V_place_30 : decode b_V_place 30 = .ok (.ireturn, 1) := by decide +kernel
theorem d_V_placeByTurns_0 : decode b_V_placeByTurns 0 = .ok (.aload_n 0, 1) := by decide +kernel
theorem d_V_placeByTurns_1 : decode b_V_placeByTurns 1 = .ok (.getfield 10, 3) := by decide +kernel
theorem d_V_placeByTurns_4 : decode b_V_placeByTurns 4 = .ok (.iload_n 1, 1) := by decide +kernel
theorem d_V_placeByTurns_5 : decode b_V_placeByTurns 5 = .ok (.invokevirtual 74, 3) := by decide +kernel
theorem d_V_placeByTurns_8 : decode b_V_placeByTurns 8 = .ok (.ifCond .ne 13, 3) := by decide +kernel
theorem d_V_placeByTurns_11 : decode b_V_placeByTurns 11 = .ok (.new 78, 3) := by decide +kernel
theorem d_V_placeByTurns_14 : decode b_V_placeByTurns 14 = .ok (.dup, 1) := by decide +kernel
theorem d_V_placeByTurns_15 : decode b_V_placeByTurns 15 = .ok (.ldc 80, 2) := by decide +kernel
theorem d_V_placeByTurns_17 : decode b_V_placeByTurns 17 = .ok (.invokespecial 82, 3) := by decide +kernel
theorem d_V_placeByTurns_20 : decode b_V_placeByTurns 20 = .ok (.athrow, 1) := by decide +kernel
theorem d_V_placeByTurns_21 : decode b_V_placeByTurns 21 = .ok (.aload_n 0, 1) := by decide +kernel
theorem d_V_placeByTurns_22 : decode b_V_placeByTurns 22 = .ok (.getfield 52, 3) := by decide +kernel
theorem d_V_placeByTurns_25 : decode b_V_placeByTurns 25 = .ok (.aload_n 0, 1) := by decide +kernel
theorem d_V_placeByTurns_26 : decode b_V_placeByTurns 26 = .ok (.getfield 10, 3) := by decide +kernel
theorem d_V_placeByTurns_29 : decode b_V_placeByTurns 29 = .ok (.getfield 98, 3) := by decide +kernel
theorem d_V_placeByTurns_32 : decode b_V_placeByTurns 32 = .ok (.iload_n 1, 1) := by decide +kernel
theorem d_V_placeByTurns_33 : decode b_V_placeByTurns 33 = .ok (.iaload, 1) := by decide +kernel
theorem d_V_placeByTurns_34 : decode b_V_placeByTurns 34 = .ok (.isub, 1) := by decide +kernel
theorem d_V_placeByTurns_35 : decode b_V_placeByTurns 35 = .ok (.sipush 1200, 3) := by decide +kernel
theorem d_V_placeByTurns_38 : decode b_V_placeByTurns 38 = .ok (.irem, 1) := by decide +kernel
theorem d_V_placeByTurns_39 : decode b_V_placeByTurns 39 = .ok (.ireturn, 1) := by decide +kernel
theorem d_V_leastGap_0 : decode b_V_leastGap 0 = .ok (.aload_n 0, 1) := by decide +kernel
theorem d_V_leastGap_1 : decode b_V_leastGap 1 = .ok (.getfield 10, 3) := by decide +kernel
theorem d_V_leastGap_4 : decode b_V_leastGap 4 = .ok (.invokevirtual 105, 3) := by decide +kernel
theorem d_V_leastGap_7 : decode b_V_leastGap 7 = .ok (.ireturn, 1) := by decide +kernel
theorem d_V_wind_0 : decode b_V_wind 0 = .ok (.iload_n 1, 1) := by decide +kernel
theorem d_V_wind_1 : decode b_V_wind 1 = .ok (.invokestatic 108, 3) := by decide +kernel
theorem d_V_wind_4 : decode b_V_wind 4 = .ok (.ifCond .ne 13, 3) := by decide +kernel
theorem d_V_wind_7 : decode b_V_wind 7 = .ok (.new 78, 3) := by decide +kernel
theorem d_V_wind_10 : decode b_V_wind 10 = .ok (.dup, 1) := by decide +kernel
theorem d_V_wind_11 : decode b_V_wind 11 = .ok (.ldc 111, 2) := by decide +kernel
theorem d_V_wind_13 : decode b_V_wind 13 = .ok (.invokespecial 82, 3) := by decide +kernel
theorem d_V_wind_16 : decode b_V_wind 16 = .ok (.athrow, 1) := by decide +kernel
theorem d_V_wind_17 : decode b_V_wind 17 = .ok (.iload_n 2, 1) := by decide +kernel
theorem d_V_wind_18 : decode b_V_wind 18 = .ok (.ifCond .lt 10, 3) := by decide +kernel
theorem d_V_wind_21 : decode b_V_wind 21 = .ok (.iload_n 2, 1) := by decide +kernel
theorem d_V_wind_22 : decode b_V_wind 22 = .ok (.sipush 150, 3) := by decide +kernel
theorem d_V_wind_25 : decode b_V_wind 25 = .ok (.if_icmp .le 13, 3) := by decide +kernel
theorem d_V_wind_28 : decode b_V_wind 28 = .ok (.new 113, 3) := by decide +kernel
theorem d_V_wind_31 : decode b_V_wind 31 = .ok (.dup, 1) := by decide +kernel
theorem d_V_wind_32 : decode b_V_wind 32 = .ok (.ldc 115, 2) := by decide +kernel
theorem d_V_wind_34 : decode b_V_wind 34 = .ok (.invokespecial 117, 3) := by decide +kernel
theorem d_V_wind_37 : decode b_V_wind 37 = .ok (.athrow, 1) := by decide +kernel
theorem d_V_wind_38 : decode b_V_wind 38 = .ok (.aload_n 0, 1) := by decide +kernel
theorem d_V_wind_39 : decode b_V_wind 39 = .ok (.getfield 19, 3) := by decide +kernel
theorem d_V_wind_42 : decode b_V_wind 42 = .ok (.getfield 118, 3) := by decide +kernel
theorem d_V_wind_45 : decode b_V_wind 45 = .ok (.iload_n 1, 1) := by decide +kernel
theorem d_V_wind_46 : decode b_V_wind 46 = .ok (.iload_n 2, 1) := by decide +kernel
theorem d_V_wind_47 : decode b_V_wind 47 = .ok (.iastore, 1) := by decide +kernel
theorem d_V_wind_48 : decode b_V_wind 48 = .ok (.aload_n 0, 1) := by decide +kernel
theorem d_V_wind_49 : decode b_V_wind 49 = .ok (.getfield 19, 3) := by decide +kernel
theorem d_V_wind_52 : decode b_V_wind 52 = .ok (.iload_n 1, 1) := by decide +kernel
theorem d_V_wind_53 : decode b_V_wind 53 = .ok (.invokevirtual 121, 3) := by decide +kernel
theorem d_V_wind_56 : decode b_V_wind 56 = .ok (.ireturn, 1) := by decide +kernel
theorem d_V_setLimits_0 : decode b_V_setLimits 0 = .ok (.iload_n 1, 1) := by decide +kernel
theorem d_V_setLimits_1 : decode b_V_setLimits 1 = .ok (.invokestatic 108, 3) := by decide +kernel
theorem d_V_setLimits_4 : decode b_V_setLimits 4 = .ok (.ifCond .ne 13, 3) := by decide +kernel
theorem d_V_setLimits_7 : decode b_V_setLimits 7 = .ok (.new 78, 3) := by decide +kernel
theorem d_V_setLimits_10 : decode b_V_setLimits 10 = .ok (.dup, 1) := by decide +kernel
theorem d_V_setLimits_11 : decode b_V_setLimits 11 = .ok (.ldc 111, 2) := by decide +kernel
theorem d_V_setLimits_13 : decode b_V_setLimits 13 = .ok (.invokespecial 82, 3) := by decide +kernel
theorem d_V_setLimits_16 : decode b_V_setLimits 16 = .ok (.athrow, 1) := by decide +kernel
theorem d_V_setLimits_17 : decode b_V_setLimits 17 = .ok (.iload_n 2, 1) := by decide +kernel
theorem d_V_setLimits_18 : decode b_V_setLimits 18 = .ok (.ifCond .lt 22, 3) := by decide +kernel
theorem d_V_setLimits_21 : decode b_V_setLimits 21 = .ok (.iload_n 2, 1) := by decide +kernel
theorem d_V_setLimits_22 : decode b_V_setLimits 22 = .ok (.sipush 150, 3) := by decide +kernel
theorem d_V_setLimits_25 : decode b_V_setLimits 25 = .ok (.if_icmp .gt 15, 3) := by decide +kernel
theorem d_V_setLimits_28 : decode b_V_setLimits 28 = .ok (.iload_n 3, 1) := by decide +kernel
theorem d_V_setLimits_29 : decode b_V_setLimits 29 = .ok (.iload_n 2, 1) := by decide +kernel
theorem d_V_setLimits_30 : decode b_V_setLimits 30 = .ok (.if_icmp .lt 10, 3) := by decide +kernel
theorem d_V_setLimits_33 : decode b_V_setLimits 33 = .ok (.iload_n 3, 1) := by decide +kernel
theorem d_V_setLimits_34 : decode b_V_setLimits 34 = .ok (.sipush 150, 3) := by decide +kernel
theorem d_V_setLimits_37 : decode b_V_setLimits 37 = .ok (.if_icmp .le 13, 3) := by decide +kernel
theorem d_V_setLimits_40 : decode b_V_setLimits 40 = .ok (.new 113, 3) := by decide +kernel
theorem d_V_setLimits_43 : decode b_V_setLimits 43 = .ok (.dup, 1) := by decide +kernel
theorem d_V_setLimits_44 : decode b_V_setLimits 44 = .ok (.ldc 124, 2) := by decide +kernel
theorem d_V_setLimits_46 : decode b_V_setLimits 46 = .ok (.invokespecial 117, 3) := by decide +kernel
theorem d_V_setLimits_49 : decode b_V_setLimits 49 = .ok (.athrow, 1) := by decide +kernel
theorem d_V_setLimits_50 : decode b_V_setLimits 50 = .ok (.aload_n 0, 1) := by decide +kernel
theorem d_V_setLimits_51 : decode b_V_setLimits 51 = .ok (.getfield 19, 3) := by decide +kernel
theorem d_V_setLimits_54 : decode b_V_setLimits 54 = .ok (.getfield 126, 3) := by decide +kernel
theorem d_V_setLimits_57 : decode b_V_setLimits 57 = .ok (.iload_n 1, 1) := by decide +kernel
theorem d_V_setLimits_58 : decode b_V_setLimits 58 = .ok (.iload_n 2, 1) := by decide +kernel
theorem d_V_setLimits_59 : decode b_V_setLimits 59 = .ok (.iastore, 1) := by decide +kernel
theorem d_V_setLimits_60 : decode b_V_setLimits 60 = .ok (.aload_n 0, 1) := by decide +kernel
theorem d_V_setLimits_61 : decode b_V_setLimits 61 = .ok (.getfield 19, 3) := by decide +kernel
theorem d_V_setLimits_64 : decode b_V_setLimits 64 = .ok (.getfield 129, 3) := by decide +kernel
theorem d_V_setLimits_67 : decode b_V_setLimits 67 = .ok (.iload_n 1, 1) := by decide +kernel
theorem d_V_setLimits_68 : decode b_V_setLimits 68 = .ok (.iload_n 3, 1) := by decide +kernel
theorem d_V_setLimits_69 : decode b_V_setLimits 69 = .ok (.iastore, 1) := by decide +kernel
theorem d_V_setLimits_70 : decode b_V_setLimits 70 = .ok (.aload_n 0, 1) := by decide +kernel
theorem d_V_setLimits_71 : decode b_V_setLimits 71 = .ok (.getfield 19, 3) := by decide +kernel
theorem d_V_setLimits_74 : decode b_V_setLimits 74 = .ok (.iload_n 1, 1) := by decide +kernel
theorem d_V_setLimits_75 : decode b_V_setLimits 75 = .ok (.invokevirtual 121, 3) := by decide +kernel
theorem d_V_setLimits_78 : decode b_V_setLimits 78 = .ok (.ireturn, 1) := by decide +kernel
theorem d_V_cut_0 : decode b_V_cut 0 = .ok (.iload_n 1, 1) := by decide +kernel
theorem d_V_cut_1 : decode b_V_cut 1 = .ok (.invokestatic 108, 3) := by decide +kernel
theorem d_V_cut_4 : decode b_V_cut 4 = .ok (.ifCond .ne 13, 3) := by decide +kernel
theorem d_V_cut_7 : decode b_V_cut 7 = .ok (.new 78, 3) := by decide +kernel
theorem d_V_cut_10 : decode b_V_cut 10 = .ok (.dup, 1) := by decide +kernel
theorem d_V_cut_11 : decode b_V_cut 11 = .ok (.ldc 111, 2) := by decide +kernel
theorem d_V_cut_13 : decode b_V_cut 13 = .ok (.invokespecial 82, 3) := by decide +kernel
theorem d_V_cut_16 : decode b_V_cut 16 = .ok (.athrow, 1) := by decide +kernel
theorem d_V_cut_17 : decode b_V_cut 17 = .ok (.aload_n 0, 1) := by decide +kernel
theorem d_V_cut_18 : decode b_V_cut 18 = .ok (.getfield 19, 3) := by decide +kernel
theorem d_V_cut_21 : decode b_V_cut 21 = .ok (.getfield 132, 3) := by decide +kernel
theorem d_V_cut_24 : decode b_V_cut 24 = .ok (.iload_n 1, 1) := by decide +kernel
theorem d_V_cut_25 : decode b_V_cut 25 = .ok (.iload_n 2, 1) := by decide +kernel
theorem d_V_cut_26 : decode b_V_cut 26 = .ok (.bastore, 1) := by decide +kernel
theorem d_V_cut_27 : decode b_V_cut 27 = .ok (.aload_n 0, 1) := by decide +kernel
theorem d_V_cut_28 : decode b_V_cut 28 = .ok (.getfield 19, 3) := by decide +kernel
theorem d_V_cut_31 : decode b_V_cut 31 = .ok (.invokevirtual 135, 3) := by decide +kernel
theorem d_V_cut_34 : decode b_V_cut 34 = .ok (.ireturn, 1) := by decide +kernel
theorem d_V_vote_0 : decode b_V_vote 0 = .ok (.iload_n 1, 1) := by decide +kernel
theorem d_V_vote_1 : decode b_V_vote 1 = .ok (.invokestatic 108, 3) := by decide +kernel
theorem d_V_vote_4 : decode b_V_vote 4 = .ok (.ifCond .ne 13, 3) := by decide +kernel
theorem d_V_vote_7 : decode b_V_vote 7 = .ok (.new 78, 3) := by decide +kernel
theorem d_V_vote_10 : decode b_V_vote 10 = .ok (.dup, 1) := by decide +kernel
theorem d_V_vote_11 : decode b_V_vote 11 = .ok (.ldc 111, 2) := by decide +kernel
theorem d_V_vote_13 : decode b_V_vote 13 = .ok (.invokespecial 82, 3) := by decide +kernel
theorem d_V_vote_16 : decode b_V_vote 16 = .ok (.athrow, 1) := by decide +kernel
theorem d_V_vote_17 : decode b_V_vote 17 = .ok (.aload_n 0, 1) := by decide +kernel
theorem d_V_vote_18 : decode b_V_vote 18 = .ok (.getfield 33, 3) := by decide +kernel
theorem d_V_vote_21 : decode b_V_vote 21 = .ok (.getfield 138, 3) := by decide +kernel
theorem d_V_vote_24 : decode b_V_vote 24 = .ok (.iload_n 1, 1) := by decide +kernel
theorem d_V_vote_25 : decode b_V_vote 25 = .ok (.iaload, 1) := by decide +kernel
theorem d_V_vote_26 : decode b_V_vote 26 = .ok (.ireturn, 1) := by decide +kernel
theorem d_V_voteTime_0 : decode b_V_voteTime 0 = .ok (.iload_n 1, 1) := by decide +kernel
theorem d_V_voteTime_1 : decode b_V_voteTime 1 = .ok (.invokestatic 108, 3) := by decide +kernel
theorem d_V_voteTime_4 : decode b_V_voteTime 4 = .ok (.ifCond .ne 13, 3) := by decide +kernel
theorem d_V_voteTime_7 : decode b_V_voteTime 7 = .ok (.new 78, 3) := by decide +kernel
theorem d_V_voteTime_10 : decode b_V_voteTime 10 = .ok (.dup, 1) := by decide +kernel
theorem d_V_voteTime_11 : decode b_V_voteTime 11 = .ok (.ldc 111, 2) := by decide +kernel
theorem d_V_voteTime_13 : decode b_V_voteTime 13 = .ok (.invokespecial 82, 3) := by decide +kernel
theorem d_V_voteTime_16 : decode b_V_voteTime 16 = .ok (.athrow, 1) := by decide +kernel
theorem d_V_voteTime_17 : decode b_V_voteTime 17 = .ok (.aload_n 0, 1) := by decide +kernel
theorem d_V_voteTime_18 : decode b_V_voteTime 18 = .ok (.getfield 33, 3) := by decide +kernel
theorem d_V_voteTime_21 : decode b_V_voteTime 21 = .ok (.getfield 141, 3) := by decide +kernel
theorem d_V_voteTime_24 : decode b_V_voteTime 24 = .ok (.iload_n 1, 1) := by decide +kernel
theorem d_V_voteTime_25 : decode b_V_voteTime 25 = .ok (.iaload, 1) := by decide +kernel
theorem d_V_voteTime_26 : decode b_V_voteTime 26 = .ok (.ireturn, 1) := by decide +kernel
theorem d_V_fresh_0 : decode b_V_fresh 0 = .ok (.aload_n 0, 1) := by decide +kernel
theorem d_V_fresh_1 : decode b_V_fresh 1 = .ok (.getfield 33, 3) := by decide +kernel
theorem d_V_fresh_4 : decode b_V_fresh 4 = .ok (.aload_n 0, 1) := by decide +kernel
theorem d_V_fresh_5 : decode b_V_fresh 5 = .ok (.getfield 48, 3) := by decide +kernel
theorem d_V_fresh_8 : decode b_V_fresh 8 = .ok (.invokevirtual 144, 3) := by decide +kernel
theorem d_V_fresh_11 : decode b_V_fresh 11 = .ok (.ireturn, 1) := by decide +kernel
theorem d_V_onTheWay_0 : decode b_V_onTheWay 0 = .ok (.aload_n 0, 1) := by decide +kernel
theorem d_V_onTheWay_1 : decode b_V_onTheWay 1 = .ok (.getfield 26, 3) := by decide +kernel
theorem d_V_onTheWay_4 : decode b_V_onTheWay 4 = .ok (.aload_n 0, 1) := by decide +kernel
theorem d_V_onTheWay_5 : decode b_V_onTheWay 5 = .ok (.getfield 48, 3) := by decide +kernel
theorem d_V_onTheWay_8 : decode b_V_onTheWay 8 = .ok (.invokevirtual 147, 3) := by decide +kernel
theorem d_V_onTheWay_11 : decode b_V_onTheWay 11 = .ok (.ireturn, 1) := by decide +kernel
theorem d_V_wouldDecide_0 : decode b_V_wouldDecide 0 = .ok (.aload_n 0, 1) := by decide +kernel
theorem d_V_wouldDecide_1 : decode b_V_wouldDecide 1 = .ok (.getfield 55, 3) := by decide +kernel
theorem d_V_wouldDecide_4 : decode b_V_wouldDecide 4 = .ok (.ifCond .eq 7, 3) := by decide +kernel
theorem d_V_wouldDecide_7 : decode b_V_wouldDecide 7 = .ok (.iconst 0, 1) := by decide +kernel
theorem d_V_wouldDecide_8 : decode b_V_wouldDecide 8 = .ok (.goto 14, 3) := by decide +kernel
theorem d_V_wouldDecide_11 : decode b_V_wouldDecide 11 = .ok (.aload_n 0, 1) := by decide +kernel
theorem d_V_wouldDecide_12 : decode b_V_wouldDecide 12 = .ok (.getfield 33, 3) := by decide +kernel
theorem d_V_wouldDecide_15 : decode b_V_wouldDecide 15 = .ok (.aload_n 0, 1) := by decide +kernel
theorem d_V_wouldDecide_16 : decode b_V_wouldDecide 16 = .ok (.getfield 48, 3) := by decide +kernel
theorem d_V_wouldDecide_19 : decode b_V_wouldDecide 19 = .ok (.invokevirtual 150, 3) := by decide +kernel
theorem d_V_wouldDecide_22 : decode b_V_wouldDecide 22 = .ok (.ireturn, 1) := by decide +kernel
theorem d_V_hold_0 : decode b_V_hold 0 = .ok (.aload_n 0, 1) := by decide +kernel
theorem d_V_hold_1 : decode b_V_hold 1 = .ok (.getfield 55, 3) := by decide +kernel
theorem d_V_hold_4 : decode b_V_hold 4 = .ok (.istore_n 2, 1) := by decide +kernel
theorem d_V_hold_5 : decode b_V_hold 5 = .ok (.aload_n 0, 1) := by decide +kernel
theorem d_V_hold_6 : decode b_V_hold 6 = .ok (.iload_n 1, 1) := by decide +kernel
theorem d_V_hold_7 : decode b_V_hold 7 = .ok (.putfield 55, 3) := by decide +kernel
theorem d_V_hold_10 : decode b_V_hold 10 = .ok (.iload_n 2, 1) := by decide +kernel
theorem d_V_hold_11 : decode b_V_hold 11 = .ok (.ireturn, 1) := by decide +kernel
theorem d_V_pass_0 : decode b_V_pass 0 = .ok (.iload_n 1, 1) := by decide +kernel
theorem d_V_pass_1 : decode b_V_pass 1 = .ok (.iconst 1, 1) := by decide +kernel
theorem d_V_pass_2 : decode b_V_pass 2 = .ok (.if_icmp .lt 9, 3) := by decide +kernel
theorem d_V_pass_5 : decode b_V_pass 5 = .ok (.iload_n 1, 1) := by decide +kernel
theorem d_V_pass_6 : decode b_V_pass 6 = .ok (.bipush 60, 2) := by decide +kernel
theorem d_V_pass_8 : decode b_V_pass 8 = .ok (.if_icmp .le 13, 3) := by decide +kernel
theorem d_V_pass_11 : decode b_V_pass 11 = .ok (.new 113, 3) := by decide +kernel
theorem d_V_pass_14 : decode b_V_pass 14 = .ok (.dup, 1) := by decide +kernel
theorem d_V_pass_15 : decode b_V_pass 15 = .ok (.ldc 153, 2) := by decide +kernel
theorem d_V_pass_17 : decode b_V_pass 17 = .ok (.invokespecial 117, 3) := by decide +kernel
theorem d_V_pass_20 : decode b_V_pass 20 = .ok (.athrow, 1) := by decide +kernel
theorem d_V_pass_21 : decode b_V_pass 21 = .ok (.aload_n 0, 1) := by decide +kernel
theorem d_V_pass_22 : decode b_V_pass 22 = .ok (.getfield 48, 3) := by decide +kernel
theorem d_V_pass_25 : decode b_V_pass 25 = .ok (.iload_n 1, 1) := by decide +kernel
theorem d_V_pass_26 : decode b_V_pass 26 = .ok (.iadd, 1) := by decide +kernel
theorem d_V_pass_27 : decode b_V_pass 27 = .ok (.sipush 1000, 3) := by decide +kernel
theorem d_V_pass_30 : decode b_V_pass 30 = .ok (.if_icmp .le 13, 3) := by decide +kernel
theorem d_V_pass_33 : decode b_V_pass 33 = .ok (.new 63, 3) := by decide +kernel
theorem d_V_pass_36 : decode b_V_pass 36 = .ok (.dup, 1) := by decide +kernel
theorem d_V_pass_37 : decode b_V_pass 37 = .ok (.ldc 155, 2) := by decide +kernel
theorem d_V_pass_39 : decode b_V_pass 39 = .ok (.invokespecial 67, 3) := by decide +kernel
theorem d_V_pass_42 : decode b_V_pass 42 = .ok (.athrow, 1) := by decide +kernel
theorem d_V_pass_43 : decode b_V_pass 43 = .ok (.aload_n 0, 1) := by decide +kernel
theorem d_V_pass_44 : decode b_V_pass 44 = .ok (.getfield 52, 3) := by decide +kernel
theorem d_V_pass_47 : decode b_V_pass 47 = .ok (.istore_n 2, 1) := by decide +kernel
theorem d_V_pass_48 : decode b_V_pass 48 = .ok (.iconst 0, 1) := by decide +kernel
theorem d_V_pass_49 : decode b_V_pass 49 = .ok (.istore_n 3, 1) := by decide +kernel
theorem d_V_pass_50 : decode b_V_pass 50 = .ok (.iload_n 3, 1) := by decide +kernel
theorem d_V_pass_51 : decode b_V_pass 51 = .ok (.iload_n 1, 1) := by decide +kernel
theorem d_V_pass_52 : decode b_V_pass 52 = .ok (.if_icmp .ge 13, 3) := by decide +kernel
theorem d_V_pass_55 : decode b_V_pass 55 = .ok (.aload_n 0, 1) := by decide +kernel
theorem d_V_pass_56 : decode b_V_pass 56 = .ok (.invokevirtual 157, 3) := by decide +kernel
theorem d_V_pass_59 : decode b_V_pass 59 = .ok (.iinc 3 1, 3) := by decide +kernel
theorem d_V_pass_62 : decode b_V_pass 62 = .ok (.goto (-12), 3) := by decide +kernel
theorem d_V_pass_65 : decode b_V_pass 65 = .ok (.aload_n 0, 1) := by decide +kernel
theorem d_V_pass_66 : decode b_V_pass 66 = .ok (.getfield 52, 3) := by decide +kernel
theorem d_V_pass_69 : decode b_V_pass 69 = .ok (.iload_n 2, 1) := by decide +kernel
theorem d_V_pass_70 : decode b_V_pass 70 = .ok (.isub, 1) := by decide +kernel
theorem d_V_pass_71 : decode b_V_pass 71 = .ok (.ireturn, 1) := by decide +kernel
theorem d_V_time_0 : decode b_V_time 0 = .ok (.aload_n 0, 1) := by decide +kernel
theorem d_V_time_1 : decode b_V_time 1 = .ok (.getfield 48, 3) := by decide +kernel
theorem d_V_time_4 : decode b_V_time 4 = .ok (.ireturn, 1) := by decide +kernel
theorem d_V_moved_0 : decode b_V_moved 0 = .ok (.aload_n 0, 1) := by decide +kernel
theorem d_V_moved_1 : decode b_V_moved 1 = .ok (.getfield 52, 3) := by decide +kernel
theorem d_V_moved_4 : decode b_V_moved 4 = .ok (.ireturn, 1) := by decide +kernel
theorem d_V_decided_0 : decode b_V_decided 0 = .ok (.iload_n 1, 1) := by decide +kernel
theorem d_V_decided_1 : decode b_V_decided 1 = .ok (.iconst 1, 1) := by decide +kernel
theorem d_V_decided_2 : decode b_V_decided 2 = .ok (.if_icmp .lt 20, 3) := by decide +kernel
theorem d_V_decided_5 : decode b_V_decided 5 = .ok (.iload_n 1, 1) := by decide +kernel
theorem d_V_decided_6 : decode b_V_decided 6 = .ok (.aload_n 0, 1) := by decide +kernel
theorem d_V_decided_7 : decode b_V_decided 7 = .ok (.getfield 48, 3) := by decide +kernel
theorem d_V_decided_10 : decode b_V_decided 10 = .ok (.if_icmp .gt 12, 3) := by decide +kernel
theorem d_V_decided_13 : decode b_V_decided 13 = .ok (.iload_n 1, 1) := by decide +kernel
theorem d_V_decided_14 : decode b_V_decided 14 = .ok (.aload_n 0, 1) := by decide +kernel
theorem d_V_decided_15 : decode b_V_decided 15 = .ok (.getfield 44, 3) := by decide +kernel
theorem d_V_decided_18 : decode b_V_decided 18 = .ok (.arraylength, 1) := by decide +kernel
theorem d_V_decided_19 : decode b_V_decided 19 = .ok (.if_icmp .lt 13, 3) := by decide +kernel
theorem d_V_decided_22 : decode b_V_decided 22 = .ok (.new 78, 3) := by decide +kernel
theorem d_V_decided_25 : decode b_V_decided 25 = .ok (.dup, 1) := by decide +kernel
theorem d_V_decided_26 : decode b_V_decided 26 = .ok (.ldc 160, 2) := by decide +kernel
theorem d_V_decided_28 : decode b_V_decided 28 = .ok (.invokespecial 82, 3) := by decide +kernel
theorem d_V_decided_31 : decode b_V_decided 31 = .ok (.athrow, 1) := by decide +kernel
theorem d_V_decided_32 : decode b_V_decided 32 = .ok (.aload_n 0, 1) := by decide +kernel
theorem d_V_decided_33 : decode b_V_decided 33 = .ok (.getfield 44, 3) := by decide +kernel
theorem d_V_decided_36 : decode b_V_decided 36 = .ok (.iload_n 1, 1) := by decide +kernel
theorem d_V_decided_37 : decode b_V_decided 37 = .ok (.iaload, 1) := by decide +kernel
theorem d_V_decided_38 : decode b_V_decided 38 = .ok (.ireturn, 1) := by decide +kernel
theorem d_V_minutes_0 : decode b_V_minutes 0 = .ok (.iload_n 1, 1) := by decide +kernel
theorem d_V_minutes_1 : decode b_V_minutes 1 = .ok (.ifCond .lt 8, 3) := by decide +kernel
theorem d_V_minutes_4 : decode b_V_minutes 4 = .ok (.iload_n 1, 1) := by decide +kernel
theorem d_V_minutes_5 : decode b_V_minutes 5 = .ok (.iconst 2, 1) := by decide +kernel
theorem d_V_minutes_6 : decode b_V_minutes 6 = .ok (.if_icmp .le 13, 3) := by decide +kernel
theorem d_V_minutes_9 : decode b_V_minutes 9 = .ok (.new 113, 3) := by decide +kernel
theorem d_V_minutes_12 : decode b_V_minutes 12 = .ok (.dup, 1) := by decide +kernel
theorem d_V_minutes_13 : decode b_V_minutes 13 = .ok (.ldc 162, 2) := by decide +kernel
theorem d_V_minutes_15 : decode b_V_minutes 15 = .ok (.invokespecial 117, 3) := by decide +kernel
theorem d_V_minutes_18 : decode b_V_minutes 18 = .ok (.athrow, 1) := by decide +kernel
theorem d_V_minutes_19 : decode b_V_minutes 19 = .ok (.iconst 0, 1) := by decide +kernel
theorem d_V_minutes_20 : decode b_V_minutes 20 = .ok (.istore_n 2, 1) := by decide +kernel
theorem d_V_minutes_21 : decode b_V_minutes 21 = .ok (.iconst 1, 1) := by decide +kernel
theorem d_V_minutes_22 : decode b_V_minutes 22 = .ok (.istore_n 3, 1) := by decide +kernel
theorem d_V_minutes_23 : decode b_V_minutes 23 = .ok (.iload_n 3, 1) := by decide +kernel
theorem d_V_minutes_24 : decode b_V_minutes 24 = .ok (.aload_n 0, 1) := by decide +kernel
theorem d_V_minutes_25 : decode b_V_minutes 25 = .ok (.getfield 48, 3) := by decide +kernel
theorem d_V_minutes_28 : decode b_V_minutes 28 = .ok (.if_icmp .gt 34, 3) := by decide +kernel
theorem d_V_minutes_31 : decode b_V_minutes 31 = .ok (.iload_n 3, 1) := by decide +kernel
theorem d_V_minutes_32 : decode b_V_minutes 32 = .ok (.aload_n 0, 1) := by decide +kernel
theorem d_V_minutes_33 : decode b_V_minutes 33 = .ok (.getfield 44, 3) := by decide +kernel
theorem d_V_minutes_36 : decode b_V_minutes 36 = .ok (.arraylength, 1) := by decide +kernel
theorem d_V_minutes_37 : decode b_V_minutes 37 = .ok (.if_icmp .ge 25, 3) := by decide +kernel
theorem d_V_minutes_40 : decode b_V_minutes 40 = .ok (.aload_n 0, 1) := by decide +kernel
theorem d_V_minutes_41 : decode b_V_minutes 41 = .ok (.getfield 44, 3) := by decide +kernel
theorem d_V_minutes_44 : decode b_V_minutes 44 = .ok (.iload_n 3, 1) := by decide +kernel
theorem d_V_minutes_45 : decode b_V_minutes 45 = .ok (.iaload, 1) := by decide +kernel
theorem d_V_minutes_46 : decode b_V_minutes 46 = .ok (.bipush 10, 2) := by decide +kernel
theorem d_V_minutes_48 : decode b_V_minutes 48 = .ok (.irem, 1) := by decide +kernel
theorem d_V_minutes_49 : decode b_V_minutes 49 = .ok (.iload_n 1, 1) := by decide +kernel
theorem d_V_minutes_50 : decode b_V_minutes 50 = .ok (.if_icmp .ne 6, 3) := by decide +kernel
theorem d_V_minutes_53 : decode b_V_minutes 53 = .ok (.iinc 2 1, 3) := by decide +kernel
theorem d_V_minutes_56 : decode b_V_minutes 56 = .ok (.iinc 3 1, 3) := by decide +kernel
theorem d_V_minutes_59 : decode b_V_minutes 59 = .ok (.goto (-36), 3) := by decide +kernel
theorem d_V_minutes_62 : decode b_V_minutes 62 = .ok (.iload_n 2, 1) := by decide +kernel
theorem d_V_minutes_63 : decode b_V_minutes 63 = .ok (.ireturn, 1) := by decide +kernel
theorem d_V_board_0 : decode b_V_board 0 = .ok (.aload_n 0, 1) := by decide +kernel
theorem d_V_board_1 : decode b_V_board 1 = .ok (.getfield 10, 3) := by decide +kernel
theorem d_V_board_4 : decode b_V_board 4 = .ok (.iload_n 1, 1) := by decide +kernel
theorem d_V_board_5 : decode b_V_board 5 = .ok (.invokevirtual 74, 3) := by decide +kernel
theorem d_V_board_8 : decode b_V_board 8 = .ok (.ifCond .ne 13, 3) := by decide +kernel
theorem d_V_board_11 : decode b_V_board 11 = .ok (.new 78, 3) := by decide +kernel
theorem d_V_board_14 : decode b_V_board 14 = .ok (.dup, 1) := by decide +kernel
theorem d_V_board_15 : decode b_V_board 15 = .ok (.ldc 80, 2) := by decide +kernel
theorem d_V_board_17 : decode b_V_board 17 = .ok (.invokespecial 82, 3) := by decide +kernel
theorem d_V_board_20 : decode b_V_board 20 = .ok (.athrow, 1) := by decide +kernel
theorem d_V_board_21 : decode b_V_board 21 = .ok (.iload_n 2, 1) := by decide +kernel
theorem d_V_board_22 : decode b_V_board 22 = .ok (.iconst 1, 1) := by decide +kernel
theorem d_V_board_23 : decode b_V_board 23 = .ok (.if_icmp .lt 20, 3) := by decide +kernel
theorem d_V_board_26 : decode b_V_board 26 = .ok (.iload_n 2, 1) := by decide +kernel
theorem d_V_board_27 : decode b_V_board 27 = .ok (.bipush 8, 2) := by decide +kernel
theorem d_V_board_29 : decode b_V_board 29 = .ok (.if_icmp .gt 14, 3) := by decide +kernel
theorem d_V_board_32 : decode b_V_board 32 = .ok (.iload_n 3, 1) := by decide +kernel
theorem d_V_board_33 : decode b_V_board 33 = .ok (.ifCond .lt 10, 3) := by decide +kernel
theorem d_V_board_36 : decode b_V_board 36 = .ok (.iload_n 3, 1) := by decide +kernel
theorem d_V_board_37 : decode b_V_board 37 = .ok (.sipush 1000, 3) := by decide +kernel
theorem d_V_board_40 : decode b_V_board 40 = .ok (.if_icmp .le 13, 3) := by decide +kernel
theorem d_V_board_43 : decode b_V_board 43 = .ok (.new 113, 3) := by decide +kernel
theorem d_V_board_46 : decode b_V_board 46 = .ok (.dup, 1) := by decide +kernel
theorem d_V_board_47 : decode b_V_board 47 = .ok (.ldc 164, 2) := by decide +kernel
theorem d_V_board_49 : decode b_V_board 49 = .ok (.invokespecial 117, 3) := by decide +kernel
theorem d_V_board_52 : decode b_V_board 52 = .ok (.athrow, 1) := by decide +kernel
theorem d_V_board_53 : decode b_V_board 53 = .ok (.aload_n 0, 1) := by decide +kernel
theorem d_V_board_54 : decode b_V_board 54 = .ok (.getfield 10, 3) := by decide +kernel
theorem d_V_board_57 : decode b_V_board 57 = .ok (.getfield 83, 3) := by decide +kernel
theorem d_V_board_60 : decode b_V_board 60 = .ok (.iload_n 1, 1) := by decide +kernel
theorem d_V_board_61 : decode b_V_board 61 = .ok (.iaload, 1) := by decide +kernel
theorem d_V_board_62 : decode b_V_board 62 = .ok (.istore 4, 2) := by decide +kernel
theorem d_V_board_64 : decode b_V_board 64 = .ok (.iload 4, 2) := by decide +kernel
theorem d_V_board_66 : decode b_V_board 66 = .ok (.invokestatic 166, 3) := by decide +kernel
theorem d_V_board_69 : decode b_V_board 69 = .ok (.ifCond .eq 28, 3) := by decide +kernel
theorem d_V_board_72 : decode b_V_board 72 = .ok (.aload_n 0, 1) := by decide +kernel
theorem d_V_board_73 : decode b_V_board 73 = .ok (.getfield 40, 3) := by decide +kernel
theorem d_V_board_76 : decode b_V_board 76 = .ok (.iload_n 1, 1) := by decide +kernel
theorem d_V_board_77 : decode b_V_board 77 = .ok (.invokevirtual 89, 3) := by decide +kernel
theorem d_V_board_80 : decode b_V_board 80 = .ok (.iload_n 2, 1) := by decide +kernel
theorem d_V_board_81 : decode b_V_board 81 = .ok (.iadd, 1) := by decide +kernel
theorem d_V_board_82 : decode b_V_board 82 = .ok (.bipush 8, 2) := by decide +kernel
theorem d_V_board_84 : decode b_V_board 84 = .ok (.if_icmp .gt 13, 3) := by decide +kernel
theorem d_V_board_87 : decode b_V_board 87 = .ok (.aload_n 0, 1) := by decide +kernel
theorem d_V_board_88 : decode b_V_board 88 = .ok (.getfield 40, 3) := by decide +kernel
theorem d_V_board_91 : decode b_V_board 91 = .ok (.invokevirtual 169, 3) := by decide +kernel
theorem d_V_board_94 : decode b_V_board 94 = .ok (.ifCond .ne 13, 3) := by decide +kernel
theorem d_V_board_97 : decode b_V_board 97 = .ok (.new 63, 3) := by decide +kernel
theorem d_V_board_100 : decode b_V_board 100 = .ok (.dup, 1) := by decide +kernel
theorem d_V_board_101 : decode b_V_board 101 = .ok (.ldc 172, 2) := by decide +kernel
theorem d_V_board_103 : decode b_V_board 103 = .ok (.invokespecial 67, 3) := by decide +kernel
theorem d_V_board_106 : decode b_V_board 106 = .ok (.athrow, 1) := by decide +kernel
theorem d_V_board_107 : decode b_V_board 107 = .ok (.aload_n 0, 1) := by decide +kernel
theorem d_V_board_108 : decode b_V_board 108 = .ok (.getfield 52, 3) := by decide +kernel
theorem d_V_board_111 : decode b_V_board 111 = .ok (.iload 4, 2) := by decide +kernel
theorem d_V_board_113 : decode b_V_board 113 = .ok (.invokestatic 86, 3) := by decide +kernel
theorem d_V_board_116 : decode b_V_board 116 = .ok (.ifCond .eq 9, 3) := by decide +kernel
theorem d_V_board_119 : decode b_V_board 119 = .ok (.sipush 600, 3) := by decide +kernel
theorem d_V_board_122 : decode b_V_board 122 = .ok (.goto 6, 3) := by decide +kernel
theorem d_V_board_125 : decode b_V_board 125 = .ok (.sipush 1200, 3) := by decide +kernel
theorem d_V_board_128 : decode b_V_board 128 = .ok (.iadd, 1) := by decide +kernel
theorem d_V_board_129 : decode b_V_board 129 = .ok (.iload 4, 2) := by decide +kernel
theorem d_V_board_131 : decode b_V_board 131 = .ok (.isub, 1) := by decide +kernel
theorem d_V_board_132 : decode b_V_board 132 = .ok (.istore 5, 2) := by decide +kernel
theorem d_V_board_134 : decode b_V_board 134 = .ok (.aload_n 0, 1) := by decide +kernel
theorem d_V_board_135 : decode b_V_board 135 = .ok (.getfield 40, 3) := by decide +kernel
theorem d_V_board_138 : decode b_V_board 138 = .ok (.iload_n 1, 1) := by decide +kernel
theorem d_V_board_139 : decode b_V_board 139 = .ok (.iload_n 2, 1) := by decide +kernel
theorem d_V_board_140 : decode b_V_board 140 = .ok (.iload_n 3, 1) := by decide +kernel
theorem d_V_board_141 : decode b_V_board 141 = .ok (.iload 5, 2) := by decide +kernel
theorem d_V_board_143 : decode b_V_board 143 = .ok (.invokevirtual 174, 3) := by decide +kernel
theorem d_V_board_146 : decode b_V_board 146 = .ok (.ireturn, 1) := by decide +kernel
theorem d_V_people_0 : decode b_V_people 0 = .ok (.aload_n 0, 1) := by decide +kernel
theorem d_V_people_1 : decode b_V_people 1 = .ok (.getfield 10, 3) := by decide +kernel
theorem d_V_people_4 : decode b_V_people 4 = .ok (.iload_n 1, 1) := by decide +kernel
theorem d_V_people_5 : decode b_V_people 5 = .ok (.invokevirtual 74, 3) := by decide +kernel
theorem d_V_people_8 : decode b_V_people 8 = .ok (.ifCond .ne 13, 3) := by decide +kernel
theorem d_V_people_11 : decode b_V_people 11 = .ok (.new 78, 3) := by decide +kernel
theorem d_V_people_14 : decode b_V_people 14 = .ok (.dup, 1) := by decide +kernel
theorem d_V_people_15 : decode b_V_people 15 = .ok (.ldc 80, 2) := by decide +kernel
theorem d_V_people_17 : decode b_V_people 17 = .ok (.invokespecial 82, 3) := by decide +kernel
theorem d_V_people_20 : decode b_V_people 20 = .ok (.athrow, 1) := by decide +kernel
theorem d_V_people_21 : decode b_V_people 21 = .ok (.aload_n 0, 1) := by decide +kernel
theorem d_V_people_22 : decode b_V_people 22 = .ok (.getfield 40, 3) := by decide +kernel
theorem d_V_people_25 : decode b_V_people 25 = .ok (.iload_n 1, 1) := by decide +kernel
theorem d_V_people_26 : decode b_V_people 26 = .ok (.invokevirtual 89, 3) := by decide +kernel
theorem d_V_people_29 : decode b_V_people 29 = .ok (.ireturn, 1) := by decide +kernel
theorem d_V_arrived_0 : decode b_V_arrived 0 = .ok (.aload_n 0, 1) := by decide +kernel
theorem d_V_arrived_1 : decode b_V_arrived 1 = .ok (.getfield 40, 3) := by decide +kernel
theorem d_V_arrived_4 : decode b_V_arrived 4 = .ok (.iload_n 1, 1) := by decide +kernel
theorem d_V_arrived_5 : decode b_V_arrived 5 = .ok (.invokevirtual 178, 3) := by decide +kernel
theorem d_V_arrived_8 : decode b_V_arrived 8 = .ok (.ifCond .ne 13, 3) := by decide +kernel
theorem d_V_arrived_11 : decode b_V_arrived 11 = .ok (.new 78, 3) := by decide +kernel
theorem d_V_arrived_14 : decode b_V_arrived 14 = .ok (.dup, 1) := by decide +kernel
theorem d_V_arrived_15 : decode b_V_arrived 15 = .ok (.ldc 179, 2) := by decide +kernel
theorem d_V_arrived_17 : decode b_V_arrived 17 = .ok (.invokespecial 82, 3) := by decide +kernel
theorem d_V_arrived_20 : decode b_V_arrived 20 = .ok (.athrow, 1) := by decide +kernel
theorem d_V_arrived_21 : decode b_V_arrived 21 = .ok (.aload_n 0, 1) := by decide +kernel
theorem d_V_arrived_22 : decode b_V_arrived 22 = .ok (.getfield 40, 3) := by decide +kernel
theorem d_V_arrived_25 : decode b_V_arrived 25 = .ok (.getfield 181, 3) := by decide +kernel
theorem d_V_arrived_28 : decode b_V_arrived 28 = .ok (.iload_n 1, 1) := by decide +kernel
theorem d_V_arrived_29 : decode b_V_arrived 29 = .ok (.iaload, 1) := by decide +kernel
theorem d_V_arrived_30 : decode b_V_arrived 30 = .ok (.ireturn, 1) := by decide +kernel
theorem d_V_hung_0 : decode b_V_hung 0 = .ok (.aload_n 0, 1) := by decide +kernel
theorem d_V_hung_1 : decode b_V_hung 1 = .ok (.getfield 40, 3) := by decide +kernel
theorem d_V_hung_4 : decode b_V_hung 4 = .ok (.iload_n 1, 1) := by decide +kernel
theorem d_V_hung_5 : decode b_V_hung 5 = .ok (.invokevirtual 178, 3) := by decide +kernel
theorem d_V_hung_8 : decode b_V_hung 8 = .ok (.ifCond .ne 13, 3) := by decide +kernel
theorem d_V_hung_11 : decode b_V_hung 11 = .ok (.new 78, 3) := by decide +kernel
theorem d_V_hung_14 : decode b_V_hung 14 = .ok (.dup, 1) := by decide +kernel
theorem d_V_hung_15 : decode b_V_hung 15 = .ok (.ldc 179, 2) := by decide +kernel
theorem d_V_hung_17 : decode b_V_hung 17 = .ok (.invokespecial 82, 3) := by decide +kernel
theorem d_V_hung_20 : decode b_V_hung 20 = .ok (.athrow, 1) := by decide +kernel
theorem d_V_hung_21 : decode b_V_hung 21 = .ok (.aload_n 0, 1) := by decide +kernel
theorem d_V_hung_22 : decode b_V_hung 22 = .ok (.getfield 40, 3) := by decide +kernel
theorem d_V_hung_25 : decode b_V_hung 25 = .ok (.getfield 184, 3) := by decide +kernel
theorem d_V_hung_28 : decode b_V_hung 28 = .ok (.iload_n 1, 1) := by decide +kernel
theorem d_V_hung_29 : decode b_V_hung 29 = .ok (.iaload, 1) := by decide +kernel
theorem d_V_hung_30 : decode b_V_hung 30 = .ok (.ireturn, 1) := by decide +kernel
theorem d_V_refund_0 : decode b_V_refund 0 = .ok (.aload_n 0, 1) := by decide +kernel
theorem d_V_refund_1 : decode b_V_refund 1 = .ok (.getfield 40, 3) := by decide +kernel
theorem d_V_refund_4 : decode b_V_refund 4 = .ok (.iload_n 1, 1) := by decide +kernel
theorem d_V_refund_5 : decode b_V_refund 5 = .ok (.invokevirtual 178, 3) := by decide +kernel
theorem d_V_refund_8 : decode b_V_refund 8 = .ok (.ifCond .ne 13, 3) := by decide +kernel
theorem d_V_refund_11 : decode b_V_refund 11 = .ok (.new 78, 3) := by decide +kernel
theorem d_V_refund_14 : decode b_V_refund 14 = .ok (.dup, 1) := by decide +kernel
theorem d_V_refund_15 : decode b_V_refund 15 = .ok (.ldc 179, 2) := by decide +kernel
theorem d_V_refund_17 : decode b_V_refund 17 = .ok (.invokespecial 82, 3) := by decide +kernel
theorem d_V_refund_20 : decode b_V_refund 20 = .ok (.athrow, 1) := by decide +kernel
theorem d_V_refund_21 : decode b_V_refund 21 = .ok (.aload_n 0, 1) := by decide +kernel
theorem d_V_refund_22 : decode b_V_refund 22 = .ok (.getfield 40, 3) := by decide +kernel
theorem d_V_refund_25 : decode b_V_refund 25 = .ok (.iload_n 1, 1) := by decide +kernel
theorem d_V_refund_26 : decode b_V_refund 26 = .ok (.invokevirtual 187, 3) := by decide +kernel
theorem d_V_refund_29 : decode b_V_refund 29 = .ok (.ireturn, 1) := by decide +kernel
theorem d_V_refunds_0 : decode b_V_refunds 0 = .ok (.aload_n 0, 1) := by decide +kernel
theorem d_V_refunds_1 : decode b_V_refunds 1 = .ok (.getfield 40, 3) := by decide +kernel
theorem d_V_refunds_4 : decode b_V_refunds 4 = .ok (.invokevirtual 190, 3) := by decide +kernel
theorem d_V_refunds_7 : decode b_V_refunds 7 = .ok (.ireturn, 1) := by decide +kernel
theorem d_V_passMinute_0 : decode b_V_passMinute 0 = .ok (.aload_n 0, 1) := by decide +kernel
theorem d_V_passMinute_1 : decode b_V_passMinute 1 = .ok (.dup, 1) := by decide +kernel
theorem d_V_passMinute_2 : decode b_V_passMinute 2 = .ok (.getfield 48, 3) := by decide +kernel
theorem d_V_passMinute_5 : decode b_V_passMinute 5 = .ok (.iconst 1, 1) := by decide +kernel
theorem d_V_passMinute_6 : decode b_V_passMinute 6 = .ok (.iadd, 1) := by decide +kernel
theorem d_V_passMinute_7 : decode b_V_passMinute 7 = .ok (.putfield 48, 3) := by decide +kernel
theorem d_V_passMinute_10 : decode b_V_passMinute 10 = .ok (.aload_n 0, 1) := by decide +kernel
theorem d_V_passMinute_11 : decode b_V_passMinute 11 = .ok (.invokevirtual 193, 3) := by decide +kernel
theorem d_V_passMinute_14 : decode b_V_passMinute 14 = .ok (.aload_n 0, 1) := by decide +kernel
theorem d_V_passMinute_15 : decode b_V_passMinute 15 = .ok (.getfield 26, 3) := by decide +kernel
theorem d_V_passMinute_18 : decode b_V_passMinute 18 = .ok (.aload_n 0, 1) := by decide +kernel
theorem d_V_passMinute_19 : decode b_V_passMinute 19 = .ok (.getfield 48, 3) := by decide +kernel
theorem d_V_passMinute_22 : decode b_V_passMinute 22 = .ok (.aload_n 0, 1) := by decide +kernel
theorem d_V_passMinute_23 : decode b_V_passMinute 23 = .ok (.getfield 33, 3) := by decide +kernel
theorem d_V_passMinute_26 : decode b_V_passMinute 26 = .ok (.invokevirtual 196, 3) := by decide +kernel
theorem d_V_passMinute_29 : decode b_V_passMinute 29 = .ok (.aload_n 0, 1) := by decide +kernel
theorem d_V_passMinute_30 : decode b_V_passMinute 30 = .ok (.invokevirtual 200, 3) := by decide +kernel
theorem d_V_passMinute_33 : decode b_V_passMinute 33 = .ok (.istore_n 1, 1) := by decide +kernel
theorem d_V_passMinute_34 : decode b_V_passMinute 34 = .ok (.aload_n 0, 1) := by decide +kernel
theorem d_V_passMinute_35 : decode b_V_passMinute 35 = .ok (.getfield 48, 3) := by decide +kernel
theorem d_V_passMinute_38 : decode b_V_passMinute 38 = .ok (.aload_n 0, 1) := by decide +kernel
theorem d_V_passMinute_39 : decode b_V_passMinute 39 = .ok (.getfield 44, 3) := by decide +kernel
theorem d_V_passMinute_42 : decode b_V_passMinute 42 = .ok (.arraylength, 1) := by decide +kernel
theorem d_V_passMinute_43 : decode b_V_passMinute 43 = .ok (.if_icmp .ge 31, 3) := by decide +kernel
theorem d_V_passMinute_46 : decode b_V_passMinute 46 = .ok (.aload_n 0, 1) := by decide +kernel
theorem d_V_passMinute_47 : decode b_V_passMinute 47 = .ok (.getfield 44, 3) := by decide +kernel
theorem d_V_passMinute_50 : decode b_V_passMinute 50 = .ok (.aload_n 0, 1) := by decide +kernel
theorem d_V_passMinute_51 : decode b_V_passMinute 51 = .ok (.getfield 48, 3) := by decide +kernel
theorem d_V_passMinute_54 : decode b_V_passMinute 54 = .ok (.bipush 10, 2) := by decide +kernel
theorem d_V_passMinute_56 : decode b_V_passMinute 56 = .ok (.aload_n 0, 1) := by decide +kernel
theorem d_V_passMinute_57 : decode b_V_passMinute 57 = .ok (.getfield 33, 3) := by decide +kernel
theorem d_V_passMinute_60 : decode b_V_passMinute 60 = .ok (.aload_n 0, 1) := by decide +kernel
theorem d_V_passMinute_61 : decode b_V_passMinute 61 = .ok (.getfield 48, 3) := by decide +kernel
theorem d_V_passMinute_64 : decode b_V_passMinute 64 = .ok (.invokevirtual 144, 3) := by decide +kernel
theorem d_V_passMinute_67 : decode b_V_passMinute 67 = .ok (.invokestatic 203, 3) := by decide +kernel
theorem d_V_passMinute_70 : decode b_V_passMinute 70 = .ok (.imul, 1) := by decide +kernel
theorem d_V_passMinute_71 : decode b_V_passMinute 71 = .ok (.iload_n 1, 1) := by decide +kernel
theorem d_V_passMinute_72 : decode b_V_passMinute 72 = .ok (.iadd, 1) := by decide +kernel
theorem d_V_passMinute_73 : decode b_V_passMinute 73 = .ok (.iastore, 1) := by decide +kernel
theorem d_V_passMinute_74 : decode b_V_passMinute 74 = .ok (.iload_n 1, 1) := by decide +kernel
theorem d_V_passMinute_75 : decode b_V_passMinute 75 = .ok (.invokestatic 208, 3) := by decide +kernel
theorem d_V_passMinute_78 : decode b_V_passMinute 78 = .ok (.istore_n 2, 1) := by decide +kernel
theorem d_V_passMinute_79 : decode b_V_passMinute 79 = .ok (.aload_n 0, 1) := by decide +kernel
theorem d_V_passMinute_80 : decode b_V_passMinute 80 = .ok (.dup, 1) := by decide +kernel
theorem d_V_passMinute_81 : decode b_V_passMinute 81 = .ok (.getfield 52, 3) := by decide +kernel
theorem d_V_passMinute_84 : decode b_V_passMinute 84 = .ok (.iload_n 2, 1) := by decide +kernel
theorem d_V_passMinute_85 : decode b_V_passMinute 85 = .ok (.iadd, 1) := by decide +kernel
theorem d_V_passMinute_86 : decode b_V_passMinute 86 = .ok (.putfield 52, 3) := by decide +kernel
theorem d_V_passMinute_89 : decode b_V_passMinute 89 = .ok (.aload_n 0, 1) := by decide +kernel
theorem d_V_passMinute_90 : decode b_V_passMinute 90 = .ok (.getfield 10, 3) := by decide +kernel
theorem d_V_passMinute_93 : decode b_V_passMinute 93 = .ok (.iload_n 2, 1) := by decide +kernel
theorem d_V_passMinute_94 : decode b_V_passMinute 94 = .ok (.invokevirtual 211, 3) := by decide +kernel
theorem d_V_passMinute_97 : decode b_V_passMinute 97 = .ok (.aload_n 0, 1) := by decide +kernel
theorem d_V_passMinute_98 : decode b_V_passMinute 98 = .ok (.getfield 40, 3) := by decide +kernel
theorem d_V_passMinute_101 : decode b_V_passMinute 101 = .ok (.aload_n 0, 1) := by decide +kernel
theorem d_V_passMinute_102 : decode b_V_passMinute 102 = .ok (.getfield 48, 3) := by decide +kernel
theorem d_V_passMinute_105 : decode b_V_passMinute 105 = .ok (.aload_n 0, 1) := by decide +kernel
theorem d_V_passMinute_106 : decode b_V_passMinute 106 = .ok (.getfield 52, 3) := by decide +kernel
theorem d_V_passMinute_109 : decode b_V_passMinute 109 = .ok (.iload_n 1, 1) := by decide +kernel
theorem d_V_passMinute_110 : decode b_V_passMinute 110 = .ok (.aload_n 0, 1) := by decide +kernel
theorem d_V_passMinute_111 : decode b_V_passMinute 111 = .ok (.getfield 10, 3) := by decide +kernel
theorem d_V_passMinute_114 : decode b_V_passMinute 114 = .ok (.invokevirtual 215, 3) := by decide +kernel
theorem d_V_passMinute_117 : decode b_V_passMinute 117 = .ok (.return_, 1) := by decide +kernel
theorem d_V_makeVotes_0 : decode b_V_makeVotes 0 = .ok (.iconst 0, 1) := by decide +kernel
theorem d_V_makeVotes_1 : decode b_V_makeVotes 1 = .ok (.istore_n 1, 1) := by decide +kernel
theorem d_V_makeVotes_2 : decode b_V_makeVotes 2 = .ok (.iload_n 1, 1) := by decide +kernel
theorem d_V_makeVotes_3 : decode b_V_makeVotes 3 = .ok (.bipush 7, 2) := by decide +kernel
theorem d_V_makeVotes_5 : decode b_V_makeVotes 5 = .ok (.if_icmp .ge 37, 3) := by decide +kernel
theorem d_V_makeVotes_8 : decode b_V_makeVotes 8 = .ok (.aload_n 0, 1) := by decide +kernel
theorem d_V_makeVotes_9 : decode b_V_makeVotes 9 = .ok (.getfield 26, 3) := by decide +kernel
theorem d_V_makeVotes_12 : decode b_V_makeVotes 12 = .ok (.iload_n 1, 1) := by decide +kernel
theorem d_V_makeVotes_13 : decode b_V_makeVotes 13 = .ok (.aload_n 0, 1) := by decide +kernel
theorem d_V_makeVotes_14 : decode b_V_makeVotes 14 = .ok (.getfield 19, 3) := by decide +kernel
theorem d_V_makeVotes_17 : decode b_V_makeVotes 17 = .ok (.iload_n 1, 1) := by decide +kernel
theorem d_V_makeVotes_18 : decode b_V_makeVotes 18 = .ok (.invokevirtual 121, 3) := by decide +kernel
theorem d_V_makeVotes_21 : decode b_V_makeVotes 21 = .ok (.aload_n 0, 1) := by decide +kernel
theorem d_V_makeVotes_22 : decode b_V_makeVotes 22 = .ok (.getfield 48, 3) := by decide +kernel
theorem d_V_makeVotes_25 : decode b_V_makeVotes 25 = .ok (.aload_n 0, 1) := by decide +kernel
theorem d_V_makeVotes_26 : decode b_V_makeVotes 26 = .ok (.getfield 19, 3) := by decide +kernel
theorem d_V_makeVotes_29 : decode b_V_makeVotes 29 = .ok (.iload_n 1, 1) := by decide +kernel
theorem d_V_makeVotes_30 : decode b_V_makeVotes 30 = .ok (.invokevirtual 218, 3) := by decide +kernel
theorem d_V_makeVotes_33 : decode b_V_makeVotes 33 = .ok (.invokevirtual 221, 3) := by decide +kernel
theorem d_V_makeVotes_36 : decode b_V_makeVotes 36 = .ok (.iinc 1 1, 3) := by decide +kernel
theorem d_V_makeVotes_39 : decode b_V_makeVotes 39 = .ok (.goto (-37), 3) := by decide +kernel
theorem d_V_makeVotes_42 : decode b_V_makeVotes 42 = .ok (.return_, 1) := by decide +kernel
theorem d_V_partsAt_0 : decode b_V_partsAt 0 = .ok (.iload_n 0, 1) := by decide +kernel
theorem d_V_partsAt_1 : decode b_V_partsAt 1 = .ok (.iconst 2, 1) := by decide +kernel
theorem d_V_partsAt_2 : decode b_V_partsAt 2 = .ok (.if_icmp .ne 6, 3) := by decide +kernel
theorem d_V_partsAt_5 : decode b_V_partsAt 5 = .ok (.bipush 30, 2) := by decide +kernel
theorem d_V_partsAt_7 : decode b_V_partsAt 7 = .ok (.ireturn, 1) := by decide +kernel
theorem d_V_partsAt_8 : decode b_V_partsAt 8 = .ok (.iload_n 0, 1) := by decide +kernel
theorem d_V_partsAt_9 : decode b_V_partsAt 9 = .ok (.iconst 1, 1) := by decide +kernel
theorem d_V_partsAt_10 : decode b_V_partsAt 10 = .ok (.if_icmp .ne 8, 3) := by decide +kernel
theorem d_V_partsAt_13 : decode b_V_partsAt 13 = .ok (.bipush 10, 2) := by decide +kernel
theorem d_V_partsAt_15 : decode b_V_partsAt 15 = .ok (.goto 4, 3) := by decide +kernel
theorem d_V_partsAt_18 : decode b_V_partsAt 18 = .ok (.iconst 0, 1) := by decide +kernel
theorem d_V_partsAt_19 : decode b_V_partsAt 19 = .ok (.ireturn, 1) := by decide +kernel
theorem d_V_isTower_0 : decode b_V_isTower 0 = .ok (.iload_n 0, 1) := by decide +kernel
theorem d_V_isTower_1 : decode b_V_isTower 1 = .ok (.ifCond .lt 13, 3) := by decide +kernel
theorem d_V_isTower_4 : decode b_V_isTower 4 = .ok (.iload_n 0, 1) := by decide +kernel
theorem d_V_isTower_5 : decode b_V_isTower 5 = .ok (.bipush 7, 2) := by decide +kernel
theorem d_V_isTower_7 : decode b_V_isTower 7 = .ok (.if_icmp .ge 7, 3) := by decide +kernel
theorem d_V_isTower_10 : decode b_V_isTower 10 = .ok (.iconst 1, 1) := by decide +kernel
theorem d_V_isTower_11 : decode b_V_isTower 11 = .ok (.goto 4, 3) := by decide +kernel
theorem d_V_isTower_14 : decode b_V_isTower 14 = .ok (.iconst 0, 1) := by decide +kernel
theorem d_V_isTower_15 : decode b_V_isTower 15 = .ok (.ireturn, 1) := by decide +kernel
theorem d_V_isInBottom_0 : decode b_V_isInBottom 0 = .ok (.iload_n 0, 1) := by decide +kernel
theorem d_V_isInBottom_1 : decode b_V_isInBottom 1 = .ok (.ifCond .lt 13, 3) := by decide +kernel
theorem d_V_isInBottom_4 : decode b_V_isInBottom 4 = .ok (.iload_n 0, 1) := by decide +kernel
theorem d_V_isInBottom_5 : decode b_V_isInBottom 5 = .ok (.bipush 20, 2) := by decide +kernel
theorem d_V_isInBottom_7 : decode b_V_isInBottom 7 = .ok (.if_icmp .ge 7, 3) := by decide +kernel
theorem d_V_isInBottom_10 : decode b_V_isInBottom 10 = .ok (.iconst 1, 1) := by decide +kernel
theorem d_V_isInBottom_11 : decode b_V_isInBottom 11 = .ok (.goto 4, 3) := by decide +kernel
theorem d_V_isInBottom_14 : decode b_V_isInBottom 14 = .ok (.iconst 0, 1) := by decide +kernel
theorem d_V_isInBottom_15 : decode b_V_isInBottom 15 = .ok (.ireturn, 1) := by decide +kernel
theorem d_V_isInStation_0 : decode b_V_isInStation 0 = .ok (.iload_n 0, 1) := by decide +kernel
theorem d_V_isInStation_1 : decode b_V_isInStation 1 = .ok (.invokestatic 86, 3) := by decide +kernel
theorem d_V_isInStation_4 : decode b_V_isInStation 4 = .ok (.ifCond .ne 17, 3) := by decide +kernel
theorem d_V_isInStation_7 : decode b_V_isInStation 7 = .ok (.iload_n 0, 1) := by decide +kernel
theorem d_V_isInStation_8 : decode b_V_isInStation 8 = .ok (.sipush 600, 3) := by decide +kernel
theorem d_V_isInStation_11 : decode b_V_isInStation 11 = .ok (.if_icmp .lt 14, 3) := by decide +kernel
theorem d_V_isInStation_14 : decode b_V_isInStation 14 = .ok (.iload_n 0, 1) := by decide +kernel
theorem d_V_isInStation_15 : decode b_V_isInStation 15 = .ok (.sipush 620, 3) := by decide +kernel
theorem d_V_isInStation_18 : decode b_V_isInStation 18 = .ok (.if_icmp .ge 7, 3) := by decide +kernel
theorem d_V_isInStation_21 : decode b_V_isInStation 21 = .ok (.iconst 1, 1) := by decide +kernel
theorem d_V_isInStation_22 : decode b_V_isInStation 22 = .ok (.goto 4, 3) := by decide +kernel
theorem d_V_isInStation_25 : decode b_V_isInStation 25 = .ok (.iconst 0, 1) := by decide +kernel
theorem d_V_isInStation_26 : decode b_V_isInStation 26 = .ok (.ireturn, 1) := by decide +kernel
theorem d_V_gapBetween_0 : decode b_V_gapBetween 0 = .ok (.iload_n 0, 1) := by decide +kernel
theorem d_V_gapBetween_1 : decode b_V_gapBetween 1 = .ok (.iload_n 1, 1) := by decide +kernel
theorem d_V_gapBetween_2 : decode b_V_gapBetween 2 = .ok (.isub, 1) := by decide +kernel
theorem d_V_gapBetween_3 : decode b_V_gapBetween 3 = .ok (.invokestatic 225, 3) := by decide +kernel
theorem d_V_gapBetween_6 : decode b_V_gapBetween 6 = .ok (.istore_n 2, 1) := by decide +kernel
theorem d_V_gapBetween_7 : decode b_V_gapBetween 7 = .ok (.iload_n 2, 1) := by decide +kernel
theorem d_V_gapBetween_8 : decode b_V_gapBetween 8 = .ok (.sipush 1200, 3) := by decide +kernel
theorem d_V_gapBetween_11 : decode b_V_gapBetween 11 = .ok (.iload_n 2, 1) := by decide +kernel
theorem d_V_gapBetween_12 : decode b_V_gapBetween 12 = .ok (.isub, 1) := by decide +kernel
theorem d_V_gapBetween_13 : decode b_V_gapBetween 13 = .ok (.invokestatic 230, 3) := by decide +kernel
theorem d_V_gapBetween_16 : decode b_V_gapBetween 16 = .ok (.ireturn, 1) := by decide +kernel
theorem d_A_low_0 : decode b_A_low 0 = .ok (.iload_n 0, 1) := by decide +kernel
theorem d_A_low_1 : decode b_A_low 1 = .ok (.ldc 7, 2) := by decide +kernel
theorem d_A_low_3 : decode b_A_low 3 = .ok (.iand, 1) := by decide +kernel
theorem d_A_low_4 : decode b_A_low 4 = .ok (.iload_n 1, 1) := by decide +kernel
theorem d_A_low_5 : decode b_A_low 5 = .ok (.irem, 1) := by decide +kernel
theorem d_A_low_6 : decode b_A_low 6 = .ok (.ireturn, 1) := by decide +kernel
theorem d_A_cell_0 : decode b_A_cell 0 = .ok (.iload_n 1, 1) := by decide +kernel
theorem d_A_cell_1 : decode b_A_cell 1 = .ok (.aload_n 0, 1) := by decide +kernel
theorem d_A_cell_2 : decode b_A_cell 2 = .ok (.arraylength, 1) := by decide +kernel
theorem d_A_cell_3 : decode b_A_cell 3 = .ok (.if_icmp .ge 9, 3) := by decide +kernel
theorem d_A_cell_6 : decode b_A_cell 6 = .ok (.aload_n 0, 1) := by decide +kernel
theorem d_A_cell_7 : decode b_A_cell 7 = .ok (.iload_n 1, 1) := by decide +kernel
theorem d_A_cell_8 : decode b_A_cell 8 = .ok (.iaload, 1) := by decide +kernel
theorem d_A_cell_9 : decode b_A_cell 9 = .ok (.goto 11, 3) := by decide +kernel
theorem d_A_cell_12 : decode b_A_cell 12 = .ok (.ldc 8, 2) := by decide +kernel
theorem d_A_cell_14 : decode b_A_cell 14 = .ok (.iload_n 1, 1) := by decide +kernel
theorem d_A_cell_15 : decode b_A_cell 15 = .ok (.imul, 1) := by decide +kernel
theorem d_A_cell_16 : decode b_A_cell 16 = .ok (.sipush 977, 3) := by decide +kernel
theorem d_A_cell_19 : decode b_A_cell 19 = .ok (.iadd, 1) := by decide +kernel
theorem d_A_cell_20 : decode b_A_cell 20 = .ok (.ireturn, 1) := by decide +kernel
theorem d_A_putOn_0 : decode b_A_putOn 0 = .ok (.aload_n 0, 1) := by decide +kernel
theorem d_A_putOn_1 : decode b_A_putOn 1 = .ok (.invokevirtual 9, 3) := by decide +kernel
theorem d_A_putOn_4 : decode b_A_putOn 4 = .ok (.ireturn, 1) := by decide +kernel
theorem d_A_putOn_5 : decode b_A_putOn 5 = .ok (.astore_n 1, 1) := by decide +kernel
theorem d_A_putOn_6 : decode b_A_putOn 6 = .ok (.bipush (-3), 2) := by decide +kernel
theorem d_A_putOn_8 : decode b_A_putOn 8 = .ok (.ireturn, 1) := by decide +kernel
theorem d_A_takeOff_0 : decode b_A_takeOff 0 = .ok (.aload_n 0, 1) := by decide +kernel
theorem d_A_takeOff_1 : decode b_A_takeOff 1 = .ok (.iload_n 1, 1) := by decide +kernel
theorem d_A_takeOff_2 : decode b_A_takeOff 2 = .ok (.invokevirtual 17, 3) := by decide +kernel
theorem d_A_takeOff_5 : decode b_A_takeOff 5 = .ok (.ireturn, 1) := by decide +kernel
theorem d_A_takeOff_6 : decode b_A_takeOff 6 = .ok (.astore_n 2, 1) := by decide +kernel
theorem d_A_takeOff_7 : decode b_A_takeOff 7 = .ok (.bipush (-3), 2) := by decide +kernel
theorem d_A_takeOff_9 : decode b_A_takeOff 9 = .ok (.ireturn, 1) := by decide +kernel
theorem d_A_takeOff_10 : decode b_A_takeOff 10 = .ok (.astore_n 2, 1) := by decide +kernel
theorem d_A_takeOff_11 : decode b_A_takeOff 11 = .ok (.bipush (-4), 2) := by decide +kernel
theorem d_A_takeOff_13 : decode b_A_takeOff 13 = .ok (.ireturn, 1) := by decide +kernel
theorem d_A_board_0 : decode b_A_board 0 = .ok (.aload_n 0, 1) := by decide +kernel
theorem d_A_board_1 : decode b_A_board 1 = .ok (.iload_n 1, 1) := by decide +kernel
theorem d_A_board_2 : decode b_A_board 2 = .ok (.iload_n 2, 1) := by decide +kernel
theorem d_A_board_3 : decode b_A_board 3 = .ok (.iload_n 3, 1) := by decide +kernel
theorem d_A_board_4 : decode b_A_board 4 = .ok (.invokevirtual 23, 3) := by decide +kernel
theorem d_A_board_7 : decode b_A_board 7 = .ok (.ireturn, 1) := by decide +kernel
theorem d_A_board_8 : decode b_A_board 8 = .ok (.astore 4, 2) := by decide +kernel
theorem d_A_board_10 : decode b_A_board 10 = .ok (.bipush (-3), 2) := by decide +kernel
theorem d_A_board_12 : decode b_A_board 12 = .ok (.ireturn, 1) := by decide +kernel
theorem d_A_board_13 : decode b_A_board 13 = .ok (.astore 4, 2) := by decide +kernel
theorem d_A_board_15 : decode b_A_board 15 = .ok (.bipush (-4), 2) := by decide +kernel
theorem d_A_board_17 : decode b_A_board 17 = .ok (.ireturn, 1) := by decide +kernel
theorem d_A_place_0 : decode b_A_place 0 = .ok (.aload_n 0, 1) := by decide +kernel
theorem d_A_place_1 : decode b_A_place 1 = .ok (.iload_n 1, 1) := by decide +kernel
theorem d_A_place_2 : decode b_A_place 2 = .ok (.invokevirtual 27, 3) := by decide +kernel
theorem d_A_place_5 : decode b_A_place 5 = .ok (.ireturn, 1) := by decide +kernel
theorem d_A_place_6 : decode b_A_place 6 = .ok (.astore_n 2, 1) := by decide +kernel
theorem d_A_place_7 : decode b_A_place 7 = .ok (.bipush (-4), 2) := by decide +kernel
theorem d_A_place_9 : decode b_A_place 9 = .ok (.ireturn, 1) := by decide +kernel
theorem d_A_bits_0 : decode b_A_bits 0 = .ok (.iconst 0, 1) := by decide +kernel
theorem d_A_bits_1 : decode b_A_bits 1 = .ok (.istore_n 1, 1) := by decide +kernel
theorem d_A_bits_2 : decode b_A_bits 2 = .ok (.iload_n 0, 1) := by decide +kernel
theorem d_A_bits_3 : decode b_A_bits 3 = .ok (.istore_n 2, 1) := by decide +kernel
theorem d_A_bits_4 : decode b_A_bits 4 = .ok (.iload_n 2, 1) := by decide +kernel
theorem d_A_bits_5 : decode b_A_bits 5 = .ok (.ifCond .eq 15, 3) := by decide +kernel
theorem d_A_bits_8 : decode b_A_bits 8 = .ok (.iinc 1 1, 3) := by decide +kernel
theorem d_A_bits_11 : decode b_A_bits 11 = .ok (.iload_n 2, 1) := by decide +kernel
theorem d_A_bits_12 : decode b_A_bits 12 = .ok (.iload_n 2, 1) := by decide +kernel
theorem d_A_bits_13 : decode b_A_bits 13 = .ok (.iconst 1, 1) := by decide +kernel
theorem d_A_bits_14 : decode b_A_bits 14 = .ok (.isub, 1) := by decide +kernel
theorem d_A_bits_15 : decode b_A_bits 15 = .ok (.iand, 1) := by decide +kernel
theorem d_A_bits_16 : decode b_A_bits 16 = .ok (.istore_n 2, 1) := by decide +kernel
theorem d_A_bits_17 : decode b_A_bits 17 = .ok (.goto (-13), 3) := by decide +kernel
theorem d_A_bits_20 : decode b_A_bits 20 = .ok (.iload_n 1, 1) := by decide +kernel
theorem d_A_bits_21 : decode b_A_bits 21 = .ok (.ireturn, 1) := by decide +kernel
theorem d_A_votes_0 : decode b_A_votes 0 = .ok (.aload_n 0, 1) := by decide +kernel
theorem d_A_votes_1 : decode b_A_votes 1 = .ok (.invokevirtual 30, 3) := by decide +kernel
theorem d_A_votes_4 : decode b_A_votes 4 = .ok (.istore_n 1, 1) := by decide +kernel
theorem d_A_votes_5 : decode b_A_votes 5 = .ok (.aload_n 0, 1) := by decide +kernel
theorem d_A_votes_6 : decode b_A_votes 6 = .ok (.invokevirtual 33, 3) := by decide +kernel
theorem d_A_votes_9 : decode b_A_votes 9 = .ok (.istore_n 2, 1) := by decide +kernel
theorem d_A_votes_10 : decode b_A_votes 10 = .ok (.iload_n 2, 1) := by decide +kernel
theorem d_A_votes_11 : decode b_A_votes 11 = .ok (.ifCond .lt 30, 3) := by decide +kernel
theorem d_A_votes_14 : decode b_A_votes 14 = .ok (.iload_n 2, 1) := by decide +kernel
theorem d_A_votes_15 : decode b_A_votes 15 = .ok (.sipush 128, 3) := by decide +kernel
theorem d_A_votes_18 : decode b_A_votes 18 = .ok (.if_icmp .ge 23, 3) := by decide +kernel
theorem d_A_votes_21 : decode b_A_votes 21 = .ok (.aload_n 0, 1) := by decide +kernel
theorem d_A_votes_22 : decode b_A_votes 22 = .ok (.invokevirtual 36, 3) := by decide +kernel
theorem d_A_votes_25 : decode b_A_votes 25 = .ok (.ifCond .lt 16, 3) := by decide +kernel
theorem d_A_votes_28 : decode b_A_votes 28 = .ok (.aload_n 0, 1) := by decide +kernel
theorem d_A_votes_29 : decode b_A_votes 29 = .ok (.invokevirtual 36, 3) := by decide +kernel
theorem d_A_votes_32 : decode b_A_votes 32 = .ok (.bipush 42, 2) := by decide +kernel
theorem d_A_votes_34 : decode b_A_votes 34 = .ok (.if_icmp .gt 7, 3) := by decide +kernel
theorem d_A_votes_37 : decode b_A_votes 37 = .ok (.iconst 1, 1) := by decide +kernel
theorem d_A_votes_38 : decode b_A_votes 38 = .ok (.goto 4, 3) := by decide +kernel
theorem d_A_votes_41 : decode b_A_votes 41 = .ok (.iconst 0, 1) := by decide +kernel
theorem d_A_votes_42 : decode b_A_votes 42 = .ok (.istore_n 3, 1) := by decide +kernel
theorem d_A_votes_43 : decode b_A_votes 43 = .ok (.iconst 0, 1) := by decide +kernel
theorem d_A_votes_44 : decode b_A_votes 44 = .ok (.istore 4, 2) := by decide +kernel
theorem d_A_votes_46 : decode b_A_votes 46 = .ok (.iload 4, 2) := by decide +kernel
theorem d_A_votes_48 : decode b_A_votes 48 = .ok (.bipush 7, 2) := by decide +kernel
theorem d_A_votes_50 : decode b_A_votes 50 = .ok (.if_icmp .ge 99, 3) := by decide +kernel
theorem d_A_votes_53 : decode b_A_votes 53 = .ok (.iload_n 3, 1) := by decide +kernel
theorem d_A_votes_54 : decode b_A_votes 54 = .ok (.ifCond .eq 95, 3) := by decide +kernel
theorem d_A_votes_57 : decode b_A_votes 57 = .ok (.aload_n 0, 1) := by decide +kernel
theorem d_A_votes_58 : decode b_A_votes 58 = .ok (.iload 4, 2) := by decide +kernel
theorem d_A_votes_60 : decode b_A_votes 60 = .ok (.invokevirtual 39, 3) := by decide +kernel
theorem d_A_votes_63 : decode b_A_votes 63 = .ok (.istore 5, 2) := by decide +kernel
theorem d_A_votes_65 : decode b_A_votes 65 = .ok (.aload_n 0, 1) := by decide +kernel
theorem d_A_votes_66 : decode b_A_votes 66 = .ok (.iload 4, 2) := by decide +kernel
theorem d_A_votes_68 : decode b_A_votes 68 = .ok (.invokevirtual 42, 3) := by decide +kernel
theorem d_A_votes_71 : decode b_A_votes 71 = .ok (.istore 6, 2) := by decide +kernel
theorem d_A_votes_73 : decode b_A_votes 73 = .ok (.iload 5, 2) := by decide +kernel
theorem d_A_votes_75 : decode b_A_votes 75 = .ok (.iconst (-1), 1) := by decide +kernel
theorem d_A_votes_76 : decode b_A_votes 76 = .ok (.if_icmp .ne 7, 3) := by decide +kernel
theorem d_A_votes_79 : decode b_A_votes 79 = .ok (.iconst 1, 1) := by decide +kernel
theorem d_A_votes_80 : decode b_A_votes 80 = .ok (.goto 4, 3) := by decide +kernel
theorem d_A_votes_83 : decode b_A_votes 83 = .ok (.iconst 0, 1) := by decide +kernel
theorem d_A_votes_84 : decode b_A_votes 84 = .ok (.iload 6, 2) := by decide +kernel
theorem d_A_votes_86 : decode b_A_votes 86 = .ok (.iconst (-1), 1) := by decide +kernel
theorem d_A_votes_87 : decode b_A_votes 87 = .ok (.if_icmp .ne 7, 3) := by decide +kernel
theorem d_A_votes_90 : decode b_A_votes 90 = .ok (.iconst 1, 1) := by decide +kernel
theorem d_A_votes_91 : decode b_A_votes 91 = .ok (.goto 4, 3) := by decide +kernel
theorem d_A_votes_94 : decode b_A_votes 94 = .ok (.iconst 0, 1) := by decide +kernel
theorem d_A_votes_95 : decode b_A_votes 95 = .ok (.if_icmp .ne 46, 3) := by decide +kernel
theorem d_A_votes_98 : decode b_A_votes 98 = .ok (.iload 5, 2) := by decide +kernel
theorem d_A_votes_100 : decode b_A_votes 100 = .ok (.iload_n 1, 1) := by decide +kernel
theorem d_A_votes_101 : decode b_A_votes 101 = .ok (.if_icmp .gt 40, 3) := by decide +kernel
theorem d_A_votes_104 : decode b_A_votes 104 = .ok (.iload 6, 2) := by decide +kernel
theorem d_A_votes_106 : decode b_A_votes 106 = .ok (.iconst 3, 1) := by decide +kernel
theorem d_A_votes_107 : decode b_A_votes 107 = .ok (.if_icmp .ge 34, 3) := by decide +kernel
theorem d_A_votes_110 : decode b_A_votes 110 = .ok (.iload_n 2, 1) := by decide +kernel
theorem d_A_votes_111 : decode b_A_votes 111 = .ok (.iload 4, 2) := by decide +kernel
theorem d_A_votes_113 : decode b_A_votes 113 = .ok (.ishr, 1) := by decide +kernel
theorem d_A_votes_114 : decode b_A_votes 114 = .ok (.iconst 1, 1) := by decide +kernel
theorem d_A_votes_115 : decode b_A_votes 115 = .ok (.iand, 1) := by decide +kernel
theorem d_A_votes_116 : decode b_A_votes 116 = .ok (.iload 5, 2) := by decide +kernel
theorem d_A_votes_118 : decode b_A_votes 118 = .ok (.ifCond .le 15, 3) := by decide +kernel
theorem d_A_votes_121 : decode b_A_votes 121 = .ok (.iload_n 1, 1) := by decide +kernel
theorem d_A_votes_122 : decode b_A_votes 122 = .ok (.iload 5, 2) := by decide +kernel
theorem d_A_votes_124 : decode b_A_votes 124 = .ok (.isub, 1) := by decide +kernel
theorem d_A_votes_125 : decode b_A_votes 125 = .ok (.iconst 4, 1) := by decide +kernel
theorem d_A_votes_126 : decode b_A_votes 126 = .ok (.if_icmp .ge 7, 3) := by decide +kernel
theorem d_A_votes_129 : decode b_A_votes 129 = .ok (.iconst 1, 1) := by decide +kernel
theorem d_A_votes_130 : decode b_A_votes 130 = .ok (.goto 4, 3) := by decide +kernel
theorem d_A_votes_133 : decode b_A_votes 133 = .ok (.iconst 0, 1) := by decide +kernel
theorem d_A_votes_134 : decode b_A_votes 134 = .ok (.if_icmp .ne 7, 3) := by decide +kernel
theorem d_A_votes_137 : decode b_A_votes 137 = .ok (.iconst 1, 1) := by decide +kernel
theorem d_A_votes_138 : decode b_A_votes 138 = .ok (.goto 4, 3) := by decide +kernel
theorem d_A_votes_141 : decode b_A_votes 141 = .ok (.iconst 0, 1) := by decide +kernel
theorem d_A_votes_142 : decode b_A_votes 142 = .ok (.istore_n 3, 1) := by decide +kernel
theorem d_A_votes_143 : decode b_A_votes 143 = .ok (.iinc 4 1, 3) := by decide +kernel
theorem d_A_votes_146 : decode b_A_votes 146 = .ok (.goto (-100), 3) := by decide +kernel
theorem d_A_votes_149 : decode b_A_votes 149 = .ok (.iload_n 3, 1) := by decide +kernel
theorem d_A_votes_150 : decode b_A_votes 150 = .ok (.ifCond .eq 38, 3) := by decide +kernel
theorem d_A_votes_153 : decode b_A_votes 153 = .ok (.iload_n 1, 1) := by decide +kernel
theorem d_A_votes_154 : decode b_A_votes 154 = .ok (.ifCond .eq 30, 3) := by decide +kernel
theorem d_A_votes_157 : decode b_A_votes 157 = .ok (.aload_n 0, 1) := by decide +kernel
theorem d_A_votes_158 : decode b_A_votes 158 = .ok (.iload_n 1, 1) := by decide +kernel
theorem d_A_votes_159 : decode b_A_votes 159 = .ok (.invokevirtual 45, 3) := by decide +kernel
theorem d_A_votes_162 : decode b_A_votes 162 = .ok (.bipush 10, 2) := by decide +kernel
theorem d_A_votes_164 : decode b_A_votes 164 = .ok (.idiv, 1) := by decide +kernel
theorem d_A_votes_165 : decode b_A_votes 165 = .ok (.iload_n 2, 1) := by decide +kernel
theorem d_A_votes_166 : decode b_A_votes 166 = .ok (.invokestatic 48, 3) := by decide +kernel
theorem d_A_votes_169 : decode b_A_votes 169 = .ok (.if_icmp .ne 19, 3) := by decide +kernel
theorem d_A_votes_172 : decode b_A_votes 172 = .ok (.aload_n 0, 1) := by decide +kernel
theorem d_A_votes_173 : decode b_A_votes 173 = .ok (.iload_n 1, 1) := by decide +kernel
theorem d_A_votes_174 : decode b_A_votes 174 = .ok (.invokevirtual 45, 3) := by decide +kernel
theorem d_A_votes_177 : decode b_A_votes 177 = .ok (.bipush 10, 2) := by decide +kernel
theorem d_A_votes_179 : decode b_A_votes 179 = .ok (.irem, 1) := by decide +kernel
theorem d_A_votes_180 : decode b_A_votes 180 = .ok (.iconst 3, 1) := by decide +kernel
theorem d_A_votes_181 : decode b_A_votes 181 = .ok (.if_icmp .ge 7, 3) := by decide +kernel
theorem d_A_votes_184 : decode b_A_votes 184 = .ok (.iconst 1, 1) := by decide +kernel
theorem d_A_votes_185 : decode b_A_votes 185 = .ok (.goto 4, 3) := by decide +kernel
theorem d_A_votes_188 : decode b_A_votes 188 = .ok (.iconst 0, 1) := by decide +kernel
theorem d_A_votes_189 : decode b_A_votes 189 = .ok (.ireturn, 1) := by decide +kernel
theorem d_A_cars_0 : decode b_A_cars 0 = .ok (.iconst 0, 1) := by decide +kernel
theorem d_A_cars_1 : decode b_A_cars 1 = .ok (.istore_n 2, 1) := by decide +kernel
theorem d_A_cars_2 : decode b_A_cars 2 = .ok (.iconst 1, 1) := by decide +kernel
theorem d_A_cars_3 : decode b_A_cars 3 = .ok (.istore_n 3, 1) := by decide +kernel
theorem d_A_cars_4 : decode b_A_cars 4 = .ok (.iconst 0, 1) := by decide +kernel
theorem d_A_cars_5 : decode b_A_cars 5 = .ok (.istore 4, 2) := by decide +kernel
theorem d_A_cars_7 : decode b_A_cars 7 = .ok (.iload 4, 2) := by decide +kernel
theorem d_A_cars_9 : decode b_A_cars 9 = .ok (.iload_n 1, 1) := by decide +kernel
theorem d_A_cars_10 : decode b_A_cars 10 = .ok (.if_icmp .ge 93, 3) := by decide +kernel
theorem d_A_cars_13 : decode b_A_cars 13 = .ok (.iload_n 3, 1) := by decide +kernel
theorem d_A_cars_14 : decode b_A_cars 14 = .ok (.ifCond .eq 89, 3) := by decide +kernel
theorem d_A_cars_17 : decode b_A_cars 17 = .ok (.aload_n 0, 1) := by decide +kernel
theorem d_A_cars_18 : decode b_A_cars 18 = .ok (.iload 4, 2) := by decide +kernel
theorem d_A_cars_20 : decode b_A_cars 20 = .ok (.invokestatic 53, 3) := by decide +kernel
theorem d_A_cars_23 : decode b_A_cars 23 = .ok (.istore 5, 2) := by decide +kernel
theorem d_A_cars_25 : decode b_A_cars 25 = .ok (.iload_n 2, 1) := by decide +kernel
theorem d_A_cars_26 : decode b_A_cars 26 = .ok (.iload 5, 2) := by decide +kernel
theorem d_A_cars_28 : decode b_A_cars 28 = .ok (.bipush (-4), 2) := by decide +kernel
theorem d_A_cars_30 : decode b_A_cars 30 = .ok (.if_icmp .ne 7, 3) := by decide +kernel
theorem d_A_cars_33 : decode b_A_cars 33 = .ok (.iconst 0, 1) := by decide +kernel
theorem d_A_cars_34 : decode b_A_cars 34 = .ok (.goto 4, 3) := by decide +kernel
theorem d_A_cars_37 : decode b_A_cars 37 = .ok (.iconst 1, 1) := by decide +kernel
theorem d_A_cars_38 : decode b_A_cars 38 = .ok (.iadd, 1) := by decide +kernel
theorem d_A_cars_39 : decode b_A_cars 39 = .ok (.istore_n 2, 1) := by decide +kernel
theorem d_A_cars_40 : decode b_A_cars 40 = .ok (.iload 5, 2) := by decide +kernel
theorem d_A_cars_42 : decode b_A_cars 42 = .ok (.bipush (-4), 2) := by decide +kernel
theorem d_A_cars_44 : decode b_A_cars 44 = .ok (.if_icmp .eq 47, 3) := by decide +kernel
theorem d_A_cars_47 : decode b_A_cars 47 = .ok (.iload 5, 2) := by decide +kernel
theorem d_A_cars_49 : decode b_A_cars 49 = .ok (.aload_n 0, 1) := by decide +kernel
theorem d_A_cars_50 : decode b_A_cars 50 = .ok (.iload 4, 2) := by decide +kernel
theorem d_A_cars_52 : decode b_A_cars 52 = .ok (.invokevirtual 56, 3) := by decide +kernel
theorem d_A_cars_55 : decode b_A_cars 55 = .ok (.if_icmp .ne 40, 3) := by decide +kernel
theorem d_A_cars_58 : decode b_A_cars 58 = .ok (.iload 5, 2) := by decide +kernel
theorem d_A_cars_60 : decode b_A_cars 60 = .ok (.ifCond .lt 35, 3) := by decide +kernel
theorem d_A_cars_63 : decode b_A_cars 63 = .ok (.iload 5, 2) := by decide +kernel
theorem d_A_cars_65 : decode b_A_cars 65 = .ok (.sipush 1200, 3) := by decide +kernel
theorem d_A_cars_68 : decode b_A_cars 68 = .ok (.if_icmp .ge 27, 3) := by decide +kernel
theorem d_A_cars_71 : decode b_A_cars 71 = .ok (.aload_n 0, 1) := by decide +kernel
theorem d_A_cars_72 : decode b_A_cars 72 = .ok (.iload 4, 2) := by decide +kernel
theorem d_A_cars_74 : decode b_A_cars 74 = .ok (.invokevirtual 59, 3) := by decide +kernel
theorem d_A_cars_77 : decode b_A_cars 77 = .ok (.ifCond .lt 18, 3) := by decide +kernel
theorem d_A_cars_80 : decode b_A_cars 80 = .ok (.aload_n 0, 1) := by decide +kernel
theorem d_A_cars_81 : decode b_A_cars 81 = .ok (.iload 4, 2) := by decide +kernel
theorem d_A_cars_83 : decode b_A_cars 83 = .ok (.invokevirtual 59, 3) := by decide +kernel
theorem d_A_cars_86 : decode b_A_cars 86 = .ok (.bipush 9, 2) := by decide +kernel
theorem d_A_cars_88 : decode b_A_cars 88 = .ok (.if_icmp .ge 7, 3) := by decide +kernel
theorem d_A_cars_91 : decode b_A_cars 91 = .ok (.iconst 1, 1) := by decide +kernel
theorem d_A_cars_92 : decode b_A_cars 92 = .ok (.goto 4, 3) := by decide +kernel
theorem d_A_cars_95 : decode b_A_cars 95 = .ok (.iconst 0, 1) := by decide +kernel
theorem d_A_cars_96 : decode b_A_cars 96 = .ok (.istore_n 3, 1) := by decide +kernel
theorem d_A_cars_97 : decode b_A_cars 97 = .ok (.iinc 4 1, 3) := by decide +kernel
theorem d_A_cars_100 : decode b_A_cars 100 = .ok (.goto (-93), 3) := by decide +kernel
theorem d_A_cars_103 : decode b_A_cars 103 = .ok (.iload_n 3, 1) := by decide +kernel
theorem d_A_cars_104 : decode b_A_cars 104 = .ok (.ifCond .eq 40, 3) := by decide +kernel
theorem d_A_cars_107 : decode b_A_cars 107 = .ok (.aload_n 0, 1) := by decide +kernel
theorem d_A_cars_108 : decode b_A_cars 108 = .ok (.invokevirtual 62, 3) := by decide +kernel
theorem d_A_cars_111 : decode b_A_cars 111 = .ok (.iload_n 2, 1) := by decide +kernel
theorem d_A_cars_112 : decode b_A_cars 112 = .ok (.if_icmp .ne 32, 3) := by decide +kernel
theorem d_A_cars_115 : decode b_A_cars 115 = .ok (.iload_n 2, 1) := by decide +kernel
theorem d_A_cars_116 : decode b_A_cars 116 = .ok (.iconst 1, 1) := by decide +kernel
theorem d_A_cars_117 : decode b_A_cars 117 = .ok (.if_icmp .le 15, 3) := by decide +kernel
theorem d_A_cars_120 : decode b_A_cars 120 = .ok (.aload_n 0, 1) := by decide +kernel
theorem d_A_cars_121 : decode b_A_cars 121 = .ok (.invokevirtual 65, 3) := by decide +kernel
theorem d_A_cars_124 : decode b_A_cars 124 = .ok (.bipush 60, 2) := by decide +kernel
theorem d_A_cars_126 : decode b_A_cars 126 = .ok (.if_icmp .lt 18, 3) := by decide +kernel
theorem d_A_cars_129 : decode b_A_cars 129 = .ok (.goto 11, 3) := by decide +kernel
theorem d_A_cars_132 : decode b_A_cars 132 = .ok (.aload_n 0, 1) := by decide +kernel
theorem d_A_cars_133 : decode b_A_cars 133 = .ok (.invokevirtual 65, 3) := by decide +kernel
theorem d_A_cars_136 : decode b_A_cars 136 = .ok (.iconst (-1), 1) := by decide +kernel
theorem d_A_cars_137 : decode b_A_cars 137 = .ok (.if_icmp .ne 7, 3) := by decide +kernel
theorem d_A_cars_140 : decode b_A_cars 140 = .ok (.iconst 1, 1) := by decide +kernel
theorem d_A_cars_141 : decode b_A_cars 141 = .ok (.goto 4, 3) := by decide +kernel
theorem d_A_cars_144 : decode b_A_cars 144 = .ok (.iconst 0, 1) := by decide +kernel
theorem d_A_cars_145 : decode b_A_cars 145 = .ok (.ireturn, 1) := by decide +kernel
theorem d_J_bitCount_0 : decode b_J_bitCount 0 = .ok (.iload_n 0, 1) := by decide +kernel
theorem d_J_bitCount_1 : decode b_J_bitCount 1 = .ok (.iload_n 0, 1) := by decide +kernel
theorem d_J_bitCount_2 : decode b_J_bitCount 2 = .ok (.iconst 1, 1) := by decide +kernel
theorem d_J_bitCount_3 : decode b_J_bitCount 3 = .ok (.iushr, 1) := by decide +kernel
theorem d_J_bitCount_4 : decode b_J_bitCount 4 = .ok (.ldc_w 265, 3) := by decide +kernel
theorem d_J_bitCount_7 : decode b_J_bitCount 7 = .ok (.iand, 1) := by decide +kernel
theorem d_J_bitCount_8 : decode b_J_bitCount 8 = .ok (.isub, 1) := by decide +kernel
theorem d_J_bitCount_9 : decode b_J_bitCount 9 = .ok (.istore_n 0, 1) := by decide +kernel
theorem d_J_bitCount_10 : decode b_J_bitCount 10 = .ok (.iload_n 0, 1) := by decide +kernel
theorem d_J_bitCount_11 : decode b_J_bitCount 11 = .ok (.ldc_w 266, 3) := by decide +kernel
theorem d_J_bitCount_14 : decode b_J_bitCount 14 = .ok (.iand, 1) := by decide +kernel
theorem d_J_bitCount_15 : decode b_J_bitCount 15 = .ok (.iload_n 0, 1) := by decide +kernel
theorem d_J_bitCount_16 : decode b_J_bitCount 16 = .ok (.iconst 2, 1) := by decide +kernel
theorem d_J_bitCount_17 : decode b_J_bitCount 17 = .ok (.iushr, 1) := by decide +kernel
theorem d_J_bitCount_18 : decode b_J_bitCount 18 = .ok (.ldc_w 266, 3) := by decide +kernel
theorem d_J_bitCount_21 : decode b_J_bitCount 21 = .ok (.iand, 1) := by decide +kernel
theorem d_J_bitCount_22 : decode b_J_bitCount 22 = .ok (.iadd, 1) := by decide +kernel
theorem d_J_bitCount_23 : decode b_J_bitCount 23 = .ok (.istore_n 0, 1) := by decide +kernel
theorem d_J_bitCount_24 : decode b_J_bitCount 24 = .ok (.iload_n 0, 1) := by decide +kernel
theorem d_J_bitCount_25 : decode b_J_bitCount 25 = .ok (.iload_n 0, 1) := by decide +kernel
theorem d_J_bitCount_26 : decode b_J_bitCount 26 = .ok (.iconst 4, 1) := by decide +kernel
theorem d_J_bitCount_27 : decode b_J_bitCount 27 = .ok (.iushr, 1) := by decide +kernel
theorem d_J_bitCount_28 : decode b_J_bitCount 28 = .ok (.iadd, 1) := by decide +kernel
theorem d_J_bitCount_29 : decode b_J_bitCount 29 = .ok (.ldc_w 267, 3) := by decide +kernel
theorem d_J_bitCount_32 : decode b_J_bitCount 32 = .ok (.iand, 1) := by decide +kernel
theorem d_J_bitCount_33 : decode b_J_bitCount 33 = .ok (.istore_n 0, 1) := by decide +kernel
theorem d_J_bitCount_34 : decode b_J_bitCount 34 = .ok (.iload_n 0, 1) := by decide +kernel
theorem d_J_bitCount_35 : decode b_J_bitCount 35 = .ok (.iload_n 0, 1) := by decide +kernel
theorem d_J_bitCount_36 : decode b_J_bitCount 36 = .ok (.bipush 8, 2) := by decide +kernel
theorem d_J_bitCount_38 : decode b_J_bitCount 38 = .ok (.iushr, 1) := by decide +kernel
theorem d_J_bitCount_39 : decode b_J_bitCount 39 = .ok (.iadd, 1) := by decide +kernel
theorem d_J_bitCount_40 : decode b_J_bitCount 40 = .ok (.istore_n 0, 1) := by decide +kernel
theorem d_J_bitCount_41 : decode b_J_bitCount 41 = .ok (.iload_n 0, 1) := by decide +kernel
theorem d_J_bitCount_42 : decode b_J_bitCount 42 = .ok (.iload_n 0, 1) := by decide +kernel
theorem d_J_bitCount_43 : decode b_J_bitCount 43 = .ok (.bipush 16, 2) := by decide +kernel
theorem d_J_bitCount_45 : decode b_J_bitCount 45 = .ok (.iushr, 1) := by decide +kernel
theorem d_J_bitCount_46 : decode b_J_bitCount 46 = .ok (.iadd, 1) := by decide +kernel
theorem d_J_bitCount_47 : decode b_J_bitCount 47 = .ok (.istore_n 0, 1) := by decide +kernel
theorem d_J_bitCount_48 : decode b_J_bitCount 48 = .ok (.iload_n 0, 1) := by decide +kernel
theorem d_J_bitCount_49 : decode b_J_bitCount 49 = .ok (.bipush 63, 2) := by decide +kernel
theorem d_J_bitCount_51 : decode b_J_bitCount 51 = .ok (.iand, 1) := by decide +kernel
theorem d_J_bitCount_52 : decode b_J_bitCount 52 = .ok (.ireturn, 1) := by decide +kernel
theorem d_J_floorMod_0 : decode b_J_floorMod 0 = .ok (.iload_n 0, 1) := by decide +kernel
theorem d_J_floorMod_1 : decode b_J_floorMod 1 = .ok (.iload_n 1, 1) := by decide +kernel
theorem d_J_floorMod_2 : decode b_J_floorMod 2 = .ok (.irem, 1) := by decide +kernel
theorem d_J_floorMod_3 : decode b_J_floorMod 3 = .ok (.istore_n 2, 1) := by decide +kernel
theorem d_J_floorMod_4 : decode b_J_floorMod 4 = .ok (.iload_n 0, 1) := by decide +kernel
theorem d_J_floorMod_5 : decode b_J_floorMod 5 = .ok (.iload_n 1, 1) := by decide +kernel
theorem d_J_floorMod_6 : decode b_J_floorMod 6 = .ok (.ixor, 1) := by decide +kernel
theorem d_J_floorMod_7 : decode b_J_floorMod 7 = .ok (.ifCond .ge 11, 3) := by decide +kernel
theorem d_J_floorMod_10 : decode b_J_floorMod 10 = .ok (.iload_n 2, 1) := by decide +kernel
theorem d_J_floorMod_11 : decode b_J_floorMod 11 = .ok (.ifCond .eq 7, 3) := by decide +kernel
theorem d_J_floorMod_14 : decode b_J_floorMod 14 = .ok (.iload_n 2, 1) := by decide +kernel
theorem d_J_floorMod_15 : decode b_J_floorMod 15 = .ok (.iload_n 1, 1) := by decide +kernel
theorem d_J_floorMod_16 : decode b_J_floorMod 16 = .ok (.iadd, 1) := by decide +kernel
theorem d_J_floorMod_17 : decode b_J_floorMod 17 = .ok (.ireturn, 1) := by decide +kernel
theorem d_J_floorMod_18 : decode b_J_floorMod 18 = .ok (.iload_n 2, 1) := by decide +kernel
theorem d_J_floorMod_19 : decode b_J_floorMod 19 = .ok (.ireturn, 1) := by decide +kernel
end
section
set_option maxRecDepth 20000 in
theorem q_0 : (Jvm.Cond.initialized "RopeVotesLaw") ∈ rr_all := rr_in 3 rfl rfl
set_option maxRecDepth 20000 in
theorem q_1 : (Jvm.Cond.initialized "RopeVotes") ∈ rr_all := rr_in 4 rfl rfl
set_option maxRecDepth 20000 in
theorem q_2 : (Jvm.Cond.initialized "RopeVotes$Loop") ∈ rr_all := rr_in 5 rfl rfl
set_option maxRecDepth 20000 in
theorem q_3 : (Jvm.Cond.initialized "RopeVotes$Towers") ∈ rr_all := rr_in 6 rfl rfl
set_option maxRecDepth 20000 in
theorem q_4 : (Jvm.Cond.initialized "RopeVotes$Post") ∈ rr_all := rr_in 7 rfl rfl
set_option maxRecDepth 20000 in
theorem q_5 : (Jvm.Cond.initialized "RopeVotes$Control") ∈ rr_all := rr_in 8 rfl rfl
set_option maxRecDepth 20000 in
theorem q_6 : (Jvm.Cond.initialized "RopeVotes$Tickets") ∈ rr_all := rr_in 9 rfl rfl
set_option maxRecDepth 20000 in
theorem q_7 : (Jvm.Cond.initialized "java/lang/Throwable") ∈ rr_all := rr_in 10 rfl rfl
set_option maxRecDepth 20000 in
theorem q_8 : (Jvm.Cond.initialized "java/lang/Exception") ∈ rr_all := rr_in 11 rfl rfl
set_option maxRecDepth 20000 in
theorem q_9 : (Jvm.Cond.initialized "java/lang/RuntimeException") ∈ rr_all := rr_in 12 rfl rfl
set_option maxRecDepth 20000 in
theorem q_10 : (Jvm.Cond.initialized "java/lang/IndexOutOfBoundsException") ∈ rr_all := rr_in 13 rfl rfl
set_option maxRecDepth 20000 in
theorem q_11 : (Jvm.Cond.initialized "java/lang/Math") ∈ rr_all := rr_in 14 rfl rfl
set_option maxRecDepth 20000 in
theorem q_12 : (Jvm.Cond.initialized "java/lang/IllegalArgumentException") ∈ rr_all := rr_in 15 rfl rfl
set_option maxRecDepth 20000 in
theorem q_13 : (Jvm.Cond.initialized "java/lang/IllegalStateException") ∈ rr_all := rr_in 16 rfl rfl
set_option maxRecDepth 20000 in
theorem q_14 : (Jvm.Cond.initialized "java/lang/Integer") ∈ rr_all := rr_in 17 rfl rfl
set_option maxRecDepth 20000 in
theorem q_15 : (Jvm.Cond.classLink "RopeVotesLaw" (10 : Nat) "RopeVotes") ∈ rr_all := rr_in 18 rfl rfl
set_option maxRecDepth 20000 in
theorem q_16 : (Jvm.Cond.instantiable "RopeVotes" (9 : Nat)) ∈ rr_all := rr_in 19 rfl rfl
set_option maxRecDepth 20000 in
theorem q_17 : (Jvm.Cond.methodLink "RopeVotesLaw" (68 : Nat) ({ cls := "RopeVotes", name := "<init>", desc := "()V" } : Jvm.MethodName)) ∈ rr_all := rr_in 20 rfl rfl
set_option maxRecDepth 20000 in
theorem q_18 : (Jvm.Cond.instanceMethod ({ cls := "RopeVotes", name := "<init>", desc := "()V" } : Jvm.MethodName)) ∈ rr_all := rr_in 21 rfl rfl
set_option maxRecDepth 20000 in
theorem q_19 : (Jvm.Cond.code ({ cls := "RopeVotes", name := "<init>", desc := "()V" } : Jvm.MethodName) prog_1_method_1_code (1 : Nat) (Option.none : Option Jvm.ClassFile.FieldType)) ∈ rr_all := rr_in 22 rfl rfl
set_option maxRecDepth 20000 in
theorem q_20 : (Jvm.Cond.methodLink "RopeVotes" (1 : Nat) ({ cls := "java/lang/Object", name := "<init>", desc := "()V" } : Jvm.MethodName)) ∈ rr_all := rr_in 23 rfl rfl
set_option maxRecDepth 20000 in
theorem q_21 : (Jvm.Cond.instanceMethod ({ cls := "java/lang/Object", name := "<init>", desc := "()V" } : Jvm.MethodName)) ∈ rr_all := rr_in 24 rfl rfl
set_option maxRecDepth 20000 in
theorem q_22 : (Jvm.Cond.code ({ cls := "java/lang/Object", name := "<init>", desc := "()V" } : Jvm.MethodName) object_method_1_code (1 : Nat) (Option.none : Option Jvm.ClassFile.FieldType)) ∈ rr_all := rr_in 25 rfl rfl
set_option maxRecDepth 20000 in
theorem q_23 : (Jvm.Cond.classLink "RopeVotes" (7 : Nat) "RopeVotes$Loop") ∈ rr_all := rr_in 26 rfl rfl
set_option maxRecDepth 20000 in
theorem q_24 : (Jvm.Cond.instantiable "RopeVotes$Loop" (4 : Nat)) ∈ rr_all := rr_in 27 rfl rfl
set_option maxRecDepth 20000 in
theorem q_26 : (Jvm.Cond.instanceMethod ({ cls := "RopeVotes$Loop", name := "<init>", desc := "()V" } : Jvm.MethodName)) ∈ rr_all := rr_in 29 rfl rfl
set_option maxRecDepth 20000 in
theorem q_27 : (Jvm.Cond.code ({ cls := "RopeVotes$Loop", name := "<init>", desc := "()V" } : Jvm.MethodName) prog_3_method_1_code (1 : Nat) (Option.none : Option Jvm.ClassFile.FieldType)) ∈ rr_all := rr_in 30 rfl rfl
set_option maxRecDepth 20000 in
theorem q_28 : (Jvm.Cond.methodLink "RopeVotes$Loop" (3 : Nat) ({ cls := "java/lang/Object", name := "<init>", desc := "()V" } : Jvm.MethodName)) ∈ rr_all := rr_in 31 rfl rfl
set_option maxRecDepth 20000 in
theorem q_29 : (Jvm.Cond.fieldLink "RopeVotes$Loop" (9 : Nat) "RopeVotes$Loop" "place" "[I") ∈ rr_all := rr_in 32 rfl rfl
set_option maxRecDepth 20000 in
theorem q_30 : (Jvm.Cond.fieldLink "RopeVotes" (83 : Nat) "RopeVotes$Loop" "place" "[I") ∈ rr_all := rr_in 33 rfl rfl
set_option maxRecDepth 20000 in
theorem q_31 : (Jvm.Cond.fieldLink "RopeVotes$Loop" (15 : Nat) "RopeVotes$Loop" "turnsAtStart" "[I") ∈ rr_all := rr_in 34 rfl rfl
set_option maxRecDepth 20000 in
theorem q_32 : (Jvm.Cond.fieldLink "RopeVotes" (98 : Nat) "RopeVotes$Loop" "turnsAtStart" "[I") ∈ rr_all := rr_in 35 rfl rfl
set_option maxRecDepth 20000 in
theorem q_33 : (Jvm.Cond.fieldLink "RopeVotes$Loop" (18 : Nat) "RopeVotes$Loop" "isOn" "[Z") ∈ rr_all := rr_in 36 rfl rfl
set_option maxRecDepth 20000 in
theorem q_34 : (Jvm.Cond.fieldLink "RopeVotes" (94 : Nat) "RopeVotes$Loop" "isOn" "[Z") ∈ rr_all := rr_in 37 rfl rfl
set_option maxRecDepth 20000 in
theorem q_35 : (Jvm.Cond.fieldLink "RopeVotes$Loop" (22 : Nat) "RopeVotes$Loop" "started" "I") ∈ rr_all := rr_in 38 rfl rfl
set_option maxRecDepth 20000 in
theorem q_45 : (Jvm.Cond.arrayClass Jvm.ClassFile.FieldType.int) ∈ rr_all := rr_in 48 rfl rfl
set_option maxRecDepth 20000 in
theorem q_46 : (Jvm.Cond.arrayClass Jvm.ClassFile.FieldType.boolean) ∈ rr_all := rr_in 49 rfl rfl
set_option maxRecDepth 20000 in
theorem q_47 : (Jvm.Cond.classLink "RopeVotes" (16 : Nat) "RopeVotes$Towers") ∈ rr_all := rr_in 50 rfl rfl
set_option maxRecDepth 20000 in
theorem q_48 : (Jvm.Cond.instantiable "RopeVotes$Towers" (4 : Nat)) ∈ rr_all := rr_in 51 rfl rfl
set_option maxRecDepth 20000 in
theorem q_49 : (Jvm.Cond.methodLink "RopeVotes" (18 : Nat) ({ cls := "RopeVotes$Towers", name := "<init>", desc := "()V" } : Jvm.MethodName)) ∈ rr_all := rr_in 52 rfl rfl
set_option maxRecDepth 20000 in
theorem q_50 : (Jvm.Cond.instanceMethod ({ cls := "RopeVotes$Towers", name := "<init>", desc := "()V" } : Jvm.MethodName)) ∈ rr_all := rr_in 53 rfl rfl
set_option maxRecDepth 20000 in
theorem q_51 : (Jvm.Cond.code ({ cls := "RopeVotes$Towers", name := "<init>", desc := "()V" } : Jvm.MethodName) prog_6_method_1_code (2 : Nat) (Option.none : Option Jvm.ClassFile.FieldType)) ∈ rr_all := rr_in 54 rfl rfl
set_option maxRecDepth 20000 in
theorem q_52 : (Jvm.Cond.methodLink "RopeVotes$Towers" (3 : Nat) ({ cls := "java/lang/Object", name := "<init>", desc := "()V" } : Jvm.MethodName)) ∈ rr_all := rr_in 55 rfl rfl
set_option maxRecDepth 20000 in
theorem q_53 : (Jvm.Cond.fieldLink "RopeVotes$Towers" (9 : Nat) "RopeVotes$Towers" "wind" "[I") ∈ rr_all := rr_in 56 rfl rfl
set_option maxRecDepth 20000 in
theorem q_54 : (Jvm.Cond.fieldLink "RopeVotes" (118 : Nat) "RopeVotes$Towers" "wind" "[I") ∈ rr_all := rr_in 57 rfl rfl
set_option maxRecDepth 20000 in
theorem q_55 : (Jvm.Cond.fieldLink "RopeVotes$Towers" (15 : Nat) "RopeVotes$Towers" "slowLimit" "[I") ∈ rr_all := rr_in 58 rfl rfl
set_option maxRecDepth 20000 in
theorem q_56 : (Jvm.Cond.fieldLink "RopeVotes" (126 : Nat) "RopeVotes$Towers" "slowLimit" "[I") ∈ rr_all := rr_in 59 rfl rfl
set_option maxRecDepth 20000 in
theorem q_57 : (Jvm.Cond.fieldLink "RopeVotes$Towers" (18 : Nat) "RopeVotes$Towers" "stopLimit" "[I") ∈ rr_all := rr_in 60 rfl rfl
set_option maxRecDepth 20000 in
theorem q_58 : (Jvm.Cond.fieldLink "RopeVotes" (129 : Nat) "RopeVotes$Towers" "stopLimit" "[I") ∈ rr_all := rr_in 61 rfl rfl
set_option maxRecDepth 20000 in
theorem q_59 : (Jvm.Cond.fieldLink "RopeVotes$Towers" (21 : Nat) "RopeVotes$Towers" "isCutOff" "[Z") ∈ rr_all := rr_in 62 rfl rfl
set_option maxRecDepth 20000 in
theorem q_60 : (Jvm.Cond.fieldLink "RopeVotes" (132 : Nat) "RopeVotes$Towers" "isCutOff" "[Z") ∈ rr_all := rr_in 63 rfl rfl
set_option maxRecDepth 20000 in
theorem q_70 : (Jvm.Cond.classLink "RopeVotes" (23 : Nat) "RopeVotes$Post") ∈ rr_all := rr_in 73 rfl rfl
set_option maxRecDepth 20000 in
theorem q_71 : (Jvm.Cond.instantiable "RopeVotes$Post" (2 : Nat)) ∈ rr_all := rr_in 74 rfl rfl
set_option maxRecDepth 20000 in
theorem q_73 : (Jvm.Cond.instanceMethod ({ cls := "RopeVotes$Post", name := "<init>", desc := "()V" } : Jvm.MethodName)) ∈ rr_all := rr_in 76 rfl rfl
set_option maxRecDepth 20000 in
theorem q_74 : (Jvm.Cond.code ({ cls := "RopeVotes$Post", name := "<init>", desc := "()V" } : Jvm.MethodName) prog_4_method_1_code (1 : Nat) (Option.none : Option Jvm.ClassFile.FieldType)) ∈ rr_all := rr_in 77 rfl rfl
set_option maxRecDepth 20000 in
theorem q_75 : (Jvm.Cond.methodLink "RopeVotes$Post" (3 : Nat) ({ cls := "java/lang/Object", name := "<init>", desc := "()V" } : Jvm.MethodName)) ∈ rr_all := rr_in 78 rfl rfl
set_option maxRecDepth 20000 in
theorem q_76 : (Jvm.Cond.fieldLink "RopeVotes$Post" (9 : Nat) "RopeVotes$Post" "ballot" "[I") ∈ rr_all := rr_in 79 rfl rfl
set_option maxRecDepth 20000 in
theorem q_77 : (Jvm.Cond.fieldLink "RopeVotes$Post" (15 : Nat) "RopeVotes$Post" "comesAt" "[I") ∈ rr_all := rr_in 80 rfl rfl
set_option maxRecDepth 20000 in
theorem q_83 : (Jvm.Cond.classLink "RopeVotes" (30 : Nat) "RopeVotes$Control") ∈ rr_all := rr_in 86 rfl rfl
set_option maxRecDepth 20000 in
theorem q_84 : (Jvm.Cond.instantiable "RopeVotes$Control" (2 : Nat)) ∈ rr_all := rr_in 87 rfl rfl
set_option maxRecDepth 20000 in
theorem q_85 : (Jvm.Cond.methodLink "RopeVotes" (32 : Nat) ({ cls := "RopeVotes$Control", name := "<init>", desc := "()V" } : Jvm.MethodName)) ∈ rr_all := rr_in 88 rfl rfl
set_option maxRecDepth 20000 in
theorem q_86 : (Jvm.Cond.instanceMethod ({ cls := "RopeVotes$Control", name := "<init>", desc := "()V" } : Jvm.MethodName)) ∈ rr_all := rr_in 89 rfl rfl
set_option maxRecDepth 20000 in
theorem q_87 : (Jvm.Cond.code ({ cls := "RopeVotes$Control", name := "<init>", desc := "()V" } : Jvm.MethodName) prog_2_method_1_code (2 : Nat) (Option.none : Option Jvm.ClassFile.FieldType)) ∈ rr_all := rr_in 90 rfl rfl
set_option maxRecDepth 20000 in
theorem q_88 : (Jvm.Cond.methodLink "RopeVotes$Control" (3 : Nat) ({ cls := "java/lang/Object", name := "<init>", desc := "()V" } : Jvm.MethodName)) ∈ rr_all := rr_in 91 rfl rfl
set_option maxRecDepth 20000 in
theorem q_89 : (Jvm.Cond.fieldLink "RopeVotes$Control" (9 : Nat) "RopeVotes$Control" "ballot" "[I") ∈ rr_all := rr_in 92 rfl rfl
set_option maxRecDepth 20000 in
theorem q_90 : (Jvm.Cond.fieldLink "RopeVotes" (138 : Nat) "RopeVotes$Control" "ballot" "[I") ∈ rr_all := rr_in 93 rfl rfl
set_option maxRecDepth 20000 in
theorem q_91 : (Jvm.Cond.fieldLink "RopeVotes$Control" (15 : Nat) "RopeVotes$Control" "madeAt" "[I") ∈ rr_all := rr_in 94 rfl rfl
set_option maxRecDepth 20000 in
theorem q_92 : (Jvm.Cond.fieldLink "RopeVotes" (141 : Nat) "RopeVotes$Control" "madeAt" "[I") ∈ rr_all := rr_in 95 rfl rfl
set_option maxRecDepth 20000 in
theorem q_98 : (Jvm.Cond.classLink "RopeVotes" (37 : Nat) "RopeVotes$Tickets") ∈ rr_all := rr_in 101 rfl rfl
set_option maxRecDepth 20000 in
theorem q_99 : (Jvm.Cond.instantiable "RopeVotes$Tickets" (7 : Nat)) ∈ rr_all := rr_in 102 rfl rfl
set_option maxRecDepth 20000 in
theorem q_101 : (Jvm.Cond.instanceMethod ({ cls := "RopeVotes$Tickets", name := "<init>", desc := "()V" } : Jvm.MethodName)) ∈ rr_all := rr_in 104 rfl rfl
set_option maxRecDepth 20000 in
theorem q_102 : (Jvm.Cond.code ({ cls := "RopeVotes$Tickets", name := "<init>", desc := "()V" } : Jvm.MethodName) prog_5_method_1_code (1 : Nat) (Option.none : Option Jvm.ClassFile.FieldType)) ∈ rr_all := rr_in 105 rfl rfl
set_option maxRecDepth 20000 in
theorem q_103 : (Jvm.Cond.methodLink "RopeVotes$Tickets" (3 : Nat) ({ cls := "java/lang/Object", name := "<init>", desc := "()V" } : Jvm.MethodName)) ∈ rr_all := rr_in 106 rfl rfl
set_option maxRecDepth 20000 in
theorem q_104 : (Jvm.Cond.fieldLink "RopeVotes$Tickets" (9 : Nat) "RopeVotes$Tickets" "car" "[I") ∈ rr_all := rr_in 107 rfl rfl
set_option maxRecDepth 20000 in
theorem q_105 : (Jvm.Cond.fieldLink "RopeVotes$Tickets" (15 : Nat) "RopeVotes$Tickets" "people" "[I") ∈ rr_all := rr_in 108 rfl rfl
set_option maxRecDepth 20000 in
theorem q_106 : (Jvm.Cond.fieldLink "RopeVotes$Tickets" (18 : Nat) "RopeVotes$Tickets" "fare" "[I") ∈ rr_all := rr_in 109 rfl rfl
set_option maxRecDepth 20000 in
theorem q_107 : (Jvm.Cond.fieldLink "RopeVotes$Tickets" (21 : Nat) "RopeVotes$Tickets" "goalTurns" "[I") ∈ rr_all := rr_in 110 rfl rfl
set_option maxRecDepth 20000 in
theorem q_108 : (Jvm.Cond.fieldLink "RopeVotes$Tickets" (24 : Nat) "RopeVotes$Tickets" "arrivedAt" "[I") ∈ rr_all := rr_in 111 rfl rfl
set_option maxRecDepth 20000 in
theorem q_109 : (Jvm.Cond.fieldLink "RopeVotes" (181 : Nat) "RopeVotes$Tickets" "arrivedAt" "[I") ∈ rr_all := rr_in 112 rfl rfl
set_option maxRecDepth 20000 in
theorem q_110 : (Jvm.Cond.fieldLink "RopeVotes$Tickets" (27 : Nat) "RopeVotes$Tickets" "minutesHung" "[I") ∈ rr_all := rr_in 113 rfl rfl
set_option maxRecDepth 20000 in
theorem q_111 : (Jvm.Cond.fieldLink "RopeVotes" (184 : Nat) "RopeVotes$Tickets" "minutesHung" "[I") ∈ rr_all := rr_in 114 rfl rfl
set_option maxRecDepth 20000 in
theorem q_112 : (Jvm.Cond.fieldLink "RopeVotes$Tickets" (30 : Nat) "RopeVotes$Tickets" "sold" "I") ∈ rr_all := rr_in 115 rfl rfl
set_option maxRecDepth 20000 in
theorem q_128 : (Jvm.Cond.fieldLink "RopeVotes" (10 : Nat) "RopeVotes" "loop" "LRopeVotes$Loop;") ∈ rr_all := rr_in 131 rfl rfl
set_option maxRecDepth 20000 in
theorem q_129 : (Jvm.Cond.fieldLink "RopeVotes" (19 : Nat) "RopeVotes" "towers" "LRopeVotes$Towers;") ∈ rr_all := rr_in 132 rfl rfl
set_option maxRecDepth 20000 in
theorem q_130 : (Jvm.Cond.fieldLink "RopeVotes" (26 : Nat) "RopeVotes" "post" "LRopeVotes$Post;") ∈ rr_all := rr_in 133 rfl rfl
set_option maxRecDepth 20000 in
theorem q_131 : (Jvm.Cond.fieldLink "RopeVotes" (33 : Nat) "RopeVotes" "control" "LRopeVotes$Control;") ∈ rr_all := rr_in 134 rfl rfl
set_option maxRecDepth 20000 in
theorem q_132 : (Jvm.Cond.fieldLink "RopeVotes" (40 : Nat) "RopeVotes" "tickets" "LRopeVotes$Tickets;") ∈ rr_all := rr_in 135 rfl rfl
set_option maxRecDepth 20000 in
theorem q_133 : (Jvm.Cond.fieldLink "RopeVotes" (44 : Nat) "RopeVotes" "record" "[I") ∈ rr_all := rr_in 136 rfl rfl
set_option maxRecDepth 20000 in
theorem q_134 : (Jvm.Cond.fieldLink "RopeVotes" (48 : Nat) "RopeVotes" "now" "I") ∈ rr_all := rr_in 137 rfl rfl
set_option maxRecDepth 20000 in
theorem q_135 : (Jvm.Cond.fieldLink "RopeVotes" (52 : Nat) "RopeVotes" "turns" "I") ∈ rr_all := rr_in 138 rfl rfl
set_option maxRecDepth 20000 in
theorem q_136 : (Jvm.Cond.fieldLink "RopeVotes" (55 : Nat) "RopeVotes" "isHeldNow" "Z") ∈ rr_all := rr_in 139 rfl rfl
set_option maxRecDepth 20000 in
theorem q_156 : (Jvm.Cond.methodLink "RopeVotesLaw" (27 : Nat) ({ cls := "RopeVotes", name := "place", desc := "(I)I" } : Jvm.MethodName)) ∈ rr_all := rr_in 159 rfl rfl
set_option maxRecDepth 20000 in
theorem q_157 : (Jvm.Cond.instanceMethod ({ cls := "RopeVotes", name := "place", desc := "(I)I" } : Jvm.MethodName)) ∈ rr_all := rr_in 160 rfl rfl
set_option maxRecDepth 20000 in
theorem q_158 : (Jvm.Cond.selects "RopeVotes" ({ cls := "RopeVotes", name := "place", desc := "(I)I" } : Jvm.MethodName) ({ cls := "RopeVotes", name := "place", desc := "(I)I" } : Jvm.MethodName)) ∈ rr_all := rr_in 161 rfl rfl
set_option maxRecDepth 20000 in
theorem q_159 : (Jvm.Cond.code ({ cls := "RopeVotes", name := "place", desc := "(I)I" } : Jvm.MethodName) prog_1_method_5_code (2 : Nat) (Option.some Jvm.ClassFile.FieldType.int)) ∈ rr_all := rr_in 162 rfl rfl
set_option maxRecDepth 20000 in
theorem q_160 : (Jvm.Cond.methodLink "RopeVotes" (74 : Nat) ({ cls := "RopeVotes$Loop", name := "has", desc := "(I)Z" } : Jvm.MethodName)) ∈ rr_all := rr_in 163 rfl rfl
set_option maxRecDepth 20000 in
theorem q_161 : (Jvm.Cond.instanceMethod ({ cls := "RopeVotes$Loop", name := "has", desc := "(I)Z" } : Jvm.MethodName)) ∈ rr_all := rr_in 164 rfl rfl
set_option maxRecDepth 20000 in
theorem q_162 : (Jvm.Cond.selects "RopeVotes$Loop" ({ cls := "RopeVotes$Loop", name := "has", desc := "(I)Z" } : Jvm.MethodName) ({ cls := "RopeVotes$Loop", name := "has", desc := "(I)Z" } : Jvm.MethodName)) ∈ rr_all := rr_in 165 rfl rfl
set_option maxRecDepth 20000 in
theorem q_163 : (Jvm.Cond.code ({ cls := "RopeVotes$Loop", name := "has", desc := "(I)Z" } : Jvm.MethodName) prog_3_method_2_code (2 : Nat) (Option.some Jvm.ClassFile.FieldType.boolean)) ∈ rr_all := rr_in 166 rfl rfl
set_option maxRecDepth 20000 in
theorem q_164 : (Jvm.Cond.classLink "RopeVotes" (78 : Nat) "java/lang/IndexOutOfBoundsException") ∈ rr_all := rr_in 167 rfl rfl
set_option maxRecDepth 20000 in
theorem q_165 : (Jvm.Cond.instantiable "java/lang/IndexOutOfBoundsException" (6 : Nat)) ∈ rr_all := rr_in 168 rfl rfl
set_option maxRecDepth 20000 in
theorem q_173 : (Jvm.Cond.selects "java/lang/IndexOutOfBoundsException" ({ cls := "java/lang/Throwable", name := "fillInStackTrace", desc := "(I)Ljava/lang/Throwable;" } : Jvm.MethodName) ({ cls := "java/lang/Throwable", name := "fillInStackTrace", desc := "(I)Ljava/lang/Throwable;" } : Jvm.MethodName)) ∈ rr_all := rr_in 176 rfl rfl
set_option maxRecDepth 20000 in
theorem q_174 : (Jvm.Cond.selects "java/lang/IndexOutOfBoundsException" ({ cls := "java/lang/Throwable", name := "fillInStackTrace", desc := "()Ljava/lang/Throwable;" } : Jvm.MethodName) ({ cls := "java/lang/Throwable", name := "fillInStackTrace", desc := "()Ljava/lang/Throwable;" } : Jvm.MethodName)) ∈ rr_all := rr_in 177 rfl rfl
set_option maxRecDepth 20000 in
theorem q_185 : (Jvm.Cond.fieldLink "java/lang/Throwable" (198 : Nat) "java/lang/Throwable" "backtrace" "Ljava/lang/Object;") ∈ rr_all := rr_in 188 rfl rfl
set_option maxRecDepth 20000 in
theorem q_187 : (Jvm.Cond.instanceMethod ({ cls := "java/lang/Throwable", name := "<init>", desc := "()V" } : Jvm.MethodName)) ∈ rr_all := rr_in 190 rfl rfl
set_option maxRecDepth 20000 in
theorem q_188 : (Jvm.Cond.code ({ cls := "java/lang/Throwable", name := "<init>", desc := "()V" } : Jvm.MethodName) prog_17_method_1_code (1 : Nat) (Option.none : Option Jvm.ClassFile.FieldType)) ∈ rr_all := rr_in 191 rfl rfl
set_option maxRecDepth 20000 in
theorem q_189 : (Jvm.Cond.methodLink "java/lang/Throwable" (1 : Nat) ({ cls := "java/lang/Object", name := "<init>", desc := "()V" } : Jvm.MethodName)) ∈ rr_all := rr_in 192 rfl rfl
set_option maxRecDepth 20000 in
theorem q_190 : (Jvm.Cond.fieldLink "java/lang/Throwable" (13 : Nat) "java/lang/Throwable" "UNASSIGNED_STACK" "[Ljava/lang/StackTraceElement;") ∈ rr_all := rr_in 193 rfl rfl
set_option maxRecDepth 20000 in
theorem q_192 : (Jvm.Cond.fieldLink "java/lang/Throwable" (20 : Nat) "java/lang/Throwable" "SUPPRESSED_SENTINEL" "Ljava/util/List;") ∈ rr_all := rr_in 195 rfl rfl
set_option maxRecDepth 20000 in
theorem q_194 : (Jvm.Cond.methodLink "java/lang/Throwable" (27 : Nat) ({ cls := "java/lang/Throwable", name := "fillInStackTrace", desc := "()Ljava/lang/Throwable;" } : Jvm.MethodName)) ∈ rr_all := rr_in 197 rfl rfl
set_option maxRecDepth 20000 in
theorem q_195 : (Jvm.Cond.instanceMethod ({ cls := "java/lang/Throwable", name := "fillInStackTrace", desc := "()Ljava/lang/Throwable;" } : Jvm.MethodName)) ∈ rr_all := rr_in 198 rfl rfl
set_option maxRecDepth 20000 in
theorem q_197 : (Jvm.Cond.selects "java/lang/IllegalArgumentException" ({ cls := "java/lang/Throwable", name := "fillInStackTrace", desc := "()Ljava/lang/Throwable;" } : Jvm.MethodName) ({ cls := "java/lang/Throwable", name := "fillInStackTrace", desc := "()Ljava/lang/Throwable;" } : Jvm.MethodName)) ∈ rr_all := rr_in 200 rfl rfl
set_option maxRecDepth 20000 in
theorem q_198 : (Jvm.Cond.selects "java/lang/IllegalStateException" ({ cls := "java/lang/Throwable", name := "fillInStackTrace", desc := "()Ljava/lang/Throwable;" } : Jvm.MethodName) ({ cls := "java/lang/Throwable", name := "fillInStackTrace", desc := "()Ljava/lang/Throwable;" } : Jvm.MethodName)) ∈ rr_all := rr_in 201 rfl rfl
set_option maxRecDepth 20000 in
theorem q_200 : (Jvm.Cond.methodLink "java/lang/Throwable" (202 : Nat) ({ cls := "java/lang/Throwable", name := "fillInStackTrace", desc := "(I)Ljava/lang/Throwable;" } : Jvm.MethodName)) ∈ rr_all := rr_in 203 rfl rfl
set_option maxRecDepth 20000 in
theorem q_202 : (Jvm.Cond.instanceMethod ({ cls := "java/lang/Throwable", name := "fillInStackTrace", desc := "(I)Ljava/lang/Throwable;" } : Jvm.MethodName)) ∈ rr_all := rr_in 205 rfl rfl
set_option maxRecDepth 20000 in
theorem q_203 : (Jvm.Cond.instantiable "java/lang/Throwable" (6 : Nat)) ∈ rr_all := rr_in 206 rfl rfl
set_option maxRecDepth 20000 in
theorem q_206 : (Jvm.Cond.methodLink "RopeVotes" (82 : Nat) ({ cls := "java/lang/IndexOutOfBoundsException", name := "<init>", desc := "(Ljava/lang/String;)V" } : Jvm.MethodName)) ∈ rr_all := rr_in 209 rfl rfl
set_option maxRecDepth 20000 in
theorem q_207 : (Jvm.Cond.instanceMethod ({ cls := "java/lang/IndexOutOfBoundsException", name := "<init>", desc := "(Ljava/lang/String;)V" } : Jvm.MethodName)) ∈ rr_all := rr_in 210 rfl rfl
set_option maxRecDepth 20000 in
theorem q_208 : (Jvm.Cond.code ({ cls := "java/lang/IndexOutOfBoundsException", name := "<init>", desc := "(Ljava/lang/String;)V" } : Jvm.MethodName) prog_12_method_2_code (2 : Nat) (Option.none : Option Jvm.ClassFile.FieldType)) ∈ rr_all := rr_in 211 rfl rfl
set_option maxRecDepth 20000 in
theorem q_209 : (Jvm.Cond.methodLink "java/lang/IndexOutOfBoundsException" (7 : Nat) ({ cls := "java/lang/RuntimeException", name := "<init>", desc := "(Ljava/lang/String;)V" } : Jvm.MethodName)) ∈ rr_all := rr_in 212 rfl rfl
set_option maxRecDepth 20000 in
theorem q_210 : (Jvm.Cond.instanceMethod ({ cls := "java/lang/RuntimeException", name := "<init>", desc := "(Ljava/lang/String;)V" } : Jvm.MethodName)) ∈ rr_all := rr_in 213 rfl rfl
set_option maxRecDepth 20000 in
theorem q_211 : (Jvm.Cond.code ({ cls := "java/lang/RuntimeException", name := "<init>", desc := "(Ljava/lang/String;)V" } : Jvm.MethodName) prog_15_method_2_code (2 : Nat) (Option.none : Option Jvm.ClassFile.FieldType)) ∈ rr_all := rr_in 214 rfl rfl
set_option maxRecDepth 20000 in
theorem q_212 : (Jvm.Cond.methodLink "java/lang/RuntimeException" (7 : Nat) ({ cls := "java/lang/Exception", name := "<init>", desc := "(Ljava/lang/String;)V" } : Jvm.MethodName)) ∈ rr_all := rr_in 215 rfl rfl
set_option maxRecDepth 20000 in
theorem q_213 : (Jvm.Cond.instanceMethod ({ cls := "java/lang/Exception", name := "<init>", desc := "(Ljava/lang/String;)V" } : Jvm.MethodName)) ∈ rr_all := rr_in 216 rfl rfl
set_option maxRecDepth 20000 in
theorem q_214 : (Jvm.Cond.code ({ cls := "java/lang/Exception", name := "<init>", desc := "(Ljava/lang/String;)V" } : Jvm.MethodName) prog_9_method_2_code (2 : Nat) (Option.none : Option Jvm.ClassFile.FieldType)) ∈ rr_all := rr_in 217 rfl rfl
set_option maxRecDepth 20000 in
theorem q_215 : (Jvm.Cond.methodLink "java/lang/Exception" (7 : Nat) ({ cls := "java/lang/Throwable", name := "<init>", desc := "(Ljava/lang/String;)V" } : Jvm.MethodName)) ∈ rr_all := rr_in 218 rfl rfl
set_option maxRecDepth 20000 in
theorem q_216 : (Jvm.Cond.instanceMethod ({ cls := "java/lang/Throwable", name := "<init>", desc := "(Ljava/lang/String;)V" } : Jvm.MethodName)) ∈ rr_all := rr_in 219 rfl rfl
set_option maxRecDepth 20000 in
theorem q_217 : (Jvm.Cond.code ({ cls := "java/lang/Throwable", name := "<init>", desc := "(Ljava/lang/String;)V" } : Jvm.MethodName) prog_17_method_2_code (2 : Nat) (Option.none : Option Jvm.ClassFile.FieldType)) ∈ rr_all := rr_in 220 rfl rfl
set_option maxRecDepth 20000 in
theorem q_218 : (Jvm.Cond.fieldLink "java/lang/Throwable" (198 : Nat) "java/lang/Throwable" "backtrace" "Ljava/lang/Object;") ∈ rr_all := rr_in 221 rfl rfl
set_option maxRecDepth 20000 in
theorem q_219 : (Jvm.Cond.fieldLink "java/lang/Throwable" (31 : Nat) "java/lang/Throwable" "detailMessage" "Ljava/lang/String;") ∈ rr_all := rr_in 222 rfl rfl
set_option maxRecDepth 20000 in
theorem q_220 : (Jvm.Cond.fieldLink "java/lang/Throwable" (7 : Nat) "java/lang/Throwable" "cause" "Ljava/lang/Throwable;") ∈ rr_all := rr_in 223 rfl rfl
set_option maxRecDepth 20000 in
theorem q_221 : (Jvm.Cond.fieldLink "java/lang/Throwable" (17 : Nat) "java/lang/Throwable" "stackTrace" "[Ljava/lang/StackTraceElement;") ∈ rr_all := rr_in 224 rfl rfl
set_option maxRecDepth 20000 in
theorem q_222 : (Jvm.Cond.fieldLink "java/lang/Throwable" (24 : Nat) "java/lang/Throwable" "suppressedExceptions" "Ljava/util/List;") ∈ rr_all := rr_in 225 rfl rfl
set_option maxRecDepth 20000 in
theorem q_231 : (Jvm.Cond.arrayClass Jvm.ClassFile.FieldType.byte) ∈ rr_all := rr_in 234 rfl rfl
set_option maxRecDepth 20000 in
theorem q_232 : (Jvm.Cond.methodLink "RopeVotesLaw" (87 : Nat) ({ cls := "RopeVotes", name := "wind", desc := "(II)I" } : Jvm.MethodName)) ∈ rr_all := rr_in 235 rfl rfl
set_option maxRecDepth 20000 in
theorem q_233 : (Jvm.Cond.instanceMethod ({ cls := "RopeVotes", name := "wind", desc := "(II)I" } : Jvm.MethodName)) ∈ rr_all := rr_in 236 rfl rfl
set_option maxRecDepth 20000 in
theorem q_234 : (Jvm.Cond.selects "RopeVotes" ({ cls := "RopeVotes", name := "wind", desc := "(II)I" } : Jvm.MethodName) ({ cls := "RopeVotes", name := "wind", desc := "(II)I" } : Jvm.MethodName)) ∈ rr_all := rr_in 237 rfl rfl
set_option maxRecDepth 20000 in
theorem q_235 : (Jvm.Cond.code ({ cls := "RopeVotes", name := "wind", desc := "(II)I" } : Jvm.MethodName) prog_1_method_8_code (3 : Nat) (Option.some Jvm.ClassFile.FieldType.int)) ∈ rr_all := rr_in 238 rfl rfl
set_option maxRecDepth 20000 in
theorem q_236 : (Jvm.Cond.methodLink "RopeVotes" (108 : Nat) ({ cls := "RopeVotes", name := "isTower", desc := "(I)Z" } : Jvm.MethodName)) ∈ rr_all := rr_in 239 rfl rfl
set_option maxRecDepth 20000 in
theorem q_237 : (Jvm.Cond.static ({ cls := "RopeVotes", name := "isTower", desc := "(I)Z" } : Jvm.MethodName)) ∈ rr_all := rr_in 240 rfl rfl
set_option maxRecDepth 20000 in
theorem q_238 : (Jvm.Cond.code ({ cls := "RopeVotes", name := "isTower", desc := "(I)Z" } : Jvm.MethodName) prog_1_method_31_code (1 : Nat) (Option.some Jvm.ClassFile.FieldType.boolean)) ∈ rr_all := rr_in 241 rfl rfl
set_option maxRecDepth 20000 in
theorem q_240 : (Jvm.Cond.classLink "RopeVotes" (113 : Nat) "java/lang/IllegalArgumentException") ∈ rr_all := rr_in 243 rfl rfl
set_option maxRecDepth 20000 in
theorem q_241 : (Jvm.Cond.instantiable "java/lang/IllegalArgumentException" (6 : Nat)) ∈ rr_all := rr_in 244 rfl rfl
set_option maxRecDepth 20000 in
theorem q_243 : (Jvm.Cond.selects "java/lang/IllegalArgumentException" ({ cls := "java/lang/Throwable", name := "fillInStackTrace", desc := "(I)Ljava/lang/Throwable;" } : Jvm.MethodName) ({ cls := "java/lang/Throwable", name := "fillInStackTrace", desc := "(I)Ljava/lang/Throwable;" } : Jvm.MethodName)) ∈ rr_all := rr_in 246 rfl rfl
set_option maxRecDepth 20000 in
theorem q_250 : (Jvm.Cond.methodLink "RopeVotes" (117 : Nat) ({ cls := "java/lang/IllegalArgumentException", name := "<init>", desc := "(Ljava/lang/String;)V" } : Jvm.MethodName)) ∈ rr_all := rr_in 253 rfl rfl
set_option maxRecDepth 20000 in
theorem q_251 : (Jvm.Cond.instanceMethod ({ cls := "java/lang/IllegalArgumentException", name := "<init>", desc := "(Ljava/lang/String;)V" } : Jvm.MethodName)) ∈ rr_all := rr_in 254 rfl rfl
set_option maxRecDepth 20000 in
theorem q_252 : (Jvm.Cond.code ({ cls := "java/lang/IllegalArgumentException", name := "<init>", desc := "(Ljava/lang/String;)V" } : Jvm.MethodName) prog_10_method_2_code (2 : Nat) (Option.none : Option Jvm.ClassFile.FieldType)) ∈ rr_all := rr_in 255 rfl rfl
set_option maxRecDepth 20000 in
theorem q_253 : (Jvm.Cond.methodLink "java/lang/IllegalArgumentException" (7 : Nat) ({ cls := "java/lang/RuntimeException", name := "<init>", desc := "(Ljava/lang/String;)V" } : Jvm.MethodName)) ∈ rr_all := rr_in 256 rfl rfl
set_option maxRecDepth 20000 in
theorem q_256 : (Jvm.Cond.methodLink "RopeVotes" (121 : Nat) ({ cls := "RopeVotes$Towers", name := "ballotOf", desc := "(I)I" } : Jvm.MethodName)) ∈ rr_all := rr_in 259 rfl rfl
set_option maxRecDepth 20000 in
theorem q_257 : (Jvm.Cond.instanceMethod ({ cls := "RopeVotes$Towers", name := "ballotOf", desc := "(I)I" } : Jvm.MethodName)) ∈ rr_all := rr_in 260 rfl rfl
set_option maxRecDepth 20000 in
theorem q_258 : (Jvm.Cond.selects "RopeVotes$Towers" ({ cls := "RopeVotes$Towers", name := "ballotOf", desc := "(I)I" } : Jvm.MethodName) ({ cls := "RopeVotes$Towers", name := "ballotOf", desc := "(I)I" } : Jvm.MethodName)) ∈ rr_all := rr_in 261 rfl rfl
set_option maxRecDepth 20000 in
theorem q_259 : (Jvm.Cond.code ({ cls := "RopeVotes$Towers", name := "ballotOf", desc := "(I)I" } : Jvm.MethodName) prog_6_method_2_code (2 : Nat) (Option.some Jvm.ClassFile.FieldType.int)) ∈ rr_all := rr_in 262 rfl rfl
set_option maxRecDepth 20000 in
theorem q_260 : (Jvm.Cond.methodLink "RopeVotesLaw" (90 : Nat) ({ cls := "RopeVotes", name := "setLimits", desc := "(III)I" } : Jvm.MethodName)) ∈ rr_all := rr_in 263 rfl rfl
set_option maxRecDepth 20000 in
theorem q_261 : (Jvm.Cond.instanceMethod ({ cls := "RopeVotes", name := "setLimits", desc := "(III)I" } : Jvm.MethodName)) ∈ rr_all := rr_in 264 rfl rfl
set_option maxRecDepth 20000 in
theorem q_262 : (Jvm.Cond.selects "RopeVotes" ({ cls := "RopeVotes", name := "setLimits", desc := "(III)I" } : Jvm.MethodName) ({ cls := "RopeVotes", name := "setLimits", desc := "(III)I" } : Jvm.MethodName)) ∈ rr_all := rr_in 265 rfl rfl
set_option maxRecDepth 20000 in
theorem q_263 : (Jvm.Cond.code ({ cls := "RopeVotes", name := "setLimits", desc := "(III)I" } : Jvm.MethodName) prog_1_method_9_code (4 : Nat) (Option.some Jvm.ClassFile.FieldType.int)) ∈ rr_all := rr_in 266 rfl rfl
set_option maxRecDepth 20000 in
theorem q_265 : (Jvm.Cond.methodLink "RopeVotesLaw" (93 : Nat) ({ cls := "RopeVotes", name := "cut", desc := "(IZ)I" } : Jvm.MethodName)) ∈ rr_all := rr_in 268 rfl rfl
set_option maxRecDepth 20000 in
theorem q_266 : (Jvm.Cond.instanceMethod ({ cls := "RopeVotes", name := "cut", desc := "(IZ)I" } : Jvm.MethodName)) ∈ rr_all := rr_in 269 rfl rfl
set_option maxRecDepth 20000 in
theorem q_267 : (Jvm.Cond.selects "RopeVotes" ({ cls := "RopeVotes", name := "cut", desc := "(IZ)I" } : Jvm.MethodName) ({ cls := "RopeVotes", name := "cut", desc := "(IZ)I" } : Jvm.MethodName)) ∈ rr_all := rr_in 270 rfl rfl
set_option maxRecDepth 20000 in
theorem q_268 : (Jvm.Cond.code ({ cls := "RopeVotes", name := "cut", desc := "(IZ)I" } : Jvm.MethodName) prog_1_method_10_code (3 : Nat) (Option.some Jvm.ClassFile.FieldType.int)) ∈ rr_all := rr_in 271 rfl rfl
set_option maxRecDepth 20000 in
theorem q_269 : (Jvm.Cond.methodLink "RopeVotes" (135 : Nat) ({ cls := "RopeVotes$Towers", name := "countCutOff", desc := "()I" } : Jvm.MethodName)) ∈ rr_all := rr_in 272 rfl rfl
set_option maxRecDepth 20000 in
theorem q_270 : (Jvm.Cond.instanceMethod ({ cls := "RopeVotes$Towers", name := "countCutOff", desc := "()I" } : Jvm.MethodName)) ∈ rr_all := rr_in 273 rfl rfl
set_option maxRecDepth 20000 in
theorem q_271 : (Jvm.Cond.selects "RopeVotes$Towers" ({ cls := "RopeVotes$Towers", name := "countCutOff", desc := "()I" } : Jvm.MethodName) ({ cls := "RopeVotes$Towers", name := "countCutOff", desc := "()I" } : Jvm.MethodName)) ∈ rr_all := rr_in 274 rfl rfl
set_option maxRecDepth 20000 in
theorem q_272 : (Jvm.Cond.code ({ cls := "RopeVotes$Towers", name := "countCutOff", desc := "()I" } : Jvm.MethodName) prog_6_method_3_code (3 : Nat) (Option.some Jvm.ClassFile.FieldType.int)) ∈ rr_all := rr_in 275 rfl rfl
set_option maxRecDepth 20000 in
theorem q_273 : (Jvm.Cond.methodLink "RopeVotesLaw" (76 : Nat) ({ cls := "RopeVotes", name := "wouldDecide", desc := "()I" } : Jvm.MethodName)) ∈ rr_all := rr_in 276 rfl rfl
set_option maxRecDepth 20000 in
theorem q_274 : (Jvm.Cond.instanceMethod ({ cls := "RopeVotes", name := "wouldDecide", desc := "()I" } : Jvm.MethodName)) ∈ rr_all := rr_in 277 rfl rfl
set_option maxRecDepth 20000 in
theorem q_275 : (Jvm.Cond.selects "RopeVotes" ({ cls := "RopeVotes", name := "wouldDecide", desc := "()I" } : Jvm.MethodName) ({ cls := "RopeVotes", name := "wouldDecide", desc := "()I" } : Jvm.MethodName)) ∈ rr_all := rr_in 278 rfl rfl
set_option maxRecDepth 20000 in
theorem q_276 : (Jvm.Cond.code ({ cls := "RopeVotes", name := "wouldDecide", desc := "()I" } : Jvm.MethodName) prog_1_method_15_code (1 : Nat) (Option.some Jvm.ClassFile.FieldType.int)) ∈ rr_all := rr_in 279 rfl rfl
set_option maxRecDepth 20000 in
theorem q_277 : (Jvm.Cond.methodLink "RopeVotes" (150 : Nat) ({ cls := "RopeVotes$Control", name := "speedByVotes", desc := "(I)I" } : Jvm.MethodName)) ∈ rr_all := rr_in 280 rfl rfl
set_option maxRecDepth 20000 in
theorem q_278 : (Jvm.Cond.instanceMethod ({ cls := "RopeVotes$Control", name := "speedByVotes", desc := "(I)I" } : Jvm.MethodName)) ∈ rr_all := rr_in 281 rfl rfl
set_option maxRecDepth 20000 in
theorem q_279 : (Jvm.Cond.selects "RopeVotes$Control" ({ cls := "RopeVotes$Control", name := "speedByVotes", desc := "(I)I" } : Jvm.MethodName) ({ cls := "RopeVotes$Control", name := "speedByVotes", desc := "(I)I" } : Jvm.MethodName)) ∈ rr_all := rr_in 282 rfl rfl
set_option maxRecDepth 20000 in
theorem q_280 : (Jvm.Cond.code ({ cls := "RopeVotes$Control", name := "speedByVotes", desc := "(I)I" } : Jvm.MethodName) prog_2_method_6_code (5 : Nat) (Option.some Jvm.ClassFile.FieldType.int)) ∈ rr_all := rr_in 283 rfl rfl
set_option maxRecDepth 20000 in
theorem q_281 : (Jvm.Cond.methodLink "RopeVotes$Control" (22 : Nat) ({ cls := "RopeVotes$Control", name := "countFresh", desc := "(II)I" } : Jvm.MethodName)) ∈ rr_all := rr_in 284 rfl rfl
set_option maxRecDepth 20000 in
theorem q_282 : (Jvm.Cond.instanceMethod ({ cls := "RopeVotes$Control", name := "countFresh", desc := "(II)I" } : Jvm.MethodName)) ∈ rr_all := rr_in 285 rfl rfl
set_option maxRecDepth 20000 in
theorem q_283 : (Jvm.Cond.selects "RopeVotes$Control" ({ cls := "RopeVotes$Control", name := "countFresh", desc := "(II)I" } : Jvm.MethodName) ({ cls := "RopeVotes$Control", name := "countFresh", desc := "(II)I" } : Jvm.MethodName)) ∈ rr_all := rr_in 286 rfl rfl
set_option maxRecDepth 20000 in
theorem q_284 : (Jvm.Cond.code ({ cls := "RopeVotes$Control", name := "countFresh", desc := "(II)I" } : Jvm.MethodName) prog_2_method_5_code (5 : Nat) (Option.some Jvm.ClassFile.FieldType.int)) ∈ rr_all := rr_in 287 rfl rfl
set_option maxRecDepth 20000 in
theorem q_285 : (Jvm.Cond.methodLink "RopeVotes$Control" (18 : Nat) ({ cls := "RopeVotes$Control", name := "isFresh", desc := "(II)Z" } : Jvm.MethodName)) ∈ rr_all := rr_in 288 rfl rfl
set_option maxRecDepth 20000 in
theorem q_286 : (Jvm.Cond.instanceMethod ({ cls := "RopeVotes$Control", name := "isFresh", desc := "(II)Z" } : Jvm.MethodName)) ∈ rr_all := rr_in 289 rfl rfl
set_option maxRecDepth 20000 in
theorem q_287 : (Jvm.Cond.selects "RopeVotes$Control" ({ cls := "RopeVotes$Control", name := "isFresh", desc := "(II)Z" } : Jvm.MethodName) ({ cls := "RopeVotes$Control", name := "isFresh", desc := "(II)Z" } : Jvm.MethodName)) ∈ rr_all := rr_in 290 rfl rfl
set_option maxRecDepth 20000 in
theorem q_288 : (Jvm.Cond.code ({ cls := "RopeVotes$Control", name := "isFresh", desc := "(II)Z" } : Jvm.MethodName) prog_2_method_3_code (3 : Nat) (Option.some Jvm.ClassFile.FieldType.boolean)) ∈ rr_all := rr_in 291 rfl rfl
set_option maxRecDepth 20000 in
theorem q_289 : (Jvm.Cond.methodLink "RopeVotesLaw" (97 : Nat) ({ cls := "RopeVotes", name := "hold", desc := "(Z)Z" } : Jvm.MethodName)) ∈ rr_all := rr_in 292 rfl rfl
set_option maxRecDepth 20000 in
theorem q_290 : (Jvm.Cond.instanceMethod ({ cls := "RopeVotes", name := "hold", desc := "(Z)Z" } : Jvm.MethodName)) ∈ rr_all := rr_in 293 rfl rfl
set_option maxRecDepth 20000 in
theorem q_291 : (Jvm.Cond.selects "RopeVotes" ({ cls := "RopeVotes", name := "hold", desc := "(Z)Z" } : Jvm.MethodName) ({ cls := "RopeVotes", name := "hold", desc := "(Z)Z" } : Jvm.MethodName)) ∈ rr_all := rr_in 294 rfl rfl
set_option maxRecDepth 20000 in
theorem q_292 : (Jvm.Cond.code ({ cls := "RopeVotes", name := "hold", desc := "(Z)Z" } : Jvm.MethodName) prog_1_method_16_code (3 : Nat) (Option.some Jvm.ClassFile.FieldType.boolean)) ∈ rr_all := rr_in 295 rfl rfl
set_option maxRecDepth 20000 in
theorem q_293 : (Jvm.Cond.methodLink "RopeVotesLaw" (118 : Nat) ({ cls := "RopeVotes", name := "pass", desc := "(I)I" } : Jvm.MethodName)) ∈ rr_all := rr_in 296 rfl rfl
set_option maxRecDepth 20000 in
theorem q_294 : (Jvm.Cond.instanceMethod ({ cls := "RopeVotes", name := "pass", desc := "(I)I" } : Jvm.MethodName)) ∈ rr_all := rr_in 297 rfl rfl
set_option maxRecDepth 20000 in
theorem q_295 : (Jvm.Cond.selects "RopeVotes" ({ cls := "RopeVotes", name := "pass", desc := "(I)I" } : Jvm.MethodName) ({ cls := "RopeVotes", name := "pass", desc := "(I)I" } : Jvm.MethodName)) ∈ rr_all := rr_in 298 rfl rfl
set_option maxRecDepth 20000 in
theorem q_296 : (Jvm.Cond.code ({ cls := "RopeVotes", name := "pass", desc := "(I)I" } : Jvm.MethodName) prog_1_method_17_code (4 : Nat) (Option.some Jvm.ClassFile.FieldType.int)) ∈ rr_all := rr_in 299 rfl rfl
set_option maxRecDepth 20000 in
theorem q_298 : (Jvm.Cond.classLink "RopeVotes" (63 : Nat) "java/lang/IllegalStateException") ∈ rr_all := rr_in 301 rfl rfl
set_option maxRecDepth 20000 in
theorem q_299 : (Jvm.Cond.instantiable "java/lang/IllegalStateException" (6 : Nat)) ∈ rr_all := rr_in 302 rfl rfl
set_option maxRecDepth 20000 in
theorem q_301 : (Jvm.Cond.selects "java/lang/IllegalStateException" ({ cls := "java/lang/Throwable", name := "fillInStackTrace", desc := "(I)Ljava/lang/Throwable;" } : Jvm.MethodName) ({ cls := "java/lang/Throwable", name := "fillInStackTrace", desc := "(I)Ljava/lang/Throwable;" } : Jvm.MethodName)) ∈ rr_all := rr_in 304 rfl rfl
set_option maxRecDepth 20000 in
theorem q_308 : (Jvm.Cond.methodLink "RopeVotes" (67 : Nat) ({ cls := "java/lang/IllegalStateException", name := "<init>", desc := "(Ljava/lang/String;)V" } : Jvm.MethodName)) ∈ rr_all := rr_in 311 rfl rfl
set_option maxRecDepth 20000 in
theorem q_309 : (Jvm.Cond.instanceMethod ({ cls := "java/lang/IllegalStateException", name := "<init>", desc := "(Ljava/lang/String;)V" } : Jvm.MethodName)) ∈ rr_all := rr_in 312 rfl rfl
set_option maxRecDepth 20000 in
theorem q_310 : (Jvm.Cond.code ({ cls := "java/lang/IllegalStateException", name := "<init>", desc := "(Ljava/lang/String;)V" } : Jvm.MethodName) prog_11_method_2_code (2 : Nat) (Option.none : Option Jvm.ClassFile.FieldType)) ∈ rr_all := rr_in 313 rfl rfl
set_option maxRecDepth 20000 in
theorem q_311 : (Jvm.Cond.methodLink "java/lang/IllegalStateException" (7 : Nat) ({ cls := "java/lang/RuntimeException", name := "<init>", desc := "(Ljava/lang/String;)V" } : Jvm.MethodName)) ∈ rr_all := rr_in 314 rfl rfl
set_option maxRecDepth 20000 in
theorem q_314 : (Jvm.Cond.methodLink "RopeVotes" (157 : Nat) ({ cls := "RopeVotes", name := "passMinute", desc := "()V" } : Jvm.MethodName)) ∈ rr_all := rr_in 317 rfl rfl
set_option maxRecDepth 20000 in
theorem q_316 : (Jvm.Cond.instanceMethod ({ cls := "RopeVotes", name := "passMinute", desc := "()V" } : Jvm.MethodName)) ∈ rr_all := rr_in 319 rfl rfl
set_option maxRecDepth 20000 in
theorem q_317 : (Jvm.Cond.code ({ cls := "RopeVotes", name := "passMinute", desc := "()V" } : Jvm.MethodName) prog_1_method_28_code (3 : Nat) (Option.none : Option Jvm.ClassFile.FieldType)) ∈ rr_all := rr_in 320 rfl rfl
set_option maxRecDepth 20000 in
theorem q_318 : (Jvm.Cond.methodLink "RopeVotes" (193 : Nat) ({ cls := "RopeVotes", name := "makeVotes", desc := "()V" } : Jvm.MethodName)) ∈ rr_all := rr_in 321 rfl rfl
set_option maxRecDepth 20000 in
theorem q_320 : (Jvm.Cond.instanceMethod ({ cls := "RopeVotes", name := "makeVotes", desc := "()V" } : Jvm.MethodName)) ∈ rr_all := rr_in 323 rfl rfl
set_option maxRecDepth 20000 in
theorem q_321 : (Jvm.Cond.code ({ cls := "RopeVotes", name := "makeVotes", desc := "()V" } : Jvm.MethodName) prog_1_method_29_code (2 : Nat) (Option.none : Option Jvm.ClassFile.FieldType)) ∈ rr_all := rr_in 324 rfl rfl
set_option maxRecDepth 20000 in
theorem q_322 : (Jvm.Cond.methodLink "RopeVotes" (218 : Nat) ({ cls := "RopeVotes$Towers", name := "delayOf", desc := "(I)I" } : Jvm.MethodName)) ∈ rr_all := rr_in 325 rfl rfl
set_option maxRecDepth 20000 in
theorem q_323 : (Jvm.Cond.instanceMethod ({ cls := "RopeVotes$Towers", name := "delayOf", desc := "(I)I" } : Jvm.MethodName)) ∈ rr_all := rr_in 326 rfl rfl
set_option maxRecDepth 20000 in
theorem q_324 : (Jvm.Cond.selects "RopeVotes$Towers" ({ cls := "RopeVotes$Towers", name := "delayOf", desc := "(I)I" } : Jvm.MethodName) ({ cls := "RopeVotes$Towers", name := "delayOf", desc := "(I)I" } : Jvm.MethodName)) ∈ rr_all := rr_in 327 rfl rfl
set_option maxRecDepth 20000 in
theorem q_325 : (Jvm.Cond.code ({ cls := "RopeVotes$Towers", name := "delayOf", desc := "(I)I" } : Jvm.MethodName) prog_6_method_4_code (5 : Nat) (Option.some Jvm.ClassFile.FieldType.int)) ∈ rr_all := rr_in 328 rfl rfl
set_option maxRecDepth 20000 in
theorem q_326 : (Jvm.Cond.methodLink "RopeVotes$Towers" (25 : Nat) ({ cls := "java/lang/Math", name := "abs", desc := "(I)I" } : Jvm.MethodName)) ∈ rr_all := rr_in 329 rfl rfl
set_option maxRecDepth 20000 in
theorem q_327 : (Jvm.Cond.static ({ cls := "java/lang/Math", name := "abs", desc := "(I)I" } : Jvm.MethodName)) ∈ rr_all := rr_in 330 rfl rfl
set_option maxRecDepth 20000 in
theorem q_328 : (Jvm.Cond.code ({ cls := "java/lang/Math", name := "abs", desc := "(I)I" } : Jvm.MethodName) prog_14_method_59_code (1 : Nat) (Option.some Jvm.ClassFile.FieldType.int)) ∈ rr_all := rr_in 331 rfl rfl
set_option maxRecDepth 20000 in
theorem q_329 : (Jvm.Cond.methodLink "RopeVotes$Towers" (31 : Nat) ({ cls := "java/lang/Math", name := "min", desc := "(II)I" } : Jvm.MethodName)) ∈ rr_all := rr_in 332 rfl rfl
set_option maxRecDepth 20000 in
theorem q_330 : (Jvm.Cond.static ({ cls := "java/lang/Math", name := "min", desc := "(II)I" } : Jvm.MethodName)) ∈ rr_all := rr_in 333 rfl rfl
set_option maxRecDepth 20000 in
theorem q_331 : (Jvm.Cond.code ({ cls := "java/lang/Math", name := "min", desc := "(II)I" } : Jvm.MethodName) prog_14_method_69_code (2 : Nat) (Option.some Jvm.ClassFile.FieldType.int)) ∈ rr_all := rr_in 334 rfl rfl
set_option maxRecDepth 20000 in
theorem q_332 : (Jvm.Cond.methodLink "RopeVotes" (221 : Nat) ({ cls := "RopeVotes$Post", name := "send", desc := "(IIII)V" } : Jvm.MethodName)) ∈ rr_all := rr_in 335 rfl rfl
set_option maxRecDepth 20000 in
theorem q_333 : (Jvm.Cond.instanceMethod ({ cls := "RopeVotes$Post", name := "send", desc := "(IIII)V" } : Jvm.MethodName)) ∈ rr_all := rr_in 336 rfl rfl
set_option maxRecDepth 20000 in
theorem q_334 : (Jvm.Cond.selects "RopeVotes$Post" ({ cls := "RopeVotes$Post", name := "send", desc := "(IIII)V" } : Jvm.MethodName) ({ cls := "RopeVotes$Post", name := "send", desc := "(IIII)V" } : Jvm.MethodName)) ∈ rr_all := rr_in 337 rfl rfl
set_option maxRecDepth 20000 in
theorem q_335 : (Jvm.Cond.code ({ cls := "RopeVotes$Post", name := "send", desc := "(IIII)V" } : Jvm.MethodName) prog_4_method_2_code (6 : Nat) (Option.none : Option Jvm.ClassFile.FieldType)) ∈ rr_all := rr_in 338 rfl rfl
set_option maxRecDepth 20000 in
theorem q_336 : (Jvm.Cond.methodLink "RopeVotes$Post" (18 : Nat) ({ cls := "RopeVotes$Post", name := "slotOf", desc := "(II)I" } : Jvm.MethodName)) ∈ rr_all := rr_in 339 rfl rfl
set_option maxRecDepth 20000 in
theorem q_337 : (Jvm.Cond.static ({ cls := "RopeVotes$Post", name := "slotOf", desc := "(II)I" } : Jvm.MethodName)) ∈ rr_all := rr_in 340 rfl rfl
set_option maxRecDepth 20000 in
theorem q_338 : (Jvm.Cond.code ({ cls := "RopeVotes$Post", name := "slotOf", desc := "(II)I" } : Jvm.MethodName) prog_4_method_5_code (2 : Nat) (Option.some Jvm.ClassFile.FieldType.int)) ∈ rr_all := rr_in 341 rfl rfl
set_option maxRecDepth 20000 in
theorem q_339 : (Jvm.Cond.methodLink "RopeVotes$Post" (33 : Nat) ({ cls := "java/lang/Math", name := "floorMod", desc := "(II)I" } : Jvm.MethodName)) ∈ rr_all := rr_in 342 rfl rfl
set_option maxRecDepth 20000 in
theorem q_340 : (Jvm.Cond.static ({ cls := "java/lang/Math", name := "floorMod", desc := "(II)I" } : Jvm.MethodName)) ∈ rr_all := rr_in 343 rfl rfl
set_option maxRecDepth 20000 in
theorem q_341 : (Jvm.Cond.code ({ cls := "java/lang/Math", name := "floorMod", desc := "(II)I" } : Jvm.MethodName) prog_14_method_50_code (3 : Nat) (Option.some Jvm.ClassFile.FieldType.int)) ∈ rr_all := rr_in 344 rfl rfl
set_option maxRecDepth 20000 in
theorem q_342 : (Jvm.Cond.methodLink "RopeVotes" (196 : Nat) ({ cls := "RopeVotes$Post", name := "deliver", desc := "(ILRopeVotes$Control;)V" } : Jvm.MethodName)) ∈ rr_all := rr_in 345 rfl rfl
set_option maxRecDepth 20000 in
theorem q_343 : (Jvm.Cond.instanceMethod ({ cls := "RopeVotes$Post", name := "deliver", desc := "(ILRopeVotes$Control;)V" } : Jvm.MethodName)) ∈ rr_all := rr_in 346 rfl rfl
set_option maxRecDepth 20000 in
theorem q_344 : (Jvm.Cond.selects "RopeVotes$Post" ({ cls := "RopeVotes$Post", name := "deliver", desc := "(ILRopeVotes$Control;)V" } : Jvm.MethodName) ({ cls := "RopeVotes$Post", name := "deliver", desc := "(ILRopeVotes$Control;)V" } : Jvm.MethodName)) ∈ rr_all := rr_in 347 rfl rfl
set_option maxRecDepth 20000 in
theorem q_345 : (Jvm.Cond.code ({ cls := "RopeVotes$Post", name := "deliver", desc := "(ILRopeVotes$Control;)V" } : Jvm.MethodName) prog_4_method_3_code (6 : Nat) (Option.none : Option Jvm.ClassFile.FieldType)) ∈ rr_all := rr_in 348 rfl rfl
set_option maxRecDepth 20000 in
theorem q_346 : (Jvm.Cond.methodLink "RopeVotes$Post" (22 : Nat) ({ cls := "java/lang/Math", name := "max", desc := "(II)I" } : Jvm.MethodName)) ∈ rr_all := rr_in 349 rfl rfl
set_option maxRecDepth 20000 in
theorem q_347 : (Jvm.Cond.static ({ cls := "java/lang/Math", name := "max", desc := "(II)I" } : Jvm.MethodName)) ∈ rr_all := rr_in 350 rfl rfl
set_option maxRecDepth 20000 in
theorem q_348 : (Jvm.Cond.code ({ cls := "java/lang/Math", name := "max", desc := "(II)I" } : Jvm.MethodName) prog_14_method_65_code (2 : Nat) (Option.some Jvm.ClassFile.FieldType.int)) ∈ rr_all := rr_in 351 rfl rfl
set_option maxRecDepth 20000 in
theorem q_349 : (Jvm.Cond.methodLink "RopeVotes$Post" (27 : Nat) ({ cls := "RopeVotes$Control", name := "take", desc := "(III)V" } : Jvm.MethodName)) ∈ rr_all := rr_in 352 rfl rfl
set_option maxRecDepth 20000 in
theorem q_350 : (Jvm.Cond.instanceMethod ({ cls := "RopeVotes$Control", name := "take", desc := "(III)V" } : Jvm.MethodName)) ∈ rr_all := rr_in 353 rfl rfl
set_option maxRecDepth 20000 in
theorem q_351 : (Jvm.Cond.selects "RopeVotes$Control" ({ cls := "RopeVotes$Control", name := "take", desc := "(III)V" } : Jvm.MethodName) ({ cls := "RopeVotes$Control", name := "take", desc := "(III)V" } : Jvm.MethodName)) ∈ rr_all := rr_in 354 rfl rfl
set_option maxRecDepth 20000 in
theorem q_352 : (Jvm.Cond.code ({ cls := "RopeVotes$Control", name := "take", desc := "(III)V" } : Jvm.MethodName) prog_2_method_2_code (4 : Nat) (Option.none : Option Jvm.ClassFile.FieldType)) ∈ rr_all := rr_in 355 rfl rfl
set_option maxRecDepth 20000 in
theorem q_353 : (Jvm.Cond.methodLink "RopeVotes" (200 : Nat) ({ cls := "RopeVotes", name := "wouldDecide", desc := "()I" } : Jvm.MethodName)) ∈ rr_all := rr_in 356 rfl rfl
set_option maxRecDepth 20000 in
theorem q_354 : (Jvm.Cond.methodLink "RopeVotes" (144 : Nat) ({ cls := "RopeVotes$Control", name := "freshSet", desc := "(I)I" } : Jvm.MethodName)) ∈ rr_all := rr_in 357 rfl rfl
set_option maxRecDepth 20000 in
theorem q_355 : (Jvm.Cond.instanceMethod ({ cls := "RopeVotes$Control", name := "freshSet", desc := "(I)I" } : Jvm.MethodName)) ∈ rr_all := rr_in 358 rfl rfl
set_option maxRecDepth 20000 in
theorem q_356 : (Jvm.Cond.selects "RopeVotes$Control" ({ cls := "RopeVotes$Control", name := "freshSet", desc := "(I)I" } : Jvm.MethodName) ({ cls := "RopeVotes$Control", name := "freshSet", desc := "(I)I" } : Jvm.MethodName)) ∈ rr_all := rr_in 359 rfl rfl
set_option maxRecDepth 20000 in
theorem q_357 : (Jvm.Cond.code ({ cls := "RopeVotes$Control", name := "freshSet", desc := "(I)I" } : Jvm.MethodName) prog_2_method_4_code (4 : Nat) (Option.some Jvm.ClassFile.FieldType.int)) ∈ rr_all := rr_in 360 rfl rfl
set_option maxRecDepth 20000 in
theorem q_358 : (Jvm.Cond.methodLink "RopeVotes" (203 : Nat) ({ cls := "java/lang/Integer", name := "bitCount", desc := "(I)I" } : Jvm.MethodName)) ∈ rr_all := rr_in 361 rfl rfl
set_option maxRecDepth 20000 in
theorem q_359 : (Jvm.Cond.static ({ cls := "java/lang/Integer", name := "bitCount", desc := "(I)I" } : Jvm.MethodName)) ∈ rr_all := rr_in 362 rfl rfl
set_option maxRecDepth 20000 in
theorem q_360 : (Jvm.Cond.code ({ cls := "java/lang/Integer", name := "bitCount", desc := "(I)I" } : Jvm.MethodName) prog_13_method_49_code (1 : Nat) (Option.some Jvm.ClassFile.FieldType.int)) ∈ rr_all := rr_in 363 rfl rfl
set_option maxRecDepth 20000 in
theorem q_361 : (Jvm.Cond.constant "java/lang/Integer" (265 : Nat) (1431655765 : Int32)) ∈ rr_all := rr_in 364 rfl rfl
set_option maxRecDepth 20000 in
theorem q_362 : (Jvm.Cond.constant "java/lang/Integer" (266 : Nat) (858993459 : Int32)) ∈ rr_all := rr_in 365 rfl rfl
set_option maxRecDepth 20000 in
theorem q_363 : (Jvm.Cond.constant "java/lang/Integer" (267 : Nat) (252645135 : Int32)) ∈ rr_all := rr_in 366 rfl rfl
set_option maxRecDepth 20000 in
theorem q_364 : (Jvm.Cond.methodLink "RopeVotes" (208 : Nat) ({ cls := "RopeVotes", name := "partsAt", desc := "(I)I" } : Jvm.MethodName)) ∈ rr_all := rr_in 367 rfl rfl
set_option maxRecDepth 20000 in
theorem q_365 : (Jvm.Cond.static ({ cls := "RopeVotes", name := "partsAt", desc := "(I)I" } : Jvm.MethodName)) ∈ rr_all := rr_in 368 rfl rfl
set_option maxRecDepth 20000 in
theorem q_366 : (Jvm.Cond.code ({ cls := "RopeVotes", name := "partsAt", desc := "(I)I" } : Jvm.MethodName) prog_1_method_30_code (1 : Nat) (Option.some Jvm.ClassFile.FieldType.int)) ∈ rr_all := rr_in 369 rfl rfl
set_option maxRecDepth 20000 in
theorem q_367 : (Jvm.Cond.methodLink "RopeVotes" (211 : Nat) ({ cls := "RopeVotes$Loop", name := "move", desc := "(I)V" } : Jvm.MethodName)) ∈ rr_all := rr_in 370 rfl rfl
set_option maxRecDepth 20000 in
theorem q_368 : (Jvm.Cond.instanceMethod ({ cls := "RopeVotes$Loop", name := "move", desc := "(I)V" } : Jvm.MethodName)) ∈ rr_all := rr_in 371 rfl rfl
set_option maxRecDepth 20000 in
theorem q_369 : (Jvm.Cond.selects "RopeVotes$Loop" ({ cls := "RopeVotes$Loop", name := "move", desc := "(I)V" } : Jvm.MethodName) ({ cls := "RopeVotes$Loop", name := "move", desc := "(I)V" } : Jvm.MethodName)) ∈ rr_all := rr_in 372 rfl rfl
set_option maxRecDepth 20000 in
theorem q_370 : (Jvm.Cond.code ({ cls := "RopeVotes$Loop", name := "move", desc := "(I)V" } : Jvm.MethodName) prog_3_method_7_code (3 : Nat) (Option.none : Option Jvm.ClassFile.FieldType)) ∈ rr_all := rr_in 373 rfl rfl
set_option maxRecDepth 20000 in
theorem q_371 : (Jvm.Cond.methodLink "RopeVotes" (215 : Nat) ({ cls := "RopeVotes$Tickets", name := "passMinute", desc := "(IIILRopeVotes$Loop;)V" } : Jvm.MethodName)) ∈ rr_all := rr_in 374 rfl rfl
set_option maxRecDepth 20000 in
theorem q_372 : (Jvm.Cond.instanceMethod ({ cls := "RopeVotes$Tickets", name := "passMinute", desc := "(IIILRopeVotes$Loop;)V" } : Jvm.MethodName)) ∈ rr_all := rr_in 375 rfl rfl
set_option maxRecDepth 20000 in
theorem q_373 : (Jvm.Cond.selects "RopeVotes$Tickets" ({ cls := "RopeVotes$Tickets", name := "passMinute", desc := "(IIILRopeVotes$Loop;)V" } : Jvm.MethodName) ({ cls := "RopeVotes$Tickets", name := "passMinute", desc := "(IIILRopeVotes$Loop;)V" } : Jvm.MethodName)) ∈ rr_all := rr_in 376 rfl rfl
set_option maxRecDepth 20000 in
theorem q_374 : (Jvm.Cond.code ({ cls := "RopeVotes$Tickets", name := "passMinute", desc := "(IIILRopeVotes$Loop;)V" } : Jvm.MethodName) prog_5_method_6_code (6 : Nat) (Option.none : Option Jvm.ClassFile.FieldType)) ∈ rr_all := rr_in 377 rfl rfl
set_option maxRecDepth 20000 in
theorem q_375 : (Jvm.Cond.methodLink "RopeVotes$Tickets" (34 : Nat) ({ cls := "RopeVotes$Loop", name := "isOutOfStations", desc := "(I)Z" } : Jvm.MethodName)) ∈ rr_all := rr_in 378 rfl rfl
set_option maxRecDepth 20000 in
theorem q_376 : (Jvm.Cond.instanceMethod ({ cls := "RopeVotes$Loop", name := "isOutOfStations", desc := "(I)Z" } : Jvm.MethodName)) ∈ rr_all := rr_in 379 rfl rfl
set_option maxRecDepth 20000 in
theorem q_377 : (Jvm.Cond.selects "RopeVotes$Loop" ({ cls := "RopeVotes$Loop", name := "isOutOfStations", desc := "(I)Z" } : Jvm.MethodName) ({ cls := "RopeVotes$Loop", name := "isOutOfStations", desc := "(I)Z" } : Jvm.MethodName)) ∈ rr_all := rr_in 380 rfl rfl
set_option maxRecDepth 20000 in
theorem q_378 : (Jvm.Cond.code ({ cls := "RopeVotes$Loop", name := "isOutOfStations", desc := "(I)Z" } : Jvm.MethodName) prog_3_method_8_code (2 : Nat) (Option.some Jvm.ClassFile.FieldType.boolean)) ∈ rr_all := rr_in 381 rfl rfl
set_option maxRecDepth 20000 in
theorem q_379 : (Jvm.Cond.methodLink "RopeVotes$Loop" (35 : Nat) ({ cls := "RopeVotes$Loop", name := "has", desc := "(I)Z" } : Jvm.MethodName)) ∈ rr_all := rr_in 382 rfl rfl
set_option maxRecDepth 20000 in
theorem q_381 : (Jvm.Cond.static ({ cls := "RopeVotes", name := "isInStation", desc := "(I)Z" } : Jvm.MethodName)) ∈ rr_all := rr_in 384 rfl rfl
set_option maxRecDepth 20000 in
theorem q_382 : (Jvm.Cond.code ({ cls := "RopeVotes", name := "isInStation", desc := "(I)Z" } : Jvm.MethodName) prog_1_method_33_code (1 : Nat) (Option.some Jvm.ClassFile.FieldType.boolean)) ∈ rr_all := rr_in 385 rfl rfl
set_option maxRecDepth 20000 in
theorem q_383 : (Jvm.Cond.methodLink "RopeVotes" (86 : Nat) ({ cls := "RopeVotes", name := "isInBottom", desc := "(I)Z" } : Jvm.MethodName)) ∈ rr_all := rr_in 386 rfl rfl
set_option maxRecDepth 20000 in
theorem q_384 : (Jvm.Cond.static ({ cls := "RopeVotes", name := "isInBottom", desc := "(I)Z" } : Jvm.MethodName)) ∈ rr_all := rr_in 387 rfl rfl
set_option maxRecDepth 20000 in
theorem q_385 : (Jvm.Cond.code ({ cls := "RopeVotes", name := "isInBottom", desc := "(I)Z" } : Jvm.MethodName) prog_1_method_32_code (1 : Nat) (Option.some Jvm.ClassFile.FieldType.boolean)) ∈ rr_all := rr_in 388 rfl rfl
set_option maxRecDepth 20000 in
theorem q_386 : (Jvm.Cond.methodLink "RopeVotesLaw" (30 : Nat) ({ cls := "RopeVotes", name := "time", desc := "()I" } : Jvm.MethodName)) ∈ rr_all := rr_in 389 rfl rfl
set_option maxRecDepth 20000 in
theorem q_387 : (Jvm.Cond.instanceMethod ({ cls := "RopeVotes", name := "time", desc := "()I" } : Jvm.MethodName)) ∈ rr_all := rr_in 390 rfl rfl
set_option maxRecDepth 20000 in
theorem q_388 : (Jvm.Cond.selects "RopeVotes" ({ cls := "RopeVotes", name := "time", desc := "()I" } : Jvm.MethodName) ({ cls := "RopeVotes", name := "time", desc := "()I" } : Jvm.MethodName)) ∈ rr_all := rr_in 391 rfl rfl
set_option maxRecDepth 20000 in
theorem q_389 : (Jvm.Cond.code ({ cls := "RopeVotes", name := "time", desc := "()I" } : Jvm.MethodName) prog_1_method_18_code (1 : Nat) (Option.some Jvm.ClassFile.FieldType.int)) ∈ rr_all := rr_in 392 rfl rfl
set_option maxRecDepth 20000 in
theorem q_390 : (Jvm.Cond.methodLink "RopeVotesLaw" (121 : Nat) ({ cls := "RopeVotes", name := "moved", desc := "()I" } : Jvm.MethodName)) ∈ rr_all := rr_in 393 rfl rfl
set_option maxRecDepth 20000 in
theorem q_391 : (Jvm.Cond.instanceMethod ({ cls := "RopeVotes", name := "moved", desc := "()I" } : Jvm.MethodName)) ∈ rr_all := rr_in 394 rfl rfl
set_option maxRecDepth 20000 in
theorem q_392 : (Jvm.Cond.selects "RopeVotes" ({ cls := "RopeVotes", name := "moved", desc := "()I" } : Jvm.MethodName) ({ cls := "RopeVotes", name := "moved", desc := "()I" } : Jvm.MethodName)) ∈ rr_all := rr_in 395 rfl rfl
set_option maxRecDepth 20000 in
theorem q_393 : (Jvm.Cond.code ({ cls := "RopeVotes", name := "moved", desc := "()I" } : Jvm.MethodName) prog_1_method_19_code (1 : Nat) (Option.some Jvm.ClassFile.FieldType.int)) ∈ rr_all := rr_in 396 rfl rfl
set_option maxRecDepth 20000 in
theorem q_394 : (Jvm.Cond.methodLink "RopeVotesLaw" (45 : Nat) ({ cls := "RopeVotes", name := "decided", desc := "(I)I" } : Jvm.MethodName)) ∈ rr_all := rr_in 397 rfl rfl
set_option maxRecDepth 20000 in
theorem q_395 : (Jvm.Cond.instanceMethod ({ cls := "RopeVotes", name := "decided", desc := "(I)I" } : Jvm.MethodName)) ∈ rr_all := rr_in 398 rfl rfl
set_option maxRecDepth 20000 in
theorem q_396 : (Jvm.Cond.selects "RopeVotes" ({ cls := "RopeVotes", name := "decided", desc := "(I)I" } : Jvm.MethodName) ({ cls := "RopeVotes", name := "decided", desc := "(I)I" } : Jvm.MethodName)) ∈ rr_all := rr_in 399 rfl rfl
set_option maxRecDepth 20000 in
theorem q_397 : (Jvm.Cond.code ({ cls := "RopeVotes", name := "decided", desc := "(I)I" } : Jvm.MethodName) prog_1_method_20_code (2 : Nat) (Option.some Jvm.ClassFile.FieldType.int)) ∈ rr_all := rr_in 400 rfl rfl
set_option maxRecDepth 20000 in
theorem q_399 : (Jvm.Cond.methodLink "RopeVotesLaw" (124 : Nat) ({ cls := "RopeVotes", name := "minutes", desc := "(I)I" } : Jvm.MethodName)) ∈ rr_all := rr_in 402 rfl rfl
set_option maxRecDepth 20000 in
theorem q_400 : (Jvm.Cond.instanceMethod ({ cls := "RopeVotes", name := "minutes", desc := "(I)I" } : Jvm.MethodName)) ∈ rr_all := rr_in 403 rfl rfl
set_option maxRecDepth 20000 in
theorem q_401 : (Jvm.Cond.selects "RopeVotes" ({ cls := "RopeVotes", name := "minutes", desc := "(I)I" } : Jvm.MethodName) ({ cls := "RopeVotes", name := "minutes", desc := "(I)I" } : Jvm.MethodName)) ∈ rr_all := rr_in 404 rfl rfl
set_option maxRecDepth 20000 in
theorem q_402 : (Jvm.Cond.code ({ cls := "RopeVotes", name := "minutes", desc := "(I)I" } : Jvm.MethodName) prog_1_method_21_code (4 : Nat) (Option.some Jvm.ClassFile.FieldType.int)) ∈ rr_all := rr_in 405 rfl rfl
set_option maxRecDepth 20000 in
theorem q_404 : (Jvm.Cond.methodLink "RopeVotesLaw" (107 : Nat) ({ cls := "RopeVotes", name := "arrived", desc := "(I)I" } : Jvm.MethodName)) ∈ rr_all := rr_in 407 rfl rfl
set_option maxRecDepth 20000 in
theorem q_405 : (Jvm.Cond.instanceMethod ({ cls := "RopeVotes", name := "arrived", desc := "(I)I" } : Jvm.MethodName)) ∈ rr_all := rr_in 408 rfl rfl
set_option maxRecDepth 20000 in
theorem q_406 : (Jvm.Cond.selects "RopeVotes" ({ cls := "RopeVotes", name := "arrived", desc := "(I)I" } : Jvm.MethodName) ({ cls := "RopeVotes", name := "arrived", desc := "(I)I" } : Jvm.MethodName)) ∈ rr_all := rr_in 409 rfl rfl
set_option maxRecDepth 20000 in
theorem q_407 : (Jvm.Cond.code ({ cls := "RopeVotes", name := "arrived", desc := "(I)I" } : Jvm.MethodName) prog_1_method_24_code (2 : Nat) (Option.some Jvm.ClassFile.FieldType.int)) ∈ rr_all := rr_in 410 rfl rfl
set_option maxRecDepth 20000 in
theorem q_408 : (Jvm.Cond.methodLink "RopeVotes" (178 : Nat) ({ cls := "RopeVotes$Tickets", name := "has", desc := "(I)Z" } : Jvm.MethodName)) ∈ rr_all := rr_in 411 rfl rfl
set_option maxRecDepth 20000 in
theorem q_409 : (Jvm.Cond.instanceMethod ({ cls := "RopeVotes$Tickets", name := "has", desc := "(I)Z" } : Jvm.MethodName)) ∈ rr_all := rr_in 412 rfl rfl
set_option maxRecDepth 20000 in
theorem q_410 : (Jvm.Cond.selects "RopeVotes$Tickets" ({ cls := "RopeVotes$Tickets", name := "has", desc := "(I)Z" } : Jvm.MethodName) ({ cls := "RopeVotes$Tickets", name := "has", desc := "(I)Z" } : Jvm.MethodName)) ∈ rr_all := rr_in 413 rfl rfl
set_option maxRecDepth 20000 in
theorem q_411 : (Jvm.Cond.code ({ cls := "RopeVotes$Tickets", name := "has", desc := "(I)Z" } : Jvm.MethodName) prog_5_method_2_code (2 : Nat) (Option.some Jvm.ClassFile.FieldType.boolean)) ∈ rr_all := rr_in 414 rfl rfl
set_option maxRecDepth 20000 in
theorem q_413 : (Jvm.Cond.methodLink "RopeVotesLaw" (110 : Nat) ({ cls := "RopeVotes", name := "hung", desc := "(I)I" } : Jvm.MethodName)) ∈ rr_all := rr_in 416 rfl rfl
set_option maxRecDepth 20000 in
theorem q_414 : (Jvm.Cond.instanceMethod ({ cls := "RopeVotes", name := "hung", desc := "(I)I" } : Jvm.MethodName)) ∈ rr_all := rr_in 417 rfl rfl
set_option maxRecDepth 20000 in
theorem q_415 : (Jvm.Cond.selects "RopeVotes" ({ cls := "RopeVotes", name := "hung", desc := "(I)I" } : Jvm.MethodName) ({ cls := "RopeVotes", name := "hung", desc := "(I)I" } : Jvm.MethodName)) ∈ rr_all := rr_in 418 rfl rfl
set_option maxRecDepth 20000 in
theorem q_416 : (Jvm.Cond.code ({ cls := "RopeVotes", name := "hung", desc := "(I)I" } : Jvm.MethodName) prog_1_method_25_code (2 : Nat) (Option.some Jvm.ClassFile.FieldType.int)) ∈ rr_all := rr_in 419 rfl rfl
set_option maxRecDepth 20000 in
theorem q_417 : (Jvm.Cond.methodLink "RopeVotesLaw" (113 : Nat) ({ cls := "RopeVotes", name := "refund", desc := "(I)I" } : Jvm.MethodName)) ∈ rr_all := rr_in 420 rfl rfl
set_option maxRecDepth 20000 in
theorem q_418 : (Jvm.Cond.instanceMethod ({ cls := "RopeVotes", name := "refund", desc := "(I)I" } : Jvm.MethodName)) ∈ rr_all := rr_in 421 rfl rfl
set_option maxRecDepth 20000 in
theorem q_419 : (Jvm.Cond.selects "RopeVotes" ({ cls := "RopeVotes", name := "refund", desc := "(I)I" } : Jvm.MethodName) ({ cls := "RopeVotes", name := "refund", desc := "(I)I" } : Jvm.MethodName)) ∈ rr_all := rr_in 422 rfl rfl
set_option maxRecDepth 20000 in
theorem q_420 : (Jvm.Cond.code ({ cls := "RopeVotes", name := "refund", desc := "(I)I" } : Jvm.MethodName) prog_1_method_26_code (2 : Nat) (Option.some Jvm.ClassFile.FieldType.int)) ∈ rr_all := rr_in 423 rfl rfl
set_option maxRecDepth 20000 in
theorem q_421 : (Jvm.Cond.methodLink "RopeVotes" (187 : Nat) ({ cls := "RopeVotes$Tickets", name := "refundOf", desc := "(I)I" } : Jvm.MethodName)) ∈ rr_all := rr_in 424 rfl rfl
set_option maxRecDepth 20000 in
theorem q_422 : (Jvm.Cond.instanceMethod ({ cls := "RopeVotes$Tickets", name := "refundOf", desc := "(I)I" } : Jvm.MethodName)) ∈ rr_all := rr_in 425 rfl rfl
set_option maxRecDepth 20000 in
theorem q_423 : (Jvm.Cond.selects "RopeVotes$Tickets" ({ cls := "RopeVotes$Tickets", name := "refundOf", desc := "(I)I" } : Jvm.MethodName) ({ cls := "RopeVotes$Tickets", name := "refundOf", desc := "(I)I" } : Jvm.MethodName)) ∈ rr_all := rr_in 426 rfl rfl
set_option maxRecDepth 20000 in
theorem q_424 : (Jvm.Cond.code ({ cls := "RopeVotes$Tickets", name := "refundOf", desc := "(I)I" } : Jvm.MethodName) prog_5_method_7_code (4 : Nat) (Option.some Jvm.ClassFile.FieldType.int)) ∈ rr_all := rr_in 427 rfl rfl
set_option maxRecDepth 20000 in
theorem q_425 : (Jvm.Cond.methodLink "RopeVotes$Tickets" (40 : Nat) ({ cls := "java/lang/Math", name := "max", desc := "(II)I" } : Jvm.MethodName)) ∈ rr_all := rr_in 428 rfl rfl
set_option maxRecDepth 20000 in
theorem q_426 : (Jvm.Cond.methodLink "RopeVotes$Tickets" (46 : Nat) ({ cls := "java/lang/Math", name := "min", desc := "(II)I" } : Jvm.MethodName)) ∈ rr_all := rr_in 429 rfl rfl
set_option maxRecDepth 20000 in
theorem q_427 : (Jvm.Cond.methodLink "RopeVotesLaw" (127 : Nat) ({ cls := "RopeVotes", name := "refunds", desc := "()I" } : Jvm.MethodName)) ∈ rr_all := rr_in 430 rfl rfl
set_option maxRecDepth 20000 in
theorem q_428 : (Jvm.Cond.instanceMethod ({ cls := "RopeVotes", name := "refunds", desc := "()I" } : Jvm.MethodName)) ∈ rr_all := rr_in 431 rfl rfl
set_option maxRecDepth 20000 in
theorem q_429 : (Jvm.Cond.selects "RopeVotes" ({ cls := "RopeVotes", name := "refunds", desc := "()I" } : Jvm.MethodName) ({ cls := "RopeVotes", name := "refunds", desc := "()I" } : Jvm.MethodName)) ∈ rr_all := rr_in 432 rfl rfl
set_option maxRecDepth 20000 in
theorem q_430 : (Jvm.Cond.code ({ cls := "RopeVotes", name := "refunds", desc := "()I" } : Jvm.MethodName) prog_1_method_27_code (1 : Nat) (Option.some Jvm.ClassFile.FieldType.int)) ∈ rr_all := rr_in 433 rfl rfl
set_option maxRecDepth 20000 in
theorem q_431 : (Jvm.Cond.methodLink "RopeVotes" (190 : Nat) ({ cls := "RopeVotes$Tickets", name := "sumOfRefunds", desc := "()I" } : Jvm.MethodName)) ∈ rr_all := rr_in 434 rfl rfl
set_option maxRecDepth 20000 in
theorem q_432 : (Jvm.Cond.instanceMethod ({ cls := "RopeVotes$Tickets", name := "sumOfRefunds", desc := "()I" } : Jvm.MethodName)) ∈ rr_all := rr_in 435 rfl rfl
set_option maxRecDepth 20000 in
theorem q_433 : (Jvm.Cond.selects "RopeVotes$Tickets" ({ cls := "RopeVotes$Tickets", name := "sumOfRefunds", desc := "()I" } : Jvm.MethodName) ({ cls := "RopeVotes$Tickets", name := "sumOfRefunds", desc := "()I" } : Jvm.MethodName)) ∈ rr_all := rr_in 436 rfl rfl
set_option maxRecDepth 20000 in
theorem q_434 : (Jvm.Cond.code ({ cls := "RopeVotes$Tickets", name := "sumOfRefunds", desc := "()I" } : Jvm.MethodName) prog_5_method_8_code (3 : Nat) (Option.some Jvm.ClassFile.FieldType.int)) ∈ rr_all := rr_in 437 rfl rfl
set_option maxRecDepth 20000 in
theorem q_435 : (Jvm.Cond.methodLink "RopeVotes$Tickets" (49 : Nat) ({ cls := "RopeVotes$Tickets", name := "refundOf", desc := "(I)I" } : Jvm.MethodName)) ∈ rr_all := rr_in 438 rfl rfl
set_option maxRecDepth 20000 in
theorem q_436 : (Jvm.Cond.methodLink "RopeVotesLaw" (83 : Nat) ({ cls := "RopeVotesLaw", name := "low", desc := "(II)I" } : Jvm.MethodName)) ∈ rr_all := rr_in 439 rfl rfl
set_option maxRecDepth 20000 in
theorem q_437 : (Jvm.Cond.static ({ cls := "RopeVotesLaw", name := "low", desc := "(II)I" } : Jvm.MethodName)) ∈ rr_all := rr_in 440 rfl rfl
set_option maxRecDepth 20000 in
theorem q_438 : (Jvm.Cond.code ({ cls := "RopeVotesLaw", name := "low", desc := "(II)I" } : Jvm.MethodName) method_2_code (2 : Nat) (Option.some Jvm.ClassFile.FieldType.int)) ∈ rr_all := rr_in 441 rfl rfl
set_option maxRecDepth 20000 in
theorem q_439 : (Jvm.Cond.constant "RopeVotesLaw" (7 : Nat) (2147483647 : Int32)) ∈ rr_all := rr_in 442 rfl rfl
set_option maxRecDepth 20000 in
theorem q_440 : (Jvm.Cond.methodLink "RopeVotesLaw" (79 : Nat) ({ cls := "RopeVotesLaw", name := "cell", desc := "([II)I" } : Jvm.MethodName)) ∈ rr_all := rr_in 443 rfl rfl
set_option maxRecDepth 20000 in
theorem q_441 : (Jvm.Cond.static ({ cls := "RopeVotesLaw", name := "cell", desc := "([II)I" } : Jvm.MethodName)) ∈ rr_all := rr_in 444 rfl rfl
set_option maxRecDepth 20000 in
theorem q_442 : (Jvm.Cond.code ({ cls := "RopeVotesLaw", name := "cell", desc := "([II)I" } : Jvm.MethodName) method_3_code (2 : Nat) (Option.some Jvm.ClassFile.FieldType.int)) ∈ rr_all := rr_in 445 rfl rfl
set_option maxRecDepth 20000 in
theorem q_443 : (Jvm.Cond.constant "RopeVotesLaw" (8 : Nat) (40503 : Int32)) ∈ rr_all := rr_in 446 rfl rfl
set_option maxRecDepth 20000 in
theorem q_444 : (Jvm.Cond.methodLink "RopeVotesLaw" (101 : Nat) ({ cls := "RopeVotesLaw", name := "putOn", desc := "(LRopeVotes;)I" } : Jvm.MethodName)) ∈ rr_all := rr_in 447 rfl rfl
set_option maxRecDepth 20000 in
theorem q_445 : (Jvm.Cond.static ({ cls := "RopeVotesLaw", name := "putOn", desc := "(LRopeVotes;)I" } : Jvm.MethodName)) ∈ rr_all := rr_in 448 rfl rfl
set_option maxRecDepth 20000 in
theorem q_447 : (Jvm.Cond.classLink "RopeVotesLaw" (15 : Nat) "java/lang/IllegalStateException") ∈ rr_all := rr_in 450 rfl rfl
set_option maxRecDepth 20000 in
theorem q_448 : (Jvm.Cond.methodLink "RopeVotesLaw" (9 : Nat) ({ cls := "RopeVotes", name := "putOn", desc := "()I" } : Jvm.MethodName)) ∈ rr_all := rr_in 451 rfl rfl
set_option maxRecDepth 20000 in
theorem q_449 : (Jvm.Cond.instanceMethod ({ cls := "RopeVotes", name := "putOn", desc := "()I" } : Jvm.MethodName)) ∈ rr_all := rr_in 452 rfl rfl
set_option maxRecDepth 20000 in
theorem q_450 : (Jvm.Cond.selects "RopeVotes" ({ cls := "RopeVotes", name := "putOn", desc := "()I" } : Jvm.MethodName) ({ cls := "RopeVotes", name := "putOn", desc := "()I" } : Jvm.MethodName)) ∈ rr_all := rr_in 453 rfl rfl
set_option maxRecDepth 20000 in
theorem q_451 : (Jvm.Cond.code ({ cls := "RopeVotes", name := "putOn", desc := "()I" } : Jvm.MethodName) prog_1_method_2_code (1 : Nat) (Option.some Jvm.ClassFile.FieldType.int)) ∈ rr_all := rr_in 454 rfl rfl
set_option maxRecDepth 20000 in
theorem q_452 : (Jvm.Cond.methodLink "RopeVotes" (59 : Nat) ({ cls := "RopeVotes$Loop", name := "canStart", desc := "()Z" } : Jvm.MethodName)) ∈ rr_all := rr_in 455 rfl rfl
set_option maxRecDepth 20000 in
theorem q_453 : (Jvm.Cond.instanceMethod ({ cls := "RopeVotes$Loop", name := "canStart", desc := "()Z" } : Jvm.MethodName)) ∈ rr_all := rr_in 456 rfl rfl
set_option maxRecDepth 20000 in
theorem q_454 : (Jvm.Cond.selects "RopeVotes$Loop" ({ cls := "RopeVotes$Loop", name := "canStart", desc := "()Z" } : Jvm.MethodName) ({ cls := "RopeVotes$Loop", name := "canStart", desc := "()Z" } : Jvm.MethodName)) ∈ rr_all := rr_in 457 rfl rfl
set_option maxRecDepth 20000 in
theorem q_455 : (Jvm.Cond.code ({ cls := "RopeVotes$Loop", name := "canStart", desc := "()Z" } : Jvm.MethodName) prog_3_method_3_code (2 : Nat) (Option.some Jvm.ClassFile.FieldType.boolean)) ∈ rr_all := rr_in 458 rfl rfl
set_option maxRecDepth 20000 in
theorem q_457 : (Jvm.Cond.static ({ cls := "RopeVotes", name := "gapBetween", desc := "(II)I" } : Jvm.MethodName)) ∈ rr_all := rr_in 460 rfl rfl
set_option maxRecDepth 20000 in
theorem q_458 : (Jvm.Cond.code ({ cls := "RopeVotes", name := "gapBetween", desc := "(II)I" } : Jvm.MethodName) prog_1_method_34_code (3 : Nat) (Option.some Jvm.ClassFile.FieldType.int)) ∈ rr_all := rr_in 461 rfl rfl
set_option maxRecDepth 20000 in
theorem q_459 : (Jvm.Cond.methodLink "RopeVotes" (225 : Nat) ({ cls := "java/lang/Math", name := "abs", desc := "(I)I" } : Jvm.MethodName)) ∈ rr_all := rr_in 462 rfl rfl
set_option maxRecDepth 20000 in
theorem q_460 : (Jvm.Cond.methodLink "RopeVotes" (230 : Nat) ({ cls := "java/lang/Math", name := "min", desc := "(II)I" } : Jvm.MethodName)) ∈ rr_all := rr_in 463 rfl rfl
set_option maxRecDepth 20000 in
theorem q_462 : (Jvm.Cond.methodLink "RopeVotes" (70 : Nat) ({ cls := "RopeVotes$Loop", name := "start", desc := "(I)I" } : Jvm.MethodName)) ∈ rr_all := rr_in 465 rfl rfl
set_option maxRecDepth 20000 in
theorem q_463 : (Jvm.Cond.instanceMethod ({ cls := "RopeVotes$Loop", name := "start", desc := "(I)I" } : Jvm.MethodName)) ∈ rr_all := rr_in 466 rfl rfl
set_option maxRecDepth 20000 in
theorem q_464 : (Jvm.Cond.selects "RopeVotes$Loop" ({ cls := "RopeVotes$Loop", name := "start", desc := "(I)I" } : Jvm.MethodName) ({ cls := "RopeVotes$Loop", name := "start", desc := "(I)I" } : Jvm.MethodName)) ∈ rr_all := rr_in 467 rfl rfl
set_option maxRecDepth 20000 in
theorem q_465 : (Jvm.Cond.code ({ cls := "RopeVotes$Loop", name := "start", desc := "(I)I" } : Jvm.MethodName) prog_3_method_4_code (3 : Nat) (Option.some Jvm.ClassFile.FieldType.int)) ∈ rr_all := rr_in 468 rfl rfl
set_option maxRecDepth 20000 in
theorem q_466 : (Jvm.Cond.methodLink "RopeVotesLaw" (116 : Nat) ({ cls := "RopeVotesLaw", name := "takeOff", desc := "(LRopeVotes;I)I" } : Jvm.MethodName)) ∈ rr_all := rr_in 469 rfl rfl
set_option maxRecDepth 20000 in
theorem q_467 : (Jvm.Cond.static ({ cls := "RopeVotesLaw", name := "takeOff", desc := "(LRopeVotes;I)I" } : Jvm.MethodName)) ∈ rr_all := rr_in 470 rfl rfl
set_option maxRecDepth 20000 in
theorem q_469 : (Jvm.Cond.classLink "RopeVotesLaw" (21 : Nat) "java/lang/IndexOutOfBoundsException") ∈ rr_all := rr_in 472 rfl rfl
set_option maxRecDepth 20000 in
theorem q_470 : (Jvm.Cond.methodLink "RopeVotesLaw" (17 : Nat) ({ cls := "RopeVotes", name := "takeOff", desc := "(I)I" } : Jvm.MethodName)) ∈ rr_all := rr_in 473 rfl rfl
set_option maxRecDepth 20000 in
theorem q_471 : (Jvm.Cond.instanceMethod ({ cls := "RopeVotes", name := "takeOff", desc := "(I)I" } : Jvm.MethodName)) ∈ rr_all := rr_in 474 rfl rfl
set_option maxRecDepth 20000 in
theorem q_472 : (Jvm.Cond.selects "RopeVotes" ({ cls := "RopeVotes", name := "takeOff", desc := "(I)I" } : Jvm.MethodName) ({ cls := "RopeVotes", name := "takeOff", desc := "(I)I" } : Jvm.MethodName)) ∈ rr_all := rr_in 475 rfl rfl
set_option maxRecDepth 20000 in
theorem q_473 : (Jvm.Cond.code ({ cls := "RopeVotes", name := "takeOff", desc := "(I)I" } : Jvm.MethodName) prog_1_method_3_code (2 : Nat) (Option.some Jvm.ClassFile.FieldType.int)) ∈ rr_all := rr_in 476 rfl rfl
set_option maxRecDepth 20000 in
theorem q_474 : (Jvm.Cond.methodLink "RopeVotes" (89 : Nat) ({ cls := "RopeVotes$Tickets", name := "peopleIn", desc := "(I)I" } : Jvm.MethodName)) ∈ rr_all := rr_in 477 rfl rfl
set_option maxRecDepth 20000 in
theorem q_475 : (Jvm.Cond.instanceMethod ({ cls := "RopeVotes$Tickets", name := "peopleIn", desc := "(I)I" } : Jvm.MethodName)) ∈ rr_all := rr_in 478 rfl rfl
set_option maxRecDepth 20000 in
theorem q_476 : (Jvm.Cond.selects "RopeVotes$Tickets" ({ cls := "RopeVotes$Tickets", name := "peopleIn", desc := "(I)I" } : Jvm.MethodName) ({ cls := "RopeVotes$Tickets", name := "peopleIn", desc := "(I)I" } : Jvm.MethodName)) ∈ rr_all := rr_in 479 rfl rfl
set_option maxRecDepth 20000 in
theorem q_477 : (Jvm.Cond.code ({ cls := "RopeVotes$Tickets", name := "peopleIn", desc := "(I)I" } : Jvm.MethodName) prog_5_method_5_code (4 : Nat) (Option.some Jvm.ClassFile.FieldType.int)) ∈ rr_all := rr_in 480 rfl rfl
set_option maxRecDepth 20000 in
theorem q_479 : (Jvm.Cond.methodLink "RopeVotesLaw" (104 : Nat) ({ cls := "RopeVotesLaw", name := "board", desc := "(LRopeVotes;III)I" } : Jvm.MethodName)) ∈ rr_all := rr_in 482 rfl rfl
set_option maxRecDepth 20000 in
theorem q_480 : (Jvm.Cond.static ({ cls := "RopeVotesLaw", name := "board", desc := "(LRopeVotes;III)I" } : Jvm.MethodName)) ∈ rr_all := rr_in 483 rfl rfl
set_option maxRecDepth 20000 in
theorem q_482 : (Jvm.Cond.methodLink "RopeVotesLaw" (23 : Nat) ({ cls := "RopeVotes", name := "board", desc := "(III)I" } : Jvm.MethodName)) ∈ rr_all := rr_in 485 rfl rfl
set_option maxRecDepth 20000 in
theorem q_483 : (Jvm.Cond.instanceMethod ({ cls := "RopeVotes", name := "board", desc := "(III)I" } : Jvm.MethodName)) ∈ rr_all := rr_in 486 rfl rfl
set_option maxRecDepth 20000 in
theorem q_484 : (Jvm.Cond.selects "RopeVotes" ({ cls := "RopeVotes", name := "board", desc := "(III)I" } : Jvm.MethodName) ({ cls := "RopeVotes", name := "board", desc := "(III)I" } : Jvm.MethodName)) ∈ rr_all := rr_in 487 rfl rfl
set_option maxRecDepth 20000 in
theorem q_485 : (Jvm.Cond.code ({ cls := "RopeVotes", name := "board", desc := "(III)I" } : Jvm.MethodName) prog_1_method_22_code (6 : Nat) (Option.some Jvm.ClassFile.FieldType.int)) ∈ rr_all := rr_in 488 rfl rfl
set_option maxRecDepth 20000 in
theorem q_487 : (Jvm.Cond.methodLink "RopeVotes" (166 : Nat) ({ cls := "RopeVotes", name := "isInStation", desc := "(I)Z" } : Jvm.MethodName)) ∈ rr_all := rr_in 490 rfl rfl
set_option maxRecDepth 20000 in
theorem q_488 : (Jvm.Cond.methodLink "RopeVotes" (169 : Nat) ({ cls := "RopeVotes$Tickets", name := "isLeft", desc := "()Z" } : Jvm.MethodName)) ∈ rr_all := rr_in 491 rfl rfl
set_option maxRecDepth 20000 in
theorem q_489 : (Jvm.Cond.instanceMethod ({ cls := "RopeVotes$Tickets", name := "isLeft", desc := "()Z" } : Jvm.MethodName)) ∈ rr_all := rr_in 492 rfl rfl
set_option maxRecDepth 20000 in
theorem q_490 : (Jvm.Cond.selects "RopeVotes$Tickets" ({ cls := "RopeVotes$Tickets", name := "isLeft", desc := "()Z" } : Jvm.MethodName) ({ cls := "RopeVotes$Tickets", name := "isLeft", desc := "()Z" } : Jvm.MethodName)) ∈ rr_all := rr_in 493 rfl rfl
set_option maxRecDepth 20000 in
theorem q_491 : (Jvm.Cond.code ({ cls := "RopeVotes$Tickets", name := "isLeft", desc := "()Z" } : Jvm.MethodName) prog_5_method_3_code (1 : Nat) (Option.some Jvm.ClassFile.FieldType.boolean)) ∈ rr_all := rr_in 494 rfl rfl
set_option maxRecDepth 20000 in
theorem q_493 : (Jvm.Cond.methodLink "RopeVotes" (174 : Nat) ({ cls := "RopeVotes$Tickets", name := "sell", desc := "(IIII)I" } : Jvm.MethodName)) ∈ rr_all := rr_in 496 rfl rfl
set_option maxRecDepth 20000 in
theorem q_494 : (Jvm.Cond.instanceMethod ({ cls := "RopeVotes$Tickets", name := "sell", desc := "(IIII)I" } : Jvm.MethodName)) ∈ rr_all := rr_in 497 rfl rfl
set_option maxRecDepth 20000 in
theorem q_495 : (Jvm.Cond.selects "RopeVotes$Tickets" ({ cls := "RopeVotes$Tickets", name := "sell", desc := "(IIII)I" } : Jvm.MethodName) ({ cls := "RopeVotes$Tickets", name := "sell", desc := "(IIII)I" } : Jvm.MethodName)) ∈ rr_all := rr_in 498 rfl rfl
set_option maxRecDepth 20000 in
theorem q_496 : (Jvm.Cond.code ({ cls := "RopeVotes$Tickets", name := "sell", desc := "(IIII)I" } : Jvm.MethodName) prog_5_method_4_code (6 : Nat) (Option.some Jvm.ClassFile.FieldType.int)) ∈ rr_all := rr_in 499 rfl rfl
set_option maxRecDepth 20000 in
theorem q_497 : (Jvm.Cond.methodLink "RopeVotesLaw" (53 : Nat) ({ cls := "RopeVotesLaw", name := "place", desc := "(LRopeVotes;I)I" } : Jvm.MethodName)) ∈ rr_all := rr_in 500 rfl rfl
set_option maxRecDepth 20000 in
theorem q_498 : (Jvm.Cond.static ({ cls := "RopeVotesLaw", name := "place", desc := "(LRopeVotes;I)I" } : Jvm.MethodName)) ∈ rr_all := rr_in 501 rfl rfl
set_option maxRecDepth 20000 in
theorem q_500 : (Jvm.Cond.methodLink "RopeVotesLaw" (69 : Nat) ({ cls := "RopeVotesLaw", name := "votes", desc := "(LRopeVotes;)Z" } : Jvm.MethodName)) ∈ rr_all := rr_in 503 rfl rfl
set_option maxRecDepth 20000 in
theorem q_501 : (Jvm.Cond.static ({ cls := "RopeVotesLaw", name := "votes", desc := "(LRopeVotes;)Z" } : Jvm.MethodName)) ∈ rr_all := rr_in 504 rfl rfl
set_option maxRecDepth 20000 in
theorem q_502 : (Jvm.Cond.code ({ cls := "RopeVotesLaw", name := "votes", desc := "(LRopeVotes;)Z" } : Jvm.MethodName) method_9_code (7 : Nat) (Option.some Jvm.ClassFile.FieldType.boolean)) ∈ rr_all := rr_in 505 rfl rfl
set_option maxRecDepth 20000 in
theorem q_503 : (Jvm.Cond.methodLink "RopeVotesLaw" (33 : Nat) ({ cls := "RopeVotes", name := "fresh", desc := "()I" } : Jvm.MethodName)) ∈ rr_all := rr_in 506 rfl rfl
set_option maxRecDepth 20000 in
theorem q_504 : (Jvm.Cond.instanceMethod ({ cls := "RopeVotes", name := "fresh", desc := "()I" } : Jvm.MethodName)) ∈ rr_all := rr_in 507 rfl rfl
set_option maxRecDepth 20000 in
theorem q_505 : (Jvm.Cond.selects "RopeVotes" ({ cls := "RopeVotes", name := "fresh", desc := "()I" } : Jvm.MethodName) ({ cls := "RopeVotes", name := "fresh", desc := "()I" } : Jvm.MethodName)) ∈ rr_all := rr_in 508 rfl rfl
set_option maxRecDepth 20000 in
theorem q_506 : (Jvm.Cond.code ({ cls := "RopeVotes", name := "fresh", desc := "()I" } : Jvm.MethodName) prog_1_method_13_code (1 : Nat) (Option.some Jvm.ClassFile.FieldType.int)) ∈ rr_all := rr_in 509 rfl rfl
set_option maxRecDepth 20000 in
theorem q_507 : (Jvm.Cond.methodLink "RopeVotesLaw" (36 : Nat) ({ cls := "RopeVotes", name := "onTheWay", desc := "()I" } : Jvm.MethodName)) ∈ rr_all := rr_in 510 rfl rfl
set_option maxRecDepth 20000 in
theorem q_508 : (Jvm.Cond.instanceMethod ({ cls := "RopeVotes", name := "onTheWay", desc := "()I" } : Jvm.MethodName)) ∈ rr_all := rr_in 511 rfl rfl
set_option maxRecDepth 20000 in
theorem q_509 : (Jvm.Cond.selects "RopeVotes" ({ cls := "RopeVotes", name := "onTheWay", desc := "()I" } : Jvm.MethodName) ({ cls := "RopeVotes", name := "onTheWay", desc := "()I" } : Jvm.MethodName)) ∈ rr_all := rr_in 512 rfl rfl
set_option maxRecDepth 20000 in
theorem q_510 : (Jvm.Cond.code ({ cls := "RopeVotes", name := "onTheWay", desc := "()I" } : Jvm.MethodName) prog_1_method_14_code (1 : Nat) (Option.some Jvm.ClassFile.FieldType.int)) ∈ rr_all := rr_in 513 rfl rfl
set_option maxRecDepth 20000 in
theorem q_511 : (Jvm.Cond.methodLink "RopeVotes" (147 : Nat) ({ cls := "RopeVotes$Post", name := "countLater", desc := "(I)I" } : Jvm.MethodName)) ∈ rr_all := rr_in 514 rfl rfl
set_option maxRecDepth 20000 in
theorem q_512 : (Jvm.Cond.instanceMethod ({ cls := "RopeVotes$Post", name := "countLater", desc := "(I)I" } : Jvm.MethodName)) ∈ rr_all := rr_in 515 rfl rfl
set_option maxRecDepth 20000 in
theorem q_513 : (Jvm.Cond.selects "RopeVotes$Post" ({ cls := "RopeVotes$Post", name := "countLater", desc := "(I)I" } : Jvm.MethodName) ({ cls := "RopeVotes$Post", name := "countLater", desc := "(I)I" } : Jvm.MethodName)) ∈ rr_all := rr_in 516 rfl rfl
set_option maxRecDepth 20000 in
theorem q_514 : (Jvm.Cond.code ({ cls := "RopeVotes$Post", name := "countLater", desc := "(I)I" } : Jvm.MethodName) prog_4_method_4_code (4 : Nat) (Option.some Jvm.ClassFile.FieldType.int)) ∈ rr_all := rr_in 517 rfl rfl
set_option maxRecDepth 20000 in
theorem q_515 : (Jvm.Cond.methodLink "RopeVotesLaw" (39 : Nat) ({ cls := "RopeVotes", name := "voteTime", desc := "(I)I" } : Jvm.MethodName)) ∈ rr_all := rr_in 518 rfl rfl
set_option maxRecDepth 20000 in
theorem q_516 : (Jvm.Cond.instanceMethod ({ cls := "RopeVotes", name := "voteTime", desc := "(I)I" } : Jvm.MethodName)) ∈ rr_all := rr_in 519 rfl rfl
set_option maxRecDepth 20000 in
theorem q_517 : (Jvm.Cond.selects "RopeVotes" ({ cls := "RopeVotes", name := "voteTime", desc := "(I)I" } : Jvm.MethodName) ({ cls := "RopeVotes", name := "voteTime", desc := "(I)I" } : Jvm.MethodName)) ∈ rr_all := rr_in 520 rfl rfl
set_option maxRecDepth 20000 in
theorem q_518 : (Jvm.Cond.code ({ cls := "RopeVotes", name := "voteTime", desc := "(I)I" } : Jvm.MethodName) prog_1_method_12_code (2 : Nat) (Option.some Jvm.ClassFile.FieldType.int)) ∈ rr_all := rr_in 521 rfl rfl
set_option maxRecDepth 20000 in
theorem q_519 : (Jvm.Cond.methodLink "RopeVotesLaw" (42 : Nat) ({ cls := "RopeVotes", name := "vote", desc := "(I)I" } : Jvm.MethodName)) ∈ rr_all := rr_in 522 rfl rfl
set_option maxRecDepth 20000 in
theorem q_520 : (Jvm.Cond.instanceMethod ({ cls := "RopeVotes", name := "vote", desc := "(I)I" } : Jvm.MethodName)) ∈ rr_all := rr_in 523 rfl rfl
set_option maxRecDepth 20000 in
theorem q_521 : (Jvm.Cond.selects "RopeVotes" ({ cls := "RopeVotes", name := "vote", desc := "(I)I" } : Jvm.MethodName) ({ cls := "RopeVotes", name := "vote", desc := "(I)I" } : Jvm.MethodName)) ∈ rr_all := rr_in 524 rfl rfl
set_option maxRecDepth 20000 in
theorem q_522 : (Jvm.Cond.code ({ cls := "RopeVotes", name := "vote", desc := "(I)I" } : Jvm.MethodName) prog_1_method_11_code (2 : Nat) (Option.some Jvm.ClassFile.FieldType.int)) ∈ rr_all := rr_in 525 rfl rfl
set_option maxRecDepth 20000 in
theorem q_523 : (Jvm.Cond.methodLink "RopeVotesLaw" (48 : Nat) ({ cls := "RopeVotesLaw", name := "bits", desc := "(I)I" } : Jvm.MethodName)) ∈ rr_all := rr_in 526 rfl rfl
set_option maxRecDepth 20000 in
theorem q_524 : (Jvm.Cond.static ({ cls := "RopeVotesLaw", name := "bits", desc := "(I)I" } : Jvm.MethodName)) ∈ rr_all := rr_in 527 rfl rfl
set_option maxRecDepth 20000 in
theorem q_525 : (Jvm.Cond.code ({ cls := "RopeVotesLaw", name := "bits", desc := "(I)I" } : Jvm.MethodName) method_8_code (3 : Nat) (Option.some Jvm.ClassFile.FieldType.int)) ∈ rr_all := rr_in 528 rfl rfl
set_option maxRecDepth 20000 in
theorem q_526 : (Jvm.Cond.methodLink "RopeVotesLaw" (73 : Nat) ({ cls := "RopeVotesLaw", name := "cars", desc := "(LRopeVotes;I)Z" } : Jvm.MethodName)) ∈ rr_all := rr_in 529 rfl rfl
set_option maxRecDepth 20000 in
theorem q_527 : (Jvm.Cond.static ({ cls := "RopeVotesLaw", name := "cars", desc := "(LRopeVotes;I)Z" } : Jvm.MethodName)) ∈ rr_all := rr_in 530 rfl rfl
set_option maxRecDepth 20000 in
theorem q_528 : (Jvm.Cond.code ({ cls := "RopeVotesLaw", name := "cars", desc := "(LRopeVotes;I)Z" } : Jvm.MethodName) method_10_code (6 : Nat) (Option.some Jvm.ClassFile.FieldType.boolean)) ∈ rr_all := rr_in 531 rfl rfl
set_option maxRecDepth 20000 in
theorem q_529 : (Jvm.Cond.methodLink "RopeVotesLaw" (56 : Nat) ({ cls := "RopeVotes", name := "placeByTurns", desc := "(I)I" } : Jvm.MethodName)) ∈ rr_all := rr_in 532 rfl rfl
set_option maxRecDepth 20000 in
theorem q_530 : (Jvm.Cond.instanceMethod ({ cls := "RopeVotes", name := "placeByTurns", desc := "(I)I" } : Jvm.MethodName)) ∈ rr_all := rr_in 533 rfl rfl
set_option maxRecDepth 20000 in
theorem q_531 : (Jvm.Cond.selects "RopeVotes" ({ cls := "RopeVotes", name := "placeByTurns", desc := "(I)I" } : Jvm.MethodName) ({ cls := "RopeVotes", name := "placeByTurns", desc := "(I)I" } : Jvm.MethodName)) ∈ rr_all := rr_in 534 rfl rfl
set_option maxRecDepth 20000 in
theorem q_532 : (Jvm.Cond.code ({ cls := "RopeVotes", name := "placeByTurns", desc := "(I)I" } : Jvm.MethodName) prog_1_method_6_code (2 : Nat) (Option.some Jvm.ClassFile.FieldType.int)) ∈ rr_all := rr_in 535 rfl rfl
set_option maxRecDepth 20000 in
theorem q_533 : (Jvm.Cond.methodLink "RopeVotesLaw" (59 : Nat) ({ cls := "RopeVotes", name := "people", desc := "(I)I" } : Jvm.MethodName)) ∈ rr_all := rr_in 536 rfl rfl
set_option maxRecDepth 20000 in
theorem q_534 : (Jvm.Cond.instanceMethod ({ cls := "RopeVotes", name := "people", desc := "(I)I" } : Jvm.MethodName)) ∈ rr_all := rr_in 537 rfl rfl
set_option maxRecDepth 20000 in
theorem q_535 : (Jvm.Cond.selects "RopeVotes" ({ cls := "RopeVotes", name := "people", desc := "(I)I" } : Jvm.MethodName) ({ cls := "RopeVotes", name := "people", desc := "(I)I" } : Jvm.MethodName)) ∈ rr_all := rr_in 538 rfl rfl
set_option maxRecDepth 20000 in
theorem q_536 : (Jvm.Cond.code ({ cls := "RopeVotes", name := "people", desc := "(I)I" } : Jvm.MethodName) prog_1_method_23_code (2 : Nat) (Option.some Jvm.ClassFile.FieldType.int)) ∈ rr_all := rr_in 539 rfl rfl
set_option maxRecDepth 20000 in
theorem q_537 : (Jvm.Cond.methodLink "RopeVotesLaw" (62 : Nat) ({ cls := "RopeVotes", name := "cars", desc := "()I" } : Jvm.MethodName)) ∈ rr_all := rr_in 540 rfl rfl
set_option maxRecDepth 20000 in
theorem q_538 : (Jvm.Cond.instanceMethod ({ cls := "RopeVotes", name := "cars", desc := "()I" } : Jvm.MethodName)) ∈ rr_all := rr_in 541 rfl rfl
set_option maxRecDepth 20000 in
theorem q_539 : (Jvm.Cond.selects "RopeVotes" ({ cls := "RopeVotes", name := "cars", desc := "()I" } : Jvm.MethodName) ({ cls := "RopeVotes", name := "cars", desc := "()I" } : Jvm.MethodName)) ∈ rr_all := rr_in 542 rfl rfl
set_option maxRecDepth 20000 in
theorem q_540 : (Jvm.Cond.code ({ cls := "RopeVotes", name := "cars", desc := "()I" } : Jvm.MethodName) prog_1_method_4_code (1 : Nat) (Option.some Jvm.ClassFile.FieldType.int)) ∈ rr_all := rr_in 543 rfl rfl
set_option maxRecDepth 20000 in
theorem q_541 : (Jvm.Cond.methodLink "RopeVotes" (101 : Nat) ({ cls := "RopeVotes$Loop", name := "countOn", desc := "()I" } : Jvm.MethodName)) ∈ rr_all := rr_in 544 rfl rfl
set_option maxRecDepth 20000 in
theorem q_542 : (Jvm.Cond.instanceMethod ({ cls := "RopeVotes$Loop", name := "countOn", desc := "()I" } : Jvm.MethodName)) ∈ rr_all := rr_in 545 rfl rfl
set_option maxRecDepth 20000 in
theorem q_543 : (Jvm.Cond.selects "RopeVotes$Loop" ({ cls := "RopeVotes$Loop", name := "countOn", desc := "()I" } : Jvm.MethodName) ({ cls := "RopeVotes$Loop", name := "countOn", desc := "()I" } : Jvm.MethodName)) ∈ rr_all := rr_in 546 rfl rfl
set_option maxRecDepth 20000 in
theorem q_544 : (Jvm.Cond.code ({ cls := "RopeVotes$Loop", name := "countOn", desc := "()I" } : Jvm.MethodName) prog_3_method_5_code (3 : Nat) (Option.some Jvm.ClassFile.FieldType.int)) ∈ rr_all := rr_in 547 rfl rfl
set_option maxRecDepth 20000 in
theorem q_545 : (Jvm.Cond.methodLink "RopeVotesLaw" (65 : Nat) ({ cls := "RopeVotes", name := "leastGap", desc := "()I" } : Jvm.MethodName)) ∈ rr_all := rr_in 548 rfl rfl
set_option maxRecDepth 20000 in
theorem q_546 : (Jvm.Cond.instanceMethod ({ cls := "RopeVotes", name := "leastGap", desc := "()I" } : Jvm.MethodName)) ∈ rr_all := rr_in 549 rfl rfl
set_option maxRecDepth 20000 in
theorem q_547 : (Jvm.Cond.selects "RopeVotes" ({ cls := "RopeVotes", name := "leastGap", desc := "()I" } : Jvm.MethodName) ({ cls := "RopeVotes", name := "leastGap", desc := "()I" } : Jvm.MethodName)) ∈ rr_all := rr_in 550 rfl rfl
set_option maxRecDepth 20000 in
theorem q_548 : (Jvm.Cond.code ({ cls := "RopeVotes", name := "leastGap", desc := "()I" } : Jvm.MethodName) prog_1_method_7_code (1 : Nat) (Option.some Jvm.ClassFile.FieldType.int)) ∈ rr_all := rr_in 551 rfl rfl
set_option maxRecDepth 20000 in
theorem q_549 : (Jvm.Cond.methodLink "RopeVotes" (105 : Nat) ({ cls := "RopeVotes$Loop", name := "leastGapOfPairs", desc := "()I" } : Jvm.MethodName)) ∈ rr_all := rr_in 552 rfl rfl
set_option maxRecDepth 20000 in
theorem q_550 : (Jvm.Cond.instanceMethod ({ cls := "RopeVotes$Loop", name := "leastGapOfPairs", desc := "()I" } : Jvm.MethodName)) ∈ rr_all := rr_in 553 rfl rfl
set_option maxRecDepth 20000 in
theorem q_551 : (Jvm.Cond.selects "RopeVotes$Loop" ({ cls := "RopeVotes$Loop", name := "leastGapOfPairs", desc := "()I" } : Jvm.MethodName) ({ cls := "RopeVotes$Loop", name := "leastGapOfPairs", desc := "()I" } : Jvm.MethodName)) ∈ rr_all := rr_in 554 rfl rfl
set_option maxRecDepth 20000 in
theorem q_552 : (Jvm.Cond.code ({ cls := "RopeVotes$Loop", name := "leastGapOfPairs", desc := "()I" } : Jvm.MethodName) prog_3_method_6_code (5 : Nat) (Option.some Jvm.ClassFile.FieldType.int)) ∈ rr_all := rr_in 555 rfl rfl
set_option maxRecDepth 20000 in
theorem q_553 : (Jvm.Cond.methodLink "RopeVotes$Loop" (30 : Nat) ({ cls := "java/lang/Math", name := "min", desc := "(II)I" } : Jvm.MethodName)) ∈ rr_all := rr_in 556 rfl rfl
set_option maxRecDepth 20000 in
theorem qs_V_passMinute : Cond.selects "RopeVotes" y_V_passMinute y_V_passMinute ∈ rr_all := rr_in 1 rfl rfl
set_option maxRecDepth 20000 in
theorem qs_V_makeVotes : Cond.selects "RopeVotes" y_V_makeVotes y_V_makeVotes ∈ rr_all := rr_in 2 rfl rfl
end
section
-- own rows over the kit: contexts, short arithmetic, calls of methods that only read, calls of methods that write
def rr_nl : List (String × Nat × MethodName × String) := [("RopeVotes", 9, ⟨"RopeVotes$Loop", "<init>", "()V"⟩, "RopeVotes"), ("RopeVotes", 25, ⟨"RopeVotes$Post", "<init>", "()V"⟩, "RopeVotes"), ("RopeVotes", 39, ⟨"RopeVotes$Tickets", "<init>", "()V"⟩, "RopeVotes"), ("RopeVotes$Loop", 26, ⟨"RopeVotes", "gapBetween", "(II)I"⟩, "RopeVotes"), ("RopeVotes$Loop", 39, ⟨"RopeVotes", "isInStation", "(I)Z"⟩, "RopeVotes")]
def rr_N (U : State) : Prop := ∀ q ∈ rr_nl, va_Nw (.methodLinkNest q.1 q.2.1 q.2.2.1 q.2.2.2) U
theorem rr_N.warm {s U : State} (hW : s.WarmedH U.vm) (h : rr_N s) : rr_N U := fun q hq => va_Nw.warmM hW (h q hq)
theorem rr_N.same {s U : State} (hv : s.vm = U.vm) (h : rr_N s) : rr_N U := fun q hq => va_Nw.same rfl hv (h q hq)
abbrev rr_C3 : Type := ClassId × ClassId × ClassId
abbrev rr_ty (cs : rr_C3) : List (ClassId × FieldType) := [(cs.1, .int), (cs.2.1, .boolean), (cs.2.2, .long)]
def rr_K (D : va_G) (cs : rr_C3) (U : State) : Prop := va_K D classes (rr_ty cs) U ∧ rr_N U
theorem rr_K.warm {D : va_G} {cs : rr_C3} {s U : State} (hW : s.WarmedH U.vm) (h : rr_K D cs s) : rr_K D cs U := ⟨h.1.moved hW.alike, h.2.warm hW⟩
theorem rr_K.calling {D : va_G} {cs : rr_C3} {U : State} {g : JFrame} {mk : MethodId} {a : Array Value} (h : rr_K D cs U) : rr_K D cs (U.calling g mk a) := ⟨va_K.moved (u := U) (U := U.calling g mk a) (Vm.Alike.refl U.vm) h.1, rr_N.same (s := U) (U := U.calling g mk a) rfl h.2⟩
/-- what a call needs of its callee's tables: an instance method of k arguments -/
def rr_CK (y : MethodName) (b : ByteArray) (n : Nat) (ret : Option FieldType) (k : Nat) : Prop := Cond.instanceMethod y ∈ rr_all ∧ Cond.selects y.cls y y ∈ rr_all ∧ Cond.initialized y.cls ∈ rr_all ∧ Cond.code y b n ret ∈ rr_all ∧ y.cls ≠ "java/lang/invoke/MethodHandle" ∧ y.cls ≠ "java/lang/invoke/VarHandle" ∧ (parseMethodDescriptor y.desc).map (fun d => d.parameters.length) = some k
/-- .. a static one -/
def rr_CS (y : MethodName) (b : ByteArray) (n : Nat) (ret : Option FieldType) (k : Nat) : Prop := Cond.static y ∈ rr_all ∧ Cond.initialized y.cls ∈ rr_all ∧ Cond.code y b n ret ∈ rr_all ∧ y.cls ≠ "java/lang/invoke/MethodHandle" ∧ y.cls ≠ "java/lang/invoke/VarHandle" ∧ (parseMethodDescriptor y.desc).map (fun d => d.parameters.length) = some k
/-- .. a constructor -/
def rr_CI (y : MethodName) (b : ByteArray) (n : Nat) (k : Nat) : Prop := y.name = "<init>" ∧ Cond.instanceMethod y ∈ rr_all ∧ Cond.initialized y.cls ∈ rr_all ∧ Cond.code y b n none ∈ rr_all ∧ y.cls ≠ "java/lang/invoke/MethodHandle" ∧ y.cls ≠ "java/lang/invoke/VarHandle" ∧ (parseMethodDescriptor y.desc).map (fun d => d.parameters.length) = some k
theorem rr_gcode {y : MethodName} {b : ByteArray} {n : Nat} {ret : Option FieldType} (h : Cond.code y b n ret ∈ rr_all) : GoodIn rr_all (.code y b n ret :: rr_all) := fun w hw => (List.mem_cons.mp hw).elim (fun e => by rw [e]; exact ⟨h, rr_of_good h⟩) (fun h2 => ⟨h2, rr_of_good h2⟩)
/-- a method that only reads: its cells ws, its arguments, what its answer is -/
def RO (l : Launch) (y : MethodName) (b : ByteArray) (n : Nat) (ret : Option FieldType) (fr lc : Nat) (D : va_G) (cs : rr_C3) (ws : va_W) (as : List Value) (post : Int32 → Prop) : Prop :=
  Met l y (.code y b n ret :: rr_all) { frames := fr, cells := 0, slots := 0, locals := lc } (va_Pc as (fun U => va_P D classes ws U.heap ∧ rr_K D cs U)) (vp_Si post) 0 0 (fun _ => False)
/-- a method that writes its cells ws (or makes cells): answers an int -/
def MI (l : Launch) (y : MethodName) (b : ByteArray) (n : Nat) (ret : Option FieldType) (fr lc mc ms : Nat) (D : va_G) (cs : rr_C3) (ws : va_W) (sz : Nat) (as : List Value) {S : Type} (post : Int32 → S → Prop) (B : S → va_W) : Prop :=
  Met l y (.code y b n ret :: rr_all) { frames := fr, cells := mc, slots := ms, locals := lc } (va_Pc as (fun U => U.heap.size = sz ∧ va_P D classes ws U.heap ∧ rr_K D cs U ∧ va_D (fun _ => True) ws)) (va_Qi post (fun u t => va_P D classes (B u) t.heap ∧ va_D (va_A ws sz) (B u)) (va_A ws sz)) mc ms (va_A ws sz)
/-- .. answers nothing -/
def MV (l : Launch) (y : MethodName) (b : ByteArray) (n : Nat) (fr lc mc ms : Nat) (D : va_G) (cs : rr_C3) (ws : va_W) (sz : Nat) (as : List Value) {S : Type} (post : S → Prop) (B : S → va_W) : Prop :=
  Met l y (.code y b n none :: rr_all) { frames := fr, cells := mc, slots := ms, locals := lc } (va_Pc as (fun U => U.heap.size = sz ∧ va_P D classes ws U.heap ∧ rr_K D cs U ∧ va_D (fun _ => True) ws)) (va_Qv post (fun u t => va_P D classes (B u) t.heap ∧ va_D (va_A ws sz) (B u)) (va_A ws sz)) mc ms (va_A ws sz)
section RR1
variable {l : Launch} {y : MethodName} {b : ByteArray} {n : Nat} {ret : Option FieldType} {fr lc mc ms : Nat} {D : va_G} {cs : rr_C3} {ws : va_W} {as : List Value} {sz : Nat}
theorem RO.of {post : Int32 → Prop} (hy : plainName y.cls = true) (hn : (lg_sl as).length ≤ n)
    (body : ∀ (p : Program) (e : Env) (s : State) (m : MethodId) (args : Array Value) (below : List Frame) (meth : Method) (c : Code), CallFix p m c b n s args rr_all y.cls → meth.sig.returnType = ret → meth.locks = false → rr_K D cs s → va_P D classes ws s.heap →
      ∀ ls : Array Slot, lv_has ls n (lv_args 0 as) → W p l e { frames := fr, cells := 0, slots := 0, locals := lc } s m args below meth c s.heap [] 0 0 (MQ below (vp_Si post) args s 0 0 (fun _ => False)) (F0 m 0 ls [])) : RO l y b n ret fr lc D cs ws as post := by
  refine Met.ofW (cc := b) (maxL := n) (ret := ret) hy rfl ?_
  intro p e s m args below meth c s₁ B hml hv
  obtain ⟨rfl, hP, hK⟩ := hv
  have hts := atoms_spec (ws := .code y b n ret :: rr_all) B.pre
  rw [lg_entry_eq]
  exact body p e s m _ below meth c ⟨B.exec, B.bytes, hml, findClass_of_methodNamed B.named, fun w h => hts w (List.mem_cons_of_mem _ h)⟩ B.returns B.notSynchronized hK hP _ (lv_entry as hn)
theorem RO.ofF {post : Int32 → Prop} (hy : plainFor y = true) (hn : (lg_sl as).length ≤ n)
    (body : ∀ (p : Program) (e : Env) (s : State) (m : MethodId) (args : Array Value) (below : List Frame) (meth : Method) (c : Code), CallFix p m c b n s args rr_all y.cls → meth.sig.returnType = ret → meth.locks = false → rr_K D cs s → va_P D classes ws s.heap →
      ∀ ls : Array Slot, lv_has ls n (lv_args 0 as) → W p l e { frames := fr, cells := 0, slots := 0, locals := lc } s m args below meth c s.heap [] 0 0 (MQ below (vp_Si post) args s 0 0 (fun _ => False)) (F0 m 0 ls [])) : RO l y b n ret fr lc D cs ws as post := by
  refine va_MetF (cc := b) (maxL := n) (ret := ret) hy rfl ?_
  intro p e s m args below meth c s₁ B hml hv
  obtain ⟨rfl, hP, hK⟩ := hv
  have hts := atoms_spec (ws := .code y b n ret :: rr_all) B.pre
  rw [lg_entry_eq]
  exact body p e s m _ below meth c ⟨B.exec, B.bytes, hml, findClass_of_methodNamed B.named, fun w h => hts w (List.mem_cons_of_mem _ h)⟩ B.returns B.notSynchronized hK hP _ (lv_entry as hn)
theorem MI.of {S : Type} {post : Int32 → S → Prop} {B : S → va_W} (hy : plainName y.cls = true) (hn : (lg_sl as).length ≤ n)
    (body : ∀ (p : Program) (e : Env) (s : State) (m : MethodId) (args : Array Value) (below : List Frame) (meth : Method) (c : Code) (A : Nat → Prop), CallFix p m c b n s args rr_all y.cls → meth.sig.returnType = ret → meth.locks = false → (meth.name = y.name) → rr_K D cs s → va_P D classes ws s.heap → va_D A ws → (∀ q : Nat, s.heap.size ≤ q → A q) → va_S A s.heap s.heap [] →
      ∀ ls : Array Slot, lv_has ls n (lv_args 0 as) → W p l e { frames := fr, cells := mc, slots := ms, locals := lc } s m args below meth c s.heap [] 0 0 (MQ below (va_Qi post (fun u t => va_P D classes (B u) t.heap ∧ va_D A (B u)) A) args s mc ms A) (F0 m 0 ls [])) : MI l y b n ret fr lc mc ms D cs ws sz as post B := by
  refine Met.ofW (cc := b) (maxL := n) (ret := ret) hy rfl ?_
  intro p e s m args below meth c s₁ Bd hml hv
  obtain ⟨rfl, rfl, hP, hK, hD0⟩ := hv
  have hts := atoms_spec (ws := .code y b n ret :: rr_all) Bd.pre
  rw [lg_entry_eq]
  exact body p e s m _ below meth c (va_A ws s.heap.size) ⟨Bd.exec, Bd.bytes, hml, findClass_of_methodNamed Bd.named, fun w h => hts w (List.mem_cons_of_mem _ h)⟩ Bd.returns Bd.notSynchronized (name_of_methodNamed Bd.named Bd.method).1 hK hP (hD0.self (sz := s.heap.size)) (fun q h => Or.inr h) va_S.rf _ (lv_entry as hn)
theorem MV.of {S : Type} {post : S → Prop} {B : S → va_W} (hy : plainName y.cls = true) (hn : (lg_sl as).length ≤ n)
    (body : ∀ (p : Program) (e : Env) (s : State) (m : MethodId) (args : Array Value) (below : List Frame) (meth : Method) (c : Code) (A : Nat → Prop), CallFix p m c b n s args rr_all y.cls → meth.sig.returnType = none → meth.locks = false → (meth.name = y.name) → rr_K D cs s → va_P D classes ws s.heap → va_D A ws → (∀ q : Nat, s.heap.size ≤ q → A q) → va_S A s.heap s.heap [] →
      ∀ ls : Array Slot, lv_has ls n (lv_args 0 as) → W p l e { frames := fr, cells := mc, slots := ms, locals := lc } s m args below meth c s.heap [] 0 0 (MQ below (va_Qv post (fun u t => va_P D classes (B u) t.heap ∧ va_D A (B u)) A) args s mc ms A) (F0 m 0 ls [])) : MV l y b n fr lc mc ms D cs ws sz as post B := by
  refine Met.ofW (cc := b) (maxL := n) (ret := none) hy rfl ?_
  intro p e s m args below meth c s₁ Bd hml hv
  obtain ⟨rfl, rfl, hP, hK, hD0⟩ := hv
  have hts := atoms_spec (ws := .code y b n none :: rr_all) Bd.pre
  rw [lg_entry_eq]
  exact body p e s m _ below meth c (va_A ws s.heap.size) ⟨Bd.exec, Bd.bytes, hml, findClass_of_methodNamed Bd.named, fun w h => hts w (List.mem_cons_of_mem _ h)⟩ Bd.returns Bd.notSynchronized (name_of_methodNamed Bd.named Bd.method).1 hK hP (hD0.self (sz := s.heap.size)) (fun q h => Or.inr h) va_S.rf _ (lv_entry as hn)
end RR1
section RR2
variable {p : Program} {l : Launch} {e : Env} {R : Room} {s : State} {m : MethodId} {args : Array Value} {below : List Frame} {meth : Method} {c : Code} {H : Heap} {locs : List Loc} {cells slots : Nat} {Q : State → Prop}
variable {pc : Nat} {ls : Array Slot} {rest st0 : List Value} {cc : ByteArray} {nL : Nat} {own : String} {D : va_G} {cs : rr_C3} {ws wc : va_W} {A : Nat → Prop} {H0 : Heap}
/-- the top of the stack by another name -/
theorem rr_top {x z : Int32} (h : x = z) (k : W p l e R s m args below meth c H locs cells slots Q (F0 m pc ls (.int z :: rest))) : W p l e R s m args below meth c H locs cells slots Q (F0 m pc ls (.int x :: rest)) := h ▸ k
theorem rr_iadd {a b : Nat} (hexec : p.tables.exec = Jvm.exec) (hb : c.code = cc) (hdg : decode cc pc = .ok (.iadd, 1)) (k : W p l e R s m args below meth c H locs cells slots Q (F0 m (pc + 1) ls (.int (nI (a + b)) :: rest))) : W p l e R s m args below meth c H locs cells slots Q (F0 m pc ls (.int (nI b) :: .int (nI a) :: rest)) := lv_iadd hexec hb hdg (rr_top (nI_add a b) k)
theorem rr_isub {a b : Nat} (h : b ≤ a) (hexec : p.tables.exec = Jvm.exec) (hb : c.code = cc) (hdg : decode cc pc = .ok (.isub, 1)) (k : W p l e R s m args below meth c H locs cells slots Q (F0 m (pc + 1) ls (.int (nI (a - b)) :: rest))) : W p l e R s m args below meth c H locs cells slots Q (F0 m pc ls (.int (nI b) :: .int (nI a) :: rest)) := lv_isub hexec hb hdg (rr_top (by
  rw [show nI a = nI (a - b) + nI b from by rw [nI_add, Nat.sub_add_cancel h]]
  exact Int32.add_sub_cancel _ _) k)
theorem rr_imul {a b : Nat} (hexec : p.tables.exec = Jvm.exec) (hb : c.code = cc) (hdg : decode cc pc = .ok (.imul, 1)) (k : W p l e R s m args below meth c H locs cells slots Q (F0 m (pc + 1) ls (.int (nI (a * b)) :: rest))) : W p l e R s m args below meth c H locs cells slots Q (F0 m pc ls (.int (nI b) :: .int (nI a) :: rest)) := lv_imul hexec hb hdg (rr_top (pk_mul a b) k)
theorem rr_idiv {a b : Nat} (ha : a < 2 ^ 31) (h0 : 0 < b) (hb2 : b < 2 ^ 31) (hexec : p.tables.exec = Jvm.exec) (hb : c.code = cc) (hdg : decode cc pc = .ok (.idiv, 1)) (k : W p l e R s m args below meth c H locs cells slots Q (F0 m (pc + 1) ls (.int (nI (a / b)) :: rest))) : W p l e R s m args below meth c H locs cells slots Q (F0 m pc ls (.int (nI b) :: .int (nI a) :: rest)) := lv_idiv hexec hb hdg (nI_ne0 h0 hb2) (rr_top (pk_div ha h0 hb2) k)
theorem rr_irem {a b : Nat} (ha : a < 2 ^ 31) (h0 : 0 < b) (hb2 : b < 2 ^ 31) (hexec : p.tables.exec = Jvm.exec) (hb : c.code = cc) (hdg : decode cc pc = .ok (.irem, 1)) (k : W p l e R s m args below meth c H locs cells slots Q (F0 m (pc + 1) ls (.int (nI (a % b)) :: rest))) : W p l e R s m args below meth c H locs cells slots Q (F0 m pc ls (.int (nI b) :: .int (nI a) :: rest)) := lv_irem hexec hb hdg (nI_ne0 h0 hb2) (rr_top (pk_rem ha h0 hb2) k)
theorem rr_icmp_eq {a b : Nat} {off : Int} {tgt : Nat} (ha : a < 2 ^ 31) (hb2 : b < 2 ^ 31) (hexec : p.tables.exec = Jvm.exec) (hb : c.code = cc) (hdg : decode cc pc = .ok (.if_icmp .eq off, 3)) (ht : (pc : Int) + off = (tgt : Int)) (kt : a = b → W p l e R s m args below meth c H locs cells slots Q (F0 m tgt ls rest)) (kf : ¬ a = b → W p l e R s m args below meth c H locs cells slots Q (F0 m (pc + 3) ls rest)) : W p l e R s m args below meth c H locs cells slots Q (F0 m pc ls (.int (nI b) :: .int (nI a) :: rest)) := lv_icmp_eq hexec hb hdg ht (fun h => kt ((nI_eq ha hb2).mp h)) (fun h => kf (fun g => h ((nI_eq ha hb2).mpr g)))
theorem rr_icmp_ne {a b : Nat} {off : Int} {tgt : Nat} (ha : a < 2 ^ 31) (hb2 : b < 2 ^ 31) (hexec : p.tables.exec = Jvm.exec) (hb : c.code = cc) (hdg : decode cc pc = .ok (.if_icmp .ne off, 3)) (ht : (pc : Int) + off = (tgt : Int)) (kt : ¬ a = b → W p l e R s m args below meth c H locs cells slots Q (F0 m tgt ls rest)) (kf : a = b → W p l e R s m args below meth c H locs cells slots Q (F0 m (pc + 3) ls rest)) : W p l e R s m args below meth c H locs cells slots Q (F0 m pc ls (.int (nI b) :: .int (nI a) :: rest)) := lv_icmp_ne hexec hb hdg ht (fun h => kt (fun g => h ((nI_eq ha hb2).mpr g))) (fun h => kf ((nI_eq ha hb2).mp h))
theorem rr_icmp_lt {a b : Nat} {off : Int} {tgt : Nat} (ha : a < 2 ^ 31) (hb2 : b < 2 ^ 31) (hexec : p.tables.exec = Jvm.exec) (hb : c.code = cc) (hdg : decode cc pc = .ok (.if_icmp .lt off, 3)) (ht : (pc : Int) + off = (tgt : Int)) (kt : a < b → W p l e R s m args below meth c H locs cells slots Q (F0 m tgt ls rest)) (kf : b ≤ a → W p l e R s m args below meth c H locs cells slots Q (F0 m (pc + 3) ls rest)) : W p l e R s m args below meth c H locs cells slots Q (F0 m pc ls (.int (nI b) :: .int (nI a) :: rest)) := lv_icmp_lt hexec hb hdg ht (fun h => kt ((nI_ltI ha hb2).mp h)) (fun h => kf (Nat.not_lt.mp fun g => h ((nI_ltI ha hb2).mpr g)))
theorem rr_icmp_ge {a b : Nat} {off : Int} {tgt : Nat} (ha : a < 2 ^ 31) (hb2 : b < 2 ^ 31) (hexec : p.tables.exec = Jvm.exec) (hb : c.code = cc) (hdg : decode cc pc = .ok (.if_icmp .ge off, 3)) (ht : (pc : Int) + off = (tgt : Int)) (kt : b ≤ a → W p l e R s m args below meth c H locs cells slots Q (F0 m tgt ls rest)) (kf : a < b → W p l e R s m args below meth c H locs cells slots Q (F0 m (pc + 3) ls rest)) : W p l e R s m args below meth c H locs cells slots Q (F0 m pc ls (.int (nI b) :: .int (nI a) :: rest)) := lv_icmp_ge hexec hb hdg ht (fun h => kt ((nI_leI hb2 ha).mp h)) (fun h => kf (Nat.not_le.mp fun g => h ((nI_leI hb2 ha).mpr g)))
theorem rr_icmp_gt {a b : Nat} {off : Int} {tgt : Nat} (ha : a < 2 ^ 31) (hb2 : b < 2 ^ 31) (hexec : p.tables.exec = Jvm.exec) (hb : c.code = cc) (hdg : decode cc pc = .ok (.if_icmp .gt off, 3)) (ht : (pc : Int) + off = (tgt : Int)) (kt : b < a → W p l e R s m args below meth c H locs cells slots Q (F0 m tgt ls rest)) (kf : a ≤ b → W p l e R s m args below meth c H locs cells slots Q (F0 m (pc + 3) ls rest)) : W p l e R s m args below meth c H locs cells slots Q (F0 m pc ls (.int (nI b) :: .int (nI a) :: rest)) := lv_icmp_gt hexec hb hdg ht (fun h => kt ((nI_ltI hb2 ha).mp h)) (fun h => kf (Nat.not_lt.mp fun g => h ((nI_ltI hb2 ha).mpr g)))
theorem rr_icmp_le {a b : Nat} {off : Int} {tgt : Nat} (ha : a < 2 ^ 31) (hb2 : b < 2 ^ 31) (hexec : p.tables.exec = Jvm.exec) (hb : c.code = cc) (hdg : decode cc pc = .ok (.if_icmp .le off, 3)) (ht : (pc : Int) + off = (tgt : Int)) (kt : a ≤ b → W p l e R s m args below meth c H locs cells slots Q (F0 m tgt ls rest)) (kf : b < a → W p l e R s m args below meth c H locs cells slots Q (F0 m (pc + 3) ls rest)) : W p l e R s m args below meth c H locs cells slots Q (F0 m pc ls (.int (nI b) :: .int (nI a) :: rest)) := lv_icmp_le hexec hb hdg ht (fun h => kt ((nI_leI ha hb2).mp h)) (fun h => kf (Nat.not_le.mp fun g => h ((nI_leI ha hb2).mpr g)))
theorem rr_if_eq {a : Nat} {off : Int} {tgt : Nat} (ha : a < 2 ^ 31) (hexec : p.tables.exec = Jvm.exec) (hb : c.code = cc) (hdg : decode cc pc = .ok (.ifCond .eq off, 3)) (ht : (pc : Int) + off = (tgt : Int)) (kt : a = 0 → W p l e R s m args below meth c H locs cells slots Q (F0 m tgt ls rest)) (kf : ¬ a = 0 → W p l e R s m args below meth c H locs cells slots Q (F0 m (pc + 3) ls rest)) : W p l e R s m args below meth c H locs cells slots Q (F0 m pc ls (.int (nI a) :: rest)) := lv_if_eq hexec hb hdg ht (fun h => kt ((nI_eq ha (by decide)).mp (h.trans nI_0.symm))) (fun h => kf (fun g => h (by rw [g]; exact nI_0)))
theorem rr_if_ne {a : Nat} {off : Int} {tgt : Nat} (ha : a < 2 ^ 31) (hexec : p.tables.exec = Jvm.exec) (hb : c.code = cc) (hdg : decode cc pc = .ok (.ifCond .ne off, 3)) (ht : (pc : Int) + off = (tgt : Int)) (kt : ¬ a = 0 → W p l e R s m args below meth c H locs cells slots Q (F0 m tgt ls rest)) (kf : a = 0 → W p l e R s m args below meth c H locs cells slots Q (F0 m (pc + 3) ls rest)) : W p l e R s m args below meth c H locs cells slots Q (F0 m pc ls (.int (nI a) :: rest)) := lv_if_ne hexec hb hdg ht (fun h => kt (fun g => h (by rw [g]; exact nI_0))) (fun h => kf ((nI_eq ha (by decide)).mp (h.trans nI_0.symm)))
theorem rr_if_gt {a : Nat} {off : Int} {tgt : Nat} (ha : a < 2 ^ 31) (hexec : p.tables.exec = Jvm.exec) (hb : c.code = cc) (hdg : decode cc pc = .ok (.ifCond .gt off, 3)) (ht : (pc : Int) + off = (tgt : Int)) (kt : 0 < a → W p l e R s m args below meth c H locs cells slots Q (F0 m tgt ls rest)) (kf : a = 0 → W p l e R s m args below meth c H locs cells slots Q (F0 m (pc + 3) ls rest)) : W p l e R s m args below meth c H locs cells slots Q (F0 m pc ls (.int (nI a) :: rest)) := lv_if_gt hexec hb hdg ht (fun h => kt (Nat.pos_of_ne_zero fun g => by rw [g, nI_0] at h; exact absurd h (by decide))) (fun h => kf (by
  rcases Nat.eq_zero_or_pos a with g | g
  · exact g
  · exact absurd ((nI_ltI (a := 0) (by decide) ha).mpr g) (by rw [nI_0]; exact h)))
theorem rr_if_le {a : Nat} {off : Int} {tgt : Nat} (ha : a < 2 ^ 31) (hexec : p.tables.exec = Jvm.exec) (hb : c.code = cc) (hdg : decode cc pc = .ok (.ifCond .le off, 3)) (ht : (pc : Int) + off = (tgt : Int)) (kt : a = 0 → W p l e R s m args below meth c H locs cells slots Q (F0 m tgt ls rest)) (kf : 0 < a → W p l e R s m args below meth c H locs cells slots Q (F0 m (pc + 3) ls rest)) : W p l e R s m args below meth c H locs cells slots Q (F0 m pc ls (.int (nI a) :: rest)) := lv_if_le hexec hb hdg ht (fun h => kt (by
  rcases Nat.eq_zero_or_pos a with g | g
  · exact g
  · exact absurd h (by rw [← nI_0]; exact nI_ge g ha))) (fun h => kf (Nat.pos_of_ne_zero fun g => h (by rw [g, nI_0]; decide)))
theorem rr_iald {a q0 n : Nat} {f : Nat → Int32} {k : Nat} (hexec : p.tables.exec = Jvm.exec) (hb : c.code = cc) (hK : rr_K D cs s) (hP : va_P D classes ws H) (ha : ws[q0]? = some (a, .inl (cs.1, n, .inl f))) (hk : k < n) (hn : n < 2 ^ 31) (hdg : decode cc pc = .ok (.iaload, 1)) (kk : W p l e R s m args below meth c H locs cells slots Q (F0 m (pc + 1) ls (.int (f k) :: rest))) : W p l e R s m args below meth c H locs cells slots Q (F0 m pc ls (.int (nI k) :: .ref a :: rest)) := va_iald hexec hb hK.1 hP q0 0 ha rfl (vp_in_nI hk hn) hdg (by rw [nI_clamp (Nat.lt_trans hk hn)]; exact kk)
theorem rr_zald {a q0 n : Nat} {f : Nat → Int32} {k : Nat} (hexec : p.tables.exec = Jvm.exec) (hb : c.code = cc) (hK : rr_K D cs s) (hP : va_P D classes ws H) (ha : ws[q0]? = some (a, .inl (cs.2.1, n, .inl f))) (hk : k < n) (hn : n < 2 ^ 31) (hdg : decode cc pc = .ok (.baload, 1)) (kk : W p l e R s m args below meth c H locs cells slots Q (F0 m (pc + 1) ls (.int (f k) :: rest))) : W p l e R s m args below meth c H locs cells slots Q (F0 m pc ls (.int (nI k) :: .ref a :: rest)) := va_zald hexec hb hK.1 hP q0 1 ha rfl (vp_in_nI hk hn) hdg (by rw [nI_clamp (Nat.lt_trans hk hn)]; exact kk)
theorem rr_upd (f : Nat → Int32) (g : Nat → Nat) (E : Nat → Int32) (k v : Nat) (h : ∀ j, f j = E (g j)) : upd f k (E v) = fun j => E (va_up g k v j) := by
  funext j
  by_cases e : j = k
  · subst e; rw [pk_us]; simp [va_up]
  · rw [pk_un e, h]; simp [va_up, e]
/-- a store into an int row whose contents are E of numbers -/
theorem rr_iast {a q0 n : Nat} (E : Nat → Int32) (g : Nat → Nat) {k v : Nat} (hexec : p.tables.exec = Jvm.exec) (hb : c.code = cc) (hK : rr_K D cs s) (hP : va_P D classes ws H) (hD : va_D A ws) (hS : va_S A H0 H locs) (ha : ws[q0]? = some (a, .inl (cs.1, n, .inl (fun j => E (g j))))) (hk : k < n) (hn : n < 2 ^ 31) (hdg : decode cc pc = .ok (.iastore, 1))
    (kk : ∀ (H1 : Heap) (locs1 : List Loc), va_P D classes (ws.set q0 (a, .inl (cs.1, n, .inl (fun j => E (va_up g k v j))))) H1 → va_D A (ws.set q0 (a, .inl (cs.1, n, .inl (fun j => E (va_up g k v j))))) → va_S A H0 H1 locs1 → W p l e R s m args below meth c H1 locs1 cells slots Q (F0 m (pc + 1) ls rest)) : W p l e R s m args below meth c H locs cells slots Q (F0 m pc ls (.int (E v) :: .int (nI k) :: .ref a :: rest)) := by
  refine va_iast hexec hb hK.1 hP hD hS q0 0 ha rfl (vp_in_nI hk hn) hdg ?_
  rw [nI_clamp (Nat.lt_trans hk hn), rr_upd _ g E k v (fun _ => rfl)]
  exact kk
theorem rr_zast {a q0 n : Nat} (g : Nat → Nat) {k v : Nat} (hv : v ≤ 1) (hexec : p.tables.exec = Jvm.exec) (hb : c.code = cc) (hK : rr_K D cs s) (hP : va_P D classes ws H) (hD : va_D A ws) (hS : va_S A H0 H locs) (ha : ws[q0]? = some (a, .inl (cs.2.1, n, .inl (fun j => nI (g j))))) (hk : k < n) (hn : n < 2 ^ 31) (hdg : decode cc pc = .ok (.bastore, 1))
    (kk : ∀ (H1 : Heap) (locs1 : List Loc), va_P D classes (ws.set q0 (a, .inl (cs.2.1, n, .inl (fun j => nI (va_up g k v j))))) H1 → va_D A (ws.set q0 (a, .inl (cs.2.1, n, .inl (fun j => nI (va_up g k v j))))) → va_S A H0 H1 locs1 → W p l e R s m args below meth c H1 locs1 cells slots Q (F0 m (pc + 1) ls rest)) : W p l e R s m args below meth c H locs cells slots Q (F0 m pc ls (.int (nI v) :: .int (nI k) :: .ref a :: rest)) := by
  refine va_zast hexec hb hK.1 hP hD hS q0 1 ha rfl (vp_in_nI hk hn) hdg ?_
  rw [nI_clamp (Nat.lt_trans hk hn), show vp_nar .boolean (nI v) = nI v from by rcases (show v = 0 ∨ v = 1 by omega) with rfl | rfl <;> decide, rr_upd _ g nI k v (fun _ => rfl)]
  exact kk
/-- behind a call that only reads -/
theorem rr_csi {post : Int32 → Prop} {a : Array Value} (run : va_Run p l e R s m args below meth c H locs cells slots 0 0 (F0 m pc ls st0) rest (vp_Si post a) (fun _ => False))
    (kk : ∀ r : Int32, post r → W p l e R s m args below meth c H locs cells slots Q (F0 m (pc + 3) ls (.int r :: rest))) : W p l e R s m args below meth c H locs cells slots Q (F0 m pc ls st0) := by
  intro T hT X
  obtain ⟨v, st₀, t, T', L, h0, X', hL, e1, e2, ⟨r, hv, hp, hh⟩, st⟩ := run T hT X
  cases hv
  obtain ⟨t2, a1, b1⟩ := kk r hp T' (by rw [e1, hh, h0]) (Stand.forget X' (fun q h => (hL q h).elim))
  exact ⟨t2, st t2 a1, b1⟩
theorem rr_blindR {as : List Value} : FrameBlind (va_Pc as (fun U => va_P D classes wc U.heap ∧ rr_K D cs U)) := fun _ _ _ _ h => ⟨h.1, h.2.1, h.2.2.calling⟩
/-- a call of an instance method that only reads: the callee's cells are the places 'is' of the caller's -/
theorem rr_rV {y : MethodName} {b : ByteArray} {n fr lc idx q0 ci o : Nat} {ret : Option FieldType} {As : List Value} {post : Int32 → Prop} {q : vw_C} {fs : List Value} {lv : List (Nat × Value)} (S : CallFix p m c cc nL s args rr_all own) (hK : rr_K D cs s) (hP : va_P D classes ws H) (hM : RO l y b n ret fr lc D cs wc (.ref o :: As) post) (K : rr_CK y b n ret As.length) (is : List Nat) (hs : is.filterMap (fun i => ws[i]?) = wc) (he : ws[q0]? = some (o, .inr (ci, fs))) (hc : classes[ci]? = some q) (hq : q.1 = y.cls)
    (hlink : Cond.methodLink own idx y ∈ rr_all) (hR : fr + 1 ≤ R.frames ∧ 8 + (n + 11) + lc ≤ R.locals) (hf : cells ≤ R.cells ∧ slots ≤ R.slots) (hl : lv_has ls nL lv) (hst : (rest.map fun v => v.category).sum ≤ 8) (h0 : st0 = As.reverse ++ .ref o :: rest) (hdg : decode cc pc = .ok (.invokevirtual idx, 3))
    (kk : ∀ r : Int32, post r → W p l e R s m args below meth c H locs cells slots Q (F0 m (pc + 3) ls (.int r :: rest))) : W p l e R s m args below meth c H locs cells slots Q (F0 m pc ls st0) := by
  obtain ⟨k1, k2, k3, k4, k5, k6, k7⟩ := K
  have ht := S.2.2.2.2
  have hPc := hP.sub is hs
  exact rr_csi (va_runV (C := y.cls) (As := As) (rest := rest) S hM ⟨callB_of As.length ht (rr_gcode k4) rfl rfl rfl (ht _ k3) (ht _ hlink) ⟨k5, k6, k7⟩ hR, ht _ k1, ht _ k2⟩ ⟨rr_blindR, by rw [← hq]; exact va_recv hK.1 hP hc he, fun U hU hW => ⟨rfl, by rw [hU]; exact hPc, hK.warm hW⟩⟩ rfl rfl hl.1 h0 (lv_room hst) hdg hf) kk
/-- .. of a static method -/
theorem rr_rS {y : MethodName} {b : ByteArray} {n fr lc idx : Nat} {ret : Option FieldType} {As : List Value} {post : Int32 → Prop} {lv : List (Nat × Value)} (S : CallFix p m c cc nL s args rr_all own) (hK : rr_K D cs s) (hM : RO l y b n ret fr lc D cs [] As post) (K : rr_CS y b n ret As.length)
    (hlink : Cond.methodLink own idx y ∈ rr_all) (hR : fr + 1 ≤ R.frames ∧ 8 + (n + 11) + lc ≤ R.locals) (hf : cells ≤ R.cells ∧ slots ≤ R.slots) (hl : lv_has ls nL lv) (hst : (rest.map fun v => v.category).sum ≤ 8) (h0 : st0 = As.reverse ++ rest) (hdg : decode cc pc = .ok (.invokestatic idx, 3))
    (kk : ∀ r : Int32, post r → W p l e R s m args below meth c H locs cells slots Q (F0 m (pc + 3) ls (.int r :: rest))) : W p l e R s m args below meth c H locs cells slots Q (F0 m pc ls st0) := by
  obtain ⟨k1, k3, k4, k5, k6, k7⟩ := K
  have ht := S.2.2.2.2
  exact rr_csi (va_runS (As := As) (rest := rest) S hM ⟨callB_of As.length ht (rr_gcode k4) rfl rfl rfl (ht _ k3) (ht _ hlink) ⟨k5, k6, k7⟩ hR, ht _ k1⟩ ⟨rr_blindR, fun U hU hW => ⟨rfl, (fun k q h => by simp at h), hK.warm hW⟩⟩ rfl rfl hl.1 h0 (lv_room hst) hdg hf) kk
/-- .. of a private static method of a nest mate -/
theorem rr_rSN {y : MethodName} {b : ByteArray} {n fr lc idx : Nat} {host : String} {ret : Option FieldType} {As : List Value} {post : Int32 → Prop} {lv : List (Nat × Value)} (S : CallFix p m c cc nL s args rr_all own) (hK : rr_K D cs s) (hM : RO l y b n ret fr lc D cs [] As post) (K : rr_CS y b n ret As.length)
    (hlink : (own, idx, y, host) ∈ rr_nl) (hR : fr + 1 ≤ R.frames ∧ 8 + (n + 11) + lc ≤ R.locals) (hf : cells ≤ R.cells ∧ slots ≤ R.slots) (hl : lv_has ls nL lv) (hst : (rest.map fun v => v.category).sum ≤ 8) (h0 : st0 = As.reverse ++ rest) (hdg : decode cc pc = .ok (.invokestatic idx, 3))
    (kk : ∀ r : Int32, post r → W p l e R s m args below meth c H locs cells slots Q (F0 m (pc + 3) ls (.int r :: rest))) : W p l e R s m args below meth c H locs cells slots Q (F0 m pc ls st0) := by
  obtain ⟨k1, k3, k4, k5, k6, k7⟩ := K
  have ht := S.2.2.2.2
  exact rr_csi (va_runSN (As := As) (rest := rest) S hM ⟨va_cnB As.length ht (rr_gcode k4) rfl rfl rfl (hK.2 _ hlink) (ht _ k3) ⟨k5, k6, k7⟩ hR, ht _ k1, trivial⟩ ⟨rr_blindR, fun U hU hW => ⟨rfl, (fun k q h => by simp at h), hK.warm hW⟩⟩ rfl rfl hl.1 h0 (lv_room hst) hdg hf) kk
theorem rr_blindM {as : List Value} {sz : Nat} : FrameBlind (va_Pc as (fun U => U.heap.size = sz ∧ va_P D classes wc U.heap ∧ rr_K D cs U ∧ va_D (fun _ => True) wc)) := fun _ _ _ _ h => ⟨h.1, h.2.1, h.2.2.1, h.2.2.2.1.calling, h.2.2.2.2⟩
/-- a call of an instance method that writes: the callee's cells are the places isC of the caller's, the places isR stay; 'back' lays the caller's world anew -/
theorem rr_mVi {y : MethodName} {b : ByteArray} {n fr lc mc ms idx q0 ci o : Nat} {ret : Option FieldType} {As : List Value} {S9 : Type} {post : Int32 → S9 → Prop} {B : S9 → va_W} {q : vw_C} {fs : List Value} {lv : List (Nat × Value)} {wr : va_W} (S : CallFix p m c cc nL s args rr_all own) (hK : rr_K D cs s) (hP : va_P D classes ws H) (hD : va_D A ws) (hS : va_S A H0 H locs) (hA : ∀ q : Nat, H0.size ≤ q → A q) (hM : MI l y b n ret fr lc mc ms D cs wc H.size (.ref o :: As) post B) (K : rr_CK y b n ret As.length) (isC isR : List Nat) (hC : isC.map (fun i => ws[i]?) = wc.map some) (hnd : va_nd isC = true) (hRr : isR.map (fun i => ws[i]?) = wr.map some) (hn : va_nd isR = true) (hdis : ∀ i ∈ isR, i ∉ isC) (he : ws[q0]? = some (o, .inr (ci, fs))) (hc : classes[ci]? = some q) (hq : q.1 = y.cls)
    (hlink : Cond.methodLink own idx y ∈ rr_all) (hR : fr + 1 ≤ R.frames ∧ 8 + (n + 11) + lc ≤ R.locals) (hf : cells + mc ≤ R.cells ∧ slots + ms ≤ R.slots) (hl : lv_has ls nL lv) (hst : (rest.map fun v => v.category).sum ≤ 8) (h0 : st0 = As.reverse ++ .ref o :: rest) (hdg : decode cc pc = .ok (.invokevirtual idx, 3))
    (kk : ∀ (r : Int32) (u : S9) (H1 : Heap) (locs1 : List Loc), post r u → va_P D classes (wr ++ B u) H1 → va_D A (wr ++ B u) → va_S A H0 H1 locs1 → W p l e R s m args below meth c H1 locs1 (cells + mc) (slots + ms) Q (F0 m (pc + 3) ls (.int r :: rest))) : W p l e R s m args below meth c H locs cells slots Q (F0 m pc ls st0) := by
  obtain ⟨k1, k2, k3, k4, k5, k6, k7⟩ := K
  have ht := S.2.2.2.2
  have hPc : va_P D classes wc H := fun k q hk => by
    have h1 : (isC.map (fun i => ws[i]?))[k]? = some (some q) := by rw [hC, List.getElem?_map, hk]; rfl
    rw [List.getElem?_map] at h1
    cases hi : isC[k]? with
    | none => rw [hi] at h1; cases h1
    | some i => rw [hi] at h1; exact hP i q (Option.some.inj h1)
  have hDc : va_D (fun _ => True) wc := (hD.sub isC hnd hC).weaken (fun _ _ _ _ => trivial)
  have hFc := va_free (wc := wc) hD hS hA isC hC
  refine va_calli (va_runV (C := y.cls) (As := As) (rest := rest) S hM ⟨callB_of As.length ht (rr_gcode k4) rfl rfl rfl (ht _ k3) (ht _ hlink) ⟨k5, k6, k7⟩ hR, ht _ k1, ht _ k2⟩ ⟨rr_blindM, by rw [← hq]; exact va_recv hK.1 hP hc he, fun U hU hW => ⟨rfl, by rw [hU], by rw [hU]; exact hPc, hK.warm hW, hDc⟩⟩ rfl rfl hl.1 h0 (lv_room hst) hdg hf) hS (fun q _ h => hFc q h) hFc ?_
  intro r u t H1 locs1 ht1 hvm hp hB hz hk hS1
  obtain ⟨hP1, hD1⟩ := hB
  rw [ht1] at hP1
  obtain ⟨g1, g2⟩ := va_join (wr := wr) (w1 := B u) hP hD isC isR hC hRr hn hdis hk hFc hP1 hD1
  exact kk r u H1 locs1 hp g1 g2 hS1
theorem rr_mVv {y : MethodName} {b : ByteArray} {n fr lc mc ms idx q0 ci o : Nat} {As : List Value} {S9 : Type} {post : S9 → Prop} {B : S9 → va_W} {q : vw_C} {fs : List Value} {lv : List (Nat × Value)} {wr : va_W} (S : CallFix p m c cc nL s args rr_all own) (hK : rr_K D cs s) (hP : va_P D classes ws H) (hD : va_D A ws) (hS : va_S A H0 H locs) (hA : ∀ q : Nat, H0.size ≤ q → A q) (hM : MV l y b n fr lc mc ms D cs wc H.size (.ref o :: As) post B) (K : rr_CK y b n none As.length) (isC isR : List Nat) (hC : isC.map (fun i => ws[i]?) = wc.map some) (hnd : va_nd isC = true) (hRr : isR.map (fun i => ws[i]?) = wr.map some) (hn : va_nd isR = true) (hdis : ∀ i ∈ isR, i ∉ isC) (he : ws[q0]? = some (o, .inr (ci, fs))) (hc : classes[ci]? = some q) (hq : q.1 = y.cls)
    (hlink : Cond.methodLink own idx y ∈ rr_all) (hR : fr + 1 ≤ R.frames ∧ 8 + (n + 11) + lc ≤ R.locals) (hf : cells + mc ≤ R.cells ∧ slots + ms ≤ R.slots) (hl : lv_has ls nL lv) (hst : (rest.map fun v => v.category).sum ≤ 8) (h0 : st0 = As.reverse ++ .ref o :: rest) (hdg : decode cc pc = .ok (.invokevirtual idx, 3))
    (kk : ∀ (u : S9) (H1 : Heap) (locs1 : List Loc), post u → va_P D classes (wr ++ B u) H1 → va_D A (wr ++ B u) → va_S A H0 H1 locs1 → W p l e R s m args below meth c H1 locs1 (cells + mc) (slots + ms) Q (F0 m (pc + 3) ls rest)) : W p l e R s m args below meth c H locs cells slots Q (F0 m pc ls st0) := by
  obtain ⟨k1, k2, k3, k4, k5, k6, k7⟩ := K
  have ht := S.2.2.2.2
  have hPc : va_P D classes wc H := fun k q hk => by
    have h1 : (isC.map (fun i => ws[i]?))[k]? = some (some q) := by rw [hC, List.getElem?_map, hk]; rfl
    rw [List.getElem?_map] at h1
    cases hi : isC[k]? with
    | none => rw [hi] at h1; cases h1
    | some i => rw [hi] at h1; exact hP i q (Option.some.inj h1)
  have hDc : va_D (fun _ => True) wc := (hD.sub isC hnd hC).weaken (fun _ _ _ _ => trivial)
  have hFc := va_free (wc := wc) hD hS hA isC hC
  refine va_callv (va_runV (C := y.cls) (As := As) (rest := rest) S hM ⟨callB_of As.length ht (rr_gcode k4) rfl rfl rfl (ht _ k3) (ht _ hlink) ⟨k5, k6, k7⟩ hR, ht _ k1, ht _ k2⟩ ⟨rr_blindM, by rw [← hq]; exact va_recv hK.1 hP hc he, fun U hU hW => ⟨rfl, by rw [hU], by rw [hU]; exact hPc, hK.warm hW, hDc⟩⟩ rfl rfl hl.1 h0 (lv_room hst) hdg hf) hS (fun q _ h => hFc q h) hFc ?_
  intro u t H1 locs1 ht1 hvm hp hB hz hk hS1
  obtain ⟨hP1, hD1⟩ := hB
  rw [ht1] at hP1
  obtain ⟨g1, g2⟩ := va_join (wr := wr) (w1 := B u) hP hD isC isR hC hRr hn hdis hk hFc hP1 hD1
  exact kk u H1 locs1 hp g1 g2 hS1
/-- ends -/
theorem rr_ret {post : Int32 → Prop} {v : Int32} (hexec : p.tables.exec = Jvm.exec) (hb : c.code = cc) (hr : meth.sig.returnType = some .int) (hlk : meth.locks = false) (hp : post v) (hdg : decode cc pc = .ok (.ireturn, 1)) : W p l e R s m args below meth c s.heap [] 0 0 (MQ below (vp_Si post) args s 0 0 (fun _ => False)) (F0 m pc ls [.int v]) := W.iret hexec hb hr (fun t ht _ => ⟨v, rfl, hp, ht⟩) (fun _ h => nomatch h) hdg hlk
theorem rr_retZ {post : Int32 → Prop} {v : Nat} (hv : v ≤ 1) (hexec : p.tables.exec = Jvm.exec) (hb : c.code = cc) (hr : meth.sig.returnType = some .boolean) (hlk : meth.locks = false) (hp : post (nI v)) (hdg : decode cc pc = .ok (.ireturn, 1)) : W p l e R s m args below meth c s.heap [] 0 0 (MQ below (vp_Si post) args s 0 0 (fun _ => False)) (F0 m pc ls [.int (nI v)]) := W.zret hexec hb hr (by rcases (show v = 0 ∨ v = 1 by omega) with rfl | rfl <;> decide) (fun t ht _ => ⟨nI v, rfl, hp, ht⟩) (fun _ h => nomatch h) hdg hlk
theorem rr_mret {S9 : Type} {post : Int32 → S9 → Prop} {B : S9 → va_W} {v : Int32} (u : S9) (hexec : p.tables.exec = Jvm.exec) (hb : c.code = cc) (hr : meth.sig.returnType = some .int) (hlk : meth.locks = false) (hP : va_P D classes (B u) H) (hD : va_D A (B u)) (hS : va_S A s.heap H locs) (hp : post v u) (hdg : decode cc pc = .ok (.ireturn, 1)) : W p l e R s m args below meth c H locs cells slots (MQ below (va_Qi post (fun u t => va_P D classes (B u) t.heap ∧ va_D A (B u)) A) args s cells slots A) (F0 m pc ls [.int v]) := W.iret hexec hb hr (fun t ht _ => ⟨⟨v, u, rfl, hp, by rw [ht]; exact hP, hD⟩, hS.F ht⟩) hS.2.2 hdg hlk
theorem rr_mretZ {S9 : Type} {post : Int32 → S9 → Prop} {B : S9 → va_W} {v : Nat} (hv : v ≤ 1) (u : S9) (hexec : p.tables.exec = Jvm.exec) (hb : c.code = cc) (hr : meth.sig.returnType = some .boolean) (hlk : meth.locks = false) (hP : va_P D classes (B u) H) (hD : va_D A (B u)) (hS : va_S A s.heap H locs) (hp : post (nI v) u) (hdg : decode cc pc = .ok (.ireturn, 1)) : W p l e R s m args below meth c H locs cells slots (MQ below (va_Qi post (fun u t => va_P D classes (B u) t.heap ∧ va_D A (B u)) A) args s cells slots A) (F0 m pc ls [.int (nI v)]) := W.zret hexec hb hr (by rcases (show v = 0 ∨ v = 1 by omega) with rfl | rfl <;> decide) (fun t ht _ => ⟨⟨nI v, u, rfl, hp, by rw [ht]; exact hP, hD⟩, hS.F ht⟩) hS.2.2 hdg hlk
theorem rr_mvret {S9 : Type} {post : S9 → Prop} {B : S9 → va_W} (u : S9) (hexec : p.tables.exec = Jvm.exec) (hb : c.code = cc) (hr : meth.sig.returnType = none) (hlk : meth.locks = false) (hP : va_P D classes (B u) H) (hD : va_D A (B u)) (hS : va_S A s.heap H locs) (hp : post u) (hdg : decode cc pc = .ok (.return_, 1)) : W p l e R s m args below meth c H locs cells slots (MQ below (va_Qv post (fun u t => va_P D classes (B u) t.heap ∧ va_D A (B u)) A) args s cells slots A) (F0 m pc ls []) := W.vret hexec hb hr (fun t ht _ => ⟨⟨u, rfl, hp, by rw [ht]; exact hP, hD⟩, hS.F ht⟩) hS.2.2 hdg hlk
/-- a counting loop that only reads -/
theorem rr_loop {pc : Nat} (lv : Nat → List (Nat × Value)) (I : Nat → Prop) (i0' N' : Nat) (hi : i0' ≤ N') (h0 : I i0') (hl : lv_has ls nL (lv i0'))
    (step : ∀ (i : Nat) (ls : Array Slot), i ≤ N' → I i → lv_has ls nL (lv i) → (∀ ls' : Array Slot, i < N' → I (i + 1) → lv_has ls' nL (lv (i + 1)) → W p l e R s m args below meth c H locs cells slots Q (F0 m pc ls' [])) → W p l e R s m args below meth c H locs cells slots Q (F0 m pc ls [])) :
    W p l e R s m args below meth c H locs cells slots Q (F0 m pc ls []) := by
  have key : ∀ (d i : Nat) (ls : Array Slot), i + d = N' → I i → lv_has ls nL (lv i) → W p l e R s m args below meth c H locs cells slots Q (F0 m pc ls []) := by
    intro d
    induction d with
    | zero => exact fun i ls hd hI h => step i ls (by omega) hI h (fun ls' hlt => absurd hlt (by omega))
    | succ d ih => exact fun i ls hd hI h => step i ls (by omega) hI h (fun ls' _ hI' h' => ih (i + 1) ls' (by omega) hI' h')
  exact key (N' - i0') i0' ls (by omega) h0 hl
/-- .. that writes: its world at each turn -/
theorem rr_loopM {pc : Nat} (lv : Nat → List (Nat × Value)) (I : Nat → Prop) (wf : Nat → va_W) (i0' N' : Nat) (hi : i0' ≤ N') (h0 : I i0') (hl : lv_has ls nL (lv i0')) (hP : va_P D classes (wf i0') H) (hD : va_D A (wf i0')) (hS : va_S A H0 H locs)
    (step : ∀ (i : Nat) (ls : Array Slot) (H : Heap) (locs : List Loc), i ≤ N' → I i → lv_has ls nL (lv i) → va_P D classes (wf i) H → va_D A (wf i) → va_S A H0 H locs → (∀ (ls' : Array Slot) (H' : Heap) (locs' : List Loc), i < N' → I (i + 1) → lv_has ls' nL (lv (i + 1)) → va_P D classes (wf (i + 1)) H' → va_D A (wf (i + 1)) → va_S A H0 H' locs' → W p l e R s m args below meth c H' locs' cells slots Q (F0 m pc ls' [])) → W p l e R s m args below meth c H locs cells slots Q (F0 m pc ls [])) :
    W p l e R s m args below meth c H locs cells slots Q (F0 m pc ls []) := by
  have key : ∀ (d i : Nat) (ls : Array Slot) (H : Heap) (locs : List Loc), i + d = N' → I i → lv_has ls nL (lv i) → va_P D classes (wf i) H → va_D A (wf i) → va_S A H0 H locs → W p l e R s m args below meth c H locs cells slots Q (F0 m pc ls []) := by
    intro d
    induction d with
    | zero => exact fun i ls H locs hd hI h g1 g2 g3 => step i ls H locs (by omega) hI h g1 g2 g3 (fun ls' H' locs' hlt => absurd hlt (by omega))
    | succ d ih => exact fun i ls H locs hd hI h g1 g2 g3 => step i ls H locs (by omega) hI h g1 g2 g3 (fun ls' H' locs' _ hI' h' f1 f2 f3 => ih (i + 1) ls' H' locs' (by omega) hI' h' f1 f2 f3)
  exact key (N' - i0') i0' ls H locs (by omega) h0 hl hP hD hS
/-- .. with a state of its own at each turn -/
theorem rr_loopS {pc : Nat} {T9 : Type} (lv : Nat → T9 → List (Nat × Value)) (I : Nat → T9 → Prop) (wf : Nat → T9 → va_W) (i0' N' : Nat) (t0 : T9) (hi : i0' ≤ N') (h0 : I i0' t0) (hl : lv_has ls nL (lv i0' t0)) (hP : va_P D classes (wf i0' t0) H) (hD : va_D A (wf i0' t0)) (hS : va_S A H0 H locs)
    (step : ∀ (i : Nat) (t : T9) (ls : Array Slot) (H : Heap) (locs : List Loc), i ≤ N' → I i t → lv_has ls nL (lv i t) → va_P D classes (wf i t) H → va_D A (wf i t) → va_S A H0 H locs → (∀ (t' : T9) (ls' : Array Slot) (H' : Heap) (locs' : List Loc), i < N' → I (i + 1) t' → lv_has ls' nL (lv (i + 1) t') → va_P D classes (wf (i + 1) t') H' → va_D A (wf (i + 1) t') → va_S A H0 H' locs' → W p l e R s m args below meth c H' locs' cells slots Q (F0 m pc ls' [])) → W p l e R s m args below meth c H locs cells slots Q (F0 m pc ls [])) :
    W p l e R s m args below meth c H locs cells slots Q (F0 m pc ls []) := by
  have key : ∀ (d i : Nat) (t : T9) (ls : Array Slot) (H : Heap) (locs : List Loc), i + d = N' → I i t → lv_has ls nL (lv i t) → va_P D classes (wf i t) H → va_D A (wf i t) → va_S A H0 H locs → W p l e R s m args below meth c H locs cells slots Q (F0 m pc ls []) := by
    intro d
    induction d with
    | zero => exact fun i t ls H locs hd hI h g1 g2 g3 => step i t ls H locs (by omega) hI h g1 g2 g3 (fun t' ls' H' locs' hlt => absurd hlt (by omega))
    | succ d ih => exact fun i t ls H locs hd hI h g1 g2 g3 => step i t ls H locs (by omega) hI h g1 g2 g3 (fun t' ls' H' locs' _ hI' h' f1 f2 f3 => ih (i + 1) t' ls' H' locs' (by omega) hI' h' f1 f2 f3)
  exact key (N' - i0') i0' t0 ls H locs (by omega) h0 hl hP hD hS
end RR2
end
section
-- plain facts: numbers out of arguments, answers of conditions, the shared words of both sides
def bq (c : Prop) [Decidable c] : Nat := if c then 1 else 0
theorem bq_le (c : Prop) [Decidable c] : bq c ≤ 1 := by unfold bq; split <;> omega
theorem bq_t {c : Prop} [Decidable c] (h : c) : bq c = 1 := if_pos h
theorem bq_f {c : Prop} [Decidable c] (h : ¬ c) : bq c = 0 := if_neg h
theorem bq_cong {a b : Prop} [Decidable a] [Decidable b] (h : a ↔ b) : bq a = bq b := by
  by_cases ha : a
  · rw [bq_t ha, bq_t (h.mp ha)]
  · rw [bq_f ha, bq_f (fun hb => ha (h.mpr hb))]
/-- the number of an argument, n where it isn't below n -/
def ix (n : Nat) (x : Int32) : Nat := if x < 0 then n else if nI n ≤ x then n else x.toNatClampNeg
theorem ix_neg {n : Nat} {x : Int32} (h : x < 0) : ix n x = n := if_pos h
theorem ix_big {n : Nat} {x : Int32} (hn : n < 2 ^ 31) (h : nI n ≤ x) : ix n x = n := by
  unfold ix; split <;> rfl
theorem ix_nI {n j : Nat} (h : j < n) (hn : n < 2 ^ 31) : ix n (nI j) = j := by
  unfold ix
  rw [if_neg (nI_pos (by omega)), if_neg (nI_ge h hn), nI_clamp (by omega)]
theorem ix_le (n : Nat) (x : Int32) (hn : n < 2 ^ 31) : ix n x ≤ n := by
  rcases pk_ix x hn with h | h | ⟨j, h, rfl⟩
  · rw [ix_neg h]; exact Nat.le_refl _
  · rw [ix_big hn h]; exact Nat.le_refl _
  · rw [ix_nI h hn]; omega
theorem ix_of {n : Nat} {x : Int32} (hn : n < 2 ^ 31) (h0 : ¬ x < 0) (h1 : ¬ nI n ≤ x) : ∃ j : Nat, j < n ∧ x = nI j := by
  rcases pk_ix x hn with h | h | h
  · exact absurd h h0
  · exact absurd h h1
  · exact h
theorem ix_lt {n : Nat} {x : Int32} (hn : n < 2 ^ 31) (h : ix n x < n) : x = nI (ix n x) := by
  rcases pk_ix x hn with h1 | h1 | ⟨j, h1, rfl⟩
  · rw [ix_neg h1] at h; omega
  · rw [ix_big hn h1] at h; omega
  · rw [ix_nI h1 hn]
/-- 'in(v, lo, hi)' in numbers -/
theorem ix_in {k lo hi : Nat} {x : Int32} (hk : k < 2 ^ 31) (h : hi < k) (hlo : lo < k) : (nI lo ≤ x ∧ x ≤ nI hi) ↔ (lo ≤ ix k x ∧ ix k x ≤ hi) := by
  rcases pk_ix x hk with h1 | h1 | ⟨j, h1, rfl⟩
  · rw [ix_neg h1]
    constructor
    · intro g
      have g1 := g.1
      rw [Int32.le_iff_toInt_le, nI_toInt (by omega)] at g1
      rw [Int32.lt_iff_toInt_lt] at h1
      have z : (0 : Int32).toInt = 0 := by decide
      omega
    · intro g; omega
  · rw [ix_big hk h1]
    constructor
    · intro g
      have g2 := g.2
      rw [Int32.le_iff_toInt_le, nI_toInt (by omega)] at g2
      rw [Int32.le_iff_toInt_le, nI_toInt (by omega)] at h1
      omega
    · intro g; omega
  · rw [ix_nI h1 hk, nI_leI (by omega) (by omega), nI_leI (by omega) (by omega)]
/-- 'in(v, 0, n - 1)' -/
theorem ix_in1 {k n : Nat} {x : Int32} (hk : k < 2 ^ 31) (h : n ≤ k) : (nI 0 ≤ x ∧ x ≤ nI n - nI 1) ↔ ix k x < n := by
  rcases Nat.eq_zero_or_pos n with rfl | hn
  · constructor
    · intro g
      have g1 := g.1; have g2 := g.2
      rw [Int32.le_iff_toInt_le] at g1 g2
      have z : (nI 0).toInt = 0 := by decide
      have z1 : (nI 0 - nI 1).toInt = -1 := by decide
      omega
    · intro g; omega
  · rw [show nI n - nI 1 = nI (n - 1) from by rw [pk_sub (by omega)], ix_in hk (by omega) (by omega)]
    omega
/-- an answer that may be NONE: 0 is NONE, n + 1 is n -/
def mI (n : Nat) : Int32 := nI n - 1
theorem mI_0 : mI 0 = -1 := by decide
theorem mI_s (n : Nat) : mI (n + 1) = nI n := nI_pred n
theorem mI_pos {n : Nat} (h : 0 < n) : mI n = nI (n - 1) := by
  obtain ⟨k, rfl⟩ : ∃ k, n = k + 1 := ⟨n - 1, by omega⟩
  rw [mI_s]; rfl
theorem nI_ne_m1 {n : Nat} (h : n < 2 ^ 31) : nI n ≠ -1 := by
  intro e
  have := nI_toInt h
  rw [e] at this
  have z : (-1 : Int32).toInt = -1 := by decide
  omega
theorem mI_m1 {n : Nat} (h : n < 2 ^ 31) : mI n = -1 ↔ n = 0 := by
  rcases Nat.eq_zero_or_pos n with rfl | hn
  · exact ⟨fun _ => rfl, fun _ => mI_0⟩
  · rw [mI_pos hn]
    exact ⟨fun e => absurd e (nI_ne_m1 (by omega)), fun e => by omega⟩
theorem mI_eq {a b : Nat} (ha : a < 2 ^ 31) (hb : b < 2 ^ 31) : mI a = nI b ↔ a = b + 1 := by
  rcases Nat.eq_zero_or_pos a with rfl | hn
  · rw [mI_0]; exact ⟨fun e => absurd e.symm (nI_ne_m1 hb), fun e => by omega⟩
  · rw [mI_pos hn, nI_eq (by omega) hb]; omega
/-- a time that may be NONE: 0 is NONE -/
def zI (n : Nat) : Int32 := if n = 0 then -1 else nI n
theorem zI_0 : zI 0 = -1 := rfl
theorem zI_pos {n : Nat} (h : 0 < n) : zI n = nI n := if_neg (by omega)
theorem zI_m1 {n : Nat} (h : n < 2 ^ 31) : zI n = -1 ↔ n = 0 := by
  rcases Nat.eq_zero_or_pos n with rfl | hn
  · exact ⟨fun _ => rfl, fun _ => rfl⟩
  · rw [zI_pos hn]; exact ⟨fun e => absurd e (nI_ne_m1 h), fun e => by omega⟩
theorem zI_le {a b : Nat} (ha : a < 2 ^ 31) (hb : b < 2 ^ 31) : nI a ≤ zI b ↔ (0 < b ∧ a ≤ b) := by
  rcases Nat.eq_zero_or_pos b with rfl | hn
  · rw [zI_0]
    constructor
    · intro h
      rw [Int32.le_iff_toInt_le, nI_toInt ha] at h
      have z : (-1 : Int32).toInt = -1 := by decide
      omega
    · intro h; omega
  · rw [zI_pos hn, nI_leI ha hb]
    exact ⟨fun h => ⟨hn, h⟩, fun h => h.2⟩
theorem rr_max {a b : Nat} (ha : a < 2 ^ 31) (hb : b < 2 ^ 31) : (if nI a < nI b then nI b else nI a) = nI (max a b) := by
  by_cases h : a < b
  · rw [if_pos (nI_lt h hb), Nat.max_eq_right (by omega)]
  · rw [if_neg (nI_nlt (by omega) ha), Nat.max_eq_left (by omega)]
theorem rr_min {a b : Nat} (ha : a < 2 ^ 31) (hb : b < 2 ^ 31) : (if nI b < nI a then nI b else nI a) = nI (min a b) := by
  by_cases h : b < a
  · rw [if_pos (nI_lt h ha), Nat.min_eq_right (by omega)]
  · rw [if_neg (nI_nlt (by omega) hb), Nat.min_eq_left (by omega)]
/-- how far two numbers are apart -/
def adf (a b : Nat) : Nat := if b < a then a - b else b - a
theorem adf_abs {a b : Nat} (ha : a < 2 ^ 30) (hb : b < 2 ^ 30) : (if 0 ≤ nI a - nI b then nI a - nI b else 0 - (nI a - nI b)) = nI (adf a b) := by
  have h := pk_sub_toInt ha hb
  by_cases g : b ≤ a
  · rw [pk_sub g, if_pos (nI_pos' (by omega))]
    unfold adf
    split
    · rfl
    · rw [show a - b = b - a from by omega]
  · rw [if_neg (fun q => by rw [Int32.le_iff_toInt_le, h] at q; have z : (0 : Int32).toInt = 0 := by decide
                            omega)]
    rw [show (0 : Int32) - (nI a - nI b) = nI b - nI a from by rw [Int32.zero_sub, Int32.neg_sub], pk_sub (by omega)]
    unfold adf
    rw [if_neg (by omega)]
/-- the gap of two places -/
def gpN (a b : Nat) : Nat := min (adf a b) (1200 - adf a b)
def inB (p : Nat) : Prop := p < 20
def inS (p : Nat) : Prop := p < 20 ∨ (600 ≤ p ∧ p < 620)
abbrev cB (p : Nat) : Nat := bq (p < 20)
abbrev cS (p : Nat) : Nat := bq (p < 20 ∨ (600 ≤ p ∧ p < 620))
def ptN (v : Nat) : Nat := if v = 2 then 30 else if v = 1 then 10 else 0
section PB
variable {p : Program} {l : Launch} {e : Env} {R : Room} {s : State} {m : MethodId} {args : Array Value} {below : List Frame} {meth : Method} {c : Code} {H : Heap} {locs : List Loc} {cells slots : Nat} {Q : State → Prop}
variable {pc : Nat} {ls : Array Slot} {rest : List Value} {cc : ByteArray}
theorem rr_bq_eq {a : Prop} {dec : Decidable a} {off : Int} {tgt : Nat} (hexec : p.tables.exec = Jvm.exec) (hb : c.code = cc) (hdg : decode cc pc = .ok (.ifCond .eq off, 3)) (ht : (pc : Int) + off = (tgt : Int)) (kt : ¬ a → W p l e R s m args below meth c H locs cells slots Q (F0 m tgt ls rest)) (kf : a → W p l e R s m args below meth c H locs cells slots Q (F0 m (pc + 3) ls rest)) : W p l e R s m args below meth c H locs cells slots Q (F0 m pc ls (.int (nI (bq a)) :: rest)) := by
  by_cases h : a
  · rw [bq_t h]; exact rr_if_eq (by decide) hexec hb hdg ht (fun z => by omega) (fun _ => kf h)
  · rw [bq_f h]; exact rr_if_eq (by decide) hexec hb hdg ht (fun _ => kt h) (fun z => by omega)
theorem rr_bq_ne {a : Prop} {dec : Decidable a} {off : Int} {tgt : Nat} (hexec : p.tables.exec = Jvm.exec) (hb : c.code = cc) (hdg : decode cc pc = .ok (.ifCond .ne off, 3)) (ht : (pc : Int) + off = (tgt : Int)) (kt : a → W p l e R s m args below meth c H locs cells slots Q (F0 m tgt ls rest)) (kf : ¬ a → W p l e R s m args below meth c H locs cells slots Q (F0 m (pc + 3) ls rest)) : W p l e R s m args below meth c H locs cells slots Q (F0 m pc ls (.int (nI (bq a)) :: rest)) := by
  by_cases h : a
  · rw [bq_t h]; exact rr_if_ne (by decide) hexec hb hdg ht (fun _ => kt h) (fun z => by omega)
  · rw [bq_f h]; exact rr_if_ne (by decide) hexec hb hdg ht (fun z => by omega) (fun _ => kf h)
end PB
end
section
-- the words of the state: sums, gaps, votes, times; the same for both sides
def ct (f : Nat → Nat) : Nat → Nat
  | 0 => 0
  | n + 1 => ct f n + f n
theorem ct_s (f : Nat → Nat) (n : Nat) : ct f (n + 1) = ct f n + f n := rfl
theorem ct_cong {f g : Nat → Nat} : ∀ {n : Nat}, (∀ j, j < n → f j = g j) → ct f n = ct g n
  | 0, _ => rfl
  | n + 1, h => by rw [ct_s, ct_s, ct_cong (fun j hj => h j (by omega)), h n (by omega)]
theorem ct_le {f : Nat → Nat} {c : Nat} : ∀ {n : Nat}, (∀ j, j < n → f j ≤ c) → ct f n ≤ n * c
  | 0, _ => by simp [ct]
  | n + 1, h => by
    have h1 := ct_le (n := n) (fun j hj => h j (by omega))
    have h2 := h n (by omega)
    rw [ct_s, Nat.add_mul]; omega
theorem ct_zero {f : Nat → Nat} : ∀ {n : Nat}, (∀ j, j < n → f j = 0) → ct f n = 0
  | 0, _ => rfl
  | n + 1, h => by rw [ct_s, ct_zero (fun j hj => h j (by omega)), h n (by omega)]
theorem ct_add (f : Nat → Nat) (m : Nat) : ∀ n : Nat, ct f (m + n) = ct f m + ct (fun j => f (m + j)) n
  | 0 => by simp [ct]
  | n + 1 => by rw [show m + (n + 1) = (m + n) + 1 from rfl, ct_s, ct_s, ct_add f m n]; omega
theorem ct_sum (f g : Nat → Nat) : ∀ n : Nat, ct (fun j => f j + g j) n = ct f n + ct g n
  | 0 => rfl
  | n + 1 => by rw [ct_s, ct_s, ct_s, ct_sum f g n]; omega
/-- the lesser one of what there is (0: none, n + 1: n) and g -/
def mgn (acc g : Nat) : Nat := if acc = 0 then g + 1 else min acc (g + 1)
theorem mgn_pos (acc g : Nat) : 0 < mgn acc g := by unfold mgn; split <;> omega
theorem mgn_le {acc g n : Nat} (ha : acc ≤ n) (hg : g < n) : mgn acc g ≤ n := by unfold mgn; split <;> omega
def lgi (on pl : Nat → Nat) (a acc : Nat) : Nat → Nat
  | 0 => acc
  | b + 1 => if on a = 1 ∧ on b = 1 then mgn (lgi on pl a acc b) (gpN (pl a) (pl b)) else lgi on pl a acc b
def lgo (on pl : Nat → Nat) : Nat → Nat
  | 0 => 0
  | a + 1 => lgi on pl a (lgo on pl a) a
theorem gpN_le (a b : Nat) : gpN a b ≤ 600 := by unfold gpN; omega
theorem adf_lt {a b n : Nat} (ha : a < n) (hb : b < n) : adf a b < n := by unfold adf; split <;> omega
theorem lgi_le {on pl : Nat → Nat} {a acc : Nat} (h : acc ≤ 601) : ∀ b, lgi on pl a acc b ≤ 601
  | 0 => h
  | b + 1 => by
    have h1 := lgi_le (on := on) (pl := pl) (a := a) h b
    have h2 := gpN_le (pl a) (pl b)
    unfold lgi
    split
    · exact mgn_le h1 (by omega)
    · exact h1
theorem lgo_le {on pl : Nat → Nat} : ∀ a, lgo on pl a ≤ 601
  | 0 => by simp [lgo]
  | a + 1 => lgi_le (lgo_le a) a
/-- what all cars' places are behind a move, the first n done -/
def mvf (on pl : Nat → Nat) (k n : Nat) : Nat → Nat := fun j => if j < n ∧ on j = 1 then (pl j + k) % 1200 else pl j
/-- what a tower votes -/
def vnN (wi sl st : Nat → Nat) (t : Nat) : Nat := if wi t < sl t then 2 else if wi t < st t then 1 else 0
theorem vnN_le (wi sl st : Nat → Nat) (t : Nat) : vnN wi sl st t ≤ 2 := by unfold vnN; split <;> (try split) <;> omega
/-- the way to the nearest tower that isn't cut off among the first n (0: none) -/
def dlN (cu : Nat → Nat) (t : Nat) : Nat → Nat
  | 0 => 0
  | o + 1 => if cu o = 0 then mgn (dlN cu t o) (adf t o) else dlN cu t o
theorem dlN_le {cu : Nat → Nat} {t : Nat} (ht : t < 7) : ∀ o, o ≤ 7 → dlN cu t o ≤ 7
  | 0, _ => by simp [dlN]
  | o + 1, h => by
    have h1 := dlN_le (cu := cu) ht o (by omega)
    unfold dlN
    split
    · exact mgn_le h1 (adf_lt ht (by omega))
    · exact h1
/-- when a vote of the minute m comes -/
def cmN (m d : Nat) : Nat := if d = 0 then 0 else m + (d - 1)
/-- a fresh vote -/
abbrev frP (T : Nat) (vt : Nat → Nat) (t : Nat) : Prop := vt t ≠ 0 ∧ T ≤ vt t + 3
def fsI (T : Nat) (vt : Nat → Nat) : Nat → Int32
  | 0 => nI 0
  | n + 1 => if frP T vt n then fsI T vt n ||| (nI 1 <<< (nI n &&& 31)) else fsI T vt n
/-- how many fresh votes say w -/
def cvN (T : Nat) (vt vv : Nat → Nat) (w : Nat) : Nat → Nat := ct (fun t => bq (frP T vt t ∧ vv t = w))
/-- what is decided -/
def dcN (full slow stop : Nat) : Nat := if 4 ≤ full ∧ stop = 0 then 2 else if 4 ≤ full + slow ∧ stop ≤ 1 then 1 else 0
theorem dcN_le (a b d : Nat) : dcN a b d ≤ 2 := by unfold dcN; split <;> (try split) <;> omega
/-- a ticket's refund -/
def rfN (w h : Nat) : Nat := min w (w * (h - 5) / 10)
/-- the people in a car who have not arrived -/
def ppN (tc tp ar : Nat → Nat) (k : Nat) : Nat → Nat := ct (fun j => if tc j = k ∧ ar j = 0 then tp j else 0)
theorem ix_ge {k n : Nat} {x : Int32} (hk : k < 2 ^ 31) (h : n ≤ k) (g : nI n ≤ x) : n ≤ ix k x := by
  rcases pk_ix x hk with h1 | h1 | ⟨j, h1, rfl⟩
  · rw [ix_neg h1]; exact h
  · rw [ix_big hk h1]; exact h
  · rw [ix_nI h1 hk]; exact (nI_leI (by omega) (by omega)).mp g
theorem ix_lt2 {k n : Nat} {x : Int32} (hk : k < 2 ^ 31) (h : n ≤ k) (h0 : ¬ x < 0) (g : ¬ nI n ≤ x) : ix k x < n := by
  obtain ⟨j, hj, rfl⟩ := ix_of (n := n) (by omega) h0 g
  rw [ix_nI (by omega) hk]; exact hj
theorem nI_xor_nn {a b : Nat} (ha : a < 2 ^ 31) (hb : b < 2 ^ 31) : 0 ≤ nI a ^^^ nI b := by
  have e : nI a ^^^ nI b = nI (a ^^^ b) := by
    apply Int32.toBitVec_inj.mp
    simp [nI]
  rw [e]
  exact nI_pos' (Nat.xor_lt_two_pow ha hb)
theorem mgn_0 {acc g : Nat} (h : acc = 0) : mI (mgn acc g) = nI g := by rw [mgn, if_pos h, mI_s]
theorem mgn_1 {acc g : Nat} (h : 0 < acc) : mI (mgn acc g) = nI (min (acc - 1) g) := by
  rw [mgn, if_neg (by omega), mI_pos (by omega)]
  congr 1
  omega
theorem lgi_t {on pl : Nat → Nat} {a acc b : Nat} (h : on a = 1 ∧ on b = 1) : lgi on pl a acc (b + 1) = mgn (lgi on pl a acc b) (gpN (pl a) (pl b)) := if_pos h
theorem lgi_f {on pl : Nat → Nat} {a acc b : Nat} (h : ¬ (on a = 1 ∧ on b = 1)) : lgi on pl a acc (b + 1) = lgi on pl a acc b := if_neg h
theorem dlN_t {cu : Nat → Nat} {t o : Nat} (h : cu o = 0) : dlN cu t (o + 1) = mgn (dlN cu t o) (adf t o) := if_pos h
theorem dlN_f {cu : Nat → Nat} {t o : Nat} (h : ¬ cu o = 0) : dlN cu t (o + 1) = dlN cu t o := if_neg h
theorem fsI_t {T : Nat} {vt : Nat → Nat} {n : Nat} (h : frP T vt n) : fsI T vt (n + 1) = fsI T vt n ||| (nI 1 <<< (nI n &&& 31)) := if_pos h
theorem fsI_f {T : Nat} {vt : Nat → Nat} {n : Nat} (h : ¬ frP T vt n) : fsI T vt (n + 1) = fsI T vt n := if_neg h
theorem mvf_s1 {on pl : Nat → Nat} {k n : Nat} (h : on n = 1) : va_up (mvf on pl k n) n ((pl n + k) % 1200) = mvf on pl k (n + 1) := by
  funext j
  unfold va_up mvf
  by_cases e : j = n
  · subst e; rw [if_pos rfl, if_pos ⟨by omega, h⟩]
  · rw [if_neg e]
    by_cases q : j < n ∧ on j = 1
    · rw [if_pos q, if_pos ⟨by omega, q.2⟩]
    · rw [if_neg q, if_neg (fun z => q ⟨by omega, z.2⟩)]
theorem mvf_s0 {on pl : Nat → Nat} {k n : Nat} (h : ¬ on n = 1) : mvf on pl k n = mvf on pl k (n + 1) := by
  funext j
  unfold mvf
  by_cases q : j < n ∧ on j = 1
  · rw [if_pos q, if_pos ⟨by omega, q.2⟩]
  · rw [if_neg q, if_neg (fun z => by
      rcases (show j < n ∨ j = n by omega) with g | rfl
      · exact q ⟨g, z.2⟩
      · exact h z.2)]
theorem mvf_0 (on pl : Nat → Nat) (k : Nat) : mvf on pl k 0 = pl := by
  funext j
  unfold mvf
  rw [if_neg (by omega)]
theorem mvf_at {on pl : Nat → Nat} {k n : Nat} : mvf on pl k n n = pl n := by
  unfold mvf
  rw [if_neg (by omega)]
/-- how many cars are too near to the place 0 -/
def nrN (on pl : Nat → Nat) (n : Nat) : Nat := ct (fun j => bq (on j = 1 ∧ gpN (pl j) 0 < 60)) n
theorem nrN_s (on pl : Nat → Nat) (n : Nat) : nrN on pl (n + 1) = nrN on pl n + bq (on n = 1 ∧ gpN (pl n) 0 < 60) := rfl
theorem ct_part {f : Nat → Nat} {j : Nat} : ∀ {n : Nat}, j < n → f j ≤ ct f n
  | 0, h => absurd h (by omega)
  | n + 1, h => by
    rw [ct_s]
    rcases (show j < n ∨ j = n by omega) with g | rfl
    · have := ct_part (f := f) g; omega
    · omega
theorem nrN_pos {on pl : Nat → Nat} {i n : Nat} (hi : i < n) (h1 : on i = 1) (h2 : gpN (pl i) 0 < 60) (h : nrN on pl n = 0) : False := by
  have h3 : bq (on i = 1 ∧ gpN (pl i) 0 < 60) ≤ nrN on pl n := ct_part (f := fun j => bq (on j = 1 ∧ gpN (pl j) 0 < 60)) hi
  rw [bq_t ⟨h1, h2⟩] at h3
  omega
theorem lt_succ_eq {j n : Nat} (h : ¬ j = n) : (j < n + 1) = (j < n) := by apply propext; omega
/-- fresh votes of the class's control that say w (its rows hold a vote and one) -/
def cfN (T : Nat) (cb vt : Nat → Nat) (w : Nat) : Nat → Nat := ct (fun t => bq (cb t = w + 1 ∧ frP T vt t))
theorem cfN_s (T : Nat) (cb vt : Nat → Nat) (w n : Nat) : cfN T cb vt w (n + 1) = cfN T cb vt w n + bq (cb n = w + 1 ∧ frP T vt n) := rfl
theorem cfN_le (T : Nat) (cb vt : Nat → Nat) (w n : Nat) : cfN T cb vt w n ≤ n := by
  have h : cfN T cb vt w n ≤ n * 1 := ct_le (fun j _ => bq_le _)
  omega
theorem cvN_s (T : Nat) (vt vv : Nat → Nat) (w n : Nat) : cvN T vt vv w (n + 1) = cvN T vt vv w n + bq (frP T vt n ∧ vv n = w) := rfl
theorem cvN_le (T : Nat) (vt vv : Nat → Nat) (w n : Nat) : cvN T vt vv w n ≤ n := by
  have h : cvN T vt vv w n ≤ n * 1 := ct_le (fun j _ => bq_le _)
  omega
/-- votes on the way -/
def owN (T : Nat) (cm : Nat → Nat) : Nat → Nat := ct (fun k => bq (T < cm k))
theorem owN_s (T : Nat) (cm : Nat → Nat) (n : Nat) : owN T cm (n + 1) = owN T cm n + bq (T < cm n) := rfl
/-- the control takes a vote of the minute m, if it has none or an earlier one -/
def tkF (x vt : Nat → Nat) (t v m : Nat) : Nat → Nat := if vt t < m then va_up x t v else x
theorem tkF_t {x vt : Nat → Nat} {t v m : Nat} (h : vt t < m) : tkF x vt t v m = va_up x t v := if_pos h
theorem tkF_f {x vt : Nat → Nat} {t v m : Nat} (h : ¬ vt t < m) : tkF x vt t v m = x := if_neg h
/-- a tower's vote at the control when the minutes T - 6 .. have been looked through, n of them: (time, what) -/
def dv (T : Nat) (Rr X : Nat → Nat → Nat) (vt x : Nat → Nat) (t : Nat) : Nat → Nat × Nat
  | 0 => (vt t, x t)
  | n + 1 => if 6 - n < T ∧ Rr (6 - n) t = T ∧ (dv T Rr X vt x t n).1 < T - (6 - n) then (T - (6 - n), X (6 - n) t) else dv T Rr X vt x t n
def dmt (T : Nat) (Rr X : Nat → Nat → Nat) (vt x : Nat → Nat) (n t0 : Nat) : Nat → Nat := fun t => if t < 7 then (dv T Rr X vt x t (if t < t0 then n + 1 else n)).1 else vt t
def dmx (T : Nat) (Rr X : Nat → Nat → Nat) (vt x : Nat → Nat) (n t0 : Nat) : Nat → Nat := fun t => if t < 7 then (dv T Rr X vt x t (if t < t0 then n + 1 else n)).2 else x t
def r7 (T : Nat) (f : Nat → Nat) (i t : Nat) : Nat := f ((T + 7 - i) % 7 * 7 + t)
def r7s (T : Nat) (f : Nat → Nat) (i t : Nat) : Nat := f ((T + 7 - i) % 7 * 7 + t) + 1
def r8 (T : Nat) (f : Nat → Nat) (i t : Nat) : Nat := f (8 * t + (T + 8 - i) % 8)
section DV
variable {T : Nat} {Rr X : Nat → Nat → Nat} {vt x : Nat → Nat}
theorem dv_skip {t : Nat} : ∀ {n : Nat}, n + T ≤ 7 → dv T Rr X vt x t n = (vt t, x t)
  | 0, _ => rfl
  | n + 1, h => by
    unfold dv
    rw [if_neg (by omega), dv_skip (by omega)]
theorem dm_start {n : Nat} (h : n = 0 ∨ n + T ≤ 7) : dmt T Rr X vt x n 0 = vt ∧ dmx T Rr X vt x n 0 = x := by
  have e : ∀ t, dv T Rr X vt x t n = (vt t, x t) := fun t => by
    rcases h with rfl | h
    · rfl
    · exact dv_skip h
  constructor
  · funext t; unfold dmt; rw [if_neg (Nat.not_lt_zero t), e]; split <;> rfl
  · funext t; unfold dmx; rw [if_neg (Nat.not_lt_zero t), e]; split <;> rfl
theorem dm_next (n : Nat) : dmt T Rr X vt x n 7 = dmt T Rr X vt x (n + 1) 0 ∧ dmx T Rr X vt x n 7 = dmx T Rr X vt x (n + 1) 0 := by
  constructor
  · funext t; unfold dmt
    by_cases h : t < 7
    · rw [if_pos h, if_pos h, if_pos h, if_neg (Nat.not_lt_zero t)]
    · rw [if_neg h, if_neg h]
  · funext t; unfold dmx
    by_cases h : t < 7
    · rw [if_pos h, if_pos h, if_pos h, if_neg (Nat.not_lt_zero t)]
    · rw [if_neg h, if_neg h]
theorem dmt_at {n t0 : Nat} (h : t0 < 7) : dmt T Rr X vt x n t0 t0 = (dv T Rr X vt x t0 n).1 := by
  unfold dmt; rw [if_pos h, if_neg (Nat.lt_irrefl _)]
/-- this minute's vote of the tower t0 isn't here now -/
theorem dm_no {n t0 : Nat} (h : t0 < 7) (g : ¬ (6 - n < T ∧ Rr (6 - n) t0 = T ∧ dmt T Rr X vt x n t0 t0 < T - (6 - n))) : dmt T Rr X vt x n t0 = dmt T Rr X vt x n (t0 + 1) ∧ dmx T Rr X vt x n t0 = dmx T Rr X vt x n (t0 + 1) := by
  rw [dmt_at h] at g
  have e : dv T Rr X vt x t0 (n + 1) = dv T Rr X vt x t0 n := by rw [dv, if_neg g]
  constructor
  · funext t; unfold dmt
    by_cases q : t = t0
    · subst q; rw [if_neg (Nat.lt_irrefl t), if_pos (Nat.lt_succ_self t), e]
    · simp only [lt_succ_eq q]
  · funext t; unfold dmx
    by_cases q : t = t0
    · subst q; rw [if_neg (Nat.lt_irrefl t), if_pos (Nat.lt_succ_self t), e]
    · simp only [lt_succ_eq q]
/-- .. is here -/
theorem dm_yes {n t0 m w : Nat} (h : t0 < 7) (g1 : 6 - n < T) (g2 : Rr (6 - n) t0 = T) (hm : m = T - (6 - n)) (hw : X (6 - n) t0 = w) : tkF (dmt T Rr X vt x n t0) (dmt T Rr X vt x n t0) t0 m m = dmt T Rr X vt x n (t0 + 1) ∧ tkF (dmx T Rr X vt x n t0) (dmt T Rr X vt x n t0) t0 w m = dmx T Rr X vt x n (t0 + 1) := by
  subst hm
  by_cases g3 : dmt T Rr X vt x n t0 t0 < T - (6 - n)
  · rw [tkF_t g3, tkF_t g3]
    rw [dmt_at h] at g3
    have e : dv T Rr X vt x t0 (n + 1) = (T - (6 - n), w) := by rw [dv, if_pos ⟨g1, g2, g3⟩, hw]
    constructor
    · funext t; unfold va_up
      by_cases q : t = t0
      · subst q; rw [if_pos rfl]; unfold dmt; rw [if_pos h, if_pos (Nat.lt_succ_self t), e]
      · rw [if_neg q]; unfold dmt; simp only [lt_succ_eq q]
    · funext t; unfold va_up
      by_cases q : t = t0
      · subst q; rw [if_pos rfl]; unfold dmx; rw [if_pos h, if_pos (Nat.lt_succ_self t), e]
      · rw [if_neg q]; unfold dmx; simp only [lt_succ_eq q]
  · rw [tkF_f g3, tkF_f g3]
    exact dm_no h (fun z => g3 z.2.2)
theorem dv_le {t : Nat} (h : vt t ≤ T) : ∀ n : Nat, (dv T Rr X vt x t n).1 ≤ T
  | 0 => h
  | n + 1 => by
    unfold dv
    split
    · exact Nat.sub_le _ _
    · exact dv_le h n
theorem dmt_le {n t0 : Nat} (h : ∀ t, t < 7 → vt t ≤ T) {t : Nat} (ht : t < 7) : dmt T Rr X vt x n t0 t ≤ T := by
  unfold dmt; rw [if_pos ht]; exact dv_le (h t ht) _
end DV
/-- tickets that arrive, the first n looked at: w is what the row holds for 'now' -/
def taf (ta tg : Nat → Nat) (w U n : Nat) : Nat → Nat := fun j => if j < n ∧ ta j = 0 ∧ tg j ≤ U then w else ta j
/-- tickets that hang -/
def thf (th ta tg tc ou : Nat → Nat) (U v n : Nat) : Nat → Nat := fun j => if j < n ∧ ta j = 0 ∧ U < tg j ∧ v = 0 ∧ ou (tc j) = 1 then th j + 1 else th j
def oC (on pl : Nat → Nat) (k : Nat) : Nat := bq (on k = 1 ∧ ¬ (pl k < 20 ∨ 600 ≤ pl k ∧ pl k < 620))
section TF
variable {ta tg th tc ou : Nat → Nat} {w U v n : Nat}
theorem taf_0 : taf ta tg w U 0 = ta := by funext j; unfold taf; rw [if_neg (by omega)]
theorem thf_0 : thf th ta tg tc ou U v 0 = th := by funext j; unfold thf; rw [if_neg (by omega)]
theorem taf_at : taf ta tg w U n n = ta n := by unfold taf; rw [if_neg (by omega)]
theorem thf_at : thf th ta tg tc ou U v n n = th n := by unfold thf; rw [if_neg (by omega)]
theorem taf_s0 (h : ¬ (ta n = 0 ∧ tg n ≤ U)) : taf ta tg w U n = taf ta tg w U (n + 1) := by
  funext j; unfold taf
  by_cases q : j = n
  · subst q; rw [if_neg (by omega), if_neg (fun z => h z.2)]
  · simp only [lt_succ_eq q]
theorem taf_s1 (h : ta n = 0 ∧ tg n ≤ U) : va_up (taf ta tg w U n) n w = taf ta tg w U (n + 1) := by
  funext j; unfold va_up taf
  by_cases q : j = n
  · subst q; rw [if_pos rfl, if_pos ⟨Nat.lt_succ_self j, h⟩]
  · rw [if_neg q]; simp only [lt_succ_eq q]
theorem thf_s0 (h : ¬ (ta n = 0 ∧ U < tg n ∧ v = 0 ∧ ou (tc n) = 1)) : thf th ta tg tc ou U v n = thf th ta tg tc ou U v (n + 1) := by
  funext j; unfold thf
  by_cases q : j = n
  · subst q; rw [if_neg (by omega), if_neg (fun z => h z.2)]
  · simp only [lt_succ_eq q]
theorem thf_s1 (h : ta n = 0 ∧ U < tg n ∧ v = 0 ∧ ou (tc n) = 1) : va_up (thf th ta tg tc ou U v n) n (th n + 1) = thf th ta tg tc ou U v (n + 1) := by
  funext j; unfold va_up thf
  by_cases q : j = n
  · subst q; rw [if_pos rfl, if_pos ⟨Nat.lt_succ_self j, h⟩]
  · rw [if_neg q]; simp only [lt_succ_eq q]
end TF
/-- all refunds of the first n tickets -/
def rsN (tf tp th : Nat → Nat) : Nat → Nat := ct (fun j => rfN (tf j * tp j) (th j))
theorem rsN_s (tf tp th : Nat → Nat) (n : Nat) : rsN tf tp th (n + 1) = rsN tf tp th n + rfN (tf n * tp n) (th n) := rfl
theorem ppN_s (tc tp ar : Nat → Nat) (k n : Nat) : ppN tc tp ar k (n + 1) = ppN tc tp ar k n + (if tc n = k ∧ ar n = 0 then tp n else 0) := rfl
theorem mx5 {h : Nat} (hh : h < 2 ^ 30) : (if nI 0 < nI h - nI 5 then nI h - nI 5 else nI 0) = nI (h - 5) := by
  by_cases g : 5 < h
  · rw [pk_sub (by omega), if_pos (nI_lt (by omega) (by omega))]
  · have e : (nI h - nI 5).toInt = (h : Int) - 5 := pk_sub_toInt hh (by decide)
    rw [if_neg (fun q => by rw [Int32.lt_iff_toInt_lt, e, nI_toInt (by decide)] at q; omega), show h - 5 = 0 from by omega]
theorem mx7 {T : Nat} (hT : T < 2 ^ 30) : (if nI 1 < nI T - nI 7 + nI 1 then nI T - nI 7 + nI 1 else nI 1) = nI (max 1 (T - 6)) := by
  by_cases g : 7 ≤ T
  · rw [pk_sub g, nI_add, show T - 7 + 1 = T - 6 from by omega, rr_max (by omega) (by omega)]
  · have e1 : (nI T - nI 7).toInt = (T : Int) - 7 := pk_sub_toInt hT (by decide)
    have e2 : nI T - nI 7 + nI 1 = nI (T + 1) - nI 7 := by
      rw [← nI_add, Int32.add_comm (nI T) (nI 1), Int32.add_comm (nI T - nI 7) (nI 1), Int32.sub_eq_add_neg, Int32.sub_eq_add_neg, Int32.add_assoc]
    have e3 : (nI (T + 1) - nI 7).toInt = ((T + 1 : Nat) : Int) - 7 := pk_sub_toInt (by omega) (by decide)
    rw [e2, if_neg (fun q => by rw [Int32.lt_iff_toInt_lt, e3, nI_toInt (by decide)] at q; omega), show max 1 (T - 6) = 1 from by omega]
/-- the steps of Integer.bitCount -/
def us (x y : Int32) : Int32 := (x.toUInt32 >>> (y.toUInt32 &&& Int32.toUInt32 31)).toInt32
def bc1 (x : Int32) : Int32 := x - (us x (nI 1) &&& 1431655765)
def bc2 (x : Int32) : Int32 := (x &&& 858993459) + (us x (nI 2) &&& 858993459)
def bc3 (x : Int32) : Int32 := (x + us x (nI 4)) &&& 252645135
def bc4 (x : Int32) : Int32 := x + us x (nI 8)
def bc5 (x : Int32) : Int32 := x + us x (nI 16)
def bcI (x : Int32) : Int32 := bc5 (bc4 (bc3 (bc2 (bc1 x)))) &&& nI 63
end
section
theorem k_V_isTower : rr_CS y_V_isTower b_V_isTower 1 (some .boolean) 1 := ⟨q_237, q_1, q_238, by decide, by decide, by decide +kernel⟩
set_option maxHeartbeats 4000000 in
set_option maxRecDepth 100000 in
/-- RopeVotes.isTower -/
theorem c_V_isTower (l : Launch) (D : va_G) (cs : rr_C3) (x : Int32)  : RO l y_V_isTower b_V_isTower 1 (some .boolean) 0 0 D cs [] [.int x] (fun r => r = nI (bq (ix 7 x < 7))) := by
  refine RO.of (by decide) (Nat.le_of_ble_eq_true rfl) ?_
  intro p e s m args below meth c S hr hlk hK hP ls hl
  obtain ⟨hx, hb, hml, hown, ht⟩ := id S
  have hl : lv_has ls 1 [(0, .int x)] := hl
  refine lv_iload_n hx hb d_V_isTower_0 rfl (lv_at hl 0 rfl) ?_
  refine lv_if_lt (tgt := 14) hx hb d_V_isTower_1 (by decide) (fun c1 => ?_) (fun c1 => ?_)
  · have e9 := ix_neg (n := 7) c1
    refine lv_iconst (v := nI 0) hx hb d_V_isTower_14 (by decide) ?_
    exact rr_retZ (v := 0) (by first | exact bq_le _ | omega) hx hb hr hlk (congrArg nI (bq_f (by omega)).symm) d_V_isTower_15
  · refine lv_iload_n hx hb d_V_isTower_4 rfl (lv_at hl 0 rfl) ?_
    refine lv_bipush (v := nI 7) hx hb d_V_isTower_5 (by decide) ?_
    refine lv_icmp_ge (tgt := 14) hx hb d_V_isTower_7 (by decide) (fun c7 => ?_) (fun c7 => ?_)
    · have e9 := ix_big (n := 7) (by decide) c7
      refine lv_iconst (v := nI 0) hx hb d_V_isTower_14 (by decide) ?_
      exact rr_retZ (v := 0) (by first | exact bq_le _ | omega) hx hb hr hlk (congrArg nI (bq_f (by omega)).symm) d_V_isTower_15
    · obtain ⟨j, hj, rfl⟩ := ix_of (n := 7) (by decide) c1 c7
      have e9 := ix_nI hj (by decide)
      refine lv_iconst (v := nI 1) hx hb d_V_isTower_10 (by decide) ?_
      refine lv_goto (tgt := 15) hx hb d_V_isTower_11 (by decide) ?_
      exact rr_retZ (v := 1) (by first | exact bq_le _ | omega) hx hb hr hlk (congrArg nI (bq_t (by omega)).symm) d_V_isTower_15
theorem k_V_isInBottom : rr_CS y_V_isInBottom b_V_isInBottom 1 (some .boolean) 1 := ⟨q_384, q_1, q_385, by decide, by decide, by decide +kernel⟩
set_option maxHeartbeats 4000000 in
set_option maxRecDepth 100000 in
/-- RopeVotes.isInBottom -/
theorem c_V_isInBottom (l : Launch) (D : va_G) (cs : rr_C3) (q : Nat) (hq : q < 1200) : RO l y_V_isInBottom b_V_isInBottom 1 (some .boolean) 0 0 D cs [] [.int (nI q)] (fun r => r = nI (bq (q < 20))) := by
  refine RO.of (by decide) (Nat.le_of_ble_eq_true rfl) ?_
  intro p e s m args below meth c S hr hlk hK hP ls hl
  obtain ⟨hx, hb, hml, hown, ht⟩ := id S
  have hl : lv_has ls 1 [(0, .int (nI q))] := hl
  refine lv_iload_n hx hb d_V_isInBottom_0 rfl (lv_at hl 0 rfl) ?_
  refine lv_if_lt (tgt := 14) hx hb d_V_isInBottom_1 (by decide) (fun c1 => absurd c1 (nI_pos (by omega))) (fun _ => ?_)
  refine lv_iload_n hx hb d_V_isInBottom_4 rfl (lv_at hl 0 rfl) ?_
  refine lv_bipush (v := nI 20) hx hb d_V_isInBottom_5 (by decide) ?_
  refine rr_icmp_ge (a := q) (b := 20) (tgt := 14) (by omega) (by omega) hx hb d_V_isInBottom_7 (by decide) (fun c7 => ?_) (fun c7 => ?_)
  · refine lv_iconst (v := nI 0) hx hb d_V_isInBottom_14 (by decide) ?_
    exact rr_retZ (v := 0) (by first | exact bq_le _ | omega) hx hb hr hlk (congrArg nI (bq_f (by omega)).symm) d_V_isInBottom_15
  · refine lv_iconst (v := nI 1) hx hb d_V_isInBottom_10 (by decide) ?_
    refine lv_goto (tgt := 15) hx hb d_V_isInBottom_11 (by decide) ?_
    exact rr_retZ (v := 1) (by first | exact bq_le _ | omega) hx hb hr hlk (congrArg nI (bq_t (by omega)).symm) d_V_isInBottom_15
theorem k_V_isInStation : rr_CS y_V_isInStation b_V_isInStation 1 (some .boolean) 1 := ⟨q_381, q_1, q_382, by decide, by decide, by decide +kernel⟩
set_option maxHeartbeats 4000000 in
set_option maxRecDepth 100000 in
/-- RopeVotes.isInStation -/
theorem c_V_isInStation (l : Launch) (D : va_G) (cs : rr_C3) (q : Nat) (hq : q < 1200) : RO l y_V_isInStation b_V_isInStation 1 (some .boolean) 1 20 D cs [] [.int (nI q)] (fun r => r = nI (bq (q < 20 ∨ 600 ≤ q ∧ q < 620))) := by
  refine RO.of (by decide) (Nat.le_of_ble_eq_true rfl) ?_
  intro p e s m args below meth c S hr hlk hK hP ls hl
  obtain ⟨hx, hb, hml, hown, ht⟩ := id S
  have hl : lv_has ls 1 [(0, .int (nI q))] := hl
  refine lv_iload_n hx hb d_V_isInStation_0 rfl (lv_at hl 0 rfl) ?_
  refine rr_rS (As := [.int (nI q)]) (rest := []) (idx := 86) S hK (c_V_isInBottom l D cs q (by first | assumption | omega)) k_V_isInBottom q_383 ⟨Nat.le_of_ble_eq_true rfl, Nat.le_of_ble_eq_true rfl⟩ ⟨Nat.le_of_ble_eq_true rfl, Nat.le_of_ble_eq_true rfl⟩ hl (Nat.le_of_ble_eq_true rfl) rfl d_V_isInStation_1 (fun r9 hr9 => ?_)
  subst hr9
  refine rr_bq_ne (tgt := 21) hx hb d_V_isInStation_4 (by decide) (fun c4 => ?_) (fun c4 => ?_)
  · refine lv_iconst (v := nI 1) hx hb d_V_isInStation_21 (by decide) ?_
    refine lv_goto (tgt := 26) hx hb d_V_isInStation_22 (by decide) ?_
    exact rr_retZ (v := 1) (by first | exact bq_le _ | omega) hx hb hr hlk (congrArg nI (bq_t (by omega)).symm) d_V_isInStation_26
  · refine lv_iload_n hx hb d_V_isInStation_7 rfl (lv_at hl 0 rfl) ?_
    refine lv_sipush (v := nI 600) hx hb d_V_isInStation_8 (by decide) ?_
    refine rr_icmp_lt (a := q) (b := 600) (tgt := 25) (by omega) (by omega) hx hb d_V_isInStation_11 (by decide) (fun c11 => ?_) (fun c11 => ?_)
    · refine lv_iconst (v := nI 0) hx hb d_V_isInStation_25 (by decide) ?_
      exact rr_retZ (v := 0) (by first | exact bq_le _ | omega) hx hb hr hlk (congrArg nI (bq_f (by omega)).symm) d_V_isInStation_26
    · refine lv_iload_n hx hb d_V_isInStation_14 rfl (lv_at hl 0 rfl) ?_
      refine lv_sipush (v := nI 620) hx hb d_V_isInStation_15 (by decide) ?_
      refine rr_icmp_ge (a := q) (b := 620) (tgt := 25) (by omega) (by omega) hx hb d_V_isInStation_18 (by decide) (fun c18 => ?_) (fun c18 => ?_)
      · refine lv_iconst (v := nI 0) hx hb d_V_isInStation_25 (by decide) ?_
        exact rr_retZ (v := 0) (by first | exact bq_le _ | omega) hx hb hr hlk (congrArg nI (bq_f (by omega)).symm) d_V_isInStation_26
      · refine lv_iconst (v := nI 1) hx hb d_V_isInStation_21 (by decide) ?_
        refine lv_goto (tgt := 26) hx hb d_V_isInStation_22 (by decide) ?_
        exact rr_retZ (v := 1) (by first | exact bq_le _ | omega) hx hb hr hlk (congrArg nI (bq_t (by omega)).symm) d_V_isInStation_26
theorem k_V_gapBetween : rr_CS y_V_gapBetween b_V_gapBetween 3 (some .int) 2 := ⟨q_457, q_1, q_458, by decide, by decide, by decide +kernel⟩
set_option maxHeartbeats 4000000 in
set_option maxRecDepth 100000 in
/-- RopeVotes.gapBetween -/
theorem c_V_gapBetween (l : Launch) (D : va_G) (cs : rr_C3) (a : Nat) (b : Nat) (ha : a < 1200) (hb9 : b < 1200) : RO l y_V_gapBetween b_V_gapBetween 3 (some .int) 1 13 D cs [] [.int (nI a), .int (nI b)] (fun r => r = nI (gpN a b)) := by
  refine RO.of (by decide) (Nat.le_of_ble_eq_true rfl) ?_
  intro p e s m args below meth c S hr hlk hK hP ls hl
  obtain ⟨hx, hb, hml, hown, ht⟩ := id S
  have hl : lv_has ls 3 [(0, .int (nI a)), (1, .int (nI b))] := hl
  refine lv_iload_n hx hb d_V_gapBetween_0 rfl (lv_at hl 0 rfl) ?_
  refine lv_iload_n hx hb d_V_gapBetween_1 rfl (lv_at hl 1 rfl) ?_
  refine lv_isub hx hb d_V_gapBetween_2 ?_
  refine va_mabs hx hb (by rw [hml]; exact hl.1.symm) hown (ht _ q_459) (ht _ q_327) (ht _ q_11) (ht _ q_328) (Nat.le_of_ble_eq_true rfl) (Nat.le_of_ble_eq_true rfl) (Nat.zero_le _) (Nat.zero_le _) d_V_gapBetween_3 ?_
  refine rr_top (show (if 0 ≤ (nI a) - (nI b) then (nI a) - (nI b) else 0 - ((nI a) - (nI b)) : Int32) = nI (adf a b) from adf_abs (by omega) (by omega)) ?_
  have hadf : adf a b < 1200 := adf_lt ha hb9
  refine lv_istore_n (lv' := [(2, .int (nI (adf a b))), (0, .int (nI a)), (1, .int (nI b))]) hx hb d_V_gapBetween_6 rfl hl (by decide) rfl (fun ls hl => ?_)
  refine lv_iload_n hx hb d_V_gapBetween_7 rfl (lv_at hl 0 rfl) ?_
  refine lv_sipush (v := nI 1200) hx hb d_V_gapBetween_8 (by decide) ?_
  refine lv_iload_n hx hb d_V_gapBetween_11 rfl (lv_at hl 0 rfl) ?_
  refine rr_isub (a := 1200) (b := (adf a b)) (by omega) hx hb d_V_gapBetween_12 ?_
  refine va_mmin hx hb (by rw [hml]; exact hl.1.symm) hown (ht _ q_460) (ht _ q_330) (ht _ q_11) (ht _ q_331) (Nat.le_of_ble_eq_true rfl) (Nat.le_of_ble_eq_true rfl) (Nat.zero_le _) (Nat.zero_le _) d_V_gapBetween_13 ?_
  refine rr_top (rr_min (a := (adf a b)) (b := (1200 - (adf a b))) (by omega) (by omega)) ?_
  exact rr_ret hx hb hr hlk rfl d_V_gapBetween_16
end
section
theorem k_L_has : rr_CK y_L_has b_L_has 2 (some .boolean) 1 := ⟨q_161, q_162, q_2, q_163, by decide, by decide, by decide +kernel⟩
set_option maxHeartbeats 4000000 in
set_option maxRecDepth 100000 in
/-- Loop.has -/
theorem c_L_has (l : Launch) (D : va_G) (cs : rr_C3) (h0 : Nat) (h3 : Nat) (v0 : Value) (v1 : Value) (v3 : Value) (on : Nat → Nat) (x : Int32) (hon : ∀ j, j < 16 → on j ≤ 1) : RO l y_L_has b_L_has 2 (some .boolean) 0 0 D cs [(h0, .inr (1, [v0, v1, .ref h3, v3])), (h3, .inl (cs.2.1, 16, .inl (fun j => nI (on j))))] [.ref h0, .int x] (fun r => r = nI (bq (ix 16 x < 16 ∧ on (ix 16 x) = 1))) := by
  refine RO.of (by decide) (Nat.le_of_ble_eq_true rfl) ?_
  intro p e s m args below meth c S hr hlk hK hP ls hl
  obtain ⟨hx, hb, hml, hown, ht⟩ := id S
  have hl : lv_has ls 2 [(0, .ref h0), (1, .int x)] := hl
  refine lv_iload_n hx hb d_L_has_0 rfl (lv_at hl 1 rfl) ?_
  refine lv_if_lt (tgt := 23) hx hb d_L_has_1 (by decide) (fun c1 => ?_) (fun c1 => ?_)
  · have e9 := ix_neg (n := 16) c1
    refine lv_iconst (v := nI 0) hx hb d_L_has_23 (by decide) ?_
    exact rr_retZ (v := 0) (by first | exact bq_le _ | omega) hx hb hr hlk (congrArg nI (bq_f (by first | omega | (rw [e9]; omega))).symm) d_L_has_24
  · refine lv_iload_n hx hb d_L_has_4 rfl (lv_at hl 1 rfl) ?_
    refine lv_bipush (v := nI 16) hx hb d_L_has_5 (by decide) ?_
    refine lv_icmp_ge (tgt := 23) hx hb d_L_has_7 (by decide) (fun c7 => ?_) (fun c7 => ?_)
    · have e9 := ix_big (n := 16) (by decide) c7
      refine lv_iconst (v := nI 0) hx hb d_L_has_23 (by decide) ?_
      exact rr_retZ (v := 0) (by first | exact bq_le _ | omega) hx hb hr hlk (congrArg nI (bq_f (by first | omega | (rw [e9]; omega))).symm) d_L_has_24
    · obtain ⟨j, hj, rfl⟩ := ix_of (n := 16) (by decide) c1 c7
      have e9 := ix_nI hj (by decide)
      have hon9 := hon _ hj
      refine lv_aload_n hx hb d_L_has_10 rfl (lv_at hl 0 rfl) ?_
      refine va_get (D := D) (ci := 1) (v := .ref h3) (C := R_L) (T := F_L) (N := 4) hx hb ht j_L hown hK.1 hP 0 rfl rfl 2 (by decide) (ht _ q_33) (fun _ h9 => h9) rfl d_L_has_11 ?_
      refine lv_iload_n hx hb d_L_has_14 rfl (lv_at hl 1 rfl) ?_
      refine rr_zald (q0 := 1) (n := 16) (f := (fun j => nI (on j))) (k := j) hx hb hK hP rfl (by omega) (by omega) d_L_has_15 ?_
      refine rr_if_eq (a := (on j)) (tgt := 23) (by omega) hx hb d_L_has_16 (by decide) (fun c16 => ?_) (fun c16 => ?_)
      · refine lv_iconst (v := nI 0) hx hb d_L_has_23 (by decide) ?_
        exact rr_retZ (v := 0) (by first | exact bq_le _ | omega) hx hb hr hlk (congrArg nI (bq_f (by first | omega | (rw [e9]; omega))).symm) d_L_has_24
      · refine lv_iconst (v := nI 1) hx hb d_L_has_19 (by decide) ?_
        refine lv_goto (tgt := 24) hx hb d_L_has_20 (by decide) ?_
        exact rr_retZ (v := 1) (by first | exact bq_le _ | omega) hx hb hr hlk (congrArg nI (bq_t (by first | omega | (rw [e9]; omega))).symm) d_L_has_24
theorem k_L_canStart : rr_CK y_L_canStart b_L_canStart 2 (some .boolean) 0 := ⟨q_453, q_454, q_2, q_455, by decide, by decide, by decide +kernel⟩
set_option maxHeartbeats 4000000 in
set_option maxRecDepth 100000 in
/-- Loop.canStart -/
theorem c_L_canStart (l : Launch) (D : va_G) (cs : rr_C3) (h0 : Nat) (h1 : Nat) (h3 : Nat) (v1 : Value) (st : Nat) (pl : Nat → Nat) (on : Nat → Nat) (hst : st ≤ 16) (hon : ∀ j, j < 16 → on j ≤ 1) (hpl : ∀ j, j < 16 → on j = 1 → pl j < 1200) : RO l y_L_canStart b_L_canStart 2 (some .boolean) 2 35 D cs [(h0, .inr (1, [.ref h1, v1, .ref h3, .int (nI st)])), (h1, .inl (cs.1, 16, .inl (fun j => nI (pl j)))), (h3, .inl (cs.2.1, 16, .inl (fun j => nI (on j))))] [.ref h0] (fun r => r = nI (bq (st < 16 ∧ nrN on pl 16 = 0))) := by
  refine RO.of (by decide) (Nat.le_of_ble_eq_true rfl) ?_
  intro p e s m args below meth c S hr hlk hK hP ls hl
  obtain ⟨hx, hb, hml, hown, ht⟩ := id S
  have hl : lv_has ls 2 [(0, .ref h0)] := hl
  refine lv_aload_n hx hb d_L_canStart_0 rfl (lv_at hl 0 rfl) ?_
  refine va_get (D := D) (ci := 1) (v := .int (nI st)) (C := R_L) (T := F_L) (N := 4) hx hb ht j_L hown hK.1 hP 0 rfl rfl 3 (by decide) (ht _ q_35) (fun _ h9 => h9) rfl d_L_canStart_1 ?_
  refine lv_bipush (v := nI 16) hx hb d_L_canStart_4 (by decide) ?_
  refine rr_icmp_lt (a := st) (b := 16) (tgt := 11) (by omega) (by omega) hx hb d_L_canStart_6 (by decide) (fun c6 => ?_) (fun c6 => ?_)
  · refine lv_iconst (v := nI 0) hx hb d_L_canStart_11 (by decide) ?_
    refine lv_istore_n (lv' := [(1, .int (nI 0)), (0, .ref h0)]) hx hb d_L_canStart_12 rfl hl (by decide) rfl (fun ls hl => ?_)
    refine rr_loop (fun i => [(1, .int (nI i)), (0, .ref h0)]) (fun i => nrN on pl i = 0) 0 16 (by omega) rfl (lv_sub hl [0, 1] rfl) (fun i ls hi_2 hI_3 hl ih_1 => ?_)
    have hl : lv_has ls 2 [(1, .int (nI i)), (0, .ref h0)] := hl
    have hi9 : nrN on pl i = 0 := hI_3
    refine lv_iload_n hx hb d_L_canStart_13 rfl (lv_at hl 0 rfl) ?_
    refine lv_bipush (v := nI 16) hx hb d_L_canStart_14 (by decide) ?_
    refine rr_icmp_ge (a := i) (b := 16) (tgt := 51) (by omega) (by omega) hx hb d_L_canStart_16 (by decide) (fun c16 => ?_) (fun c16 => ?_)
    · refine lv_iconst (v := nI 1) hx hb d_L_canStart_51 (by decide) ?_
      exact rr_retZ (v := 1) (by first | exact bq_le _ | omega) hx hb hr hlk (congrArg nI (bq_t (by rw [show (16 : Nat) = i from by omega]; omega)).symm) d_L_canStart_52
    · refine lv_aload_n hx hb d_L_canStart_19 rfl (lv_at hl 1 rfl) ?_
      refine va_get (D := D) (ci := 1) (v := .ref h3) (C := R_L) (T := F_L) (N := 4) hx hb ht j_L hown hK.1 hP 0 rfl rfl 2 (by decide) (ht _ q_33) (fun _ h9 => h9) rfl d_L_canStart_20 ?_
      refine lv_iload_n hx hb d_L_canStart_23 rfl (lv_at hl 0 rfl) ?_
      refine rr_zald (q0 := 2) (n := 16) (f := (fun j => nI (on j))) (k := i) hx hb hK hP rfl (by omega) (by omega) d_L_canStart_24 ?_
      have hon9 := hon i (by omega)
      refine rr_if_eq (a := (on i)) (tgt := 45) (by omega) hx hb d_L_canStart_25 (by decide) (fun c25 => ?_) (fun c25 => ?_)
      · refine lv_iinc (v := nI (i + 1)) (lv' := [(1, .int (nI (i + 1))), (0, .ref h0)]) hx hb d_L_canStart_45 hl (k := 0) rfl (nI_add i 1) (by decide) rfl (fun ls hl => ?_)
        refine lv_goto (tgt := 13) hx hb d_L_canStart_48 (by decide) ?_
        exact ih_1 ls (by omega) (by rw [nrN_s, hi9, bq_f (by omega)]) (by show lv_has ls 2 [(1, .int (nI (i + 1))), (0, .ref h0)]; skip; exact lv_sub hl [0, 1] rfl)
      · refine lv_aload_n hx hb d_L_canStart_28 rfl (lv_at hl 1 rfl) ?_
        refine va_get (D := D) (ci := 1) (v := .ref h1) (C := R_L) (T := F_L) (N := 4) hx hb ht j_L hown hK.1 hP 0 rfl rfl 0 (by decide) (ht _ q_29) (fun _ h9 => h9) rfl d_L_canStart_29 ?_
        refine lv_iload_n hx hb d_L_canStart_32 rfl (lv_at hl 0 rfl) ?_
        refine rr_iald (q0 := 1) (n := 16) (f := (fun j => nI (pl j))) (k := i) hx hb hK hP rfl (by omega) (by omega) d_L_canStart_33 ?_
        refine lv_iconst (v := nI 0) hx hb d_L_canStart_34 (by decide) ?_
        have hpl9 := hpl i (by omega) (by omega)
        have hgp9 := gpN_le (pl i) 0
        refine rr_rSN (As := [.int (nI (pl i)), .int (nI 0)]) (rest := []) (idx := 26) (host := "RopeVotes") S hK (c_V_gapBetween l D cs (pl i) 0 (by first | assumption | omega) (by first | assumption | omega)) k_V_gapBetween (List.mem_of_getElem? (i := 3) rfl) ⟨Nat.le_of_ble_eq_true rfl, Nat.le_of_ble_eq_true rfl⟩ ⟨Nat.le_of_ble_eq_true rfl, Nat.le_of_ble_eq_true rfl⟩ hl (Nat.le_of_ble_eq_true rfl) rfl d_L_canStart_35 (fun r9 hr9 => ?_)
        subst hr9
        refine lv_bipush (v := nI 60) hx hb d_L_canStart_38 (by decide) ?_
        refine rr_icmp_ge (a := (gpN (pl i) 0)) (b := 60) (tgt := 45) (by omega) (by omega) hx hb d_L_canStart_40 (by decide) (fun c40 => ?_) (fun c40 => ?_)
        · refine lv_iinc (v := nI (i + 1)) (lv' := [(1, .int (nI (i + 1))), (0, .ref h0)]) hx hb d_L_canStart_45 hl (k := 0) rfl (nI_add i 1) (by decide) rfl (fun ls hl => ?_)
          refine lv_goto (tgt := 13) hx hb d_L_canStart_48 (by decide) ?_
          exact ih_1 ls (by omega) (by rw [nrN_s, hi9, bq_f (by omega)]) (by show lv_has ls 2 [(1, .int (nI (i + 1))), (0, .ref h0)]; skip; exact lv_sub hl [0, 1] rfl)
        · refine lv_iconst (v := nI 0) hx hb d_L_canStart_43 (by decide) ?_
          exact rr_retZ (v := 0) (by first | exact bq_le _ | omega) hx hb hr hlk (congrArg nI (bq_f (fun q => nrN_pos (show i < 16 by omega) (by omega) (by omega) q.2)).symm) d_L_canStart_44
  · refine lv_iconst (v := nI 0) hx hb d_L_canStart_9 (by decide) ?_
    exact rr_retZ (v := 0) (by first | exact bq_le _ | omega) hx hb hr hlk (congrArg nI (bq_f (by omega)).symm) d_L_canStart_10
theorem k_L_countOn : rr_CK y_L_countOn b_L_countOn 3 (some .int) 0 := ⟨q_542, q_543, q_2, q_544, by decide, by decide, by decide +kernel⟩
set_option maxHeartbeats 4000000 in
set_option maxRecDepth 100000 in
/-- Loop.countOn -/
theorem c_L_countOn (l : Launch) (D : va_G) (cs : rr_C3) (h0 : Nat) (h3 : Nat) (v0 : Value) (v1 : Value) (v3 : Value) (on : Nat → Nat) (hon : ∀ j, j < 16 → on j ≤ 1) : RO l y_L_countOn b_L_countOn 3 (some .int) 0 0 D cs [(h0, .inr (1, [v0, v1, .ref h3, v3])), (h3, .inl (cs.2.1, 16, .inl (fun j => nI (on j))))] [.ref h0] (fun r => r = nI (ct on 16)) := by
  refine RO.of (by decide) (Nat.le_of_ble_eq_true rfl) ?_
  intro p e s m args below meth c S hr hlk hK hP ls hl
  obtain ⟨hx, hb, hml, hown, ht⟩ := id S
  have hl : lv_has ls 3 [(0, .ref h0)] := hl
  refine lv_iconst (v := nI 0) hx hb d_L_countOn_0 (by decide) ?_
  refine lv_istore_n (lv' := [(1, .int (nI 0)), (0, .ref h0)]) hx hb d_L_countOn_1 rfl hl (by decide) rfl (fun ls hl => ?_)
  refine lv_iconst (v := nI 0) hx hb d_L_countOn_2 (by decide) ?_
  refine lv_istore_n (lv' := [(2, .int (nI 0)), (1, .int (nI 0)), (0, .ref h0)]) hx hb d_L_countOn_3 rfl hl (by decide) rfl (fun ls hl => ?_)
  refine rr_loop (fun i => [(2, .int (nI i)), (1, .int (nI (ct on i))), (0, .ref h0)]) (fun i => True) 0 16 (by omega) trivial (lv_sub hl [0, 1, 2] rfl) (fun i ls hi_2 hI_3 hl ih_1 => ?_)
  have hl : lv_has ls 3 [(2, .int (nI i)), (1, .int (nI (ct on i))), (0, .ref h0)] := hl
  refine lv_iload_n hx hb d_L_countOn_4 rfl (lv_at hl 0 rfl) ?_
  refine lv_bipush (v := nI 16) hx hb d_L_countOn_5 (by decide) ?_
  refine rr_icmp_ge (a := i) (b := 16) (tgt := 28) (by omega) (by omega) hx hb d_L_countOn_7 (by decide) (fun c7 => ?_) (fun c7 => ?_)
  · refine lv_iload_n hx hb d_L_countOn_28 rfl (lv_at hl 1 rfl) ?_
    exact rr_ret hx hb hr hlk (by rw [show i = 16 from by omega]) d_L_countOn_29
  · refine lv_aload_n hx hb d_L_countOn_10 rfl (lv_at hl 2 rfl) ?_
    refine va_get (D := D) (ci := 1) (v := .ref h3) (C := R_L) (T := F_L) (N := 4) hx hb ht j_L hown hK.1 hP 0 rfl rfl 2 (by decide) (ht _ q_33) (fun _ h9 => h9) rfl d_L_countOn_11 ?_
    refine lv_iload_n hx hb d_L_countOn_14 rfl (lv_at hl 0 rfl) ?_
    refine rr_zald (q0 := 1) (n := 16) (f := (fun j => nI (on j))) (k := i) hx hb hK hP rfl (by omega) (by omega) d_L_countOn_15 ?_
    have hon9 := hon i (by omega)
    refine rr_if_eq (a := (on i)) (tgt := 22) (by omega) hx hb d_L_countOn_16 (by decide) (fun c16 => ?_) (fun c16 => ?_)
    · refine lv_iinc (v := nI (i + 1)) (lv' := [(2, .int (nI (i + 1))), (1, .int (nI (ct on i))), (0, .ref h0)]) hx hb d_L_countOn_22 hl (k := 0) rfl (nI_add i 1) (by decide) rfl (fun ls hl => ?_)
      refine lv_goto (tgt := 4) hx hb d_L_countOn_25 (by decide) ?_
      exact ih_1 ls (by omega) trivial (by show lv_has ls 3 [(2, .int (nI (i + 1))), (1, .int (nI (ct on (i + 1)))), (0, .ref h0)]; rw [show (nI (ct on (i + 1)) : Int32) = nI (ct on i) from congrArg nI (by rw [ct_s]; omega)]; exact lv_sub hl [0, 1, 2] rfl)
    · refine lv_iinc (v := nI (ct on i + 1)) (lv' := [(1, .int (nI (ct on i + 1))), (2, .int (nI i)), (0, .ref h0)]) hx hb d_L_countOn_19 hl (k := 1) rfl (nI_add (ct on i) 1) (by decide) rfl (fun ls hl => ?_)
      refine lv_iinc (v := nI (i + 1)) (lv' := [(2, .int (nI (i + 1))), (1, .int (nI (ct on i + 1))), (0, .ref h0)]) hx hb d_L_countOn_22 hl (k := 1) rfl (nI_add i 1) (by decide) rfl (fun ls hl => ?_)
      refine lv_goto (tgt := 4) hx hb d_L_countOn_25 (by decide) ?_
      exact ih_1 ls (by omega) trivial (by show lv_has ls 3 [(2, .int (nI (i + 1))), (1, .int (nI (ct on (i + 1)))), (0, .ref h0)]; rw [show (nI (ct on (i + 1)) : Int32) = nI (ct on i + 1) from congrArg nI (by rw [ct_s]; omega)]; exact lv_sub hl [0, 1, 2] rfl)
theorem k_L_leastGapOfPairs : rr_CK y_L_leastGapOfPairs b_L_leastGapOfPairs 5 (some .int) 0 := ⟨q_550, q_551, q_2, q_552, by decide, by decide, by decide +kernel⟩
set_option maxHeartbeats 4000000 in
set_option maxRecDepth 100000 in
/-- Loop.leastGapOfPairs -/
theorem c_L_leastGapOfPairs (l : Launch) (D : va_G) (cs : rr_C3) (h0 : Nat) (h1 : Nat) (h3 : Nat) (v1 : Value) (v3 : Value) (pl : Nat → Nat) (on : Nat → Nat) (hon : ∀ j, j < 16 → on j ≤ 1) (hpl : ∀ j, j < 16 → on j = 1 → pl j < 1200) : RO l y_L_leastGapOfPairs b_L_leastGapOfPairs 5 (some .int) 2 35 D cs [(h0, .inr (1, [.ref h1, v1, .ref h3, v3])), (h1, .inl (cs.1, 16, .inl (fun j => nI (pl j)))), (h3, .inl (cs.2.1, 16, .inl (fun j => nI (on j))))] [.ref h0] (fun r => r = mI (lgo on pl 16)) := by
  refine RO.of (by decide) (Nat.le_of_ble_eq_true rfl) ?_
  intro p e s m args below meth c S hr hlk hK hP ls hl
  obtain ⟨hx, hb, hml, hown, ht⟩ := id S
  have hl : lv_has ls 5 [(0, .ref h0)] := hl
  refine lv_iconst (v := (-1)) hx hb d_L_leastGapOfPairs_0 (by decide) ?_
  refine lv_istore_n (lv' := [(1, .int (-1)), (0, .ref h0)]) hx hb d_L_leastGapOfPairs_1 rfl hl (by decide) rfl (fun ls hl => ?_)
  refine lv_iconst (v := nI 0) hx hb d_L_leastGapOfPairs_2 (by decide) ?_
  refine lv_istore_n (lv' := [(2, .int (nI 0)), (1, .int (-1)), (0, .ref h0)]) hx hb d_L_leastGapOfPairs_3 rfl hl (by decide) rfl (fun ls hl => ?_)
  refine rr_loop (fun i => [(2, .int (nI i)), (1, .int (mI (lgo on pl i))), (0, .ref h0)]) (fun i => True) 0 16 (by omega) trivial (lv_sub hl [0, 1, 2] rfl) (fun i ls hi_2 hI_3 hl ih_1 => ?_)
  have hl : lv_has ls 5 [(2, .int (nI i)), (1, .int (mI (lgo on pl i))), (0, .ref h0)] := hl
  refine lv_iload_n hx hb d_L_leastGapOfPairs_4 rfl (lv_at hl 0 rfl) ?_
  refine lv_bipush (v := nI 16) hx hb d_L_leastGapOfPairs_5 (by decide) ?_
  refine rr_icmp_ge (a := i) (b := 16) (tgt := 81) (by omega) (by omega) hx hb d_L_leastGapOfPairs_7 (by decide) (fun c7 => ?_) (fun c7 => ?_)
  · refine lv_iload_n hx hb d_L_leastGapOfPairs_81 rfl (lv_at hl 1 rfl) ?_
    exact rr_ret hx hb hr hlk (by rw [show i = 16 from by omega]) d_L_leastGapOfPairs_82
  · refine lv_iconst (v := nI 0) hx hb d_L_leastGapOfPairs_10 (by decide) ?_
    refine lv_istore_n (lv' := [(3, .int (nI 0)), (2, .int (nI i)), (1, .int (mI (lgo on pl i))), (0, .ref h0)]) hx hb d_L_leastGapOfPairs_11 rfl hl (by decide) rfl (fun ls hl => ?_)
    refine rr_loop (fun j => [(3, .int (nI j)), (1, .int (mI (lgi on pl i (lgo on pl i) j))), (2, .int (nI i)), (0, .ref h0)]) (fun j => True) 0 i (by omega) trivial (lv_sub hl [0, 2, 1, 3] rfl) (fun j ls hi_5 hI_6 hl ih_4 => ?_)
    have hl : lv_has ls 5 [(3, .int (nI j)), (1, .int (mI (lgi on pl i (lgo on pl i) j))), (2, .int (nI i)), (0, .ref h0)] := hl
    refine lv_iload_n hx hb d_L_leastGapOfPairs_12 rfl (lv_at hl 0 rfl) ?_
    refine lv_iload_n hx hb d_L_leastGapOfPairs_13 rfl (lv_at hl 2 rfl) ?_
    refine rr_icmp_ge (a := j) (b := i) (tgt := 75) (by omega) (by omega) hx hb d_L_leastGapOfPairs_14 (by decide) (fun c14 => ?_) (fun c14 => ?_)
    · refine lv_iinc (v := nI (i + 1)) (lv' := [(2, .int (nI (i + 1))), (3, .int (nI j)), (1, .int (mI (lgi on pl i (lgo on pl i) j))), (0, .ref h0)]) hx hb d_L_leastGapOfPairs_75 hl (k := 2) rfl (nI_add i 1) (by decide) rfl (fun ls hl => ?_)
      refine lv_goto (tgt := 4) hx hb d_L_leastGapOfPairs_78 (by decide) ?_
      exact ih_1 ls (by omega) trivial (by show lv_has ls 5 [(2, .int (nI (i + 1))), (1, .int (mI (lgo on pl (i + 1)))), (0, .ref h0)]; rw [show (mI (lgo on pl (i + 1)) : Int32) = mI (lgi on pl i (lgo on pl i) j) from (by rw [show j = i from by omega]; rfl)]; exact lv_sub hl [0, 2, 3] rfl)
    · refine lv_aload_n hx hb d_L_leastGapOfPairs_17 rfl (lv_at hl 3 rfl) ?_
      refine va_get (D := D) (ci := 1) (v := .ref h3) (C := R_L) (T := F_L) (N := 4) hx hb ht j_L hown hK.1 hP 0 rfl rfl 2 (by decide) (ht _ q_33) (fun _ h9 => h9) rfl d_L_leastGapOfPairs_18 ?_
      refine lv_iload_n hx hb d_L_leastGapOfPairs_21 rfl (lv_at hl 2 rfl) ?_
      refine rr_zald (q0 := 2) (n := 16) (f := (fun j => nI (on j))) (k := i) hx hb hK hP rfl (by omega) (by omega) d_L_leastGapOfPairs_22 ?_
      have hon9 := hon i (by omega)
      refine rr_if_eq (a := (on i)) (tgt := 69) (by omega) hx hb d_L_leastGapOfPairs_23 (by decide) (fun c23 => ?_) (fun c23 => ?_)
      · refine lv_iinc (v := nI (j + 1)) (lv' := [(3, .int (nI (j + 1))), (1, .int (mI (lgi on pl i (lgo on pl i) j))), (2, .int (nI i)), (0, .ref h0)]) hx hb d_L_leastGapOfPairs_69 hl (k := 0) rfl (nI_add j 1) (by decide) rfl (fun ls hl => ?_)
        refine lv_goto (tgt := 12) hx hb d_L_leastGapOfPairs_72 (by decide) ?_
        exact ih_4 ls (by omega) trivial (by show lv_has ls 5 [(3, .int (nI (j + 1))), (1, .int (mI (lgi on pl i (lgo on pl i) (j + 1)))), (2, .int (nI i)), (0, .ref h0)]; rw [show (mI (lgi on pl i (lgo on pl i) (j + 1)) : Int32) = mI (lgi on pl i (lgo on pl i) j) from (by rw [lgi_f (by omega)])]; exact lv_sub hl [0, 1, 2, 3] rfl)
      · refine lv_aload_n hx hb d_L_leastGapOfPairs_26 rfl (lv_at hl 3 rfl) ?_
        refine va_get (D := D) (ci := 1) (v := .ref h3) (C := R_L) (T := F_L) (N := 4) hx hb ht j_L hown hK.1 hP 0 rfl rfl 2 (by decide) (ht _ q_33) (fun _ h9 => h9) rfl d_L_leastGapOfPairs_27 ?_
        refine lv_iload_n hx hb d_L_leastGapOfPairs_30 rfl (lv_at hl 0 rfl) ?_
        refine rr_zald (q0 := 2) (n := 16) (f := (fun j => nI (on j))) (k := j) hx hb hK hP rfl (by omega) (by omega) d_L_leastGapOfPairs_31 ?_
        have hon8 := hon j (by omega)
        refine rr_if_eq (a := (on j)) (tgt := 69) (by omega) hx hb d_L_leastGapOfPairs_32 (by decide) (fun c32 => ?_) (fun c32 => ?_)
        · refine lv_iinc (v := nI (j + 1)) (lv' := [(3, .int (nI (j + 1))), (1, .int (mI (lgi on pl i (lgo on pl i) j))), (2, .int (nI i)), (0, .ref h0)]) hx hb d_L_leastGapOfPairs_69 hl (k := 0) rfl (nI_add j 1) (by decide) rfl (fun ls hl => ?_)
          refine lv_goto (tgt := 12) hx hb d_L_leastGapOfPairs_72 (by decide) ?_
          exact ih_4 ls (by omega) trivial (by show lv_has ls 5 [(3, .int (nI (j + 1))), (1, .int (mI (lgi on pl i (lgo on pl i) (j + 1)))), (2, .int (nI i)), (0, .ref h0)]; rw [show (mI (lgi on pl i (lgo on pl i) (j + 1)) : Int32) = mI (lgi on pl i (lgo on pl i) j) from (by rw [lgi_f (by omega)])]; exact lv_sub hl [0, 1, 2, 3] rfl)
        · refine lv_aload_n hx hb d_L_leastGapOfPairs_35 rfl (lv_at hl 3 rfl) ?_
          refine va_get (D := D) (ci := 1) (v := .ref h1) (C := R_L) (T := F_L) (N := 4) hx hb ht j_L hown hK.1 hP 0 rfl rfl 0 (by decide) (ht _ q_29) (fun _ h9 => h9) rfl d_L_leastGapOfPairs_36 ?_
          refine lv_iload_n hx hb d_L_leastGapOfPairs_39 rfl (lv_at hl 2 rfl) ?_
          refine rr_iald (q0 := 1) (n := 16) (f := (fun j => nI (pl j))) (k := i) hx hb hK hP rfl (by omega) (by omega) d_L_leastGapOfPairs_40 ?_
          refine lv_aload_n hx hb d_L_leastGapOfPairs_41 rfl (lv_at hl 3 rfl) ?_
          refine va_get (D := D) (ci := 1) (v := .ref h1) (C := R_L) (T := F_L) (N := 4) hx hb ht j_L hown hK.1 hP 0 rfl rfl 0 (by decide) (ht _ q_29) (fun _ h9 => h9) rfl d_L_leastGapOfPairs_42 ?_
          refine lv_iload_n hx hb d_L_leastGapOfPairs_45 rfl (lv_at hl 0 rfl) ?_
          refine rr_iald (q0 := 1) (n := 16) (f := (fun j => nI (pl j))) (k := j) hx hb hK hP rfl (by omega) (by omega) d_L_leastGapOfPairs_46 ?_
          have hpl9 := hpl i (by omega) (by omega)
          have hpl8 := hpl j (by omega) (by omega)
          have hgp9 := gpN_le (pl i) (pl j)
          have hac9 : lgi on pl i (lgo on pl i) j ≤ 601 := lgi_le (lgo_le i) j
          refine rr_rSN (As := [.int (nI (pl i)), .int (nI (pl j))]) (rest := []) (idx := 26) (host := "RopeVotes") S hK (c_V_gapBetween l D cs (pl i) (pl j) (by first | assumption | omega) (by first | assumption | omega)) k_V_gapBetween (List.mem_of_getElem? (i := 3) rfl) ⟨Nat.le_of_ble_eq_true rfl, Nat.le_of_ble_eq_true rfl⟩ ⟨Nat.le_of_ble_eq_true rfl, Nat.le_of_ble_eq_true rfl⟩ hl (Nat.le_of_ble_eq_true rfl) rfl d_L_leastGapOfPairs_47 (fun r9 hr9 => ?_)
          subst hr9
          refine lv_istore (lv' := [(4, .int (nI (gpN (pl i) (pl j)))), (3, .int (nI j)), (1, .int (mI (lgi on pl i (lgo on pl i) j))), (2, .int (nI i)), (0, .ref h0)]) hx hb d_L_leastGapOfPairs_50 hl (by decide) rfl (fun ls hl => ?_)
          refine lv_iload_n hx hb d_L_leastGapOfPairs_52 rfl (lv_at hl 2 rfl) ?_
          refine lv_iconst (v := (-1)) hx hb d_L_leastGapOfPairs_53 (by decide) ?_
          refine lv_icmp_ne (tgt := 62) hx hb d_L_leastGapOfPairs_54 (by decide) (fun c54 => ?_) (fun c54 => ?_)
          · have hz9 : 0 < lgi on pl i (lgo on pl i) j := Nat.pos_of_ne_zero (fun z => c54 ((mI_m1 (by omega)).mpr z))
            refine lv_iload_n hx hb d_L_leastGapOfPairs_62 rfl (lv_at hl 2 rfl) ?_
            refine rr_top (show (mI (lgi on pl i (lgo on pl i) j) : Int32) = nI ((lgi on pl i (lgo on pl i) j) - 1) from mI_pos hz9) ?_
            refine lv_iload hx hb d_L_leastGapOfPairs_63 (lv_at hl 0 rfl) ?_
            refine va_mmin hx hb (by rw [hml]; exact hl.1.symm) hown (ht _ q_553) (ht _ q_330) (ht _ q_11) (ht _ q_331) (Nat.le_of_ble_eq_true rfl) (Nat.le_of_ble_eq_true rfl) (Nat.zero_le _) (Nat.zero_le _) d_L_leastGapOfPairs_65 ?_
            refine rr_top (rr_min (a := ((lgi on pl i (lgo on pl i) j) - 1)) (b := (gpN (pl i) (pl j))) (by omega) (by omega)) ?_
            refine lv_istore_n (lv' := [(1, .int (nI (min ((lgi on pl i (lgo on pl i) j) - 1) (gpN (pl i) (pl j))))), (4, .int (nI (gpN (pl i) (pl j)))), (3, .int (nI j)), (2, .int (nI i)), (0, .ref h0)]) hx hb d_L_leastGapOfPairs_68 rfl hl (by decide) rfl (fun ls hl => ?_)
            refine lv_iinc (v := nI (j + 1)) (lv' := [(3, .int (nI (j + 1))), (1, .int (nI (min ((lgi on pl i (lgo on pl i) j) - 1) (gpN (pl i) (pl j))))), (4, .int (nI (gpN (pl i) (pl j)))), (2, .int (nI i)), (0, .ref h0)]) hx hb d_L_leastGapOfPairs_69 hl (k := 2) rfl (nI_add j 1) (by decide) rfl (fun ls hl => ?_)
            refine lv_goto (tgt := 12) hx hb d_L_leastGapOfPairs_72 (by decide) ?_
            exact ih_4 ls (by omega) trivial (by show lv_has ls 5 [(3, .int (nI (j + 1))), (1, .int (mI (lgi on pl i (lgo on pl i) (j + 1)))), (2, .int (nI i)), (0, .ref h0)]; rw [show (mI (lgi on pl i (lgo on pl i) (j + 1)) : Int32) = nI (min ((lgi on pl i (lgo on pl i) j) - 1) (gpN (pl i) (pl j))) from (by rw [lgi_t (by omega), mgn_1 hz9])]; exact lv_sub hl [0, 1, 3, 4] rfl)
          · have hz9 : lgi on pl i (lgo on pl i) j = 0 := (mI_m1 (by omega)).mp c54
            refine lv_iload hx hb d_L_leastGapOfPairs_57 (lv_at hl 0 rfl) ?_
            refine lv_goto (tgt := 68) hx hb d_L_leastGapOfPairs_59 (by decide) ?_
            refine lv_istore_n (lv' := [(1, .int (nI (gpN (pl i) (pl j)))), (4, .int (nI (gpN (pl i) (pl j)))), (3, .int (nI j)), (2, .int (nI i)), (0, .ref h0)]) hx hb d_L_leastGapOfPairs_68 rfl hl (by decide) rfl (fun ls hl => ?_)
            refine lv_iinc (v := nI (j + 1)) (lv' := [(3, .int (nI (j + 1))), (1, .int (nI (gpN (pl i) (pl j)))), (4, .int (nI (gpN (pl i) (pl j)))), (2, .int (nI i)), (0, .ref h0)]) hx hb d_L_leastGapOfPairs_69 hl (k := 2) rfl (nI_add j 1) (by decide) rfl (fun ls hl => ?_)
            refine lv_goto (tgt := 12) hx hb d_L_leastGapOfPairs_72 (by decide) ?_
            exact ih_4 ls (by omega) trivial (by show lv_has ls 5 [(3, .int (nI (j + 1))), (1, .int (mI (lgi on pl i (lgo on pl i) (j + 1)))), (2, .int (nI i)), (0, .ref h0)]; rw [show (mI (lgi on pl i (lgo on pl i) (j + 1)) : Int32) = nI (gpN (pl i) (pl j)) from (by rw [lgi_t (by omega), mgn_0 hz9])]; exact lv_sub hl [0, 1, 3, 4] rfl)
theorem k_L_start : rr_CK y_L_start b_L_start 3 (some .int) 1 := ⟨q_463, q_464, q_2, q_465, by decide, by decide, by decide +kernel⟩
set_option maxHeartbeats 4000000 in
set_option maxRecDepth 100000 in
/-- Loop.start -/
theorem c_L_start (l : Launch) (D : va_G) (cs : rr_C3) (h0 : Nat) (h1 : Nat) (h2 : Nat) (h3 : Nat) (st : Nat) (pl : Nat → Nat) (ts : Nat → Nat) (on : Nat → Nat) (U : Nat) (hst : st < 16) (sz : Nat) : MI l y_L_start b_L_start 3 (some .int) 0 0 0 0 D cs [(h0, .inr (1, [.ref h1, .ref h2, .ref h3, .int (nI st)])), (h1, .inl (cs.1, 16, .inl (fun j => nI (pl j)))), (h2, .inl (cs.1, 16, .inl (fun j => nI (ts j)))), (h3, .inl (cs.2.1, 16, .inl (fun j => nI (on j))))] sz [.ref h0, .int (nI U)] (fun (r : Int32) (_ : Unit) => r = nI st) (fun _ : Unit => [(h0, .inr (1, [.ref h1, .ref h2, .ref h3, .int (nI (st + 1))])), (h1, .inl (cs.1, 16, .inl (fun j => nI ((va_up pl st 0) j)))), (h2, .inl (cs.1, 16, .inl (fun j => nI ((va_up ts st U) j)))), (h3, .inl (cs.2.1, 16, .inl (fun j => nI ((va_up on st 1) j))))]) := by
  refine MI.of (by decide) (Nat.le_of_ble_eq_true rfl) ?_
  intro p e s m args below meth c A S hr hlk hnm hK hP hD hA hS ls hl
  obtain ⟨hx, hb, hml, hown, ht⟩ := id S
  have hl : lv_has ls 3 [(0, .ref h0), (1, .int (nI U))] := hl
  have hS : va_S A s.heap s.heap [] := hS
  refine lv_aload_n hx hb d_L_start_0 rfl (lv_at hl 0 rfl) ?_
  refine va_get (D := D) (ci := 1) (v := .int (nI st)) (C := R_L) (T := F_L) (N := 4) hx hb ht j_L hown hK.1 hP 0 rfl rfl 3 (by decide) (ht _ q_35) (fun _ h9 => h9) rfl d_L_start_1 ?_
  refine lv_istore_n (lv' := [(2, .int (nI st)), (0, .ref h0), (1, .int (nI U))]) hx hb d_L_start_4 rfl hl (by decide) rfl (fun ls hl => ?_)
  refine lv_iload_n hx hb d_L_start_5 rfl (lv_at hl 0 rfl) ?_
  refine lv_bipush (v := nI 16) hx hb d_L_start_6 (by decide) ?_
  refine rr_icmp_ge (a := st) (b := 16) (tgt := 42) (by omega) (by omega) hx hb d_L_start_8 (by decide) (fun c8 => ?_) (fun c8 => ?_)
  · exact (by omega : False).elim
  · refine lv_aload_n hx hb d_L_start_11 rfl (lv_at hl 1 rfl) ?_
    refine lv_dup hx hb d_L_start_12 rfl ?_
    refine va_get (D := D) (ci := 1) (v := .int (nI st)) (C := R_L) (T := F_L) (N := 4) hx hb ht j_L hown hK.1 hP 0 rfl rfl 3 (by decide) (ht _ q_35) (fun _ h9 => h9) rfl d_L_start_13 ?_
    refine lv_iconst (v := nI 1) hx hb d_L_start_16 (by decide) ?_
    refine rr_iadd (a := st) (b := 1) hx hb d_L_start_17 ?_
    refine va_put (D := D) (ci := 1) (v := .int (nI (st + 1))) (ty := .int) (C := R_L) (T := F_L) (N := 4) hx hb ht j_L t_L t_L_ok n_L hown hK.1 hP hD hS 0 rfl rfl 3 (by decide) (ht _ q_35) (fun _ h9 => h9) rfl (by decide +kernel) rfl rfl (Nat.le_of_ble_eq_true rfl) d_L_start_18 (fun H locs hP hD hS => ?_)
    have hP : va_P D classes [(h0, .inr (1, [.ref h1, .ref h2, .ref h3, .int (nI (st + 1))])), (h1, .inl (cs.1, 16, .inl (fun j => nI (pl j)))), (h2, .inl (cs.1, 16, .inl (fun j => nI (ts j)))), (h3, .inl (cs.2.1, 16, .inl (fun j => nI (on j))))] H := hP
    have hD : va_D A [(h0, .inr (1, [.ref h1, .ref h2, .ref h3, .int (nI (st + 1))])), (h1, .inl (cs.1, 16, .inl (fun j => nI (pl j)))), (h2, .inl (cs.1, 16, .inl (fun j => nI (ts j)))), (h3, .inl (cs.2.1, 16, .inl (fun j => nI (on j))))] := hD
    refine lv_aload_n hx hb d_L_start_21 rfl (lv_at hl 1 rfl) ?_
    refine va_get (D := D) (ci := 1) (v := .ref h1) (C := R_L) (T := F_L) (N := 4) hx hb ht j_L hown hK.1 hP 0 rfl rfl 0 (by decide) (ht _ q_29) (fun _ h9 => h9) rfl d_L_start_22 ?_
    refine lv_iload_n hx hb d_L_start_25 rfl (lv_at hl 0 rfl) ?_
    refine lv_iconst (v := nI 0) hx hb d_L_start_26 (by decide) ?_
    refine rr_iast (q0 := 1) (n := 16) nI pl (k := st) (v := 0) hx hb hK hP hD hS rfl (by omega) (by omega) d_L_start_27 (fun H locs hP hD hS => ?_)
    have hP : va_P D classes [(h0, .inr (1, [.ref h1, .ref h2, .ref h3, .int (nI (st + 1))])), (h1, .inl (cs.1, 16, .inl (fun j => nI ((va_up pl st 0) j)))), (h2, .inl (cs.1, 16, .inl (fun j => nI (ts j)))), (h3, .inl (cs.2.1, 16, .inl (fun j => nI (on j))))] H := hP
    have hD : va_D A [(h0, .inr (1, [.ref h1, .ref h2, .ref h3, .int (nI (st + 1))])), (h1, .inl (cs.1, 16, .inl (fun j => nI ((va_up pl st 0) j)))), (h2, .inl (cs.1, 16, .inl (fun j => nI (ts j)))), (h3, .inl (cs.2.1, 16, .inl (fun j => nI (on j))))] := hD
    refine lv_aload_n hx hb d_L_start_28 rfl (lv_at hl 1 rfl) ?_
    refine va_get (D := D) (ci := 1) (v := .ref h2) (C := R_L) (T := F_L) (N := 4) hx hb ht j_L hown hK.1 hP 0 rfl rfl 1 (by decide) (ht _ q_31) (fun _ h9 => h9) rfl d_L_start_29 ?_
    refine lv_iload_n hx hb d_L_start_32 rfl (lv_at hl 0 rfl) ?_
    refine lv_iload_n hx hb d_L_start_33 rfl (lv_at hl 2 rfl) ?_
    refine rr_iast (q0 := 2) (n := 16) nI ts (k := st) (v := U) hx hb hK hP hD hS rfl (by omega) (by omega) d_L_start_34 (fun H locs hP hD hS => ?_)
    have hP : va_P D classes [(h0, .inr (1, [.ref h1, .ref h2, .ref h3, .int (nI (st + 1))])), (h1, .inl (cs.1, 16, .inl (fun j => nI ((va_up pl st 0) j)))), (h2, .inl (cs.1, 16, .inl (fun j => nI ((va_up ts st U) j)))), (h3, .inl (cs.2.1, 16, .inl (fun j => nI (on j))))] H := hP
    have hD : va_D A [(h0, .inr (1, [.ref h1, .ref h2, .ref h3, .int (nI (st + 1))])), (h1, .inl (cs.1, 16, .inl (fun j => nI ((va_up pl st 0) j)))), (h2, .inl (cs.1, 16, .inl (fun j => nI ((va_up ts st U) j)))), (h3, .inl (cs.2.1, 16, .inl (fun j => nI (on j))))] := hD
    refine lv_aload_n hx hb d_L_start_35 rfl (lv_at hl 1 rfl) ?_
    refine va_get (D := D) (ci := 1) (v := .ref h3) (C := R_L) (T := F_L) (N := 4) hx hb ht j_L hown hK.1 hP 0 rfl rfl 2 (by decide) (ht _ q_33) (fun _ h9 => h9) rfl d_L_start_36 ?_
    refine lv_iload_n hx hb d_L_start_39 rfl (lv_at hl 0 rfl) ?_
    refine lv_iconst (v := nI 1) hx hb d_L_start_40 (by decide) ?_
    refine rr_zast (q0 := 3) (n := 16) on (k := st) (v := 1) (by omega) hx hb hK hP hD hS rfl (by omega) (by omega) d_L_start_41 (fun H locs hP hD hS => ?_)
    have hP : va_P D classes [(h0, .inr (1, [.ref h1, .ref h2, .ref h3, .int (nI (st + 1))])), (h1, .inl (cs.1, 16, .inl (fun j => nI ((va_up pl st 0) j)))), (h2, .inl (cs.1, 16, .inl (fun j => nI ((va_up ts st U) j)))), (h3, .inl (cs.2.1, 16, .inl (fun j => nI ((va_up on st 1) j))))] H := hP
    have hD : va_D A [(h0, .inr (1, [.ref h1, .ref h2, .ref h3, .int (nI (st + 1))])), (h1, .inl (cs.1, 16, .inl (fun j => nI ((va_up pl st 0) j)))), (h2, .inl (cs.1, 16, .inl (fun j => nI ((va_up ts st U) j)))), (h3, .inl (cs.2.1, 16, .inl (fun j => nI ((va_up on st 1) j))))] := hD
    refine lv_iload_n hx hb d_L_start_42 rfl (lv_at hl 0 rfl) ?_
    exact rr_mret () hx hb hr hlk hP hD hS rfl d_L_start_43
end
section
theorem k_C_isFresh : rr_CK y_C_isFresh b_C_isFresh 3 (some .boolean) 2 := ⟨q_286, q_287, q_5, q_288, by decide, by decide, by decide +kernel⟩
set_option maxHeartbeats 4000000 in
set_option maxRecDepth 100000 in
/-- Control.isFresh -/
theorem c_C_isFresh (l : Launch) (D : va_G) (cs : rr_C3) (h0 : Nat) (h2 : Nat) (v0 : Value) (vt : Nat → Nat) (k : Nat) (T : Nat) (hk : k < 7) (hvt : ∀ j, j < 7 → vt j ≤ T) (hT : T ≤ 1000) : RO l y_C_isFresh b_C_isFresh 3 (some .boolean) 0 0 D cs [(h0, .inr (0, [v0, .ref h2])), (h2, .inl (cs.1, 7, .inl (fun j => zI (vt j))))] [.ref h0, .int (nI k), .int (nI T)] (fun r => r = nI (bq (frP T vt k))) := by
  refine RO.of (by decide) (Nat.le_of_ble_eq_true rfl) ?_
  intro p e s m args below meth c S hr hlk hK hP ls hl
  obtain ⟨hx, hb, hml, hown, ht⟩ := id S
  have hl : lv_has ls 3 [(0, .ref h0), (1, .int (nI k)), (2, .int (nI T))] := hl
  have hvt9 := hvt k hk
  refine lv_aload_n hx hb d_C_isFresh_0 rfl (lv_at hl 0 rfl) ?_
  refine va_get (D := D) (ci := 0) (v := .ref h2) (C := R_C) (T := F_C) (N := 2) hx hb ht j_C hown hK.1 hP 0 rfl rfl 1 (by decide) (ht _ q_91) (fun _ h9 => h9) rfl d_C_isFresh_1 ?_
  refine lv_iload_n hx hb d_C_isFresh_4 rfl (lv_at hl 1 rfl) ?_
  refine rr_iald (q0 := 1) (n := 7) (f := (fun j => zI (vt j))) (k := k) hx hb hK hP rfl (by omega) (by omega) d_C_isFresh_5 ?_
  refine lv_iconst (v := (-1)) hx hb d_C_isFresh_6 (by decide) ?_
  refine lv_icmp_eq (tgt := 26) hx hb d_C_isFresh_7 (by decide) (fun c7 => ?_) (fun c7 => ?_)
  · have hz9 : vt k = 0 := (zI_m1 (by omega)).mp c7
    refine lv_iconst (v := nI 0) hx hb d_C_isFresh_26 (by decide) ?_
    exact rr_retZ (v := 0) (by first | exact bq_le _ | omega) hx hb hr hlk (congrArg nI (bq_f (by unfold frP; omega)).symm) d_C_isFresh_27
  · have hz9 : 0 < vt k := Nat.pos_of_ne_zero (fun z => c7 ((zI_m1 (by omega)).mpr z))
    refine lv_iload_n hx hb d_C_isFresh_10 rfl (lv_at hl 2 rfl) ?_
    refine lv_aload_n hx hb d_C_isFresh_11 rfl (lv_at hl 0 rfl) ?_
    refine va_get (D := D) (ci := 0) (v := .ref h2) (C := R_C) (T := F_C) (N := 2) hx hb ht j_C hown hK.1 hP 0 rfl rfl 1 (by decide) (ht _ q_91) (fun _ h9 => h9) rfl d_C_isFresh_12 ?_
    refine lv_iload_n hx hb d_C_isFresh_15 rfl (lv_at hl 1 rfl) ?_
    refine rr_iald (q0 := 1) (n := 7) (f := (fun j => zI (vt j))) (k := k) hx hb hK hP rfl (by omega) (by omega) d_C_isFresh_16 ?_
    refine rr_top (show (zI (vt k) : Int32) = nI (vt k) from zI_pos (by omega)) ?_
    refine rr_isub (a := T) (b := (vt k)) (by omega) hx hb d_C_isFresh_17 ?_
    refine lv_iconst (v := nI 3) hx hb d_C_isFresh_18 (by decide) ?_
    refine rr_icmp_gt (a := (T - (vt k))) (b := 3) (tgt := 26) (by omega) (by omega) hx hb d_C_isFresh_19 (by decide) (fun c19 => ?_) (fun c19 => ?_)
    · refine lv_iconst (v := nI 0) hx hb d_C_isFresh_26 (by decide) ?_
      exact rr_retZ (v := 0) (by first | exact bq_le _ | omega) hx hb hr hlk (congrArg nI (bq_f (by unfold frP; omega)).symm) d_C_isFresh_27
    · refine lv_iconst (v := nI 1) hx hb d_C_isFresh_22 (by decide) ?_
      refine lv_goto (tgt := 27) hx hb d_C_isFresh_23 (by decide) ?_
      exact rr_retZ (v := 1) (by first | exact bq_le _ | omega) hx hb hr hlk (congrArg nI (bq_t (by unfold frP; omega)).symm) d_C_isFresh_27
theorem k_C_freshSet : rr_CK y_C_freshSet b_C_freshSet 4 (some .int) 1 := ⟨q_355, q_356, q_5, q_357, by decide, by decide, by decide +kernel⟩
set_option maxHeartbeats 4000000 in
set_option maxRecDepth 100000 in
/-- Control.freshSet -/
theorem c_C_freshSet (l : Launch) (D : va_G) (cs : rr_C3) (h0 : Nat) (h2 : Nat) (v0 : Value) (vt : Nat → Nat) (T : Nat) (hvt : ∀ j, j < 7 → vt j ≤ T) (hT : T ≤ 1000) : RO l y_C_freshSet b_C_freshSet 4 (some .int) 1 22 D cs [(h0, .inr (0, [v0, .ref h2])), (h2, .inl (cs.1, 7, .inl (fun j => zI (vt j))))] [.ref h0, .int (nI T)] (fun r => r = fsI T vt 7) := by
  refine RO.of (by decide) (Nat.le_of_ble_eq_true rfl) ?_
  intro p e s m args below meth c S hr hlk hK hP ls hl
  obtain ⟨hx, hb, hml, hown, ht⟩ := id S
  have hl : lv_has ls 4 [(0, .ref h0), (1, .int (nI T))] := hl
  refine lv_iconst (v := nI 0) hx hb d_C_freshSet_0 (by decide) ?_
  refine lv_istore_n (lv' := [(2, .int (nI 0)), (0, .ref h0), (1, .int (nI T))]) hx hb d_C_freshSet_1 rfl hl (by decide) rfl (fun ls hl => ?_)
  refine lv_iconst (v := nI 0) hx hb d_C_freshSet_2 (by decide) ?_
  refine lv_istore_n (lv' := [(3, .int (nI 0)), (2, .int (nI 0)), (0, .ref h0), (1, .int (nI T))]) hx hb d_C_freshSet_3 rfl hl (by decide) rfl (fun ls hl => ?_)
  refine rr_loop (fun i => [(3, .int (nI i)), (2, .int (fsI T vt i)), (0, .ref h0), (1, .int (nI T))]) (fun i => True) 0 7 (by omega) trivial (by show lv_has ls 4 [(3, .int (nI 0)), (2, .int (fsI T vt 0)), (0, .ref h0), (1, .int (nI T))]; rw [show fsI T vt 0 = nI 0 from rfl]; exact lv_sub hl [0, 1, 2, 3] rfl) (fun i ls hi_2 hI_3 hl ih_1 => ?_)
  have hl : lv_has ls 4 [(3, .int (nI i)), (2, .int (fsI T vt i)), (0, .ref h0), (1, .int (nI T))] := hl
  refine lv_iload_n hx hb d_C_freshSet_4 rfl (lv_at hl 0 rfl) ?_
  refine lv_bipush (v := nI 7) hx hb d_C_freshSet_5 (by decide) ?_
  refine rr_icmp_ge (a := i) (b := 7) (tgt := 31) (by omega) (by omega) hx hb d_C_freshSet_7 (by decide) (fun c7 => ?_) (fun c7 => ?_)
  · refine lv_iload_n hx hb d_C_freshSet_31 rfl (lv_at hl 1 rfl) ?_
    exact rr_ret hx hb hr hlk (by rw [show i = 7 from by omega]) d_C_freshSet_32
  · refine lv_aload_n hx hb d_C_freshSet_10 rfl (lv_at hl 2 rfl) ?_
    refine lv_iload_n hx hb d_C_freshSet_11 rfl (lv_at hl 0 rfl) ?_
    refine lv_iload_n hx hb d_C_freshSet_12 rfl (lv_at hl 3 rfl) ?_
    refine rr_rV (As := [.int (nI i), .int (nI T)]) (rest := []) (idx := 18) (q0 := 0) (ci := 0) S hK hP (c_C_isFresh l D cs h0 h2 v0 vt i T (by first | assumption | omega) (by first | assumption | omega) (by first | assumption | omega)) k_C_isFresh [0, 1] rfl rfl rfl rfl q_285 ⟨Nat.le_of_ble_eq_true rfl, Nat.le_of_ble_eq_true rfl⟩ ⟨Nat.le_of_ble_eq_true rfl, Nat.le_of_ble_eq_true rfl⟩ hl (Nat.le_of_ble_eq_true rfl) rfl d_C_freshSet_13 (fun r9 hr9 => ?_)
    subst hr9
    refine rr_bq_eq (tgt := 25) hx hb d_C_freshSet_16 (by decide) (fun c16 => ?_) (fun c16 => ?_)
    · refine lv_iinc (v := nI (i + 1)) (lv' := [(3, .int (nI (i + 1))), (2, .int (fsI T vt i)), (0, .ref h0), (1, .int (nI T))]) hx hb d_C_freshSet_25 hl (k := 0) rfl (nI_add i 1) (by decide) rfl (fun ls hl => ?_)
      refine lv_goto (tgt := 4) hx hb d_C_freshSet_28 (by decide) ?_
      exact ih_1 ls (by omega) trivial (by show lv_has ls 4 [(3, .int (nI (i + 1))), (2, .int (fsI T vt (i + 1))), (0, .ref h0), (1, .int (nI T))]; rw [show (fsI T vt (i + 1) : Int32) = fsI T vt i from (by rw [fsI_f c16])]; exact lv_sub hl [0, 1, 2, 3] rfl)
    · refine lv_iload_n hx hb d_C_freshSet_19 rfl (lv_at hl 1 rfl) ?_
      refine lv_iconst (v := nI 1) hx hb d_C_freshSet_20 (by decide) ?_
      refine lv_iload_n hx hb d_C_freshSet_21 rfl (lv_at hl 0 rfl) ?_
      refine lv_ishl hx hb d_C_freshSet_22 ?_
      refine lv_ior hx hb d_C_freshSet_23 ?_
      refine lv_istore_n (lv' := [(2, .int ((fsI T vt i) ||| ((nI 1) <<< ((nI i) &&& 31)))), (3, .int (nI i)), (0, .ref h0), (1, .int (nI T))]) hx hb d_C_freshSet_24 rfl hl (by decide) rfl (fun ls hl => ?_)
      refine lv_iinc (v := nI (i + 1)) (lv' := [(3, .int (nI (i + 1))), (2, .int ((fsI T vt i) ||| ((nI 1) <<< ((nI i) &&& 31)))), (0, .ref h0), (1, .int (nI T))]) hx hb d_C_freshSet_25 hl (k := 1) rfl (nI_add i 1) (by decide) rfl (fun ls hl => ?_)
      refine lv_goto (tgt := 4) hx hb d_C_freshSet_28 (by decide) ?_
      exact ih_1 ls (by omega) trivial (by show lv_has ls 4 [(3, .int (nI (i + 1))), (2, .int (fsI T vt (i + 1))), (0, .ref h0), (1, .int (nI T))]; rw [show (fsI T vt (i + 1) : Int32) = (fsI T vt i) ||| ((nI 1) <<< ((nI i) &&& 31)) from (by rw [fsI_t c16])]; exact lv_sub hl [0, 1, 2, 3] rfl)
theorem k_C_countFresh : rr_CK y_C_countFresh b_C_countFresh 5 (some .int) 2 := ⟨q_282, q_283, q_5, q_284, by decide, by decide, by decide +kernel⟩
set_option maxHeartbeats 4000000 in
set_option maxRecDepth 100000 in
/-- Control.countFresh -/
theorem c_C_countFresh (l : Launch) (D : va_G) (cs : rr_C3) (h0 : Nat) (h1 : Nat) (h2 : Nat) (cb : Nat → Nat) (vt : Nat → Nat) (k : Nat) (T : Nat) (hk : k ≤ 2) (hcb : ∀ j, j < 7 → cb j ≤ 3) (hvt : ∀ j, j < 7 → vt j ≤ T) (hT : T ≤ 1000) : RO l y_C_countFresh b_C_countFresh 5 (some .int) 1 22 D cs [(h0, .inr (0, [.ref h1, .ref h2])), (h1, .inl (cs.1, 7, .inl (fun j => mI (cb j)))), (h2, .inl (cs.1, 7, .inl (fun j => zI (vt j))))] [.ref h0, .int (nI k), .int (nI T)] (fun r => r = nI (cfN T cb vt k 7)) := by
  refine RO.of (by decide) (Nat.le_of_ble_eq_true rfl) ?_
  intro p e s m args below meth c S hr hlk hK hP ls hl
  obtain ⟨hx, hb, hml, hown, ht⟩ := id S
  have hl : lv_has ls 5 [(0, .ref h0), (1, .int (nI k)), (2, .int (nI T))] := hl
  refine lv_iconst (v := nI 0) hx hb d_C_countFresh_0 (by decide) ?_
  refine lv_istore_n (lv' := [(3, .int (nI 0)), (0, .ref h0), (1, .int (nI k)), (2, .int (nI T))]) hx hb d_C_countFresh_1 rfl hl (by decide) rfl (fun ls hl => ?_)
  refine lv_iconst (v := nI 0) hx hb d_C_countFresh_2 (by decide) ?_
  refine lv_istore (lv' := [(4, .int (nI 0)), (3, .int (nI 0)), (0, .ref h0), (1, .int (nI k)), (2, .int (nI T))]) hx hb d_C_countFresh_3 hl (by decide) rfl (fun ls hl => ?_)
  refine rr_loop (fun i => [(4, .int (nI i)), (3, .int (nI (cfN T cb vt k i))), (0, .ref h0), (1, .int (nI k)), (2, .int (nI T))]) (fun i => True) 0 7 (by omega) trivial (lv_sub hl [0, 1, 2, 3, 4] rfl) (fun i ls hi_2 hI_3 hl ih_1 => ?_)
  have hl : lv_has ls 5 [(4, .int (nI i)), (3, .int (nI (cfN T cb vt k i))), (0, .ref h0), (1, .int (nI k)), (2, .int (nI T))] := hl
  refine lv_iload hx hb d_C_countFresh_5 (lv_at hl 0 rfl) ?_
  refine lv_bipush (v := nI 7) hx hb d_C_countFresh_7 (by decide) ?_
  refine rr_icmp_ge (a := i) (b := 7) (tgt := 42) (by omega) (by omega) hx hb d_C_countFresh_9 (by decide) (fun c9 => ?_) (fun c9 => ?_)
  · refine lv_iload_n hx hb d_C_countFresh_42 rfl (lv_at hl 1 rfl) ?_
    exact rr_ret hx hb hr hlk (by rw [show i = 7 from by omega]) d_C_countFresh_43
  · refine lv_aload_n hx hb d_C_countFresh_12 rfl (lv_at hl 2 rfl) ?_
    refine va_get (D := D) (ci := 0) (v := .ref h1) (C := R_C) (T := F_C) (N := 2) hx hb ht j_C hown hK.1 hP 0 rfl rfl 0 (by decide) (ht _ q_89) (fun _ h9 => h9) rfl d_C_countFresh_13 ?_
    refine lv_iload hx hb d_C_countFresh_16 (lv_at hl 0 rfl) ?_
    refine rr_iald (q0 := 1) (n := 7) (f := (fun j => mI (cb j))) (k := i) hx hb hK hP rfl (by omega) (by omega) d_C_countFresh_18 ?_
    refine lv_iload_n hx hb d_C_countFresh_19 rfl (lv_at hl 3 rfl) ?_
    have hcb9 := hcb i (by omega)
    refine lv_icmp_ne (tgt := 36) hx hb d_C_countFresh_20 (by decide) (fun c20 => ?_) (fun c20 => ?_)
    · have hz9 : ¬ cb i = k + 1 := fun z => c20 ((mI_eq (by omega) (by omega)).mpr z)
      refine lv_iinc (v := nI (i + 1)) (lv' := [(4, .int (nI (i + 1))), (3, .int (nI (cfN T cb vt k i))), (0, .ref h0), (1, .int (nI k)), (2, .int (nI T))]) hx hb d_C_countFresh_36 hl (k := 0) rfl (nI_add i 1) (by decide) rfl (fun ls hl => ?_)
      refine lv_goto (tgt := 5) hx hb d_C_countFresh_39 (by decide) ?_
      exact ih_1 ls (by omega) trivial (by show lv_has ls 5 [(4, .int (nI (i + 1))), (3, .int (nI (cfN T cb vt k (i + 1)))), (0, .ref h0), (1, .int (nI k)), (2, .int (nI T))]; rw [show (nI (cfN T cb vt k (i + 1)) : Int32) = nI (cfN T cb vt k i) from congrArg nI (by rw [cfN_s, bq_f (by omega), Nat.add_zero])]; exact lv_sub hl [0, 1, 2, 3, 4] rfl)
    · have hz9 : cb i = k + 1 := (mI_eq (by omega) (by omega)).mp c20
      refine lv_aload_n hx hb d_C_countFresh_23 rfl (lv_at hl 2 rfl) ?_
      refine lv_iload hx hb d_C_countFresh_24 (lv_at hl 0 rfl) ?_
      refine lv_iload_n hx hb d_C_countFresh_26 rfl (lv_at hl 4 rfl) ?_
      refine rr_rV (As := [.int (nI i), .int (nI T)]) (rest := []) (idx := 18) (q0 := 0) (ci := 0) S hK hP (c_C_isFresh l D cs h0 h2 (.ref h1) vt i T (by first | assumption | omega) (by first | assumption | omega) (by first | assumption | omega)) k_C_isFresh [0, 2] rfl rfl rfl rfl q_285 ⟨Nat.le_of_ble_eq_true rfl, Nat.le_of_ble_eq_true rfl⟩ ⟨Nat.le_of_ble_eq_true rfl, Nat.le_of_ble_eq_true rfl⟩ hl (Nat.le_of_ble_eq_true rfl) rfl d_C_countFresh_27 (fun r9 hr9 => ?_)
      subst hr9
      refine rr_bq_eq (tgt := 36) hx hb d_C_countFresh_30 (by decide) (fun c30 => ?_) (fun c30 => ?_)
      · refine lv_iinc (v := nI (i + 1)) (lv' := [(4, .int (nI (i + 1))), (3, .int (nI (cfN T cb vt k i))), (0, .ref h0), (1, .int (nI k)), (2, .int (nI T))]) hx hb d_C_countFresh_36 hl (k := 0) rfl (nI_add i 1) (by decide) rfl (fun ls hl => ?_)
        refine lv_goto (tgt := 5) hx hb d_C_countFresh_39 (by decide) ?_
        exact ih_1 ls (by omega) trivial (by show lv_has ls 5 [(4, .int (nI (i + 1))), (3, .int (nI (cfN T cb vt k (i + 1)))), (0, .ref h0), (1, .int (nI k)), (2, .int (nI T))]; rw [show (nI (cfN T cb vt k (i + 1)) : Int32) = nI (cfN T cb vt k i) from congrArg nI (by rw [cfN_s, bq_f (by omega), Nat.add_zero])]; exact lv_sub hl [0, 1, 2, 3, 4] rfl)
      · refine lv_iinc (v := nI (cfN T cb vt k i + 1)) (lv' := [(3, .int (nI (cfN T cb vt k i + 1))), (4, .int (nI i)), (0, .ref h0), (1, .int (nI k)), (2, .int (nI T))]) hx hb d_C_countFresh_33 hl (k := 1) rfl (nI_add (cfN T cb vt k i) 1) (by decide) rfl (fun ls hl => ?_)
        refine lv_iinc (v := nI (i + 1)) (lv' := [(4, .int (nI (i + 1))), (3, .int (nI (cfN T cb vt k i + 1))), (0, .ref h0), (1, .int (nI k)), (2, .int (nI T))]) hx hb d_C_countFresh_36 hl (k := 1) rfl (nI_add i 1) (by decide) rfl (fun ls hl => ?_)
        refine lv_goto (tgt := 5) hx hb d_C_countFresh_39 (by decide) ?_
        exact ih_1 ls (by omega) trivial (by show lv_has ls 5 [(4, .int (nI (i + 1))), (3, .int (nI (cfN T cb vt k (i + 1)))), (0, .ref h0), (1, .int (nI k)), (2, .int (nI T))]; rw [show (nI (cfN T cb vt k (i + 1)) : Int32) = nI (cfN T cb vt k i + 1) from congrArg nI (by rw [cfN_s, bq_t (by omega)])]; exact lv_sub hl [0, 1, 2, 3, 4] rfl)
theorem k_C_speedByVotes : rr_CK y_C_speedByVotes b_C_speedByVotes 5 (some .int) 1 := ⟨q_278, q_279, q_5, q_280, by decide, by decide, by decide +kernel⟩
set_option maxHeartbeats 4000000 in
set_option maxRecDepth 100000 in
/-- Control.speedByVotes -/
theorem c_C_speedByVotes (l : Launch) (D : va_G) (cs : rr_C3) (h0 : Nat) (h1 : Nat) (h2 : Nat) (cb : Nat → Nat) (vt : Nat → Nat) (T : Nat) (hcb : ∀ j, j < 7 → cb j ≤ 3) (hvt : ∀ j, j < 7 → vt j ≤ T) (hT : T ≤ 1000) : RO l y_C_speedByVotes b_C_speedByVotes 5 (some .int) 2 46 D cs [(h0, .inr (0, [.ref h1, .ref h2])), (h1, .inl (cs.1, 7, .inl (fun j => mI (cb j)))), (h2, .inl (cs.1, 7, .inl (fun j => zI (vt j))))] [.ref h0, .int (nI T)] (fun r => r = nI (dcN (cfN T cb vt 2 7) (cfN T cb vt 1 7) (cfN T cb vt 0 7))) := by
  refine RO.of (by decide) (Nat.le_of_ble_eq_true rfl) ?_
  intro p e s m args below meth c S hr hlk hK hP ls hl
  obtain ⟨hx, hb, hml, hown, ht⟩ := id S
  have hl : lv_has ls 5 [(0, .ref h0), (1, .int (nI T))] := hl
  have hf2 := cfN_le T cb vt 2 7
  have hf1 := cfN_le T cb vt 1 7
  have hf0 := cfN_le T cb vt 0 7
  refine lv_aload_n hx hb d_C_speedByVotes_0 rfl (lv_at hl 0 rfl) ?_
  refine lv_iconst (v := nI 2) hx hb d_C_speedByVotes_1 (by decide) ?_
  refine lv_iload_n hx hb d_C_speedByVotes_2 rfl (lv_at hl 1 rfl) ?_
  refine rr_rV (As := [.int (nI 2), .int (nI T)]) (rest := []) (idx := 22) (q0 := 0) (ci := 0) S hK hP (c_C_countFresh l D cs h0 h1 h2 cb vt 2 T (by first | assumption | omega) (by first | assumption | omega) (by first | assumption | omega) (by first | assumption | omega)) k_C_countFresh [0, 1, 2] rfl rfl rfl rfl q_281 ⟨Nat.le_of_ble_eq_true rfl, Nat.le_of_ble_eq_true rfl⟩ ⟨Nat.le_of_ble_eq_true rfl, Nat.le_of_ble_eq_true rfl⟩ hl (Nat.le_of_ble_eq_true rfl) rfl d_C_speedByVotes_3 (fun r9 hr9 => ?_)
  subst hr9
  refine lv_istore_n (lv' := [(2, .int (nI (cfN T cb vt 2 7))), (0, .ref h0), (1, .int (nI T))]) hx hb d_C_speedByVotes_6 rfl hl (by decide) rfl (fun ls hl => ?_)
  refine lv_aload_n hx hb d_C_speedByVotes_7 rfl (lv_at hl 1 rfl) ?_
  refine lv_iconst (v := nI 1) hx hb d_C_speedByVotes_8 (by decide) ?_
  refine lv_iload_n hx hb d_C_speedByVotes_9 rfl (lv_at hl 2 rfl) ?_
  refine rr_rV (As := [.int (nI 1), .int (nI T)]) (rest := []) (idx := 22) (q0 := 0) (ci := 0) S hK hP (c_C_countFresh l D cs h0 h1 h2 cb vt 1 T (by first | assumption | omega) (by first | assumption | omega) (by first | assumption | omega) (by first | assumption | omega)) k_C_countFresh [0, 1, 2] rfl rfl rfl rfl q_281 ⟨Nat.le_of_ble_eq_true rfl, Nat.le_of_ble_eq_true rfl⟩ ⟨Nat.le_of_ble_eq_true rfl, Nat.le_of_ble_eq_true rfl⟩ hl (Nat.le_of_ble_eq_true rfl) rfl d_C_speedByVotes_10 (fun r9 hr9 => ?_)
  subst hr9
  refine lv_istore_n (lv' := [(3, .int (nI (cfN T cb vt 1 7))), (2, .int (nI (cfN T cb vt 2 7))), (0, .ref h0), (1, .int (nI T))]) hx hb d_C_speedByVotes_13 rfl hl (by decide) rfl (fun ls hl => ?_)
  refine lv_aload_n hx hb d_C_speedByVotes_14 rfl (lv_at hl 2 rfl) ?_
  refine lv_iconst (v := nI 0) hx hb d_C_speedByVotes_15 (by decide) ?_
  refine lv_iload_n hx hb d_C_speedByVotes_16 rfl (lv_at hl 3 rfl) ?_
  refine rr_rV (As := [.int (nI 0), .int (nI T)]) (rest := []) (idx := 22) (q0 := 0) (ci := 0) S hK hP (c_C_countFresh l D cs h0 h1 h2 cb vt 0 T (by first | assumption | omega) (by first | assumption | omega) (by first | assumption | omega) (by first | assumption | omega)) k_C_countFresh [0, 1, 2] rfl rfl rfl rfl q_281 ⟨Nat.le_of_ble_eq_true rfl, Nat.le_of_ble_eq_true rfl⟩ ⟨Nat.le_of_ble_eq_true rfl, Nat.le_of_ble_eq_true rfl⟩ hl (Nat.le_of_ble_eq_true rfl) rfl d_C_speedByVotes_17 (fun r9 hr9 => ?_)
  subst hr9
  refine lv_istore (lv' := [(4, .int (nI (cfN T cb vt 0 7))), (3, .int (nI (cfN T cb vt 1 7))), (2, .int (nI (cfN T cb vt 2 7))), (0, .ref h0), (1, .int (nI T))]) hx hb d_C_speedByVotes_20 hl (by decide) rfl (fun ls hl => ?_)
  refine lv_iload_n hx hb d_C_speedByVotes_22 rfl (lv_at hl 2 rfl) ?_
  refine lv_iconst (v := nI 4) hx hb d_C_speedByVotes_23 (by decide) ?_
  refine rr_icmp_lt (a := (cfN T cb vt 2 7)) (b := 4) (tgt := 34) (by omega) (by omega) hx hb d_C_speedByVotes_24 (by decide) (fun c24 => ?_) (fun c24 => ?_)
  · refine lv_iload_n hx hb d_C_speedByVotes_34 rfl (lv_at hl 2 rfl) ?_
    refine lv_iload_n hx hb d_C_speedByVotes_35 rfl (lv_at hl 1 rfl) ?_
    refine rr_iadd (a := (cfN T cb vt 2 7)) (b := (cfN T cb vt 1 7)) hx hb d_C_speedByVotes_36 ?_
    refine lv_iconst (v := nI 4) hx hb d_C_speedByVotes_37 (by decide) ?_
    refine rr_icmp_lt (a := ((cfN T cb vt 2 7) + (cfN T cb vt 1 7))) (b := 4) (tgt := 51) (by omega) (by omega) hx hb d_C_speedByVotes_38 (by decide) (fun c38 => ?_) (fun c38 => ?_)
    · refine lv_iconst (v := nI 0) hx hb d_C_speedByVotes_51 (by decide) ?_
      exact rr_ret hx hb hr hlk (congrArg nI (by unfold dcN; repeat (first | omega | split))) d_C_speedByVotes_52
    · refine lv_iload hx hb d_C_speedByVotes_41 (lv_at hl 0 rfl) ?_
      refine lv_iconst (v := nI 1) hx hb d_C_speedByVotes_43 (by decide) ?_
      refine rr_icmp_gt (a := (cfN T cb vt 0 7)) (b := 1) (tgt := 51) (by omega) (by omega) hx hb d_C_speedByVotes_44 (by decide) (fun c44 => ?_) (fun c44 => ?_)
      · refine lv_iconst (v := nI 0) hx hb d_C_speedByVotes_51 (by decide) ?_
        exact rr_ret hx hb hr hlk (congrArg nI (by unfold dcN; repeat (first | omega | split))) d_C_speedByVotes_52
      · refine lv_iconst (v := nI 1) hx hb d_C_speedByVotes_47 (by decide) ?_
        refine lv_goto (tgt := 52) hx hb d_C_speedByVotes_48 (by decide) ?_
        exact rr_ret hx hb hr hlk (congrArg nI (by unfold dcN; repeat (first | omega | split))) d_C_speedByVotes_52
  · refine lv_iload hx hb d_C_speedByVotes_27 (lv_at hl 0 rfl) ?_
    refine rr_if_ne (a := (cfN T cb vt 0 7)) (tgt := 34) (by omega) hx hb d_C_speedByVotes_29 (by decide) (fun c29 => ?_) (fun c29 => ?_)
    · refine lv_iload_n hx hb d_C_speedByVotes_34 rfl (lv_at hl 2 rfl) ?_
      refine lv_iload_n hx hb d_C_speedByVotes_35 rfl (lv_at hl 1 rfl) ?_
      refine rr_iadd (a := (cfN T cb vt 2 7)) (b := (cfN T cb vt 1 7)) hx hb d_C_speedByVotes_36 ?_
      refine lv_iconst (v := nI 4) hx hb d_C_speedByVotes_37 (by decide) ?_
      refine rr_icmp_lt (a := ((cfN T cb vt 2 7) + (cfN T cb vt 1 7))) (b := 4) (tgt := 51) (by omega) (by omega) hx hb d_C_speedByVotes_38 (by decide) (fun c38 => ?_) (fun c38 => ?_)
      · refine lv_iconst (v := nI 0) hx hb d_C_speedByVotes_51 (by decide) ?_
        exact rr_ret hx hb hr hlk (congrArg nI (by unfold dcN; repeat (first | omega | split))) d_C_speedByVotes_52
      · refine lv_iload hx hb d_C_speedByVotes_41 (lv_at hl 0 rfl) ?_
        refine lv_iconst (v := nI 1) hx hb d_C_speedByVotes_43 (by decide) ?_
        refine rr_icmp_gt (a := (cfN T cb vt 0 7)) (b := 1) (tgt := 51) (by omega) (by omega) hx hb d_C_speedByVotes_44 (by decide) (fun c44 => ?_) (fun c44 => ?_)
        · refine lv_iconst (v := nI 0) hx hb d_C_speedByVotes_51 (by decide) ?_
          exact rr_ret hx hb hr hlk (congrArg nI (by unfold dcN; repeat (first | omega | split))) d_C_speedByVotes_52
        · refine lv_iconst (v := nI 1) hx hb d_C_speedByVotes_47 (by decide) ?_
          refine lv_goto (tgt := 52) hx hb d_C_speedByVotes_48 (by decide) ?_
          exact rr_ret hx hb hr hlk (congrArg nI (by unfold dcN; repeat (first | omega | split))) d_C_speedByVotes_52
    · refine lv_iconst (v := nI 2) hx hb d_C_speedByVotes_32 (by decide) ?_
      exact rr_ret hx hb hr hlk (congrArg nI (by unfold dcN; repeat (first | omega | split))) d_C_speedByVotes_33
end
section
theorem k_P_countLater : rr_CK y_P_countLater b_P_countLater 4 (some .int) 1 := ⟨q_512, q_513, q_4, q_514, by decide, by decide, by decide +kernel⟩
set_option maxHeartbeats 4000000 in
set_option maxRecDepth 100000 in
/-- Post.countLater -/
theorem c_P_countLater (l : Launch) (D : va_G) (cs : rr_C3) (h0 : Nat) (h2 : Nat) (v0 : Value) (cm : Nat → Nat) (T : Nat) (hT : T ≤ 1000) (hcm : ∀ j, j < 49 → cm j ≤ 2000) : RO l y_P_countLater b_P_countLater 4 (some .int) 0 0 D cs [(h0, .inr (2, [v0, .ref h2])), (h2, .inl (cs.1, 49, .inl (fun j => nI (cm j))))] [.ref h0, .int (nI T)] (fun r => r = nI (owN T cm 49)) := by
  refine RO.of (by decide) (Nat.le_of_ble_eq_true rfl) ?_
  intro p e s m args below meth c S hr hlk hK hP ls hl
  obtain ⟨hx, hb, hml, hown, ht⟩ := id S
  have hl : lv_has ls 4 [(0, .ref h0), (1, .int (nI T))] := hl
  refine lv_iconst (v := nI 0) hx hb d_P_countLater_0 (by decide) ?_
  refine lv_istore_n (lv' := [(2, .int (nI 0)), (0, .ref h0), (1, .int (nI T))]) hx hb d_P_countLater_1 rfl hl (by decide) rfl (fun ls hl => ?_)
  refine lv_iconst (v := nI 0) hx hb d_P_countLater_2 (by decide) ?_
  refine lv_istore_n (lv' := [(3, .int (nI 0)), (2, .int (nI 0)), (0, .ref h0), (1, .int (nI T))]) hx hb d_P_countLater_3 rfl hl (by decide) rfl (fun ls hl => ?_)
  refine rr_loop (fun i => [(3, .int (nI i)), (2, .int (nI (owN T cm i))), (0, .ref h0), (1, .int (nI T))]) (fun i => True) 0 49 (by omega) trivial (lv_sub hl [0, 1, 2, 3] rfl) (fun i ls hi_2 hI_3 hl ih_1 => ?_)
  have hl : lv_has ls 4 [(3, .int (nI i)), (2, .int (nI (owN T cm i))), (0, .ref h0), (1, .int (nI T))] := hl
  refine lv_iload_n hx hb d_P_countLater_4 rfl (lv_at hl 0 rfl) ?_
  refine lv_aload_n hx hb d_P_countLater_5 rfl (lv_at hl 2 rfl) ?_
  refine va_get (D := D) (ci := 2) (v := .ref h2) (C := R_P) (T := F_P) (N := 2) hx hb ht j_P hown hK.1 hP 0 rfl rfl 1 (by decide) (ht _ q_77) (fun _ h9 => h9) rfl d_P_countLater_6 ?_
  refine va_alen (v := nI 49) hx hb hK.1 hP 1 0 rfl rfl rfl d_P_countLater_9 ?_
  refine rr_icmp_ge (a := i) (b := 49) (tgt := 32) (by omega) (by omega) hx hb d_P_countLater_10 (by decide) (fun c10 => ?_) (fun c10 => ?_)
  · refine lv_iload_n hx hb d_P_countLater_32 rfl (lv_at hl 1 rfl) ?_
    exact rr_ret hx hb hr hlk (by rw [show i = 49 from by omega]) d_P_countLater_33
  · refine lv_aload_n hx hb d_P_countLater_13 rfl (lv_at hl 2 rfl) ?_
    refine va_get (D := D) (ci := 2) (v := .ref h2) (C := R_P) (T := F_P) (N := 2) hx hb ht j_P hown hK.1 hP 0 rfl rfl 1 (by decide) (ht _ q_77) (fun _ h9 => h9) rfl d_P_countLater_14 ?_
    refine lv_iload_n hx hb d_P_countLater_17 rfl (lv_at hl 0 rfl) ?_
    refine rr_iald (q0 := 1) (n := 49) (f := (fun j => nI (cm j))) (k := i) hx hb hK hP rfl (by omega) (by omega) d_P_countLater_18 ?_
    refine lv_iload_n hx hb d_P_countLater_19 rfl (lv_at hl 3 rfl) ?_
    have hcm9 := hcm i (by omega)
    refine rr_icmp_le (a := (cm i)) (b := T) (tgt := 26) (by omega) (by omega) hx hb d_P_countLater_20 (by decide) (fun c20 => ?_) (fun c20 => ?_)
    · refine lv_iinc (v := nI (i + 1)) (lv' := [(3, .int (nI (i + 1))), (2, .int (nI (owN T cm i))), (0, .ref h0), (1, .int (nI T))]) hx hb d_P_countLater_26 hl (k := 0) rfl (nI_add i 1) (by decide) rfl (fun ls hl => ?_)
      refine lv_goto (tgt := 4) hx hb d_P_countLater_29 (by decide) ?_
      exact ih_1 ls (by omega) trivial (by show lv_has ls 4 [(3, .int (nI (i + 1))), (2, .int (nI (owN T cm (i + 1)))), (0, .ref h0), (1, .int (nI T))]; rw [show (nI (owN T cm (i + 1)) : Int32) = nI (owN T cm i) from congrArg nI (by rw [owN_s, bq_f (by omega), Nat.add_zero])]; exact lv_sub hl [0, 1, 2, 3] rfl)
    · refine lv_iinc (v := nI (owN T cm i + 1)) (lv' := [(2, .int (nI (owN T cm i + 1))), (3, .int (nI i)), (0, .ref h0), (1, .int (nI T))]) hx hb d_P_countLater_23 hl (k := 1) rfl (nI_add (owN T cm i) 1) (by decide) rfl (fun ls hl => ?_)
      refine lv_iinc (v := nI (i + 1)) (lv' := [(3, .int (nI (i + 1))), (2, .int (nI (owN T cm i + 1))), (0, .ref h0), (1, .int (nI T))]) hx hb d_P_countLater_26 hl (k := 1) rfl (nI_add i 1) (by decide) rfl (fun ls hl => ?_)
      refine lv_goto (tgt := 4) hx hb d_P_countLater_29 (by decide) ?_
      exact ih_1 ls (by omega) trivial (by show lv_has ls 4 [(3, .int (nI (i + 1))), (2, .int (nI (owN T cm (i + 1)))), (0, .ref h0), (1, .int (nI T))]; rw [show (nI (owN T cm (i + 1)) : Int32) = nI (owN T cm i + 1) from congrArg nI (by rw [owN_s, bq_t (by omega)])]; exact lv_sub hl [0, 1, 2, 3] rfl)
end
section
theorem k_K_has : rr_CK y_K_has b_K_has 2 (some .boolean) 1 := ⟨q_409, q_410, q_6, q_411, by decide, by decide, by decide +kernel⟩
set_option maxHeartbeats 4000000 in
set_option maxRecDepth 100000 in
/-- Tickets.has -/
theorem c_K_has (l : Launch) (D : va_G) (cs : rr_C3) (h0 : Nat) (v0 : Value) (v1 : Value) (v2 : Value) (v3 : Value) (v4 : Value) (v5 : Value) (n9 : Nat) (x : Int32) (hn : n9 ≤ 60) : RO l y_K_has b_K_has 2 (some .boolean) 0 0 D cs [(h0, .inr (3, [v0, v1, v2, v3, v4, v5, .int (nI n9)]))] [.ref h0, .int x] (fun r => r = nI (bq (ix 60 x < n9))) := by
  refine RO.of (by decide) (Nat.le_of_ble_eq_true rfl) ?_
  intro p e s m args below meth c S hr hlk hK hP ls hl
  obtain ⟨hx, hb, hml, hown, ht⟩ := id S
  have hl : lv_has ls 2 [(0, .ref h0), (1, .int x)] := hl
  refine lv_iload_n hx hb d_K_has_0 rfl (lv_at hl 1 rfl) ?_
  refine lv_if_lt (tgt := 22) hx hb d_K_has_1 (by decide) (fun c1 => ?_) (fun c1 => ?_)
  · have e9 := ix_neg (n := 60) c1
    refine lv_iconst (v := nI 0) hx hb d_K_has_22 (by decide) ?_
    exact rr_retZ (v := 0) (by first | exact bq_le _ | omega) hx hb hr hlk (congrArg nI (bq_f (by omega)).symm) d_K_has_23
  · refine lv_iload_n hx hb d_K_has_4 rfl (lv_at hl 1 rfl) ?_
    refine lv_aload_n hx hb d_K_has_5 rfl (lv_at hl 0 rfl) ?_
    refine va_get (D := D) (ci := 3) (v := .int (nI n9)) (C := R_K) (T := F_K) (N := 7) hx hb ht j_K hown hK.1 hP 0 rfl rfl 6 (by decide) (ht _ q_112) (fun _ h9 => h9) rfl d_K_has_6 ?_
    refine lv_icmp_ge (tgt := 22) hx hb d_K_has_9 (by decide) (fun c9 => ?_) (fun c9 => ?_)
    · have e9 := ix_ge (k := 60) (by decide) hn c9
      refine lv_iconst (v := nI 0) hx hb d_K_has_22 (by decide) ?_
      exact rr_retZ (v := 0) (by first | exact bq_le _ | omega) hx hb hr hlk (congrArg nI (bq_f (by omega)).symm) d_K_has_23
    · have e9 := ix_lt2 (k := 60) (by decide) hn c1 c9
      refine lv_iload_n hx hb d_K_has_12 rfl (lv_at hl 1 rfl) ?_
      refine lv_bipush (v := nI 60) hx hb d_K_has_13 (by decide) ?_
      refine lv_icmp_ge (tgt := 22) hx hb d_K_has_15 (by decide) (fun c15 => ?_) (fun c15 => ?_)
      · have e8 := ix_big (n := 60) (by decide) c15
        refine lv_iconst (v := nI 0) hx hb d_K_has_22 (by decide) ?_
        exact rr_retZ (v := 0) (by first | exact bq_le _ | omega) hx hb hr hlk (congrArg nI (bq_f (by omega)).symm) d_K_has_23
      · refine lv_iconst (v := nI 1) hx hb d_K_has_18 (by decide) ?_
        refine lv_goto (tgt := 23) hx hb d_K_has_19 (by decide) ?_
        exact rr_retZ (v := 1) (by first | exact bq_le _ | omega) hx hb hr hlk (congrArg nI (bq_t (by omega)).symm) d_K_has_23
theorem k_K_isLeft : rr_CK y_K_isLeft b_K_isLeft 1 (some .boolean) 0 := ⟨q_489, q_490, q_6, q_491, by decide, by decide, by decide +kernel⟩
set_option maxHeartbeats 4000000 in
set_option maxRecDepth 100000 in
/-- Tickets.isLeft -/
theorem c_K_isLeft (l : Launch) (D : va_G) (cs : rr_C3) (h0 : Nat) (v0 : Value) (v1 : Value) (v2 : Value) (v3 : Value) (v4 : Value) (v5 : Value) (n9 : Nat) (hn : n9 ≤ 60) : RO l y_K_isLeft b_K_isLeft 1 (some .boolean) 0 0 D cs [(h0, .inr (3, [v0, v1, v2, v3, v4, v5, .int (nI n9)]))] [.ref h0] (fun r => r = nI (bq (n9 < 60))) := by
  refine RO.of (by decide) (Nat.le_of_ble_eq_true rfl) ?_
  intro p e s m args below meth c S hr hlk hK hP ls hl
  obtain ⟨hx, hb, hml, hown, ht⟩ := id S
  have hl : lv_has ls 1 [(0, .ref h0)] := hl
  refine lv_aload_n hx hb d_K_isLeft_0 rfl (lv_at hl 0 rfl) ?_
  refine va_get (D := D) (ci := 3) (v := .int (nI n9)) (C := R_K) (T := F_K) (N := 7) hx hb ht j_K hown hK.1 hP 0 rfl rfl 6 (by decide) (ht _ q_112) (fun _ h9 => h9) rfl d_K_isLeft_1 ?_
  refine lv_bipush (v := nI 60) hx hb d_K_isLeft_4 (by decide) ?_
  refine rr_icmp_ge (a := n9) (b := 60) (tgt := 13) (by omega) (by omega) hx hb d_K_isLeft_6 (by decide) (fun c6 => ?_) (fun c6 => ?_)
  · refine lv_iconst (v := nI 0) hx hb d_K_isLeft_13 (by decide) ?_
    exact rr_retZ (v := 0) (by first | exact bq_le _ | omega) hx hb hr hlk (congrArg nI (bq_f (by omega)).symm) d_K_isLeft_14
  · refine lv_iconst (v := nI 1) hx hb d_K_isLeft_9 (by decide) ?_
    refine lv_goto (tgt := 14) hx hb d_K_isLeft_10 (by decide) ?_
    exact rr_retZ (v := 1) (by first | exact bq_le _ | omega) hx hb hr hlk (congrArg nI (bq_t (by omega)).symm) d_K_isLeft_14
theorem k_K_peopleIn : rr_CK y_K_peopleIn b_K_peopleIn 4 (some .int) 1 := ⟨q_475, q_476, q_6, q_477, by decide, by decide, by decide +kernel⟩
set_option maxHeartbeats 4000000 in
set_option maxRecDepth 100000 in
/-- Tickets.peopleIn -/
theorem c_K_peopleIn (l : Launch) (D : va_G) (cs : rr_C3) (h0 : Nat) (h1 : Nat) (h2 : Nat) (h5 : Nat) (v2 : Value) (v3 : Value) (v5 : Value) (n9 : Nat) (tc : Nat → Nat) (tp : Nat → Nat) (tA : Nat → Nat) (k : Nat) (hn : n9 ≤ 60) (hk : k < 2 ^ 31) (htc : ∀ j, j < n9 → tc j < 16) (htA : ∀ j, j < n9 → tA j ≤ 1001) : RO l y_K_peopleIn b_K_peopleIn 4 (some .int) 0 0 D cs [(h0, .inr (3, [.ref h1, .ref h2, v2, v3, .ref h5, v5, .int (nI n9)])), (h1, .inl (cs.1, 60, .inl (fun j => nI (tc j)))), (h2, .inl (cs.1, 60, .inl (fun j => nI (tp j)))), (h5, .inl (cs.1, 60, .inl (fun j => mI (tA j))))] [.ref h0, .int (nI k)] (fun r => r = nI (ppN tc tp tA k n9)) := by
  refine RO.of (by decide) (Nat.le_of_ble_eq_true rfl) ?_
  intro p e s m args below meth c S hr hlk hK hP ls hl
  obtain ⟨hx, hb, hml, hown, ht⟩ := id S
  have hl : lv_has ls 4 [(0, .ref h0), (1, .int (nI k))] := hl
  refine lv_iconst (v := nI 0) hx hb d_K_peopleIn_0 (by decide) ?_
  refine lv_istore_n (lv' := [(2, .int (nI 0)), (0, .ref h0), (1, .int (nI k))]) hx hb d_K_peopleIn_1 rfl hl (by decide) rfl (fun ls hl => ?_)
  refine lv_iconst (v := nI 0) hx hb d_K_peopleIn_2 (by decide) ?_
  refine lv_istore_n (lv' := [(3, .int (nI 0)), (2, .int (nI 0)), (0, .ref h0), (1, .int (nI k))]) hx hb d_K_peopleIn_3 rfl hl (by decide) rfl (fun ls hl => ?_)
  refine rr_loop (fun i => [(3, .int (nI i)), (2, .int (nI (ppN tc tp tA k i))), (0, .ref h0), (1, .int (nI k))]) (fun i => True) 0 n9 (by omega) trivial (lv_sub hl [0, 1, 2, 3] rfl) (fun i ls hi_2 hI_3 hl ih_1 => ?_)
  have hl : lv_has ls 4 [(3, .int (nI i)), (2, .int (nI (ppN tc tp tA k i))), (0, .ref h0), (1, .int (nI k))] := hl
  refine lv_iload_n hx hb d_K_peopleIn_4 rfl (lv_at hl 0 rfl) ?_
  refine lv_aload_n hx hb d_K_peopleIn_5 rfl (lv_at hl 2 rfl) ?_
  refine va_get (D := D) (ci := 3) (v := .int (nI n9)) (C := R_K) (T := F_K) (N := 7) hx hb ht j_K hown hK.1 hP 0 rfl rfl 6 (by decide) (ht _ q_112) (fun _ h9 => h9) rfl d_K_peopleIn_6 ?_
  refine rr_icmp_ge (a := i) (b := n9) (tgt := 53) (by omega) (by omega) hx hb d_K_peopleIn_9 (by decide) (fun c9 => ?_) (fun c9 => ?_)
  · refine lv_iload_n hx hb d_K_peopleIn_53 rfl (lv_at hl 1 rfl) ?_
    exact rr_ret hx hb hr hlk (by rw [show i = n9 from by omega]) d_K_peopleIn_54
  · refine lv_iload_n hx hb d_K_peopleIn_12 rfl (lv_at hl 0 rfl) ?_
    refine lv_bipush (v := nI 60) hx hb d_K_peopleIn_13 (by decide) ?_
    refine rr_icmp_ge (a := i) (b := 60) (tgt := 53) (by omega) (by omega) hx hb d_K_peopleIn_15 (by decide) (fun c15 => ?_) (fun c15 => ?_)
    · exact (by omega : False).elim
    · refine lv_aload_n hx hb d_K_peopleIn_18 rfl (lv_at hl 2 rfl) ?_
      refine va_get (D := D) (ci := 3) (v := .ref h1) (C := R_K) (T := F_K) (N := 7) hx hb ht j_K hown hK.1 hP 0 rfl rfl 0 (by decide) (ht _ q_104) (fun _ h9 => h9) rfl d_K_peopleIn_19 ?_
      refine lv_iload_n hx hb d_K_peopleIn_22 rfl (lv_at hl 0 rfl) ?_
      refine rr_iald (q0 := 1) (n := 60) (f := (fun j => nI (tc j))) (k := i) hx hb hK hP rfl (by omega) (by omega) d_K_peopleIn_23 ?_
      refine lv_iload_n hx hb d_K_peopleIn_24 rfl (lv_at hl 3 rfl) ?_
      have htc9 := htc i (by omega)
      have htA9 := htA i (by omega)
      refine rr_icmp_ne (a := (tc i)) (b := k) (tgt := 47) (by omega) (by omega) hx hb d_K_peopleIn_25 (by decide) (fun c25 => ?_) (fun c25 => ?_)
      · refine lv_iinc (v := nI (i + 1)) (lv' := [(3, .int (nI (i + 1))), (2, .int (nI (ppN tc tp tA k i))), (0, .ref h0), (1, .int (nI k))]) hx hb d_K_peopleIn_47 hl (k := 0) rfl (nI_add i 1) (by decide) rfl (fun ls hl => ?_)
        refine lv_goto (tgt := 4) hx hb d_K_peopleIn_50 (by decide) ?_
        exact ih_1 ls (by omega) trivial (by show lv_has ls 4 [(3, .int (nI (i + 1))), (2, .int (nI (ppN tc tp tA k (i + 1)))), (0, .ref h0), (1, .int (nI k))]; rw [show (nI (ppN tc tp tA k (i + 1)) : Int32) = nI (ppN tc tp tA k i) from congrArg nI (by rw [ppN_s, if_neg (by omega)]; rfl)]; exact lv_sub hl [0, 1, 2, 3] rfl)
      · refine lv_aload_n hx hb d_K_peopleIn_28 rfl (lv_at hl 2 rfl) ?_
        refine va_get (D := D) (ci := 3) (v := .ref h5) (C := R_K) (T := F_K) (N := 7) hx hb ht j_K hown hK.1 hP 0 rfl rfl 4 (by decide) (ht _ q_108) (fun _ h9 => h9) rfl d_K_peopleIn_29 ?_
        refine lv_iload_n hx hb d_K_peopleIn_32 rfl (lv_at hl 0 rfl) ?_
        refine rr_iald (q0 := 3) (n := 60) (f := (fun j => mI (tA j))) (k := i) hx hb hK hP rfl (by omega) (by omega) d_K_peopleIn_33 ?_
        refine lv_iconst (v := (-1)) hx hb d_K_peopleIn_34 (by decide) ?_
        refine lv_icmp_ne (tgt := 47) hx hb d_K_peopleIn_35 (by decide) (fun c35 => ?_) (fun c35 => ?_)
        · have hz9 : ¬ tA i = 0 := fun z => c35 ((mI_m1 (by omega)).mpr z)
          refine lv_iinc (v := nI (i + 1)) (lv' := [(3, .int (nI (i + 1))), (2, .int (nI (ppN tc tp tA k i))), (0, .ref h0), (1, .int (nI k))]) hx hb d_K_peopleIn_47 hl (k := 0) rfl (nI_add i 1) (by decide) rfl (fun ls hl => ?_)
          refine lv_goto (tgt := 4) hx hb d_K_peopleIn_50 (by decide) ?_
          exact ih_1 ls (by omega) trivial (by show lv_has ls 4 [(3, .int (nI (i + 1))), (2, .int (nI (ppN tc tp tA k (i + 1)))), (0, .ref h0), (1, .int (nI k))]; rw [show (nI (ppN tc tp tA k (i + 1)) : Int32) = nI (ppN tc tp tA k i) from congrArg nI (by rw [ppN_s, if_neg (by omega)]; rfl)]; exact lv_sub hl [0, 1, 2, 3] rfl)
        · have hz9 : tA i = 0 := (mI_m1 (by omega)).mp c35
          refine lv_iload_n hx hb d_K_peopleIn_38 rfl (lv_at hl 1 rfl) ?_
          refine lv_aload_n hx hb d_K_peopleIn_39 rfl (lv_at hl 2 rfl) ?_
          refine va_get (D := D) (ci := 3) (v := .ref h2) (C := R_K) (T := F_K) (N := 7) hx hb ht j_K hown hK.1 hP 0 rfl rfl 1 (by decide) (ht _ q_105) (fun _ h9 => h9) rfl d_K_peopleIn_40 ?_
          refine lv_iload_n hx hb d_K_peopleIn_43 rfl (lv_at hl 0 rfl) ?_
          refine rr_iald (q0 := 2) (n := 60) (f := (fun j => nI (tp j))) (k := i) hx hb hK hP rfl (by omega) (by omega) d_K_peopleIn_44 ?_
          refine rr_iadd (a := (ppN tc tp tA k i)) (b := (tp i)) hx hb d_K_peopleIn_45 ?_
          refine lv_istore_n (lv' := [(2, .int (nI ((ppN tc tp tA k i) + (tp i)))), (3, .int (nI i)), (0, .ref h0), (1, .int (nI k))]) hx hb d_K_peopleIn_46 rfl hl (by decide) rfl (fun ls hl => ?_)
          refine lv_iinc (v := nI (i + 1)) (lv' := [(3, .int (nI (i + 1))), (2, .int (nI ((ppN tc tp tA k i) + (tp i)))), (0, .ref h0), (1, .int (nI k))]) hx hb d_K_peopleIn_47 hl (k := 1) rfl (nI_add i 1) (by decide) rfl (fun ls hl => ?_)
          refine lv_goto (tgt := 4) hx hb d_K_peopleIn_50 (by decide) ?_
          exact ih_1 ls (by omega) trivial (by show lv_has ls 4 [(3, .int (nI (i + 1))), (2, .int (nI (ppN tc tp tA k (i + 1)))), (0, .ref h0), (1, .int (nI k))]; rw [show (nI (ppN tc tp tA k (i + 1)) : Int32) = nI ((ppN tc tp tA k i) + (tp i)) from congrArg nI (by rw [ppN_s, if_pos (by omega)])]; exact lv_sub hl [0, 1, 2, 3] rfl)
theorem k_K_refundOf : rr_CK y_K_refundOf b_K_refundOf 4 (some .int) 1 := ⟨q_422, q_423, q_6, q_424, by decide, by decide, by decide +kernel⟩
set_option maxHeartbeats 4000000 in
set_option maxRecDepth 100000 in
/-- Tickets.refundOf -/
theorem c_K_refundOf (l : Launch) (D : va_G) (cs : rr_C3) (h0 : Nat) (h2 : Nat) (h3 : Nat) (h6 : Nat) (v0 : Value) (v3 : Value) (v4 : Value) (n9 : Nat) (tp : Nat → Nat) (tf : Nat → Nat) (th : Nat → Nat) (k : Nat) (hn : n9 ≤ 60) (htf : ∀ j, j < n9 → tf j ≤ 1000) (htp : ∀ j, j < n9 → tp j ≤ 8) (hth : ∀ j, j < n9 → th j ≤ 1000) (hk : k < n9) : RO l y_K_refundOf b_K_refundOf 4 (some .int) 1 13 D cs [(h0, .inr (3, [v0, .ref h2, .ref h3, v3, v4, .ref h6, .int (nI n9)])), (h2, .inl (cs.1, 60, .inl (fun j => nI (tp j)))), (h3, .inl (cs.1, 60, .inl (fun j => nI (tf j)))), (h6, .inl (cs.1, 60, .inl (fun j => nI (th j))))] [.ref h0, .int (nI k)] (fun r => r = nI (rfN (tf k * tp k) (th k))) := by
  refine RO.of (by decide) (Nat.le_of_ble_eq_true rfl) ?_
  intro p e s m args below meth c S hr hlk hK hP ls hl
  obtain ⟨hx, hb, hml, hown, ht⟩ := id S
  have hl : lv_has ls 4 [(0, .ref h0), (1, .int (nI k))] := hl
  have htf9 := htf k hk
  have htp9 := htp k hk
  have hth9 := hth k hk
  have hw9 : tf k * tp k ≤ 1000 * 8 := Nat.mul_le_mul htf9 htp9
  have hy9 : tf k * tp k * (th k - 5) ≤ 8000 * 1000 := Nat.mul_le_mul hw9 (by omega)
  refine lv_aload_n hx hb d_K_refundOf_0 rfl (lv_at hl 0 rfl) ?_
  refine va_get (D := D) (ci := 3) (v := .ref h3) (C := R_K) (T := F_K) (N := 7) hx hb ht j_K hown hK.1 hP 0 rfl rfl 2 (by decide) (ht _ q_106) (fun _ h9 => h9) rfl d_K_refundOf_1 ?_
  refine lv_iload_n hx hb d_K_refundOf_4 rfl (lv_at hl 1 rfl) ?_
  refine rr_iald (q0 := 2) (n := 60) (f := (fun j => nI (tf j))) (k := k) hx hb hK hP rfl (by omega) (by omega) d_K_refundOf_5 ?_
  refine lv_aload_n hx hb d_K_refundOf_6 rfl (lv_at hl 0 rfl) ?_
  refine va_get (D := D) (ci := 3) (v := .ref h2) (C := R_K) (T := F_K) (N := 7) hx hb ht j_K hown hK.1 hP 0 rfl rfl 1 (by decide) (ht _ q_105) (fun _ h9 => h9) rfl d_K_refundOf_7 ?_
  refine lv_iload_n hx hb d_K_refundOf_10 rfl (lv_at hl 1 rfl) ?_
  refine rr_iald (q0 := 1) (n := 60) (f := (fun j => nI (tp j))) (k := k) hx hb hK hP rfl (by omega) (by omega) d_K_refundOf_11 ?_
  refine rr_imul (a := (tf k)) (b := (tp k)) hx hb d_K_refundOf_12 ?_
  refine lv_istore_n (lv' := [(2, .int (nI ((tf k) * (tp k)))), (0, .ref h0), (1, .int (nI k))]) hx hb d_K_refundOf_13 rfl hl (by decide) rfl (fun ls hl => ?_)
  refine lv_iconst (v := nI 0) hx hb d_K_refundOf_14 (by decide) ?_
  refine lv_aload_n hx hb d_K_refundOf_15 rfl (lv_at hl 1 rfl) ?_
  refine va_get (D := D) (ci := 3) (v := .ref h6) (C := R_K) (T := F_K) (N := 7) hx hb ht j_K hown hK.1 hP 0 rfl rfl 5 (by decide) (ht _ q_110) (fun _ h9 => h9) rfl d_K_refundOf_16 ?_
  refine lv_iload_n hx hb d_K_refundOf_19 rfl (lv_at hl 2 rfl) ?_
  refine rr_iald (q0 := 3) (n := 60) (f := (fun j => nI (th j))) (k := k) hx hb hK hP rfl (by omega) (by omega) d_K_refundOf_20 ?_
  refine lv_iconst (v := nI 5) hx hb d_K_refundOf_21 (by decide) ?_
  refine lv_isub hx hb d_K_refundOf_22 ?_
  refine va_mmax hx hb (by rw [hml]; exact hl.1.symm) hown (ht _ q_425) (ht _ q_347) (ht _ q_11) (ht _ q_348) (Nat.le_of_ble_eq_true rfl) (Nat.le_of_ble_eq_true rfl) (Nat.zero_le _) (Nat.zero_le _) d_K_refundOf_23 ?_
  refine rr_top (show (if nI 0 < (nI (th k)) - (nI 5) then (nI (th k)) - (nI 5) else nI 0 : Int32) = nI (th k - 5) from mx5 (by omega)) ?_
  refine lv_istore_n (lv' := [(3, .int (nI (th k - 5))), (2, .int (nI ((tf k) * (tp k)))), (0, .ref h0), (1, .int (nI k))]) hx hb d_K_refundOf_26 rfl hl (by decide) rfl (fun ls hl => ?_)
  refine lv_iload_n hx hb d_K_refundOf_27 rfl (lv_at hl 1 rfl) ?_
  refine lv_iload_n hx hb d_K_refundOf_28 rfl (lv_at hl 1 rfl) ?_
  refine lv_iload_n hx hb d_K_refundOf_29 rfl (lv_at hl 0 rfl) ?_
  refine rr_imul (a := ((tf k) * (tp k))) (b := (th k - 5)) hx hb d_K_refundOf_30 ?_
  refine lv_bipush (v := nI 10) hx hb d_K_refundOf_31 (by decide) ?_
  refine rr_idiv (a := (((tf k) * (tp k)) * (th k - 5))) (b := 10) (by omega) (by omega) (by omega) hx hb d_K_refundOf_33 ?_
  refine va_mmin hx hb (by rw [hml]; exact hl.1.symm) hown (ht _ q_426) (ht _ q_330) (ht _ q_11) (ht _ q_331) (Nat.le_of_ble_eq_true rfl) (Nat.le_of_ble_eq_true rfl) (Nat.zero_le _) (Nat.zero_le _) d_K_refundOf_34 ?_
  refine rr_top (rr_min (a := ((tf k) * (tp k))) (b := ((((tf k) * (tp k)) * (th k - 5)) / 10)) (by omega) (by omega)) ?_
  exact rr_ret hx hb hr hlk rfl d_K_refundOf_37
theorem k_K_sumOfRefunds : rr_CK y_K_sumOfRefunds b_K_sumOfRefunds 3 (some .int) 0 := ⟨q_432, q_433, q_6, q_434, by decide, by decide, by decide +kernel⟩
set_option maxHeartbeats 4000000 in
set_option maxRecDepth 100000 in
/-- Tickets.sumOfRefunds -/
theorem c_K_sumOfRefunds (l : Launch) (D : va_G) (cs : rr_C3) (h0 : Nat) (h2 : Nat) (h3 : Nat) (h6 : Nat) (v0 : Value) (v3 : Value) (v4 : Value) (n9 : Nat) (tp : Nat → Nat) (tf : Nat → Nat) (th : Nat → Nat) (hn : n9 ≤ 60) (htf : ∀ j, j < n9 → tf j ≤ 1000) (htp : ∀ j, j < n9 → tp j ≤ 8) (hth : ∀ j, j < n9 → th j ≤ 1000) : RO l y_K_sumOfRefunds b_K_sumOfRefunds 3 (some .int) 2 36 D cs [(h0, .inr (3, [v0, .ref h2, .ref h3, v3, v4, .ref h6, .int (nI n9)])), (h2, .inl (cs.1, 60, .inl (fun j => nI (tp j)))), (h3, .inl (cs.1, 60, .inl (fun j => nI (tf j)))), (h6, .inl (cs.1, 60, .inl (fun j => nI (th j))))] [.ref h0] (fun r => r = nI (rsN tf tp th n9)) := by
  refine RO.of (by decide) (Nat.le_of_ble_eq_true rfl) ?_
  intro p e s m args below meth c S hr hlk hK hP ls hl
  obtain ⟨hx, hb, hml, hown, ht⟩ := id S
  have hl : lv_has ls 3 [(0, .ref h0)] := hl
  refine lv_iconst (v := nI 0) hx hb d_K_sumOfRefunds_0 (by decide) ?_
  refine lv_istore_n (lv' := [(1, .int (nI 0)), (0, .ref h0)]) hx hb d_K_sumOfRefunds_1 rfl hl (by decide) rfl (fun ls hl => ?_)
  refine lv_iconst (v := nI 0) hx hb d_K_sumOfRefunds_2 (by decide) ?_
  refine lv_istore_n (lv' := [(2, .int (nI 0)), (1, .int (nI 0)), (0, .ref h0)]) hx hb d_K_sumOfRefunds_3 rfl hl (by decide) rfl (fun ls hl => ?_)
  refine rr_loop (fun i => [(2, .int (nI i)), (1, .int (nI (rsN tf tp th i))), (0, .ref h0)]) (fun i => True) 0 n9 (by omega) trivial (lv_sub hl [0, 1, 2] rfl) (fun i ls hi_2 hI_3 hl ih_1 => ?_)
  have hl : lv_has ls 3 [(2, .int (nI i)), (1, .int (nI (rsN tf tp th i))), (0, .ref h0)] := hl
  refine lv_iload_n hx hb d_K_sumOfRefunds_4 rfl (lv_at hl 0 rfl) ?_
  refine lv_aload_n hx hb d_K_sumOfRefunds_5 rfl (lv_at hl 2 rfl) ?_
  refine va_get (D := D) (ci := 3) (v := .int (nI n9)) (C := R_K) (T := F_K) (N := 7) hx hb ht j_K hown hK.1 hP 0 rfl rfl 6 (by decide) (ht _ q_112) (fun _ h9 => h9) rfl d_K_sumOfRefunds_6 ?_
  refine rr_icmp_ge (a := i) (b := n9) (tgt := 32) (by omega) (by omega) hx hb d_K_sumOfRefunds_9 (by decide) (fun c9 => ?_) (fun c9 => ?_)
  · refine lv_iload_n hx hb d_K_sumOfRefunds_32 rfl (lv_at hl 1 rfl) ?_
    exact rr_ret hx hb hr hlk (by rw [show i = n9 from by omega]) d_K_sumOfRefunds_33
  · refine lv_iload_n hx hb d_K_sumOfRefunds_12 rfl (lv_at hl 0 rfl) ?_
    refine lv_bipush (v := nI 60) hx hb d_K_sumOfRefunds_13 (by decide) ?_
    refine rr_icmp_ge (a := i) (b := 60) (tgt := 32) (by omega) (by omega) hx hb d_K_sumOfRefunds_15 (by decide) (fun c15 => ?_) (fun c15 => ?_)
    · exact (by omega : False).elim
    · refine lv_iload_n hx hb d_K_sumOfRefunds_18 rfl (lv_at hl 1 rfl) ?_
      refine lv_aload_n hx hb d_K_sumOfRefunds_19 rfl (lv_at hl 2 rfl) ?_
      refine lv_iload_n hx hb d_K_sumOfRefunds_20 rfl (lv_at hl 0 rfl) ?_
      refine rr_rV (As := [.int (nI i)]) (rest := [.int (nI (rsN tf tp th i))]) (idx := 49) (q0 := 0) (ci := 3) S hK hP (c_K_refundOf l D cs h0 h2 h3 h6 v0 v3 v4 n9 tp tf th i (by first | assumption | omega) (by first | assumption | omega) (by first | assumption | omega) (by first | assumption | omega) (by first | assumption | omega)) k_K_refundOf [0, 1, 2, 3] rfl rfl rfl rfl q_435 ⟨Nat.le_of_ble_eq_true rfl, Nat.le_of_ble_eq_true rfl⟩ ⟨Nat.le_of_ble_eq_true rfl, Nat.le_of_ble_eq_true rfl⟩ hl (Nat.le_of_ble_eq_true rfl) rfl d_K_sumOfRefunds_21 (fun r9 hr9 => ?_)
      subst hr9
      refine rr_iadd (a := (rsN tf tp th i)) (b := (rfN (tf i * tp i) (th i))) hx hb d_K_sumOfRefunds_24 ?_
      refine lv_istore_n (lv' := [(1, .int (nI ((rsN tf tp th i) + (rfN (tf i * tp i) (th i))))), (2, .int (nI i)), (0, .ref h0)]) hx hb d_K_sumOfRefunds_25 rfl hl (by decide) rfl (fun ls hl => ?_)
      refine lv_iinc (v := nI (i + 1)) (lv' := [(2, .int (nI (i + 1))), (1, .int (nI ((rsN tf tp th i) + (rfN (tf i * tp i) (th i))))), (0, .ref h0)]) hx hb d_K_sumOfRefunds_26 hl (k := 1) rfl (nI_add i 1) (by decide) rfl (fun ls hl => ?_)
      refine lv_goto (tgt := 4) hx hb d_K_sumOfRefunds_29 (by decide) ?_
      exact ih_1 ls (by omega) trivial (by show lv_has ls 3 [(2, .int (nI (i + 1))), (1, .int (nI (rsN tf tp th (i + 1)))), (0, .ref h0)]; rw [show (nI (rsN tf tp th (i + 1)) : Int32) = nI ((rsN tf tp th i) + (rfN (tf i * tp i) (th i))) from congrArg nI (by rw [rsN_s])]; exact lv_sub hl [0, 1, 2] rfl)
end
section
-- methods of the class that may throw: their contract, its ends, its calls
abbrev eI : String := "java/lang/IndexOutOfBoundsException"
abbrev eA : String := "java/lang/IllegalArgumentException"
abbrev eS : String := "java/lang/IllegalStateException"
abbrev eN : List String := ["java/lang/RuntimeException", "java/lang/Exception"]
def rr_xc : List String := [eS, eI, eA]
def rr_xd : List MethodName := [⟨"java/lang/RuntimeException", "<init>", "(Ljava/lang/String;)V"⟩, ⟨"java/lang/Exception", "<init>", "(Ljava/lang/String;)V"⟩, ⟨"java/lang/Throwable", "<init>", "(Ljava/lang/String;)V"⟩]
def rr_st : List (Nat × String) := [(65, "no car is left, or the gap is too small"), (80, "no such car"), (92, "not in the bottom station, or not empty"), (111, "no such tower"), (115, "wind is out of range"), (124, "a limit is out of range"), (153, "minutes is out of range"), (155, "the time would be above 1000"), (160, "no such minute"), (162, "no such speed"), (164, "people or fare is out of range"), (172, "in no station, no room, or no ticket is left"), (179, "no such ticket")]
def rr_xw : List Cond := rr_xc.map (fun X => Cond.castable X X) ++ rr_xd.map Cond.declares
/-- what a throw needs of the state, besides the tables' good words -/
def rr_Y (U : State) : Prop := (∀ X ∈ rr_xc, va_Nw (.castable X X) U) ∧ (∀ y ∈ rr_xd, va_Nw (.declares y) U) ∧ ∀ q ∈ rr_st, ∃ sa : Nat, vk_R "RopeVotes" q.1 q.2 sa U
def rr_Z (A : Nat → Prop) (U : State) (H : Heap) : Prop := vx_Zq Bundle.tN "UNASSIGNED_STACK" Bundle.steD A U H ∧ vx_Zq Bundle.tN "SUPPRESSED_SENTINEL" Bundle.listD A U H
theorem rr_Y.warm {s U : State} (hW : s.WarmedH U.vm) (h : rr_Y s) : rr_Y U := ⟨fun X hX => va_Nw.warmC hW (h.1 X hX), fun y hy => va_Nw.warmD hW (h.2.1 y hy), fun q hq => by
  obtain ⟨sa, hs⟩ := h.2.2 q hq
  exact ⟨sa, hs.warm hW⟩⟩
theorem rr_Y.same {s U : State} (hv : s.vm = U.vm) (h : rr_Y s) : rr_Y U := ⟨fun X hX => va_Nw.same rfl hv (h.1 X hX), fun y hy => va_Nw.same rfl hv (h.2.1 y hy), fun q hq => by
  obtain ⟨sa, hs⟩ := h.2.2 q hq
  exact ⟨sa, hs.same hv.symm⟩⟩
theorem rr_Z.moved {A : Nat → Prop} {u U : State} {H : Heap} (hvm : u.vm.Alike U.vm) (h : rr_Z A u H) : rr_Z A U H := ⟨h.1.moved hvm, h.2.moved hvm⟩
theorem rr_Z.kept {A : Nat → Prop} {U : State} {H H1 : Heap} (h : rr_Z A U H) (hq : ∀ a : Nat, a < H.size → ¬ A a → H1[a]? = H[a]?) : rr_Z A U H1 := ⟨h.1.kept hq, h.2.kept hq⟩
theorem rr_Z.narrow {A B : Nat → Prop} {U : State} {H : Heap} (h : rr_Z A U H) (hAB : ∀ q, B q → A q) : rr_Z B U H := ⟨h.1.narrow hAB, h.2.narrow hAB⟩
/-- an int method that writes its cells ws, or throws E with XP E and leaves them -/
def MX (l : Launch) (y : MethodName) (b : ByteArray) (n : Nat) (ret : Option FieldType) (fr lc : Nat) (D : va_G) (cs : rr_C3) (ws : va_W) (sz : Nat) (as : List Value) {S : Type} (post : Int32 → S → Prop) (B : S → va_W) (XP : String → Prop) : Prop :=
  vx_Met l y (.code y b n ret :: rr_all) { frames := fr, cells := 1, slots := 6, locals := lc } (va_Pc as (fun U => U.heap.size = sz ∧ va_P D classes ws U.heap ∧ rr_K D cs U ∧ va_D (fun _ => True) ws ∧ rr_Y U ∧ rr_Z (va_A ws sz) U U.heap)) (va_Qi post (fun u t => va_P D classes (B u) t.heap ∧ va_D (va_A ws sz) (B u)) (va_A ws sz)) (vx_X (fun _ : Unit => True) (fun E _ t => XP E ∧ va_P D classes ws t.heap ∧ va_D (va_A ws sz) ws ∧ sz + 1 ≤ t.heap.size) (va_A ws sz)) 1 6 (va_A ws sz)
section EX
variable {l : Launch} {y : MethodName} {b : ByteArray} {n : Nat} {ret : Option FieldType} {fr lc : Nat} {D : va_G} {cs : rr_C3} {ws : va_W} {as : List Value} {sz : Nat}
/-- what the ends of such a method's walk are about -/
def rr_XQ (D : va_G) (B : Type) (post : Int32 → B → Prop) (Bw : B → va_W) (ws : va_W) (XP : String → Prop) (A : Nat → Prop) (below : List Frame) (args : Array Value) (s : State) : State → Prop := vx_MQ below (va_Qi post (fun u t => va_P D classes (Bw u) t.heap ∧ va_D A (Bw u)) A) (vx_X (fun _ : Unit => True) (fun E _ t => XP E ∧ va_P D classes ws t.heap ∧ va_D A ws ∧ s.heap.size + 1 ≤ t.heap.size) A) args s 1 6 A
theorem MX.of {S : Type} {post : Int32 → S → Prop} {B : S → va_W} {XP : String → Prop} (hy : plainName y.cls = true) (hn : (lg_sl as).length ≤ n)
    (body : ∀ (p : Program) (e : Env) (s : State) (m : MethodId) (args : Array Value) (below : List Frame) (meth : Method) (c : Code) (A : Nat → Prop), CallFix p m c b n s args rr_all y.cls → meth.sig.returnType = ret → meth.locks = false → (∀ x ∈ c.exceptionTable.toList, False) → rr_K D cs s → rr_Y s → rr_Z A s s.heap → va_P D classes ws s.heap → va_D A ws → (∀ q : Nat, s.heap.size ≤ q → A q) → va_S A s.heap s.heap [] →
      ∀ ls : Array Slot, lv_has ls n (lv_args 0 as) → W p l e { frames := fr, cells := 1, slots := 6, locals := lc } s m args below meth c s.heap [] 0 0 (rr_XQ D S post B ws XP A below args s) (F0 m 0 ls [])) : MX l y b n ret fr lc D cs ws sz as post B XP := by
  refine vx_ofW (cc := b) (maxL := n) (ret := ret) hy rfl ?_
  intro p e s m args below meth c s₁ Bd hml hta hv
  obtain ⟨rfl, rfl, hP, hK, hD0, hY, hZ⟩ := hv
  have hts := atoms_spec (ws := .code y b n ret :: rr_all) Bd.pre
  rw [lg_entry_eq]
  exact body p e s m _ below meth c (va_A ws s.heap.size) ⟨Bd.exec, Bd.bytes, hml, findClass_of_methodNamed Bd.named, fun w h => hts w (List.mem_cons_of_mem _ h)⟩ Bd.returns Bd.notSynchronized hta hK hY hZ hP (hD0.self (sz := s.heap.size)) (fun q h => Or.inr h) va_S.rf _ (lv_entry as hn)
end EX
theorem rr_atI : (∀ w ∈ (vx_atS "RopeVotes" 82 eI eN).filter goodWord, w ∈ lw_tbl) ∧ (∀ w ∈ (vx_atS "RopeVotes" 82 eI eN).filter (fun w => !goodWord w), w ∈ rr_xw) ∧ ∀ w ∈ Cond.classLink "RopeVotes" 78 eI :: Cond.initialized eI :: vx_atS "RopeVotes" 82 eI eN, vx_ot w = true := ⟨by decide +kernel, by decide +kernel, by decide +kernel⟩
theorem rr_atA : (∀ w ∈ (vx_atS "RopeVotes" 117 eA eN).filter goodWord, w ∈ lw_tbl) ∧ (∀ w ∈ (vx_atS "RopeVotes" 117 eA eN).filter (fun w => !goodWord w), w ∈ rr_xw) ∧ ∀ w ∈ Cond.classLink "RopeVotes" 113 eA :: Cond.initialized eA :: vx_atS "RopeVotes" 117 eA eN, vx_ot w = true := ⟨by decide +kernel, by decide +kernel, by decide +kernel⟩
theorem rr_atS : (∀ w ∈ (vx_atS "RopeVotes" 67 eS eN).filter goodWord, w ∈ lw_tbl) ∧ (∀ w ∈ (vx_atS "RopeVotes" 67 eS eN).filter (fun w => !goodWord w), w ∈ rr_xw) ∧ ∀ w ∈ Cond.classLink "RopeVotes" 63 eS :: Cond.initialized eS :: vx_atS "RopeVotes" 67 eS eN, vx_ot w = true := ⟨by decide +kernel, by decide +kernel, by decide +kernel⟩
theorem rr_xw_of {s : State} {args : Array Value} (h : rr_Y s) : ∀ w ∈ rr_xw, w.before args s = true := by
  intro w hw
  rcases List.mem_append.mp hw with g | g
  · obtain ⟨X, hX, rfl⟩ := List.mem_map.mp g
    exact va_Nw.use rfl (h.1 X hX)
  · obtain ⟨y, hy, rfl⟩ := List.mem_map.mp g
    exact va_Nw.use rfl (h.2.1 y hy)
section EX2
variable {p : Program} {l : Launch} {e : Env} {R : Room} {s : State} {m : MethodId} {args : Array Value} {below : List Frame} {meth : Method} {c : Code} {H : Heap} {locs : List Loc} {Q : State → Prop}
variable {pc : Nat} {ls : Array Slot} {rest st0 : List Value} {cc : ByteArray} {nL : Nat} {D : va_G} {cs : rr_C3} {ws : va_W} {A : Nat → Prop}
theorem rr_throw {cls text : String} {ik is ic : Nat} {S9 : Type} {post : Int32 → S9 → Prop} {B : S9 → va_W} {XP : String → Prop} {lv : List (Nat × Value)} (hfit : Bundle.fit cls = true)
    (hat : (∀ w ∈ (vx_atS "RopeVotes" ic cls eN).filter goodWord, w ∈ lw_tbl) ∧ (∀ w ∈ (vx_atS "RopeVotes" ic cls eN).filter (fun w => !goodWord w), w ∈ rr_xw) ∧ ∀ w ∈ Cond.classLink "RopeVotes" ik cls :: Cond.initialized cls :: vx_atS "RopeVotes" ic cls eN, vx_ot w = true)
    (hk : Cond.classLink "RopeVotes" ik cls ∈ rr_all) (hi : Cond.initialized cls ∈ rr_all) (hst : (is, text) ∈ rr_st)
    (S : CallFix p m c cc nL s args rr_all "RopeVotes") (hfl : l.stackTraces = false) (hlk : meth.locks = false) (hta : ∀ x ∈ c.exceptionTable.toList, False) (hY : rr_Y s) (hZ : rr_Z A s s.heap) (hP : va_P D classes ws H) (hD : va_D A ws) (hS : va_S A s.heap H locs) (hl : lv_has ls nL lv)
    (d0 : decode cc pc = .ok (.new ik, 3)) (d3 : decode cc (pc + 3) = .ok (.dup, 1)) (d4 : decode cc (pc + 4) = .ok (.ldc is, 2)) (d6 : decode cc (pc + 6) = .ok (.invokespecial ic, 3)) (d9 : decode cc (pc + 9) = .ok (.athrow, 1))
    (hRf : 5 < R.frames) (hRl : (rest.map fun v => v.category).sum + 82 ≤ R.locals) (hRc : 1 ≤ R.cells) (hRs : 6 ≤ R.slots) (hX : XP cls) :
    W p l e R s m args below meth c H locs 0 0 (rr_XQ D S9 post B ws XP A below args s) (F0 m pc ls rest) := by
  obtain ⟨hx, hb, hml, hown, ht⟩ := S
  obtain ⟨sa, hsa⟩ := hY.2.2 _ hst
  refine rf_throwS (names := eN) (sa := sa) (text := text) hx hb hfl hown hfit (by decide) (ht _ hk) (ht _ hi) hsa (vx_hat (fun w h => ht w (List.mem_filter.mpr ⟨hat.1 w h, (List.mem_filter.mp h).2⟩)) hat.2.1 (rr_xw_of hY)) hat.2.2 hZ.1 hZ.2 hS (by rw [hml]; exact hl.1) d0 d3 d4 d6 d9 (fun x h => (hta x h).elim) hRf hRl (by omega) (by omega) hlk ?_ hS.2.2 (by omega) (by omega)
  intro t hal hz hk2
  refine ⟨(), trivial, ⟨hX, hP.kept (fun k q hq => hk2 q.1 (hP k q hq).lt), hD, Nat.le_trans (Nat.succ_le_succ hS.1) hz⟩, Nat.le_trans hS.1 (Nat.le_of_succ_le hz), fun q h1 h2 => ?_⟩
  rw [hk2 q (Nat.lt_of_lt_of_le h1 hS.1)]
  exact hS.2.1 q h1 h2
theorem rr_xret {S9 : Type} {post : Int32 → S9 → Prop} {B : S9 → va_W} {XP : String → Prop} {v : Int32} (u : S9) (hexec : p.tables.exec = Jvm.exec) (hb : c.code = cc) (hr : meth.sig.returnType = some .int) (hlk : meth.locks = false) (hP : va_P D classes (B u) H) (hD : va_D A (B u)) (hS : va_S A s.heap H locs) (hp : post v u) (hdg : decode cc pc = .ok (.ireturn, 1)) : W p l e R s m args below meth c H locs 0 0 (rr_XQ D S9 post B ws XP A below args s) (F0 m pc ls [.int v]) :=
  W.widen (k := 1) (n := 6) (by omega) (by omega) (vx_ret (W.iret hexec hb hr (fun t ht _ => ⟨⟨v, u, rfl, hp, by rw [ht]; exact hP, hD⟩, hS.F ht⟩) hS.2.2 hdg hlk))
end EX2
end
section
-- the state of both sides: μ is the model's numbers by its fields' order, ρ the class's own rows beside them
abbrev NS : Type := Nat → Nat → Nat
def onM (μ : NS) : Nat → Nat := fun j => bq (j < μ 3 0 ∧ μ 5 j = 0)
def pN (μ : NS) : Nat → Nat := fun j => (μ 1 0 - μ 4 j) % 1200
def ppl (μ : NS) (k : Nat) : Nat := ppN (μ 16) (μ 17) (μ 20) k (μ 15 0)
/-- what the numbers keep to -/
def IM (μ : NS) : Prop := μ 0 0 ≤ 1000 ∧ μ 1 0 ≤ 30 * μ 0 0 ∧ μ 2 0 ≤ 1 ∧ μ 3 0 ≤ 16 ∧ (∀ j, j < 16 → μ 4 j ≤ μ 1 0) ∧ (∀ j, j < 16 → μ 5 j ≤ 1) ∧ (∀ j, j < 16 → μ 3 0 ≤ j → μ 5 j = 0) ∧ (∀ j, j < 7 → μ 6 j ≤ 150 ∧ μ 7 j ≤ 150 ∧ μ 8 j ≤ 150) ∧ (∀ j, j < 7 → μ 9 j ≤ 1) ∧ (∀ j, j < 56 → μ 11 j ≤ 2) ∧ (∀ i t, i ≤ 7 → t < 7 → r8 (μ 0 0) (μ 10) i t ≤ μ 0 0 + 6 - i) ∧ (∀ j, j < 7 → μ 12 j ≤ μ 0 0) ∧ (∀ j, j < 7 → μ 13 j ≤ 2) ∧ (∀ j, j < 1001 → μ 14 j ≤ 72 ∧ μ 14 j % 10 ≤ 2) ∧ μ 15 0 ≤ 60 ∧ (∀ j, j < μ 15 0 → μ 16 j < μ 3 0 ∧ 1 ≤ μ 17 j ∧ μ 17 j ≤ 8 ∧ μ 18 j ≤ 1000 ∧ μ 19 j ≤ μ 1 0 + 1200 ∧ μ 20 j ≤ μ 0 0 ∧ (μ 20 j = 0 → μ 5 (μ 16 j) = 0)) ∧ (∀ j, j < 60 → μ 21 j ≤ μ 0 0) ∧ (∀ j, j < 60 → μ 15 0 ≤ j → μ 20 j = 0)
/-- what ties the class's rows to them -/
def IC (μ ρ : NS) : Prop := (∀ j, j < 16 → ρ 1 j = bq (j < μ 3 0 ∧ μ 5 j = 0)) ∧ (∀ j, j < 16 → ρ 1 j = 1 → ρ 0 j = (μ 1 0 - μ 4 j) % 1200) ∧ (∀ i t, i < 7 → t < 7 → r7 (μ 0 0) (ρ 3) i t = r8 (μ 0 0) (μ 10) i t ∧ r7 (μ 0 0) (ρ 2) i t = r8 (μ 0 0) (μ 11) i t) ∧ (∀ j, j < 7 → ρ 4 j = if μ 12 j = 0 then 0 else μ 13 j + 1) ∧ (∀ j, j < μ 15 0 → ρ 5 j = if μ 20 j = 0 then 0 else μ 20 j + 1)
-- rings
theorem r7_all {P : Nat → Prop} {T : Nat} {f : Nat → Nat} (h : ∀ i t, i < 7 → t < 7 → P (r7 T f i t)) {k : Nat} (hk : k < 49) : P (f k) := by
  have h1 := h ((T + 7 - k / 7) % 7) (k % 7) (by omega) (by omega)
  unfold r7 at h1
  rw [show (T + 7 - (T + 7 - k / 7) % 7) % 7 * 7 + k % 7 = k from by omega] at h1
  exact h1
theorem r8_all {P : Nat → Prop} {T : Nat} {f : Nat → Nat} (h : ∀ i t, i < 8 → t < 7 → P (r8 T f i t)) {k : Nat} (hk : k < 56) : P (f k) := by
  have h1 := h ((T + 8 - k % 8) % 8) (k / 8) (by omega) (by omega)
  unfold r8 at h1
  rw [show 8 * (k / 8) + (T + 8 - (T + 8 - k % 8) % 8) % 8 = k from by omega] at h1
  exact h1
theorem IM.c8 {μ : NS} (h : IM μ) {k : Nat} (hk : k < 56) : μ 10 k ≤ μ 0 0 + 6 := by
  obtain ⟨-, -, -, -, -, -, -, -, -, -, hr8, -⟩ := h
  exact r8_all (P := fun x => x ≤ μ 0 0 + 6) (T := μ 0 0) (fun i t hi ht => Nat.le_trans (hr8 i t (by omega) ht) (by omega)) hk
theorem IC.c7 {μ ρ : NS} (hM : IM μ) (h : IC μ ρ) {k : Nat} (hk : k < 49) : ρ 3 k ≤ μ 0 0 + 6 := by
  obtain ⟨-, -, -, -, -, -, -, -, -, -, hr8, -⟩ := hM
  exact r7_all (P := fun x => x ≤ μ 0 0 + 6) (T := μ 0 0) (fun i t hi ht => by rw [(h.2.2.1 i t hi ht).1]; exact Nat.le_trans (hr8 i t (by omega) ht) (by omega)) hk
theorem IC.b7 {μ ρ : NS} (hM : IM μ) (h : IC μ ρ) {k : Nat} (hk : k < 49) : ρ 2 k ≤ 2 := by
  obtain ⟨-, -, -, -, -, -, -, -, -, hb8, -⟩ := hM
  exact r7_all (P := fun x => x ≤ 2) (T := μ 0 0) (fun i t hi ht => by rw [(h.2.2.1 i t hi ht).2]; unfold r8; exact hb8 _ (by omega)) hk
/-- the rows of the minute T -/
def mk7 (T : Nat) (f v : Nat → Nat) (n : Nat) : Nat → Nat := fun k => if T % 7 * 7 ≤ k ∧ k < T % 7 * 7 + n then v (k - T % 7 * 7) else f k
def mk8 (T : Nat) (f v : Nat → Nat) (n : Nat) : Nat → Nat := fun k => if k % 8 = T % 8 ∧ k / 8 < n then v (k / 8) else f k
theorem mk7_0 {T : Nat} {f v : Nat → Nat} : mk7 T f v 0 = f := by funext k; unfold mk7; rw [if_neg (by omega)]
theorem mk8_0 {T : Nat} {f v : Nat → Nat} : mk8 T f v 0 = f := by funext k; unfold mk8; rw [if_neg (by omega)]
theorem mk7_s {T : Nat} {f v : Nat → Nat} {n : Nat} : va_up (mk7 T f v n) (T % 7 * 7 + n) (v n) = mk7 T f v (n + 1) := by
  funext k; unfold va_up mk7
  by_cases e : k = T % 7 * 7 + n
  · subst e; rw [if_pos rfl, if_pos (by omega), show T % 7 * 7 + n - T % 7 * 7 = n from by omega]
  · rw [if_neg e]
    by_cases q : T % 7 * 7 ≤ k ∧ k < T % 7 * 7 + n
    · rw [if_pos q, if_pos (by omega)]
    · rw [if_neg q, if_neg (by omega)]
theorem mk8_s {T : Nat} {f v : Nat → Nat} {n : Nat} : va_up (mk8 T f v n) (8 * n + T % 8) (v n) = mk8 T f v (n + 1) := by
  funext k; unfold va_up mk8
  by_cases e : k = 8 * n + T % 8
  · subst e; rw [if_pos rfl, if_pos (by omega), show (8 * n + T % 8) / 8 = n from by omega]
  · rw [if_neg e]
    by_cases q : k % 8 = T % 8 ∧ k / 8 < n
    · rw [if_pos q, if_pos (by omega)]
    · rw [if_neg q, if_neg (by omega)]
theorem r7_0 {T t : Nat} {f v : Nat → Nat} (ht : t < 7) : r7 T (mk7 T f v 7) 0 t = v t := by
  unfold r7 mk7
  rw [if_pos (by omega), show (T + 7 - 0) % 7 * 7 + t - T % 7 * 7 = t from by omega]
theorem r7_s {T i t : Nat} {f v : Nat → Nat} (hi : i < 6) (ht : t < 7) : r7 (T + 1) (mk7 (T + 1) f v 7) (i + 1) t = r7 T f i t := by
  unfold r7 mk7
  rw [if_neg (by omega), show T + 1 + 7 - (i + 1) = T + 7 - i from by omega]
theorem r8_0 {T t : Nat} {f v : Nat → Nat} (ht : t < 7) : r8 T (mk8 T f v 7) 0 t = v t := by
  unfold r8 mk8
  rw [if_pos (by omega), show (8 * t + (T + 8 - 0) % 8) / 8 = t from by omega]
theorem r8_s {T i t : Nat} {f v : Nat → Nat} (hi : i < 7) (ht : t < 7) : r8 (T + 1) (mk8 (T + 1) f v 7) (i + 1) t = r8 T f i t := by
  unfold r8 mk8
  rw [if_neg (by omega), show T + 1 + 8 - (i + 1) = T + 8 - i from by omega]
-- a minute
abbrev T1 (μ : NS) : Nat := μ 0 0 + 1
def cmF (T : Nat) (cu : Nat → Nat) : Nat → Nat := fun t => cmN T (dlN cu t 7)
def c8S (μ : NS) : Nat → Nat := mk8 (T1 μ) (μ 10) (cmF (T1 μ) (μ 9)) 7
def b8S (μ : NS) : Nat → Nat := mk8 (T1 μ) (μ 11) (vnN (μ 6) (μ 7) (μ 8)) 7
def vtS (μ : NS) : Nat → Nat := dmt (T1 μ) (r8 (T1 μ) (c8S μ)) (r8 (T1 μ) (b8S μ)) (μ 12) (μ 13) 7 0
def vvS (μ : NS) : Nat → Nat := dmx (T1 μ) (r8 (T1 μ) (c8S μ)) (r8 (T1 μ) (b8S μ)) (μ 12) (μ 13) 7 0
def wdN (hd x : Nat) : Nat := if hd = 0 then x else 0
def dwN (T hd : Nat) (vt vv : Nat → Nat) : Nat := wdN hd (dcN (cvN T vt vv 2 7) (cvN T vt vv 1 7) (cvN T vt vv 0 7))
def spS (μ : NS) : Nat := dwN (T1 μ) (μ 2 0) (vtS μ) (vvS μ)
def uS (μ : NS) : Nat := μ 1 0 + ptN (spS μ)
def fcN (T : Nat) (vt : Nat → Nat) : Nat := ct (fun t => bq (frP T vt t)) 7
def rcS (μ : NS) : Nat := 10 * fcN (T1 μ) (vtS μ) + spS μ
def ouM (U : Nat) (ba : Nat → Nat) (k : Nat) : Nat := bq (¬ ((U - ba k) % 1200 % 600 < 20))
def taS (μ : NS) : Nat → Nat := taf (μ 20) (μ 19) (T1 μ) (uS μ) (μ 15 0)
def thS (μ : NS) : Nat → Nat := thf (μ 21) (μ 20) (μ 19) (μ 16) (ouM (uS μ) (μ 4)) (uS μ) (spS μ) (μ 15 0)
def stp (μ : NS) : NS := va_up (va_up (va_up (va_up (va_up (va_up (va_up (va_up (va_up μ 0 (fun _ => T1 μ)) 1 (fun _ => uS μ)) 10 (c8S μ)) 11 (b8S μ)) 12 (vtS μ)) 13 (vvS μ)) 14 (va_up (μ 14) (T1 μ) (rcS μ))) 20 (taS μ)) 21 (thS μ)
def c7S (μ ρ : NS) : Nat → Nat := mk7 (T1 μ) (ρ 3) (cmF (T1 μ) (μ 9)) 7
def b7S (μ ρ : NS) : Nat → Nat := mk7 (T1 μ) (ρ 2) (vnN (μ 6) (μ 7) (μ 8)) 7
def cbS (μ ρ : NS) : Nat → Nat := dmx (T1 μ) (r7 (T1 μ) (c7S μ ρ)) (r7s (T1 μ) (b7S μ ρ)) (μ 12) (ρ 4) 7 0
def plS (μ ρ : NS) : Nat → Nat := mvf (ρ 1) (ρ 0) (ptN (spS μ)) 16
def tAS (μ ρ : NS) : Nat → Nat := taf (ρ 5) (μ 19) (T1 μ + 1) (uS μ) (μ 15 0)
def stpR (μ ρ : NS) : NS := va_up (va_up (va_up (va_up (va_up ρ 0 (plS μ ρ)) 2 (b7S μ ρ)) 3 (c7S μ ρ)) 4 (cbS μ ρ)) 5 (tAS μ ρ)
theorem ptN_le (v : Nat) : ptN v ≤ 30 := by unfold ptN; split <;> (try split) <;> omega
theorem dwN_le (T hd : Nat) (vt vv : Nat → Nat) : dwN T hd vt vv ≤ 2 := by
  unfold dwN wdN
  split
  · exact dcN_le _ _ _
  · omega
theorem fcN_le (T : Nat) (vt : Nat → Nat) : fcN T vt ≤ 7 := by
  have h : fcN T vt ≤ 7 * 1 := ct_le (fun j _ => bq_le _)
  omega
theorem cmN_le {m d : Nat} (h : d ≤ 7) : cmN m d ≤ m + 6 := by unfold cmN; split <;> omega
/-- the ring after the new row -/
theorem rg_new {μ ρ : NS} (hC : IC μ ρ) {i t : Nat} (hi : i < 7) (ht : t < 7) : r7 (T1 μ) (c7S μ ρ) i t = r8 (T1 μ) (c8S μ) i t ∧ r7 (T1 μ) (b7S μ ρ) i t = r8 (T1 μ) (b8S μ) i t := by
  rcases Nat.eq_zero_or_pos i with rfl | h0
  · unfold c7S c8S b7S b8S
    rw [r7_0 ht, r8_0 ht, r7_0 ht, r8_0 ht]
    exact ⟨rfl, rfl⟩
  · obtain ⟨i, rfl⟩ : ∃ k, i = k + 1 := ⟨i - 1, by omega⟩
    unfold c7S c8S b7S b8S
    rw [r7_s (by omega) ht, r8_s (by omega) ht, r7_s (by omega) ht, r8_s (by omega) ht]
    exact hC.2.2.1 i t (by omega) ht
theorem r8_new {μ : NS} (hM : IM μ) {i t : Nat} (hi : i ≤ 7) (ht : t < 7) : r8 (T1 μ) (c8S μ) i t ≤ T1 μ + 6 - i := by
  rcases Nat.eq_zero_or_pos i with rfl | h0
  · unfold c8S
    rw [r8_0 ht]
    unfold cmF
    have := cmN_le (m := T1 μ) (d := dlN (μ 9) t 7) (dlN_le ht 7 (by omega))
    omega
  · obtain ⟨i, rfl⟩ : ∃ k, i = k + 1 := ⟨i - 1, by omega⟩
    unfold c8S
    rw [r8_s (by omega) ht]
    obtain ⟨-, -, -, -, -, -, -, -, -, -, hr8, -⟩ := hM
    have := hr8 i t (by omega) ht
    unfold T1
    omega
/-- both controls take the same votes -/
theorem dv_same {T : Nat} {R1 X1 R2 X2 : Nat → Nat → Nat} {vt x1 x2 : Nat → Nat} {t : Nat} (hR : ∀ i, i < 7 → R1 i t = R2 i t) (hX : ∀ i, i < 7 → X1 i t = X2 i t + 1) (hx : x1 t = if vt t = 0 then 0 else x2 t + 1) : ∀ n : Nat, (dv T R1 X1 vt x1 t n).1 = (dv T R2 X2 vt x2 t n).1 ∧ (dv T R1 X1 vt x1 t n).2 = if (dv T R2 X2 vt x2 t n).1 = 0 then 0 else (dv T R2 X2 vt x2 t n).2 + 1
  | 0 => ⟨rfl, hx⟩
  | n + 1 => by
    obtain ⟨h1, h2⟩ := dv_same hR hX hx n
    unfold dv
    rw [hR (6 - n) (by omega), h1]
    split
    · rename_i q
      refine ⟨rfl, ?_⟩
      show X1 (6 - n) t = if T - (6 - n) = 0 then 0 else X2 (6 - n) t + 1
      rw [if_neg (by omega), hX (6 - n) (by omega)]
    · exact ⟨h1, h2⟩
theorem vt_same {μ ρ : NS} (hC : IC μ ρ) : dmt (T1 μ) (r7 (T1 μ) (c7S μ ρ)) (r7s (T1 μ) (b7S μ ρ)) (μ 12) (ρ 4) 7 0 = vtS μ := by
  funext t
  unfold vtS dmt
  by_cases ht : t < 7
  · rw [if_pos ht, if_pos ht, if_neg (Nat.not_lt_zero t)]
    exact (dv_same (fun i hi => (rg_new hC hi ht).1) (fun i hi => congrArg (· + 1) (rg_new hC hi ht).2) (hC.2.2.2.1 t ht) 7).1
  · rw [if_neg ht, if_neg ht]
theorem cb_same {μ ρ : NS} (hC : IC μ ρ) {t : Nat} (ht : t < 7) : cbS μ ρ t = if vtS μ t = 0 then 0 else vvS μ t + 1 := by
  unfold cbS vtS vvS dmx dmt
  rw [if_pos ht, if_pos ht, if_pos ht, if_neg (Nat.not_lt_zero t)]
  exact (dv_same (fun i hi => (rg_new hC hi ht).1) (fun i hi => congrArg (· + 1) (rg_new hC hi ht).2) (hC.2.2.2.1 t ht) 7).2
theorem cf_cv {T : Nat} {cb vt vv : Nat → Nat} {w : Nat} (h : ∀ t, t < 7 → cb t = if vt t = 0 then 0 else vv t + 1) : cfN T cb vt w 7 = cvN T vt vv w 7 := by
  unfold cfN cvN
  refine ct_cong (fun t ht => bq_cong ?_)
  have h1 := h t ht
  by_cases q : vt t = 0
  · rw [if_pos q] at h1; unfold frP; omega
  · rw [if_neg q] at h1; unfold frP; omega
theorem vtS_le {μ : NS} (hM : IM μ) {t : Nat} (ht : t < 7) : vtS μ t ≤ T1 μ := by
  obtain ⟨-, -, -, -, -, -, -, -, -, -, -, hvt, -⟩ := hM
  exact dmt_le (fun j hj => Nat.le_succ_of_le (hvt j hj)) ht
theorem dv_le2 {T : Nat} {Rr X : Nat → Nat → Nat} {vt x : Nat → Nat} {t : Nat} (hx : x t ≤ 2) (hX : ∀ i, i < 7 → X i t ≤ 2) : ∀ n : Nat, (dv T Rr X vt x t n).2 ≤ 2
  | 0 => hx
  | n + 1 => by
    unfold dv
    split
    · exact hX _ (by omega)
    · exact dv_le2 hx hX n
theorem b8S_le {μ : NS} (hM : IM μ) {k : Nat} (hk : k < 56) : b8S μ k ≤ 2 := by
  obtain ⟨-, -, -, -, -, -, -, -, -, hb8, -⟩ := hM
  unfold b8S mk8
  split
  · exact vnN_le _ _ _ _
  · exact hb8 k hk
theorem vvS_le {μ : NS} (hM : IM μ) {t : Nat} (ht : t < 7) : vvS μ t ≤ 2 := by
  unfold vvS dmx
  rw [if_pos ht]
  refine dv_le2 ?_ (fun i hi => ?_) _
  · obtain ⟨-, -, -, -, -, -, -, -, -, -, -, -, hvv, -⟩ := hM
    exact hvv t ht
  · unfold r8; exact b8S_le hM (by omega)
end
section
-- plain facts of both sides, on
def fbB (b : Bool) (n : Nat) (x : Int32) : Int32 := if b = true then x ||| (nI 1 <<< (nI n &&& 31)) else x
theorem bc_key : ∀ b0 b1 b2 b3 b4 b5 b6 : Bool, bcI (fbB b6 6 (fbB b5 5 (fbB b4 4 (fbB b3 3 (fbB b2 2 (fbB b1 1 (fbB b0 0 (nI 0)))))))) = nI (0 + b0.toNat + b1.toNat + b2.toNat + b3.toNat + b4.toNat + b5.toNat + b6.toNat) := by decide +kernel
theorem bq_toNat (c : Prop) [Decidable c] : bq c = (decide c).toNat := by
  by_cases h : c
  · rw [bq_t h, decide_eq_true h]; rfl
  · rw [bq_f h, decide_eq_false h]; rfl
theorem fsI_b (T : Nat) (vt : Nat → Nat) (n : Nat) : fsI T vt (n + 1) = fbB (decide (frP T vt n)) n (fsI T vt n) := by
  by_cases h : frP T vt n
  · rw [fsI_t h, decide_eq_true h]; rfl
  · rw [fsI_f h, decide_eq_false h]; rfl
theorem bc_fs (T : Nat) (vt : Nat → Nat) : bcI (fsI T vt 7) = nI (fcN T vt) := by
  rw [fsI_b, fsI_b, fsI_b, fsI_b, fsI_b, fsI_b, fsI_b, show fsI T vt 0 = nI 0 from rfl, bc_key]
  unfold fcN
  rw [ct_s, ct_s, ct_s, ct_s, ct_s, ct_s, ct_s, show ct (fun t => bq (frP T vt t)) 0 = 0 from rfl]
  rw [bq_toNat, bq_toNat, bq_toNat, bq_toNat, bq_toNat, bq_toNat, bq_toNat]
/-- fresh votes are those of the three kinds -/
theorem fc_sum {T : Nat} {vt vv : Nat → Nat} (h : ∀ t, t < 7 → vv t ≤ 2) : cvN T vt vv 0 7 + cvN T vt vv 1 7 + cvN T vt vv 2 7 = fcN T vt := by
  unfold cvN fcN
  rw [← ct_sum, ← ct_sum]
  refine ct_cong (fun t ht => ?_)
  have h1 := h t ht
  by_cases q : frP T vt t
  · rcases (show vv t = 0 ∨ vv t = 1 ∨ vv t = 2 by omega) with e | e | e
    · rw [bq_t ⟨q, e⟩, bq_f (fun z => by omega), bq_f (fun z => by omega), bq_t q]
    · rw [bq_f (fun z => by omega), bq_t ⟨q, e⟩, bq_f (fun z => by omega), bq_t q]
    · rw [bq_f (fun z => by omega), bq_f (fun z => by omega), bq_t ⟨q, e⟩, bq_t q]
  · rw [bq_f (fun z => q z.1), bq_f (fun z => q z.1), bq_f (fun z => q z.1), bq_f q]
-- sums in another order
theorem ct_rot7 (g : Nat → Nat) (T : Nat) : ct g 7 = ct (fun i => g ((T + 7 - i) % 7)) 7 := by
  simp only [ct]
  have h : T % 7 = 0 ∨ T % 7 = 1 ∨ T % 7 = 2 ∨ T % 7 = 3 ∨ T % 7 = 4 ∨ T % 7 = 5 ∨ T % 7 = 6 := by omega
  rcases h with h | h | h | h | h | h | h
  · rw [show (T + 7 - 0) % 7 = 0 from by omega, show (T + 7 - 1) % 7 = 6 from by omega, show (T + 7 - 2) % 7 = 5 from by omega, show (T + 7 - 3) % 7 = 4 from by omega, show (T + 7 - 4) % 7 = 3 from by omega, show (T + 7 - 5) % 7 = 2 from by omega, show (T + 7 - 6) % 7 = 1 from by omega]; omega
  · rw [show (T + 7 - 0) % 7 = 1 from by omega, show (T + 7 - 1) % 7 = 0 from by omega, show (T + 7 - 2) % 7 = 6 from by omega, show (T + 7 - 3) % 7 = 5 from by omega, show (T + 7 - 4) % 7 = 4 from by omega, show (T + 7 - 5) % 7 = 3 from by omega, show (T + 7 - 6) % 7 = 2 from by omega]; omega
  · rw [show (T + 7 - 0) % 7 = 2 from by omega, show (T + 7 - 1) % 7 = 1 from by omega, show (T + 7 - 2) % 7 = 0 from by omega, show (T + 7 - 3) % 7 = 6 from by omega, show (T + 7 - 4) % 7 = 5 from by omega, show (T + 7 - 5) % 7 = 4 from by omega, show (T + 7 - 6) % 7 = 3 from by omega]; omega
  · rw [show (T + 7 - 0) % 7 = 3 from by omega, show (T + 7 - 1) % 7 = 2 from by omega, show (T + 7 - 2) % 7 = 1 from by omega, show (T + 7 - 3) % 7 = 0 from by omega, show (T + 7 - 4) % 7 = 6 from by omega, show (T + 7 - 5) % 7 = 5 from by omega, show (T + 7 - 6) % 7 = 4 from by omega]; omega
  · rw [show (T + 7 - 0) % 7 = 4 from by omega, show (T + 7 - 1) % 7 = 3 from by omega, show (T + 7 - 2) % 7 = 2 from by omega, show (T + 7 - 3) % 7 = 1 from by omega, show (T + 7 - 4) % 7 = 0 from by omega, show (T + 7 - 5) % 7 = 6 from by omega, show (T + 7 - 6) % 7 = 5 from by omega]; omega
  · rw [show (T + 7 - 0) % 7 = 5 from by omega, show (T + 7 - 1) % 7 = 4 from by omega, show (T + 7 - 2) % 7 = 3 from by omega, show (T + 7 - 3) % 7 = 2 from by omega, show (T + 7 - 4) % 7 = 1 from by omega, show (T + 7 - 5) % 7 = 0 from by omega, show (T + 7 - 6) % 7 = 6 from by omega]; omega
  · rw [show (T + 7 - 0) % 7 = 6 from by omega, show (T + 7 - 1) % 7 = 5 from by omega, show (T + 7 - 2) % 7 = 4 from by omega, show (T + 7 - 3) % 7 = 3 from by omega, show (T + 7 - 4) % 7 = 2 from by omega, show (T + 7 - 5) % 7 = 1 from by omega, show (T + 7 - 6) % 7 = 0 from by omega]; omega
theorem ct_rot8 (g : Nat → Nat) (T : Nat) : ct g 8 = ct (fun i => g ((T + 8 - i) % 8)) 8 := by
  simp only [ct]
  have h : T % 8 = 0 ∨ T % 8 = 1 ∨ T % 8 = 2 ∨ T % 8 = 3 ∨ T % 8 = 4 ∨ T % 8 = 5 ∨ T % 8 = 6 ∨ T % 8 = 7 := by omega
  rcases h with h | h | h | h | h | h | h | h
  · rw [show (T + 8 - 0) % 8 = 0 from by omega, show (T + 8 - 1) % 8 = 7 from by omega, show (T + 8 - 2) % 8 = 6 from by omega, show (T + 8 - 3) % 8 = 5 from by omega, show (T + 8 - 4) % 8 = 4 from by omega, show (T + 8 - 5) % 8 = 3 from by omega, show (T + 8 - 6) % 8 = 2 from by omega, show (T + 8 - 7) % 8 = 1 from by omega]; omega
  · rw [show (T + 8 - 0) % 8 = 1 from by omega, show (T + 8 - 1) % 8 = 0 from by omega, show (T + 8 - 2) % 8 = 7 from by omega, show (T + 8 - 3) % 8 = 6 from by omega, show (T + 8 - 4) % 8 = 5 from by omega, show (T + 8 - 5) % 8 = 4 from by omega, show (T + 8 - 6) % 8 = 3 from by omega, show (T + 8 - 7) % 8 = 2 from by omega]; omega
  · rw [show (T + 8 - 0) % 8 = 2 from by omega, show (T + 8 - 1) % 8 = 1 from by omega, show (T + 8 - 2) % 8 = 0 from by omega, show (T + 8 - 3) % 8 = 7 from by omega, show (T + 8 - 4) % 8 = 6 from by omega, show (T + 8 - 5) % 8 = 5 from by omega, show (T + 8 - 6) % 8 = 4 from by omega, show (T + 8 - 7) % 8 = 3 from by omega]; omega
  · rw [show (T + 8 - 0) % 8 = 3 from by omega, show (T + 8 - 1) % 8 = 2 from by omega, show (T + 8 - 2) % 8 = 1 from by omega, show (T + 8 - 3) % 8 = 0 from by omega, show (T + 8 - 4) % 8 = 7 from by omega, show (T + 8 - 5) % 8 = 6 from by omega, show (T + 8 - 6) % 8 = 5 from by omega, show (T + 8 - 7) % 8 = 4 from by omega]; omega
  · rw [show (T + 8 - 0) % 8 = 4 from by omega, show (T + 8 - 1) % 8 = 3 from by omega, show (T + 8 - 2) % 8 = 2 from by omega, show (T + 8 - 3) % 8 = 1 from by omega, show (T + 8 - 4) % 8 = 0 from by omega, show (T + 8 - 5) % 8 = 7 from by omega, show (T + 8 - 6) % 8 = 6 from by omega, show (T + 8 - 7) % 8 = 5 from by omega]; omega
  · rw [show (T + 8 - 0) % 8 = 5 from by omega, show (T + 8 - 1) % 8 = 4 from by omega, show (T + 8 - 2) % 8 = 3 from by omega, show (T + 8 - 3) % 8 = 2 from by omega, show (T + 8 - 4) % 8 = 1 from by omega, show (T + 8 - 5) % 8 = 0 from by omega, show (T + 8 - 6) % 8 = 7 from by omega, show (T + 8 - 7) % 8 = 6 from by omega]; omega
  · rw [show (T + 8 - 0) % 8 = 6 from by omega, show (T + 8 - 1) % 8 = 5 from by omega, show (T + 8 - 2) % 8 = 4 from by omega, show (T + 8 - 3) % 8 = 3 from by omega, show (T + 8 - 4) % 8 = 2 from by omega, show (T + 8 - 5) % 8 = 1 from by omega, show (T + 8 - 6) % 8 = 0 from by omega, show (T + 8 - 7) % 8 = 7 from by omega]; omega
  · rw [show (T + 8 - 0) % 8 = 7 from by omega, show (T + 8 - 1) % 8 = 6 from by omega, show (T + 8 - 2) % 8 = 5 from by omega, show (T + 8 - 3) % 8 = 4 from by omega, show (T + 8 - 4) % 8 = 3 from by omega, show (T + 8 - 5) % 8 = 2 from by omega, show (T + 8 - 6) % 8 = 1 from by omega, show (T + 8 - 7) % 8 = 0 from by omega]; omega
theorem ct_const0 : ∀ n : Nat, ct (fun _ => 0) n = 0
  | 0 => rfl
  | n + 1 => by rw [ct_s, ct_const0 n]
theorem ct_swap (F : Nat → Nat → Nat) (m : Nat) : ∀ n : Nat, ct (fun r => ct (fun t => F r t) m) n = ct (fun t => ct (fun r => F r t) n) m
  | 0 => by show 0 = ct (fun _ => 0) m; rw [ct_const0]
  | n + 1 => by
    rw [ct_s, ct_swap F m n, ← ct_sum]
    exact ct_cong (fun t _ => rfl)
theorem ct_rows (g : Nat → Nat) (w : Nat) : ∀ a : Nat, ct g (a * w) = ct (fun r => ct (fun t => g (r * w + t)) w) a
  | 0 => by rw [Nat.zero_mul]; rfl
  | a + 1 => by rw [Nat.add_mul, Nat.one_mul, ct_add, ct_rows g w a, ct_s]
theorem ow_same {μ ρ : NS} (hM : IM μ) (hC : IC μ ρ) : owN (μ 0 0) (ρ 3) 49 = owN (μ 0 0) (μ 10) 56 := by
  unfold owN
  rw [show (49 : Nat) = 7 * 7 from rfl, show (56 : Nat) = 7 * 8 from rfl, ct_rows, ct_rows, ct_rot7 _ (μ 0 0), ct_swap]
  refine ct_cong (fun t ht => ?_)
  rw [ct_rot8 _ (μ 0 0), show ∀ F : Nat → Nat, ct F 8 = ct F 7 + F 7 from fun _ => rfl]
  have e7 : bq (μ 0 0 < μ 10 (t * 8 + (μ 0 0 + 8 - 7) % 8)) = 0 := bq_f (by
    obtain ⟨-, -, -, -, -, -, -, -, -, -, hr8, -⟩ := hM
    have h := hr8 7 t (by omega) ht
    unfold r8 at h
    rw [Nat.mul_comm t 8]
    omega)
  show _ = _ + bq (μ 0 0 < μ 10 (t * 8 + (μ 0 0 + 8 - 7) % 8))
  rw [e7, Nat.add_zero]
  refine ct_cong (fun i hi => ?_)
  have h := (hC.2.2.1 i t hi ht).1
  unfold r7 r8 at h
  show bq (μ 0 0 < ρ 3 ((μ 0 0 + 7 - i) % 7 * 7 + t)) = bq (μ 0 0 < μ 10 (t * 8 + (μ 0 0 + 8 - i) % 8))
  rw [h, Nat.mul_comm t 8]
-- cars
theorem on_same {μ ρ : NS} (hC : IC μ ρ) {j : Nat} (hj : j < 16) : ρ 1 j = onM μ j := hC.1 j hj
theorem cars_same {μ ρ : NS} (hC : IC μ ρ) : ct (ρ 1) 16 = ct (onM μ) 16 := ct_cong (fun j hj => on_same hC hj)
theorem nr_same {μ ρ : NS} (hC : IC μ ρ) : nrN (ρ 1) (ρ 0) 16 = nrN (onM μ) (pN μ) 16 := by
  unfold nrN
  refine ct_cong (fun j hj => bq_cong ?_)
  rw [← on_same hC hj]
  by_cases q : ρ 1 j = 1
  · rw [hC.2.1 j hj q]; exact Iff.rfl
  · exact ⟨fun z => absurd z.1 q, fun z => absurd z.1 q⟩
theorem lgi_cong {on on2 pl pl2 : Nat → Nat} {a acc : Nat} {n : Nat} (h1 : ∀ j, j < n → on j = on2 j) (h2 : ∀ j, j < n → on j = 1 → pl j = pl2 j) (ha : a < n) : ∀ b : Nat, b ≤ n → lgi on pl a acc b = lgi on2 pl2 a acc b
  | 0, _ => rfl
  | b + 1, hb => by
    have ih := lgi_cong (acc := acc) h1 h2 ha b (by omega)
    by_cases q : on a = 1 ∧ on b = 1
    · rw [lgi_t q, lgi_t (by rw [← h1 a ha, ← h1 b (by omega)]; exact q), ih, h2 a ha q.1, h2 b (by omega) q.2]
    · rw [lgi_f q, lgi_f (by rw [← h1 a ha, ← h1 b (by omega)]; exact q), ih]
theorem lgo_cong {on on2 pl pl2 : Nat → Nat} {n : Nat} (h1 : ∀ j, j < n → on j = on2 j) (h2 : ∀ j, j < n → on j = 1 → pl j = pl2 j) : ∀ a : Nat, a ≤ n → lgo on pl a = lgo on2 pl2 a
  | 0, _ => rfl
  | a + 1, ha => by
    show lgi on pl a (lgo on pl a) a = lgi on2 pl2 a (lgo on2 pl2 a) a
    rw [lgo_cong h1 h2 a (by omega), lgi_cong h1 h2 (by omega) a (by omega)]
theorem lg_same {μ ρ : NS} (hC : IC μ ρ) : lgo (ρ 1) (ρ 0) 16 = lgo (onM μ) (pN μ) 16 := lgo_cong (fun j hj => on_same hC hj) (fun j hj q => hC.2.1 j hj q) 16 (Nat.le_refl _)
theorem lgi_off {on pl : Nat → Nat} {a acc : Nat} (h : ¬ on a = 1) : ∀ b : Nat, lgi on pl a acc b = acc
  | 0 => rfl
  | b + 1 => by rw [lgi_f (fun z => h z.1), lgi_off h b]
theorem lgo_stop {on pl : Nat → Nat} {C : Nat} (h : ∀ j, C ≤ j → ¬ on j = 1) : ∀ d : Nat, lgo on pl (C + d) = lgo on pl C
  | 0 => rfl
  | d + 1 => by
    show lgi on pl (C + d) (lgo on pl (C + d)) (C + d) = lgo on pl C
    rw [lgi_off (h _ (by omega)), lgo_stop h d]
theorem onM_off {μ : NS} {j : Nat} (h : μ 3 0 ≤ j) : onM μ j = 0 := bq_f (by omega)
theorem lg_C {μ : NS} (hM : IM μ) : lgo (onM μ) (pN μ) (μ 3 0) = lgo (onM μ) (pN μ) 16 := by
  have h := lgo_stop (on := onM μ) (pl := pN μ) (C := μ 3 0) (fun j hj => by rw [onM_off hj]; omega) (16 - μ 3 0)
  rw [show μ 3 0 + (16 - μ 3 0) = 16 from by have := hM.2.2.2.1; omega] at h
  exact h.symm
theorem ct_stop {f : Nat → Nat} {C n : Nat} (hC : C ≤ n) (h : ∀ j, C ≤ j → f j = 0) : ct f C = ct f n := by
  have h1 := ct_add f C (n - C)
  rw [show C + (n - C) = n from by omega, ct_zero (f := fun j => f (C + j)) (fun j _ => h _ (by omega))] at h1
  omega
theorem nr_C {μ : NS} (hM : IM μ) : nrN (onM μ) (pN μ) (μ 3 0) = nrN (onM μ) (pN μ) 16 := ct_stop hM.2.2.2.1 (fun j hj => bq_f (fun z => by rw [onM_off hj] at z; omega))
theorem cars_C {μ : NS} (hM : IM μ) : ct (fun j => 1 - μ 5 j) (μ 3 0) = ct (onM μ) 16 := by
  rw [← ct_stop (f := onM μ) hM.2.2.2.1 (fun j hj => onM_off hj)]
  refine ct_cong (fun j hj => ?_)
  obtain ⟨-, -, -, hc, -, hoff, -⟩ := hM
  have := hoff j (by omega)
  unfold onM
  by_cases q : μ 5 j = 0
  · rw [bq_t ⟨hj, q⟩, q]
  · rw [bq_f (fun z => q z.2)]; omega
theorem pp_same {μ ρ : NS} (hC : IC μ ρ) (k : Nat) : ppN (μ 16) (μ 17) (ρ 5) k (μ 15 0) = ppl μ k := by
  unfold ppl ppN
  refine ct_cong (fun j hj => ?_)
  have h := hC.2.2.2.2 j hj
  by_cases q : μ 20 j = 0
  · rw [if_pos q] at h
    by_cases g : μ 16 j = k
    · rw [if_pos ⟨g, h⟩, if_pos ⟨g, q⟩]
    · rw [if_neg (fun z => g z.1), if_neg (fun z => g z.1)]
  · rw [if_neg q] at h
    rw [if_neg (fun z => by omega), if_neg (fun z => q z.2)]
theorem th_same {μ ρ : NS} (hM : IM μ) (hC : IC μ ρ) : thf (μ 21) (ρ 5) (μ 19) (μ 16) (oC (ρ 1) (plS μ ρ)) (uS μ) (spS μ) (μ 15 0) = thS μ := by
  funext j
  unfold thS thf
  by_cases hj : j < μ 15 0
  · obtain ⟨-, -, -, hcar, hbase, -, -, -, -, -, -, -, -, -, -, htk, -⟩ := hM
    obtain ⟨h1, -, -, -, -, -, h7⟩ := htk j hj
    have hA := hC.2.2.2.2 j hj
    have key : (j < μ 15 0 ∧ ρ 5 j = 0 ∧ uS μ < μ 19 j ∧ spS μ = 0 ∧ oC (ρ 1) (plS μ ρ) (μ 16 j) = 1) ↔ (j < μ 15 0 ∧ μ 20 j = 0 ∧ uS μ < μ 19 j ∧ spS μ = 0 ∧ ouM (uS μ) (μ 4) (μ 16 j) = 1) := by
      by_cases q : μ 20 j = 0
      · rw [if_pos q] at hA
        have hk : μ 16 j < 16 := by omega
        have hon : ρ 1 (μ 16 j) = 1 := by rw [hC.1 _ hk]; exact bq_t ⟨h1, h7 q⟩
        have hpl : plS μ ρ (μ 16 j) = (uS μ - μ 4 (μ 16 j)) % 1200 := by
          unfold plS mvf
          rw [if_pos ⟨hk, hon⟩, hC.2.1 _ hk hon]
          have := hbase _ hk
          unfold uS
          omega
        have ho : oC (ρ 1) (plS μ ρ) (μ 16 j) = ouM (uS μ) (μ 4) (μ 16 j) := by
          unfold oC ouM
          refine bq_cong ?_
          rw [hpl]
          constructor
          · intro z; omega
          · intro z; exact ⟨hon, by omega⟩
        rw [ho, hA]
        exact ⟨fun z => ⟨z.1, q, z.2.2⟩, fun z => ⟨z.1, rfl, z.2.2⟩⟩
      · rw [if_neg q] at hA
        exact ⟨fun z => by omega, fun z => absurd z.2.1 q⟩
    by_cases g : j < μ 15 0 ∧ ρ 5 j = 0 ∧ uS μ < μ 19 j ∧ spS μ = 0 ∧ oC (ρ 1) (plS μ ρ) (μ 16 j) = 1
    · rw [if_pos g, if_pos (key.mp g)]
    · rw [if_neg g, if_neg (fun z => g (key.mpr z))]
  · rw [if_neg (fun z => hj z.1), if_neg (fun z => hj z.1)]
theorem sp_same {μ ρ : NS} (hC : IC μ ρ) : wdN (μ 2 0) (dcN (cfN (T1 μ) (cbS μ ρ) (vtS μ) 2 7) (cfN (T1 μ) (cbS μ ρ) (vtS μ) 1 7) (cfN (T1 μ) (cbS μ ρ) (vtS μ) 0 7)) = spS μ := by
  unfold spS dwN
  rw [cf_cv (fun t ht => cb_same hC ht), cf_cv (fun t ht => cb_same hC ht), cf_cv (fun t ht => cb_same hC ht)]
theorem wd_same {μ ρ : NS} (hC : IC μ ρ) : wdN (μ 2 0) (dcN (cfN (μ 0 0) (ρ 4) (μ 12) 2 7) (cfN (μ 0 0) (ρ 4) (μ 12) 1 7) (cfN (μ 0 0) (ρ 4) (μ 12) 0 7)) = dwN (μ 0 0) (μ 2 0) (μ 12) (μ 13) := by
  unfold dwN
  rw [cf_cv hC.2.2.2.1, cf_cv hC.2.2.2.1, cf_cv hC.2.2.2.1]
-- a minute keeps it all
theorem IM_stp {μ : NS} (hM : IM μ) (hT : μ 0 0 < 1000) : IM (stp μ) := by
  have hvt' := fun t ht => vtS_le hM (t := t) ht
  have hvv' := fun t ht => vvS_le hM (t := t) ht
  have hr' := fun i t hi ht => r8_new hM (i := i) (t := t) hi ht
  have hb' := fun k hk => b8S_le hM (k := k) hk
  have hsp : spS μ ≤ 2 := dwN_le _ _ _ _
  have hfc := fcN_le (T1 μ) (vtS μ)
  have hpt := ptN_le (spS μ)
  obtain ⟨h0, hU, hhd, hcar, hbase, hoff, hoff2, hw, hcut, hb8, hr8, hvt, hvv, hrec, hN, htk, hth, hta0⟩ := hM
  refine ⟨?_, ?_, hhd, hcar, ?_, hoff, hoff2, hw, hcut, hb', hr', hvt', hvv', ?_, hN, ?_, ?_, ?_⟩
  · show T1 μ ≤ 1000; exact hT
  · show uS μ ≤ 30 * T1 μ; unfold uS T1; omega
  · intro j hj; have := hbase j hj; show μ 4 j ≤ uS μ; unfold uS; omega
  · intro j hj
    show va_up (μ 14) (T1 μ) (rcS μ) j ≤ 72 ∧ va_up (μ 14) (T1 μ) (rcS μ) j % 10 ≤ 2
    unfold va_up
    split
    · unfold rcS; omega
    · exact hrec j hj
  · intro j hj
    obtain ⟨g1, g2, g3, g4, g5, g6, g7⟩ := htk j hj
    refine ⟨g1, g2, g3, g4, ?_, ?_, ?_⟩
    · show μ 19 j ≤ uS μ + 1200; unfold uS; omega
    · show taS μ j ≤ T1 μ; unfold taS taf; split
      · exact Nat.le_refl _
      · unfold T1; omega
    · intro (z : taS μ j = 0)
      refine g7 ?_
      unfold taS taf at z
      split at z
      · unfold T1 at z; omega
      · exact z
  · intro j hj
    have := hth j hj
    show thS μ j ≤ T1 μ
    unfold thS thf T1
    split <;> omega
  · intro j hj hn
    show taS μ j = 0
    unfold taS taf
    have hn2 : μ 15 0 ≤ j := hn
    rw [if_neg (by omega)]
    exact hta0 j hj hn2
theorem IC_stp {μ ρ : NS} (hM : IM μ) (hC : IC μ ρ) : IC (stp μ) (stpR μ ρ) := by
  have hrg := fun i t hi ht => rg_new hC (i := i) (t := t) hi ht
  have hcb := fun t ht => cb_same hC (t := t) ht
  obtain ⟨-, -, -, -, hbase, -⟩ := hM
  refine ⟨hC.1, ?_, hrg, hcb, ?_⟩
  · intro j hj (q : ρ 1 j = 1)
    show plS μ ρ j = (uS μ - μ 4 j) % 1200
    unfold plS mvf
    rw [if_pos ⟨hj, q⟩, hC.2.1 j hj q]
    have := hbase j hj
    unfold uS
    omega
  · intro j hj
    have hA := hC.2.2.2.2 j hj
    show tAS μ ρ j = if taS μ j = 0 then 0 else taS μ j + 1
    have hj2 : j < μ 15 0 := hj
    by_cases q : μ 20 j = 0
    · rw [if_pos q] at hA
      by_cases g : μ 19 j ≤ uS μ
      · have e1 : tAS μ ρ j = T1 μ + 1 := by unfold tAS taf; exact if_pos ⟨hj2, hA, g⟩
        have e2 : taS μ j = T1 μ := by unfold taS taf; exact if_pos ⟨hj2, q, g⟩
        rw [e1, e2, if_neg (by unfold T1; omega)]
      · have e1 : tAS μ ρ j = ρ 5 j := by unfold tAS taf; exact if_neg (fun z => g z.2.2)
        have e2 : taS μ j = μ 20 j := by unfold taS taf; exact if_neg (fun z => g z.2.2)
        rw [e1, e2, if_pos q, hA]
    · rw [if_neg q] at hA
      have e1 : tAS μ ρ j = ρ 5 j := by unfold tAS taf; exact if_neg (fun z => by omega)
      have e2 : taS μ j = μ 20 j := by unfold taS taf; exact if_neg (fun z => q z.2.1)
      rw [e1, e2, if_neg q, hA]
end
section
-- when calls are refused, and what they answer, in the numbers of the state
theorem ix_spec (k : Nat) (hk : k < 2 ^ 31) (x : Int32) : (x.toInt < 0 ∧ ix k x = k) ∨ ((k : Int) ≤ x.toInt ∧ ix k x = k) ∨ (0 ≤ x.toInt ∧ x.toInt < (k : Int) ∧ ((ix k x : Nat) : Int) = x.toInt) := by
  rcases pk_ix x hk with h | h | ⟨j, h, rfl⟩
  · refine Or.inl ⟨?_, ix_neg h⟩
    rw [Int32.lt_iff_toInt_lt] at h
    have z : (0 : Int32).toInt = 0 := by decide
    omega
  · refine Or.inr (Or.inl ⟨?_, ix_big hk h⟩)
    rw [Int32.le_iff_toInt_le, nI_toInt hk] at h
    exact h
  · refine Or.inr (Or.inr ?_)
    rw [ix_nI h hk, nI_toInt (by omega)]
    omega
theorem i0_toInt : (0 : Int32).toInt = 0 := by decide
theorem IC.on {μ ρ : NS} (hC : IC μ ρ) : ∀ j, j < 16 → ρ 1 j ≤ 1 := fun j hj => by rw [hC.1 j hj]; exact bq_le _
theorem IC.pl {μ ρ : NS} (hC : IC μ ρ) : ∀ j, j < 16 → ρ 1 j = 1 → ρ 0 j < 1200 := fun j hj q => by rw [hC.2.1 j hj q]; omega
theorem IC.cb {μ ρ : NS} (hM : IM μ) (hC : IC μ ρ) : ∀ j, j < 7 → ρ 4 j ≤ 3 := fun j hj => by
  obtain ⟨-, -, -, -, -, -, -, -, -, -, -, -, hvv, -⟩ := hM
  have := hvv j hj
  rw [hC.2.2.2.1 j hj]; split <;> omega
theorem IC.tA {μ ρ : NS} (hM : IM μ) (hC : IC μ ρ) : ∀ j, j < μ 15 0 → ρ 5 j ≤ 1001 := fun j hj => by
  obtain ⟨h0, -, -, -, -, -, -, -, -, -, -, -, -, -, -, htk, -⟩ := hM
  have h1 := (htk j hj).2.2.2.2.2.1
  rw [hC.2.2.2.2 j hj]; split <;> omega
abbrev caQ (μ : NS) (x : Int32) : Prop := ix 16 x < μ 3 0 ∧ μ 5 (ix 16 x) = 0
theorem ca_on {μ ρ : NS} (hM : IM μ) (hC : IC μ ρ) {x : Int32} : (ix 16 x < 16 ∧ ρ 1 (ix 16 x) = 1) ↔ caQ μ x := by
  obtain ⟨-, -, -, hcar, -⟩ := hM
  constructor
  · rintro ⟨h1, h2⟩
    rw [hC.1 _ h1] at h2
    by_cases q : ix 16 x < μ 3 0 ∧ μ 5 (ix 16 x) = 0
    · exact q
    · rw [bq_f q] at h2; omega
  · intro h
    have h1 : ix 16 x < 16 := by have := h.1; omega
    exact ⟨h1, by rw [hC.1 _ h1]; exact bq_t h⟩
def thPut (μ : NS) : Nat := if μ 3 0 < 16 ∧ nrN (onM μ) (pN μ) 16 = 0 then 0 else 1
def thOff (μ : NS) (x : Int32) : Nat := if caQ μ x then (if pN μ (ix 16 x) < 20 ∧ ppl μ (ix 16 x) = 0 then 0 else 2) else 1
def thCar (μ : NS) (x : Int32) : Nat := if caQ μ x then 0 else 1
def thTow (x : Int32) : Nat := if ix 7 x < 7 then 0 else 1
def thWin (x w : Int32) : Nat := if ix 7 x < 7 then (if ix 151 w < 151 then 0 else 2) else 1
def thLim (x a b : Int32) : Nat := if ix 7 x < 7 then (if ix 151 a < 151 ∧ ix 151 a ≤ ix 151 b ∧ ix 151 b < 151 then 0 else 2) else 1
def thPas (μ : NS) (x : Int32) : Nat := if 1 ≤ ix 61 x ∧ ix 61 x < 61 then (if μ 0 0 + ix 61 x ≤ 1000 then 0 else 2) else 1
def thDec (μ : NS) (x : Int32) : Nat := if 1 ≤ ix 1001 x ∧ ix 1001 x ≤ μ 0 0 then 0 else 1
def thMin (x : Int32) : Nat := if ix 3 x < 3 then 0 else 1
def thBoa (μ : NS) (x p f : Int32) : Nat := if caQ μ x then (if 1 ≤ ix 9 p ∧ ix 9 p < 9 ∧ ix 1001 f < 1001 then (if (pN μ (ix 16 x) < 20 ∨ 600 ≤ pN μ (ix 16 x) ∧ pN μ (ix 16 x) < 620) ∧ ppl μ (ix 16 x) + ix 9 p ≤ 8 ∧ μ 15 0 < 60 then 0 else 3) else 2) else 1
def thTic (μ : NS) (x : Int32) : Nat := if ix 60 x < μ 15 0 then 0 else 1
/-- in how many of the first n minutes the speed v was decided -/
def mnN (rc : Nat → Nat) (v : Nat) : Nat → Nat := ct (fun m => bq (rc (m + 1) % 10 = v))
theorem mnN_s (rc : Nat → Nat) (v n : Nat) : mnN rc v (n + 1) = mnN rc v n + bq (rc (n + 1) % 10 = v) := rfl
/-- the vote that the control has: 0 none, else it and one -/
def vlN (μ : NS) (k : Nat) : Nat := if μ 12 k = 0 then 0 else μ 13 k + 1
def arN (μ : NS) (k : Nat) : Nat := if μ 20 k = 0 then 0 else μ 20 k + 1
/-- the state behind the calls that change it -/
def muPut (μ : NS) : NS := va_up (va_up μ 4 (va_up (μ 4) (μ 3 0) (μ 1 0))) 3 (fun _ => μ 3 0 + 1)
def roPut (μ ρ : NS) : NS := va_up (va_up ρ 0 (va_up (ρ 0) (μ 3 0) 0)) 1 (va_up (ρ 1) (μ 3 0) 1)
def muOff (μ : NS) (k : Nat) : NS := va_up μ 5 (va_up (μ 5) k 1)
def roOff (ρ : NS) (k : Nat) : NS := va_up ρ 1 (va_up (ρ 1) k 0)
def muWin (μ : NS) (k w : Nat) : NS := va_up μ 6 (va_up (μ 6) k w)
def muLim (μ : NS) (k a b : Nat) : NS := va_up (va_up μ 7 (va_up (μ 7) k a)) 8 (va_up (μ 8) k b)
def muCut (μ : NS) (k b : Nat) : NS := va_up μ 9 (va_up (μ 9) k b)
def muHol (μ : NS) (b : Nat) : NS := va_up μ 2 (fun _ => b)
def goN (μ : NS) (k : Nat) : Nat := if pN μ k < 20 then μ 1 0 + 600 - pN μ k else μ 1 0 + 1200 - pN μ k
def muBoa (μ : NS) (k p f : Nat) : NS := va_up (va_up (va_up (va_up (va_up μ 16 (va_up (μ 16) (μ 15 0) k)) 17 (va_up (μ 17) (μ 15 0) p)) 18 (va_up (μ 18) (μ 15 0) f)) 19 (va_up (μ 19) (μ 15 0) (goN μ k))) 15 (fun _ => μ 15 0 + 1)
def roBoa (μ ρ : NS) : NS := va_up ρ 5 (va_up (ρ 5) (μ 15 0) 0)
def itM (μ : NS) : Nat → NS
  | 0 => μ
  | n + 1 => stp (itM μ n)
def itR (μ ρ : NS) : Nat → NS
  | 0 => ρ
  | n + 1 => stpR (itM μ n) (itR μ ρ n)
theorem itM_T (μ : NS) : ∀ n : Nat, itM μ n 0 0 = μ 0 0 + n
  | 0 => rfl
  | n + 1 => by show itM μ n 0 0 + 1 = _; rw [itM_T μ n]; omega
theorem it_ok {μ ρ : NS} (hM : IM μ) (hC : IC μ ρ) : ∀ n : Nat, μ 0 0 + n ≤ 1000 → IM (itM μ n) ∧ IC (itM μ n) (itR μ ρ n)
  | 0, _ => ⟨hM, hC⟩
  | n + 1, h => by
    obtain ⟨h1, h2⟩ := it_ok hM hC n (by omega)
    exact ⟨IM_stp h1 (by rw [itM_T]; omega), IC_stp h1 h2⟩
theorem it_okM {μ : NS} (hM : IM μ) : ∀ n : Nat, μ 0 0 + n ≤ 1000 → IM (itM μ n)
  | 0, _ => hM
  | n + 1, h => IM_stp (it_okM hM n (by omega)) (by rw [itM_T]; omega)
theorem it_U (μ : NS) : ∀ n : Nat, μ 1 0 ≤ itM μ n 1 0
  | 0 => Nat.le_refl _
  | n + 1 => Nat.le_trans (it_U μ n) (by show itM μ n 1 0 ≤ uS (itM μ n); unfold uS; omega)
-- what the calls keep
theorem IM_put {μ : NS} (hM : IM μ) (h : μ 3 0 < 16) : IM (muPut μ) := by
  obtain ⟨h0, hU, hhd, hcar, hbase, hoff, hoff2, hw, hcut, hb8, hr8, hvt, hvv, hrec, hN, htk, hth, hta0⟩ := hM
  refine ⟨h0, hU, hhd, h, ?_, hoff, fun j hj hn => hoff2 j hj (by have : μ 3 0 + 1 ≤ j := hn; omega), hw, hcut, hb8, hr8, hvt, hvv, hrec, hN, fun j hj => ?_, hth, hta0⟩
  · intro j hj
    show va_up (μ 4) (μ 3 0) (μ 1 0) j ≤ μ 1 0
    unfold va_up; split
    · exact Nat.le_refl _
    · exact hbase j hj
  · obtain ⟨g1, g2⟩ := htk j hj
    exact ⟨by show μ 16 j < μ 3 0 + 1; omega, g2⟩
theorem IC_put {μ ρ : NS} (hM : IM μ) (hC : IC μ ρ) (h : μ 3 0 < 16) : IC (muPut μ) (roPut μ ρ) := by
  obtain ⟨-, -, -, -, -, -, hoff2, -⟩ := hM
  refine ⟨fun j hj => ?_, fun j hj => ?_, hC.2.2.1, hC.2.2.2.1, hC.2.2.2.2⟩
  · show va_up (ρ 1) (μ 3 0) 1 j = bq (j < μ 3 0 + 1 ∧ μ 5 j = 0)
    unfold va_up
    by_cases q : j = μ 3 0
    · rw [if_pos q, bq_t ⟨by omega, hoff2 j hj (by omega)⟩]
    · rw [if_neg q, hC.1 j hj]
      exact bq_cong ⟨fun z => ⟨by omega, z.2⟩, fun z => ⟨by omega, z.2⟩⟩
  · show va_up (ρ 1) (μ 3 0) 1 j = 1 → va_up (ρ 0) (μ 3 0) 0 j = (μ 1 0 - va_up (μ 4) (μ 3 0) (μ 1 0) j) % 1200
    unfold va_up
    by_cases q : j = μ 3 0
    · rw [if_pos q, if_pos q, if_pos q, Nat.sub_self]
      exact fun _ => rfl
    · rw [if_neg q, if_neg q, if_neg q]
      exact hC.2.1 j hj
theorem ct_pos_of {f : Nat → Nat} {n : Nat} (h : ct f n = 0) : ∀ j, j < n → f j = 0 := fun j hj => by
  have := ct_part (f := f) hj
  omega
theorem IM_off {μ : NS} (hM : IM μ) {k : Nat} (hk : k < μ 3 0) (hp : ppl μ k = 0) : IM (muOff μ k) := by
  obtain ⟨h0, hU, hhd, hcar, hbase, hoff, hoff2, hw, hcut, hb8, hr8, hvt, hvv, hrec, hN, htk, hth, hta0⟩ := hM
  refine ⟨h0, hU, hhd, hcar, hbase, fun j hj => ?_, fun j hj hn => ?_, hw, hcut, hb8, hr8, hvt, hvv, hrec, hN, fun j hj => ?_, hth, hta0⟩
  · show va_up (μ 5) k 1 j ≤ 1
    unfold va_up; split
    · exact Nat.le_refl _
    · exact hoff j hj
  · show va_up (μ 5) k 1 j = 0
    unfold va_up
    have hn2 : μ 3 0 ≤ j := hn
    rw [if_neg (by omega)]
    exact hoff2 j hj hn
  · obtain ⟨g1, g2, g3, g4, g5, g6, g7⟩ := htk j hj
    refine ⟨g1, g2, g3, g4, g5, g6, fun (z : μ 20 j = 0) => ?_⟩
    show va_up (μ 5) k 1 (μ 16 j) = 0
    unfold va_up
    have hj2 : j < μ 15 0 := hj
    by_cases q : μ 16 j = k
    · have h1 := ct_pos_of hp j hj2
      rw [if_pos ⟨q, z⟩] at h1
      have g2' : 1 ≤ μ 17 j := g2
      omega
    · rw [if_neg q]; exact g7 z
theorem IC_off {μ ρ : NS} (hC : IC μ ρ) (k : Nat) : IC (muOff μ k) (roOff ρ k) := by
  refine ⟨fun j hj => ?_, fun j hj => ?_, hC.2.2.1, hC.2.2.2.1, hC.2.2.2.2⟩
  · show va_up (ρ 1) k 0 j = bq (j < μ 3 0 ∧ va_up (μ 5) k 1 j = 0)
    unfold va_up
    by_cases q : j = k
    · rw [if_pos q, if_pos q, bq_f (by omega)]
    · rw [if_neg q, if_neg q]; exact hC.1 j hj
  · show va_up (ρ 1) k 0 j = 1 → ρ 0 j = (μ 1 0 - μ 4 j) % 1200
    unfold va_up
    by_cases q : j = k
    · rw [if_pos q]; intro z; omega
    · rw [if_neg q]; exact hC.2.1 j hj
theorem IM_win {μ : NS} (hM : IM μ) {k w : Nat} (hw9 : w ≤ 150) : IM (muWin μ k w) := by
  obtain ⟨h0, hU, hhd, hcar, hbase, hoff, hoff2, hw, hcut, hb8, hr8, hvt, hvv, hrec, hN, htk, hth, hta0⟩ := hM
  refine ⟨h0, hU, hhd, hcar, hbase, hoff, hoff2, fun j hj => ⟨?_, (hw j hj).2⟩, hcut, hb8, hr8, hvt, hvv, hrec, hN, htk, hth, hta0⟩
  show va_up (μ 6) k w j ≤ 150
  unfold va_up; split
  · exact hw9
  · exact (hw j hj).1
theorem IM_lim {μ : NS} (hM : IM μ) {k a b : Nat} (ha : a ≤ 150) (hb : b ≤ 150) : IM (muLim μ k a b) := by
  obtain ⟨h0, hU, hhd, hcar, hbase, hoff, hoff2, hw, hcut, hb8, hr8, hvt, hvv, hrec, hN, htk, hth, hta0⟩ := hM
  refine ⟨h0, hU, hhd, hcar, hbase, hoff, hoff2, fun j hj => ⟨(hw j hj).1, ?_, ?_⟩, hcut, hb8, hr8, hvt, hvv, hrec, hN, htk, hth, hta0⟩
  · show va_up (μ 7) k a j ≤ 150
    unfold va_up; split
    · exact ha
    · exact (hw j hj).2.1
  · show va_up (μ 8) k b j ≤ 150
    unfold va_up; split
    · exact hb
    · exact (hw j hj).2.2
theorem IM_cut {μ : NS} (hM : IM μ) {k b : Nat} (hb : b ≤ 1) : IM (muCut μ k b) := by
  obtain ⟨h0, hU, hhd, hcar, hbase, hoff, hoff2, hw, hcut, hb8, hr8, hvt, hvv, hrec, hN, htk, hth, hta0⟩ := hM
  refine ⟨h0, hU, hhd, hcar, hbase, hoff, hoff2, hw, fun j hj => ?_, hb8, hr8, hvt, hvv, hrec, hN, htk, hth, hta0⟩
  show va_up (μ 9) k b j ≤ 1
  unfold va_up; split
  · exact hb
  · exact hcut j hj
theorem IM_hol {μ : NS} (hM : IM μ) {b : Nat} (hb : b ≤ 1) : IM (muHol μ b) := by
  obtain ⟨h0, hU, hhd, hr⟩ := hM
  exact ⟨h0, hU, hb, hr⟩
theorem IM_boa {μ : NS} (hM : IM μ) {k p f : Nat} (hN9 : μ 15 0 < 60) (hk : k < μ 3 0) (hk2 : μ 5 k = 0) (hp1 : 1 ≤ p) (hp : p ≤ 8) (hf : f ≤ 1000) : IM (muBoa μ k p f) := by
  obtain ⟨h0, hU, hhd, hcar, hbase, hoff, hoff2, hw, hcut, hb8, hr8, hvt, hvv, hrec, hN, htk, hth, hta0⟩ := hM
  refine ⟨h0, hU, hhd, hcar, hbase, hoff, hoff2, hw, hcut, hb8, hr8, hvt, hvv, hrec, hN9, fun j hj => ?_, hth, fun j hj hn => hta0 j hj (by have : μ 15 0 + 1 ≤ j := hn; omega)⟩
  have hj2 : j < μ 15 0 + 1 := hj
  show va_up (μ 16) (μ 15 0) k j < μ 3 0 ∧ 1 ≤ va_up (μ 17) (μ 15 0) p j ∧ va_up (μ 17) (μ 15 0) p j ≤ 8 ∧ va_up (μ 18) (μ 15 0) f j ≤ 1000 ∧ va_up (μ 19) (μ 15 0) (goN μ k) j ≤ μ 1 0 + 1200 ∧ μ 20 j ≤ μ 0 0 ∧ (μ 20 j = 0 → μ 5 (va_up (μ 16) (μ 15 0) k j) = 0)
  by_cases q : j = μ 15 0
  · have e := hta0 j (by omega) (by omega)
    subst q
    simp only [va_up_self]
    refine ⟨hk, hp1, hp, hf, ?_, by omega, fun _ => hk2⟩
    unfold goN; split <;> omega
  · simp only [va_up_ne _ _ q]
    exact htk j (by omega)
theorem IC_boa {μ ρ : NS} (hM : IM μ) (hC : IC μ ρ) (k p f : Nat) (hN9 : μ 15 0 < 60) : IC (muBoa μ k p f) (roBoa μ ρ) := by
  obtain ⟨-, -, -, -, -, -, -, -, -, -, -, -, -, -, -, -, -, hta0⟩ := hM
  refine ⟨hC.1, hC.2.1, hC.2.2.1, hC.2.2.2.1, fun j hj => ?_⟩
  have hj2 : j < μ 15 0 + 1 := hj
  show va_up (ρ 5) (μ 15 0) 0 j = if μ 20 j = 0 then 0 else μ 20 j + 1
  unfold va_up
  by_cases q : j = μ 15 0
  · rw [if_pos q, if_pos (hta0 j (by omega) (by omega))]
  · rw [if_neg q]; exact hC.2.2.2.2 j (by omega)
end
section
theorem k_V_wouldDecide : rr_CK y_V_wouldDecide b_V_wouldDecide 1 (some .int) 0 := ⟨q_274, q_275, q_1, q_276, by decide, by decide, by decide +kernel⟩
set_option maxHeartbeats 4000000 in
set_option maxRecDepth 100000 in
/-- RopeVotes.wouldDecide -/
theorem c_V_wouldDecide (l : Launch) (D : va_G) (cs : rr_C3) (a0 : Nat) (h0 : Nat) (h1 : Nat) (h2 : Nat) (u0 : Value) (u1 : Value) (u2 : Value) (u4 : Value) (u5 : Value) (u7 : Value) (T : Nat) (hd : Nat) (cb : Nat → Nat) (vt : Nat → Nat) (hcb : ∀ j, j < 7 → cb j ≤ 3) (hvt : ∀ j, j < 7 → vt j ≤ T) (hT : T ≤ 1000) (hhd : hd ≤ 1) : RO l y_V_wouldDecide b_V_wouldDecide 1 (some .int) 3 70 D cs [(a0, .inr (5, [u0, u1, u2, .ref h0, u4, u5, .int (nI T), u7, .int (nI hd)])), (h0, .inr (0, [.ref h1, .ref h2])), (h1, .inl (cs.1, 7, .inl (fun j => mI (cb j)))), (h2, .inl (cs.1, 7, .inl (fun j => zI (vt j))))] [.ref a0] (fun r => r = nI (wdN hd (dcN (cfN T cb vt 2 7) (cfN T cb vt 1 7) (cfN T cb vt 0 7)))) := by
  refine RO.of (by decide) (Nat.le_of_ble_eq_true rfl) ?_
  intro p e s m args below meth c S hr hlk hK hP ls hl
  obtain ⟨hx, hb, hml, hown, ht⟩ := id S
  have hl : lv_has ls 1 [(0, .ref a0)] := hl
  refine lv_aload_n hx hb d_V_wouldDecide_0 rfl (lv_at hl 0 rfl) ?_
  refine va_get (D := D) (ci := 5) (v := .int (nI hd)) (C := R_V) (T := F_V) (N := 9) hx hb ht j_V hown hK.1 hP 0 rfl rfl 8 (by decide) (ht _ q_136) (fun _ h9 => h9) rfl d_V_wouldDecide_1 ?_
  refine rr_if_eq (a := hd) (tgt := 11) (by omega) hx hb d_V_wouldDecide_4 (by decide) (fun c4 => ?_) (fun c4 => ?_)
  · refine lv_aload_n hx hb d_V_wouldDecide_11 rfl (lv_at hl 0 rfl) ?_
    refine va_get (D := D) (ci := 5) (v := .ref h0) (C := R_V) (T := F_V) (N := 9) hx hb ht j_V hown hK.1 hP 0 rfl rfl 3 (by decide) (ht _ q_131) (fun _ h9 => h9) rfl d_V_wouldDecide_12 ?_
    refine lv_aload_n hx hb d_V_wouldDecide_15 rfl (lv_at hl 0 rfl) ?_
    refine va_get (D := D) (ci := 5) (v := .int (nI T)) (C := R_V) (T := F_V) (N := 9) hx hb ht j_V hown hK.1 hP 0 rfl rfl 6 (by decide) (ht _ q_134) (fun _ h9 => h9) rfl d_V_wouldDecide_16 ?_
    refine rr_rV (As := [.int (nI T)]) (rest := []) (idx := 150) (q0 := 1) (ci := 0) S hK hP (c_C_speedByVotes l D cs h0 h1 h2 cb vt T (by first | assumption | omega) (by first | assumption | omega) (by first | assumption | omega)) k_C_speedByVotes [1, 2, 3] rfl rfl rfl rfl q_277 ⟨Nat.le_of_ble_eq_true rfl, Nat.le_of_ble_eq_true rfl⟩ ⟨Nat.le_of_ble_eq_true rfl, Nat.le_of_ble_eq_true rfl⟩ hl (Nat.le_of_ble_eq_true rfl) rfl d_V_wouldDecide_19 (fun r9 hr9 => ?_)
    subst hr9
    exact rr_ret hx hb hr hlk (congrArg nI (by unfold wdN; rw [if_pos (by omega)])) d_V_wouldDecide_22
  · refine lv_iconst (v := nI 0) hx hb d_V_wouldDecide_7 (by decide) ?_
    refine lv_goto (tgt := 22) hx hb d_V_wouldDecide_8 (by decide) ?_
    exact rr_ret hx hb hr hlk (congrArg nI (by unfold wdN; rw [if_neg (by omega)])) d_V_wouldDecide_22
end
section
theorem k_V_cars : rr_CK y_V_cars b_V_cars 1 (some .int) 0 := ⟨q_538, q_539, q_1, q_540, by decide, by decide, by decide +kernel⟩
set_option maxHeartbeats 4000000 in
set_option maxRecDepth 100000 in
/-- RopeVotes.cars -/
theorem c_V_cars (l : Launch) (D : va_G) (cs : rr_C3) (ad : Nat → Nat) (μ : NS) (ρ : NS) (hM : IM μ) (hC : IC μ ρ) : RO l y_V_cars b_V_cars 1 (some .int) 1 22 D cs [((ad 0), .inr (5, [.ref (ad 1), .ref (ad 2), .ref (ad 3), .ref (ad 4), .ref (ad 5), .ref (ad 6), .int (nI (μ 0 0)), .int (nI (μ 1 0)), .int (nI (μ 2 0))])), ((ad 1), .inr (1, [.ref (ad 7), .ref (ad 8), .ref (ad 9), .int (nI (μ 3 0))])), ((ad 2), .inr (4, [.ref (ad 10), .ref (ad 11), .ref (ad 12), .ref (ad 13)])), ((ad 3), .inr (2, [.ref (ad 14), .ref (ad 15)])), ((ad 4), .inr (0, [.ref (ad 16), .ref (ad 17)])), ((ad 5), .inr (3, [.ref (ad 18), .ref (ad 19), .ref (ad 20), .ref (ad 21), .ref (ad 22), .ref (ad 23), .int (nI (μ 15 0))])), ((ad 6), .inl (cs.1, 1001, .inl (fun j => nI ((μ 14) j)))), ((ad 7), .inl (cs.1, 16, .inl (fun j => nI ((ρ 0) j)))), ((ad 8), .inl (cs.1, 16, .inl (fun j => nI ((μ 4) j)))), ((ad 9), .inl (cs.2.1, 16, .inl (fun j => nI ((ρ 1) j)))), ((ad 10), .inl (cs.1, 7, .inl (fun j => nI ((μ 6) j)))), ((ad 11), .inl (cs.1, 7, .inl (fun j => nI ((μ 7) j)))), ((ad 12), .inl (cs.1, 7, .inl (fun j => nI ((μ 8) j)))), ((ad 13), .inl (cs.2.1, 7, .inl (fun j => nI ((μ 9) j)))), ((ad 14), .inl (cs.1, 49, .inl (fun j => nI ((ρ 2) j)))), ((ad 15), .inl (cs.1, 49, .inl (fun j => nI ((ρ 3) j)))), ((ad 16), .inl (cs.1, 7, .inl (fun j => mI ((ρ 4) j)))), ((ad 17), .inl (cs.1, 7, .inl (fun j => zI ((μ 12) j)))), ((ad 18), .inl (cs.1, 60, .inl (fun j => nI ((μ 16) j)))), ((ad 19), .inl (cs.1, 60, .inl (fun j => nI ((μ 17) j)))), ((ad 20), .inl (cs.1, 60, .inl (fun j => nI ((μ 18) j)))), ((ad 21), .inl (cs.1, 60, .inl (fun j => nI ((μ 19) j)))), ((ad 22), .inl (cs.1, 60, .inl (fun j => mI ((ρ 5) j)))), ((ad 23), .inl (cs.1, 60, .inl (fun j => nI ((μ 21) j))))] [.ref (ad 0)] (fun r => r = nI (ct (onM μ) 16)) := by
  refine RO.of (by decide) (Nat.le_of_ble_eq_true rfl) ?_
  intro p e s m args below meth c S hr hlk hK hP ls hl
  obtain ⟨hx, hb, hml, hown, ht⟩ := id S
  have hl : lv_has ls 1 [(0, .ref (ad 0))] := hl
  obtain ⟨hT, hU, hhd, hcar, hbase, hoff, hoff2, hwb, hcut, hb8, hr8, hvt, hvv, hrec, hN, htk, hth, hta0⟩ := id hM
  have hon := hC.on
  have hpl := hC.pl
  have hcb := hC.cb hM
  have htA := hC.tA hM
  refine lv_aload_n hx hb d_V_cars_0 rfl (lv_at hl 0 rfl) ?_
  refine va_get (D := D) (ci := 5) (v := .ref (ad 1)) (C := R_V) (T := F_V) (N := 9) hx hb ht j_V hown hK.1 hP 0 rfl rfl 0 (by decide) (ht _ q_128) (fun _ h9 => h9) rfl d_V_cars_1 ?_
  refine rr_rV (As := []) (rest := []) (idx := 101) (q0 := 1) (ci := 1) S hK hP (c_L_countOn l D cs (ad 1) (ad 9) (.ref (ad 7)) (.ref (ad 8)) (.int (nI (μ 3 0))) (ρ 1) (by first | assumption | omega)) k_L_countOn [1, 9] rfl rfl rfl rfl q_541 ⟨Nat.le_of_ble_eq_true rfl, Nat.le_of_ble_eq_true rfl⟩ ⟨Nat.le_of_ble_eq_true rfl, Nat.le_of_ble_eq_true rfl⟩ hl (Nat.le_of_ble_eq_true rfl) rfl d_V_cars_4 (fun r9 hr9 => ?_)
  subst hr9
  exact rr_ret hx hb hr hlk (congrArg nI (cars_same hC)) d_V_cars_7
theorem k_V_leastGap : rr_CK y_V_leastGap b_V_leastGap 1 (some .int) 0 := ⟨q_546, q_547, q_1, q_548, by decide, by decide, by decide +kernel⟩
set_option maxHeartbeats 4000000 in
set_option maxRecDepth 100000 in
/-- RopeVotes.leastGap -/
theorem c_V_leastGap (l : Launch) (D : va_G) (cs : rr_C3) (ad : Nat → Nat) (μ : NS) (ρ : NS) (hM : IM μ) (hC : IC μ ρ) : RO l y_V_leastGap b_V_leastGap 1 (some .int) 3 59 D cs [((ad 0), .inr (5, [.ref (ad 1), .ref (ad 2), .ref (ad 3), .ref (ad 4), .ref (ad 5), .ref (ad 6), .int (nI (μ 0 0)), .int (nI (μ 1 0)), .int (nI (μ 2 0))])), ((ad 1), .inr (1, [.ref (ad 7), .ref (ad 8), .ref (ad 9), .int (nI (μ 3 0))])), ((ad 2), .inr (4, [.ref (ad 10), .ref (ad 11), .ref (ad 12), .ref (ad 13)])), ((ad 3), .inr (2, [.ref (ad 14), .ref (ad 15)])), ((ad 4), .inr (0, [.ref (ad 16), .ref (ad 17)])), ((ad 5), .inr (3, [.ref (ad 18), .ref (ad 19), .ref (ad 20), .ref (ad 21), .ref (ad 22), .ref (ad 23), .int (nI (μ 15 0))])), ((ad 6), .inl (cs.1, 1001, .inl (fun j => nI ((μ 14) j)))), ((ad 7), .inl (cs.1, 16, .inl (fun j => nI ((ρ 0) j)))), ((ad 8), .inl (cs.1, 16, .inl (fun j => nI ((μ 4) j)))), ((ad 9), .inl (cs.2.1, 16, .inl (fun j => nI ((ρ 1) j)))), ((ad 10), .inl (cs.1, 7, .inl (fun j => nI ((μ 6) j)))), ((ad 11), .inl (cs.1, 7, .inl (fun j => nI ((μ 7) j)))), ((ad 12), .inl (cs.1, 7, .inl (fun j => nI ((μ 8) j)))), ((ad 13), .inl (cs.2.1, 7, .inl (fun j => nI ((μ 9) j)))), ((ad 14), .inl (cs.1, 49, .inl (fun j => nI ((ρ 2) j)))), ((ad 15), .inl (cs.1, 49, .inl (fun j => nI ((ρ 3) j)))), ((ad 16), .inl (cs.1, 7, .inl (fun j => mI ((ρ 4) j)))), ((ad 17), .inl (cs.1, 7, .inl (fun j => zI ((μ 12) j)))), ((ad 18), .inl (cs.1, 60, .inl (fun j => nI ((μ 16) j)))), ((ad 19), .inl (cs.1, 60, .inl (fun j => nI ((μ 17) j)))), ((ad 20), .inl (cs.1, 60, .inl (fun j => nI ((μ 18) j)))), ((ad 21), .inl (cs.1, 60, .inl (fun j => nI ((μ 19) j)))), ((ad 22), .inl (cs.1, 60, .inl (fun j => mI ((ρ 5) j)))), ((ad 23), .inl (cs.1, 60, .inl (fun j => nI ((μ 21) j))))] [.ref (ad 0)] (fun r => r = mI (lgo (onM μ) (pN μ) 16)) := by
  refine RO.of (by decide) (Nat.le_of_ble_eq_true rfl) ?_
  intro p e s m args below meth c S hr hlk hK hP ls hl
  obtain ⟨hx, hb, hml, hown, ht⟩ := id S
  have hl : lv_has ls 1 [(0, .ref (ad 0))] := hl
  obtain ⟨hT, hU, hhd, hcar, hbase, hoff, hoff2, hwb, hcut, hb8, hr8, hvt, hvv, hrec, hN, htk, hth, hta0⟩ := id hM
  have hon := hC.on
  have hpl := hC.pl
  have hcb := hC.cb hM
  have htA := hC.tA hM
  refine lv_aload_n hx hb d_V_leastGap_0 rfl (lv_at hl 0 rfl) ?_
  refine va_get (D := D) (ci := 5) (v := .ref (ad 1)) (C := R_V) (T := F_V) (N := 9) hx hb ht j_V hown hK.1 hP 0 rfl rfl 0 (by decide) (ht _ q_128) (fun _ h9 => h9) rfl d_V_leastGap_1 ?_
  refine rr_rV (As := []) (rest := []) (idx := 105) (q0 := 1) (ci := 1) S hK hP (c_L_leastGapOfPairs l D cs (ad 1) (ad 7) (ad 9) (.ref (ad 8)) (.int (nI (μ 3 0))) (ρ 0) (ρ 1) (by first | assumption | omega) (by first | assumption | omega)) k_L_leastGapOfPairs [1, 7, 9] rfl rfl rfl rfl q_549 ⟨Nat.le_of_ble_eq_true rfl, Nat.le_of_ble_eq_true rfl⟩ ⟨Nat.le_of_ble_eq_true rfl, Nat.le_of_ble_eq_true rfl⟩ hl (Nat.le_of_ble_eq_true rfl) rfl d_V_leastGap_4 (fun r9 hr9 => ?_)
  subst hr9
  exact rr_ret hx hb hr hlk (congrArg mI (lg_same hC)) d_V_leastGap_7
theorem k_V_fresh : rr_CK y_V_fresh b_V_fresh 1 (some .int) 0 := ⟨q_504, q_505, q_1, q_506, by decide, by decide, by decide +kernel⟩
set_option maxHeartbeats 4000000 in
set_option maxRecDepth 100000 in
/-- RopeVotes.fresh -/
theorem c_V_fresh (l : Launch) (D : va_G) (cs : rr_C3) (ad : Nat → Nat) (μ : NS) (ρ : NS) (hM : IM μ) (hC : IC μ ρ) : RO l y_V_fresh b_V_fresh 1 (some .int) 2 45 D cs [((ad 0), .inr (5, [.ref (ad 1), .ref (ad 2), .ref (ad 3), .ref (ad 4), .ref (ad 5), .ref (ad 6), .int (nI (μ 0 0)), .int (nI (μ 1 0)), .int (nI (μ 2 0))])), ((ad 1), .inr (1, [.ref (ad 7), .ref (ad 8), .ref (ad 9), .int (nI (μ 3 0))])), ((ad 2), .inr (4, [.ref (ad 10), .ref (ad 11), .ref (ad 12), .ref (ad 13)])), ((ad 3), .inr (2, [.ref (ad 14), .ref (ad 15)])), ((ad 4), .inr (0, [.ref (ad 16), .ref (ad 17)])), ((ad 5), .inr (3, [.ref (ad 18), .ref (ad 19), .ref (ad 20), .ref (ad 21), .ref (ad 22), .ref (ad 23), .int (nI (μ 15 0))])), ((ad 6), .inl (cs.1, 1001, .inl (fun j => nI ((μ 14) j)))), ((ad 7), .inl (cs.1, 16, .inl (fun j => nI ((ρ 0) j)))), ((ad 8), .inl (cs.1, 16, .inl (fun j => nI ((μ 4) j)))), ((ad 9), .inl (cs.2.1, 16, .inl (fun j => nI ((ρ 1) j)))), ((ad 10), .inl (cs.1, 7, .inl (fun j => nI ((μ 6) j)))), ((ad 11), .inl (cs.1, 7, .inl (fun j => nI ((μ 7) j)))), ((ad 12), .inl (cs.1, 7, .inl (fun j => nI ((μ 8) j)))), ((ad 13), .inl (cs.2.1, 7, .inl (fun j => nI ((μ 9) j)))), ((ad 14), .inl (cs.1, 49, .inl (fun j => nI ((ρ 2) j)))), ((ad 15), .inl (cs.1, 49, .inl (fun j => nI ((ρ 3) j)))), ((ad 16), .inl (cs.1, 7, .inl (fun j => mI ((ρ 4) j)))), ((ad 17), .inl (cs.1, 7, .inl (fun j => zI ((μ 12) j)))), ((ad 18), .inl (cs.1, 60, .inl (fun j => nI ((μ 16) j)))), ((ad 19), .inl (cs.1, 60, .inl (fun j => nI ((μ 17) j)))), ((ad 20), .inl (cs.1, 60, .inl (fun j => nI ((μ 18) j)))), ((ad 21), .inl (cs.1, 60, .inl (fun j => nI ((μ 19) j)))), ((ad 22), .inl (cs.1, 60, .inl (fun j => mI ((ρ 5) j)))), ((ad 23), .inl (cs.1, 60, .inl (fun j => nI ((μ 21) j))))] [.ref (ad 0)] (fun r => r = fsI (μ 0 0) (μ 12) 7) := by
  refine RO.of (by decide) (Nat.le_of_ble_eq_true rfl) ?_
  intro p e s m args below meth c S hr hlk hK hP ls hl
  obtain ⟨hx, hb, hml, hown, ht⟩ := id S
  have hl : lv_has ls 1 [(0, .ref (ad 0))] := hl
  obtain ⟨hT, hU, hhd, hcar, hbase, hoff, hoff2, hwb, hcut, hb8, hr8, hvt, hvv, hrec, hN, htk, hth, hta0⟩ := id hM
  have hon := hC.on
  have hpl := hC.pl
  have hcb := hC.cb hM
  have htA := hC.tA hM
  refine lv_aload_n hx hb d_V_fresh_0 rfl (lv_at hl 0 rfl) ?_
  refine va_get (D := D) (ci := 5) (v := .ref (ad 4)) (C := R_V) (T := F_V) (N := 9) hx hb ht j_V hown hK.1 hP 0 rfl rfl 3 (by decide) (ht _ q_131) (fun _ h9 => h9) rfl d_V_fresh_1 ?_
  refine lv_aload_n hx hb d_V_fresh_4 rfl (lv_at hl 0 rfl) ?_
  refine va_get (D := D) (ci := 5) (v := .int (nI (μ 0 0))) (C := R_V) (T := F_V) (N := 9) hx hb ht j_V hown hK.1 hP 0 rfl rfl 6 (by decide) (ht _ q_134) (fun _ h9 => h9) rfl d_V_fresh_5 ?_
  refine rr_rV (As := [.int (nI (μ 0 0))]) (rest := []) (idx := 144) (q0 := 4) (ci := 0) S hK hP (c_C_freshSet l D cs (ad 4) (ad 17) (.ref (ad 16)) (μ 12) (μ 0 0) (by first | assumption | omega) (by first | assumption | omega)) k_C_freshSet [4, 17] rfl rfl rfl rfl q_354 ⟨Nat.le_of_ble_eq_true rfl, Nat.le_of_ble_eq_true rfl⟩ ⟨Nat.le_of_ble_eq_true rfl, Nat.le_of_ble_eq_true rfl⟩ hl (Nat.le_of_ble_eq_true rfl) rfl d_V_fresh_8 (fun r9 hr9 => ?_)
  subst hr9
  exact rr_ret hx hb hr hlk rfl d_V_fresh_11
theorem k_V_onTheWay : rr_CK y_V_onTheWay b_V_onTheWay 1 (some .int) 0 := ⟨q_508, q_509, q_1, q_510, by decide, by decide, by decide +kernel⟩
set_option maxHeartbeats 4000000 in
set_option maxRecDepth 100000 in
/-- RopeVotes.onTheWay -/
theorem c_V_onTheWay (l : Launch) (D : va_G) (cs : rr_C3) (ad : Nat → Nat) (μ : NS) (ρ : NS) (hM : IM μ) (hC : IC μ ρ) : RO l y_V_onTheWay b_V_onTheWay 1 (some .int) 1 23 D cs [((ad 0), .inr (5, [.ref (ad 1), .ref (ad 2), .ref (ad 3), .ref (ad 4), .ref (ad 5), .ref (ad 6), .int (nI (μ 0 0)), .int (nI (μ 1 0)), .int (nI (μ 2 0))])), ((ad 1), .inr (1, [.ref (ad 7), .ref (ad 8), .ref (ad 9), .int (nI (μ 3 0))])), ((ad 2), .inr (4, [.ref (ad 10), .ref (ad 11), .ref (ad 12), .ref (ad 13)])), ((ad 3), .inr (2, [.ref (ad 14), .ref (ad 15)])), ((ad 4), .inr (0, [.ref (ad 16), .ref (ad 17)])), ((ad 5), .inr (3, [.ref (ad 18), .ref (ad 19), .ref (ad 20), .ref (ad 21), .ref (ad 22), .ref (ad 23), .int (nI (μ 15 0))])), ((ad 6), .inl (cs.1, 1001, .inl (fun j => nI ((μ 14) j)))), ((ad 7), .inl (cs.1, 16, .inl (fun j => nI ((ρ 0) j)))), ((ad 8), .inl (cs.1, 16, .inl (fun j => nI ((μ 4) j)))), ((ad 9), .inl (cs.2.1, 16, .inl (fun j => nI ((ρ 1) j)))), ((ad 10), .inl (cs.1, 7, .inl (fun j => nI ((μ 6) j)))), ((ad 11), .inl (cs.1, 7, .inl (fun j => nI ((μ 7) j)))), ((ad 12), .inl (cs.1, 7, .inl (fun j => nI ((μ 8) j)))), ((ad 13), .inl (cs.2.1, 7, .inl (fun j => nI ((μ 9) j)))), ((ad 14), .inl (cs.1, 49, .inl (fun j => nI ((ρ 2) j)))), ((ad 15), .inl (cs.1, 49, .inl (fun j => nI ((ρ 3) j)))), ((ad 16), .inl (cs.1, 7, .inl (fun j => mI ((ρ 4) j)))), ((ad 17), .inl (cs.1, 7, .inl (fun j => zI ((μ 12) j)))), ((ad 18), .inl (cs.1, 60, .inl (fun j => nI ((μ 16) j)))), ((ad 19), .inl (cs.1, 60, .inl (fun j => nI ((μ 17) j)))), ((ad 20), .inl (cs.1, 60, .inl (fun j => nI ((μ 18) j)))), ((ad 21), .inl (cs.1, 60, .inl (fun j => nI ((μ 19) j)))), ((ad 22), .inl (cs.1, 60, .inl (fun j => mI ((ρ 5) j)))), ((ad 23), .inl (cs.1, 60, .inl (fun j => nI ((μ 21) j))))] [.ref (ad 0)] (fun r => r = nI (owN (μ 0 0) (μ 10) 56)) := by
  refine RO.of (by decide) (Nat.le_of_ble_eq_true rfl) ?_
  intro p e s m args below meth c S hr hlk hK hP ls hl
  obtain ⟨hx, hb, hml, hown, ht⟩ := id S
  have hl : lv_has ls 1 [(0, .ref (ad 0))] := hl
  obtain ⟨hT, hU, hhd, hcar, hbase, hoff, hoff2, hwb, hcut, hb8, hr8, hvt, hvv, hrec, hN, htk, hth, hta0⟩ := id hM
  have hon := hC.on
  have hpl := hC.pl
  have hcb := hC.cb hM
  have htA := hC.tA hM
  refine lv_aload_n hx hb d_V_onTheWay_0 rfl (lv_at hl 0 rfl) ?_
  refine va_get (D := D) (ci := 5) (v := .ref (ad 3)) (C := R_V) (T := F_V) (N := 9) hx hb ht j_V hown hK.1 hP 0 rfl rfl 2 (by decide) (ht _ q_130) (fun _ h9 => h9) rfl d_V_onTheWay_1 ?_
  refine lv_aload_n hx hb d_V_onTheWay_4 rfl (lv_at hl 0 rfl) ?_
  refine va_get (D := D) (ci := 5) (v := .int (nI (μ 0 0))) (C := R_V) (T := F_V) (N := 9) hx hb ht j_V hown hK.1 hP 0 rfl rfl 6 (by decide) (ht _ q_134) (fun _ h9 => h9) rfl d_V_onTheWay_5 ?_
  refine rr_rV (As := [.int (nI (μ 0 0))]) (rest := []) (idx := 147) (q0 := 3) (ci := 2) S hK hP (c_P_countLater l D cs (ad 3) (ad 15) (.ref (ad 14)) (ρ 3) (μ 0 0) (by first | assumption | omega) (fun j hj => Nat.le_trans (IC.c7 hM hC hj) (by omega))) k_P_countLater [3, 15] rfl rfl rfl rfl q_511 ⟨Nat.le_of_ble_eq_true rfl, Nat.le_of_ble_eq_true rfl⟩ ⟨Nat.le_of_ble_eq_true rfl, Nat.le_of_ble_eq_true rfl⟩ hl (Nat.le_of_ble_eq_true rfl) rfl d_V_onTheWay_8 (fun r9 hr9 => ?_)
  subst hr9
  exact rr_ret hx hb hr hlk (congrArg nI (ow_same hM hC)) d_V_onTheWay_11
theorem k_V_time : rr_CK y_V_time b_V_time 1 (some .int) 0 := ⟨q_387, q_388, q_1, q_389, by decide, by decide, by decide +kernel⟩
set_option maxHeartbeats 4000000 in
set_option maxRecDepth 100000 in
/-- RopeVotes.time -/
theorem c_V_time (l : Launch) (D : va_G) (cs : rr_C3) (ad : Nat → Nat) (μ : NS) (ρ : NS) (hM : IM μ) (hC : IC μ ρ) : RO l y_V_time b_V_time 1 (some .int) 0 0 D cs [((ad 0), .inr (5, [.ref (ad 1), .ref (ad 2), .ref (ad 3), .ref (ad 4), .ref (ad 5), .ref (ad 6), .int (nI (μ 0 0)), .int (nI (μ 1 0)), .int (nI (μ 2 0))])), ((ad 1), .inr (1, [.ref (ad 7), .ref (ad 8), .ref (ad 9), .int (nI (μ 3 0))])), ((ad 2), .inr (4, [.ref (ad 10), .ref (ad 11), .ref (ad 12), .ref (ad 13)])), ((ad 3), .inr (2, [.ref (ad 14), .ref (ad 15)])), ((ad 4), .inr (0, [.ref (ad 16), .ref (ad 17)])), ((ad 5), .inr (3, [.ref (ad 18), .ref (ad 19), .ref (ad 20), .ref (ad 21), .ref (ad 22), .ref (ad 23), .int (nI (μ 15 0))])), ((ad 6), .inl (cs.1, 1001, .inl (fun j => nI ((μ 14) j)))), ((ad 7), .inl (cs.1, 16, .inl (fun j => nI ((ρ 0) j)))), ((ad 8), .inl (cs.1, 16, .inl (fun j => nI ((μ 4) j)))), ((ad 9), .inl (cs.2.1, 16, .inl (fun j => nI ((ρ 1) j)))), ((ad 10), .inl (cs.1, 7, .inl (fun j => nI ((μ 6) j)))), ((ad 11), .inl (cs.1, 7, .inl (fun j => nI ((μ 7) j)))), ((ad 12), .inl (cs.1, 7, .inl (fun j => nI ((μ 8) j)))), ((ad 13), .inl (cs.2.1, 7, .inl (fun j => nI ((μ 9) j)))), ((ad 14), .inl (cs.1, 49, .inl (fun j => nI ((ρ 2) j)))), ((ad 15), .inl (cs.1, 49, .inl (fun j => nI ((ρ 3) j)))), ((ad 16), .inl (cs.1, 7, .inl (fun j => mI ((ρ 4) j)))), ((ad 17), .inl (cs.1, 7, .inl (fun j => zI ((μ 12) j)))), ((ad 18), .inl (cs.1, 60, .inl (fun j => nI ((μ 16) j)))), ((ad 19), .inl (cs.1, 60, .inl (fun j => nI ((μ 17) j)))), ((ad 20), .inl (cs.1, 60, .inl (fun j => nI ((μ 18) j)))), ((ad 21), .inl (cs.1, 60, .inl (fun j => nI ((μ 19) j)))), ((ad 22), .inl (cs.1, 60, .inl (fun j => mI ((ρ 5) j)))), ((ad 23), .inl (cs.1, 60, .inl (fun j => nI ((μ 21) j))))] [.ref (ad 0)] (fun r => r = nI (μ 0 0)) := by
  refine RO.of (by decide) (Nat.le_of_ble_eq_true rfl) ?_
  intro p e s m args below meth c S hr hlk hK hP ls hl
  obtain ⟨hx, hb, hml, hown, ht⟩ := id S
  have hl : lv_has ls 1 [(0, .ref (ad 0))] := hl
  refine lv_aload_n hx hb d_V_time_0 rfl (lv_at hl 0 rfl) ?_
  refine va_get (D := D) (ci := 5) (v := .int (nI (μ 0 0))) (C := R_V) (T := F_V) (N := 9) hx hb ht j_V hown hK.1 hP 0 rfl rfl 6 (by decide) (ht _ q_134) (fun _ h9 => h9) rfl d_V_time_1 ?_
  exact rr_ret hx hb hr hlk rfl d_V_time_4
theorem k_V_refunds : rr_CK y_V_refunds b_V_refunds 1 (some .int) 0 := ⟨q_428, q_429, q_1, q_430, by decide, by decide, by decide +kernel⟩
set_option maxHeartbeats 4000000 in
set_option maxRecDepth 100000 in
/-- RopeVotes.refunds -/
theorem c_V_refunds (l : Launch) (D : va_G) (cs : rr_C3) (ad : Nat → Nat) (μ : NS) (ρ : NS) (hM : IM μ) (hC : IC μ ρ) : RO l y_V_refunds b_V_refunds 1 (some .int) 3 58 D cs [((ad 0), .inr (5, [.ref (ad 1), .ref (ad 2), .ref (ad 3), .ref (ad 4), .ref (ad 5), .ref (ad 6), .int (nI (μ 0 0)), .int (nI (μ 1 0)), .int (nI (μ 2 0))])), ((ad 1), .inr (1, [.ref (ad 7), .ref (ad 8), .ref (ad 9), .int (nI (μ 3 0))])), ((ad 2), .inr (4, [.ref (ad 10), .ref (ad 11), .ref (ad 12), .ref (ad 13)])), ((ad 3), .inr (2, [.ref (ad 14), .ref (ad 15)])), ((ad 4), .inr (0, [.ref (ad 16), .ref (ad 17)])), ((ad 5), .inr (3, [.ref (ad 18), .ref (ad 19), .ref (ad 20), .ref (ad 21), .ref (ad 22), .ref (ad 23), .int (nI (μ 15 0))])), ((ad 6), .inl (cs.1, 1001, .inl (fun j => nI ((μ 14) j)))), ((ad 7), .inl (cs.1, 16, .inl (fun j => nI ((ρ 0) j)))), ((ad 8), .inl (cs.1, 16, .inl (fun j => nI ((μ 4) j)))), ((ad 9), .inl (cs.2.1, 16, .inl (fun j => nI ((ρ 1) j)))), ((ad 10), .inl (cs.1, 7, .inl (fun j => nI ((μ 6) j)))), ((ad 11), .inl (cs.1, 7, .inl (fun j => nI ((μ 7) j)))), ((ad 12), .inl (cs.1, 7, .inl (fun j => nI ((μ 8) j)))), ((ad 13), .inl (cs.2.1, 7, .inl (fun j => nI ((μ 9) j)))), ((ad 14), .inl (cs.1, 49, .inl (fun j => nI ((ρ 2) j)))), ((ad 15), .inl (cs.1, 49, .inl (fun j => nI ((ρ 3) j)))), ((ad 16), .inl (cs.1, 7, .inl (fun j => mI ((ρ 4) j)))), ((ad 17), .inl (cs.1, 7, .inl (fun j => zI ((μ 12) j)))), ((ad 18), .inl (cs.1, 60, .inl (fun j => nI ((μ 16) j)))), ((ad 19), .inl (cs.1, 60, .inl (fun j => nI ((μ 17) j)))), ((ad 20), .inl (cs.1, 60, .inl (fun j => nI ((μ 18) j)))), ((ad 21), .inl (cs.1, 60, .inl (fun j => nI ((μ 19) j)))), ((ad 22), .inl (cs.1, 60, .inl (fun j => mI ((ρ 5) j)))), ((ad 23), .inl (cs.1, 60, .inl (fun j => nI ((μ 21) j))))] [.ref (ad 0)] (fun r => r = nI (rsN (μ 18) (μ 17) (μ 21) (μ 15 0))) := by
  refine RO.of (by decide) (Nat.le_of_ble_eq_true rfl) ?_
  intro p e s m args below meth c S hr hlk hK hP ls hl
  obtain ⟨hx, hb, hml, hown, ht⟩ := id S
  have hl : lv_has ls 1 [(0, .ref (ad 0))] := hl
  obtain ⟨hT, hU, hhd, hcar, hbase, hoff, hoff2, hwb, hcut, hb8, hr8, hvt, hvv, hrec, hN, htk, hth, hta0⟩ := id hM
  have hon := hC.on
  have hpl := hC.pl
  have hcb := hC.cb hM
  have htA := hC.tA hM
  refine lv_aload_n hx hb d_V_refunds_0 rfl (lv_at hl 0 rfl) ?_
  refine va_get (D := D) (ci := 5) (v := .ref (ad 5)) (C := R_V) (T := F_V) (N := 9) hx hb ht j_V hown hK.1 hP 0 rfl rfl 4 (by decide) (ht _ q_132) (fun _ h9 => h9) rfl d_V_refunds_1 ?_
  refine rr_rV (As := []) (rest := []) (idx := 190) (q0 := 5) (ci := 3) S hK hP (c_K_sumOfRefunds l D cs (ad 5) (ad 19) (ad 20) (ad 23) (.ref (ad 18)) (.ref (ad 21)) (.ref (ad 22)) (μ 15 0) (μ 17) (μ 18) (μ 21) (by first | assumption | omega) (fun j hj => (htk j hj).2.2.2.1) (fun j hj => (htk j hj).2.2.1) (fun j hj => Nat.le_trans (hth j (by omega)) hT)) k_K_sumOfRefunds [5, 19, 20, 23] rfl rfl rfl rfl q_431 ⟨Nat.le_of_ble_eq_true rfl, Nat.le_of_ble_eq_true rfl⟩ ⟨Nat.le_of_ble_eq_true rfl, Nat.le_of_ble_eq_true rfl⟩ hl (Nat.le_of_ble_eq_true rfl) rfl d_V_refunds_4 (fun r9 hr9 => ?_)
  subst hr9
  exact rr_ret hx hb hr hlk rfl d_V_refunds_7
theorem k_V_putOn : rr_CK y_V_putOn b_V_putOn 1 (some .int) 0 := ⟨q_449, q_450, q_1, q_451, by decide, by decide, by decide +kernel⟩
set_option maxHeartbeats 4000000 in
set_option maxRecDepth 100000 in
/-- RopeVotes.putOn -/
theorem c_V_putOn (l : Launch) (D : va_G) (cs : rr_C3) (ad : Nat → Nat) (μ : NS) (ρ : NS) (hM : IM μ) (hC : IC μ ρ) (hfl : l.stackTraces = false) (sz : Nat) : MX l y_V_putOn b_V_putOn 1 (some .int) 6 82 D cs [((ad 0), .inr (5, [.ref (ad 1), .ref (ad 2), .ref (ad 3), .ref (ad 4), .ref (ad 5), .ref (ad 6), .int (nI (μ 0 0)), .int (nI (μ 1 0)), .int (nI (μ 2 0))])), ((ad 1), .inr (1, [.ref (ad 7), .ref (ad 8), .ref (ad 9), .int (nI (μ 3 0))])), ((ad 2), .inr (4, [.ref (ad 10), .ref (ad 11), .ref (ad 12), .ref (ad 13)])), ((ad 3), .inr (2, [.ref (ad 14), .ref (ad 15)])), ((ad 4), .inr (0, [.ref (ad 16), .ref (ad 17)])), ((ad 5), .inr (3, [.ref (ad 18), .ref (ad 19), .ref (ad 20), .ref (ad 21), .ref (ad 22), .ref (ad 23), .int (nI (μ 15 0))])), ((ad 6), .inl (cs.1, 1001, .inl (fun j => nI ((μ 14) j)))), ((ad 7), .inl (cs.1, 16, .inl (fun j => nI ((ρ 0) j)))), ((ad 8), .inl (cs.1, 16, .inl (fun j => nI ((μ 4) j)))), ((ad 9), .inl (cs.2.1, 16, .inl (fun j => nI ((ρ 1) j)))), ((ad 10), .inl (cs.1, 7, .inl (fun j => nI ((μ 6) j)))), ((ad 11), .inl (cs.1, 7, .inl (fun j => nI ((μ 7) j)))), ((ad 12), .inl (cs.1, 7, .inl (fun j => nI ((μ 8) j)))), ((ad 13), .inl (cs.2.1, 7, .inl (fun j => nI ((μ 9) j)))), ((ad 14), .inl (cs.1, 49, .inl (fun j => nI ((ρ 2) j)))), ((ad 15), .inl (cs.1, 49, .inl (fun j => nI ((ρ 3) j)))), ((ad 16), .inl (cs.1, 7, .inl (fun j => mI ((ρ 4) j)))), ((ad 17), .inl (cs.1, 7, .inl (fun j => zI ((μ 12) j)))), ((ad 18), .inl (cs.1, 60, .inl (fun j => nI ((μ 16) j)))), ((ad 19), .inl (cs.1, 60, .inl (fun j => nI ((μ 17) j)))), ((ad 20), .inl (cs.1, 60, .inl (fun j => nI ((μ 18) j)))), ((ad 21), .inl (cs.1, 60, .inl (fun j => nI ((μ 19) j)))), ((ad 22), .inl (cs.1, 60, .inl (fun j => mI ((ρ 5) j)))), ((ad 23), .inl (cs.1, 60, .inl (fun j => nI ((μ 21) j))))] sz [.ref (ad 0)] (fun (r : Int32) (_ : Unit) => r = nI (μ 3 0) ∧ thPut μ = 0) (fun _ : Unit => [((ad 0), .inr (5, [.ref (ad 1), .ref (ad 2), .ref (ad 3), .ref (ad 4), .ref (ad 5), .ref (ad 6), .int (nI ((muPut μ) 0 0)), .int (nI ((muPut μ) 1 0)), .int (nI ((muPut μ) 2 0))])), ((ad 1), .inr (1, [.ref (ad 7), .ref (ad 8), .ref (ad 9), .int (nI ((muPut μ) 3 0))])), ((ad 2), .inr (4, [.ref (ad 10), .ref (ad 11), .ref (ad 12), .ref (ad 13)])), ((ad 3), .inr (2, [.ref (ad 14), .ref (ad 15)])), ((ad 4), .inr (0, [.ref (ad 16), .ref (ad 17)])), ((ad 5), .inr (3, [.ref (ad 18), .ref (ad 19), .ref (ad 20), .ref (ad 21), .ref (ad 22), .ref (ad 23), .int (nI ((muPut μ) 15 0))])), ((ad 6), .inl (cs.1, 1001, .inl (fun j => nI (((muPut μ) 14) j)))), ((ad 7), .inl (cs.1, 16, .inl (fun j => nI (((roPut μ ρ) 0) j)))), ((ad 8), .inl (cs.1, 16, .inl (fun j => nI (((muPut μ) 4) j)))), ((ad 9), .inl (cs.2.1, 16, .inl (fun j => nI (((roPut μ ρ) 1) j)))), ((ad 10), .inl (cs.1, 7, .inl (fun j => nI (((muPut μ) 6) j)))), ((ad 11), .inl (cs.1, 7, .inl (fun j => nI (((muPut μ) 7) j)))), ((ad 12), .inl (cs.1, 7, .inl (fun j => nI (((muPut μ) 8) j)))), ((ad 13), .inl (cs.2.1, 7, .inl (fun j => nI (((muPut μ) 9) j)))), ((ad 14), .inl (cs.1, 49, .inl (fun j => nI (((roPut μ ρ) 2) j)))), ((ad 15), .inl (cs.1, 49, .inl (fun j => nI (((roPut μ ρ) 3) j)))), ((ad 16), .inl (cs.1, 7, .inl (fun j => mI (((roPut μ ρ) 4) j)))), ((ad 17), .inl (cs.1, 7, .inl (fun j => zI (((muPut μ) 12) j)))), ((ad 18), .inl (cs.1, 60, .inl (fun j => nI (((muPut μ) 16) j)))), ((ad 19), .inl (cs.1, 60, .inl (fun j => nI (((muPut μ) 17) j)))), ((ad 20), .inl (cs.1, 60, .inl (fun j => nI (((muPut μ) 18) j)))), ((ad 21), .inl (cs.1, 60, .inl (fun j => nI (((muPut μ) 19) j)))), ((ad 22), .inl (cs.1, 60, .inl (fun j => mI (((roPut μ ρ) 5) j)))), ((ad 23), .inl (cs.1, 60, .inl (fun j => nI (((muPut μ) 21) j))))]) (fun E => (E = eS ∧ thPut μ = 1)) := by
  refine MX.of (by decide) (Nat.le_of_ble_eq_true rfl) ?_
  intro p e s m args below meth c A S hr hlk hta hK hY hZ hP hD hA hS ls hl
  obtain ⟨hx, hb, hml, hown, ht⟩ := id S
  have hl : lv_has ls 1 [(0, .ref (ad 0))] := hl
  have hS : va_S A s.heap s.heap [] := hS
  obtain ⟨hT, hU, hhd, hcar, hbase, hoff, hoff2, hwb, hcut, hb8, hr8, hvt, hvv, hrec, hN, htk, hth, hta0⟩ := id hM
  have hon := hC.on
  have hpl := hC.pl
  have hcb := hC.cb hM
  have htA := hC.tA hM
  have hnr := nr_same hC
  refine lv_aload_n hx hb d_V_putOn_0 rfl (lv_at hl 0 rfl) ?_
  refine va_get (D := D) (ci := 5) (v := .ref (ad 1)) (C := R_V) (T := F_V) (N := 9) hx hb ht j_V hown hK.1 hP 0 rfl rfl 0 (by decide) (ht _ q_128) (fun _ h9 => h9) rfl d_V_putOn_1 ?_
  refine rr_rV (As := []) (rest := []) (idx := 59) (q0 := 1) (ci := 1) S hK hP (c_L_canStart l D cs (ad 1) (ad 7) (ad 9) (.ref (ad 8)) (μ 3 0) (ρ 0) (ρ 1) (by first | assumption | omega) (by first | assumption | omega) (by first | assumption | omega)) k_L_canStart [1, 7, 9] rfl rfl rfl rfl q_452 ⟨Nat.le_of_ble_eq_true rfl, Nat.le_of_ble_eq_true rfl⟩ ⟨Nat.le_of_ble_eq_true rfl, Nat.le_of_ble_eq_true rfl⟩ hl (Nat.le_of_ble_eq_true rfl) rfl d_V_putOn_4 (fun r9 hr9 => ?_)
  subst hr9
  refine rr_bq_ne (tgt := 20) hx hb d_V_putOn_7 (by decide) (fun c7 => ?_) (fun c7 => ?_)
  · refine lv_aload_n hx hb d_V_putOn_20 rfl (lv_at hl 0 rfl) ?_
    refine va_get (D := D) (ci := 5) (v := .ref (ad 1)) (C := R_V) (T := F_V) (N := 9) hx hb ht j_V hown hK.1 hP 0 rfl rfl 0 (by decide) (ht _ q_128) (fun _ h9 => h9) rfl d_V_putOn_21 ?_
    refine lv_aload_n hx hb d_V_putOn_24 rfl (lv_at hl 0 rfl) ?_
    refine va_get (D := D) (ci := 5) (v := .int (nI (μ 1 0))) (C := R_V) (T := F_V) (N := 9) hx hb ht j_V hown hK.1 hP 0 rfl rfl 7 (by decide) (ht _ q_135) (fun _ h9 => h9) rfl d_V_putOn_25 ?_
    refine rr_mVi (As := [.int (nI (μ 1 0))]) (rest := []) (idx := 70) (q0 := 1) (ci := 1) (wr := [((ad 0), .inr (5, [.ref (ad 1), .ref (ad 2), .ref (ad 3), .ref (ad 4), .ref (ad 5), .ref (ad 6), .int (nI (μ 0 0)), .int (nI (μ 1 0)), .int (nI (μ 2 0))])), ((ad 2), .inr (4, [.ref (ad 10), .ref (ad 11), .ref (ad 12), .ref (ad 13)])), ((ad 3), .inr (2, [.ref (ad 14), .ref (ad 15)])), ((ad 4), .inr (0, [.ref (ad 16), .ref (ad 17)])), ((ad 5), .inr (3, [.ref (ad 18), .ref (ad 19), .ref (ad 20), .ref (ad 21), .ref (ad 22), .ref (ad 23), .int (nI (μ 15 0))])), ((ad 6), .inl (cs.1, 1001, .inl (fun j => nI ((μ 14) j)))), ((ad 10), .inl (cs.1, 7, .inl (fun j => nI ((μ 6) j)))), ((ad 11), .inl (cs.1, 7, .inl (fun j => nI ((μ 7) j)))), ((ad 12), .inl (cs.1, 7, .inl (fun j => nI ((μ 8) j)))), ((ad 13), .inl (cs.2.1, 7, .inl (fun j => nI ((μ 9) j)))), ((ad 14), .inl (cs.1, 49, .inl (fun j => nI ((ρ 2) j)))), ((ad 15), .inl (cs.1, 49, .inl (fun j => nI ((ρ 3) j)))), ((ad 16), .inl (cs.1, 7, .inl (fun j => mI ((ρ 4) j)))), ((ad 17), .inl (cs.1, 7, .inl (fun j => zI ((μ 12) j)))), ((ad 18), .inl (cs.1, 60, .inl (fun j => nI ((μ 16) j)))), ((ad 19), .inl (cs.1, 60, .inl (fun j => nI ((μ 17) j)))), ((ad 20), .inl (cs.1, 60, .inl (fun j => nI ((μ 18) j)))), ((ad 21), .inl (cs.1, 60, .inl (fun j => nI ((μ 19) j)))), ((ad 22), .inl (cs.1, 60, .inl (fun j => mI ((ρ 5) j)))), ((ad 23), .inl (cs.1, 60, .inl (fun j => nI ((μ 21) j))))]) S hK hP hD hS hA (c_L_start l D cs (ad 1) (ad 7) (ad 8) (ad 9) (μ 3 0) (ρ 0) (μ 4) (ρ 1) (μ 1 0) (by first | assumption | omega) s.heap.size) k_L_start [1, 7, 8, 9] [0, 2, 3, 4, 5, 6, 10, 11, 12, 13, 14, 15, 16, 17, 18, 19, 20, 21, 22, 23] rfl (by decide) rfl (by decide) (by decide) rfl rfl rfl q_462 ⟨Nat.le_of_ble_eq_true rfl, Nat.le_of_ble_eq_true rfl⟩ ⟨Nat.le_of_ble_eq_true rfl, Nat.le_of_ble_eq_true rfl⟩ hl (Nat.le_of_ble_eq_true rfl) rfl d_V_putOn_28 (fun r9 u_1 H locs hr9 hP hD hS => ?_)
    have hP : va_P D classes [((ad 0), .inr (5, [.ref (ad 1), .ref (ad 2), .ref (ad 3), .ref (ad 4), .ref (ad 5), .ref (ad 6), .int (nI (μ 0 0)), .int (nI (μ 1 0)), .int (nI (μ 2 0))])), ((ad 1), .inr (1, [.ref (ad 7), .ref (ad 8), .ref (ad 9), .int (nI ((μ 3 0) + 1))])), ((ad 2), .inr (4, [.ref (ad 10), .ref (ad 11), .ref (ad 12), .ref (ad 13)])), ((ad 3), .inr (2, [.ref (ad 14), .ref (ad 15)])), ((ad 4), .inr (0, [.ref (ad 16), .ref (ad 17)])), ((ad 5), .inr (3, [.ref (ad 18), .ref (ad 19), .ref (ad 20), .ref (ad 21), .ref (ad 22), .ref (ad 23), .int (nI (μ 15 0))])), ((ad 6), .inl (cs.1, 1001, .inl (fun j => nI ((μ 14) j)))), ((ad 7), .inl (cs.1, 16, .inl (fun j => nI ((va_up (ρ 0) (μ 3 0) 0) j)))), ((ad 8), .inl (cs.1, 16, .inl (fun j => nI ((va_up (μ 4) (μ 3 0) (μ 1 0)) j)))), ((ad 9), .inl (cs.2.1, 16, .inl (fun j => nI ((va_up (ρ 1) (μ 3 0) 1) j)))), ((ad 10), .inl (cs.1, 7, .inl (fun j => nI ((μ 6) j)))), ((ad 11), .inl (cs.1, 7, .inl (fun j => nI ((μ 7) j)))), ((ad 12), .inl (cs.1, 7, .inl (fun j => nI ((μ 8) j)))), ((ad 13), .inl (cs.2.1, 7, .inl (fun j => nI ((μ 9) j)))), ((ad 14), .inl (cs.1, 49, .inl (fun j => nI ((ρ 2) j)))), ((ad 15), .inl (cs.1, 49, .inl (fun j => nI ((ρ 3) j)))), ((ad 16), .inl (cs.1, 7, .inl (fun j => mI ((ρ 4) j)))), ((ad 17), .inl (cs.1, 7, .inl (fun j => zI ((μ 12) j)))), ((ad 18), .inl (cs.1, 60, .inl (fun j => nI ((μ 16) j)))), ((ad 19), .inl (cs.1, 60, .inl (fun j => nI ((μ 17) j)))), ((ad 20), .inl (cs.1, 60, .inl (fun j => nI ((μ 18) j)))), ((ad 21), .inl (cs.1, 60, .inl (fun j => nI ((μ 19) j)))), ((ad 22), .inl (cs.1, 60, .inl (fun j => mI ((ρ 5) j)))), ((ad 23), .inl (cs.1, 60, .inl (fun j => nI ((μ 21) j))))] H := hP.sub [0, 20, 1, 2, 3, 4, 5, 21, 22, 23, 6, 7, 8, 9, 10, 11, 12, 13, 14, 15, 16, 17, 18, 19] rfl
    have hD : va_D A [((ad 0), .inr (5, [.ref (ad 1), .ref (ad 2), .ref (ad 3), .ref (ad 4), .ref (ad 5), .ref (ad 6), .int (nI (μ 0 0)), .int (nI (μ 1 0)), .int (nI (μ 2 0))])), ((ad 1), .inr (1, [.ref (ad 7), .ref (ad 8), .ref (ad 9), .int (nI ((μ 3 0) + 1))])), ((ad 2), .inr (4, [.ref (ad 10), .ref (ad 11), .ref (ad 12), .ref (ad 13)])), ((ad 3), .inr (2, [.ref (ad 14), .ref (ad 15)])), ((ad 4), .inr (0, [.ref (ad 16), .ref (ad 17)])), ((ad 5), .inr (3, [.ref (ad 18), .ref (ad 19), .ref (ad 20), .ref (ad 21), .ref (ad 22), .ref (ad 23), .int (nI (μ 15 0))])), ((ad 6), .inl (cs.1, 1001, .inl (fun j => nI ((μ 14) j)))), ((ad 7), .inl (cs.1, 16, .inl (fun j => nI ((va_up (ρ 0) (μ 3 0) 0) j)))), ((ad 8), .inl (cs.1, 16, .inl (fun j => nI ((va_up (μ 4) (μ 3 0) (μ 1 0)) j)))), ((ad 9), .inl (cs.2.1, 16, .inl (fun j => nI ((va_up (ρ 1) (μ 3 0) 1) j)))), ((ad 10), .inl (cs.1, 7, .inl (fun j => nI ((μ 6) j)))), ((ad 11), .inl (cs.1, 7, .inl (fun j => nI ((μ 7) j)))), ((ad 12), .inl (cs.1, 7, .inl (fun j => nI ((μ 8) j)))), ((ad 13), .inl (cs.2.1, 7, .inl (fun j => nI ((μ 9) j)))), ((ad 14), .inl (cs.1, 49, .inl (fun j => nI ((ρ 2) j)))), ((ad 15), .inl (cs.1, 49, .inl (fun j => nI ((ρ 3) j)))), ((ad 16), .inl (cs.1, 7, .inl (fun j => mI ((ρ 4) j)))), ((ad 17), .inl (cs.1, 7, .inl (fun j => zI ((μ 12) j)))), ((ad 18), .inl (cs.1, 60, .inl (fun j => nI ((μ 16) j)))), ((ad 19), .inl (cs.1, 60, .inl (fun j => nI ((μ 17) j)))), ((ad 20), .inl (cs.1, 60, .inl (fun j => nI ((μ 18) j)))), ((ad 21), .inl (cs.1, 60, .inl (fun j => nI ((μ 19) j)))), ((ad 22), .inl (cs.1, 60, .inl (fun j => mI ((ρ 5) j)))), ((ad 23), .inl (cs.1, 60, .inl (fun j => nI ((μ 21) j))))] := hD.sub [0, 20, 1, 2, 3, 4, 5, 21, 22, 23, 6, 7, 8, 9, 10, 11, 12, 13, 14, 15, 16, 17, 18, 19] (by decide) rfl
    subst hr9
    exact rr_xret () hx hb hr hlk hP hD hS ⟨rfl, (by unfold thPut; rw [← hnr]; repeat (first | omega | split))⟩ d_V_putOn_31
  · exact rr_throw (cls := eS) (text := "no car is left, or the gap is too small") (ik := 63) (is := 65) (ic := 67) (by decide +kernel) rr_atS q_298 q_13 (List.mem_of_getElem? (i := 0) rfl) S hfl hlk hta hY hZ hP hD hS hl d_V_putOn_10 d_V_putOn_13 d_V_putOn_14 d_V_putOn_16 d_V_putOn_19 (Nat.le_of_ble_eq_true rfl) (Nat.le_of_ble_eq_true rfl) (Nat.le_of_ble_eq_true rfl) (Nat.le_of_ble_eq_true rfl) ⟨rfl, (by unfold thPut; rw [← hnr]; repeat (first | omega | split))⟩
theorem k_V_takeOff : rr_CK y_V_takeOff b_V_takeOff 2 (some .int) 1 := ⟨q_471, q_472, q_1, q_473, by decide, by decide, by decide +kernel⟩
set_option maxHeartbeats 4000000 in
set_option maxRecDepth 100000 in
/-- RopeVotes.takeOff -/
theorem c_V_takeOff (l : Launch) (D : va_G) (cs : rr_C3) (ad : Nat → Nat) (μ : NS) (ρ : NS) (x : Int32) (hM : IM μ) (hC : IC μ ρ) (hfl : l.stackTraces = false) (sz : Nat) : MX l y_V_takeOff b_V_takeOff 2 (some .int) 6 82 D cs [((ad 0), .inr (5, [.ref (ad 1), .ref (ad 2), .ref (ad 3), .ref (ad 4), .ref (ad 5), .ref (ad 6), .int (nI (μ 0 0)), .int (nI (μ 1 0)), .int (nI (μ 2 0))])), ((ad 1), .inr (1, [.ref (ad 7), .ref (ad 8), .ref (ad 9), .int (nI (μ 3 0))])), ((ad 2), .inr (4, [.ref (ad 10), .ref (ad 11), .ref (ad 12), .ref (ad 13)])), ((ad 3), .inr (2, [.ref (ad 14), .ref (ad 15)])), ((ad 4), .inr (0, [.ref (ad 16), .ref (ad 17)])), ((ad 5), .inr (3, [.ref (ad 18), .ref (ad 19), .ref (ad 20), .ref (ad 21), .ref (ad 22), .ref (ad 23), .int (nI (μ 15 0))])), ((ad 6), .inl (cs.1, 1001, .inl (fun j => nI ((μ 14) j)))), ((ad 7), .inl (cs.1, 16, .inl (fun j => nI ((ρ 0) j)))), ((ad 8), .inl (cs.1, 16, .inl (fun j => nI ((μ 4) j)))), ((ad 9), .inl (cs.2.1, 16, .inl (fun j => nI ((ρ 1) j)))), ((ad 10), .inl (cs.1, 7, .inl (fun j => nI ((μ 6) j)))), ((ad 11), .inl (cs.1, 7, .inl (fun j => nI ((μ 7) j)))), ((ad 12), .inl (cs.1, 7, .inl (fun j => nI ((μ 8) j)))), ((ad 13), .inl (cs.2.1, 7, .inl (fun j => nI ((μ 9) j)))), ((ad 14), .inl (cs.1, 49, .inl (fun j => nI ((ρ 2) j)))), ((ad 15), .inl (cs.1, 49, .inl (fun j => nI ((ρ 3) j)))), ((ad 16), .inl (cs.1, 7, .inl (fun j => mI ((ρ 4) j)))), ((ad 17), .inl (cs.1, 7, .inl (fun j => zI ((μ 12) j)))), ((ad 18), .inl (cs.1, 60, .inl (fun j => nI ((μ 16) j)))), ((ad 19), .inl (cs.1, 60, .inl (fun j => nI ((μ 17) j)))), ((ad 20), .inl (cs.1, 60, .inl (fun j => nI ((μ 18) j)))), ((ad 21), .inl (cs.1, 60, .inl (fun j => nI ((μ 19) j)))), ((ad 22), .inl (cs.1, 60, .inl (fun j => mI ((ρ 5) j)))), ((ad 23), .inl (cs.1, 60, .inl (fun j => nI ((μ 21) j))))] sz [.ref (ad 0), .int x] (fun (r : Int32) (_ : Unit) => r = nI (μ 1 0 - μ 4 (ix 16 x)) ∧ thOff μ x = 0) (fun _ : Unit => [((ad 0), .inr (5, [.ref (ad 1), .ref (ad 2), .ref (ad 3), .ref (ad 4), .ref (ad 5), .ref (ad 6), .int (nI ((muOff μ (ix 16 x)) 0 0)), .int (nI ((muOff μ (ix 16 x)) 1 0)), .int (nI ((muOff μ (ix 16 x)) 2 0))])), ((ad 1), .inr (1, [.ref (ad 7), .ref (ad 8), .ref (ad 9), .int (nI ((muOff μ (ix 16 x)) 3 0))])), ((ad 2), .inr (4, [.ref (ad 10), .ref (ad 11), .ref (ad 12), .ref (ad 13)])), ((ad 3), .inr (2, [.ref (ad 14), .ref (ad 15)])), ((ad 4), .inr (0, [.ref (ad 16), .ref (ad 17)])), ((ad 5), .inr (3, [.ref (ad 18), .ref (ad 19), .ref (ad 20), .ref (ad 21), .ref (ad 22), .ref (ad 23), .int (nI ((muOff μ (ix 16 x)) 15 0))])), ((ad 6), .inl (cs.1, 1001, .inl (fun j => nI (((muOff μ (ix 16 x)) 14) j)))), ((ad 7), .inl (cs.1, 16, .inl (fun j => nI (((roOff ρ (ix 16 x)) 0) j)))), ((ad 8), .inl (cs.1, 16, .inl (fun j => nI (((muOff μ (ix 16 x)) 4) j)))), ((ad 9), .inl (cs.2.1, 16, .inl (fun j => nI (((roOff ρ (ix 16 x)) 1) j)))), ((ad 10), .inl (cs.1, 7, .inl (fun j => nI (((muOff μ (ix 16 x)) 6) j)))), ((ad 11), .inl (cs.1, 7, .inl (fun j => nI (((muOff μ (ix 16 x)) 7) j)))), ((ad 12), .inl (cs.1, 7, .inl (fun j => nI (((muOff μ (ix 16 x)) 8) j)))), ((ad 13), .inl (cs.2.1, 7, .inl (fun j => nI (((muOff μ (ix 16 x)) 9) j)))), ((ad 14), .inl (cs.1, 49, .inl (fun j => nI (((roOff ρ (ix 16 x)) 2) j)))), ((ad 15), .inl (cs.1, 49, .inl (fun j => nI (((roOff ρ (ix 16 x)) 3) j)))), ((ad 16), .inl (cs.1, 7, .inl (fun j => mI (((roOff ρ (ix 16 x)) 4) j)))), ((ad 17), .inl (cs.1, 7, .inl (fun j => zI (((muOff μ (ix 16 x)) 12) j)))), ((ad 18), .inl (cs.1, 60, .inl (fun j => nI (((muOff μ (ix 16 x)) 16) j)))), ((ad 19), .inl (cs.1, 60, .inl (fun j => nI (((muOff μ (ix 16 x)) 17) j)))), ((ad 20), .inl (cs.1, 60, .inl (fun j => nI (((muOff μ (ix 16 x)) 18) j)))), ((ad 21), .inl (cs.1, 60, .inl (fun j => nI (((muOff μ (ix 16 x)) 19) j)))), ((ad 22), .inl (cs.1, 60, .inl (fun j => mI (((roOff ρ (ix 16 x)) 5) j)))), ((ad 23), .inl (cs.1, 60, .inl (fun j => nI (((muOff μ (ix 16 x)) 21) j))))]) (fun E => (E = eI ∧ thOff μ x = 1) ∨ (E = eS ∧ thOff μ x = 2)) := by
  refine MX.of (by decide) (Nat.le_of_ble_eq_true rfl) ?_
  intro p e s m args below meth c A S hr hlk hta hK hY hZ hP hD hA hS ls hl
  obtain ⟨hx, hb, hml, hown, ht⟩ := id S
  have hl : lv_has ls 2 [(0, .ref (ad 0)), (1, .int x)] := hl
  have hS : va_S A s.heap s.heap [] := hS
  obtain ⟨hT, hU, hhd, hcar, hbase, hoff, hoff2, hwb, hcut, hb8, hr8, hvt, hvv, hrec, hN, htk, hth, hta0⟩ := id hM
  have hon := hC.on
  have hpl := hC.pl
  have hcb := hC.cb hM
  have htA := hC.tA hM
  refine lv_aload_n hx hb d_V_takeOff_0 rfl (lv_at hl 0 rfl) ?_
  refine va_get (D := D) (ci := 5) (v := .ref (ad 1)) (C := R_V) (T := F_V) (N := 9) hx hb ht j_V hown hK.1 hP 0 rfl rfl 0 (by decide) (ht _ q_128) (fun _ h9 => h9) rfl d_V_takeOff_1 ?_
  refine lv_iload_n hx hb d_V_takeOff_4 rfl (lv_at hl 1 rfl) ?_
  refine rr_rV (As := [.int x]) (rest := []) (idx := 74) (q0 := 1) (ci := 1) S hK hP (c_L_has l D cs (ad 1) (ad 9) (.ref (ad 7)) (.ref (ad 8)) (.int (nI (μ 3 0))) (ρ 1) x (by first | assumption | omega)) k_L_has [1, 9] rfl rfl rfl rfl q_160 ⟨Nat.le_of_ble_eq_true rfl, Nat.le_of_ble_eq_true rfl⟩ ⟨Nat.le_of_ble_eq_true rfl, Nat.le_of_ble_eq_true rfl⟩ hl (Nat.le_of_ble_eq_true rfl) rfl d_V_takeOff_5 (fun r9 hr9 => ?_)
  subst hr9
  refine rr_bq_ne (tgt := 21) hx hb d_V_takeOff_8 (by decide) (fun c8 => ?_) (fun c8 => ?_)
  · have hq := (ca_on hM hC).mp c8
    have hv_x : x = nI (ix 16 x) := ix_lt (by decide) c8.1
    rw [hv_x] at hl
    have hpq := hC.2.1 _ c8.1 c8.2
    have hpl9 := hpl _ c8.1 c8.2
    have hb9 := hbase _ c8.1
    refine lv_aload_n hx hb d_V_takeOff_21 rfl (lv_at hl 0 rfl) ?_
    refine va_get (D := D) (ci := 5) (v := .ref (ad 1)) (C := R_V) (T := F_V) (N := 9) hx hb ht j_V hown hK.1 hP 0 rfl rfl 0 (by decide) (ht _ q_128) (fun _ h9 => h9) rfl d_V_takeOff_22 ?_
    refine va_get (D := D) (ci := 1) (v := .ref (ad 7)) (C := R_L) (T := F_L) (N := 4) hx hb ht j_L hown hK.1 hP 1 rfl rfl 0 (by decide) (ht _ q_30) (fun _ h9 => h9) rfl d_V_takeOff_25 ?_
    refine lv_iload_n hx hb d_V_takeOff_28 rfl (lv_at hl 1 rfl) ?_
    refine rr_iald (q0 := 7) (n := 16) (f := (fun j => nI ((ρ 0) j))) (k := (ix 16 x)) hx hb hK hP rfl (by omega) (by omega) d_V_takeOff_29 ?_
    refine rr_top (show (nI ((ρ 0) (ix 16 x)) : Int32) = nI (pN μ (ix 16 x)) from congrArg nI hpq) ?_
    have hpn : pN μ (ix 16 x) < 1200 := Nat.mod_lt _ (by decide)
    have hple : ppl μ (ix 16 x) ≤ 60 * 8 := Nat.le_trans (ct_le (c := 8) (fun j hj => by split; exact (htk j hj).2.2.1; omega)) (Nat.mul_le_mul_right 8 hN)
    refine rr_rS (As := [.int (nI (pN μ (ix 16 x)))]) (rest := []) (idx := 86) S hK (c_V_isInBottom l D cs (pN μ (ix 16 x)) (by first | assumption | omega)) k_V_isInBottom q_383 ⟨Nat.le_of_ble_eq_true rfl, Nat.le_of_ble_eq_true rfl⟩ ⟨Nat.le_of_ble_eq_true rfl, Nat.le_of_ble_eq_true rfl⟩ hl (Nat.le_of_ble_eq_true rfl) rfl d_V_takeOff_30 (fun r9 hr9 => ?_)
    subst hr9
    refine rr_bq_eq (tgt := 47) hx hb d_V_takeOff_33 (by decide) (fun c33 => ?_) (fun c33 => ?_)
    · exact rr_throw (cls := eS) (text := "not in the bottom station, or not empty") (ik := 63) (is := 92) (ic := 67) (by decide +kernel) rr_atS q_298 q_13 (List.mem_of_getElem? (i := 2) rfl) S hfl hlk hta hY hZ hP hD hS hl d_V_takeOff_47 d_V_takeOff_50 d_V_takeOff_51 d_V_takeOff_53 d_V_takeOff_56 (Nat.le_of_ble_eq_true rfl) (Nat.le_of_ble_eq_true rfl) (Nat.le_of_ble_eq_true rfl) (Nat.le_of_ble_eq_true rfl) (Or.inr ⟨rfl, (by unfold thOff; rw [if_pos hq, if_neg (by omega)])⟩)
    · refine lv_aload_n hx hb d_V_takeOff_36 rfl (lv_at hl 0 rfl) ?_
      refine va_get (D := D) (ci := 5) (v := .ref (ad 5)) (C := R_V) (T := F_V) (N := 9) hx hb ht j_V hown hK.1 hP 0 rfl rfl 4 (by decide) (ht _ q_132) (fun _ h9 => h9) rfl d_V_takeOff_37 ?_
      refine lv_iload_n hx hb d_V_takeOff_40 rfl (lv_at hl 1 rfl) ?_
      refine rr_rV (As := [.int (nI (ix 16 x))]) (rest := []) (idx := 89) (q0 := 5) (ci := 3) S hK hP (c_K_peopleIn l D cs (ad 5) (ad 18) (ad 19) (ad 22) (.ref (ad 20)) (.ref (ad 21)) (.ref (ad 23)) (μ 15 0) (μ 16) (μ 17) (ρ 5) (ix 16 x) (by first | assumption | omega) (by first | assumption | omega) (fun j hj => by have := (htk j hj).1; omega) (by first | assumption | omega)) k_K_peopleIn [5, 18, 19, 22] rfl rfl rfl rfl q_474 ⟨Nat.le_of_ble_eq_true rfl, Nat.le_of_ble_eq_true rfl⟩ ⟨Nat.le_of_ble_eq_true rfl, Nat.le_of_ble_eq_true rfl⟩ hl (Nat.le_of_ble_eq_true rfl) rfl d_V_takeOff_41 (fun r9 hr9 => ?_)
      subst hr9
      refine rr_top (show (nI (ppN (μ 16) (μ 17) (ρ 5) (ix 16 x) (μ 15 0)) : Int32) = nI (ppl μ (ix 16 x)) from congrArg nI (pp_same hC _)) ?_
      refine rr_if_le (a := (ppl μ (ix 16 x))) (tgt := 57) (by omega) hx hb d_V_takeOff_44 (by decide) (fun c44 => ?_) (fun c44 => ?_)
      · refine lv_aload_n hx hb d_V_takeOff_57 rfl (lv_at hl 0 rfl) ?_
        refine va_get (D := D) (ci := 5) (v := .ref (ad 1)) (C := R_V) (T := F_V) (N := 9) hx hb ht j_V hown hK.1 hP 0 rfl rfl 0 (by decide) (ht _ q_128) (fun _ h9 => h9) rfl d_V_takeOff_58 ?_
        refine va_get (D := D) (ci := 1) (v := .ref (ad 9)) (C := R_L) (T := F_L) (N := 4) hx hb ht j_L hown hK.1 hP 1 rfl rfl 2 (by decide) (ht _ q_34) (fun _ h9 => h9) rfl d_V_takeOff_61 ?_
        refine lv_iload_n hx hb d_V_takeOff_64 rfl (lv_at hl 1 rfl) ?_
        refine lv_iconst (v := nI 0) hx hb d_V_takeOff_65 (by decide) ?_
        refine rr_zast (q0 := 9) (n := 16) (ρ 1) (k := (ix 16 x)) (v := 0) (by omega) hx hb hK hP hD hS rfl (by omega) (by omega) d_V_takeOff_66 (fun H locs hP hD hS => ?_)
        have hP : va_P D classes [((ad 0), .inr (5, [.ref (ad 1), .ref (ad 2), .ref (ad 3), .ref (ad 4), .ref (ad 5), .ref (ad 6), .int (nI (μ 0 0)), .int (nI (μ 1 0)), .int (nI (μ 2 0))])), ((ad 1), .inr (1, [.ref (ad 7), .ref (ad 8), .ref (ad 9), .int (nI (μ 3 0))])), ((ad 2), .inr (4, [.ref (ad 10), .ref (ad 11), .ref (ad 12), .ref (ad 13)])), ((ad 3), .inr (2, [.ref (ad 14), .ref (ad 15)])), ((ad 4), .inr (0, [.ref (ad 16), .ref (ad 17)])), ((ad 5), .inr (3, [.ref (ad 18), .ref (ad 19), .ref (ad 20), .ref (ad 21), .ref (ad 22), .ref (ad 23), .int (nI (μ 15 0))])), ((ad 6), .inl (cs.1, 1001, .inl (fun j => nI ((μ 14) j)))), ((ad 7), .inl (cs.1, 16, .inl (fun j => nI ((ρ 0) j)))), ((ad 8), .inl (cs.1, 16, .inl (fun j => nI ((μ 4) j)))), ((ad 9), .inl (cs.2.1, 16, .inl (fun j => nI ((va_up (ρ 1) (ix 16 x) 0) j)))), ((ad 10), .inl (cs.1, 7, .inl (fun j => nI ((μ 6) j)))), ((ad 11), .inl (cs.1, 7, .inl (fun j => nI ((μ 7) j)))), ((ad 12), .inl (cs.1, 7, .inl (fun j => nI ((μ 8) j)))), ((ad 13), .inl (cs.2.1, 7, .inl (fun j => nI ((μ 9) j)))), ((ad 14), .inl (cs.1, 49, .inl (fun j => nI ((ρ 2) j)))), ((ad 15), .inl (cs.1, 49, .inl (fun j => nI ((ρ 3) j)))), ((ad 16), .inl (cs.1, 7, .inl (fun j => mI ((ρ 4) j)))), ((ad 17), .inl (cs.1, 7, .inl (fun j => zI ((μ 12) j)))), ((ad 18), .inl (cs.1, 60, .inl (fun j => nI ((μ 16) j)))), ((ad 19), .inl (cs.1, 60, .inl (fun j => nI ((μ 17) j)))), ((ad 20), .inl (cs.1, 60, .inl (fun j => nI ((μ 18) j)))), ((ad 21), .inl (cs.1, 60, .inl (fun j => nI ((μ 19) j)))), ((ad 22), .inl (cs.1, 60, .inl (fun j => mI ((ρ 5) j)))), ((ad 23), .inl (cs.1, 60, .inl (fun j => nI ((μ 21) j))))] H := hP
        have hD : va_D A [((ad 0), .inr (5, [.ref (ad 1), .ref (ad 2), .ref (ad 3), .ref (ad 4), .ref (ad 5), .ref (ad 6), .int (nI (μ 0 0)), .int (nI (μ 1 0)), .int (nI (μ 2 0))])), ((ad 1), .inr (1, [.ref (ad 7), .ref (ad 8), .ref (ad 9), .int (nI (μ 3 0))])), ((ad 2), .inr (4, [.ref (ad 10), .ref (ad 11), .ref (ad 12), .ref (ad 13)])), ((ad 3), .inr (2, [.ref (ad 14), .ref (ad 15)])), ((ad 4), .inr (0, [.ref (ad 16), .ref (ad 17)])), ((ad 5), .inr (3, [.ref (ad 18), .ref (ad 19), .ref (ad 20), .ref (ad 21), .ref (ad 22), .ref (ad 23), .int (nI (μ 15 0))])), ((ad 6), .inl (cs.1, 1001, .inl (fun j => nI ((μ 14) j)))), ((ad 7), .inl (cs.1, 16, .inl (fun j => nI ((ρ 0) j)))), ((ad 8), .inl (cs.1, 16, .inl (fun j => nI ((μ 4) j)))), ((ad 9), .inl (cs.2.1, 16, .inl (fun j => nI ((va_up (ρ 1) (ix 16 x) 0) j)))), ((ad 10), .inl (cs.1, 7, .inl (fun j => nI ((μ 6) j)))), ((ad 11), .inl (cs.1, 7, .inl (fun j => nI ((μ 7) j)))), ((ad 12), .inl (cs.1, 7, .inl (fun j => nI ((μ 8) j)))), ((ad 13), .inl (cs.2.1, 7, .inl (fun j => nI ((μ 9) j)))), ((ad 14), .inl (cs.1, 49, .inl (fun j => nI ((ρ 2) j)))), ((ad 15), .inl (cs.1, 49, .inl (fun j => nI ((ρ 3) j)))), ((ad 16), .inl (cs.1, 7, .inl (fun j => mI ((ρ 4) j)))), ((ad 17), .inl (cs.1, 7, .inl (fun j => zI ((μ 12) j)))), ((ad 18), .inl (cs.1, 60, .inl (fun j => nI ((μ 16) j)))), ((ad 19), .inl (cs.1, 60, .inl (fun j => nI ((μ 17) j)))), ((ad 20), .inl (cs.1, 60, .inl (fun j => nI ((μ 18) j)))), ((ad 21), .inl (cs.1, 60, .inl (fun j => nI ((μ 19) j)))), ((ad 22), .inl (cs.1, 60, .inl (fun j => mI ((ρ 5) j)))), ((ad 23), .inl (cs.1, 60, .inl (fun j => nI ((μ 21) j))))] := hD
        refine lv_aload_n hx hb d_V_takeOff_67 rfl (lv_at hl 0 rfl) ?_
        refine va_get (D := D) (ci := 5) (v := .int (nI (μ 1 0))) (C := R_V) (T := F_V) (N := 9) hx hb ht j_V hown hK.1 hP 0 rfl rfl 7 (by decide) (ht _ q_135) (fun _ h9 => h9) rfl d_V_takeOff_68 ?_
        refine lv_aload_n hx hb d_V_takeOff_71 rfl (lv_at hl 0 rfl) ?_
        refine va_get (D := D) (ci := 5) (v := .ref (ad 1)) (C := R_V) (T := F_V) (N := 9) hx hb ht j_V hown hK.1 hP 0 rfl rfl 0 (by decide) (ht _ q_128) (fun _ h9 => h9) rfl d_V_takeOff_72 ?_
        refine va_get (D := D) (ci := 1) (v := .ref (ad 8)) (C := R_L) (T := F_L) (N := 4) hx hb ht j_L hown hK.1 hP 1 rfl rfl 1 (by decide) (ht _ q_32) (fun _ h9 => h9) rfl d_V_takeOff_75 ?_
        refine lv_iload_n hx hb d_V_takeOff_78 rfl (lv_at hl 1 rfl) ?_
        refine rr_iald (q0 := 8) (n := 16) (f := (fun j => nI ((μ 4) j))) (k := (ix 16 x)) hx hb hK hP rfl (by omega) (by omega) d_V_takeOff_79 ?_
        refine rr_isub (a := (μ 1 0)) (b := ((μ 4) (ix 16 x))) (by omega) hx hb d_V_takeOff_80 ?_
        exact rr_xret () hx hb hr hlk hP hD hS ⟨rfl, (by unfold thOff; rw [if_pos hq, if_pos (by omega)])⟩ d_V_takeOff_81
      · exact rr_throw (cls := eS) (text := "not in the bottom station, or not empty") (ik := 63) (is := 92) (ic := 67) (by decide +kernel) rr_atS q_298 q_13 (List.mem_of_getElem? (i := 2) rfl) S hfl hlk hta hY hZ hP hD hS hl d_V_takeOff_47 d_V_takeOff_50 d_V_takeOff_51 d_V_takeOff_53 d_V_takeOff_56 (Nat.le_of_ble_eq_true rfl) (Nat.le_of_ble_eq_true rfl) (Nat.le_of_ble_eq_true rfl) (Nat.le_of_ble_eq_true rfl) (Or.inr ⟨rfl, (by unfold thOff; rw [if_pos hq, if_neg (by omega)])⟩)
  · have hq := fun z => c8 ((ca_on hM hC).mpr z)
    exact rr_throw (cls := eI) (text := "no such car") (ik := 78) (is := 80) (ic := 82) (by decide +kernel) rr_atI q_164 q_10 (List.mem_of_getElem? (i := 1) rfl) S hfl hlk hta hY hZ hP hD hS hl d_V_takeOff_11 d_V_takeOff_14 d_V_takeOff_15 d_V_takeOff_17 d_V_takeOff_20 (Nat.le_of_ble_eq_true rfl) (Nat.le_of_ble_eq_true rfl) (Nat.le_of_ble_eq_true rfl) (Nat.le_of_ble_eq_true rfl) (Or.inl ⟨rfl, (by unfold thOff; rw [if_neg hq])⟩)
theorem k_V_place : rr_CK y_V_place b_V_place 2 (some .int) 1 := ⟨q_157, q_158, q_1, q_159, by decide, by decide, by decide +kernel⟩
set_option maxHeartbeats 4000000 in
set_option maxRecDepth 100000 in
/-- RopeVotes.place -/
theorem c_V_place (l : Launch) (D : va_G) (cs : rr_C3) (ad : Nat → Nat) (μ : NS) (ρ : NS) (x : Int32) (hM : IM μ) (hC : IC μ ρ) (hfl : l.stackTraces = false) (sz : Nat) : MX l y_V_place b_V_place 2 (some .int) 6 82 D cs [((ad 0), .inr (5, [.ref (ad 1), .ref (ad 2), .ref (ad 3), .ref (ad 4), .ref (ad 5), .ref (ad 6), .int (nI (μ 0 0)), .int (nI (μ 1 0)), .int (nI (μ 2 0))])), ((ad 1), .inr (1, [.ref (ad 7), .ref (ad 8), .ref (ad 9), .int (nI (μ 3 0))])), ((ad 2), .inr (4, [.ref (ad 10), .ref (ad 11), .ref (ad 12), .ref (ad 13)])), ((ad 3), .inr (2, [.ref (ad 14), .ref (ad 15)])), ((ad 4), .inr (0, [.ref (ad 16), .ref (ad 17)])), ((ad 5), .inr (3, [.ref (ad 18), .ref (ad 19), .ref (ad 20), .ref (ad 21), .ref (ad 22), .ref (ad 23), .int (nI (μ 15 0))])), ((ad 6), .inl (cs.1, 1001, .inl (fun j => nI ((μ 14) j)))), ((ad 7), .inl (cs.1, 16, .inl (fun j => nI ((ρ 0) j)))), ((ad 8), .inl (cs.1, 16, .inl (fun j => nI ((μ 4) j)))), ((ad 9), .inl (cs.2.1, 16, .inl (fun j => nI ((ρ 1) j)))), ((ad 10), .inl (cs.1, 7, .inl (fun j => nI ((μ 6) j)))), ((ad 11), .inl (cs.1, 7, .inl (fun j => nI ((μ 7) j)))), ((ad 12), .inl (cs.1, 7, .inl (fun j => nI ((μ 8) j)))), ((ad 13), .inl (cs.2.1, 7, .inl (fun j => nI ((μ 9) j)))), ((ad 14), .inl (cs.1, 49, .inl (fun j => nI ((ρ 2) j)))), ((ad 15), .inl (cs.1, 49, .inl (fun j => nI ((ρ 3) j)))), ((ad 16), .inl (cs.1, 7, .inl (fun j => mI ((ρ 4) j)))), ((ad 17), .inl (cs.1, 7, .inl (fun j => zI ((μ 12) j)))), ((ad 18), .inl (cs.1, 60, .inl (fun j => nI ((μ 16) j)))), ((ad 19), .inl (cs.1, 60, .inl (fun j => nI ((μ 17) j)))), ((ad 20), .inl (cs.1, 60, .inl (fun j => nI ((μ 18) j)))), ((ad 21), .inl (cs.1, 60, .inl (fun j => nI ((μ 19) j)))), ((ad 22), .inl (cs.1, 60, .inl (fun j => mI ((ρ 5) j)))), ((ad 23), .inl (cs.1, 60, .inl (fun j => nI ((μ 21) j))))] sz [.ref (ad 0), .int x] (fun (r : Int32) (_ : Unit) => r = nI (pN μ (ix 16 x)) ∧ thCar μ x = 0) (fun _ : Unit => [((ad 0), .inr (5, [.ref (ad 1), .ref (ad 2), .ref (ad 3), .ref (ad 4), .ref (ad 5), .ref (ad 6), .int (nI (μ 0 0)), .int (nI (μ 1 0)), .int (nI (μ 2 0))])), ((ad 1), .inr (1, [.ref (ad 7), .ref (ad 8), .ref (ad 9), .int (nI (μ 3 0))])), ((ad 2), .inr (4, [.ref (ad 10), .ref (ad 11), .ref (ad 12), .ref (ad 13)])), ((ad 3), .inr (2, [.ref (ad 14), .ref (ad 15)])), ((ad 4), .inr (0, [.ref (ad 16), .ref (ad 17)])), ((ad 5), .inr (3, [.ref (ad 18), .ref (ad 19), .ref (ad 20), .ref (ad 21), .ref (ad 22), .ref (ad 23), .int (nI (μ 15 0))])), ((ad 6), .inl (cs.1, 1001, .inl (fun j => nI ((μ 14) j)))), ((ad 7), .inl (cs.1, 16, .inl (fun j => nI ((ρ 0) j)))), ((ad 8), .inl (cs.1, 16, .inl (fun j => nI ((μ 4) j)))), ((ad 9), .inl (cs.2.1, 16, .inl (fun j => nI ((ρ 1) j)))), ((ad 10), .inl (cs.1, 7, .inl (fun j => nI ((μ 6) j)))), ((ad 11), .inl (cs.1, 7, .inl (fun j => nI ((μ 7) j)))), ((ad 12), .inl (cs.1, 7, .inl (fun j => nI ((μ 8) j)))), ((ad 13), .inl (cs.2.1, 7, .inl (fun j => nI ((μ 9) j)))), ((ad 14), .inl (cs.1, 49, .inl (fun j => nI ((ρ 2) j)))), ((ad 15), .inl (cs.1, 49, .inl (fun j => nI ((ρ 3) j)))), ((ad 16), .inl (cs.1, 7, .inl (fun j => mI ((ρ 4) j)))), ((ad 17), .inl (cs.1, 7, .inl (fun j => zI ((μ 12) j)))), ((ad 18), .inl (cs.1, 60, .inl (fun j => nI ((μ 16) j)))), ((ad 19), .inl (cs.1, 60, .inl (fun j => nI ((μ 17) j)))), ((ad 20), .inl (cs.1, 60, .inl (fun j => nI ((μ 18) j)))), ((ad 21), .inl (cs.1, 60, .inl (fun j => nI ((μ 19) j)))), ((ad 22), .inl (cs.1, 60, .inl (fun j => mI ((ρ 5) j)))), ((ad 23), .inl (cs.1, 60, .inl (fun j => nI ((μ 21) j))))]) (fun E => (E = eI ∧ thCar μ x = 1)) := by
  refine MX.of (by decide) (Nat.le_of_ble_eq_true rfl) ?_
  intro p e s m args below meth c A S hr hlk hta hK hY hZ hP hD hA hS ls hl
  obtain ⟨hx, hb, hml, hown, ht⟩ := id S
  have hl : lv_has ls 2 [(0, .ref (ad 0)), (1, .int x)] := hl
  have hS : va_S A s.heap s.heap [] := hS
  obtain ⟨hT, hU, hhd, hcar, hbase, hoff, hoff2, hwb, hcut, hb8, hr8, hvt, hvv, hrec, hN, htk, hth, hta0⟩ := id hM
  have hon := hC.on
  have hpl := hC.pl
  have hcb := hC.cb hM
  have htA := hC.tA hM
  refine lv_aload_n hx hb d_V_place_0 rfl (lv_at hl 0 rfl) ?_
  refine va_get (D := D) (ci := 5) (v := .ref (ad 1)) (C := R_V) (T := F_V) (N := 9) hx hb ht j_V hown hK.1 hP 0 rfl rfl 0 (by decide) (ht _ q_128) (fun _ h9 => h9) rfl d_V_place_1 ?_
  refine lv_iload_n hx hb d_V_place_4 rfl (lv_at hl 1 rfl) ?_
  refine rr_rV (As := [.int x]) (rest := []) (idx := 74) (q0 := 1) (ci := 1) S hK hP (c_L_has l D cs (ad 1) (ad 9) (.ref (ad 7)) (.ref (ad 8)) (.int (nI (μ 3 0))) (ρ 1) x (by first | assumption | omega)) k_L_has [1, 9] rfl rfl rfl rfl q_160 ⟨Nat.le_of_ble_eq_true rfl, Nat.le_of_ble_eq_true rfl⟩ ⟨Nat.le_of_ble_eq_true rfl, Nat.le_of_ble_eq_true rfl⟩ hl (Nat.le_of_ble_eq_true rfl) rfl d_V_place_5 (fun r9 hr9 => ?_)
  subst hr9
  refine rr_bq_ne (tgt := 21) hx hb d_V_place_8 (by decide) (fun c8 => ?_) (fun c8 => ?_)
  · have hq := (ca_on hM hC).mp c8
    have hv_x : x = nI (ix 16 x) := ix_lt (by decide) c8.1
    rw [hv_x] at hl
    have hpq := hC.2.1 _ c8.1 c8.2
    have hpl9 := hpl _ c8.1 c8.2
    have hb9 := hbase _ c8.1
    refine lv_aload_n hx hb d_V_place_21 rfl (lv_at hl 0 rfl) ?_
    refine va_get (D := D) (ci := 5) (v := .ref (ad 1)) (C := R_V) (T := F_V) (N := 9) hx hb ht j_V hown hK.1 hP 0 rfl rfl 0 (by decide) (ht _ q_128) (fun _ h9 => h9) rfl d_V_place_22 ?_
    refine va_get (D := D) (ci := 1) (v := .ref (ad 7)) (C := R_L) (T := F_L) (N := 4) hx hb ht j_L hown hK.1 hP 1 rfl rfl 0 (by decide) (ht _ q_30) (fun _ h9 => h9) rfl d_V_place_25 ?_
    refine lv_iload_n hx hb d_V_place_28 rfl (lv_at hl 1 rfl) ?_
    refine rr_iald (q0 := 7) (n := 16) (f := (fun j => nI ((ρ 0) j))) (k := (ix 16 x)) hx hb hK hP rfl (by omega) (by omega) d_V_place_29 ?_
    exact rr_xret () hx hb hr hlk hP hD hS ⟨congrArg nI hpq, (by unfold thCar; rw [if_pos hq])⟩ d_V_place_30
  · have hq := fun z => c8 ((ca_on hM hC).mpr z)
    exact rr_throw (cls := eI) (text := "no such car") (ik := 78) (is := 80) (ic := 82) (by decide +kernel) rr_atI q_164 q_10 (List.mem_of_getElem? (i := 1) rfl) S hfl hlk hta hY hZ hP hD hS hl d_V_place_11 d_V_place_14 d_V_place_15 d_V_place_17 d_V_place_20 (Nat.le_of_ble_eq_true rfl) (Nat.le_of_ble_eq_true rfl) (Nat.le_of_ble_eq_true rfl) (Nat.le_of_ble_eq_true rfl) ⟨rfl, (by unfold thCar; rw [if_neg hq])⟩
set_option maxHeartbeats 4000000 in
set_option maxRecDepth 100000 in
/-- RopeVotes.place, where it does not throw -/
theorem c_V_place0 (l : Launch) (D : va_G) (cs : rr_C3) (ad : Nat → Nat) (μ : NS) (ρ : NS) (x : Int32) (hM : IM μ) (hC : IC μ ρ) (h0 : thCar μ x = 0) : RO l y_V_place b_V_place 2 (some .int) 1 21 D cs [((ad 0), .inr (5, [.ref (ad 1), .ref (ad 2), .ref (ad 3), .ref (ad 4), .ref (ad 5), .ref (ad 6), .int (nI (μ 0 0)), .int (nI (μ 1 0)), .int (nI (μ 2 0))])), ((ad 1), .inr (1, [.ref (ad 7), .ref (ad 8), .ref (ad 9), .int (nI (μ 3 0))])), ((ad 2), .inr (4, [.ref (ad 10), .ref (ad 11), .ref (ad 12), .ref (ad 13)])), ((ad 3), .inr (2, [.ref (ad 14), .ref (ad 15)])), ((ad 4), .inr (0, [.ref (ad 16), .ref (ad 17)])), ((ad 5), .inr (3, [.ref (ad 18), .ref (ad 19), .ref (ad 20), .ref (ad 21), .ref (ad 22), .ref (ad 23), .int (nI (μ 15 0))])), ((ad 6), .inl (cs.1, 1001, .inl (fun j => nI ((μ 14) j)))), ((ad 7), .inl (cs.1, 16, .inl (fun j => nI ((ρ 0) j)))), ((ad 8), .inl (cs.1, 16, .inl (fun j => nI ((μ 4) j)))), ((ad 9), .inl (cs.2.1, 16, .inl (fun j => nI ((ρ 1) j)))), ((ad 10), .inl (cs.1, 7, .inl (fun j => nI ((μ 6) j)))), ((ad 11), .inl (cs.1, 7, .inl (fun j => nI ((μ 7) j)))), ((ad 12), .inl (cs.1, 7, .inl (fun j => nI ((μ 8) j)))), ((ad 13), .inl (cs.2.1, 7, .inl (fun j => nI ((μ 9) j)))), ((ad 14), .inl (cs.1, 49, .inl (fun j => nI ((ρ 2) j)))), ((ad 15), .inl (cs.1, 49, .inl (fun j => nI ((ρ 3) j)))), ((ad 16), .inl (cs.1, 7, .inl (fun j => mI ((ρ 4) j)))), ((ad 17), .inl (cs.1, 7, .inl (fun j => zI ((μ 12) j)))), ((ad 18), .inl (cs.1, 60, .inl (fun j => nI ((μ 16) j)))), ((ad 19), .inl (cs.1, 60, .inl (fun j => nI ((μ 17) j)))), ((ad 20), .inl (cs.1, 60, .inl (fun j => nI ((μ 18) j)))), ((ad 21), .inl (cs.1, 60, .inl (fun j => nI ((μ 19) j)))), ((ad 22), .inl (cs.1, 60, .inl (fun j => mI ((ρ 5) j)))), ((ad 23), .inl (cs.1, 60, .inl (fun j => nI ((μ 21) j))))] [.ref (ad 0), .int x] (fun r => r = nI (pN μ (ix 16 x))) := by
  refine RO.of (by decide) (Nat.le_of_ble_eq_true rfl) ?_
  intro p e s m args below meth c S hr hlk hK hP ls hl
  obtain ⟨hx, hb, hml, hown, ht⟩ := id S
  have hl : lv_has ls 2 [(0, .ref (ad 0)), (1, .int x)] := hl
  obtain ⟨hT, hU, hhd, hcar, hbase, hoff, hoff2, hwb, hcut, hb8, hr8, hvt, hvv, hrec, hN, htk, hth, hta0⟩ := id hM
  have hon := hC.on
  have hpl := hC.pl
  have hcb := hC.cb hM
  have htA := hC.tA hM
  refine lv_aload_n hx hb d_V_place_0 rfl (lv_at hl 0 rfl) ?_
  refine va_get (D := D) (ci := 5) (v := .ref (ad 1)) (C := R_V) (T := F_V) (N := 9) hx hb ht j_V hown hK.1 hP 0 rfl rfl 0 (by decide) (ht _ q_128) (fun _ h9 => h9) rfl d_V_place_1 ?_
  refine lv_iload_n hx hb d_V_place_4 rfl (lv_at hl 1 rfl) ?_
  refine rr_rV (As := [.int x]) (rest := []) (idx := 74) (q0 := 1) (ci := 1) S hK hP (c_L_has l D cs (ad 1) (ad 9) (.ref (ad 7)) (.ref (ad 8)) (.int (nI (μ 3 0))) (ρ 1) x (by first | assumption | omega)) k_L_has [1, 9] rfl rfl rfl rfl q_160 ⟨Nat.le_of_ble_eq_true rfl, Nat.le_of_ble_eq_true rfl⟩ ⟨Nat.le_of_ble_eq_true rfl, Nat.le_of_ble_eq_true rfl⟩ hl (Nat.le_of_ble_eq_true rfl) rfl d_V_place_5 (fun r9 hr9 => ?_)
  subst hr9
  refine rr_bq_ne (tgt := 21) hx hb d_V_place_8 (by decide) (fun c8 => ?_) (fun c8 => ?_)
  · have hq := (ca_on hM hC).mp c8
    have hv_x : x = nI (ix 16 x) := ix_lt (by decide) c8.1
    rw [hv_x] at hl
    have hpq := hC.2.1 _ c8.1 c8.2
    have hpl9 := hpl _ c8.1 c8.2
    have hb9 := hbase _ c8.1
    refine lv_aload_n hx hb d_V_place_21 rfl (lv_at hl 0 rfl) ?_
    refine va_get (D := D) (ci := 5) (v := .ref (ad 1)) (C := R_V) (T := F_V) (N := 9) hx hb ht j_V hown hK.1 hP 0 rfl rfl 0 (by decide) (ht _ q_128) (fun _ h9 => h9) rfl d_V_place_22 ?_
    refine va_get (D := D) (ci := 1) (v := .ref (ad 7)) (C := R_L) (T := F_L) (N := 4) hx hb ht j_L hown hK.1 hP 1 rfl rfl 0 (by decide) (ht _ q_30) (fun _ h9 => h9) rfl d_V_place_25 ?_
    refine lv_iload_n hx hb d_V_place_28 rfl (lv_at hl 1 rfl) ?_
    refine rr_iald (q0 := 7) (n := 16) (f := (fun j => nI ((ρ 0) j))) (k := (ix 16 x)) hx hb hK hP rfl (by omega) (by omega) d_V_place_29 ?_
    exact rr_ret hx hb hr hlk (congrArg nI hpq) d_V_place_30
  · have hq := fun z => c8 ((ca_on hM hC).mpr z)
    exact (absurd h0 (by unfold thCar; rw [if_neg hq]; decide))
theorem k_V_placeByTurns : rr_CK y_V_placeByTurns b_V_placeByTurns 2 (some .int) 1 := ⟨q_530, q_531, q_1, q_532, by decide, by decide, by decide +kernel⟩
set_option maxHeartbeats 4000000 in
set_option maxRecDepth 100000 in
/-- RopeVotes.placeByTurns, where it does not throw -/
theorem c_V_placeByTurns0 (l : Launch) (D : va_G) (cs : rr_C3) (ad : Nat → Nat) (μ : NS) (ρ : NS) (x : Int32) (hM : IM μ) (hC : IC μ ρ) (h0 : thCar μ x = 0) : RO l y_V_placeByTurns b_V_placeByTurns 2 (some .int) 1 21 D cs [((ad 0), .inr (5, [.ref (ad 1), .ref (ad 2), .ref (ad 3), .ref (ad 4), .ref (ad 5), .ref (ad 6), .int (nI (μ 0 0)), .int (nI (μ 1 0)), .int (nI (μ 2 0))])), ((ad 1), .inr (1, [.ref (ad 7), .ref (ad 8), .ref (ad 9), .int (nI (μ 3 0))])), ((ad 2), .inr (4, [.ref (ad 10), .ref (ad 11), .ref (ad 12), .ref (ad 13)])), ((ad 3), .inr (2, [.ref (ad 14), .ref (ad 15)])), ((ad 4), .inr (0, [.ref (ad 16), .ref (ad 17)])), ((ad 5), .inr (3, [.ref (ad 18), .ref (ad 19), .ref (ad 20), .ref (ad 21), .ref (ad 22), .ref (ad 23), .int (nI (μ 15 0))])), ((ad 6), .inl (cs.1, 1001, .inl (fun j => nI ((μ 14) j)))), ((ad 7), .inl (cs.1, 16, .inl (fun j => nI ((ρ 0) j)))), ((ad 8), .inl (cs.1, 16, .inl (fun j => nI ((μ 4) j)))), ((ad 9), .inl (cs.2.1, 16, .inl (fun j => nI ((ρ 1) j)))), ((ad 10), .inl (cs.1, 7, .inl (fun j => nI ((μ 6) j)))), ((ad 11), .inl (cs.1, 7, .inl (fun j => nI ((μ 7) j)))), ((ad 12), .inl (cs.1, 7, .inl (fun j => nI ((μ 8) j)))), ((ad 13), .inl (cs.2.1, 7, .inl (fun j => nI ((μ 9) j)))), ((ad 14), .inl (cs.1, 49, .inl (fun j => nI ((ρ 2) j)))), ((ad 15), .inl (cs.1, 49, .inl (fun j => nI ((ρ 3) j)))), ((ad 16), .inl (cs.1, 7, .inl (fun j => mI ((ρ 4) j)))), ((ad 17), .inl (cs.1, 7, .inl (fun j => zI ((μ 12) j)))), ((ad 18), .inl (cs.1, 60, .inl (fun j => nI ((μ 16) j)))), ((ad 19), .inl (cs.1, 60, .inl (fun j => nI ((μ 17) j)))), ((ad 20), .inl (cs.1, 60, .inl (fun j => nI ((μ 18) j)))), ((ad 21), .inl (cs.1, 60, .inl (fun j => nI ((μ 19) j)))), ((ad 22), .inl (cs.1, 60, .inl (fun j => mI ((ρ 5) j)))), ((ad 23), .inl (cs.1, 60, .inl (fun j => nI ((μ 21) j))))] [.ref (ad 0), .int x] (fun r => r = nI (pN μ (ix 16 x))) := by
  refine RO.of (by decide) (Nat.le_of_ble_eq_true rfl) ?_
  intro p e s m args below meth c S hr hlk hK hP ls hl
  obtain ⟨hx, hb, hml, hown, ht⟩ := id S
  have hl : lv_has ls 2 [(0, .ref (ad 0)), (1, .int x)] := hl
  obtain ⟨hT, hU, hhd, hcar, hbase, hoff, hoff2, hwb, hcut, hb8, hr8, hvt, hvv, hrec, hN, htk, hth, hta0⟩ := id hM
  have hon := hC.on
  have hpl := hC.pl
  have hcb := hC.cb hM
  have htA := hC.tA hM
  refine lv_aload_n hx hb d_V_placeByTurns_0 rfl (lv_at hl 0 rfl) ?_
  refine va_get (D := D) (ci := 5) (v := .ref (ad 1)) (C := R_V) (T := F_V) (N := 9) hx hb ht j_V hown hK.1 hP 0 rfl rfl 0 (by decide) (ht _ q_128) (fun _ h9 => h9) rfl d_V_placeByTurns_1 ?_
  refine lv_iload_n hx hb d_V_placeByTurns_4 rfl (lv_at hl 1 rfl) ?_
  refine rr_rV (As := [.int x]) (rest := []) (idx := 74) (q0 := 1) (ci := 1) S hK hP (c_L_has l D cs (ad 1) (ad 9) (.ref (ad 7)) (.ref (ad 8)) (.int (nI (μ 3 0))) (ρ 1) x (by first | assumption | omega)) k_L_has [1, 9] rfl rfl rfl rfl q_160 ⟨Nat.le_of_ble_eq_true rfl, Nat.le_of_ble_eq_true rfl⟩ ⟨Nat.le_of_ble_eq_true rfl, Nat.le_of_ble_eq_true rfl⟩ hl (Nat.le_of_ble_eq_true rfl) rfl d_V_placeByTurns_5 (fun r9 hr9 => ?_)
  subst hr9
  refine rr_bq_ne (tgt := 21) hx hb d_V_placeByTurns_8 (by decide) (fun c8 => ?_) (fun c8 => ?_)
  · have hq := (ca_on hM hC).mp c8
    have hv_x : x = nI (ix 16 x) := ix_lt (by decide) c8.1
    rw [hv_x] at hl
    have hpq := hC.2.1 _ c8.1 c8.2
    have hpl9 := hpl _ c8.1 c8.2
    have hb9 := hbase _ c8.1
    refine lv_aload_n hx hb d_V_placeByTurns_21 rfl (lv_at hl 0 rfl) ?_
    refine va_get (D := D) (ci := 5) (v := .int (nI (μ 1 0))) (C := R_V) (T := F_V) (N := 9) hx hb ht j_V hown hK.1 hP 0 rfl rfl 7 (by decide) (ht _ q_135) (fun _ h9 => h9) rfl d_V_placeByTurns_22 ?_
    refine lv_aload_n hx hb d_V_placeByTurns_25 rfl (lv_at hl 0 rfl) ?_
    refine va_get (D := D) (ci := 5) (v := .ref (ad 1)) (C := R_V) (T := F_V) (N := 9) hx hb ht j_V hown hK.1 hP 0 rfl rfl 0 (by decide) (ht _ q_128) (fun _ h9 => h9) rfl d_V_placeByTurns_26 ?_
    refine va_get (D := D) (ci := 1) (v := .ref (ad 8)) (C := R_L) (T := F_L) (N := 4) hx hb ht j_L hown hK.1 hP 1 rfl rfl 1 (by decide) (ht _ q_32) (fun _ h9 => h9) rfl d_V_placeByTurns_29 ?_
    refine lv_iload_n hx hb d_V_placeByTurns_32 rfl (lv_at hl 1 rfl) ?_
    refine rr_iald (q0 := 8) (n := 16) (f := (fun j => nI ((μ 4) j))) (k := (ix 16 x)) hx hb hK hP rfl (by omega) (by omega) d_V_placeByTurns_33 ?_
    refine rr_isub (a := (μ 1 0)) (b := ((μ 4) (ix 16 x))) (by omega) hx hb d_V_placeByTurns_34 ?_
    refine lv_sipush (v := nI 1200) hx hb d_V_placeByTurns_35 (by decide) ?_
    refine rr_irem (a := ((μ 1 0) - ((μ 4) (ix 16 x)))) (b := 1200) (by omega) (by omega) (by omega) hx hb d_V_placeByTurns_38 ?_
    exact rr_ret hx hb hr hlk rfl d_V_placeByTurns_39
  · have hq := fun z => c8 ((ca_on hM hC).mpr z)
    exact (absurd h0 (by unfold thCar; rw [if_neg hq]; decide))
theorem k_V_people : rr_CK y_V_people b_V_people 2 (some .int) 1 := ⟨q_534, q_535, q_1, q_536, by decide, by decide, by decide +kernel⟩
set_option maxHeartbeats 4000000 in
set_option maxRecDepth 100000 in
/-- RopeVotes.people, where it does not throw -/
theorem c_V_people0 (l : Launch) (D : va_G) (cs : rr_C3) (ad : Nat → Nat) (μ : NS) (ρ : NS) (x : Int32) (hM : IM μ) (hC : IC μ ρ) (h0 : thCar μ x = 0) : RO l y_V_people b_V_people 2 (some .int) 1 23 D cs [((ad 0), .inr (5, [.ref (ad 1), .ref (ad 2), .ref (ad 3), .ref (ad 4), .ref (ad 5), .ref (ad 6), .int (nI (μ 0 0)), .int (nI (μ 1 0)), .int (nI (μ 2 0))])), ((ad 1), .inr (1, [.ref (ad 7), .ref (ad 8), .ref (ad 9), .int (nI (μ 3 0))])), ((ad 2), .inr (4, [.ref (ad 10), .ref (ad 11), .ref (ad 12), .ref (ad 13)])), ((ad 3), .inr (2, [.ref (ad 14), .ref (ad 15)])), ((ad 4), .inr (0, [.ref (ad 16), .ref (ad 17)])), ((ad 5), .inr (3, [.ref (ad 18), .ref (ad 19), .ref (ad 20), .ref (ad 21), .ref (ad 22), .ref (ad 23), .int (nI (μ 15 0))])), ((ad 6), .inl (cs.1, 1001, .inl (fun j => nI ((μ 14) j)))), ((ad 7), .inl (cs.1, 16, .inl (fun j => nI ((ρ 0) j)))), ((ad 8), .inl (cs.1, 16, .inl (fun j => nI ((μ 4) j)))), ((ad 9), .inl (cs.2.1, 16, .inl (fun j => nI ((ρ 1) j)))), ((ad 10), .inl (cs.1, 7, .inl (fun j => nI ((μ 6) j)))), ((ad 11), .inl (cs.1, 7, .inl (fun j => nI ((μ 7) j)))), ((ad 12), .inl (cs.1, 7, .inl (fun j => nI ((μ 8) j)))), ((ad 13), .inl (cs.2.1, 7, .inl (fun j => nI ((μ 9) j)))), ((ad 14), .inl (cs.1, 49, .inl (fun j => nI ((ρ 2) j)))), ((ad 15), .inl (cs.1, 49, .inl (fun j => nI ((ρ 3) j)))), ((ad 16), .inl (cs.1, 7, .inl (fun j => mI ((ρ 4) j)))), ((ad 17), .inl (cs.1, 7, .inl (fun j => zI ((μ 12) j)))), ((ad 18), .inl (cs.1, 60, .inl (fun j => nI ((μ 16) j)))), ((ad 19), .inl (cs.1, 60, .inl (fun j => nI ((μ 17) j)))), ((ad 20), .inl (cs.1, 60, .inl (fun j => nI ((μ 18) j)))), ((ad 21), .inl (cs.1, 60, .inl (fun j => nI ((μ 19) j)))), ((ad 22), .inl (cs.1, 60, .inl (fun j => mI ((ρ 5) j)))), ((ad 23), .inl (cs.1, 60, .inl (fun j => nI ((μ 21) j))))] [.ref (ad 0), .int x] (fun r => r = nI (ppl μ (ix 16 x))) := by
  refine RO.of (by decide) (Nat.le_of_ble_eq_true rfl) ?_
  intro p e s m args below meth c S hr hlk hK hP ls hl
  obtain ⟨hx, hb, hml, hown, ht⟩ := id S
  have hl : lv_has ls 2 [(0, .ref (ad 0)), (1, .int x)] := hl
  obtain ⟨hT, hU, hhd, hcar, hbase, hoff, hoff2, hwb, hcut, hb8, hr8, hvt, hvv, hrec, hN, htk, hth, hta0⟩ := id hM
  have hon := hC.on
  have hpl := hC.pl
  have hcb := hC.cb hM
  have htA := hC.tA hM
  refine lv_aload_n hx hb d_V_people_0 rfl (lv_at hl 0 rfl) ?_
  refine va_get (D := D) (ci := 5) (v := .ref (ad 1)) (C := R_V) (T := F_V) (N := 9) hx hb ht j_V hown hK.1 hP 0 rfl rfl 0 (by decide) (ht _ q_128) (fun _ h9 => h9) rfl d_V_people_1 ?_
  refine lv_iload_n hx hb d_V_people_4 rfl (lv_at hl 1 rfl) ?_
  refine rr_rV (As := [.int x]) (rest := []) (idx := 74) (q0 := 1) (ci := 1) S hK hP (c_L_has l D cs (ad 1) (ad 9) (.ref (ad 7)) (.ref (ad 8)) (.int (nI (μ 3 0))) (ρ 1) x (by first | assumption | omega)) k_L_has [1, 9] rfl rfl rfl rfl q_160 ⟨Nat.le_of_ble_eq_true rfl, Nat.le_of_ble_eq_true rfl⟩ ⟨Nat.le_of_ble_eq_true rfl, Nat.le_of_ble_eq_true rfl⟩ hl (Nat.le_of_ble_eq_true rfl) rfl d_V_people_5 (fun r9 hr9 => ?_)
  subst hr9
  refine rr_bq_ne (tgt := 21) hx hb d_V_people_8 (by decide) (fun c8 => ?_) (fun c8 => ?_)
  · have hq := (ca_on hM hC).mp c8
    have hv_x : x = nI (ix 16 x) := ix_lt (by decide) c8.1
    rw [hv_x] at hl
    have hpq := hC.2.1 _ c8.1 c8.2
    have hpl9 := hpl _ c8.1 c8.2
    have hb9 := hbase _ c8.1
    refine lv_aload_n hx hb d_V_people_21 rfl (lv_at hl 0 rfl) ?_
    refine va_get (D := D) (ci := 5) (v := .ref (ad 5)) (C := R_V) (T := F_V) (N := 9) hx hb ht j_V hown hK.1 hP 0 rfl rfl 4 (by decide) (ht _ q_132) (fun _ h9 => h9) rfl d_V_people_22 ?_
    refine lv_iload_n hx hb d_V_people_25 rfl (lv_at hl 1 rfl) ?_
    refine rr_rV (As := [.int (nI (ix 16 x))]) (rest := []) (idx := 89) (q0 := 5) (ci := 3) S hK hP (c_K_peopleIn l D cs (ad 5) (ad 18) (ad 19) (ad 22) (.ref (ad 20)) (.ref (ad 21)) (.ref (ad 23)) (μ 15 0) (μ 16) (μ 17) (ρ 5) (ix 16 x) (by first | assumption | omega) (by first | assumption | omega) (fun j hj => by have := (htk j hj).1; omega) (by first | assumption | omega)) k_K_peopleIn [5, 18, 19, 22] rfl rfl rfl rfl q_474 ⟨Nat.le_of_ble_eq_true rfl, Nat.le_of_ble_eq_true rfl⟩ ⟨Nat.le_of_ble_eq_true rfl, Nat.le_of_ble_eq_true rfl⟩ hl (Nat.le_of_ble_eq_true rfl) rfl d_V_people_26 (fun r9 hr9 => ?_)
    subst hr9
    exact rr_ret hx hb hr hlk (congrArg nI (pp_same hC _)) d_V_people_29
  · have hq := fun z => c8 ((ca_on hM hC).mpr z)
    exact (absurd h0 (by unfold thCar; rw [if_neg hq]; decide))
theorem k_V_vote : rr_CK y_V_vote b_V_vote 2 (some .int) 1 := ⟨q_520, q_521, q_1, q_522, by decide, by decide, by decide +kernel⟩
set_option maxHeartbeats 4000000 in
set_option maxRecDepth 100000 in
/-- RopeVotes.vote, where it does not throw -/
theorem c_V_vote0 (l : Launch) (D : va_G) (cs : rr_C3) (ad : Nat → Nat) (μ : NS) (ρ : NS) (x : Int32) (hM : IM μ) (hC : IC μ ρ) (h0 : thTow x = 0) : RO l y_V_vote b_V_vote 2 (some .int) 1 20 D cs [((ad 0), .inr (5, [.ref (ad 1), .ref (ad 2), .ref (ad 3), .ref (ad 4), .ref (ad 5), .ref (ad 6), .int (nI (μ 0 0)), .int (nI (μ 1 0)), .int (nI (μ 2 0))])), ((ad 1), .inr (1, [.ref (ad 7), .ref (ad 8), .ref (ad 9), .int (nI (μ 3 0))])), ((ad 2), .inr (4, [.ref (ad 10), .ref (ad 11), .ref (ad 12), .ref (ad 13)])), ((ad 3), .inr (2, [.ref (ad 14), .ref (ad 15)])), ((ad 4), .inr (0, [.ref (ad 16), .ref (ad 17)])), ((ad 5), .inr (3, [.ref (ad 18), .ref (ad 19), .ref (ad 20), .ref (ad 21), .ref (ad 22), .ref (ad 23), .int (nI (μ 15 0))])), ((ad 6), .inl (cs.1, 1001, .inl (fun j => nI ((μ 14) j)))), ((ad 7), .inl (cs.1, 16, .inl (fun j => nI ((ρ 0) j)))), ((ad 8), .inl (cs.1, 16, .inl (fun j => nI ((μ 4) j)))), ((ad 9), .inl (cs.2.1, 16, .inl (fun j => nI ((ρ 1) j)))), ((ad 10), .inl (cs.1, 7, .inl (fun j => nI ((μ 6) j)))), ((ad 11), .inl (cs.1, 7, .inl (fun j => nI ((μ 7) j)))), ((ad 12), .inl (cs.1, 7, .inl (fun j => nI ((μ 8) j)))), ((ad 13), .inl (cs.2.1, 7, .inl (fun j => nI ((μ 9) j)))), ((ad 14), .inl (cs.1, 49, .inl (fun j => nI ((ρ 2) j)))), ((ad 15), .inl (cs.1, 49, .inl (fun j => nI ((ρ 3) j)))), ((ad 16), .inl (cs.1, 7, .inl (fun j => mI ((ρ 4) j)))), ((ad 17), .inl (cs.1, 7, .inl (fun j => zI ((μ 12) j)))), ((ad 18), .inl (cs.1, 60, .inl (fun j => nI ((μ 16) j)))), ((ad 19), .inl (cs.1, 60, .inl (fun j => nI ((μ 17) j)))), ((ad 20), .inl (cs.1, 60, .inl (fun j => nI ((μ 18) j)))), ((ad 21), .inl (cs.1, 60, .inl (fun j => nI ((μ 19) j)))), ((ad 22), .inl (cs.1, 60, .inl (fun j => mI ((ρ 5) j)))), ((ad 23), .inl (cs.1, 60, .inl (fun j => nI ((μ 21) j))))] [.ref (ad 0), .int x] (fun r => r = mI (vlN μ (ix 7 x))) := by
  refine RO.of (by decide) (Nat.le_of_ble_eq_true rfl) ?_
  intro p e s m args below meth c S hr hlk hK hP ls hl
  obtain ⟨hx, hb, hml, hown, ht⟩ := id S
  have hl : lv_has ls 2 [(0, .ref (ad 0)), (1, .int x)] := hl
  obtain ⟨hT, hU, hhd, hcar, hbase, hoff, hoff2, hwb, hcut, hb8, hr8, hvt, hvv, hrec, hN, htk, hth, hta0⟩ := id hM
  have hon := hC.on
  have hpl := hC.pl
  have hcb := hC.cb hM
  have htA := hC.tA hM
  refine lv_iload_n hx hb d_V_vote_0 rfl (lv_at hl 1 rfl) ?_
  refine rr_rS (As := [.int x]) (rest := []) (idx := 108) S hK (c_V_isTower l D cs x ) k_V_isTower q_236 ⟨Nat.le_of_ble_eq_true rfl, Nat.le_of_ble_eq_true rfl⟩ ⟨Nat.le_of_ble_eq_true rfl, Nat.le_of_ble_eq_true rfl⟩ hl (Nat.le_of_ble_eq_true rfl) rfl d_V_vote_1 (fun r9 hr9 => ?_)
  subst hr9
  refine rr_bq_ne (tgt := 17) hx hb d_V_vote_4 (by decide) (fun c4 => ?_) (fun c4 => ?_)
  · have hv_x : x = nI (ix 7 x) := ix_lt (by decide) c4
    rw [hv_x] at hl
    refine lv_aload_n hx hb d_V_vote_17 rfl (lv_at hl 0 rfl) ?_
    refine va_get (D := D) (ci := 5) (v := .ref (ad 4)) (C := R_V) (T := F_V) (N := 9) hx hb ht j_V hown hK.1 hP 0 rfl rfl 3 (by decide) (ht _ q_131) (fun _ h9 => h9) rfl d_V_vote_18 ?_
    refine va_get (D := D) (ci := 0) (v := .ref (ad 16)) (C := R_C) (T := F_C) (N := 2) hx hb ht j_C hown hK.1 hP 4 rfl rfl 0 (by decide) (ht _ q_90) (fun _ h9 => h9) rfl d_V_vote_21 ?_
    refine lv_iload_n hx hb d_V_vote_24 rfl (lv_at hl 1 rfl) ?_
    refine rr_iald (q0 := 16) (n := 7) (f := (fun j => mI ((ρ 4) j))) (k := (ix 7 x)) hx hb hK hP rfl (by omega) (by omega) d_V_vote_25 ?_
    exact rr_ret hx hb hr hlk (congrArg mI (hC.2.2.2.1 _ c4)) d_V_vote_26
  · exact (absurd h0 (by unfold thTow; rw [if_neg c4]; decide))
theorem k_V_voteTime : rr_CK y_V_voteTime b_V_voteTime 2 (some .int) 1 := ⟨q_516, q_517, q_1, q_518, by decide, by decide, by decide +kernel⟩
set_option maxHeartbeats 4000000 in
set_option maxRecDepth 100000 in
/-- RopeVotes.voteTime, where it does not throw -/
theorem c_V_voteTime0 (l : Launch) (D : va_G) (cs : rr_C3) (ad : Nat → Nat) (μ : NS) (ρ : NS) (x : Int32) (hM : IM μ) (hC : IC μ ρ) (h0 : thTow x = 0) : RO l y_V_voteTime b_V_voteTime 2 (some .int) 1 20 D cs [((ad 0), .inr (5, [.ref (ad 1), .ref (ad 2), .ref (ad 3), .ref (ad 4), .ref (ad 5), .ref (ad 6), .int (nI (μ 0 0)), .int (nI (μ 1 0)), .int (nI (μ 2 0))])), ((ad 1), .inr (1, [.ref (ad 7), .ref (ad 8), .ref (ad 9), .int (nI (μ 3 0))])), ((ad 2), .inr (4, [.ref (ad 10), .ref (ad 11), .ref (ad 12), .ref (ad 13)])), ((ad 3), .inr (2, [.ref (ad 14), .ref (ad 15)])), ((ad 4), .inr (0, [.ref (ad 16), .ref (ad 17)])), ((ad 5), .inr (3, [.ref (ad 18), .ref (ad 19), .ref (ad 20), .ref (ad 21), .ref (ad 22), .ref (ad 23), .int (nI (μ 15 0))])), ((ad 6), .inl (cs.1, 1001, .inl (fun j => nI ((μ 14) j)))), ((ad 7), .inl (cs.1, 16, .inl (fun j => nI ((ρ 0) j)))), ((ad 8), .inl (cs.1, 16, .inl (fun j => nI ((μ 4) j)))), ((ad 9), .inl (cs.2.1, 16, .inl (fun j => nI ((ρ 1) j)))), ((ad 10), .inl (cs.1, 7, .inl (fun j => nI ((μ 6) j)))), ((ad 11), .inl (cs.1, 7, .inl (fun j => nI ((μ 7) j)))), ((ad 12), .inl (cs.1, 7, .inl (fun j => nI ((μ 8) j)))), ((ad 13), .inl (cs.2.1, 7, .inl (fun j => nI ((μ 9) j)))), ((ad 14), .inl (cs.1, 49, .inl (fun j => nI ((ρ 2) j)))), ((ad 15), .inl (cs.1, 49, .inl (fun j => nI ((ρ 3) j)))), ((ad 16), .inl (cs.1, 7, .inl (fun j => mI ((ρ 4) j)))), ((ad 17), .inl (cs.1, 7, .inl (fun j => zI ((μ 12) j)))), ((ad 18), .inl (cs.1, 60, .inl (fun j => nI ((μ 16) j)))), ((ad 19), .inl (cs.1, 60, .inl (fun j => nI ((μ 17) j)))), ((ad 20), .inl (cs.1, 60, .inl (fun j => nI ((μ 18) j)))), ((ad 21), .inl (cs.1, 60, .inl (fun j => nI ((μ 19) j)))), ((ad 22), .inl (cs.1, 60, .inl (fun j => mI ((ρ 5) j)))), ((ad 23), .inl (cs.1, 60, .inl (fun j => nI ((μ 21) j))))] [.ref (ad 0), .int x] (fun r => r = zI (μ 12 (ix 7 x))) := by
  refine RO.of (by decide) (Nat.le_of_ble_eq_true rfl) ?_
  intro p e s m args below meth c S hr hlk hK hP ls hl
  obtain ⟨hx, hb, hml, hown, ht⟩ := id S
  have hl : lv_has ls 2 [(0, .ref (ad 0)), (1, .int x)] := hl
  obtain ⟨hT, hU, hhd, hcar, hbase, hoff, hoff2, hwb, hcut, hb8, hr8, hvt, hvv, hrec, hN, htk, hth, hta0⟩ := id hM
  have hon := hC.on
  have hpl := hC.pl
  have hcb := hC.cb hM
  have htA := hC.tA hM
  refine lv_iload_n hx hb d_V_voteTime_0 rfl (lv_at hl 1 rfl) ?_
  refine rr_rS (As := [.int x]) (rest := []) (idx := 108) S hK (c_V_isTower l D cs x ) k_V_isTower q_236 ⟨Nat.le_of_ble_eq_true rfl, Nat.le_of_ble_eq_true rfl⟩ ⟨Nat.le_of_ble_eq_true rfl, Nat.le_of_ble_eq_true rfl⟩ hl (Nat.le_of_ble_eq_true rfl) rfl d_V_voteTime_1 (fun r9 hr9 => ?_)
  subst hr9
  refine rr_bq_ne (tgt := 17) hx hb d_V_voteTime_4 (by decide) (fun c4 => ?_) (fun c4 => ?_)
  · have hv_x : x = nI (ix 7 x) := ix_lt (by decide) c4
    rw [hv_x] at hl
    refine lv_aload_n hx hb d_V_voteTime_17 rfl (lv_at hl 0 rfl) ?_
    refine va_get (D := D) (ci := 5) (v := .ref (ad 4)) (C := R_V) (T := F_V) (N := 9) hx hb ht j_V hown hK.1 hP 0 rfl rfl 3 (by decide) (ht _ q_131) (fun _ h9 => h9) rfl d_V_voteTime_18 ?_
    refine va_get (D := D) (ci := 0) (v := .ref (ad 17)) (C := R_C) (T := F_C) (N := 2) hx hb ht j_C hown hK.1 hP 4 rfl rfl 1 (by decide) (ht _ q_92) (fun _ h9 => h9) rfl d_V_voteTime_21 ?_
    refine lv_iload_n hx hb d_V_voteTime_24 rfl (lv_at hl 1 rfl) ?_
    refine rr_iald (q0 := 17) (n := 7) (f := (fun j => zI ((μ 12) j))) (k := (ix 7 x)) hx hb hK hP rfl (by omega) (by omega) d_V_voteTime_25 ?_
    exact rr_ret hx hb hr hlk rfl d_V_voteTime_26
  · exact (absurd h0 (by unfold thTow; rw [if_neg c4]; decide))
end
section
-- making cells: rows of zeros, objects, constructors
def adF (l : List Nat) (k : Nat) : Nat := l.getD k 0
/-- a row's first n are v, the rest w -/
def ini (v w n : Nat) : Nat → Nat := fun j => if j < n then v else w
theorem ini_0 (v w : Nat) : ini v w 0 = fun _ => w := by funext j; unfold ini; rw [if_neg (Nat.not_lt_zero j)]
theorem ini_s (v w n : Nat) : va_up (ini v w n) n v = ini v w (n + 1) := by
  funext j; unfold va_up ini
  by_cases q : j = n
  · subst q; rw [if_pos rfl, if_pos (Nat.lt_succ_self j)]
  · rw [if_neg q]; simp only [lt_succ_eq q]
section MK
variable {p : Program} {l : Launch} {e : Env} {R : Room} {s : State} {m : MethodId} {args : Array Value} {below : List Frame} {meth : Method} {c : Code} {H : Heap} {locs : List Loc} {cells slots : Nat} {Q : State → Prop}
variable {pc : Nat} {ls : Array Slot} {rest st0 : List Value} {cc : ByteArray} {nL : Nat} {own : String} {D : va_G} {cs : rr_C3} {ws wc : va_W} {A : Nat → Prop} {H0 : Heap}
theorem rr_newI {N : Nat} (f : Nat → Int32) (hf : ∀ j, f j = 0) (hexec : p.tables.exec = Jvm.exec) (hb : c.code = cc) (harr : (Cond.arrayClass .int).before args s = true) (hK : rr_K D cs s) (hP : va_P D classes ws H) (hD : va_D A ws) (hS : va_S A H0 H locs) (hA : ∀ q, H0.size ≤ q → A q) (hN : N ≤ 134217728) (hcells : cells + 1 ≤ R.cells) (hslots : slots + N ≤ R.slots) (hdg : decode cc pc = .ok (.newarray .int, 2))
    (kk : ∀ (q : Nat) (H1 : Heap), va_P D classes (ws ++ [(q, .inl (cs.1, N, .inl f))]) H1 → va_D A (ws ++ [(q, .inl (cs.1, N, .inl f))]) → va_S A H0 H1 locs → W p l e R s m args below meth c H1 locs (cells + 1) (slots + N) Q (F0 m (pc + 2) ls (.ref q :: rest))) : W p l e R s m args below meth c H locs cells slots Q (F0 m pc ls (.int (nI N) :: rest)) := by
  refine va_newa (atype := .int) (ty := .int) (N' := N) (a0 := (N, .inl f)) hexec hb harr rfl hK.1 hP hD hS hA (fun cA => by rw [vp_cell_i]; congr 1; funext j; rw [hf]; rfl) (nI_pos (by omega)) (nI_clamp (by omega)) (by show N * 4 ≤ _; omega) hcells hslots hdg ?_
  intro q cA H1 hK2 hP2 hD2 hS2
  have h1 := va_nm_int (hK2.2 3 _ rfl).2
  have h2 := va_nm_int (hK.1.2 0 _ rfl).2
  cases Option.some.inj (h1.symm.trans h2)
  exact kk q H1 hP2 hD2 hS2
theorem rr_newZ {N : Nat} (f : Nat → Int32) (hf : ∀ j, f j = 0) (hexec : p.tables.exec = Jvm.exec) (hb : c.code = cc) (harr : (Cond.arrayClass .boolean).before args s = true) (hK : rr_K D cs s) (hP : va_P D classes ws H) (hD : va_D A ws) (hS : va_S A H0 H locs) (hA : ∀ q, H0.size ≤ q → A q) (hN : N ≤ 134217728) (hcells : cells + 1 ≤ R.cells) (hslots : slots + N ≤ R.slots) (hdg : decode cc pc = .ok (.newarray .boolean, 2))
    (kk : ∀ (q : Nat) (H1 : Heap), va_P D classes (ws ++ [(q, .inl (cs.2.1, N, .inl f))]) H1 → va_D A (ws ++ [(q, .inl (cs.2.1, N, .inl f))]) → va_S A H0 H1 locs → W p l e R s m args below meth c H1 locs (cells + 1) (slots + N) Q (F0 m (pc + 2) ls (.ref q :: rest))) : W p l e R s m args below meth c H locs cells slots Q (F0 m pc ls (.int (nI N) :: rest)) := by
  refine va_newa (atype := .boolean) (ty := .boolean) (N' := N) (a0 := (N, .inl f)) hexec hb harr rfl hK.1 hP hD hS hA (fun cA => by rw [vp_cell_i]; congr 1; funext j; rw [hf]; rfl) (nI_pos (by omega)) (nI_clamp (by omega)) (by show N * 1 ≤ _; omega) hcells hslots hdg ?_
  intro q cA H1 hK2 hP2 hD2 hS2
  have h1 := va_nm_boolean (hK2.2 3 _ rfl).2
  have h2 := va_nm_boolean (hK.1.2 1 _ rfl).2
  cases Option.some.inj (h1.symm.trans h2)
  exact kk q H1 hP2 hD2 hS2
theorem rr_newJ {N : Nat} (hexec : p.tables.exec = Jvm.exec) (hb : c.code = cc) (harr : (Cond.arrayClass .long).before args s = true) (hK : rr_K D cs s) (hP : va_P D classes ws H) (hD : va_D A ws) (hS : va_S A H0 H locs) (hA : ∀ q, H0.size ≤ q → A q) (hN : N ≤ 67108864) (hcells : cells + 1 ≤ R.cells) (hslots : slots + N ≤ R.slots) (hdg : decode cc pc = .ok (.newarray .long, 2))
    (kk : ∀ (q : Nat) (H1 : Heap), va_P D classes (ws ++ [(q, .inl (cs.2.2, N, .inr (.inl (fun _ => 0))))]) H1 → va_D A (ws ++ [(q, .inl (cs.2.2, N, .inr (.inl (fun _ => 0))))]) → va_S A H0 H1 locs → W p l e R s m args below meth c H1 locs (cells + 1) (slots + N) Q (F0 m (pc + 2) ls (.ref q :: rest))) : W p l e R s m args below meth c H locs cells slots Q (F0 m pc ls (.int (nI N) :: rest)) := by
  refine va_newa (atype := .long) (ty := .long) (N' := N) (a0 := (N, .inr (.inl (fun _ => 0)))) hexec hb harr rfl hK.1 hP hD hS hA (fun cA => by rw [vp_cell_l]; rfl) (nI_pos (by omega)) (nI_clamp (by omega)) (by show N * 8 ≤ _; omega) hcells hslots hdg ?_
  intro q cA H1 hK2 hP2 hD2 hS2
  have h1 := va_nm_long (hK2.2 3 _ rfl).2
  have h2 := va_nm_long (hK.1.2 2 _ rfl).2
  cases Option.some.inj (h1.symm.trans h2)
  exact kk q H1 hP2 hD2 hS2
/-- behind a call that writes and answers nothing -/
theorem rr_tailv {S9 : Type} {post : S9 → Prop} {B : S9 → va_W} {wr : va_W} {mc ms : Nat} {a : Array Value} (hP : va_P D classes ws H) (hD : va_D A ws) (hS : va_S A H0 H locs) (hA : ∀ q : Nat, H0.size ≤ q → A q) (isC isR : List Nat) (hC : isC.map (fun i => ws[i]?) = wc.map some) (hRr : isR.map (fun i => ws[i]?) = wr.map some) (hn : va_nd isR = true) (hdis : ∀ i ∈ isR, i ∉ isC)
    (run : va_Run p l e R s m args below meth c H locs cells slots mc ms (F0 m pc ls st0) rest (va_Qv post (fun u t => va_P D classes (B u) t.heap ∧ va_D (va_A wc H.size) (B u)) (va_A wc H.size) a) (va_A wc H.size))
    (kk : ∀ (u : S9) (H1 : Heap) (locs1 : List Loc), post u → va_P D classes (wr ++ B u) H1 → va_D A (wr ++ B u) → va_S A H0 H1 locs1 → W p l e R s m args below meth c H1 locs1 (cells + mc) (slots + ms) Q (F0 m (pc + 3) ls rest)) : W p l e R s m args below meth c H locs cells slots Q (F0 m pc ls st0) := by
  have hFc := va_free (wc := wc) hD hS hA isC hC
  refine va_callv run hS (fun q _ h => hFc q h) hFc ?_
  intro u t H1 locs1 ht1 hvm hp hB hz hk hS1
  obtain ⟨hP1, hD1⟩ := hB
  rw [ht1] at hP1
  obtain ⟨g1, g2⟩ := va_join (wr := wr) (w1 := B u) hP hD isC isR hC hRr hn hdis hk hFc hP1 hD1
  exact kk u H1 locs1 hp g1 g2 hS1
theorem rr_cut {isC : List Nat} (hP : va_P D classes ws H) (hC : isC.map (fun i => ws[i]?) = wc.map some) : va_P D classes wc H := fun k q hk => by
  have h1 : (isC.map (fun i => ws[i]?))[k]? = some (some q) := by rw [hC, List.getElem?_map, hk]; rfl
  rw [List.getElem?_map] at h1
  cases hi : isC[k]? with
  | none => rw [hi] at h1; cases h1
  | some i => rw [hi] at h1; exact hP i q (Option.some.inj h1)
/-- a constructor -/
theorem rr_cI {y : MethodName} {b : ByteArray} {n fr lc mc ms idx o : Nat} {As : List Value} {S9 : Type} {post : S9 → Prop} {B : S9 → va_W} {lv : List (Nat × Value)} {wr : va_W} (S : CallFix p m c cc nL s args rr_all own) (hK : rr_K D cs s) (hP : va_P D classes ws H) (hD : va_D A ws) (hS : va_S A H0 H locs) (hA : ∀ q : Nat, H0.size ≤ q → A q) (hM : MV l y b n fr lc mc ms D cs wc H.size (.ref o :: As) post B) (K : rr_CI y b n As.length) (isC isR : List Nat) (hC : isC.map (fun i => ws[i]?) = wc.map some) (hnd : va_nd isC = true) (hRr : isR.map (fun i => ws[i]?) = wr.map some) (hn : va_nd isR = true) (hdis : ∀ i ∈ isR, i ∉ isC)
    (hlink : Cond.methodLink own idx y ∈ rr_all) (hR : fr + 1 ≤ R.frames ∧ 8 + (n + 11) + lc ≤ R.locals) (hf : cells + mc ≤ R.cells ∧ slots + ms ≤ R.slots) (hl : lv_has ls nL lv) (hst : (rest.map fun v => v.category).sum ≤ 8) (h0 : st0 = As.reverse ++ .ref o :: rest) (hdg : decode cc pc = .ok (.invokespecial idx, 3))
    (kk : ∀ (u : S9) (H1 : Heap) (locs1 : List Loc), post u → va_P D classes (wr ++ B u) H1 → va_D A (wr ++ B u) → va_S A H0 H1 locs1 → W p l e R s m args below meth c H1 locs1 (cells + mc) (slots + ms) Q (F0 m (pc + 3) ls rest)) : W p l e R s m args below meth c H locs cells slots Q (F0 m pc ls st0) := by
  obtain ⟨k0, k1, k3, k4, k5, k6, k7⟩ := K
  have ht := S.2.2.2.2
  have hPc : va_P D classes wc H := rr_cut hP hC
  have hDc : va_D (fun _ => True) wc := (hD.sub isC hnd hC).weaken (fun _ _ _ _ => trivial)
  exact rr_tailv hP hD hS hA isC isR hC hRr hn hdis (va_runI (As := As) (rest := rest) S hM ⟨callB_of As.length ht (rr_gcode k4) rfl rfl rfl (ht _ k3) (ht _ hlink) ⟨k5, k6, k7⟩ hR, k0, ht _ k1⟩ ⟨rr_blindM, fun U hU hW => ⟨rfl, by rw [hU], by rw [hU]; exact hPc, hK.warm hW, hDc⟩⟩ rfl rfl hl.1 h0 (lv_room hst) hdg hf) kk
/-- .. a private one of a nest mate -/
theorem rr_cIN {y : MethodName} {b : ByteArray} {n fr lc mc ms idx o : Nat} {host : String} {As : List Value} {S9 : Type} {post : S9 → Prop} {B : S9 → va_W} {lv : List (Nat × Value)} {wr : va_W} (S : CallFix p m c cc nL s args rr_all own) (hK : rr_K D cs s) (hP : va_P D classes ws H) (hD : va_D A ws) (hS : va_S A H0 H locs) (hA : ∀ q : Nat, H0.size ≤ q → A q) (hM : MV l y b n fr lc mc ms D cs wc H.size (.ref o :: As) post B) (K : rr_CI y b n As.length) (isC isR : List Nat) (hC : isC.map (fun i => ws[i]?) = wc.map some) (hnd : va_nd isC = true) (hRr : isR.map (fun i => ws[i]?) = wr.map some) (hn : va_nd isR = true) (hdis : ∀ i ∈ isR, i ∉ isC)
    (hlink : (own, idx, y, host) ∈ rr_nl) (hR : fr + 1 ≤ R.frames ∧ 8 + (n + 11) + lc ≤ R.locals) (hf : cells + mc ≤ R.cells ∧ slots + ms ≤ R.slots) (hl : lv_has ls nL lv) (hst : (rest.map fun v => v.category).sum ≤ 8) (h0 : st0 = As.reverse ++ .ref o :: rest) (hdg : decode cc pc = .ok (.invokespecial idx, 3))
    (kk : ∀ (u : S9) (H1 : Heap) (locs1 : List Loc), post u → va_P D classes (wr ++ B u) H1 → va_D A (wr ++ B u) → va_S A H0 H1 locs1 → W p l e R s m args below meth c H1 locs1 (cells + mc) (slots + ms) Q (F0 m (pc + 3) ls rest)) : W p l e R s m args below meth c H locs cells slots Q (F0 m pc ls st0) := by
  obtain ⟨k0, k1, k3, k4, k5, k6, k7⟩ := K
  have ht := S.2.2.2.2
  have hPc : va_P D classes wc H := rr_cut hP hC
  have hDc : va_D (fun _ => True) wc := (hD.sub isC hnd hC).weaken (fun _ _ _ _ => trivial)
  exact rr_tailv hP hD hS hA isC isR hC hRr hn hdis (va_runIN (As := As) (rest := rest) S hM ⟨va_cnB As.length ht (rr_gcode k4) rfl rfl rfl (hK.2 _ hlink) (ht _ k3) ⟨k5, k6, k7⟩ hR, k0, ht _ k1⟩ ⟨rr_blindM, fun U hU hW => ⟨rfl, by rw [hU], by rw [hU]; exact hPc, hK.warm hW, hDc⟩⟩ rfl rfl hl.1 h0 (lv_room hst) hdg hf) kk
end MK
/-- the state of a new object -/
def mu0 : NS := va_up (va_up (va_up (fun _ _ => 0) 7 (ini 40 0 7)) 8 (ini 70 0 7)) 12 (ini 0 4294967296 7)
def ro0 : NS := va_up (va_up (fun _ _ => 0) 4 (ini 0 1 7)) 5 (fun _ => 1)
theorem nI_big : nI 4294967296 = nI 0 := by decide +kernel
theorem zI_big : zI 4294967296 = 0 := by decide +kernel
theorem mI_1 : mI 1 = 0 := by decide +kernel
theorem mu0_12 : (fun j => nI (mu0 12 j)) = fun j => nI ((fun _ => 0) j) := by
  funext j
  show nI (ini 0 4294967296 7 j) = nI 0
  unfold ini
  split
  · rfl
  · exact nI_big
theorem IM_0 : IM mu0 := by
  refine ⟨Nat.zero_le _, Nat.zero_le _, Nat.zero_le _, Nat.zero_le _, fun _ _ => Nat.zero_le _, fun _ _ => Nat.zero_le _, fun _ _ _ => rfl, fun j hj => ⟨Nat.zero_le _, ?_, ?_⟩, fun _ _ => Nat.zero_le _, fun _ _ => Nat.zero_le _, fun _ _ _ _ => Nat.zero_le _, fun j hj => ?_, fun _ _ => Nat.zero_le _, fun _ _ => ⟨Nat.zero_le _, Nat.zero_le _⟩, Nat.zero_le _, fun j hj => absurd hj (Nat.not_lt_zero j), fun _ _ => Nat.zero_le _, fun _ _ _ => rfl⟩
  · show ini 40 0 7 j ≤ 150
    unfold ini; split <;> omega
  · show ini 70 0 7 j ≤ 150
    unfold ini; split <;> omega
  · show ini 0 4294967296 7 j ≤ 0
    unfold ini; rw [if_pos hj]; exact Nat.le_refl _
theorem IC_0 : IC mu0 ro0 := by
  refine ⟨fun j _ => (bq_f (fun z => absurd z.1 (Nat.not_lt_zero j))).symm, fun j _ q => absurd (show (0 : Nat) = 1 from q) (by decide), fun _ _ _ _ => ⟨rfl, rfl⟩, fun j hj => ?_, fun j hj => absurd hj (Nat.not_lt_zero j)⟩
  show ini 0 1 7 j = if ini 0 4294967296 7 j = 0 then 0 else 0 + 1
  unfold ini
  rw [if_pos hj, if_pos hj, if_pos rfl]
end
section
theorem k_L_init : rr_CI y_L_init b_L_init 1 0 := ⟨rfl, q_26, q_2, q_27, by decide, by decide, by decide +kernel⟩
set_option maxHeartbeats 4000000 in
set_option maxRecDepth 100000 in
/-- Loop() -/
theorem c_L_init (l : Launch) (D : va_G) (cs : rr_C3) (h0 : Nat)  (sz : Nat) : MV l y_L_init b_L_init 1 1 12 3 48 D cs [(h0, .inr (1, [.null, .null, .null, .int (nI 0)]))] sz [.ref h0] (fun (u : Nat → Nat) => True) (fun u : Nat → Nat => [(h0, .inr (1, [.ref (u 1), .ref (u 2), .ref (u 3), .int (nI 0)])), ((u 1), .inl (cs.1, 16, .inl (fun j => nI ((fun _ => 0) j)))), ((u 2), .inl (cs.1, 16, .inl (fun j => nI ((fun _ => 0) j)))), ((u 3), .inl (cs.2.1, 16, .inl (fun j => nI ((fun _ => 0) j))))]) := by
  refine MV.of (by decide) (Nat.le_of_ble_eq_true rfl) ?_
  intro p e s m args below meth c A S hr hlk hnm hK hP hD hA hS ls hl
  obtain ⟨hx, hb, hml, hown, ht⟩ := id S
  have hl : lv_has ls 1 [(0, .ref h0)] := hl
  have hS : va_S A s.heap s.heap [] := hS
  refine lv_aload_n hx hb d_L_init_0 rfl (lv_at hl 0 rfl) ?_
  refine W.objInit hx hb hown (ht _ q_28) (ht _ q_21) (ht _ q_22) rfl (by rw [hml]; exact hl.1) rfl d_L_init_1 (Nat.le_of_ble_eq_true rfl) (Nat.le_of_ble_eq_true rfl) ?_
  refine W.eq (g2 := F0 m 4 ls []) rfl ?_
  refine lv_aload_n hx hb d_L_init_4 rfl (lv_at hl 0 rfl) ?_
  refine lv_bipush (v := nI 16) hx hb d_L_init_5 (by decide) ?_
  refine rr_newI (N := 16) (fun j => nI ((fun _ => 0) j)) (fun _ => rfl) hx hb (ht _ q_45) hK hP hD hS hA (Nat.le_of_ble_eq_true rfl) (Nat.le_of_ble_eq_true rfl) (Nat.le_of_ble_eq_true rfl) d_L_init_7 (fun q7 H hP hD hS => ?_)
  have hP : va_P D classes [(h0, .inr (1, [.null, .null, .null, .int (nI 0)])), (q7, .inl (cs.1, 16, .inl (fun j => nI ((fun _ => 0) j))))] H := hP
  have hD : va_D A [(h0, .inr (1, [.null, .null, .null, .int (nI 0)])), (q7, .inl (cs.1, 16, .inl (fun j => nI ((fun _ => 0) j))))] := hD
  refine va_putF (D := D) (ci := 1) (v := .ref q7) (ty := .array .int) (C := R_L) (T := F_L) (N := 4) hx hb ht j_L t_L t_L_ok n_L hown hK.1 hP hD hS 0 rfl rfl 0 (by decide) (ht _ q_29) (fun _ h9 => h9) rfl hnm rfl (by decide +kernel) rfl rfl (Nat.le_of_ble_eq_true rfl) d_L_init_9 (fun H locs hP hD hS => ?_)
  have hP : va_P D classes [(h0, .inr (1, [.ref q7, .null, .null, .int (nI 0)])), (q7, .inl (cs.1, 16, .inl (fun j => nI ((fun _ => 0) j))))] H := hP
  have hD : va_D A [(h0, .inr (1, [.ref q7, .null, .null, .int (nI 0)])), (q7, .inl (cs.1, 16, .inl (fun j => nI ((fun _ => 0) j))))] := hD
  refine lv_aload_n hx hb d_L_init_12 rfl (lv_at hl 0 rfl) ?_
  refine lv_bipush (v := nI 16) hx hb d_L_init_13 (by decide) ?_
  refine rr_newI (N := 16) (fun j => nI ((fun _ => 0) j)) (fun _ => rfl) hx hb (ht _ q_45) hK hP hD hS hA (Nat.le_of_ble_eq_true rfl) (Nat.le_of_ble_eq_true rfl) (Nat.le_of_ble_eq_true rfl) d_L_init_15 (fun q15 H hP hD hS => ?_)
  have hP : va_P D classes [(h0, .inr (1, [.ref q7, .null, .null, .int (nI 0)])), (q7, .inl (cs.1, 16, .inl (fun j => nI ((fun _ => 0) j)))), (q15, .inl (cs.1, 16, .inl (fun j => nI ((fun _ => 0) j))))] H := hP
  have hD : va_D A [(h0, .inr (1, [.ref q7, .null, .null, .int (nI 0)])), (q7, .inl (cs.1, 16, .inl (fun j => nI ((fun _ => 0) j)))), (q15, .inl (cs.1, 16, .inl (fun j => nI ((fun _ => 0) j))))] := hD
  refine va_putF (D := D) (ci := 1) (v := .ref q15) (ty := .array .int) (C := R_L) (T := F_L) (N := 4) hx hb ht j_L t_L t_L_ok n_L hown hK.1 hP hD hS 0 rfl rfl 1 (by decide) (ht _ q_31) (fun _ h9 => h9) rfl hnm rfl (by decide +kernel) rfl rfl (Nat.le_of_ble_eq_true rfl) d_L_init_17 (fun H locs hP hD hS => ?_)
  have hP : va_P D classes [(h0, .inr (1, [.ref q7, .ref q15, .null, .int (nI 0)])), (q7, .inl (cs.1, 16, .inl (fun j => nI ((fun _ => 0) j)))), (q15, .inl (cs.1, 16, .inl (fun j => nI ((fun _ => 0) j))))] H := hP
  have hD : va_D A [(h0, .inr (1, [.ref q7, .ref q15, .null, .int (nI 0)])), (q7, .inl (cs.1, 16, .inl (fun j => nI ((fun _ => 0) j)))), (q15, .inl (cs.1, 16, .inl (fun j => nI ((fun _ => 0) j))))] := hD
  refine lv_aload_n hx hb d_L_init_20 rfl (lv_at hl 0 rfl) ?_
  refine lv_bipush (v := nI 16) hx hb d_L_init_21 (by decide) ?_
  refine rr_newZ (N := 16) (fun j => nI ((fun _ => 0) j)) (fun _ => rfl) hx hb (ht _ q_46) hK hP hD hS hA (Nat.le_of_ble_eq_true rfl) (Nat.le_of_ble_eq_true rfl) (Nat.le_of_ble_eq_true rfl) d_L_init_23 (fun q23 H hP hD hS => ?_)
  have hP : va_P D classes [(h0, .inr (1, [.ref q7, .ref q15, .null, .int (nI 0)])), (q7, .inl (cs.1, 16, .inl (fun j => nI ((fun _ => 0) j)))), (q15, .inl (cs.1, 16, .inl (fun j => nI ((fun _ => 0) j)))), (q23, .inl (cs.2.1, 16, .inl (fun j => nI ((fun _ => 0) j))))] H := hP
  have hD : va_D A [(h0, .inr (1, [.ref q7, .ref q15, .null, .int (nI 0)])), (q7, .inl (cs.1, 16, .inl (fun j => nI ((fun _ => 0) j)))), (q15, .inl (cs.1, 16, .inl (fun j => nI ((fun _ => 0) j)))), (q23, .inl (cs.2.1, 16, .inl (fun j => nI ((fun _ => 0) j))))] := hD
  refine va_putF (D := D) (ci := 1) (v := .ref q23) (ty := .array .boolean) (C := R_L) (T := F_L) (N := 4) hx hb ht j_L t_L t_L_ok n_L hown hK.1 hP hD hS 0 rfl rfl 2 (by decide) (ht _ q_33) (fun _ h9 => h9) rfl hnm rfl (by decide +kernel) rfl rfl (Nat.le_of_ble_eq_true rfl) d_L_init_25 (fun H locs hP hD hS => ?_)
  have hP : va_P D classes [(h0, .inr (1, [.ref q7, .ref q15, .ref q23, .int (nI 0)])), (q7, .inl (cs.1, 16, .inl (fun j => nI ((fun _ => 0) j)))), (q15, .inl (cs.1, 16, .inl (fun j => nI ((fun _ => 0) j)))), (q23, .inl (cs.2.1, 16, .inl (fun j => nI ((fun _ => 0) j))))] H := hP
  have hD : va_D A [(h0, .inr (1, [.ref q7, .ref q15, .ref q23, .int (nI 0)])), (q7, .inl (cs.1, 16, .inl (fun j => nI ((fun _ => 0) j)))), (q15, .inl (cs.1, 16, .inl (fun j => nI ((fun _ => 0) j)))), (q23, .inl (cs.2.1, 16, .inl (fun j => nI ((fun _ => 0) j))))] := hD
  refine lv_aload_n hx hb d_L_init_28 rfl (lv_at hl 0 rfl) ?_
  refine lv_iconst (v := nI 0) hx hb d_L_init_29 (by decide) ?_
  refine va_put (D := D) (ci := 1) (v := .int (nI 0)) (ty := .int) (C := R_L) (T := F_L) (N := 4) hx hb ht j_L t_L t_L_ok n_L hown hK.1 hP hD hS 0 rfl rfl 3 (by decide) (ht _ q_35) (fun _ h9 => h9) rfl (by decide +kernel) rfl rfl (Nat.le_of_ble_eq_true rfl) d_L_init_30 (fun H locs hP hD hS => ?_)
  have hP : va_P D classes [(h0, .inr (1, [.ref q7, .ref q15, .ref q23, .int (nI 0)])), (q7, .inl (cs.1, 16, .inl (fun j => nI ((fun _ => 0) j)))), (q15, .inl (cs.1, 16, .inl (fun j => nI ((fun _ => 0) j)))), (q23, .inl (cs.2.1, 16, .inl (fun j => nI ((fun _ => 0) j))))] H := hP
  have hD : va_D A [(h0, .inr (1, [.ref q7, .ref q15, .ref q23, .int (nI 0)])), (q7, .inl (cs.1, 16, .inl (fun j => nI ((fun _ => 0) j)))), (q15, .inl (cs.1, 16, .inl (fun j => nI ((fun _ => 0) j)))), (q23, .inl (cs.2.1, 16, .inl (fun j => nI ((fun _ => 0) j))))] := hD
  exact rr_mvret (adF [h0, q7, q15, q23]) hx hb hr hlk hP hD hS trivial d_L_init_33
theorem k_W_init : rr_CI y_W_init b_W_init 2 0 := ⟨rfl, q_50, q_3, q_51, by decide, by decide, by decide +kernel⟩
set_option maxHeartbeats 4000000 in
set_option maxRecDepth 100000 in
/-- Towers() -/
theorem c_W_init (l : Launch) (D : va_G) (cs : rr_C3) (h0 : Nat)  (sz : Nat) : MV l y_W_init b_W_init 2 1 12 4 28 D cs [(h0, .inr (4, [.null, .null, .null, .null]))] sz [.ref h0] (fun (u : Nat → Nat) => True) (fun u : Nat → Nat => [(h0, .inr (4, [.ref (u 1), .ref (u 2), .ref (u 3), .ref (u 4)])), ((u 1), .inl (cs.1, 7, .inl (fun j => nI ((fun _ => 0) j)))), ((u 2), .inl (cs.1, 7, .inl (fun j => nI ((ini 40 0 7) j)))), ((u 3), .inl (cs.1, 7, .inl (fun j => nI ((ini 70 0 7) j)))), ((u 4), .inl (cs.2.1, 7, .inl (fun j => nI ((fun _ => 0) j))))]) := by
  refine MV.of (by decide) (Nat.le_of_ble_eq_true rfl) ?_
  intro p e s m args below meth c A S hr hlk hnm hK hP hD hA hS ls hl
  obtain ⟨hx, hb, hml, hown, ht⟩ := id S
  have hl : lv_has ls 2 [(0, .ref h0)] := hl
  have hS : va_S A s.heap s.heap [] := hS
  refine lv_aload_n hx hb d_W_init_0 rfl (lv_at hl 0 rfl) ?_
  refine W.objInit hx hb hown (ht _ q_52) (ht _ q_21) (ht _ q_22) rfl (by rw [hml]; exact hl.1) rfl d_W_init_1 (Nat.le_of_ble_eq_true rfl) (Nat.le_of_ble_eq_true rfl) ?_
  refine W.eq (g2 := F0 m 4 ls []) rfl ?_
  refine lv_aload_n hx hb d_W_init_4 rfl (lv_at hl 0 rfl) ?_
  refine lv_bipush (v := nI 7) hx hb d_W_init_5 (by decide) ?_
  refine rr_newI (N := 7) (fun j => nI ((fun _ => 0) j)) (fun _ => rfl) hx hb (ht _ q_45) hK hP hD hS hA (Nat.le_of_ble_eq_true rfl) (Nat.le_of_ble_eq_true rfl) (Nat.le_of_ble_eq_true rfl) d_W_init_7 (fun q7 H hP hD hS => ?_)
  have hP : va_P D classes [(h0, .inr (4, [.null, .null, .null, .null])), (q7, .inl (cs.1, 7, .inl (fun j => nI ((fun _ => 0) j))))] H := hP
  have hD : va_D A [(h0, .inr (4, [.null, .null, .null, .null])), (q7, .inl (cs.1, 7, .inl (fun j => nI ((fun _ => 0) j))))] := hD
  refine va_putF (D := D) (ci := 4) (v := .ref q7) (ty := .array .int) (C := R_W) (T := F_W) (N := 4) hx hb ht j_W t_W t_W_ok n_W hown hK.1 hP hD hS 0 rfl rfl 0 (by decide) (ht _ q_53) (fun _ h9 => h9) rfl hnm rfl (by decide +kernel) rfl rfl (Nat.le_of_ble_eq_true rfl) d_W_init_9 (fun H locs hP hD hS => ?_)
  have hP : va_P D classes [(h0, .inr (4, [.ref q7, .null, .null, .null])), (q7, .inl (cs.1, 7, .inl (fun j => nI ((fun _ => 0) j))))] H := hP
  have hD : va_D A [(h0, .inr (4, [.ref q7, .null, .null, .null])), (q7, .inl (cs.1, 7, .inl (fun j => nI ((fun _ => 0) j))))] := hD
  refine lv_aload_n hx hb d_W_init_12 rfl (lv_at hl 0 rfl) ?_
  refine lv_bipush (v := nI 7) hx hb d_W_init_13 (by decide) ?_
  refine rr_newI (N := 7) (fun j => nI ((fun _ => 0) j)) (fun _ => rfl) hx hb (ht _ q_45) hK hP hD hS hA (Nat.le_of_ble_eq_true rfl) (Nat.le_of_ble_eq_true rfl) (Nat.le_of_ble_eq_true rfl) d_W_init_15 (fun q15 H hP hD hS => ?_)
  have hP : va_P D classes [(h0, .inr (4, [.ref q7, .null, .null, .null])), (q7, .inl (cs.1, 7, .inl (fun j => nI ((fun _ => 0) j)))), (q15, .inl (cs.1, 7, .inl (fun j => nI ((fun _ => 0) j))))] H := hP
  have hD : va_D A [(h0, .inr (4, [.ref q7, .null, .null, .null])), (q7, .inl (cs.1, 7, .inl (fun j => nI ((fun _ => 0) j)))), (q15, .inl (cs.1, 7, .inl (fun j => nI ((fun _ => 0) j))))] := hD
  refine va_putF (D := D) (ci := 4) (v := .ref q15) (ty := .array .int) (C := R_W) (T := F_W) (N := 4) hx hb ht j_W t_W t_W_ok n_W hown hK.1 hP hD hS 0 rfl rfl 1 (by decide) (ht _ q_55) (fun _ h9 => h9) rfl hnm rfl (by decide +kernel) rfl rfl (Nat.le_of_ble_eq_true rfl) d_W_init_17 (fun H locs hP hD hS => ?_)
  have hP : va_P D classes [(h0, .inr (4, [.ref q7, .ref q15, .null, .null])), (q7, .inl (cs.1, 7, .inl (fun j => nI ((fun _ => 0) j)))), (q15, .inl (cs.1, 7, .inl (fun j => nI ((fun _ => 0) j))))] H := hP
  have hD : va_D A [(h0, .inr (4, [.ref q7, .ref q15, .null, .null])), (q7, .inl (cs.1, 7, .inl (fun j => nI ((fun _ => 0) j)))), (q15, .inl (cs.1, 7, .inl (fun j => nI ((fun _ => 0) j))))] := hD
  refine lv_aload_n hx hb d_W_init_20 rfl (lv_at hl 0 rfl) ?_
  refine lv_bipush (v := nI 7) hx hb d_W_init_21 (by decide) ?_
  refine rr_newI (N := 7) (fun j => nI ((fun _ => 0) j)) (fun _ => rfl) hx hb (ht _ q_45) hK hP hD hS hA (Nat.le_of_ble_eq_true rfl) (Nat.le_of_ble_eq_true rfl) (Nat.le_of_ble_eq_true rfl) d_W_init_23 (fun q23 H hP hD hS => ?_)
  have hP : va_P D classes [(h0, .inr (4, [.ref q7, .ref q15, .null, .null])), (q7, .inl (cs.1, 7, .inl (fun j => nI ((fun _ => 0) j)))), (q15, .inl (cs.1, 7, .inl (fun j => nI ((fun _ => 0) j)))), (q23, .inl (cs.1, 7, .inl (fun j => nI ((fun _ => 0) j))))] H := hP
  have hD : va_D A [(h0, .inr (4, [.ref q7, .ref q15, .null, .null])), (q7, .inl (cs.1, 7, .inl (fun j => nI ((fun _ => 0) j)))), (q15, .inl (cs.1, 7, .inl (fun j => nI ((fun _ => 0) j)))), (q23, .inl (cs.1, 7, .inl (fun j => nI ((fun _ => 0) j))))] := hD
  refine va_putF (D := D) (ci := 4) (v := .ref q23) (ty := .array .int) (C := R_W) (T := F_W) (N := 4) hx hb ht j_W t_W t_W_ok n_W hown hK.1 hP hD hS 0 rfl rfl 2 (by decide) (ht _ q_57) (fun _ h9 => h9) rfl hnm rfl (by decide +kernel) rfl rfl (Nat.le_of_ble_eq_true rfl) d_W_init_25 (fun H locs hP hD hS => ?_)
  have hP : va_P D classes [(h0, .inr (4, [.ref q7, .ref q15, .ref q23, .null])), (q7, .inl (cs.1, 7, .inl (fun j => nI ((fun _ => 0) j)))), (q15, .inl (cs.1, 7, .inl (fun j => nI ((fun _ => 0) j)))), (q23, .inl (cs.1, 7, .inl (fun j => nI ((fun _ => 0) j))))] H := hP
  have hD : va_D A [(h0, .inr (4, [.ref q7, .ref q15, .ref q23, .null])), (q7, .inl (cs.1, 7, .inl (fun j => nI ((fun _ => 0) j)))), (q15, .inl (cs.1, 7, .inl (fun j => nI ((fun _ => 0) j)))), (q23, .inl (cs.1, 7, .inl (fun j => nI ((fun _ => 0) j))))] := hD
  refine lv_aload_n hx hb d_W_init_28 rfl (lv_at hl 0 rfl) ?_
  refine lv_bipush (v := nI 7) hx hb d_W_init_29 (by decide) ?_
  refine rr_newZ (N := 7) (fun j => nI ((fun _ => 0) j)) (fun _ => rfl) hx hb (ht _ q_46) hK hP hD hS hA (Nat.le_of_ble_eq_true rfl) (Nat.le_of_ble_eq_true rfl) (Nat.le_of_ble_eq_true rfl) d_W_init_31 (fun q31 H hP hD hS => ?_)
  have hP : va_P D classes [(h0, .inr (4, [.ref q7, .ref q15, .ref q23, .null])), (q7, .inl (cs.1, 7, .inl (fun j => nI ((fun _ => 0) j)))), (q15, .inl (cs.1, 7, .inl (fun j => nI ((fun _ => 0) j)))), (q23, .inl (cs.1, 7, .inl (fun j => nI ((fun _ => 0) j)))), (q31, .inl (cs.2.1, 7, .inl (fun j => nI ((fun _ => 0) j))))] H := hP
  have hD : va_D A [(h0, .inr (4, [.ref q7, .ref q15, .ref q23, .null])), (q7, .inl (cs.1, 7, .inl (fun j => nI ((fun _ => 0) j)))), (q15, .inl (cs.1, 7, .inl (fun j => nI ((fun _ => 0) j)))), (q23, .inl (cs.1, 7, .inl (fun j => nI ((fun _ => 0) j)))), (q31, .inl (cs.2.1, 7, .inl (fun j => nI ((fun _ => 0) j))))] := hD
  refine va_putF (D := D) (ci := 4) (v := .ref q31) (ty := .array .boolean) (C := R_W) (T := F_W) (N := 4) hx hb ht j_W t_W t_W_ok n_W hown hK.1 hP hD hS 0 rfl rfl 3 (by decide) (ht _ q_59) (fun _ h9 => h9) rfl hnm rfl (by decide +kernel) rfl rfl (Nat.le_of_ble_eq_true rfl) d_W_init_33 (fun H locs hP hD hS => ?_)
  have hP : va_P D classes [(h0, .inr (4, [.ref q7, .ref q15, .ref q23, .ref q31])), (q7, .inl (cs.1, 7, .inl (fun j => nI ((fun _ => 0) j)))), (q15, .inl (cs.1, 7, .inl (fun j => nI ((fun _ => 0) j)))), (q23, .inl (cs.1, 7, .inl (fun j => nI ((fun _ => 0) j)))), (q31, .inl (cs.2.1, 7, .inl (fun j => nI ((fun _ => 0) j))))] H := hP
  have hD : va_D A [(h0, .inr (4, [.ref q7, .ref q15, .ref q23, .ref q31])), (q7, .inl (cs.1, 7, .inl (fun j => nI ((fun _ => 0) j)))), (q15, .inl (cs.1, 7, .inl (fun j => nI ((fun _ => 0) j)))), (q23, .inl (cs.1, 7, .inl (fun j => nI ((fun _ => 0) j)))), (q31, .inl (cs.2.1, 7, .inl (fun j => nI ((fun _ => 0) j))))] := hD
  refine lv_iconst (v := nI 0) hx hb d_W_init_36 (by decide) ?_
  refine lv_istore_n (lv' := [(1, .int (nI 0)), (0, .ref h0)]) hx hb d_W_init_37 rfl hl (by decide) rfl (fun ls hl => ?_)
  have hPD : va_P D classes [(h0, .inr (4, [.ref q7, .ref q15, .ref q23, .ref q31])), (q7, .inl (cs.1, 7, .inl (fun j => nI ((fun _ => 0) j)))), (q15, .inl (cs.1, 7, .inl (fun j => nI ((ini 40 0 0) j)))), (q23, .inl (cs.1, 7, .inl (fun j => nI ((ini 70 0 0) j)))), (q31, .inl (cs.2.1, 7, .inl (fun j => nI ((fun _ => 0) j))))] H ∧ va_D A [(h0, .inr (4, [.ref q7, .ref q15, .ref q23, .ref q31])), (q7, .inl (cs.1, 7, .inl (fun j => nI ((fun _ => 0) j)))), (q15, .inl (cs.1, 7, .inl (fun j => nI ((ini 40 0 0) j)))), (q23, .inl (cs.1, 7, .inl (fun j => nI ((ini 70 0 0) j)))), (q31, .inl (cs.2.1, 7, .inl (fun j => nI ((fun _ => 0) j))))] := by rw [ini_0, ini_0]; exact ⟨hP, hD⟩
  refine rr_loopM (fun i => [(1, .int (nI i)), (0, .ref h0)]) (fun i => True) (fun i => [(h0, .inr (4, [.ref q7, .ref q15, .ref q23, .ref q31])), (q7, .inl (cs.1, 7, .inl (fun j => nI ((fun _ => 0) j)))), (q15, .inl (cs.1, 7, .inl (fun j => nI ((ini 40 0 i) j)))), (q23, .inl (cs.1, 7, .inl (fun j => nI ((ini 70 0 i) j)))), (q31, .inl (cs.2.1, 7, .inl (fun j => nI ((fun _ => 0) j))))]) 0 7 (by omega) trivial (lv_sub hl [0, 1] rfl) hPD.1 hPD.2 hS (fun i ls H locs hi_2 hI_3 hl hP hD hS ih_1 => ?_)
  have hP : va_P D classes [(h0, .inr (4, [.ref q7, .ref q15, .ref q23, .ref q31])), (q7, .inl (cs.1, 7, .inl (fun j => nI ((fun _ => 0) j)))), (q15, .inl (cs.1, 7, .inl (fun j => nI ((ini 40 0 i) j)))), (q23, .inl (cs.1, 7, .inl (fun j => nI ((ini 70 0 i) j)))), (q31, .inl (cs.2.1, 7, .inl (fun j => nI ((fun _ => 0) j))))] H := hP
  have hD : va_D A [(h0, .inr (4, [.ref q7, .ref q15, .ref q23, .ref q31])), (q7, .inl (cs.1, 7, .inl (fun j => nI ((fun _ => 0) j)))), (q15, .inl (cs.1, 7, .inl (fun j => nI ((ini 40 0 i) j)))), (q23, .inl (cs.1, 7, .inl (fun j => nI ((ini 70 0 i) j)))), (q31, .inl (cs.2.1, 7, .inl (fun j => nI ((fun _ => 0) j))))] := hD
  have hl : lv_has ls 2 [(1, .int (nI i)), (0, .ref h0)] := hl
  refine lv_iload_n hx hb d_W_init_38 rfl (lv_at hl 0 rfl) ?_
  refine lv_bipush (v := nI 7) hx hb d_W_init_39 (by decide) ?_
  refine rr_icmp_ge (a := i) (b := 7) (tgt := 66) (by omega) (by omega) hx hb d_W_init_41 (by decide) (fun c41 => ?_) (fun c41 => ?_)
  · have hPD : va_P D classes [(h0, .inr (4, [.ref ((adF [h0, q7, q15, q23, q31]) 1), .ref ((adF [h0, q7, q15, q23, q31]) 2), .ref ((adF [h0, q7, q15, q23, q31]) 3), .ref ((adF [h0, q7, q15, q23, q31]) 4)])), (((adF [h0, q7, q15, q23, q31]) 1), .inl (cs.1, 7, .inl (fun j => nI ((fun _ => 0) j)))), (((adF [h0, q7, q15, q23, q31]) 2), .inl (cs.1, 7, .inl (fun j => nI ((ini 40 0 7) j)))), (((adF [h0, q7, q15, q23, q31]) 3), .inl (cs.1, 7, .inl (fun j => nI ((ini 70 0 7) j)))), (((adF [h0, q7, q15, q23, q31]) 4), .inl (cs.2.1, 7, .inl (fun j => nI ((fun _ => 0) j))))] H ∧ va_D A [(h0, .inr (4, [.ref ((adF [h0, q7, q15, q23, q31]) 1), .ref ((adF [h0, q7, q15, q23, q31]) 2), .ref ((adF [h0, q7, q15, q23, q31]) 3), .ref ((adF [h0, q7, q15, q23, q31]) 4)])), (((adF [h0, q7, q15, q23, q31]) 1), .inl (cs.1, 7, .inl (fun j => nI ((fun _ => 0) j)))), (((adF [h0, q7, q15, q23, q31]) 2), .inl (cs.1, 7, .inl (fun j => nI ((ini 40 0 7) j)))), (((adF [h0, q7, q15, q23, q31]) 3), .inl (cs.1, 7, .inl (fun j => nI ((ini 70 0 7) j)))), (((adF [h0, q7, q15, q23, q31]) 4), .inl (cs.2.1, 7, .inl (fun j => nI ((fun _ => 0) j))))] := by rw [show ini 40 0 7 = ini 40 0 i from by rw [show i = 7 from by omega], show ini 70 0 7 = ini 70 0 i from by rw [show i = 7 from by omega]]; exact ⟨hP, hD⟩
    exact rr_mvret (adF [h0, q7, q15, q23, q31]) hx hb hr hlk hPD.1 hPD.2 hS trivial d_W_init_66
  · refine lv_aload_n hx hb d_W_init_44 rfl (lv_at hl 1 rfl) ?_
    refine va_get (D := D) (ci := 4) (v := .ref q15) (C := R_W) (T := F_W) (N := 4) hx hb ht j_W hown hK.1 hP 0 rfl rfl 1 (by decide) (ht _ q_55) (fun _ h9 => h9) rfl d_W_init_45 ?_
    refine lv_iload_n hx hb d_W_init_48 rfl (lv_at hl 0 rfl) ?_
    refine lv_bipush (v := nI 40) hx hb d_W_init_49 (by decide) ?_
    refine rr_iast (q0 := 2) (n := 7) nI (ini 40 0 i) (k := i) (v := 40) hx hb hK hP hD hS rfl (by omega) (by omega) d_W_init_51 (fun H locs hP hD hS => ?_)
    have hP : va_P D classes [(h0, .inr (4, [.ref q7, .ref q15, .ref q23, .ref q31])), (q7, .inl (cs.1, 7, .inl (fun j => nI ((fun _ => 0) j)))), (q15, .inl (cs.1, 7, .inl (fun j => nI ((va_up (ini 40 0 i) i 40) j)))), (q23, .inl (cs.1, 7, .inl (fun j => nI ((ini 70 0 i) j)))), (q31, .inl (cs.2.1, 7, .inl (fun j => nI ((fun _ => 0) j))))] H := hP
    have hD : va_D A [(h0, .inr (4, [.ref q7, .ref q15, .ref q23, .ref q31])), (q7, .inl (cs.1, 7, .inl (fun j => nI ((fun _ => 0) j)))), (q15, .inl (cs.1, 7, .inl (fun j => nI ((va_up (ini 40 0 i) i 40) j)))), (q23, .inl (cs.1, 7, .inl (fun j => nI ((ini 70 0 i) j)))), (q31, .inl (cs.2.1, 7, .inl (fun j => nI ((fun _ => 0) j))))] := hD
    refine lv_aload_n hx hb d_W_init_52 rfl (lv_at hl 1 rfl) ?_
    refine va_get (D := D) (ci := 4) (v := .ref q23) (C := R_W) (T := F_W) (N := 4) hx hb ht j_W hown hK.1 hP 0 rfl rfl 2 (by decide) (ht _ q_57) (fun _ h9 => h9) rfl d_W_init_53 ?_
    refine lv_iload_n hx hb d_W_init_56 rfl (lv_at hl 0 rfl) ?_
    refine lv_bipush (v := nI 70) hx hb d_W_init_57 (by decide) ?_
    refine rr_iast (q0 := 3) (n := 7) nI (ini 70 0 i) (k := i) (v := 70) hx hb hK hP hD hS rfl (by omega) (by omega) d_W_init_59 (fun H locs hP hD hS => ?_)
    have hP : va_P D classes [(h0, .inr (4, [.ref q7, .ref q15, .ref q23, .ref q31])), (q7, .inl (cs.1, 7, .inl (fun j => nI ((fun _ => 0) j)))), (q15, .inl (cs.1, 7, .inl (fun j => nI ((va_up (ini 40 0 i) i 40) j)))), (q23, .inl (cs.1, 7, .inl (fun j => nI ((va_up (ini 70 0 i) i 70) j)))), (q31, .inl (cs.2.1, 7, .inl (fun j => nI ((fun _ => 0) j))))] H := hP
    have hD : va_D A [(h0, .inr (4, [.ref q7, .ref q15, .ref q23, .ref q31])), (q7, .inl (cs.1, 7, .inl (fun j => nI ((fun _ => 0) j)))), (q15, .inl (cs.1, 7, .inl (fun j => nI ((va_up (ini 40 0 i) i 40) j)))), (q23, .inl (cs.1, 7, .inl (fun j => nI ((va_up (ini 70 0 i) i 70) j)))), (q31, .inl (cs.2.1, 7, .inl (fun j => nI ((fun _ => 0) j))))] := hD
    refine lv_iinc (v := nI (i + 1)) (lv' := [(1, .int (nI (i + 1))), (0, .ref h0)]) hx hb d_W_init_60 hl (k := 0) rfl (nI_add i 1) (by decide) rfl (fun ls hl => ?_)
    refine lv_goto (tgt := 38) hx hb d_W_init_63 (by decide) ?_
    have hPD : va_P D classes [(h0, .inr (4, [.ref q7, .ref q15, .ref q23, .ref q31])), (q7, .inl (cs.1, 7, .inl (fun j => nI ((fun _ => 0) j)))), (q15, .inl (cs.1, 7, .inl (fun j => nI ((ini 40 0 (i + 1)) j)))), (q23, .inl (cs.1, 7, .inl (fun j => nI ((ini 70 0 (i + 1)) j)))), (q31, .inl (cs.2.1, 7, .inl (fun j => nI ((fun _ => 0) j))))] H ∧ va_D A [(h0, .inr (4, [.ref q7, .ref q15, .ref q23, .ref q31])), (q7, .inl (cs.1, 7, .inl (fun j => nI ((fun _ => 0) j)))), (q15, .inl (cs.1, 7, .inl (fun j => nI ((ini 40 0 (i + 1)) j)))), (q23, .inl (cs.1, 7, .inl (fun j => nI ((ini 70 0 (i + 1)) j)))), (q31, .inl (cs.2.1, 7, .inl (fun j => nI ((fun _ => 0) j))))] := by rw [show (ini 40 0 (i + 1)) = (va_up (ini 40 0 i) i 40) from (ini_s _ _ _).symm]; rw [show (ini 70 0 (i + 1)) = (va_up (ini 70 0 i) i 70) from (ini_s _ _ _).symm]; exact ⟨hP, hD⟩
    exact ih_1 ls H locs (by omega) trivial (by show lv_has ls 2 [(1, .int (nI (i + 1))), (0, .ref h0)]; skip; exact lv_sub hl [0, 1] rfl) hPD.1 hPD.2 hS
theorem k_P_init : rr_CI y_P_init b_P_init 1 0 := ⟨rfl, q_73, q_4, q_74, by decide, by decide, by decide +kernel⟩
set_option maxHeartbeats 4000000 in
set_option maxRecDepth 100000 in
/-- Post() -/
theorem c_P_init (l : Launch) (D : va_G) (cs : rr_C3) (h0 : Nat)  (sz : Nat) : MV l y_P_init b_P_init 1 1 12 2 98 D cs [(h0, .inr (2, [.null, .null]))] sz [.ref h0] (fun (u : Nat → Nat) => True) (fun u : Nat → Nat => [(h0, .inr (2, [.ref (u 1), .ref (u 2)])), ((u 1), .inl (cs.1, 49, .inl (fun j => nI ((fun _ => 0) j)))), ((u 2), .inl (cs.1, 49, .inl (fun j => nI ((fun _ => 0) j))))]) := by
  refine MV.of (by decide) (Nat.le_of_ble_eq_true rfl) ?_
  intro p e s m args below meth c A S hr hlk hnm hK hP hD hA hS ls hl
  obtain ⟨hx, hb, hml, hown, ht⟩ := id S
  have hl : lv_has ls 1 [(0, .ref h0)] := hl
  have hS : va_S A s.heap s.heap [] := hS
  refine lv_aload_n hx hb d_P_init_0 rfl (lv_at hl 0 rfl) ?_
  refine W.objInit hx hb hown (ht _ q_75) (ht _ q_21) (ht _ q_22) rfl (by rw [hml]; exact hl.1) rfl d_P_init_1 (Nat.le_of_ble_eq_true rfl) (Nat.le_of_ble_eq_true rfl) ?_
  refine W.eq (g2 := F0 m 4 ls []) rfl ?_
  refine lv_aload_n hx hb d_P_init_4 rfl (lv_at hl 0 rfl) ?_
  refine lv_bipush (v := nI 49) hx hb d_P_init_5 (by decide) ?_
  refine rr_newI (N := 49) (fun j => nI ((fun _ => 0) j)) (fun _ => rfl) hx hb (ht _ q_45) hK hP hD hS hA (Nat.le_of_ble_eq_true rfl) (Nat.le_of_ble_eq_true rfl) (Nat.le_of_ble_eq_true rfl) d_P_init_7 (fun q7 H hP hD hS => ?_)
  have hP : va_P D classes [(h0, .inr (2, [.null, .null])), (q7, .inl (cs.1, 49, .inl (fun j => nI ((fun _ => 0) j))))] H := hP
  have hD : va_D A [(h0, .inr (2, [.null, .null])), (q7, .inl (cs.1, 49, .inl (fun j => nI ((fun _ => 0) j))))] := hD
  refine va_putF (D := D) (ci := 2) (v := .ref q7) (ty := .array .int) (C := R_P) (T := F_P) (N := 2) hx hb ht j_P t_P t_P_ok n_P hown hK.1 hP hD hS 0 rfl rfl 0 (by decide) (ht _ q_76) (fun _ h9 => h9) rfl hnm rfl (by decide +kernel) rfl rfl (Nat.le_of_ble_eq_true rfl) d_P_init_9 (fun H locs hP hD hS => ?_)
  have hP : va_P D classes [(h0, .inr (2, [.ref q7, .null])), (q7, .inl (cs.1, 49, .inl (fun j => nI ((fun _ => 0) j))))] H := hP
  have hD : va_D A [(h0, .inr (2, [.ref q7, .null])), (q7, .inl (cs.1, 49, .inl (fun j => nI ((fun _ => 0) j))))] := hD
  refine lv_aload_n hx hb d_P_init_12 rfl (lv_at hl 0 rfl) ?_
  refine lv_bipush (v := nI 49) hx hb d_P_init_13 (by decide) ?_
  refine rr_newI (N := 49) (fun j => nI ((fun _ => 0) j)) (fun _ => rfl) hx hb (ht _ q_45) hK hP hD hS hA (Nat.le_of_ble_eq_true rfl) (Nat.le_of_ble_eq_true rfl) (Nat.le_of_ble_eq_true rfl) d_P_init_15 (fun q15 H hP hD hS => ?_)
  have hP : va_P D classes [(h0, .inr (2, [.ref q7, .null])), (q7, .inl (cs.1, 49, .inl (fun j => nI ((fun _ => 0) j)))), (q15, .inl (cs.1, 49, .inl (fun j => nI ((fun _ => 0) j))))] H := hP
  have hD : va_D A [(h0, .inr (2, [.ref q7, .null])), (q7, .inl (cs.1, 49, .inl (fun j => nI ((fun _ => 0) j)))), (q15, .inl (cs.1, 49, .inl (fun j => nI ((fun _ => 0) j))))] := hD
  refine va_putF (D := D) (ci := 2) (v := .ref q15) (ty := .array .int) (C := R_P) (T := F_P) (N := 2) hx hb ht j_P t_P t_P_ok n_P hown hK.1 hP hD hS 0 rfl rfl 1 (by decide) (ht _ q_77) (fun _ h9 => h9) rfl hnm rfl (by decide +kernel) rfl rfl (Nat.le_of_ble_eq_true rfl) d_P_init_17 (fun H locs hP hD hS => ?_)
  have hP : va_P D classes [(h0, .inr (2, [.ref q7, .ref q15])), (q7, .inl (cs.1, 49, .inl (fun j => nI ((fun _ => 0) j)))), (q15, .inl (cs.1, 49, .inl (fun j => nI ((fun _ => 0) j))))] H := hP
  have hD : va_D A [(h0, .inr (2, [.ref q7, .ref q15])), (q7, .inl (cs.1, 49, .inl (fun j => nI ((fun _ => 0) j)))), (q15, .inl (cs.1, 49, .inl (fun j => nI ((fun _ => 0) j))))] := hD
  exact rr_mvret (adF [h0, q7, q15]) hx hb hr hlk hP hD hS trivial d_P_init_20
theorem k_C_init : rr_CI y_C_init b_C_init 2 0 := ⟨rfl, q_86, q_5, q_87, by decide, by decide, by decide +kernel⟩
set_option maxHeartbeats 4000000 in
set_option maxRecDepth 100000 in
/-- Control() -/
theorem c_C_init (l : Launch) (D : va_G) (cs : rr_C3) (h0 : Nat)  (sz : Nat) : MV l y_C_init b_C_init 2 1 12 2 14 D cs [(h0, .inr (0, [.null, .null]))] sz [.ref h0] (fun (u : Nat → Nat) => True) (fun u : Nat → Nat => [(h0, .inr (0, [.ref (u 1), .ref (u 2)])), ((u 1), .inl (cs.1, 7, .inl (fun j => mI ((ini 0 1 7) j)))), ((u 2), .inl (cs.1, 7, .inl (fun j => zI ((ini 0 4294967296 7) j))))]) := by
  refine MV.of (by decide) (Nat.le_of_ble_eq_true rfl) ?_
  intro p e s m args below meth c A S hr hlk hnm hK hP hD hA hS ls hl
  obtain ⟨hx, hb, hml, hown, ht⟩ := id S
  have hl : lv_has ls 2 [(0, .ref h0)] := hl
  have hS : va_S A s.heap s.heap [] := hS
  refine lv_aload_n hx hb d_C_init_0 rfl (lv_at hl 0 rfl) ?_
  refine W.objInit hx hb hown (ht _ q_88) (ht _ q_21) (ht _ q_22) rfl (by rw [hml]; exact hl.1) rfl d_C_init_1 (Nat.le_of_ble_eq_true rfl) (Nat.le_of_ble_eq_true rfl) ?_
  refine W.eq (g2 := F0 m 4 ls []) rfl ?_
  refine lv_aload_n hx hb d_C_init_4 rfl (lv_at hl 0 rfl) ?_
  refine lv_bipush (v := nI 7) hx hb d_C_init_5 (by decide) ?_
  refine rr_newI (N := 7) (fun j => mI ((fun _ => 1) j)) (fun _ => mI_1) hx hb (ht _ q_45) hK hP hD hS hA (Nat.le_of_ble_eq_true rfl) (Nat.le_of_ble_eq_true rfl) (Nat.le_of_ble_eq_true rfl) d_C_init_7 (fun q7 H hP hD hS => ?_)
  have hP : va_P D classes [(h0, .inr (0, [.null, .null])), (q7, .inl (cs.1, 7, .inl (fun j => mI ((fun _ => 1) j))))] H := hP
  have hD : va_D A [(h0, .inr (0, [.null, .null])), (q7, .inl (cs.1, 7, .inl (fun j => mI ((fun _ => 1) j))))] := hD
  refine va_putF (D := D) (ci := 0) (v := .ref q7) (ty := .array .int) (C := R_C) (T := F_C) (N := 2) hx hb ht j_C t_C t_C_ok n_C hown hK.1 hP hD hS 0 rfl rfl 0 (by decide) (ht _ q_89) (fun _ h9 => h9) rfl hnm rfl (by decide +kernel) rfl rfl (Nat.le_of_ble_eq_true rfl) d_C_init_9 (fun H locs hP hD hS => ?_)
  have hP : va_P D classes [(h0, .inr (0, [.ref q7, .null])), (q7, .inl (cs.1, 7, .inl (fun j => mI ((fun _ => 1) j))))] H := hP
  have hD : va_D A [(h0, .inr (0, [.ref q7, .null])), (q7, .inl (cs.1, 7, .inl (fun j => mI ((fun _ => 1) j))))] := hD
  refine lv_aload_n hx hb d_C_init_12 rfl (lv_at hl 0 rfl) ?_
  refine lv_bipush (v := nI 7) hx hb d_C_init_13 (by decide) ?_
  refine rr_newI (N := 7) (fun j => zI ((fun _ => 4294967296) j)) (fun _ => zI_big) hx hb (ht _ q_45) hK hP hD hS hA (Nat.le_of_ble_eq_true rfl) (Nat.le_of_ble_eq_true rfl) (Nat.le_of_ble_eq_true rfl) d_C_init_15 (fun q15 H hP hD hS => ?_)
  have hP : va_P D classes [(h0, .inr (0, [.ref q7, .null])), (q7, .inl (cs.1, 7, .inl (fun j => mI ((fun _ => 1) j)))), (q15, .inl (cs.1, 7, .inl (fun j => zI ((fun _ => 4294967296) j))))] H := hP
  have hD : va_D A [(h0, .inr (0, [.ref q7, .null])), (q7, .inl (cs.1, 7, .inl (fun j => mI ((fun _ => 1) j)))), (q15, .inl (cs.1, 7, .inl (fun j => zI ((fun _ => 4294967296) j))))] := hD
  refine va_putF (D := D) (ci := 0) (v := .ref q15) (ty := .array .int) (C := R_C) (T := F_C) (N := 2) hx hb ht j_C t_C t_C_ok n_C hown hK.1 hP hD hS 0 rfl rfl 1 (by decide) (ht _ q_91) (fun _ h9 => h9) rfl hnm rfl (by decide +kernel) rfl rfl (Nat.le_of_ble_eq_true rfl) d_C_init_17 (fun H locs hP hD hS => ?_)
  have hP : va_P D classes [(h0, .inr (0, [.ref q7, .ref q15])), (q7, .inl (cs.1, 7, .inl (fun j => mI ((fun _ => 1) j)))), (q15, .inl (cs.1, 7, .inl (fun j => zI ((fun _ => 4294967296) j))))] H := hP
  have hD : va_D A [(h0, .inr (0, [.ref q7, .ref q15])), (q7, .inl (cs.1, 7, .inl (fun j => mI ((fun _ => 1) j)))), (q15, .inl (cs.1, 7, .inl (fun j => zI ((fun _ => 4294967296) j))))] := hD
  refine lv_iconst (v := nI 0) hx hb d_C_init_20 (by decide) ?_
  refine lv_istore_n (lv' := [(1, .int (nI 0)), (0, .ref h0)]) hx hb d_C_init_21 rfl hl (by decide) rfl (fun ls hl => ?_)
  have hPD : va_P D classes [(h0, .inr (0, [.ref q7, .ref q15])), (q7, .inl (cs.1, 7, .inl (fun j => mI ((ini 0 1 0) j)))), (q15, .inl (cs.1, 7, .inl (fun j => zI ((ini 0 4294967296 0) j))))] H ∧ va_D A [(h0, .inr (0, [.ref q7, .ref q15])), (q7, .inl (cs.1, 7, .inl (fun j => mI ((ini 0 1 0) j)))), (q15, .inl (cs.1, 7, .inl (fun j => zI ((ini 0 4294967296 0) j))))] := by rw [ini_0, ini_0]; exact ⟨hP, hD⟩
  refine rr_loopM (fun i => [(1, .int (nI i)), (0, .ref h0)]) (fun i => True) (fun i => [(h0, .inr (0, [.ref q7, .ref q15])), (q7, .inl (cs.1, 7, .inl (fun j => mI ((ini 0 1 i) j)))), (q15, .inl (cs.1, 7, .inl (fun j => zI ((ini 0 4294967296 i) j))))]) 0 7 (by omega) trivial (lv_sub hl [0, 1] rfl) hPD.1 hPD.2 hS (fun i ls H locs hi_2 hI_3 hl hP hD hS ih_1 => ?_)
  have hP : va_P D classes [(h0, .inr (0, [.ref q7, .ref q15])), (q7, .inl (cs.1, 7, .inl (fun j => mI ((ini 0 1 i) j)))), (q15, .inl (cs.1, 7, .inl (fun j => zI ((ini 0 4294967296 i) j))))] H := hP
  have hD : va_D A [(h0, .inr (0, [.ref q7, .ref q15])), (q7, .inl (cs.1, 7, .inl (fun j => mI ((ini 0 1 i) j)))), (q15, .inl (cs.1, 7, .inl (fun j => zI ((ini 0 4294967296 i) j))))] := hD
  have hl : lv_has ls 2 [(1, .int (nI i)), (0, .ref h0)] := hl
  refine lv_iload_n hx hb d_C_init_22 rfl (lv_at hl 0 rfl) ?_
  refine lv_bipush (v := nI 7) hx hb d_C_init_23 (by decide) ?_
  refine rr_icmp_ge (a := i) (b := 7) (tgt := 48) (by omega) (by omega) hx hb d_C_init_25 (by decide) (fun c25 => ?_) (fun c25 => ?_)
  · have hPD : va_P D classes [(h0, .inr (0, [.ref ((adF [h0, q7, q15]) 1), .ref ((adF [h0, q7, q15]) 2)])), (((adF [h0, q7, q15]) 1), .inl (cs.1, 7, .inl (fun j => mI ((ini 0 1 7) j)))), (((adF [h0, q7, q15]) 2), .inl (cs.1, 7, .inl (fun j => zI ((ini 0 4294967296 7) j))))] H ∧ va_D A [(h0, .inr (0, [.ref ((adF [h0, q7, q15]) 1), .ref ((adF [h0, q7, q15]) 2)])), (((adF [h0, q7, q15]) 1), .inl (cs.1, 7, .inl (fun j => mI ((ini 0 1 7) j)))), (((adF [h0, q7, q15]) 2), .inl (cs.1, 7, .inl (fun j => zI ((ini 0 4294967296 7) j))))] := by rw [show ini 0 1 7 = ini 0 1 i from by rw [show i = 7 from by omega], show ini 0 4294967296 7 = ini 0 4294967296 i from by rw [show i = 7 from by omega]]; exact ⟨hP, hD⟩
    exact rr_mvret (adF [h0, q7, q15]) hx hb hr hlk hPD.1 hPD.2 hS trivial d_C_init_48
  · refine lv_aload_n hx hb d_C_init_28 rfl (lv_at hl 1 rfl) ?_
    refine va_get (D := D) (ci := 0) (v := .ref q7) (C := R_C) (T := F_C) (N := 2) hx hb ht j_C hown hK.1 hP 0 rfl rfl 0 (by decide) (ht _ q_89) (fun _ h9 => h9) rfl d_C_init_29 ?_
    refine lv_iload_n hx hb d_C_init_32 rfl (lv_at hl 0 rfl) ?_
    refine lv_iconst (v := (-1)) hx hb d_C_init_33 (by decide) ?_
    refine rr_top mI_0.symm ?_
    refine rr_iast (q0 := 1) (n := 7) mI (ini 0 1 i) (k := i) (v := 0) hx hb hK hP hD hS rfl (by omega) (by omega) d_C_init_34 (fun H locs hP hD hS => ?_)
    have hP : va_P D classes [(h0, .inr (0, [.ref q7, .ref q15])), (q7, .inl (cs.1, 7, .inl (fun j => mI ((va_up (ini 0 1 i) i 0) j)))), (q15, .inl (cs.1, 7, .inl (fun j => zI ((ini 0 4294967296 i) j))))] H := hP
    have hD : va_D A [(h0, .inr (0, [.ref q7, .ref q15])), (q7, .inl (cs.1, 7, .inl (fun j => mI ((va_up (ini 0 1 i) i 0) j)))), (q15, .inl (cs.1, 7, .inl (fun j => zI ((ini 0 4294967296 i) j))))] := hD
    refine lv_aload_n hx hb d_C_init_35 rfl (lv_at hl 1 rfl) ?_
    refine va_get (D := D) (ci := 0) (v := .ref q15) (C := R_C) (T := F_C) (N := 2) hx hb ht j_C hown hK.1 hP 0 rfl rfl 1 (by decide) (ht _ q_91) (fun _ h9 => h9) rfl d_C_init_36 ?_
    refine lv_iload_n hx hb d_C_init_39 rfl (lv_at hl 0 rfl) ?_
    refine lv_iconst (v := (-1)) hx hb d_C_init_40 (by decide) ?_
    refine rr_top zI_0.symm ?_
    refine rr_iast (q0 := 2) (n := 7) zI (ini 0 4294967296 i) (k := i) (v := 0) hx hb hK hP hD hS rfl (by omega) (by omega) d_C_init_41 (fun H locs hP hD hS => ?_)
    have hP : va_P D classes [(h0, .inr (0, [.ref q7, .ref q15])), (q7, .inl (cs.1, 7, .inl (fun j => mI ((va_up (ini 0 1 i) i 0) j)))), (q15, .inl (cs.1, 7, .inl (fun j => zI ((va_up (ini 0 4294967296 i) i 0) j))))] H := hP
    have hD : va_D A [(h0, .inr (0, [.ref q7, .ref q15])), (q7, .inl (cs.1, 7, .inl (fun j => mI ((va_up (ini 0 1 i) i 0) j)))), (q15, .inl (cs.1, 7, .inl (fun j => zI ((va_up (ini 0 4294967296 i) i 0) j))))] := hD
    refine lv_iinc (v := nI (i + 1)) (lv' := [(1, .int (nI (i + 1))), (0, .ref h0)]) hx hb d_C_init_42 hl (k := 0) rfl (nI_add i 1) (by decide) rfl (fun ls hl => ?_)
    refine lv_goto (tgt := 22) hx hb d_C_init_45 (by decide) ?_
    have hPD : va_P D classes [(h0, .inr (0, [.ref q7, .ref q15])), (q7, .inl (cs.1, 7, .inl (fun j => mI ((ini 0 1 (i + 1)) j)))), (q15, .inl (cs.1, 7, .inl (fun j => zI ((ini 0 4294967296 (i + 1)) j))))] H ∧ va_D A [(h0, .inr (0, [.ref q7, .ref q15])), (q7, .inl (cs.1, 7, .inl (fun j => mI ((ini 0 1 (i + 1)) j)))), (q15, .inl (cs.1, 7, .inl (fun j => zI ((ini 0 4294967296 (i + 1)) j))))] := by rw [show (ini 0 1 (i + 1)) = (va_up (ini 0 1 i) i 0) from (ini_s _ _ _).symm]; rw [show (ini 0 4294967296 (i + 1)) = (va_up (ini 0 4294967296 i) i 0) from (ini_s _ _ _).symm]; exact ⟨hP, hD⟩
    exact ih_1 ls H locs (by omega) trivial (by show lv_has ls 2 [(1, .int (nI (i + 1))), (0, .ref h0)]; skip; exact lv_sub hl [0, 1] rfl) hPD.1 hPD.2 hS
theorem k_K_init : rr_CI y_K_init b_K_init 1 0 := ⟨rfl, q_101, q_6, q_102, by decide, by decide, by decide +kernel⟩
set_option maxHeartbeats 4000000 in
set_option maxRecDepth 100000 in
/-- Tickets() -/
theorem c_K_init (l : Launch) (D : va_G) (cs : rr_C3) (h0 : Nat)  (sz : Nat) : MV l y_K_init b_K_init 1 1 12 6 360 D cs [(h0, .inr (3, [.null, .null, .null, .null, .null, .null, .int (nI 0)]))] sz [.ref h0] (fun (u : Nat → Nat) => True) (fun u : Nat → Nat => [(h0, .inr (3, [.ref (u 1), .ref (u 2), .ref (u 3), .ref (u 4), .ref (u 5), .ref (u 6), .int (nI 0)])), ((u 1), .inl (cs.1, 60, .inl (fun j => nI ((fun _ => 0) j)))), ((u 2), .inl (cs.1, 60, .inl (fun j => nI ((fun _ => 0) j)))), ((u 3), .inl (cs.1, 60, .inl (fun j => nI ((fun _ => 0) j)))), ((u 4), .inl (cs.1, 60, .inl (fun j => nI ((fun _ => 0) j)))), ((u 5), .inl (cs.1, 60, .inl (fun j => mI ((fun _ => 1) j)))), ((u 6), .inl (cs.1, 60, .inl (fun j => nI ((fun _ => 0) j))))]) := by
  refine MV.of (by decide) (Nat.le_of_ble_eq_true rfl) ?_
  intro p e s m args below meth c A S hr hlk hnm hK hP hD hA hS ls hl
  obtain ⟨hx, hb, hml, hown, ht⟩ := id S
  have hl : lv_has ls 1 [(0, .ref h0)] := hl
  have hS : va_S A s.heap s.heap [] := hS
  refine lv_aload_n hx hb d_K_init_0 rfl (lv_at hl 0 rfl) ?_
  refine W.objInit hx hb hown (ht _ q_103) (ht _ q_21) (ht _ q_22) rfl (by rw [hml]; exact hl.1) rfl d_K_init_1 (Nat.le_of_ble_eq_true rfl) (Nat.le_of_ble_eq_true rfl) ?_
  refine W.eq (g2 := F0 m 4 ls []) rfl ?_
  refine lv_aload_n hx hb d_K_init_4 rfl (lv_at hl 0 rfl) ?_
  refine lv_bipush (v := nI 60) hx hb d_K_init_5 (by decide) ?_
  refine rr_newI (N := 60) (fun j => nI ((fun _ => 0) j)) (fun _ => rfl) hx hb (ht _ q_45) hK hP hD hS hA (Nat.le_of_ble_eq_true rfl) (Nat.le_of_ble_eq_true rfl) (Nat.le_of_ble_eq_true rfl) d_K_init_7 (fun q7 H hP hD hS => ?_)
  have hP : va_P D classes [(h0, .inr (3, [.null, .null, .null, .null, .null, .null, .int (nI 0)])), (q7, .inl (cs.1, 60, .inl (fun j => nI ((fun _ => 0) j))))] H := hP
  have hD : va_D A [(h0, .inr (3, [.null, .null, .null, .null, .null, .null, .int (nI 0)])), (q7, .inl (cs.1, 60, .inl (fun j => nI ((fun _ => 0) j))))] := hD
  refine va_putF (D := D) (ci := 3) (v := .ref q7) (ty := .array .int) (C := R_K) (T := F_K) (N := 7) hx hb ht j_K t_K t_K_ok n_K hown hK.1 hP hD hS 0 rfl rfl 0 (by decide) (ht _ q_104) (fun _ h9 => h9) rfl hnm rfl (by decide +kernel) rfl rfl (Nat.le_of_ble_eq_true rfl) d_K_init_9 (fun H locs hP hD hS => ?_)
  have hP : va_P D classes [(h0, .inr (3, [.ref q7, .null, .null, .null, .null, .null, .int (nI 0)])), (q7, .inl (cs.1, 60, .inl (fun j => nI ((fun _ => 0) j))))] H := hP
  have hD : va_D A [(h0, .inr (3, [.ref q7, .null, .null, .null, .null, .null, .int (nI 0)])), (q7, .inl (cs.1, 60, .inl (fun j => nI ((fun _ => 0) j))))] := hD
  refine lv_aload_n hx hb d_K_init_12 rfl (lv_at hl 0 rfl) ?_
  refine lv_bipush (v := nI 60) hx hb d_K_init_13 (by decide) ?_
  refine rr_newI (N := 60) (fun j => nI ((fun _ => 0) j)) (fun _ => rfl) hx hb (ht _ q_45) hK hP hD hS hA (Nat.le_of_ble_eq_true rfl) (Nat.le_of_ble_eq_true rfl) (Nat.le_of_ble_eq_true rfl) d_K_init_15 (fun q15 H hP hD hS => ?_)
  have hP : va_P D classes [(h0, .inr (3, [.ref q7, .null, .null, .null, .null, .null, .int (nI 0)])), (q7, .inl (cs.1, 60, .inl (fun j => nI ((fun _ => 0) j)))), (q15, .inl (cs.1, 60, .inl (fun j => nI ((fun _ => 0) j))))] H := hP
  have hD : va_D A [(h0, .inr (3, [.ref q7, .null, .null, .null, .null, .null, .int (nI 0)])), (q7, .inl (cs.1, 60, .inl (fun j => nI ((fun _ => 0) j)))), (q15, .inl (cs.1, 60, .inl (fun j => nI ((fun _ => 0) j))))] := hD
  refine va_putF (D := D) (ci := 3) (v := .ref q15) (ty := .array .int) (C := R_K) (T := F_K) (N := 7) hx hb ht j_K t_K t_K_ok n_K hown hK.1 hP hD hS 0 rfl rfl 1 (by decide) (ht _ q_105) (fun _ h9 => h9) rfl hnm rfl (by decide +kernel) rfl rfl (Nat.le_of_ble_eq_true rfl) d_K_init_17 (fun H locs hP hD hS => ?_)
  have hP : va_P D classes [(h0, .inr (3, [.ref q7, .ref q15, .null, .null, .null, .null, .int (nI 0)])), (q7, .inl (cs.1, 60, .inl (fun j => nI ((fun _ => 0) j)))), (q15, .inl (cs.1, 60, .inl (fun j => nI ((fun _ => 0) j))))] H := hP
  have hD : va_D A [(h0, .inr (3, [.ref q7, .ref q15, .null, .null, .null, .null, .int (nI 0)])), (q7, .inl (cs.1, 60, .inl (fun j => nI ((fun _ => 0) j)))), (q15, .inl (cs.1, 60, .inl (fun j => nI ((fun _ => 0) j))))] := hD
  refine lv_aload_n hx hb d_K_init_20 rfl (lv_at hl 0 rfl) ?_
  refine lv_bipush (v := nI 60) hx hb d_K_init_21 (by decide) ?_
  refine rr_newI (N := 60) (fun j => nI ((fun _ => 0) j)) (fun _ => rfl) hx hb (ht _ q_45) hK hP hD hS hA (Nat.le_of_ble_eq_true rfl) (Nat.le_of_ble_eq_true rfl) (Nat.le_of_ble_eq_true rfl) d_K_init_23 (fun q23 H hP hD hS => ?_)
  have hP : va_P D classes [(h0, .inr (3, [.ref q7, .ref q15, .null, .null, .null, .null, .int (nI 0)])), (q7, .inl (cs.1, 60, .inl (fun j => nI ((fun _ => 0) j)))), (q15, .inl (cs.1, 60, .inl (fun j => nI ((fun _ => 0) j)))), (q23, .inl (cs.1, 60, .inl (fun j => nI ((fun _ => 0) j))))] H := hP
  have hD : va_D A [(h0, .inr (3, [.ref q7, .ref q15, .null, .null, .null, .null, .int (nI 0)])), (q7, .inl (cs.1, 60, .inl (fun j => nI ((fun _ => 0) j)))), (q15, .inl (cs.1, 60, .inl (fun j => nI ((fun _ => 0) j)))), (q23, .inl (cs.1, 60, .inl (fun j => nI ((fun _ => 0) j))))] := hD
  refine va_putF (D := D) (ci := 3) (v := .ref q23) (ty := .array .int) (C := R_K) (T := F_K) (N := 7) hx hb ht j_K t_K t_K_ok n_K hown hK.1 hP hD hS 0 rfl rfl 2 (by decide) (ht _ q_106) (fun _ h9 => h9) rfl hnm rfl (by decide +kernel) rfl rfl (Nat.le_of_ble_eq_true rfl) d_K_init_25 (fun H locs hP hD hS => ?_)
  have hP : va_P D classes [(h0, .inr (3, [.ref q7, .ref q15, .ref q23, .null, .null, .null, .int (nI 0)])), (q7, .inl (cs.1, 60, .inl (fun j => nI ((fun _ => 0) j)))), (q15, .inl (cs.1, 60, .inl (fun j => nI ((fun _ => 0) j)))), (q23, .inl (cs.1, 60, .inl (fun j => nI ((fun _ => 0) j))))] H := hP
  have hD : va_D A [(h0, .inr (3, [.ref q7, .ref q15, .ref q23, .null, .null, .null, .int (nI 0)])), (q7, .inl (cs.1, 60, .inl (fun j => nI ((fun _ => 0) j)))), (q15, .inl (cs.1, 60, .inl (fun j => nI ((fun _ => 0) j)))), (q23, .inl (cs.1, 60, .inl (fun j => nI ((fun _ => 0) j))))] := hD
  refine lv_aload_n hx hb d_K_init_28 rfl (lv_at hl 0 rfl) ?_
  refine lv_bipush (v := nI 60) hx hb d_K_init_29 (by decide) ?_
  refine rr_newI (N := 60) (fun j => nI ((fun _ => 0) j)) (fun _ => rfl) hx hb (ht _ q_45) hK hP hD hS hA (Nat.le_of_ble_eq_true rfl) (Nat.le_of_ble_eq_true rfl) (Nat.le_of_ble_eq_true rfl) d_K_init_31 (fun q31 H hP hD hS => ?_)
  have hP : va_P D classes [(h0, .inr (3, [.ref q7, .ref q15, .ref q23, .null, .null, .null, .int (nI 0)])), (q7, .inl (cs.1, 60, .inl (fun j => nI ((fun _ => 0) j)))), (q15, .inl (cs.1, 60, .inl (fun j => nI ((fun _ => 0) j)))), (q23, .inl (cs.1, 60, .inl (fun j => nI ((fun _ => 0) j)))), (q31, .inl (cs.1, 60, .inl (fun j => nI ((fun _ => 0) j))))] H := hP
  have hD : va_D A [(h0, .inr (3, [.ref q7, .ref q15, .ref q23, .null, .null, .null, .int (nI 0)])), (q7, .inl (cs.1, 60, .inl (fun j => nI ((fun _ => 0) j)))), (q15, .inl (cs.1, 60, .inl (fun j => nI ((fun _ => 0) j)))), (q23, .inl (cs.1, 60, .inl (fun j => nI ((fun _ => 0) j)))), (q31, .inl (cs.1, 60, .inl (fun j => nI ((fun _ => 0) j))))] := hD
  refine va_putF (D := D) (ci := 3) (v := .ref q31) (ty := .array .int) (C := R_K) (T := F_K) (N := 7) hx hb ht j_K t_K t_K_ok n_K hown hK.1 hP hD hS 0 rfl rfl 3 (by decide) (ht _ q_107) (fun _ h9 => h9) rfl hnm rfl (by decide +kernel) rfl rfl (Nat.le_of_ble_eq_true rfl) d_K_init_33 (fun H locs hP hD hS => ?_)
  have hP : va_P D classes [(h0, .inr (3, [.ref q7, .ref q15, .ref q23, .ref q31, .null, .null, .int (nI 0)])), (q7, .inl (cs.1, 60, .inl (fun j => nI ((fun _ => 0) j)))), (q15, .inl (cs.1, 60, .inl (fun j => nI ((fun _ => 0) j)))), (q23, .inl (cs.1, 60, .inl (fun j => nI ((fun _ => 0) j)))), (q31, .inl (cs.1, 60, .inl (fun j => nI ((fun _ => 0) j))))] H := hP
  have hD : va_D A [(h0, .inr (3, [.ref q7, .ref q15, .ref q23, .ref q31, .null, .null, .int (nI 0)])), (q7, .inl (cs.1, 60, .inl (fun j => nI ((fun _ => 0) j)))), (q15, .inl (cs.1, 60, .inl (fun j => nI ((fun _ => 0) j)))), (q23, .inl (cs.1, 60, .inl (fun j => nI ((fun _ => 0) j)))), (q31, .inl (cs.1, 60, .inl (fun j => nI ((fun _ => 0) j))))] := hD
  refine lv_aload_n hx hb d_K_init_36 rfl (lv_at hl 0 rfl) ?_
  refine lv_bipush (v := nI 60) hx hb d_K_init_37 (by decide) ?_
  refine rr_newI (N := 60) (fun j => mI ((fun _ => 1) j)) (fun _ => mI_1) hx hb (ht _ q_45) hK hP hD hS hA (Nat.le_of_ble_eq_true rfl) (Nat.le_of_ble_eq_true rfl) (Nat.le_of_ble_eq_true rfl) d_K_init_39 (fun q39 H hP hD hS => ?_)
  have hP : va_P D classes [(h0, .inr (3, [.ref q7, .ref q15, .ref q23, .ref q31, .null, .null, .int (nI 0)])), (q7, .inl (cs.1, 60, .inl (fun j => nI ((fun _ => 0) j)))), (q15, .inl (cs.1, 60, .inl (fun j => nI ((fun _ => 0) j)))), (q23, .inl (cs.1, 60, .inl (fun j => nI ((fun _ => 0) j)))), (q31, .inl (cs.1, 60, .inl (fun j => nI ((fun _ => 0) j)))), (q39, .inl (cs.1, 60, .inl (fun j => mI ((fun _ => 1) j))))] H := hP
  have hD : va_D A [(h0, .inr (3, [.ref q7, .ref q15, .ref q23, .ref q31, .null, .null, .int (nI 0)])), (q7, .inl (cs.1, 60, .inl (fun j => nI ((fun _ => 0) j)))), (q15, .inl (cs.1, 60, .inl (fun j => nI ((fun _ => 0) j)))), (q23, .inl (cs.1, 60, .inl (fun j => nI ((fun _ => 0) j)))), (q31, .inl (cs.1, 60, .inl (fun j => nI ((fun _ => 0) j)))), (q39, .inl (cs.1, 60, .inl (fun j => mI ((fun _ => 1) j))))] := hD
  refine va_putF (D := D) (ci := 3) (v := .ref q39) (ty := .array .int) (C := R_K) (T := F_K) (N := 7) hx hb ht j_K t_K t_K_ok n_K hown hK.1 hP hD hS 0 rfl rfl 4 (by decide) (ht _ q_108) (fun _ h9 => h9) rfl hnm rfl (by decide +kernel) rfl rfl (Nat.le_of_ble_eq_true rfl) d_K_init_41 (fun H locs hP hD hS => ?_)
  have hP : va_P D classes [(h0, .inr (3, [.ref q7, .ref q15, .ref q23, .ref q31, .ref q39, .null, .int (nI 0)])), (q7, .inl (cs.1, 60, .inl (fun j => nI ((fun _ => 0) j)))), (q15, .inl (cs.1, 60, .inl (fun j => nI ((fun _ => 0) j)))), (q23, .inl (cs.1, 60, .inl (fun j => nI ((fun _ => 0) j)))), (q31, .inl (cs.1, 60, .inl (fun j => nI ((fun _ => 0) j)))), (q39, .inl (cs.1, 60, .inl (fun j => mI ((fun _ => 1) j))))] H := hP
  have hD : va_D A [(h0, .inr (3, [.ref q7, .ref q15, .ref q23, .ref q31, .ref q39, .null, .int (nI 0)])), (q7, .inl (cs.1, 60, .inl (fun j => nI ((fun _ => 0) j)))), (q15, .inl (cs.1, 60, .inl (fun j => nI ((fun _ => 0) j)))), (q23, .inl (cs.1, 60, .inl (fun j => nI ((fun _ => 0) j)))), (q31, .inl (cs.1, 60, .inl (fun j => nI ((fun _ => 0) j)))), (q39, .inl (cs.1, 60, .inl (fun j => mI ((fun _ => 1) j))))] := hD
  refine lv_aload_n hx hb d_K_init_44 rfl (lv_at hl 0 rfl) ?_
  refine lv_bipush (v := nI 60) hx hb d_K_init_45 (by decide) ?_
  refine rr_newI (N := 60) (fun j => nI ((fun _ => 0) j)) (fun _ => rfl) hx hb (ht _ q_45) hK hP hD hS hA (Nat.le_of_ble_eq_true rfl) (Nat.le_of_ble_eq_true rfl) (Nat.le_of_ble_eq_true rfl) d_K_init_47 (fun q47 H hP hD hS => ?_)
  have hP : va_P D classes [(h0, .inr (3, [.ref q7, .ref q15, .ref q23, .ref q31, .ref q39, .null, .int (nI 0)])), (q7, .inl (cs.1, 60, .inl (fun j => nI ((fun _ => 0) j)))), (q15, .inl (cs.1, 60, .inl (fun j => nI ((fun _ => 0) j)))), (q23, .inl (cs.1, 60, .inl (fun j => nI ((fun _ => 0) j)))), (q31, .inl (cs.1, 60, .inl (fun j => nI ((fun _ => 0) j)))), (q39, .inl (cs.1, 60, .inl (fun j => mI ((fun _ => 1) j)))), (q47, .inl (cs.1, 60, .inl (fun j => nI ((fun _ => 0) j))))] H := hP
  have hD : va_D A [(h0, .inr (3, [.ref q7, .ref q15, .ref q23, .ref q31, .ref q39, .null, .int (nI 0)])), (q7, .inl (cs.1, 60, .inl (fun j => nI ((fun _ => 0) j)))), (q15, .inl (cs.1, 60, .inl (fun j => nI ((fun _ => 0) j)))), (q23, .inl (cs.1, 60, .inl (fun j => nI ((fun _ => 0) j)))), (q31, .inl (cs.1, 60, .inl (fun j => nI ((fun _ => 0) j)))), (q39, .inl (cs.1, 60, .inl (fun j => mI ((fun _ => 1) j)))), (q47, .inl (cs.1, 60, .inl (fun j => nI ((fun _ => 0) j))))] := hD
  refine va_putF (D := D) (ci := 3) (v := .ref q47) (ty := .array .int) (C := R_K) (T := F_K) (N := 7) hx hb ht j_K t_K t_K_ok n_K hown hK.1 hP hD hS 0 rfl rfl 5 (by decide) (ht _ q_110) (fun _ h9 => h9) rfl hnm rfl (by decide +kernel) rfl rfl (Nat.le_of_ble_eq_true rfl) d_K_init_49 (fun H locs hP hD hS => ?_)
  have hP : va_P D classes [(h0, .inr (3, [.ref q7, .ref q15, .ref q23, .ref q31, .ref q39, .ref q47, .int (nI 0)])), (q7, .inl (cs.1, 60, .inl (fun j => nI ((fun _ => 0) j)))), (q15, .inl (cs.1, 60, .inl (fun j => nI ((fun _ => 0) j)))), (q23, .inl (cs.1, 60, .inl (fun j => nI ((fun _ => 0) j)))), (q31, .inl (cs.1, 60, .inl (fun j => nI ((fun _ => 0) j)))), (q39, .inl (cs.1, 60, .inl (fun j => mI ((fun _ => 1) j)))), (q47, .inl (cs.1, 60, .inl (fun j => nI ((fun _ => 0) j))))] H := hP
  have hD : va_D A [(h0, .inr (3, [.ref q7, .ref q15, .ref q23, .ref q31, .ref q39, .ref q47, .int (nI 0)])), (q7, .inl (cs.1, 60, .inl (fun j => nI ((fun _ => 0) j)))), (q15, .inl (cs.1, 60, .inl (fun j => nI ((fun _ => 0) j)))), (q23, .inl (cs.1, 60, .inl (fun j => nI ((fun _ => 0) j)))), (q31, .inl (cs.1, 60, .inl (fun j => nI ((fun _ => 0) j)))), (q39, .inl (cs.1, 60, .inl (fun j => mI ((fun _ => 1) j)))), (q47, .inl (cs.1, 60, .inl (fun j => nI ((fun _ => 0) j))))] := hD
  refine lv_aload_n hx hb d_K_init_52 rfl (lv_at hl 0 rfl) ?_
  refine lv_iconst (v := nI 0) hx hb d_K_init_53 (by decide) ?_
  refine va_put (D := D) (ci := 3) (v := .int (nI 0)) (ty := .int) (C := R_K) (T := F_K) (N := 7) hx hb ht j_K t_K t_K_ok n_K hown hK.1 hP hD hS 0 rfl rfl 6 (by decide) (ht _ q_112) (fun _ h9 => h9) rfl (by decide +kernel) rfl rfl (Nat.le_of_ble_eq_true rfl) d_K_init_54 (fun H locs hP hD hS => ?_)
  have hP : va_P D classes [(h0, .inr (3, [.ref q7, .ref q15, .ref q23, .ref q31, .ref q39, .ref q47, .int (nI 0)])), (q7, .inl (cs.1, 60, .inl (fun j => nI ((fun _ => 0) j)))), (q15, .inl (cs.1, 60, .inl (fun j => nI ((fun _ => 0) j)))), (q23, .inl (cs.1, 60, .inl (fun j => nI ((fun _ => 0) j)))), (q31, .inl (cs.1, 60, .inl (fun j => nI ((fun _ => 0) j)))), (q39, .inl (cs.1, 60, .inl (fun j => mI ((fun _ => 1) j)))), (q47, .inl (cs.1, 60, .inl (fun j => nI ((fun _ => 0) j))))] H := hP
  have hD : va_D A [(h0, .inr (3, [.ref q7, .ref q15, .ref q23, .ref q31, .ref q39, .ref q47, .int (nI 0)])), (q7, .inl (cs.1, 60, .inl (fun j => nI ((fun _ => 0) j)))), (q15, .inl (cs.1, 60, .inl (fun j => nI ((fun _ => 0) j)))), (q23, .inl (cs.1, 60, .inl (fun j => nI ((fun _ => 0) j)))), (q31, .inl (cs.1, 60, .inl (fun j => nI ((fun _ => 0) j)))), (q39, .inl (cs.1, 60, .inl (fun j => mI ((fun _ => 1) j)))), (q47, .inl (cs.1, 60, .inl (fun j => nI ((fun _ => 0) j))))] := hD
  exact rr_mvret (adF [h0, q7, q15, q23, q31, q39, q47]) hx hb hr hlk hP hD hS trivial d_K_init_57
theorem k_V_init : rr_CI y_V_init b_V_init 1 0 := ⟨rfl, q_18, q_1, q_19, by decide, by decide, by decide +kernel⟩
set_option maxHeartbeats 4000000 in
set_option maxRecDepth 100000 in
/-- RopeVotes() -/
theorem c_V_init (l : Launch) (D : va_G) (cs : rr_C3) (h0 : Nat)  (sz : Nat) : MV l y_V_init b_V_init 1 2 33 23 1568 D cs [(h0, .inr (5, [.null, .null, .null, .null, .null, .null, .int (nI 0), .int (nI 0), .int (nI 0)]))] sz [.ref h0] (fun (u : Nat → Nat) => u 0 = h0) (fun u : Nat → Nat => [((u 0), .inr (5, [.ref (u 1), .ref (u 2), .ref (u 3), .ref (u 4), .ref (u 5), .ref (u 6), .int (nI (mu0 0 0)), .int (nI (mu0 1 0)), .int (nI (mu0 2 0))])), ((u 1), .inr (1, [.ref (u 7), .ref (u 8), .ref (u 9), .int (nI (mu0 3 0))])), ((u 2), .inr (4, [.ref (u 10), .ref (u 11), .ref (u 12), .ref (u 13)])), ((u 3), .inr (2, [.ref (u 14), .ref (u 15)])), ((u 4), .inr (0, [.ref (u 16), .ref (u 17)])), ((u 5), .inr (3, [.ref (u 18), .ref (u 19), .ref (u 20), .ref (u 21), .ref (u 22), .ref (u 23), .int (nI (mu0 15 0))])), ((u 6), .inl (cs.1, 1001, .inl (fun j => nI ((mu0 14) j)))), ((u 7), .inl (cs.1, 16, .inl (fun j => nI ((ro0 0) j)))), ((u 8), .inl (cs.1, 16, .inl (fun j => nI ((mu0 4) j)))), ((u 9), .inl (cs.2.1, 16, .inl (fun j => nI ((ro0 1) j)))), ((u 10), .inl (cs.1, 7, .inl (fun j => nI ((mu0 6) j)))), ((u 11), .inl (cs.1, 7, .inl (fun j => nI ((mu0 7) j)))), ((u 12), .inl (cs.1, 7, .inl (fun j => nI ((mu0 8) j)))), ((u 13), .inl (cs.2.1, 7, .inl (fun j => nI ((mu0 9) j)))), ((u 14), .inl (cs.1, 49, .inl (fun j => nI ((ro0 2) j)))), ((u 15), .inl (cs.1, 49, .inl (fun j => nI ((ro0 3) j)))), ((u 16), .inl (cs.1, 7, .inl (fun j => mI ((ro0 4) j)))), ((u 17), .inl (cs.1, 7, .inl (fun j => zI ((mu0 12) j)))), ((u 18), .inl (cs.1, 60, .inl (fun j => nI ((mu0 16) j)))), ((u 19), .inl (cs.1, 60, .inl (fun j => nI ((mu0 17) j)))), ((u 20), .inl (cs.1, 60, .inl (fun j => nI ((mu0 18) j)))), ((u 21), .inl (cs.1, 60, .inl (fun j => nI ((mu0 19) j)))), ((u 22), .inl (cs.1, 60, .inl (fun j => mI ((ro0 5) j)))), ((u 23), .inl (cs.1, 60, .inl (fun j => nI ((mu0 21) j))))]) := by
  refine MV.of (by decide) (Nat.le_of_ble_eq_true rfl) ?_
  intro p e s m args below meth c A S hr hlk hnm hK hP hD hA hS ls hl
  obtain ⟨hx, hb, hml, hown, ht⟩ := id S
  have hl : lv_has ls 1 [(0, .ref h0)] := hl
  have hS : va_S A s.heap s.heap [] := hS
  refine lv_aload_n hx hb d_V_init_0 rfl (lv_at hl 0 rfl) ?_
  refine W.objInit hx hb hown (ht _ q_20) (ht _ q_21) (ht _ q_22) rfl (by rw [hml]; exact hl.1) rfl d_V_init_1 (Nat.le_of_ble_eq_true rfl) (Nat.le_of_ble_eq_true rfl) ?_
  refine W.eq (g2 := F0 m 4 ls []) rfl ?_
  refine lv_aload_n hx hb d_V_init_4 rfl (lv_at hl 0 rfl) ?_
  refine va_new (ci := 1) (fs := [.null, .null, .null, .int (nI 0)]) (C := R_L) (T := F_L) (N := 4) hx hb ht j_L t_L t_L_ok hown (ht _ q_23) (ht _ q_24) (ht _ q_2) hK.1 hP hD hS hA rfl (fun j hj => by rcases (show j = 0 ∨ j = 1 ∨ j = 2 ∨ j = 3 by omega) with rfl | rfl | rfl | rfl <;> rfl) (Nat.le_of_ble_eq_true rfl) (Nat.le_of_ble_eq_true rfl) d_V_init_5 (fun q5 H hP hD hS => ?_)
  have hP : va_P D classes [(h0, .inr (5, [.null, .null, .null, .null, .null, .null, .int (nI 0), .int (nI 0), .int (nI 0)])), (q5, .inr (1, [.null, .null, .null, .int (nI 0)]))] H := hP
  have hD : va_D A [(h0, .inr (5, [.null, .null, .null, .null, .null, .null, .int (nI 0), .int (nI 0), .int (nI 0)])), (q5, .inr (1, [.null, .null, .null, .int (nI 0)]))] := hD
  refine lv_dup hx hb d_V_init_8 rfl ?_
  refine rr_cIN (As := []) (rest := [.ref q5, .ref h0]) (idx := 9) (host := "RopeVotes") (wr := [(h0, .inr (5, [.null, .null, .null, .null, .null, .null, .int (nI 0), .int (nI 0), .int (nI 0)]))]) S hK hP hD hS hA (c_L_init l D cs q5  H.size) k_L_init [1] [0] rfl (by decide) rfl (by decide) (by decide) (List.mem_of_getElem? (i := 0) rfl) ⟨Nat.le_of_ble_eq_true rfl, Nat.le_of_ble_eq_true rfl⟩ ⟨Nat.le_of_ble_eq_true rfl, Nat.le_of_ble_eq_true rfl⟩ hl (Nat.le_of_ble_eq_true rfl) rfl d_V_init_9 (fun u_1 H locs hr9 hP hD hS => ?_)
  have hP : va_P D classes [(h0, .inr (5, [.null, .null, .null, .null, .null, .null, .int (nI 0), .int (nI 0), .int (nI 0)])), (q5, .inr (1, [.ref (u_1 1), .ref (u_1 2), .ref (u_1 3), .int (nI 0)])), ((u_1 1), .inl (cs.1, 16, .inl (fun j => nI ((fun _ => 0) j)))), ((u_1 2), .inl (cs.1, 16, .inl (fun j => nI ((fun _ => 0) j)))), ((u_1 3), .inl (cs.2.1, 16, .inl (fun j => nI ((fun _ => 0) j))))] H := hP
  have hD : va_D A [(h0, .inr (5, [.null, .null, .null, .null, .null, .null, .int (nI 0), .int (nI 0), .int (nI 0)])), (q5, .inr (1, [.ref (u_1 1), .ref (u_1 2), .ref (u_1 3), .int (nI 0)])), ((u_1 1), .inl (cs.1, 16, .inl (fun j => nI ((fun _ => 0) j)))), ((u_1 2), .inl (cs.1, 16, .inl (fun j => nI ((fun _ => 0) j)))), ((u_1 3), .inl (cs.2.1, 16, .inl (fun j => nI ((fun _ => 0) j))))] := hD
  refine va_putF (D := D) (ci := 5) (v := .ref q5) (ty := .object "RopeVotes$Loop") (C := R_V) (T := F_V) (N := 9) hx hb ht j_V t_V t_V_ok n_V hown hK.1 hP hD hS 0 rfl rfl 0 (by decide) (ht _ q_128) (fun _ h9 => h9) rfl hnm rfl (by decide +kernel) rfl rfl (Nat.le_of_ble_eq_true rfl) d_V_init_12 (fun H locs hP hD hS => ?_)
  have hP : va_P D classes [(h0, .inr (5, [.ref q5, .null, .null, .null, .null, .null, .int (nI 0), .int (nI 0), .int (nI 0)])), (q5, .inr (1, [.ref (u_1 1), .ref (u_1 2), .ref (u_1 3), .int (nI 0)])), ((u_1 1), .inl (cs.1, 16, .inl (fun j => nI ((fun _ => 0) j)))), ((u_1 2), .inl (cs.1, 16, .inl (fun j => nI ((fun _ => 0) j)))), ((u_1 3), .inl (cs.2.1, 16, .inl (fun j => nI ((fun _ => 0) j))))] H := hP
  have hD : va_D A [(h0, .inr (5, [.ref q5, .null, .null, .null, .null, .null, .int (nI 0), .int (nI 0), .int (nI 0)])), (q5, .inr (1, [.ref (u_1 1), .ref (u_1 2), .ref (u_1 3), .int (nI 0)])), ((u_1 1), .inl (cs.1, 16, .inl (fun j => nI ((fun _ => 0) j)))), ((u_1 2), .inl (cs.1, 16, .inl (fun j => nI ((fun _ => 0) j)))), ((u_1 3), .inl (cs.2.1, 16, .inl (fun j => nI ((fun _ => 0) j))))] := hD
  refine lv_aload_n hx hb d_V_init_15 rfl (lv_at hl 0 rfl) ?_
  refine va_new (ci := 4) (fs := [.null, .null, .null, .null]) (C := R_W) (T := F_W) (N := 4) hx hb ht j_W t_W t_W_ok hown (ht _ q_47) (ht _ q_48) (ht _ q_3) hK.1 hP hD hS hA rfl (fun j hj => by rcases (show j = 0 ∨ j = 1 ∨ j = 2 ∨ j = 3 by omega) with rfl | rfl | rfl | rfl <;> rfl) (Nat.le_of_ble_eq_true rfl) (Nat.le_of_ble_eq_true rfl) d_V_init_16 (fun q16 H hP hD hS => ?_)
  have hP : va_P D classes [(h0, .inr (5, [.ref q5, .null, .null, .null, .null, .null, .int (nI 0), .int (nI 0), .int (nI 0)])), (q5, .inr (1, [.ref (u_1 1), .ref (u_1 2), .ref (u_1 3), .int (nI 0)])), ((u_1 1), .inl (cs.1, 16, .inl (fun j => nI ((fun _ => 0) j)))), ((u_1 2), .inl (cs.1, 16, .inl (fun j => nI ((fun _ => 0) j)))), ((u_1 3), .inl (cs.2.1, 16, .inl (fun j => nI ((fun _ => 0) j)))), (q16, .inr (4, [.null, .null, .null, .null]))] H := hP
  have hD : va_D A [(h0, .inr (5, [.ref q5, .null, .null, .null, .null, .null, .int (nI 0), .int (nI 0), .int (nI 0)])), (q5, .inr (1, [.ref (u_1 1), .ref (u_1 2), .ref (u_1 3), .int (nI 0)])), ((u_1 1), .inl (cs.1, 16, .inl (fun j => nI ((fun _ => 0) j)))), ((u_1 2), .inl (cs.1, 16, .inl (fun j => nI ((fun _ => 0) j)))), ((u_1 3), .inl (cs.2.1, 16, .inl (fun j => nI ((fun _ => 0) j)))), (q16, .inr (4, [.null, .null, .null, .null]))] := hD
  refine lv_dup hx hb d_V_init_19 rfl ?_
  refine rr_cI (As := []) (rest := [.ref q16, .ref h0]) (idx := 18) (wr := [(h0, .inr (5, [.ref q5, .null, .null, .null, .null, .null, .int (nI 0), .int (nI 0), .int (nI 0)])), (q5, .inr (1, [.ref (u_1 1), .ref (u_1 2), .ref (u_1 3), .int (nI 0)])), ((u_1 1), .inl (cs.1, 16, .inl (fun j => nI ((fun _ => 0) j)))), ((u_1 2), .inl (cs.1, 16, .inl (fun j => nI ((fun _ => 0) j)))), ((u_1 3), .inl (cs.2.1, 16, .inl (fun j => nI ((fun _ => 0) j))))]) S hK hP hD hS hA (c_W_init l D cs q16  H.size) k_W_init [5] [0, 1, 2, 3, 4] rfl (by decide) rfl (by decide) (by decide) q_49 ⟨Nat.le_of_ble_eq_true rfl, Nat.le_of_ble_eq_true rfl⟩ ⟨Nat.le_of_ble_eq_true rfl, Nat.le_of_ble_eq_true rfl⟩ hl (Nat.le_of_ble_eq_true rfl) rfl d_V_init_20 (fun u_2 H locs hr9 hP hD hS => ?_)
  have hP : va_P D classes [(h0, .inr (5, [.ref q5, .null, .null, .null, .null, .null, .int (nI 0), .int (nI 0), .int (nI 0)])), (q5, .inr (1, [.ref (u_1 1), .ref (u_1 2), .ref (u_1 3), .int (nI 0)])), ((u_1 1), .inl (cs.1, 16, .inl (fun j => nI ((fun _ => 0) j)))), ((u_1 2), .inl (cs.1, 16, .inl (fun j => nI ((fun _ => 0) j)))), ((u_1 3), .inl (cs.2.1, 16, .inl (fun j => nI ((fun _ => 0) j)))), (q16, .inr (4, [.ref (u_2 1), .ref (u_2 2), .ref (u_2 3), .ref (u_2 4)])), ((u_2 1), .inl (cs.1, 7, .inl (fun j => nI ((fun _ => 0) j)))), ((u_2 2), .inl (cs.1, 7, .inl (fun j => nI ((ini 40 0 7) j)))), ((u_2 3), .inl (cs.1, 7, .inl (fun j => nI ((ini 70 0 7) j)))), ((u_2 4), .inl (cs.2.1, 7, .inl (fun j => nI ((fun _ => 0) j))))] H := hP
  have hD : va_D A [(h0, .inr (5, [.ref q5, .null, .null, .null, .null, .null, .int (nI 0), .int (nI 0), .int (nI 0)])), (q5, .inr (1, [.ref (u_1 1), .ref (u_1 2), .ref (u_1 3), .int (nI 0)])), ((u_1 1), .inl (cs.1, 16, .inl (fun j => nI ((fun _ => 0) j)))), ((u_1 2), .inl (cs.1, 16, .inl (fun j => nI ((fun _ => 0) j)))), ((u_1 3), .inl (cs.2.1, 16, .inl (fun j => nI ((fun _ => 0) j)))), (q16, .inr (4, [.ref (u_2 1), .ref (u_2 2), .ref (u_2 3), .ref (u_2 4)])), ((u_2 1), .inl (cs.1, 7, .inl (fun j => nI ((fun _ => 0) j)))), ((u_2 2), .inl (cs.1, 7, .inl (fun j => nI ((ini 40 0 7) j)))), ((u_2 3), .inl (cs.1, 7, .inl (fun j => nI ((ini 70 0 7) j)))), ((u_2 4), .inl (cs.2.1, 7, .inl (fun j => nI ((fun _ => 0) j))))] := hD
  refine va_putF (D := D) (ci := 5) (v := .ref q16) (ty := .object "RopeVotes$Towers") (C := R_V) (T := F_V) (N := 9) hx hb ht j_V t_V t_V_ok n_V hown hK.1 hP hD hS 0 rfl rfl 1 (by decide) (ht _ q_129) (fun _ h9 => h9) rfl hnm rfl (by decide +kernel) rfl rfl (Nat.le_of_ble_eq_true rfl) d_V_init_23 (fun H locs hP hD hS => ?_)
  have hP : va_P D classes [(h0, .inr (5, [.ref q5, .ref q16, .null, .null, .null, .null, .int (nI 0), .int (nI 0), .int (nI 0)])), (q5, .inr (1, [.ref (u_1 1), .ref (u_1 2), .ref (u_1 3), .int (nI 0)])), ((u_1 1), .inl (cs.1, 16, .inl (fun j => nI ((fun _ => 0) j)))), ((u_1 2), .inl (cs.1, 16, .inl (fun j => nI ((fun _ => 0) j)))), ((u_1 3), .inl (cs.2.1, 16, .inl (fun j => nI ((fun _ => 0) j)))), (q16, .inr (4, [.ref (u_2 1), .ref (u_2 2), .ref (u_2 3), .ref (u_2 4)])), ((u_2 1), .inl (cs.1, 7, .inl (fun j => nI ((fun _ => 0) j)))), ((u_2 2), .inl (cs.1, 7, .inl (fun j => nI ((ini 40 0 7) j)))), ((u_2 3), .inl (cs.1, 7, .inl (fun j => nI ((ini 70 0 7) j)))), ((u_2 4), .inl (cs.2.1, 7, .inl (fun j => nI ((fun _ => 0) j))))] H := hP
  have hD : va_D A [(h0, .inr (5, [.ref q5, .ref q16, .null, .null, .null, .null, .int (nI 0), .int (nI 0), .int (nI 0)])), (q5, .inr (1, [.ref (u_1 1), .ref (u_1 2), .ref (u_1 3), .int (nI 0)])), ((u_1 1), .inl (cs.1, 16, .inl (fun j => nI ((fun _ => 0) j)))), ((u_1 2), .inl (cs.1, 16, .inl (fun j => nI ((fun _ => 0) j)))), ((u_1 3), .inl (cs.2.1, 16, .inl (fun j => nI ((fun _ => 0) j)))), (q16, .inr (4, [.ref (u_2 1), .ref (u_2 2), .ref (u_2 3), .ref (u_2 4)])), ((u_2 1), .inl (cs.1, 7, .inl (fun j => nI ((fun _ => 0) j)))), ((u_2 2), .inl (cs.1, 7, .inl (fun j => nI ((ini 40 0 7) j)))), ((u_2 3), .inl (cs.1, 7, .inl (fun j => nI ((ini 70 0 7) j)))), ((u_2 4), .inl (cs.2.1, 7, .inl (fun j => nI ((fun _ => 0) j))))] := hD
  refine lv_aload_n hx hb d_V_init_26 rfl (lv_at hl 0 rfl) ?_
  refine va_new (ci := 2) (fs := [.null, .null]) (C := R_P) (T := F_P) (N := 2) hx hb ht j_P t_P t_P_ok hown (ht _ q_70) (ht _ q_71) (ht _ q_4) hK.1 hP hD hS hA rfl (fun j hj => by rcases (show j = 0 ∨ j = 1 by omega) with rfl | rfl <;> rfl) (Nat.le_of_ble_eq_true rfl) (Nat.le_of_ble_eq_true rfl) d_V_init_27 (fun q27 H hP hD hS => ?_)
  have hP : va_P D classes [(h0, .inr (5, [.ref q5, .ref q16, .null, .null, .null, .null, .int (nI 0), .int (nI 0), .int (nI 0)])), (q5, .inr (1, [.ref (u_1 1), .ref (u_1 2), .ref (u_1 3), .int (nI 0)])), ((u_1 1), .inl (cs.1, 16, .inl (fun j => nI ((fun _ => 0) j)))), ((u_1 2), .inl (cs.1, 16, .inl (fun j => nI ((fun _ => 0) j)))), ((u_1 3), .inl (cs.2.1, 16, .inl (fun j => nI ((fun _ => 0) j)))), (q16, .inr (4, [.ref (u_2 1), .ref (u_2 2), .ref (u_2 3), .ref (u_2 4)])), ((u_2 1), .inl (cs.1, 7, .inl (fun j => nI ((fun _ => 0) j)))), ((u_2 2), .inl (cs.1, 7, .inl (fun j => nI ((ini 40 0 7) j)))), ((u_2 3), .inl (cs.1, 7, .inl (fun j => nI ((ini 70 0 7) j)))), ((u_2 4), .inl (cs.2.1, 7, .inl (fun j => nI ((fun _ => 0) j)))), (q27, .inr (2, [.null, .null]))] H := hP
  have hD : va_D A [(h0, .inr (5, [.ref q5, .ref q16, .null, .null, .null, .null, .int (nI 0), .int (nI 0), .int (nI 0)])), (q5, .inr (1, [.ref (u_1 1), .ref (u_1 2), .ref (u_1 3), .int (nI 0)])), ((u_1 1), .inl (cs.1, 16, .inl (fun j => nI ((fun _ => 0) j)))), ((u_1 2), .inl (cs.1, 16, .inl (fun j => nI ((fun _ => 0) j)))), ((u_1 3), .inl (cs.2.1, 16, .inl (fun j => nI ((fun _ => 0) j)))), (q16, .inr (4, [.ref (u_2 1), .ref (u_2 2), .ref (u_2 3), .ref (u_2 4)])), ((u_2 1), .inl (cs.1, 7, .inl (fun j => nI ((fun _ => 0) j)))), ((u_2 2), .inl (cs.1, 7, .inl (fun j => nI ((ini 40 0 7) j)))), ((u_2 3), .inl (cs.1, 7, .inl (fun j => nI ((ini 70 0 7) j)))), ((u_2 4), .inl (cs.2.1, 7, .inl (fun j => nI ((fun _ => 0) j)))), (q27, .inr (2, [.null, .null]))] := hD
  refine lv_dup hx hb d_V_init_30 rfl ?_
  refine rr_cIN (As := []) (rest := [.ref q27, .ref h0]) (idx := 25) (host := "RopeVotes") (wr := [(h0, .inr (5, [.ref q5, .ref q16, .null, .null, .null, .null, .int (nI 0), .int (nI 0), .int (nI 0)])), (q5, .inr (1, [.ref (u_1 1), .ref (u_1 2), .ref (u_1 3), .int (nI 0)])), ((u_1 1), .inl (cs.1, 16, .inl (fun j => nI ((fun _ => 0) j)))), ((u_1 2), .inl (cs.1, 16, .inl (fun j => nI ((fun _ => 0) j)))), ((u_1 3), .inl (cs.2.1, 16, .inl (fun j => nI ((fun _ => 0) j)))), (q16, .inr (4, [.ref (u_2 1), .ref (u_2 2), .ref (u_2 3), .ref (u_2 4)])), ((u_2 1), .inl (cs.1, 7, .inl (fun j => nI ((fun _ => 0) j)))), ((u_2 2), .inl (cs.1, 7, .inl (fun j => nI ((ini 40 0 7) j)))), ((u_2 3), .inl (cs.1, 7, .inl (fun j => nI ((ini 70 0 7) j)))), ((u_2 4), .inl (cs.2.1, 7, .inl (fun j => nI ((fun _ => 0) j))))]) S hK hP hD hS hA (c_P_init l D cs q27  H.size) k_P_init [10] [0, 1, 2, 3, 4, 5, 6, 7, 8, 9] rfl (by decide) rfl (by decide) (by decide) (List.mem_of_getElem? (i := 1) rfl) ⟨Nat.le_of_ble_eq_true rfl, Nat.le_of_ble_eq_true rfl⟩ ⟨Nat.le_of_ble_eq_true rfl, Nat.le_of_ble_eq_true rfl⟩ hl (Nat.le_of_ble_eq_true rfl) rfl d_V_init_31 (fun u_3 H locs hr9 hP hD hS => ?_)
  have hP : va_P D classes [(h0, .inr (5, [.ref q5, .ref q16, .null, .null, .null, .null, .int (nI 0), .int (nI 0), .int (nI 0)])), (q5, .inr (1, [.ref (u_1 1), .ref (u_1 2), .ref (u_1 3), .int (nI 0)])), ((u_1 1), .inl (cs.1, 16, .inl (fun j => nI ((fun _ => 0) j)))), ((u_1 2), .inl (cs.1, 16, .inl (fun j => nI ((fun _ => 0) j)))), ((u_1 3), .inl (cs.2.1, 16, .inl (fun j => nI ((fun _ => 0) j)))), (q16, .inr (4, [.ref (u_2 1), .ref (u_2 2), .ref (u_2 3), .ref (u_2 4)])), ((u_2 1), .inl (cs.1, 7, .inl (fun j => nI ((fun _ => 0) j)))), ((u_2 2), .inl (cs.1, 7, .inl (fun j => nI ((ini 40 0 7) j)))), ((u_2 3), .inl (cs.1, 7, .inl (fun j => nI ((ini 70 0 7) j)))), ((u_2 4), .inl (cs.2.1, 7, .inl (fun j => nI ((fun _ => 0) j)))), (q27, .inr (2, [.ref (u_3 1), .ref (u_3 2)])), ((u_3 1), .inl (cs.1, 49, .inl (fun j => nI ((fun _ => 0) j)))), ((u_3 2), .inl (cs.1, 49, .inl (fun j => nI ((fun _ => 0) j))))] H := hP
  have hD : va_D A [(h0, .inr (5, [.ref q5, .ref q16, .null, .null, .null, .null, .int (nI 0), .int (nI 0), .int (nI 0)])), (q5, .inr (1, [.ref (u_1 1), .ref (u_1 2), .ref (u_1 3), .int (nI 0)])), ((u_1 1), .inl (cs.1, 16, .inl (fun j => nI ((fun _ => 0) j)))), ((u_1 2), .inl (cs.1, 16, .inl (fun j => nI ((fun _ => 0) j)))), ((u_1 3), .inl (cs.2.1, 16, .inl (fun j => nI ((fun _ => 0) j)))), (q16, .inr (4, [.ref (u_2 1), .ref (u_2 2), .ref (u_2 3), .ref (u_2 4)])), ((u_2 1), .inl (cs.1, 7, .inl (fun j => nI ((fun _ => 0) j)))), ((u_2 2), .inl (cs.1, 7, .inl (fun j => nI ((ini 40 0 7) j)))), ((u_2 3), .inl (cs.1, 7, .inl (fun j => nI ((ini 70 0 7) j)))), ((u_2 4), .inl (cs.2.1, 7, .inl (fun j => nI ((fun _ => 0) j)))), (q27, .inr (2, [.ref (u_3 1), .ref (u_3 2)])), ((u_3 1), .inl (cs.1, 49, .inl (fun j => nI ((fun _ => 0) j)))), ((u_3 2), .inl (cs.1, 49, .inl (fun j => nI ((fun _ => 0) j))))] := hD
  refine va_putF (D := D) (ci := 5) (v := .ref q27) (ty := .object "RopeVotes$Post") (C := R_V) (T := F_V) (N := 9) hx hb ht j_V t_V t_V_ok n_V hown hK.1 hP hD hS 0 rfl rfl 2 (by decide) (ht _ q_130) (fun _ h9 => h9) rfl hnm rfl (by decide +kernel) rfl rfl (Nat.le_of_ble_eq_true rfl) d_V_init_34 (fun H locs hP hD hS => ?_)
  have hP : va_P D classes [(h0, .inr (5, [.ref q5, .ref q16, .ref q27, .null, .null, .null, .int (nI 0), .int (nI 0), .int (nI 0)])), (q5, .inr (1, [.ref (u_1 1), .ref (u_1 2), .ref (u_1 3), .int (nI 0)])), ((u_1 1), .inl (cs.1, 16, .inl (fun j => nI ((fun _ => 0) j)))), ((u_1 2), .inl (cs.1, 16, .inl (fun j => nI ((fun _ => 0) j)))), ((u_1 3), .inl (cs.2.1, 16, .inl (fun j => nI ((fun _ => 0) j)))), (q16, .inr (4, [.ref (u_2 1), .ref (u_2 2), .ref (u_2 3), .ref (u_2 4)])), ((u_2 1), .inl (cs.1, 7, .inl (fun j => nI ((fun _ => 0) j)))), ((u_2 2), .inl (cs.1, 7, .inl (fun j => nI ((ini 40 0 7) j)))), ((u_2 3), .inl (cs.1, 7, .inl (fun j => nI ((ini 70 0 7) j)))), ((u_2 4), .inl (cs.2.1, 7, .inl (fun j => nI ((fun _ => 0) j)))), (q27, .inr (2, [.ref (u_3 1), .ref (u_3 2)])), ((u_3 1), .inl (cs.1, 49, .inl (fun j => nI ((fun _ => 0) j)))), ((u_3 2), .inl (cs.1, 49, .inl (fun j => nI ((fun _ => 0) j))))] H := hP
  have hD : va_D A [(h0, .inr (5, [.ref q5, .ref q16, .ref q27, .null, .null, .null, .int (nI 0), .int (nI 0), .int (nI 0)])), (q5, .inr (1, [.ref (u_1 1), .ref (u_1 2), .ref (u_1 3), .int (nI 0)])), ((u_1 1), .inl (cs.1, 16, .inl (fun j => nI ((fun _ => 0) j)))), ((u_1 2), .inl (cs.1, 16, .inl (fun j => nI ((fun _ => 0) j)))), ((u_1 3), .inl (cs.2.1, 16, .inl (fun j => nI ((fun _ => 0) j)))), (q16, .inr (4, [.ref (u_2 1), .ref (u_2 2), .ref (u_2 3), .ref (u_2 4)])), ((u_2 1), .inl (cs.1, 7, .inl (fun j => nI ((fun _ => 0) j)))), ((u_2 2), .inl (cs.1, 7, .inl (fun j => nI ((ini 40 0 7) j)))), ((u_2 3), .inl (cs.1, 7, .inl (fun j => nI ((ini 70 0 7) j)))), ((u_2 4), .inl (cs.2.1, 7, .inl (fun j => nI ((fun _ => 0) j)))), (q27, .inr (2, [.ref (u_3 1), .ref (u_3 2)])), ((u_3 1), .inl (cs.1, 49, .inl (fun j => nI ((fun _ => 0) j)))), ((u_3 2), .inl (cs.1, 49, .inl (fun j => nI ((fun _ => 0) j))))] := hD
  refine lv_aload_n hx hb d_V_init_37 rfl (lv_at hl 0 rfl) ?_
  refine va_new (ci := 0) (fs := [.null, .null]) (C := R_C) (T := F_C) (N := 2) hx hb ht j_C t_C t_C_ok hown (ht _ q_83) (ht _ q_84) (ht _ q_5) hK.1 hP hD hS hA rfl (fun j hj => by rcases (show j = 0 ∨ j = 1 by omega) with rfl | rfl <;> rfl) (Nat.le_of_ble_eq_true rfl) (Nat.le_of_ble_eq_true rfl) d_V_init_38 (fun q38 H hP hD hS => ?_)
  have hP : va_P D classes [(h0, .inr (5, [.ref q5, .ref q16, .ref q27, .null, .null, .null, .int (nI 0), .int (nI 0), .int (nI 0)])), (q5, .inr (1, [.ref (u_1 1), .ref (u_1 2), .ref (u_1 3), .int (nI 0)])), ((u_1 1), .inl (cs.1, 16, .inl (fun j => nI ((fun _ => 0) j)))), ((u_1 2), .inl (cs.1, 16, .inl (fun j => nI ((fun _ => 0) j)))), ((u_1 3), .inl (cs.2.1, 16, .inl (fun j => nI ((fun _ => 0) j)))), (q16, .inr (4, [.ref (u_2 1), .ref (u_2 2), .ref (u_2 3), .ref (u_2 4)])), ((u_2 1), .inl (cs.1, 7, .inl (fun j => nI ((fun _ => 0) j)))), ((u_2 2), .inl (cs.1, 7, .inl (fun j => nI ((ini 40 0 7) j)))), ((u_2 3), .inl (cs.1, 7, .inl (fun j => nI ((ini 70 0 7) j)))), ((u_2 4), .inl (cs.2.1, 7, .inl (fun j => nI ((fun _ => 0) j)))), (q27, .inr (2, [.ref (u_3 1), .ref (u_3 2)])), ((u_3 1), .inl (cs.1, 49, .inl (fun j => nI ((fun _ => 0) j)))), ((u_3 2), .inl (cs.1, 49, .inl (fun j => nI ((fun _ => 0) j)))), (q38, .inr (0, [.null, .null]))] H := hP
  have hD : va_D A [(h0, .inr (5, [.ref q5, .ref q16, .ref q27, .null, .null, .null, .int (nI 0), .int (nI 0), .int (nI 0)])), (q5, .inr (1, [.ref (u_1 1), .ref (u_1 2), .ref (u_1 3), .int (nI 0)])), ((u_1 1), .inl (cs.1, 16, .inl (fun j => nI ((fun _ => 0) j)))), ((u_1 2), .inl (cs.1, 16, .inl (fun j => nI ((fun _ => 0) j)))), ((u_1 3), .inl (cs.2.1, 16, .inl (fun j => nI ((fun _ => 0) j)))), (q16, .inr (4, [.ref (u_2 1), .ref (u_2 2), .ref (u_2 3), .ref (u_2 4)])), ((u_2 1), .inl (cs.1, 7, .inl (fun j => nI ((fun _ => 0) j)))), ((u_2 2), .inl (cs.1, 7, .inl (fun j => nI ((ini 40 0 7) j)))), ((u_2 3), .inl (cs.1, 7, .inl (fun j => nI ((ini 70 0 7) j)))), ((u_2 4), .inl (cs.2.1, 7, .inl (fun j => nI ((fun _ => 0) j)))), (q27, .inr (2, [.ref (u_3 1), .ref (u_3 2)])), ((u_3 1), .inl (cs.1, 49, .inl (fun j => nI ((fun _ => 0) j)))), ((u_3 2), .inl (cs.1, 49, .inl (fun j => nI ((fun _ => 0) j)))), (q38, .inr (0, [.null, .null]))] := hD
  refine lv_dup hx hb d_V_init_41 rfl ?_
  refine rr_cI (As := []) (rest := [.ref q38, .ref h0]) (idx := 32) (wr := [(h0, .inr (5, [.ref q5, .ref q16, .ref q27, .null, .null, .null, .int (nI 0), .int (nI 0), .int (nI 0)])), (q5, .inr (1, [.ref (u_1 1), .ref (u_1 2), .ref (u_1 3), .int (nI 0)])), ((u_1 1), .inl (cs.1, 16, .inl (fun j => nI ((fun _ => 0) j)))), ((u_1 2), .inl (cs.1, 16, .inl (fun j => nI ((fun _ => 0) j)))), ((u_1 3), .inl (cs.2.1, 16, .inl (fun j => nI ((fun _ => 0) j)))), (q16, .inr (4, [.ref (u_2 1), .ref (u_2 2), .ref (u_2 3), .ref (u_2 4)])), ((u_2 1), .inl (cs.1, 7, .inl (fun j => nI ((fun _ => 0) j)))), ((u_2 2), .inl (cs.1, 7, .inl (fun j => nI ((ini 40 0 7) j)))), ((u_2 3), .inl (cs.1, 7, .inl (fun j => nI ((ini 70 0 7) j)))), ((u_2 4), .inl (cs.2.1, 7, .inl (fun j => nI ((fun _ => 0) j)))), (q27, .inr (2, [.ref (u_3 1), .ref (u_3 2)])), ((u_3 1), .inl (cs.1, 49, .inl (fun j => nI ((fun _ => 0) j)))), ((u_3 2), .inl (cs.1, 49, .inl (fun j => nI ((fun _ => 0) j))))]) S hK hP hD hS hA (c_C_init l D cs q38  H.size) k_C_init [13] [0, 1, 2, 3, 4, 5, 6, 7, 8, 9, 10, 11, 12] rfl (by decide) rfl (by decide) (by decide) q_85 ⟨Nat.le_of_ble_eq_true rfl, Nat.le_of_ble_eq_true rfl⟩ ⟨Nat.le_of_ble_eq_true rfl, Nat.le_of_ble_eq_true rfl⟩ hl (Nat.le_of_ble_eq_true rfl) rfl d_V_init_42 (fun u_4 H locs hr9 hP hD hS => ?_)
  have hP : va_P D classes [(h0, .inr (5, [.ref q5, .ref q16, .ref q27, .null, .null, .null, .int (nI 0), .int (nI 0), .int (nI 0)])), (q5, .inr (1, [.ref (u_1 1), .ref (u_1 2), .ref (u_1 3), .int (nI 0)])), ((u_1 1), .inl (cs.1, 16, .inl (fun j => nI ((fun _ => 0) j)))), ((u_1 2), .inl (cs.1, 16, .inl (fun j => nI ((fun _ => 0) j)))), ((u_1 3), .inl (cs.2.1, 16, .inl (fun j => nI ((fun _ => 0) j)))), (q16, .inr (4, [.ref (u_2 1), .ref (u_2 2), .ref (u_2 3), .ref (u_2 4)])), ((u_2 1), .inl (cs.1, 7, .inl (fun j => nI ((fun _ => 0) j)))), ((u_2 2), .inl (cs.1, 7, .inl (fun j => nI ((ini 40 0 7) j)))), ((u_2 3), .inl (cs.1, 7, .inl (fun j => nI ((ini 70 0 7) j)))), ((u_2 4), .inl (cs.2.1, 7, .inl (fun j => nI ((fun _ => 0) j)))), (q27, .inr (2, [.ref (u_3 1), .ref (u_3 2)])), ((u_3 1), .inl (cs.1, 49, .inl (fun j => nI ((fun _ => 0) j)))), ((u_3 2), .inl (cs.1, 49, .inl (fun j => nI ((fun _ => 0) j)))), (q38, .inr (0, [.ref (u_4 1), .ref (u_4 2)])), ((u_4 1), .inl (cs.1, 7, .inl (fun j => mI ((ini 0 1 7) j)))), ((u_4 2), .inl (cs.1, 7, .inl (fun j => zI ((ini 0 4294967296 7) j))))] H := hP
  have hD : va_D A [(h0, .inr (5, [.ref q5, .ref q16, .ref q27, .null, .null, .null, .int (nI 0), .int (nI 0), .int (nI 0)])), (q5, .inr (1, [.ref (u_1 1), .ref (u_1 2), .ref (u_1 3), .int (nI 0)])), ((u_1 1), .inl (cs.1, 16, .inl (fun j => nI ((fun _ => 0) j)))), ((u_1 2), .inl (cs.1, 16, .inl (fun j => nI ((fun _ => 0) j)))), ((u_1 3), .inl (cs.2.1, 16, .inl (fun j => nI ((fun _ => 0) j)))), (q16, .inr (4, [.ref (u_2 1), .ref (u_2 2), .ref (u_2 3), .ref (u_2 4)])), ((u_2 1), .inl (cs.1, 7, .inl (fun j => nI ((fun _ => 0) j)))), ((u_2 2), .inl (cs.1, 7, .inl (fun j => nI ((ini 40 0 7) j)))), ((u_2 3), .inl (cs.1, 7, .inl (fun j => nI ((ini 70 0 7) j)))), ((u_2 4), .inl (cs.2.1, 7, .inl (fun j => nI ((fun _ => 0) j)))), (q27, .inr (2, [.ref (u_3 1), .ref (u_3 2)])), ((u_3 1), .inl (cs.1, 49, .inl (fun j => nI ((fun _ => 0) j)))), ((u_3 2), .inl (cs.1, 49, .inl (fun j => nI ((fun _ => 0) j)))), (q38, .inr (0, [.ref (u_4 1), .ref (u_4 2)])), ((u_4 1), .inl (cs.1, 7, .inl (fun j => mI ((ini 0 1 7) j)))), ((u_4 2), .inl (cs.1, 7, .inl (fun j => zI ((ini 0 4294967296 7) j))))] := hD
  refine va_putF (D := D) (ci := 5) (v := .ref q38) (ty := .object "RopeVotes$Control") (C := R_V) (T := F_V) (N := 9) hx hb ht j_V t_V t_V_ok n_V hown hK.1 hP hD hS 0 rfl rfl 3 (by decide) (ht _ q_131) (fun _ h9 => h9) rfl hnm rfl (by decide +kernel) rfl rfl (Nat.le_of_ble_eq_true rfl) d_V_init_45 (fun H locs hP hD hS => ?_)
  have hP : va_P D classes [(h0, .inr (5, [.ref q5, .ref q16, .ref q27, .ref q38, .null, .null, .int (nI 0), .int (nI 0), .int (nI 0)])), (q5, .inr (1, [.ref (u_1 1), .ref (u_1 2), .ref (u_1 3), .int (nI 0)])), ((u_1 1), .inl (cs.1, 16, .inl (fun j => nI ((fun _ => 0) j)))), ((u_1 2), .inl (cs.1, 16, .inl (fun j => nI ((fun _ => 0) j)))), ((u_1 3), .inl (cs.2.1, 16, .inl (fun j => nI ((fun _ => 0) j)))), (q16, .inr (4, [.ref (u_2 1), .ref (u_2 2), .ref (u_2 3), .ref (u_2 4)])), ((u_2 1), .inl (cs.1, 7, .inl (fun j => nI ((fun _ => 0) j)))), ((u_2 2), .inl (cs.1, 7, .inl (fun j => nI ((ini 40 0 7) j)))), ((u_2 3), .inl (cs.1, 7, .inl (fun j => nI ((ini 70 0 7) j)))), ((u_2 4), .inl (cs.2.1, 7, .inl (fun j => nI ((fun _ => 0) j)))), (q27, .inr (2, [.ref (u_3 1), .ref (u_3 2)])), ((u_3 1), .inl (cs.1, 49, .inl (fun j => nI ((fun _ => 0) j)))), ((u_3 2), .inl (cs.1, 49, .inl (fun j => nI ((fun _ => 0) j)))), (q38, .inr (0, [.ref (u_4 1), .ref (u_4 2)])), ((u_4 1), .inl (cs.1, 7, .inl (fun j => mI ((ini 0 1 7) j)))), ((u_4 2), .inl (cs.1, 7, .inl (fun j => zI ((ini 0 4294967296 7) j))))] H := hP
  have hD : va_D A [(h0, .inr (5, [.ref q5, .ref q16, .ref q27, .ref q38, .null, .null, .int (nI 0), .int (nI 0), .int (nI 0)])), (q5, .inr (1, [.ref (u_1 1), .ref (u_1 2), .ref (u_1 3), .int (nI 0)])), ((u_1 1), .inl (cs.1, 16, .inl (fun j => nI ((fun _ => 0) j)))), ((u_1 2), .inl (cs.1, 16, .inl (fun j => nI ((fun _ => 0) j)))), ((u_1 3), .inl (cs.2.1, 16, .inl (fun j => nI ((fun _ => 0) j)))), (q16, .inr (4, [.ref (u_2 1), .ref (u_2 2), .ref (u_2 3), .ref (u_2 4)])), ((u_2 1), .inl (cs.1, 7, .inl (fun j => nI ((fun _ => 0) j)))), ((u_2 2), .inl (cs.1, 7, .inl (fun j => nI ((ini 40 0 7) j)))), ((u_2 3), .inl (cs.1, 7, .inl (fun j => nI ((ini 70 0 7) j)))), ((u_2 4), .inl (cs.2.1, 7, .inl (fun j => nI ((fun _ => 0) j)))), (q27, .inr (2, [.ref (u_3 1), .ref (u_3 2)])), ((u_3 1), .inl (cs.1, 49, .inl (fun j => nI ((fun _ => 0) j)))), ((u_3 2), .inl (cs.1, 49, .inl (fun j => nI ((fun _ => 0) j)))), (q38, .inr (0, [.ref (u_4 1), .ref (u_4 2)])), ((u_4 1), .inl (cs.1, 7, .inl (fun j => mI ((ini 0 1 7) j)))), ((u_4 2), .inl (cs.1, 7, .inl (fun j => zI ((ini 0 4294967296 7) j))))] := hD
  refine lv_aload_n hx hb d_V_init_48 rfl (lv_at hl 0 rfl) ?_
  refine va_new (ci := 3) (fs := [.null, .null, .null, .null, .null, .null, .int (nI 0)]) (C := R_K) (T := F_K) (N := 7) hx hb ht j_K t_K t_K_ok hown (ht _ q_98) (ht _ q_99) (ht _ q_6) hK.1 hP hD hS hA rfl (fun j hj => by rcases (show j = 0 ∨ j = 1 ∨ j = 2 ∨ j = 3 ∨ j = 4 ∨ j = 5 ∨ j = 6 by omega) with rfl | rfl | rfl | rfl | rfl | rfl | rfl <;> rfl) (Nat.le_of_ble_eq_true rfl) (Nat.le_of_ble_eq_true rfl) d_V_init_49 (fun q49 H hP hD hS => ?_)
  have hP : va_P D classes [(h0, .inr (5, [.ref q5, .ref q16, .ref q27, .ref q38, .null, .null, .int (nI 0), .int (nI 0), .int (nI 0)])), (q5, .inr (1, [.ref (u_1 1), .ref (u_1 2), .ref (u_1 3), .int (nI 0)])), ((u_1 1), .inl (cs.1, 16, .inl (fun j => nI ((fun _ => 0) j)))), ((u_1 2), .inl (cs.1, 16, .inl (fun j => nI ((fun _ => 0) j)))), ((u_1 3), .inl (cs.2.1, 16, .inl (fun j => nI ((fun _ => 0) j)))), (q16, .inr (4, [.ref (u_2 1), .ref (u_2 2), .ref (u_2 3), .ref (u_2 4)])), ((u_2 1), .inl (cs.1, 7, .inl (fun j => nI ((fun _ => 0) j)))), ((u_2 2), .inl (cs.1, 7, .inl (fun j => nI ((ini 40 0 7) j)))), ((u_2 3), .inl (cs.1, 7, .inl (fun j => nI ((ini 70 0 7) j)))), ((u_2 4), .inl (cs.2.1, 7, .inl (fun j => nI ((fun _ => 0) j)))), (q27, .inr (2, [.ref (u_3 1), .ref (u_3 2)])), ((u_3 1), .inl (cs.1, 49, .inl (fun j => nI ((fun _ => 0) j)))), ((u_3 2), .inl (cs.1, 49, .inl (fun j => nI ((fun _ => 0) j)))), (q38, .inr (0, [.ref (u_4 1), .ref (u_4 2)])), ((u_4 1), .inl (cs.1, 7, .inl (fun j => mI ((ini 0 1 7) j)))), ((u_4 2), .inl (cs.1, 7, .inl (fun j => zI ((ini 0 4294967296 7) j)))), (q49, .inr (3, [.null, .null, .null, .null, .null, .null, .int (nI 0)]))] H := hP
  have hD : va_D A [(h0, .inr (5, [.ref q5, .ref q16, .ref q27, .ref q38, .null, .null, .int (nI 0), .int (nI 0), .int (nI 0)])), (q5, .inr (1, [.ref (u_1 1), .ref (u_1 2), .ref (u_1 3), .int (nI 0)])), ((u_1 1), .inl (cs.1, 16, .inl (fun j => nI ((fun _ => 0) j)))), ((u_1 2), .inl (cs.1, 16, .inl (fun j => nI ((fun _ => 0) j)))), ((u_1 3), .inl (cs.2.1, 16, .inl (fun j => nI ((fun _ => 0) j)))), (q16, .inr (4, [.ref (u_2 1), .ref (u_2 2), .ref (u_2 3), .ref (u_2 4)])), ((u_2 1), .inl (cs.1, 7, .inl (fun j => nI ((fun _ => 0) j)))), ((u_2 2), .inl (cs.1, 7, .inl (fun j => nI ((ini 40 0 7) j)))), ((u_2 3), .inl (cs.1, 7, .inl (fun j => nI ((ini 70 0 7) j)))), ((u_2 4), .inl (cs.2.1, 7, .inl (fun j => nI ((fun _ => 0) j)))), (q27, .inr (2, [.ref (u_3 1), .ref (u_3 2)])), ((u_3 1), .inl (cs.1, 49, .inl (fun j => nI ((fun _ => 0) j)))), ((u_3 2), .inl (cs.1, 49, .inl (fun j => nI ((fun _ => 0) j)))), (q38, .inr (0, [.ref (u_4 1), .ref (u_4 2)])), ((u_4 1), .inl (cs.1, 7, .inl (fun j => mI ((ini 0 1 7) j)))), ((u_4 2), .inl (cs.1, 7, .inl (fun j => zI ((ini 0 4294967296 7) j)))), (q49, .inr (3, [.null, .null, .null, .null, .null, .null, .int (nI 0)]))] := hD
  refine lv_dup hx hb d_V_init_52 rfl ?_
  refine rr_cIN (As := []) (rest := [.ref q49, .ref h0]) (idx := 39) (host := "RopeVotes") (wr := [(h0, .inr (5, [.ref q5, .ref q16, .ref q27, .ref q38, .null, .null, .int (nI 0), .int (nI 0), .int (nI 0)])), (q5, .inr (1, [.ref (u_1 1), .ref (u_1 2), .ref (u_1 3), .int (nI 0)])), ((u_1 1), .inl (cs.1, 16, .inl (fun j => nI ((fun _ => 0) j)))), ((u_1 2), .inl (cs.1, 16, .inl (fun j => nI ((fun _ => 0) j)))), ((u_1 3), .inl (cs.2.1, 16, .inl (fun j => nI ((fun _ => 0) j)))), (q16, .inr (4, [.ref (u_2 1), .ref (u_2 2), .ref (u_2 3), .ref (u_2 4)])), ((u_2 1), .inl (cs.1, 7, .inl (fun j => nI ((fun _ => 0) j)))), ((u_2 2), .inl (cs.1, 7, .inl (fun j => nI ((ini 40 0 7) j)))), ((u_2 3), .inl (cs.1, 7, .inl (fun j => nI ((ini 70 0 7) j)))), ((u_2 4), .inl (cs.2.1, 7, .inl (fun j => nI ((fun _ => 0) j)))), (q27, .inr (2, [.ref (u_3 1), .ref (u_3 2)])), ((u_3 1), .inl (cs.1, 49, .inl (fun j => nI ((fun _ => 0) j)))), ((u_3 2), .inl (cs.1, 49, .inl (fun j => nI ((fun _ => 0) j)))), (q38, .inr (0, [.ref (u_4 1), .ref (u_4 2)])), ((u_4 1), .inl (cs.1, 7, .inl (fun j => mI ((ini 0 1 7) j)))), ((u_4 2), .inl (cs.1, 7, .inl (fun j => zI ((ini 0 4294967296 7) j))))]) S hK hP hD hS hA (c_K_init l D cs q49  H.size) k_K_init [16] [0, 1, 2, 3, 4, 5, 6, 7, 8, 9, 10, 11, 12, 13, 14, 15] rfl (by decide) rfl (by decide) (by decide) (List.mem_of_getElem? (i := 2) rfl) ⟨Nat.le_of_ble_eq_true rfl, Nat.le_of_ble_eq_true rfl⟩ ⟨Nat.le_of_ble_eq_true rfl, Nat.le_of_ble_eq_true rfl⟩ hl (Nat.le_of_ble_eq_true rfl) rfl d_V_init_53 (fun u_5 H locs hr9 hP hD hS => ?_)
  have hP : va_P D classes [(h0, .inr (5, [.ref q5, .ref q16, .ref q27, .ref q38, .null, .null, .int (nI 0), .int (nI 0), .int (nI 0)])), (q5, .inr (1, [.ref (u_1 1), .ref (u_1 2), .ref (u_1 3), .int (nI 0)])), ((u_1 1), .inl (cs.1, 16, .inl (fun j => nI ((fun _ => 0) j)))), ((u_1 2), .inl (cs.1, 16, .inl (fun j => nI ((fun _ => 0) j)))), ((u_1 3), .inl (cs.2.1, 16, .inl (fun j => nI ((fun _ => 0) j)))), (q16, .inr (4, [.ref (u_2 1), .ref (u_2 2), .ref (u_2 3), .ref (u_2 4)])), ((u_2 1), .inl (cs.1, 7, .inl (fun j => nI ((fun _ => 0) j)))), ((u_2 2), .inl (cs.1, 7, .inl (fun j => nI ((ini 40 0 7) j)))), ((u_2 3), .inl (cs.1, 7, .inl (fun j => nI ((ini 70 0 7) j)))), ((u_2 4), .inl (cs.2.1, 7, .inl (fun j => nI ((fun _ => 0) j)))), (q27, .inr (2, [.ref (u_3 1), .ref (u_3 2)])), ((u_3 1), .inl (cs.1, 49, .inl (fun j => nI ((fun _ => 0) j)))), ((u_3 2), .inl (cs.1, 49, .inl (fun j => nI ((fun _ => 0) j)))), (q38, .inr (0, [.ref (u_4 1), .ref (u_4 2)])), ((u_4 1), .inl (cs.1, 7, .inl (fun j => mI ((ini 0 1 7) j)))), ((u_4 2), .inl (cs.1, 7, .inl (fun j => zI ((ini 0 4294967296 7) j)))), (q49, .inr (3, [.ref (u_5 1), .ref (u_5 2), .ref (u_5 3), .ref (u_5 4), .ref (u_5 5), .ref (u_5 6), .int (nI 0)])), ((u_5 1), .inl (cs.1, 60, .inl (fun j => nI ((fun _ => 0) j)))), ((u_5 2), .inl (cs.1, 60, .inl (fun j => nI ((fun _ => 0) j)))), ((u_5 3), .inl (cs.1, 60, .inl (fun j => nI ((fun _ => 0) j)))), ((u_5 4), .inl (cs.1, 60, .inl (fun j => nI ((fun _ => 0) j)))), ((u_5 5), .inl (cs.1, 60, .inl (fun j => mI ((fun _ => 1) j)))), ((u_5 6), .inl (cs.1, 60, .inl (fun j => nI ((fun _ => 0) j))))] H := hP
  have hD : va_D A [(h0, .inr (5, [.ref q5, .ref q16, .ref q27, .ref q38, .null, .null, .int (nI 0), .int (nI 0), .int (nI 0)])), (q5, .inr (1, [.ref (u_1 1), .ref (u_1 2), .ref (u_1 3), .int (nI 0)])), ((u_1 1), .inl (cs.1, 16, .inl (fun j => nI ((fun _ => 0) j)))), ((u_1 2), .inl (cs.1, 16, .inl (fun j => nI ((fun _ => 0) j)))), ((u_1 3), .inl (cs.2.1, 16, .inl (fun j => nI ((fun _ => 0) j)))), (q16, .inr (4, [.ref (u_2 1), .ref (u_2 2), .ref (u_2 3), .ref (u_2 4)])), ((u_2 1), .inl (cs.1, 7, .inl (fun j => nI ((fun _ => 0) j)))), ((u_2 2), .inl (cs.1, 7, .inl (fun j => nI ((ini 40 0 7) j)))), ((u_2 3), .inl (cs.1, 7, .inl (fun j => nI ((ini 70 0 7) j)))), ((u_2 4), .inl (cs.2.1, 7, .inl (fun j => nI ((fun _ => 0) j)))), (q27, .inr (2, [.ref (u_3 1), .ref (u_3 2)])), ((u_3 1), .inl (cs.1, 49, .inl (fun j => nI ((fun _ => 0) j)))), ((u_3 2), .inl (cs.1, 49, .inl (fun j => nI ((fun _ => 0) j)))), (q38, .inr (0, [.ref (u_4 1), .ref (u_4 2)])), ((u_4 1), .inl (cs.1, 7, .inl (fun j => mI ((ini 0 1 7) j)))), ((u_4 2), .inl (cs.1, 7, .inl (fun j => zI ((ini 0 4294967296 7) j)))), (q49, .inr (3, [.ref (u_5 1), .ref (u_5 2), .ref (u_5 3), .ref (u_5 4), .ref (u_5 5), .ref (u_5 6), .int (nI 0)])), ((u_5 1), .inl (cs.1, 60, .inl (fun j => nI ((fun _ => 0) j)))), ((u_5 2), .inl (cs.1, 60, .inl (fun j => nI ((fun _ => 0) j)))), ((u_5 3), .inl (cs.1, 60, .inl (fun j => nI ((fun _ => 0) j)))), ((u_5 4), .inl (cs.1, 60, .inl (fun j => nI ((fun _ => 0) j)))), ((u_5 5), .inl (cs.1, 60, .inl (fun j => mI ((fun _ => 1) j)))), ((u_5 6), .inl (cs.1, 60, .inl (fun j => nI ((fun _ => 0) j))))] := hD
  refine va_putF (D := D) (ci := 5) (v := .ref q49) (ty := .object "RopeVotes$Tickets") (C := R_V) (T := F_V) (N := 9) hx hb ht j_V t_V t_V_ok n_V hown hK.1 hP hD hS 0 rfl rfl 4 (by decide) (ht _ q_132) (fun _ h9 => h9) rfl hnm rfl (by decide +kernel) rfl rfl (Nat.le_of_ble_eq_true rfl) d_V_init_56 (fun H locs hP hD hS => ?_)
  have hP : va_P D classes [(h0, .inr (5, [.ref q5, .ref q16, .ref q27, .ref q38, .ref q49, .null, .int (nI 0), .int (nI 0), .int (nI 0)])), (q5, .inr (1, [.ref (u_1 1), .ref (u_1 2), .ref (u_1 3), .int (nI 0)])), ((u_1 1), .inl (cs.1, 16, .inl (fun j => nI ((fun _ => 0) j)))), ((u_1 2), .inl (cs.1, 16, .inl (fun j => nI ((fun _ => 0) j)))), ((u_1 3), .inl (cs.2.1, 16, .inl (fun j => nI ((fun _ => 0) j)))), (q16, .inr (4, [.ref (u_2 1), .ref (u_2 2), .ref (u_2 3), .ref (u_2 4)])), ((u_2 1), .inl (cs.1, 7, .inl (fun j => nI ((fun _ => 0) j)))), ((u_2 2), .inl (cs.1, 7, .inl (fun j => nI ((ini 40 0 7) j)))), ((u_2 3), .inl (cs.1, 7, .inl (fun j => nI ((ini 70 0 7) j)))), ((u_2 4), .inl (cs.2.1, 7, .inl (fun j => nI ((fun _ => 0) j)))), (q27, .inr (2, [.ref (u_3 1), .ref (u_3 2)])), ((u_3 1), .inl (cs.1, 49, .inl (fun j => nI ((fun _ => 0) j)))), ((u_3 2), .inl (cs.1, 49, .inl (fun j => nI ((fun _ => 0) j)))), (q38, .inr (0, [.ref (u_4 1), .ref (u_4 2)])), ((u_4 1), .inl (cs.1, 7, .inl (fun j => mI ((ini 0 1 7) j)))), ((u_4 2), .inl (cs.1, 7, .inl (fun j => zI ((ini 0 4294967296 7) j)))), (q49, .inr (3, [.ref (u_5 1), .ref (u_5 2), .ref (u_5 3), .ref (u_5 4), .ref (u_5 5), .ref (u_5 6), .int (nI 0)])), ((u_5 1), .inl (cs.1, 60, .inl (fun j => nI ((fun _ => 0) j)))), ((u_5 2), .inl (cs.1, 60, .inl (fun j => nI ((fun _ => 0) j)))), ((u_5 3), .inl (cs.1, 60, .inl (fun j => nI ((fun _ => 0) j)))), ((u_5 4), .inl (cs.1, 60, .inl (fun j => nI ((fun _ => 0) j)))), ((u_5 5), .inl (cs.1, 60, .inl (fun j => mI ((fun _ => 1) j)))), ((u_5 6), .inl (cs.1, 60, .inl (fun j => nI ((fun _ => 0) j))))] H := hP
  have hD : va_D A [(h0, .inr (5, [.ref q5, .ref q16, .ref q27, .ref q38, .ref q49, .null, .int (nI 0), .int (nI 0), .int (nI 0)])), (q5, .inr (1, [.ref (u_1 1), .ref (u_1 2), .ref (u_1 3), .int (nI 0)])), ((u_1 1), .inl (cs.1, 16, .inl (fun j => nI ((fun _ => 0) j)))), ((u_1 2), .inl (cs.1, 16, .inl (fun j => nI ((fun _ => 0) j)))), ((u_1 3), .inl (cs.2.1, 16, .inl (fun j => nI ((fun _ => 0) j)))), (q16, .inr (4, [.ref (u_2 1), .ref (u_2 2), .ref (u_2 3), .ref (u_2 4)])), ((u_2 1), .inl (cs.1, 7, .inl (fun j => nI ((fun _ => 0) j)))), ((u_2 2), .inl (cs.1, 7, .inl (fun j => nI ((ini 40 0 7) j)))), ((u_2 3), .inl (cs.1, 7, .inl (fun j => nI ((ini 70 0 7) j)))), ((u_2 4), .inl (cs.2.1, 7, .inl (fun j => nI ((fun _ => 0) j)))), (q27, .inr (2, [.ref (u_3 1), .ref (u_3 2)])), ((u_3 1), .inl (cs.1, 49, .inl (fun j => nI ((fun _ => 0) j)))), ((u_3 2), .inl (cs.1, 49, .inl (fun j => nI ((fun _ => 0) j)))), (q38, .inr (0, [.ref (u_4 1), .ref (u_4 2)])), ((u_4 1), .inl (cs.1, 7, .inl (fun j => mI ((ini 0 1 7) j)))), ((u_4 2), .inl (cs.1, 7, .inl (fun j => zI ((ini 0 4294967296 7) j)))), (q49, .inr (3, [.ref (u_5 1), .ref (u_5 2), .ref (u_5 3), .ref (u_5 4), .ref (u_5 5), .ref (u_5 6), .int (nI 0)])), ((u_5 1), .inl (cs.1, 60, .inl (fun j => nI ((fun _ => 0) j)))), ((u_5 2), .inl (cs.1, 60, .inl (fun j => nI ((fun _ => 0) j)))), ((u_5 3), .inl (cs.1, 60, .inl (fun j => nI ((fun _ => 0) j)))), ((u_5 4), .inl (cs.1, 60, .inl (fun j => nI ((fun _ => 0) j)))), ((u_5 5), .inl (cs.1, 60, .inl (fun j => mI ((fun _ => 1) j)))), ((u_5 6), .inl (cs.1, 60, .inl (fun j => nI ((fun _ => 0) j))))] := hD
  refine lv_aload_n hx hb d_V_init_59 rfl (lv_at hl 0 rfl) ?_
  refine lv_sipush (v := nI 1001) hx hb d_V_init_60 (by decide) ?_
  refine rr_newI (N := 1001) (fun j => nI ((fun _ => 0) j)) (fun _ => rfl) hx hb (ht _ q_45) hK hP hD hS hA (Nat.le_of_ble_eq_true rfl) (Nat.le_of_ble_eq_true rfl) (Nat.le_of_ble_eq_true rfl) d_V_init_63 (fun q63 H hP hD hS => ?_)
  have hP : va_P D classes [(h0, .inr (5, [.ref q5, .ref q16, .ref q27, .ref q38, .ref q49, .null, .int (nI 0), .int (nI 0), .int (nI 0)])), (q5, .inr (1, [.ref (u_1 1), .ref (u_1 2), .ref (u_1 3), .int (nI 0)])), ((u_1 1), .inl (cs.1, 16, .inl (fun j => nI ((fun _ => 0) j)))), ((u_1 2), .inl (cs.1, 16, .inl (fun j => nI ((fun _ => 0) j)))), ((u_1 3), .inl (cs.2.1, 16, .inl (fun j => nI ((fun _ => 0) j)))), (q16, .inr (4, [.ref (u_2 1), .ref (u_2 2), .ref (u_2 3), .ref (u_2 4)])), ((u_2 1), .inl (cs.1, 7, .inl (fun j => nI ((fun _ => 0) j)))), ((u_2 2), .inl (cs.1, 7, .inl (fun j => nI ((ini 40 0 7) j)))), ((u_2 3), .inl (cs.1, 7, .inl (fun j => nI ((ini 70 0 7) j)))), ((u_2 4), .inl (cs.2.1, 7, .inl (fun j => nI ((fun _ => 0) j)))), (q27, .inr (2, [.ref (u_3 1), .ref (u_3 2)])), ((u_3 1), .inl (cs.1, 49, .inl (fun j => nI ((fun _ => 0) j)))), ((u_3 2), .inl (cs.1, 49, .inl (fun j => nI ((fun _ => 0) j)))), (q38, .inr (0, [.ref (u_4 1), .ref (u_4 2)])), ((u_4 1), .inl (cs.1, 7, .inl (fun j => mI ((ini 0 1 7) j)))), ((u_4 2), .inl (cs.1, 7, .inl (fun j => zI ((ini 0 4294967296 7) j)))), (q49, .inr (3, [.ref (u_5 1), .ref (u_5 2), .ref (u_5 3), .ref (u_5 4), .ref (u_5 5), .ref (u_5 6), .int (nI 0)])), ((u_5 1), .inl (cs.1, 60, .inl (fun j => nI ((fun _ => 0) j)))), ((u_5 2), .inl (cs.1, 60, .inl (fun j => nI ((fun _ => 0) j)))), ((u_5 3), .inl (cs.1, 60, .inl (fun j => nI ((fun _ => 0) j)))), ((u_5 4), .inl (cs.1, 60, .inl (fun j => nI ((fun _ => 0) j)))), ((u_5 5), .inl (cs.1, 60, .inl (fun j => mI ((fun _ => 1) j)))), ((u_5 6), .inl (cs.1, 60, .inl (fun j => nI ((fun _ => 0) j)))), (q63, .inl (cs.1, 1001, .inl (fun j => nI ((fun _ => 0) j))))] H := hP
  have hD : va_D A [(h0, .inr (5, [.ref q5, .ref q16, .ref q27, .ref q38, .ref q49, .null, .int (nI 0), .int (nI 0), .int (nI 0)])), (q5, .inr (1, [.ref (u_1 1), .ref (u_1 2), .ref (u_1 3), .int (nI 0)])), ((u_1 1), .inl (cs.1, 16, .inl (fun j => nI ((fun _ => 0) j)))), ((u_1 2), .inl (cs.1, 16, .inl (fun j => nI ((fun _ => 0) j)))), ((u_1 3), .inl (cs.2.1, 16, .inl (fun j => nI ((fun _ => 0) j)))), (q16, .inr (4, [.ref (u_2 1), .ref (u_2 2), .ref (u_2 3), .ref (u_2 4)])), ((u_2 1), .inl (cs.1, 7, .inl (fun j => nI ((fun _ => 0) j)))), ((u_2 2), .inl (cs.1, 7, .inl (fun j => nI ((ini 40 0 7) j)))), ((u_2 3), .inl (cs.1, 7, .inl (fun j => nI ((ini 70 0 7) j)))), ((u_2 4), .inl (cs.2.1, 7, .inl (fun j => nI ((fun _ => 0) j)))), (q27, .inr (2, [.ref (u_3 1), .ref (u_3 2)])), ((u_3 1), .inl (cs.1, 49, .inl (fun j => nI ((fun _ => 0) j)))), ((u_3 2), .inl (cs.1, 49, .inl (fun j => nI ((fun _ => 0) j)))), (q38, .inr (0, [.ref (u_4 1), .ref (u_4 2)])), ((u_4 1), .inl (cs.1, 7, .inl (fun j => mI ((ini 0 1 7) j)))), ((u_4 2), .inl (cs.1, 7, .inl (fun j => zI ((ini 0 4294967296 7) j)))), (q49, .inr (3, [.ref (u_5 1), .ref (u_5 2), .ref (u_5 3), .ref (u_5 4), .ref (u_5 5), .ref (u_5 6), .int (nI 0)])), ((u_5 1), .inl (cs.1, 60, .inl (fun j => nI ((fun _ => 0) j)))), ((u_5 2), .inl (cs.1, 60, .inl (fun j => nI ((fun _ => 0) j)))), ((u_5 3), .inl (cs.1, 60, .inl (fun j => nI ((fun _ => 0) j)))), ((u_5 4), .inl (cs.1, 60, .inl (fun j => nI ((fun _ => 0) j)))), ((u_5 5), .inl (cs.1, 60, .inl (fun j => mI ((fun _ => 1) j)))), ((u_5 6), .inl (cs.1, 60, .inl (fun j => nI ((fun _ => 0) j)))), (q63, .inl (cs.1, 1001, .inl (fun j => nI ((fun _ => 0) j))))] := hD
  refine va_putF (D := D) (ci := 5) (v := .ref q63) (ty := .array .int) (C := R_V) (T := F_V) (N := 9) hx hb ht j_V t_V t_V_ok n_V hown hK.1 hP hD hS 0 rfl rfl 5 (by decide) (ht _ q_133) (fun _ h9 => h9) rfl hnm rfl (by decide +kernel) rfl rfl (Nat.le_of_ble_eq_true rfl) d_V_init_65 (fun H locs hP hD hS => ?_)
  have hP : va_P D classes [(h0, .inr (5, [.ref q5, .ref q16, .ref q27, .ref q38, .ref q49, .ref q63, .int (nI 0), .int (nI 0), .int (nI 0)])), (q5, .inr (1, [.ref (u_1 1), .ref (u_1 2), .ref (u_1 3), .int (nI 0)])), ((u_1 1), .inl (cs.1, 16, .inl (fun j => nI ((fun _ => 0) j)))), ((u_1 2), .inl (cs.1, 16, .inl (fun j => nI ((fun _ => 0) j)))), ((u_1 3), .inl (cs.2.1, 16, .inl (fun j => nI ((fun _ => 0) j)))), (q16, .inr (4, [.ref (u_2 1), .ref (u_2 2), .ref (u_2 3), .ref (u_2 4)])), ((u_2 1), .inl (cs.1, 7, .inl (fun j => nI ((fun _ => 0) j)))), ((u_2 2), .inl (cs.1, 7, .inl (fun j => nI ((ini 40 0 7) j)))), ((u_2 3), .inl (cs.1, 7, .inl (fun j => nI ((ini 70 0 7) j)))), ((u_2 4), .inl (cs.2.1, 7, .inl (fun j => nI ((fun _ => 0) j)))), (q27, .inr (2, [.ref (u_3 1), .ref (u_3 2)])), ((u_3 1), .inl (cs.1, 49, .inl (fun j => nI ((fun _ => 0) j)))), ((u_3 2), .inl (cs.1, 49, .inl (fun j => nI ((fun _ => 0) j)))), (q38, .inr (0, [.ref (u_4 1), .ref (u_4 2)])), ((u_4 1), .inl (cs.1, 7, .inl (fun j => mI ((ini 0 1 7) j)))), ((u_4 2), .inl (cs.1, 7, .inl (fun j => zI ((ini 0 4294967296 7) j)))), (q49, .inr (3, [.ref (u_5 1), .ref (u_5 2), .ref (u_5 3), .ref (u_5 4), .ref (u_5 5), .ref (u_5 6), .int (nI 0)])), ((u_5 1), .inl (cs.1, 60, .inl (fun j => nI ((fun _ => 0) j)))), ((u_5 2), .inl (cs.1, 60, .inl (fun j => nI ((fun _ => 0) j)))), ((u_5 3), .inl (cs.1, 60, .inl (fun j => nI ((fun _ => 0) j)))), ((u_5 4), .inl (cs.1, 60, .inl (fun j => nI ((fun _ => 0) j)))), ((u_5 5), .inl (cs.1, 60, .inl (fun j => mI ((fun _ => 1) j)))), ((u_5 6), .inl (cs.1, 60, .inl (fun j => nI ((fun _ => 0) j)))), (q63, .inl (cs.1, 1001, .inl (fun j => nI ((fun _ => 0) j))))] H := hP
  have hD : va_D A [(h0, .inr (5, [.ref q5, .ref q16, .ref q27, .ref q38, .ref q49, .ref q63, .int (nI 0), .int (nI 0), .int (nI 0)])), (q5, .inr (1, [.ref (u_1 1), .ref (u_1 2), .ref (u_1 3), .int (nI 0)])), ((u_1 1), .inl (cs.1, 16, .inl (fun j => nI ((fun _ => 0) j)))), ((u_1 2), .inl (cs.1, 16, .inl (fun j => nI ((fun _ => 0) j)))), ((u_1 3), .inl (cs.2.1, 16, .inl (fun j => nI ((fun _ => 0) j)))), (q16, .inr (4, [.ref (u_2 1), .ref (u_2 2), .ref (u_2 3), .ref (u_2 4)])), ((u_2 1), .inl (cs.1, 7, .inl (fun j => nI ((fun _ => 0) j)))), ((u_2 2), .inl (cs.1, 7, .inl (fun j => nI ((ini 40 0 7) j)))), ((u_2 3), .inl (cs.1, 7, .inl (fun j => nI ((ini 70 0 7) j)))), ((u_2 4), .inl (cs.2.1, 7, .inl (fun j => nI ((fun _ => 0) j)))), (q27, .inr (2, [.ref (u_3 1), .ref (u_3 2)])), ((u_3 1), .inl (cs.1, 49, .inl (fun j => nI ((fun _ => 0) j)))), ((u_3 2), .inl (cs.1, 49, .inl (fun j => nI ((fun _ => 0) j)))), (q38, .inr (0, [.ref (u_4 1), .ref (u_4 2)])), ((u_4 1), .inl (cs.1, 7, .inl (fun j => mI ((ini 0 1 7) j)))), ((u_4 2), .inl (cs.1, 7, .inl (fun j => zI ((ini 0 4294967296 7) j)))), (q49, .inr (3, [.ref (u_5 1), .ref (u_5 2), .ref (u_5 3), .ref (u_5 4), .ref (u_5 5), .ref (u_5 6), .int (nI 0)])), ((u_5 1), .inl (cs.1, 60, .inl (fun j => nI ((fun _ => 0) j)))), ((u_5 2), .inl (cs.1, 60, .inl (fun j => nI ((fun _ => 0) j)))), ((u_5 3), .inl (cs.1, 60, .inl (fun j => nI ((fun _ => 0) j)))), ((u_5 4), .inl (cs.1, 60, .inl (fun j => nI ((fun _ => 0) j)))), ((u_5 5), .inl (cs.1, 60, .inl (fun j => mI ((fun _ => 1) j)))), ((u_5 6), .inl (cs.1, 60, .inl (fun j => nI ((fun _ => 0) j)))), (q63, .inl (cs.1, 1001, .inl (fun j => nI ((fun _ => 0) j))))] := hD
  refine lv_aload_n hx hb d_V_init_68 rfl (lv_at hl 0 rfl) ?_
  refine lv_iconst (v := nI 0) hx hb d_V_init_69 (by decide) ?_
  refine va_put (D := D) (ci := 5) (v := .int (nI 0)) (ty := .int) (C := R_V) (T := F_V) (N := 9) hx hb ht j_V t_V t_V_ok n_V hown hK.1 hP hD hS 0 rfl rfl 6 (by decide) (ht _ q_134) (fun _ h9 => h9) rfl (by decide +kernel) rfl rfl (Nat.le_of_ble_eq_true rfl) d_V_init_70 (fun H locs hP hD hS => ?_)
  have hP : va_P D classes [(h0, .inr (5, [.ref q5, .ref q16, .ref q27, .ref q38, .ref q49, .ref q63, .int (nI 0), .int (nI 0), .int (nI 0)])), (q5, .inr (1, [.ref (u_1 1), .ref (u_1 2), .ref (u_1 3), .int (nI 0)])), ((u_1 1), .inl (cs.1, 16, .inl (fun j => nI ((fun _ => 0) j)))), ((u_1 2), .inl (cs.1, 16, .inl (fun j => nI ((fun _ => 0) j)))), ((u_1 3), .inl (cs.2.1, 16, .inl (fun j => nI ((fun _ => 0) j)))), (q16, .inr (4, [.ref (u_2 1), .ref (u_2 2), .ref (u_2 3), .ref (u_2 4)])), ((u_2 1), .inl (cs.1, 7, .inl (fun j => nI ((fun _ => 0) j)))), ((u_2 2), .inl (cs.1, 7, .inl (fun j => nI ((ini 40 0 7) j)))), ((u_2 3), .inl (cs.1, 7, .inl (fun j => nI ((ini 70 0 7) j)))), ((u_2 4), .inl (cs.2.1, 7, .inl (fun j => nI ((fun _ => 0) j)))), (q27, .inr (2, [.ref (u_3 1), .ref (u_3 2)])), ((u_3 1), .inl (cs.1, 49, .inl (fun j => nI ((fun _ => 0) j)))), ((u_3 2), .inl (cs.1, 49, .inl (fun j => nI ((fun _ => 0) j)))), (q38, .inr (0, [.ref (u_4 1), .ref (u_4 2)])), ((u_4 1), .inl (cs.1, 7, .inl (fun j => mI ((ini 0 1 7) j)))), ((u_4 2), .inl (cs.1, 7, .inl (fun j => zI ((ini 0 4294967296 7) j)))), (q49, .inr (3, [.ref (u_5 1), .ref (u_5 2), .ref (u_5 3), .ref (u_5 4), .ref (u_5 5), .ref (u_5 6), .int (nI 0)])), ((u_5 1), .inl (cs.1, 60, .inl (fun j => nI ((fun _ => 0) j)))), ((u_5 2), .inl (cs.1, 60, .inl (fun j => nI ((fun _ => 0) j)))), ((u_5 3), .inl (cs.1, 60, .inl (fun j => nI ((fun _ => 0) j)))), ((u_5 4), .inl (cs.1, 60, .inl (fun j => nI ((fun _ => 0) j)))), ((u_5 5), .inl (cs.1, 60, .inl (fun j => mI ((fun _ => 1) j)))), ((u_5 6), .inl (cs.1, 60, .inl (fun j => nI ((fun _ => 0) j)))), (q63, .inl (cs.1, 1001, .inl (fun j => nI ((fun _ => 0) j))))] H := hP
  have hD : va_D A [(h0, .inr (5, [.ref q5, .ref q16, .ref q27, .ref q38, .ref q49, .ref q63, .int (nI 0), .int (nI 0), .int (nI 0)])), (q5, .inr (1, [.ref (u_1 1), .ref (u_1 2), .ref (u_1 3), .int (nI 0)])), ((u_1 1), .inl (cs.1, 16, .inl (fun j => nI ((fun _ => 0) j)))), ((u_1 2), .inl (cs.1, 16, .inl (fun j => nI ((fun _ => 0) j)))), ((u_1 3), .inl (cs.2.1, 16, .inl (fun j => nI ((fun _ => 0) j)))), (q16, .inr (4, [.ref (u_2 1), .ref (u_2 2), .ref (u_2 3), .ref (u_2 4)])), ((u_2 1), .inl (cs.1, 7, .inl (fun j => nI ((fun _ => 0) j)))), ((u_2 2), .inl (cs.1, 7, .inl (fun j => nI ((ini 40 0 7) j)))), ((u_2 3), .inl (cs.1, 7, .inl (fun j => nI ((ini 70 0 7) j)))), ((u_2 4), .inl (cs.2.1, 7, .inl (fun j => nI ((fun _ => 0) j)))), (q27, .inr (2, [.ref (u_3 1), .ref (u_3 2)])), ((u_3 1), .inl (cs.1, 49, .inl (fun j => nI ((fun _ => 0) j)))), ((u_3 2), .inl (cs.1, 49, .inl (fun j => nI ((fun _ => 0) j)))), (q38, .inr (0, [.ref (u_4 1), .ref (u_4 2)])), ((u_4 1), .inl (cs.1, 7, .inl (fun j => mI ((ini 0 1 7) j)))), ((u_4 2), .inl (cs.1, 7, .inl (fun j => zI ((ini 0 4294967296 7) j)))), (q49, .inr (3, [.ref (u_5 1), .ref (u_5 2), .ref (u_5 3), .ref (u_5 4), .ref (u_5 5), .ref (u_5 6), .int (nI 0)])), ((u_5 1), .inl (cs.1, 60, .inl (fun j => nI ((fun _ => 0) j)))), ((u_5 2), .inl (cs.1, 60, .inl (fun j => nI ((fun _ => 0) j)))), ((u_5 3), .inl (cs.1, 60, .inl (fun j => nI ((fun _ => 0) j)))), ((u_5 4), .inl (cs.1, 60, .inl (fun j => nI ((fun _ => 0) j)))), ((u_5 5), .inl (cs.1, 60, .inl (fun j => mI ((fun _ => 1) j)))), ((u_5 6), .inl (cs.1, 60, .inl (fun j => nI ((fun _ => 0) j)))), (q63, .inl (cs.1, 1001, .inl (fun j => nI ((fun _ => 0) j))))] := hD
  refine lv_aload_n hx hb d_V_init_73 rfl (lv_at hl 0 rfl) ?_
  refine lv_iconst (v := nI 0) hx hb d_V_init_74 (by decide) ?_
  refine va_put (D := D) (ci := 5) (v := .int (nI 0)) (ty := .int) (C := R_V) (T := F_V) (N := 9) hx hb ht j_V t_V t_V_ok n_V hown hK.1 hP hD hS 0 rfl rfl 7 (by decide) (ht _ q_135) (fun _ h9 => h9) rfl (by decide +kernel) rfl rfl (Nat.le_of_ble_eq_true rfl) d_V_init_75 (fun H locs hP hD hS => ?_)
  have hP : va_P D classes [(h0, .inr (5, [.ref q5, .ref q16, .ref q27, .ref q38, .ref q49, .ref q63, .int (nI 0), .int (nI 0), .int (nI 0)])), (q5, .inr (1, [.ref (u_1 1), .ref (u_1 2), .ref (u_1 3), .int (nI 0)])), ((u_1 1), .inl (cs.1, 16, .inl (fun j => nI ((fun _ => 0) j)))), ((u_1 2), .inl (cs.1, 16, .inl (fun j => nI ((fun _ => 0) j)))), ((u_1 3), .inl (cs.2.1, 16, .inl (fun j => nI ((fun _ => 0) j)))), (q16, .inr (4, [.ref (u_2 1), .ref (u_2 2), .ref (u_2 3), .ref (u_2 4)])), ((u_2 1), .inl (cs.1, 7, .inl (fun j => nI ((fun _ => 0) j)))), ((u_2 2), .inl (cs.1, 7, .inl (fun j => nI ((ini 40 0 7) j)))), ((u_2 3), .inl (cs.1, 7, .inl (fun j => nI ((ini 70 0 7) j)))), ((u_2 4), .inl (cs.2.1, 7, .inl (fun j => nI ((fun _ => 0) j)))), (q27, .inr (2, [.ref (u_3 1), .ref (u_3 2)])), ((u_3 1), .inl (cs.1, 49, .inl (fun j => nI ((fun _ => 0) j)))), ((u_3 2), .inl (cs.1, 49, .inl (fun j => nI ((fun _ => 0) j)))), (q38, .inr (0, [.ref (u_4 1), .ref (u_4 2)])), ((u_4 1), .inl (cs.1, 7, .inl (fun j => mI ((ini 0 1 7) j)))), ((u_4 2), .inl (cs.1, 7, .inl (fun j => zI ((ini 0 4294967296 7) j)))), (q49, .inr (3, [.ref (u_5 1), .ref (u_5 2), .ref (u_5 3), .ref (u_5 4), .ref (u_5 5), .ref (u_5 6), .int (nI 0)])), ((u_5 1), .inl (cs.1, 60, .inl (fun j => nI ((fun _ => 0) j)))), ((u_5 2), .inl (cs.1, 60, .inl (fun j => nI ((fun _ => 0) j)))), ((u_5 3), .inl (cs.1, 60, .inl (fun j => nI ((fun _ => 0) j)))), ((u_5 4), .inl (cs.1, 60, .inl (fun j => nI ((fun _ => 0) j)))), ((u_5 5), .inl (cs.1, 60, .inl (fun j => mI ((fun _ => 1) j)))), ((u_5 6), .inl (cs.1, 60, .inl (fun j => nI ((fun _ => 0) j)))), (q63, .inl (cs.1, 1001, .inl (fun j => nI ((fun _ => 0) j))))] H := hP
  have hD : va_D A [(h0, .inr (5, [.ref q5, .ref q16, .ref q27, .ref q38, .ref q49, .ref q63, .int (nI 0), .int (nI 0), .int (nI 0)])), (q5, .inr (1, [.ref (u_1 1), .ref (u_1 2), .ref (u_1 3), .int (nI 0)])), ((u_1 1), .inl (cs.1, 16, .inl (fun j => nI ((fun _ => 0) j)))), ((u_1 2), .inl (cs.1, 16, .inl (fun j => nI ((fun _ => 0) j)))), ((u_1 3), .inl (cs.2.1, 16, .inl (fun j => nI ((fun _ => 0) j)))), (q16, .inr (4, [.ref (u_2 1), .ref (u_2 2), .ref (u_2 3), .ref (u_2 4)])), ((u_2 1), .inl (cs.1, 7, .inl (fun j => nI ((fun _ => 0) j)))), ((u_2 2), .inl (cs.1, 7, .inl (fun j => nI ((ini 40 0 7) j)))), ((u_2 3), .inl (cs.1, 7, .inl (fun j => nI ((ini 70 0 7) j)))), ((u_2 4), .inl (cs.2.1, 7, .inl (fun j => nI ((fun _ => 0) j)))), (q27, .inr (2, [.ref (u_3 1), .ref (u_3 2)])), ((u_3 1), .inl (cs.1, 49, .inl (fun j => nI ((fun _ => 0) j)))), ((u_3 2), .inl (cs.1, 49, .inl (fun j => nI ((fun _ => 0) j)))), (q38, .inr (0, [.ref (u_4 1), .ref (u_4 2)])), ((u_4 1), .inl (cs.1, 7, .inl (fun j => mI ((ini 0 1 7) j)))), ((u_4 2), .inl (cs.1, 7, .inl (fun j => zI ((ini 0 4294967296 7) j)))), (q49, .inr (3, [.ref (u_5 1), .ref (u_5 2), .ref (u_5 3), .ref (u_5 4), .ref (u_5 5), .ref (u_5 6), .int (nI 0)])), ((u_5 1), .inl (cs.1, 60, .inl (fun j => nI ((fun _ => 0) j)))), ((u_5 2), .inl (cs.1, 60, .inl (fun j => nI ((fun _ => 0) j)))), ((u_5 3), .inl (cs.1, 60, .inl (fun j => nI ((fun _ => 0) j)))), ((u_5 4), .inl (cs.1, 60, .inl (fun j => nI ((fun _ => 0) j)))), ((u_5 5), .inl (cs.1, 60, .inl (fun j => mI ((fun _ => 1) j)))), ((u_5 6), .inl (cs.1, 60, .inl (fun j => nI ((fun _ => 0) j)))), (q63, .inl (cs.1, 1001, .inl (fun j => nI ((fun _ => 0) j))))] := hD
  refine lv_aload_n hx hb d_V_init_78 rfl (lv_at hl 0 rfl) ?_
  refine lv_iconst (v := nI 0) hx hb d_V_init_79 (by decide) ?_
  refine va_put (D := D) (ci := 5) (v := .int (nI 0)) (ty := .boolean) (C := R_V) (T := F_V) (N := 9) hx hb ht j_V t_V t_V_ok n_V hown hK.1 hP hD hS 0 rfl rfl 8 (by decide) (ht _ q_136) (fun _ h9 => h9) rfl (by decide +kernel) (by decide) (by decide) (Nat.le_of_ble_eq_true rfl) d_V_init_80 (fun H locs hP hD hS => ?_)
  have hP : va_P D classes [(h0, .inr (5, [.ref q5, .ref q16, .ref q27, .ref q38, .ref q49, .ref q63, .int (nI 0), .int (nI 0), .int (nI 0)])), (q5, .inr (1, [.ref (u_1 1), .ref (u_1 2), .ref (u_1 3), .int (nI 0)])), ((u_1 1), .inl (cs.1, 16, .inl (fun j => nI ((fun _ => 0) j)))), ((u_1 2), .inl (cs.1, 16, .inl (fun j => nI ((fun _ => 0) j)))), ((u_1 3), .inl (cs.2.1, 16, .inl (fun j => nI ((fun _ => 0) j)))), (q16, .inr (4, [.ref (u_2 1), .ref (u_2 2), .ref (u_2 3), .ref (u_2 4)])), ((u_2 1), .inl (cs.1, 7, .inl (fun j => nI ((fun _ => 0) j)))), ((u_2 2), .inl (cs.1, 7, .inl (fun j => nI ((ini 40 0 7) j)))), ((u_2 3), .inl (cs.1, 7, .inl (fun j => nI ((ini 70 0 7) j)))), ((u_2 4), .inl (cs.2.1, 7, .inl (fun j => nI ((fun _ => 0) j)))), (q27, .inr (2, [.ref (u_3 1), .ref (u_3 2)])), ((u_3 1), .inl (cs.1, 49, .inl (fun j => nI ((fun _ => 0) j)))), ((u_3 2), .inl (cs.1, 49, .inl (fun j => nI ((fun _ => 0) j)))), (q38, .inr (0, [.ref (u_4 1), .ref (u_4 2)])), ((u_4 1), .inl (cs.1, 7, .inl (fun j => mI ((ini 0 1 7) j)))), ((u_4 2), .inl (cs.1, 7, .inl (fun j => zI ((ini 0 4294967296 7) j)))), (q49, .inr (3, [.ref (u_5 1), .ref (u_5 2), .ref (u_5 3), .ref (u_5 4), .ref (u_5 5), .ref (u_5 6), .int (nI 0)])), ((u_5 1), .inl (cs.1, 60, .inl (fun j => nI ((fun _ => 0) j)))), ((u_5 2), .inl (cs.1, 60, .inl (fun j => nI ((fun _ => 0) j)))), ((u_5 3), .inl (cs.1, 60, .inl (fun j => nI ((fun _ => 0) j)))), ((u_5 4), .inl (cs.1, 60, .inl (fun j => nI ((fun _ => 0) j)))), ((u_5 5), .inl (cs.1, 60, .inl (fun j => mI ((fun _ => 1) j)))), ((u_5 6), .inl (cs.1, 60, .inl (fun j => nI ((fun _ => 0) j)))), (q63, .inl (cs.1, 1001, .inl (fun j => nI ((fun _ => 0) j))))] H := hP
  have hD : va_D A [(h0, .inr (5, [.ref q5, .ref q16, .ref q27, .ref q38, .ref q49, .ref q63, .int (nI 0), .int (nI 0), .int (nI 0)])), (q5, .inr (1, [.ref (u_1 1), .ref (u_1 2), .ref (u_1 3), .int (nI 0)])), ((u_1 1), .inl (cs.1, 16, .inl (fun j => nI ((fun _ => 0) j)))), ((u_1 2), .inl (cs.1, 16, .inl (fun j => nI ((fun _ => 0) j)))), ((u_1 3), .inl (cs.2.1, 16, .inl (fun j => nI ((fun _ => 0) j)))), (q16, .inr (4, [.ref (u_2 1), .ref (u_2 2), .ref (u_2 3), .ref (u_2 4)])), ((u_2 1), .inl (cs.1, 7, .inl (fun j => nI ((fun _ => 0) j)))), ((u_2 2), .inl (cs.1, 7, .inl (fun j => nI ((ini 40 0 7) j)))), ((u_2 3), .inl (cs.1, 7, .inl (fun j => nI ((ini 70 0 7) j)))), ((u_2 4), .inl (cs.2.1, 7, .inl (fun j => nI ((fun _ => 0) j)))), (q27, .inr (2, [.ref (u_3 1), .ref (u_3 2)])), ((u_3 1), .inl (cs.1, 49, .inl (fun j => nI ((fun _ => 0) j)))), ((u_3 2), .inl (cs.1, 49, .inl (fun j => nI ((fun _ => 0) j)))), (q38, .inr (0, [.ref (u_4 1), .ref (u_4 2)])), ((u_4 1), .inl (cs.1, 7, .inl (fun j => mI ((ini 0 1 7) j)))), ((u_4 2), .inl (cs.1, 7, .inl (fun j => zI ((ini 0 4294967296 7) j)))), (q49, .inr (3, [.ref (u_5 1), .ref (u_5 2), .ref (u_5 3), .ref (u_5 4), .ref (u_5 5), .ref (u_5 6), .int (nI 0)])), ((u_5 1), .inl (cs.1, 60, .inl (fun j => nI ((fun _ => 0) j)))), ((u_5 2), .inl (cs.1, 60, .inl (fun j => nI ((fun _ => 0) j)))), ((u_5 3), .inl (cs.1, 60, .inl (fun j => nI ((fun _ => 0) j)))), ((u_5 4), .inl (cs.1, 60, .inl (fun j => nI ((fun _ => 0) j)))), ((u_5 5), .inl (cs.1, 60, .inl (fun j => mI ((fun _ => 1) j)))), ((u_5 6), .inl (cs.1, 60, .inl (fun j => nI ((fun _ => 0) j)))), (q63, .inl (cs.1, 1001, .inl (fun j => nI ((fun _ => 0) j))))] := hD
  have hP := hP.sub [0, 1, 5, 10, 13, 16, 23, 2, 3, 4, 6, 7, 8, 9, 11, 12, 14, 15, 17, 18, 19, 20, 21, 22] rfl
  have hD := hD.sub (ws' := [(h0, .inr (5, [.ref q5, .ref q16, .ref q27, .ref q38, .ref q49, .ref q63, .int (nI 0), .int (nI 0), .int (nI 0)])), (q5, .inr (1, [.ref (u_1 1), .ref (u_1 2), .ref (u_1 3), .int (nI 0)])), (q16, .inr (4, [.ref (u_2 1), .ref (u_2 2), .ref (u_2 3), .ref (u_2 4)])), (q27, .inr (2, [.ref (u_3 1), .ref (u_3 2)])), (q38, .inr (0, [.ref (u_4 1), .ref (u_4 2)])), (q49, .inr (3, [.ref (u_5 1), .ref (u_5 2), .ref (u_5 3), .ref (u_5 4), .ref (u_5 5), .ref (u_5 6), .int (nI 0)])), (q63, .inl (cs.1, 1001, .inl (fun j => nI ((fun _ => 0) j)))), ((u_1 1), .inl (cs.1, 16, .inl (fun j => nI ((fun _ => 0) j)))), ((u_1 2), .inl (cs.1, 16, .inl (fun j => nI ((fun _ => 0) j)))), ((u_1 3), .inl (cs.2.1, 16, .inl (fun j => nI ((fun _ => 0) j)))), ((u_2 1), .inl (cs.1, 7, .inl (fun j => nI ((fun _ => 0) j)))), ((u_2 2), .inl (cs.1, 7, .inl (fun j => nI ((ini 40 0 7) j)))), ((u_2 3), .inl (cs.1, 7, .inl (fun j => nI ((ini 70 0 7) j)))), ((u_2 4), .inl (cs.2.1, 7, .inl (fun j => nI ((fun _ => 0) j)))), ((u_3 1), .inl (cs.1, 49, .inl (fun j => nI ((fun _ => 0) j)))), ((u_3 2), .inl (cs.1, 49, .inl (fun j => nI ((fun _ => 0) j)))), ((u_4 1), .inl (cs.1, 7, .inl (fun j => mI ((ini 0 1 7) j)))), ((u_4 2), .inl (cs.1, 7, .inl (fun j => zI ((ini 0 4294967296 7) j)))), ((u_5 1), .inl (cs.1, 60, .inl (fun j => nI ((fun _ => 0) j)))), ((u_5 2), .inl (cs.1, 60, .inl (fun j => nI ((fun _ => 0) j)))), ((u_5 3), .inl (cs.1, 60, .inl (fun j => nI ((fun _ => 0) j)))), ((u_5 4), .inl (cs.1, 60, .inl (fun j => nI ((fun _ => 0) j)))), ((u_5 5), .inl (cs.1, 60, .inl (fun j => mI ((fun _ => 1) j)))), ((u_5 6), .inl (cs.1, 60, .inl (fun j => nI ((fun _ => 0) j))))]) [0, 1, 5, 10, 13, 16, 23, 2, 3, 4, 6, 7, 8, 9, 11, 12, 14, 15, 17, 18, 19, 20, 21, 22] (by decide) rfl
  exact rr_mvret (adF [h0, q5, q16, q27, q38, q49, q63, (u_1 1), (u_1 2), (u_1 3), (u_2 1), (u_2 2), (u_2 3), (u_2 4), (u_3 1), (u_3 2), (u_4 1), (u_4 2), (u_5 1), (u_5 2), (u_5 3), (u_5 4), (u_5 5), (u_5 6)]) hx hb hr hlk hP hD hS rfl d_V_init_83
end
