-- methods of the class that may throw: their contract, its ends, its calls
abbrev eI : String := "java/lang/IndexOutOfBoundsException"
abbrev eA : String := "java/lang/IllegalArgumentException"
abbrev eS : String := "java/lang/IllegalStateException"
abbrev eN : List String := ["java/lang/RuntimeException", "java/lang/Exception"]
def rr_xc : List String := [eS, eI, eA]
def rr_xd : List MethodName := [⟨"java/lang/RuntimeException", "<init>", "(Ljava/lang/String;)V"⟩, ⟨"java/lang/Exception", "<init>", "(Ljava/lang/String;)V"⟩, ⟨"java/lang/Throwable", "<init>", "(Ljava/lang/String;)V"⟩]
def rr_st : List (Nat × String) := [(65, "no car is left, or the gap is too small"), (80, "no such car"), (92, "not in the bottom station, or not empty"), (111, "no such tower"), (115, "wind is out of range"), (124, "a limit is out of range"), (153, "minutes is out of range"), (155, "the time would be above 1000"), (160, "no such minute"), (162, "no such speed"), (164, "people or fare is out of range"), (172, "in no station, no room, or no ticket is left"), (179, "no such ticket")]
def rr_xw : List Cond := rr_xc.map (fun X => Cond.castable X X) ++ rr_xd.map Cond.declares
/-- what a throw needs of the state, besides the tables' good words -/
def rr_Y (U : State) : Prop := (∀ X ∈ rr_xc, va_Nw (.castable X X) U) ∧ (∀ y ∈ rr_xd, va_Nw (.declares y) U) ∧ ∀ q ∈ rr_st, ∃ sa : Nat, vk_R "RopeVotes" q.1 q.2 sa U
def rr_Z (A : Nat → Prop) (U : State) (H : Heap) : Prop := vx_Zq Bundle.tN "UNASSIGNED_STACK" Bundle.steD A U H ∧ vx_Zq Bundle.tN "SUPPRESSED_SENTINEL" Bundle.listD A U H
theorem rr_Y.warm {s U : State} (hW : s.WarmedH U.vm) (h : rr_Y s) : rr_Y U := ⟨fun X hX => va_Nw.warmC hW (h.1 X hX), fun y hy => va_Nw.warmD hW (h.2.1 y hy), fun q hq => by
  obtain ⟨sa, hs⟩ := h.2.2 q hq
  exact ⟨sa, hs.warm hW⟩⟩
theorem rr_Y.same {s U : State} (hv : s.vm = U.vm) (h : rr_Y s) : rr_Y U := ⟨fun X hX => va_Nw.same rfl hv (h.1 X hX), fun y hy => va_Nw.same rfl hv (h.2.1 y hy), fun q hq => by
  obtain ⟨sa, hs⟩ := h.2.2 q hq
  exact ⟨sa, hs.same hv.symm⟩⟩
theorem rr_Z.moved {A : Nat → Prop} {u U : State} {H : Heap} (hvm : u.vm.Alike U.vm) (h : rr_Z A u H) : rr_Z A U H := ⟨h.1.moved hvm, h.2.moved hvm⟩
theorem rr_Z.kept {A : Nat → Prop} {U : State} {H H1 : Heap} (h : rr_Z A U H) (hq : ∀ a : Nat, a < H.size → ¬ A a → H1[a]? = H[a]?) : rr_Z A U H1 := ⟨h.1.kept hq, h.2.kept hq⟩
theorem rr_Z.narrow {A B : Nat → Prop} {U : State} {H : Heap} (h : rr_Z A U H) (hAB : ∀ q, B q → A q) : rr_Z B U H := ⟨h.1.narrow hAB, h.2.narrow hAB⟩
/-- an int method that writes its cells ws, or throws E with XP E and leaves them -/
def MX (l : Launch) (y : MethodName) (b : ByteArray) (n : Nat) (ret : Option FieldType) (fr lc : Nat) (D : va_G) (cs : rr_C3) (ws : va_W) (sz : Nat) (as : List Value) {S : Type} (post : Int32 → S → Prop) (B : S → va_W) (XP : String → Prop) : Prop :=
  vx_Met l y (.code y b n ret :: rr_all) { frames := fr, cells := 1, slots := 6, locals := lc } (va_Pc as (fun U => U.heap.size = sz ∧ va_P D classes ws U.heap ∧ rr_K D cs U ∧ va_D (fun _ => True) ws ∧ rr_Y U ∧ rr_Z (va_A ws sz) U U.heap)) (va_Qi post (fun u t => va_P D classes (B u) t.heap ∧ va_D (va_A ws sz) (B u)) (va_A ws sz)) (vx_X (fun _ : Unit => True) (fun E _ t => XP E ∧ va_P D classes ws t.heap ∧ va_D (va_A ws sz) ws ∧ sz + 1 ≤ t.heap.size) (va_A ws sz)) 1 6 (va_A ws sz)
section EX
variable {l : Launch} {y : MethodName} {b : ByteArray} {n : Nat} {ret : Option FieldType} {fr lc : Nat} {D : va_G} {cs : rr_C3} {ws : va_W} {as : List Value} {sz : Nat}
/-- what the ends of such a method's walk are about -/
def rr_XQ (D : va_G) (B : Type) (post : Int32 → B → Prop) (Bw : B → va_W) (ws : va_W) (XP : String → Prop) (A : Nat → Prop) (below : List Frame) (args : Array Value) (s : State) : State → Prop := vx_MQ below (va_Qi post (fun u t => va_P D classes (Bw u) t.heap ∧ va_D A (Bw u)) A) (vx_X (fun _ : Unit => True) (fun E _ t => XP E ∧ va_P D classes ws t.heap ∧ va_D A ws ∧ s.heap.size + 1 ≤ t.heap.size) A) args s 1 6 A
theorem MX.of {S : Type} {post : Int32 → S → Prop} {B : S → va_W} {XP : String → Prop} (hy : plainName y.cls = true) (hn : (lg_sl as).length ≤ n)
    (body : ∀ (p : Program) (e : Env) (s : State) (m : MethodId) (args : Array Value) (below : List Frame) (meth : Method) (c : Code) (A : Nat → Prop), CallFix p m c b n s args rr_all y.cls → meth.sig.returnType = ret → meth.locks = false → (∀ x ∈ c.exceptionTable.toList, False) → rr_K D cs s → rr_Y s → rr_Z A s s.heap → va_P D classes ws s.heap → va_D A ws → (∀ q : Nat, s.heap.size ≤ q → A q) → va_S A s.heap s.heap [] →
      ∀ ls : Array Slot, lv_has ls n (lv_args 0 as) → W p l e { frames := fr, cells := 1, slots := 6, locals := lc } s m args below meth c s.heap [] 0 0 (rr_XQ D S post B ws XP A below args s) (F0 m 0 ls [])) : MX l y b n ret fr lc D cs ws sz as post B XP := by
  refine vx_ofW (cc := b) (maxL := n) (ret := ret) hy rfl ?_
  intro p e s m args below meth c s₁ Bd hml hta hv
  obtain ⟨rfl, rfl, hP, hK, hD0, hY, hZ⟩ := hv
  have hts := atoms_spec (ws := .code y b n ret :: rr_all) Bd.pre
  rw [lg_entry_eq]
  exact body p e s m _ below meth c (va_A ws s.heap.size) ⟨Bd.exec, Bd.bytes, hml, findClass_of_methodNamed Bd.named, fun w h => hts w (List.mem_cons_of_mem _ h)⟩ Bd.returns Bd.notSynchronized hta hK hY hZ hP (hD0.self (sz := s.heap.size)) (fun q h => Or.inr h) va_S.rf _ (lv_entry as hn)
end EX
theorem rr_atI : (∀ w ∈ (vx_atS "RopeVotes" 82 eI eN).filter goodWord, w ∈ lw_tbl) ∧ (∀ w ∈ (vx_atS "RopeVotes" 82 eI eN).filter (fun w => !goodWord w), w ∈ rr_xw) ∧ ∀ w ∈ Cond.classLink "RopeVotes" 78 eI :: Cond.initialized eI :: vx_atS "RopeVotes" 82 eI eN, vx_ot w = true := ⟨by decide +kernel, by decide +kernel, by decide +kernel⟩
theorem rr_atA : (∀ w ∈ (vx_atS "RopeVotes" 117 eA eN).filter goodWord, w ∈ lw_tbl) ∧ (∀ w ∈ (vx_atS "RopeVotes" 117 eA eN).filter (fun w => !goodWord w), w ∈ rr_xw) ∧ ∀ w ∈ Cond.classLink "RopeVotes" 113 eA :: Cond.initialized eA :: vx_atS "RopeVotes" 117 eA eN, vx_ot w = true := ⟨by decide +kernel, by decide +kernel, by decide +kernel⟩
theorem rr_atS : (∀ w ∈ (vx_atS "RopeVotes" 67 eS eN).filter goodWord, w ∈ lw_tbl) ∧ (∀ w ∈ (vx_atS "RopeVotes" 67 eS eN).filter (fun w => !goodWord w), w ∈ rr_xw) ∧ ∀ w ∈ Cond.classLink "RopeVotes" 63 eS :: Cond.initialized eS :: vx_atS "RopeVotes" 67 eS eN, vx_ot w = true := ⟨by decide +kernel, by decide +kernel, by decide +kernel⟩
theorem rr_xw_of {s : State} {args : Array Value} (h : rr_Y s) : ∀ w ∈ rr_xw, w.before args s = true := by
  intro w hw
  rcases List.mem_append.mp hw with g | g
  · obtain ⟨X, hX, rfl⟩ := List.mem_map.mp g
    exact va_Nw.use rfl (h.1 X hX)
  · obtain ⟨y, hy, rfl⟩ := List.mem_map.mp g
    exact va_Nw.use rfl (h.2.1 y hy)
section EX2
variable {p : Program} {l : Launch} {e : Env} {R : Room} {s : State} {m : MethodId} {args : Array Value} {below : List Frame} {meth : Method} {c : Code} {H : Heap} {locs : List Loc} {Q : State → Prop}
variable {pc : Nat} {ls : Array Slot} {rest st0 : List Value} {cc : ByteArray} {nL : Nat} {D : va_G} {cs : rr_C3} {ws : va_W} {A : Nat → Prop}
theorem rr_throw {cls text : String} {ik is ic : Nat} {S9 : Type} {post : Int32 → S9 → Prop} {B : S9 → va_W} {XP : String → Prop} {lv : List (Nat × Value)} (hfit : Bundle.fit cls = true)
    (hat : (∀ w ∈ (vx_atS "RopeVotes" ic cls eN).filter goodWord, w ∈ lw_tbl) ∧ (∀ w ∈ (vx_atS "RopeVotes" ic cls eN).filter (fun w => !goodWord w), w ∈ rr_xw) ∧ ∀ w ∈ Cond.classLink "RopeVotes" ik cls :: Cond.initialized cls :: vx_atS "RopeVotes" ic cls eN, vx_ot w = true)
    (hk : Cond.classLink "RopeVotes" ik cls ∈ rr_all) (hi : Cond.initialized cls ∈ rr_all) (hst : (is, text) ∈ rr_st)
    (S : CallFix p m c cc nL s args rr_all "RopeVotes") (hfl : l.stackTraces = false) (hlk : meth.locks = false) (hta : ∀ x ∈ c.exceptionTable.toList, False) (hY : rr_Y s) (hZ : rr_Z A s s.heap) (hP : va_P D classes ws H) (hD : va_D A ws) (hS : va_S A s.heap H locs) (hl : lv_has ls nL lv)
    (d0 : decode cc pc = .ok (.new ik, 3)) (d3 : decode cc (pc + 3) = .ok (.dup, 1)) (d4 : decode cc (pc + 4) = .ok (.ldc is, 2)) (d6 : decode cc (pc + 6) = .ok (.invokespecial ic, 3)) (d9 : decode cc (pc + 9) = .ok (.athrow, 1))
    (hRf : 5 < R.frames) (hRl : (rest.map fun v => v.category).sum + 82 ≤ R.locals) (hRc : 1 ≤ R.cells) (hRs : 6 ≤ R.slots) (hX : XP cls) :
    W p l e R s m args below meth c H locs 0 0 (rr_XQ D S9 post B ws XP A below args s) (F0 m pc ls rest) := by
  obtain ⟨hx, hb, hml, hown, ht⟩ := S
  obtain ⟨sa, hsa⟩ := hY.2.2 _ hst
  refine rf_throwS (names := eN) (sa := sa) (text := text) hx hb hfl hown hfit (by decide) (ht _ hk) (ht _ hi) hsa (vx_hat (fun w h => ht w (List.mem_filter.mpr ⟨hat.1 w h, (List.mem_filter.mp h).2⟩)) hat.2.1 (rr_xw_of hY)) hat.2.2 hZ.1 hZ.2 hS (by rw [hml]; exact hl.1) d0 d3 d4 d6 d9 (fun x h => (hta x h).elim) hRf hRl (by omega) (by omega) hlk ?_ hS.2.2 (by omega) (by omega)
  intro t hal hz hk2
  refine ⟨(), trivial, ⟨hX, hP.kept (fun k q hq => hk2 q.1 (hP k q hq).lt), hD, Nat.le_trans (Nat.succ_le_succ hS.1) hz⟩, Nat.le_trans hS.1 (Nat.le_of_succ_le hz), fun q h1 h2 => ?_⟩
  rw [hk2 q (Nat.lt_of_lt_of_le h1 hS.1)]
  exact hS.2.1 q h1 h2
theorem rr_xret {S9 : Type} {post : Int32 → S9 → Prop} {B : S9 → va_W} {XP : String → Prop} {v : Int32} (u : S9) (hexec : p.tables.exec = Jvm.exec) (hb : c.code = cc) (hr : meth.sig.returnType = some .int) (hlk : meth.locks = false) (hP : va_P D classes (B u) H) (hD : va_D A (B u)) (hS : va_S A s.heap H locs) (hp : post v u) (hdg : decode cc pc = .ok (.ireturn, 1)) : W p l e R s m args below meth c H locs 0 0 (rr_XQ D S9 post B ws XP A below args s) (F0 m pc ls [.int v]) :=
  W.widen (k := 1) (n := 6) (by omega) (by omega) (vx_ret (W.iret hexec hb hr (fun t ht _ => ⟨⟨v, u, rfl, hp, by rw [ht]; exact hP, hD⟩, hS.F ht⟩) hS.2.2 hdg hlk))
end EX2
