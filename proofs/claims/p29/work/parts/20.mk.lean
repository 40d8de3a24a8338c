-- making cells: rows of zeros, objects, constructors
def adF (l : List Nat) (k : Nat) : Nat := l.getD k 0
/-- a row's first n are v, the rest w -/
def ini (v w n : Nat) : Nat → Nat := fun j => if j < n then v else w
theorem ini_0 (v w : Nat) : ini v w 0 = fun _ => w := by funext j; unfold ini; rw [if_neg (Nat.not_lt_zero j)]
theorem ini_s (v w n : Nat) : va_up (ini v w n) n v = ini v w (n + 1) := by
  funext j; unfold va_up ini
  by_cases q : j = n
  · subst q; rw [if_pos rfl, if_pos (Nat.lt_succ_self j)]
  · rw [if_neg q]; simp only [lt_succ_eq q]
section MK
variable {p : Program} {l : Launch} {e : Env} {R : Room} {s : State} {m : MethodId} {args : Array Value} {below : List Frame} {meth : Method} {c : Code} {H : Heap} {locs : List Loc} {cells slots : Nat} {Q : State → Prop}
variable {pc : Nat} {ls : Array Slot} {rest st0 : List Value} {cc : ByteArray} {nL : Nat} {own : String} {D : va_G} {cs : rr_C3} {ws wc : va_W} {A : Nat → Prop} {H0 : Heap}
theorem rr_newI {N : Nat} (f : Nat → Int32) (hf : ∀ j, f j = 0) (hexec : p.tables.exec = Jvm.exec) (hb : c.code = cc) (harr : (Cond.arrayClass .int).before args s = true) (hK : rr_K D cs s) (hP : va_P D classes ws H) (hD : va_D A ws) (hS : va_S A H0 H locs) (hA : ∀ q, H0.size ≤ q → A q) (hN : N ≤ 134217728) (hcells : cells + 1 ≤ R.cells) (hslots : slots + N ≤ R.slots) (hdg : decode cc pc = .ok (.newarray .int, 2))
    (kk : ∀ (q : Nat) (H1 : Heap), va_P D classes (ws ++ [(q, .inl (cs.1, N, .inl f))]) H1 → va_D A (ws ++ [(q, .inl (cs.1, N, .inl f))]) → va_S A H0 H1 locs → W p l e R s m args below meth c H1 locs (cells + 1) (slots + N) Q (F0 m (pc + 2) ls (.ref q :: rest))) : W p l e R s m args below meth c H locs cells slots Q (F0 m pc ls (.int (nI N) :: rest)) := by
  refine va_newa (atype := .int) (ty := .int) (N' := N) (a0 := (N, .inl f)) hexec hb harr rfl hK.1 hP hD hS hA (fun cA => by rw [vp_cell_i]; congr 1; funext j; rw [hf]; rfl) (nI_pos (by omega)) (nI_clamp (by omega)) (by show N * 4 ≤ _; omega) hcells hslots hdg ?_
  intro q cA H1 hK2 hP2 hD2 hS2
  have h1 := va_nm_int (hK2.2 3 _ rfl).2
  have h2 := va_nm_int (hK.1.2 0 _ rfl).2
  cases Option.some.inj (h1.symm.trans h2)
  exact kk q H1 hP2 hD2 hS2
theorem rr_newZ {N : Nat} (f : Nat → Int32) (hf : ∀ j, f j = 0) (hexec : p.tables.exec = Jvm.exec) (hb : c.code = cc) (harr : (Cond.arrayClass .boolean).before args s = true) (hK : rr_K D cs s) (hP : va_P D classes ws H) (hD : va_D A ws) (hS : va_S A H0 H locs) (hA : ∀ q, H0.size ≤ q → A q) (hN : N ≤ 134217728) (hcells : cells + 1 ≤ R.cells) (hslots : slots + N ≤ R.slots) (hdg : decode cc pc = .ok (.newarray .boolean, 2))
    (kk : ∀ (q : Nat) (H1 : Heap), va_P D classes (ws ++ [(q, .inl (cs.2.1, N, .inl f))]) H1 → va_D A (ws ++ [(q, .inl (cs.2.1, N, .inl f))]) → va_S A H0 H1 locs → W p l e R s m args below meth c H1 locs (cells + 1) (slots + N) Q (F0 m (pc + 2) ls (.ref q :: rest))) : W p l e R s m args below meth c H locs cells slots Q (F0 m pc ls (.int (nI N) :: rest)) := by
  refine va_newa (atype := .boolean) (ty := .boolean) (N' := N) (a0 := (N, .inl f)) hexec hb harr rfl hK.1 hP hD hS hA (fun cA => by rw [vp_cell_i]; congr 1; funext j; rw [hf]; rfl) (nI_pos (by omega)) (nI_clamp (by omega)) (by show N * 1 ≤ _; omega) hcells hslots hdg ?_
  intro q cA H1 hK2 hP2 hD2 hS2
  have h1 := va_nm_boolean (hK2.2 3 _ rfl).2
  have h2 := va_nm_boolean (hK.1.2 1 _ rfl).2
  cases Option.some.inj (h1.symm.trans h2)
  exact kk q H1 hP2 hD2 hS2
/-- behind a call that writes and answers nothing -/
theorem rr_tailv {S9 : Type} {post : S9 → Prop} {B : S9 → va_W} {wr : va_W} {mc ms : Nat} {a : Array Value} (hP : va_P D classes ws H) (hD : va_D A ws) (hS : va_S A H0 H locs) (hA : ∀ q : Nat, H0.size ≤ q → A q) (isC isR : List Nat) (hC : isC.map (fun i => ws[i]?) = wc.map some) (hRr : isR.map (fun i => ws[i]?) = wr.map some) (hn : va_nd isR = true) (hdis : ∀ i ∈ isR, i ∉ isC)
    (run : va_Run p l e R s m args below meth c H locs cells slots mc ms (F0 m pc ls st0) rest (va_Qv post (fun u t => va_P D classes (B u) t.heap ∧ va_D (va_A wc H.size) (B u)) (va_A wc H.size) a) (va_A wc H.size))
    (kk : ∀ (u : S9) (H1 : Heap) (locs1 : List Loc), post u → va_P D classes (wr ++ B u) H1 → va_D A (wr ++ B u) → va_S A H0 H1 locs1 → W p l e R s m args below meth c H1 locs1 (cells + mc) (slots + ms) Q (F0 m (pc + 3) ls rest)) : W p l e R s m args below meth c H locs cells slots Q (F0 m pc ls st0) := by
  have hFc := va_free (wc := wc) hD hS hA isC hC
  refine va_callv run hS (fun q _ h => hFc q h) hFc ?_
  intro u t H1 locs1 ht1 hvm hp hB hz hk hS1
  obtain ⟨hP1, hD1⟩ := hB
  rw [ht1] at hP1
  obtain ⟨g1, g2⟩ := va_join (wr := wr) (w1 := B u) hP hD isC isR hC hRr hn hdis hk hFc hP1 hD1
  exact kk u H1 locs1 hp g1 g2 hS1
theorem rr_cut {isC : List Nat} (hP : va_P D classes ws H) (hC : isC.map (fun i => ws[i]?) = wc.map some) : va_P D classes wc H := fun k q hk => by
  have h1 : (isC.map (fun i => ws[i]?))[k]? = some (some q) := by rw [hC, List.getElem?_map, hk]; rfl
  rw [List.getElem?_map] at h1
  cases hi : isC[k]? with
  | none => rw [hi] at h1; cases h1
  | some i => rw [hi] at h1; exact hP i q (Option.some.inj h1)
/-- a constructor -/
theorem rr_cI {y : MethodName} {b : ByteArray} {n fr lc mc ms idx o : Nat} {As : List Value} {S9 : Type} {post : S9 → Prop} {B : S9 → va_W} {lv : List (Nat × Value)} {wr : va_W} (S : CallFix p m c cc nL s args rr_all own) (hK : rr_K D cs s) (hP : va_P D classes ws H) (hD : va_D A ws) (hS : va_S A H0 H locs) (hA : ∀ q : Nat, H0.size ≤ q → A q) (hM : MV l y b n fr lc mc ms D cs wc H.size (.ref o :: As) post B) (K : rr_CI y b n As.length) (isC isR : List Nat) (hC : isC.map (fun i => ws[i]?) = wc.map some) (hnd : va_nd isC = true) (hRr : isR.map (fun i => ws[i]?) = wr.map some) (hn : va_nd isR = true) (hdis : ∀ i ∈ isR, i ∉ isC)
    (hlink : Cond.methodLink own idx y ∈ rr_all) (hR : fr + 1 ≤ R.frames ∧ 8 + (n + 11) + lc ≤ R.locals) (hf : cells + mc ≤ R.cells ∧ slots + ms ≤ R.slots) (hl : lv_has ls nL lv) (hst : (rest.map fun v => v.category).sum ≤ 8) (h0 : st0 = As.reverse ++ .ref o :: rest) (hdg : decode cc pc = .ok (.invokespecial idx, 3))
    (kk : ∀ (u : S9) (H1 : Heap) (locs1 : List Loc), post u → va_P D classes (wr ++ B u) H1 → va_D A (wr ++ B u) → va_S A H0 H1 locs1 → W p l e R s m args below meth c H1 locs1 (cells + mc) (slots + ms) Q (F0 m (pc + 3) ls rest)) : W p l e R s m args below meth c H locs cells slots Q (F0 m pc ls st0) := by
  obtain ⟨k0, k1, k3, k4, k5, k6, k7⟩ := K
  have ht := S.2.2.2.2
  have hPc : va_P D classes wc H := rr_cut hP hC
  have hDc : va_D (fun _ => True) wc := (hD.sub isC hnd hC).weaken (fun _ _ _ _ => trivial)
  exact rr_tailv hP hD hS hA isC isR hC hRr hn hdis (va_runI (As := As) (rest := rest) S hM ⟨callB_of As.length ht (rr_gcode k4) rfl rfl rfl (ht _ k3) (ht _ hlink) ⟨k5, k6, k7⟩ hR, k0, ht _ k1⟩ ⟨rr_blindM, fun U hU hW => ⟨rfl, by rw [hU], by rw [hU]; exact hPc, hK.warm hW, hDc⟩⟩ rfl rfl hl.1 h0 (lv_room hst) hdg hf) kk
/-- .. a private one of a nest mate -/
theorem rr_cIN {y : MethodName} {b : ByteArray} {n fr lc mc ms idx o : Nat} {host : String} {As : List Value} {S9 : Type} {post : S9 → Prop} {B : S9 → va_W} {lv : List (Nat × Value)} {wr : va_W} (S : CallFix p m c cc nL s args rr_all own) (hK : rr_K D cs s) (hP : va_P D classes ws H) (hD : va_D A ws) (hS : va_S A H0 H locs) (hA : ∀ q : Nat, H0.size ≤ q → A q) (hM : MV l y b n fr lc mc ms D cs wc H.size (.ref o :: As) post B) (K : rr_CI y b n As.length) (isC isR : List Nat) (hC : isC.map (fun i => ws[i]?) = wc.map some) (hnd : va_nd isC = true) (hRr : isR.map (fun i => ws[i]?) = wr.map some) (hn : va_nd isR = true) (hdis : ∀ i ∈ isR, i ∉ isC)
    (hlink : (own, idx, y, host) ∈ rr_nl) (hR : fr + 1 ≤ R.frames ∧ 8 + (n + 11) + lc ≤ R.locals) (hf : cells + mc ≤ R.cells ∧ slots + ms ≤ R.slots) (hl : lv_has ls nL lv) (hst : (rest.map fun v => v.category).sum ≤ 8) (h0 : st0 = As.reverse ++ .ref o :: rest) (hdg : decode cc pc = .ok (.invokespecial idx, 3))
    (kk : ∀ (u : S9) (H1 : Heap) (locs1 : List Loc), post u → va_P D classes (wr ++ B u) H1 → va_D A (wr ++ B u) → va_S A H0 H1 locs1 → W p l e R s m args below meth c H1 locs1 (cells + mc) (slots + ms) Q (F0 m (pc + 3) ls rest)) : W p l e R s m args below meth c H locs cells slots Q (F0 m pc ls st0) := by
  obtain ⟨k0, k1, k3, k4, k5, k6, k7⟩ := K
  have ht := S.2.2.2.2
  have hPc : va_P D classes wc H := rr_cut hP hC
  have hDc : va_D (fun _ => True) wc := (hD.sub isC hnd hC).weaken (fun _ _ _ _ => trivial)
  exact rr_tailv hP hD hS hA isC isR hC hRr hn hdis (va_runIN (As := As) (rest := rest) S hM ⟨va_cnB As.length ht (rr_gcode k4) rfl rfl rfl (hK.2 _ hlink) (ht _ k3) ⟨k5, k6, k7⟩ hR, k0, ht _ k1⟩ ⟨rr_blindM, fun U hU hW => ⟨rfl, by rw [hU], by rw [hU]; exact hPc, hK.warm hW, hDc⟩⟩ rfl rfl hl.1 h0 (lv_room hst) hdg hf) kk
end MK
/-- the state of a new object -/
def mu0 : NS := va_up (va_up (va_up (fun _ _ => 0) 7 (ini 40 0 7)) 8 (ini 70 0 7)) 12 (ini 0 4294967296 7)
def ro0 : NS := va_up (va_up (fun _ _ => 0) 4 (ini 0 1 7)) 5 (fun _ => 1)
theorem nI_big : nI 4294967296 = nI 0 := by decide +kernel
theorem zI_big : zI 4294967296 = 0 := by decide +kernel
theorem mI_1 : mI 1 = 0 := by decide +kernel
theorem mu0_12 : (fun j => nI (mu0 12 j)) = fun j => nI ((fun _ => 0) j) := by
  funext j
  show nI (ini 0 4294967296 7 j) = nI 0
  unfold ini
  split
  · rfl
  · exact nI_big
theorem IM_0 : IM mu0 := by
  refine ⟨Nat.zero_le _, Nat.zero_le _, Nat.zero_le _, Nat.zero_le _, fun _ _ => Nat.zero_le _, fun _ _ => Nat.zero_le _, fun _ _ _ => rfl, fun j hj => ⟨Nat.zero_le _, ?_, ?_⟩, fun _ _ => Nat.zero_le _, fun _ _ => Nat.zero_le _, fun _ _ _ _ => Nat.zero_le _, fun j hj => ?_, fun _ _ => Nat.zero_le _, fun _ _ => ⟨Nat.zero_le _, Nat.zero_le _⟩, Nat.zero_le _, fun j hj => absurd hj (Nat.not_lt_zero j), fun _ _ => Nat.zero_le _, fun _ _ _ => rfl⟩
  · show ini 40 0 7 j ≤ 150
    unfold ini; split <;> omega
  · show ini 70 0 7 j ≤ 150
    unfold ini; split <;> omega
  · show ini 0 4294967296 7 j ≤ 0
    unfold ini; rw [if_pos hj]; exact Nat.le_refl _
theorem IC_0 : IC mu0 ro0 := by
  refine ⟨fun j _ => (bq_f (fun z => absurd z.1 (Nat.not_lt_zero j))).symm, fun j _ q => absurd (show (0 : Nat) = 1 from q) (by decide), fun _ _ _ _ => ⟨rfl, rfl⟩, fun j hj => ?_, fun j hj => absurd hj (Nat.not_lt_zero j)⟩
  show ini 0 1 7 j = if ini 0 4294967296 7 j = 0 then 0 else 0 + 1
  unfold ini
  rw [if_pos hj, if_pos hj, if_pos rfl]
