-- plain facts of both sides, on
def fbB (b : Bool) (n : Nat) (x : Int32) : Int32 := if b = true then x ||| (nI 1 <<< (nI n &&& 31)) else x
theorem bc_key : ∀ b0 b1 b2 b3 b4 b5 b6 : Bool, bcI (fbB b6 6 (fbB b5 5 (fbB b4 4 (fbB b3 3 (fbB b2 2 (fbB b1 1 (fbB b0 0 (nI 0)))))))) = nI (0 + b0.toNat + b1.toNat + b2.toNat + b3.toNat + b4.toNat + b5.toNat + b6.toNat) := by decide +kernel
theorem bq_toNat (c : Prop) [Decidable c] : bq c = (decide c).toNat := by
  by_cases h : c
  · rw [bq_t h, decide_eq_true h]; rfl
  · rw [bq_f h, decide_eq_false h]; rfl
theorem fsI_b (T : Nat) (vt : Nat → Nat) (n : Nat) : fsI T vt (n + 1) = fbB (decide (frP T vt n)) n (fsI T vt n) := by
  by_cases h : frP T vt n
  · rw [fsI_t h, decide_eq_true h]; rfl
  · rw [fsI_f h, decide_eq_false h]; rfl
theorem bc_fs (T : Nat) (vt : Nat → Nat) : bcI (fsI T vt 7) = nI (fcN T vt) := by
  rw [fsI_b, fsI_b, fsI_b, fsI_b, fsI_b, fsI_b, fsI_b, show fsI T vt 0 = nI 0 from rfl, bc_key]
  unfold fcN
  rw [ct_s, ct_s, ct_s, ct_s, ct_s, ct_s, ct_s, show ct (fun t => bq (frP T vt t)) 0 = 0 from rfl]
  rw [bq_toNat, bq_toNat, bq_toNat, bq_toNat, bq_toNat, bq_toNat, bq_toNat]
/-- fresh votes are those of the three kinds -/
theorem fc_sum {T : Nat} {vt vv : Nat → Nat} (h : ∀ t, t < 7 → vv t ≤ 2) : cvN T vt vv 0 7 + cvN T vt vv 1 7 + cvN T vt vv 2 7 = fcN T vt := by
  unfold cvN fcN
  rw [← ct_sum, ← ct_sum]
  refine ct_cong (fun t ht => ?_)
  have h1 := h t ht
  by_cases q : frP T vt t
  · rcases (show vv t = 0 ∨ vv t = 1 ∨ vv t = 2 by omega) with e | e | e
    · rw [bq_t ⟨q, e⟩, bq_f (fun z => by omega), bq_f (fun z => by omega), bq_t q]
    · rw [bq_f (fun z => by omega), bq_t ⟨q, e⟩, bq_f (fun z => by omega), bq_t q]
    · rw [bq_f (fun z => by omega), bq_f (fun z => by omega), bq_t ⟨q, e⟩, bq_t q]
  · rw [bq_f (fun z => q z.1), bq_f (fun z => q z.1), bq_f (fun z => q z.1), bq_f q]
-- sums in another order
theorem ct_rot7 (g : Nat → Nat) (T : Nat) : ct g 7 = ct (fun i => g ((T + 7 - i) % 7)) 7 := by
  simp only [ct]
  have h : T % 7 = 0 ∨ T % 7 = 1 ∨ T % 7 = 2 ∨ T % 7 = 3 ∨ T % 7 = 4 ∨ T % 7 = 5 ∨ T % 7 = 6 := by omega
  rcases h with h | h | h | h | h | h | h
  · rw [show (T + 7 - 0) % 7 = 0 from by omega, show (T + 7 - 1) % 7 = 6 from by omega, show (T + 7 - 2) % 7 = 5 from by omega, show (T + 7 - 3) % 7 = 4 from by omega, show (T + 7 - 4) % 7 = 3 from by omega, show (T + 7 - 5) % 7 = 2 from by omega, show (T + 7 - 6) % 7 = 1 from by omega]; omega
  · rw [show (T + 7 - 0) % 7 = 1 from by omega, show (T + 7 - 1) % 7 = 0 from by omega, show (T + 7 - 2) % 7 = 6 from by omega, show (T + 7 - 3) % 7 = 5 from by omega, show (T + 7 - 4) % 7 = 4 from by omega, show (T + 7 - 5) % 7 = 3 from by omega, show (T + 7 - 6) % 7 = 2 from by omega]; omega
  · rw [show (T + 7 - 0) % 7 = 2 from by omega, show (T + 7 - 1) % 7 = 1 from by omega, show (T + 7 - 2) % 7 = 0 from by omega, show (T + 7 - 3) % 7 = 6 from by omega, show (T + 7 - 4) % 7 = 5 from by omega, show (T + 7 - 5) % 7 = 4 from by omega, show (T + 7 - 6) % 7 = 3 from by omega]; omega
  · rw [show (T + 7 - 0) % 7 = 3 from by omega, show (T + 7 - 1) % 7 = 2 from by omega, show (T + 7 - 2) % 7 = 1 from by omega, show (T + 7 - 3) % 7 = 0 from by omega, show (T + 7 - 4) % 7 = 6 from by omega, show (T + 7 - 5) % 7 = 5 from by omega, show (T + 7 - 6) % 7 = 4 from by omega]; omega
  · rw [show (T + 7 - 0) % 7 = 4 from by omega, show (T + 7 - 1) % 7 = 3 from by omega, show (T + 7 - 2) % 7 = 2 from by omega, show (T + 7 - 3) % 7 = 1 from by omega, show (T + 7 - 4) % 7 = 0 from by omega, show (T + 7 - 5) % 7 = 6 from by omega, show (T + 7 - 6) % 7 = 5 from by omega]; omega
  · rw [show (T + 7 - 0) % 7 = 5 from by omega, show (T + 7 - 1) % 7 = 4 from by omega, show (T + 7 - 2) % 7 = 3 from by omega, show (T + 7 - 3) % 7 = 2 from by omega, show (T + 7 - 4) % 7 = 1 from by omega, show (T + 7 - 5) % 7 = 0 from by omega, show (T + 7 - 6) % 7 = 6 from by omega]; omega
  · rw [show (T + 7 - 0) % 7 = 6 from by omega, show (T + 7 - 1) % 7 = 5 from by omega, show (T + 7 - 2) % 7 = 4 from by omega, show (T + 7 - 3) % 7 = 3 from by omega, show (T + 7 - 4) % 7 = 2 from by omega, show (T + 7 - 5) % 7 = 1 from by omega, show (T + 7 - 6) % 7 = 0 from by omega]; omega
theorem ct_rot8 (g : Nat → Nat) (T : Nat) : ct g 8 = ct (fun i => g ((T + 8 - i) % 8)) 8 := by
  simp only [ct]
  have h : T % 8 = 0 ∨ T % 8 = 1 ∨ T % 8 = 2 ∨ T % 8 = 3 ∨ T % 8 = 4 ∨ T % 8 = 5 ∨ T % 8 = 6 ∨ T % 8 = 7 := by omega
  rcases h with h | h | h | h | h | h | h | h
  · rw [show (T + 8 - 0) % 8 = 0 from by omega, show (T + 8 - 1) % 8 = 7 from by omega, show (T + 8 - 2) % 8 = 6 from by omega, show (T + 8 - 3) % 8 = 5 from by omega, show (T + 8 - 4) % 8 = 4 from by omega, show (T + 8 - 5) % 8 = 3 from by omega, show (T + 8 - 6) % 8 = 2 from by omega, show (T + 8 - 7) % 8 = 1 from by omega]; omega
  · rw [show (T + 8 - 0) % 8 = 1 from by omega, show (T + 8 - 1) % 8 = 0 from by omega, show (T + 8 - 2) % 8 = 7 from by omega, show (T + 8 - 3) % 8 = 6 from by omega, show (T + 8 - 4) % 8 = 5 from by omega, show (T + 8 - 5) % 8 = 4 from by omega, show (T + 8 - 6) % 8 = 3 from by omega, show (T + 8 - 7) % 8 = 2 from by omega]; omega
  · rw [show (T + 8 - 0) % 8 = 2 from by omega, show (T + 8 - 1) % 8 = 1 from by omega, show (T + 8 - 2) % 8 = 0 from by omega, show (T + 8 - 3) % 8 = 7 from by omega, show (T + 8 - 4) % 8 = 6 from by omega, show (T + 8 - 5) % 8 = 5 from by omega, show (T + 8 - 6) % 8 = 4 from by omega, show (T + 8 - 7) % 8 = 3 from by omega]; omega
  · rw [show (T + 8 - 0) % 8 = 3 from by omega, show (T + 8 - 1) % 8 = 2 from by omega, show (T + 8 - 2) % 8 = 1 from by omega, show (T + 8 - 3) % 8 = 0 from by omega, show (T + 8 - 4) % 8 = 7 from by omega, show (T + 8 - 5) % 8 = 6 from by omega, show (T + 8 - 6) % 8 = 5 from by omega, show (T + 8 - 7) % 8 = 4 from by omega]; omega
  · rw [show (T + 8 - 0) % 8 = 4 from by omega, show (T + 8 - 1) % 8 = 3 from by omega, show (T + 8 - 2) % 8 = 2 from by omega, show (T + 8 - 3) % 8 = 1 from by omega, show (T + 8 - 4) % 8 = 0 from by omega, show (T + 8 - 5) % 8 = 7 from by omega, show (T + 8 - 6) % 8 = 6 from by omega, show (T + 8 - 7) % 8 = 5 from by omega]; omega
  · rw [show (T + 8 - 0) % 8 = 5 from by omega, show (T + 8 - 1) % 8 = 4 from by omega, show (T + 8 - 2) % 8 = 3 from by omega, show (T + 8 - 3) % 8 = 2 from by omega, show (T + 8 - 4) % 8 = 1 from by omega, show (T + 8 - 5) % 8 = 0 from by omega, show (T + 8 - 6) % 8 = 7 from by omega, show (T + 8 - 7) % 8 = 6 from by omega]; omega
  · rw [show (T + 8 - 0) % 8 = 6 from by omega, show (T + 8 - 1) % 8 = 5 from by omega, show (T + 8 - 2) % 8 = 4 from by omega, show (T + 8 - 3) % 8 = 3 from by omega, show (T + 8 - 4) % 8 = 2 from by omega, show (T + 8 - 5) % 8 = 1 from by omega, show (T + 8 - 6) % 8 = 0 from by omega, show (T + 8 - 7) % 8 = 7 from by omega]; omega
  · rw [show (T + 8 - 0) % 8 = 7 from by omega, show (T + 8 - 1) % 8 = 6 from by omega, show (T + 8 - 2) % 8 = 5 from by omega, show (T + 8 - 3) % 8 = 4 from by omega, show (T + 8 - 4) % 8 = 3 from by omega, show (T + 8 - 5) % 8 = 2 from by omega, show (T + 8 - 6) % 8 = 1 from by omega, show (T + 8 - 7) % 8 = 0 from by omega]; omega
theorem ct_const0 : ∀ n : Nat, ct (fun _ => 0) n = 0
  | 0 => rfl
  | n + 1 => by rw [ct_s, ct_const0 n]
theorem ct_swap (F : Nat → Nat → Nat) (m : Nat) : ∀ n : Nat, ct (fun r => ct (fun t => F r t) m) n = ct (fun t => ct (fun r => F r t) n) m
  | 0 => by show 0 = ct (fun _ => 0) m; rw [ct_const0]
  | n + 1 => by
    rw [ct_s, ct_swap F m n, ← ct_sum]
    exact ct_cong (fun t _ => rfl)
theorem ct_rows (g : Nat → Nat) (w : Nat) : ∀ a : Nat, ct g (a * w) = ct (fun r => ct (fun t => g (r * w + t)) w) a
  | 0 => by rw [Nat.zero_mul]; rfl
  | a + 1 => by rw [Nat.add_mul, Nat.one_mul, ct_add, ct_rows g w a, ct_s]
theorem ow_same {μ ρ : NS} (hM : IM μ) (hC : IC μ ρ) : owN (μ 0 0) (ρ 3) 49 = owN (μ 0 0) (μ 10) 56 := by
  unfold owN
  rw [show (49 : Nat) = 7 * 7 from rfl, show (56 : Nat) = 7 * 8 from rfl, ct_rows, ct_rows, ct_rot7 _ (μ 0 0), ct_swap]
  refine ct_cong (fun t ht => ?_)
  rw [ct_rot8 _ (μ 0 0), show ∀ F : Nat → Nat, ct F 8 = ct F 7 + F 7 from fun _ => rfl]
  have e7 : bq (μ 0 0 < μ 10 (t * 8 + (μ 0 0 + 8 - 7) % 8)) = 0 := bq_f (by
    obtain ⟨-, -, -, -, -, -, -, -, -, -, hr8, -⟩ := hM
    have h := hr8 7 t (by omega) ht
    unfold r8 at h
    rw [Nat.mul_comm t 8]
    omega)
  show _ = _ + bq (μ 0 0 < μ 10 (t * 8 + (μ 0 0 + 8 - 7) % 8))
  rw [e7, Nat.add_zero]
  refine ct_cong (fun i hi => ?_)
  have h := (hC.2.2.1 i t hi ht).1
  unfold r7 r8 at h
  show bq (μ 0 0 < ρ 3 ((μ 0 0 + 7 - i) % 7 * 7 + t)) = bq (μ 0 0 < μ 10 (t * 8 + (μ 0 0 + 8 - i) % 8))
  rw [h, Nat.mul_comm t 8]
-- cars
theorem on_same {μ ρ : NS} (hC : IC μ ρ) {j : Nat} (hj : j < 16) : ρ 1 j = onM μ j := hC.1 j hj
theorem cars_same {μ ρ : NS} (hC : IC μ ρ) : ct (ρ 1) 16 = ct (onM μ) 16 := ct_cong (fun j hj => on_same hC hj)
theorem nr_same {μ ρ : NS} (hC : IC μ ρ) : nrN (ρ 1) (ρ 0) 16 = nrN (onM μ) (pN μ) 16 := by
  unfold nrN
  refine ct_cong (fun j hj => bq_cong ?_)
  rw [← on_same hC hj]
  by_cases q : ρ 1 j = 1
  · rw [hC.2.1 j hj q]; exact Iff.rfl
  · exact ⟨fun z => absurd z.1 q, fun z => absurd z.1 q⟩
theorem lgi_cong {on on2 pl pl2 : Nat → Nat} {a acc : Nat} {n : Nat} (h1 : ∀ j, j < n → on j = on2 j) (h2 : ∀ j, j < n → on j = 1 → pl j = pl2 j) (ha : a < n) : ∀ b : Nat, b ≤ n → lgi on pl a acc b = lgi on2 pl2 a acc b
  | 0, _ => rfl
  | b + 1, hb => by
    have ih := lgi_cong (acc := acc) h1 h2 ha b (by omega)
    by_cases q : on a = 1 ∧ on b = 1
    · rw [lgi_t q, lgi_t (by rw [← h1 a ha, ← h1 b (by omega)]; exact q), ih, h2 a ha q.1, h2 b (by omega) q.2]
    · rw [lgi_f q, lgi_f (by rw [← h1 a ha, ← h1 b (by omega)]; exact q), ih]
theorem lgo_cong {on on2 pl pl2 : Nat → Nat} {n : Nat} (h1 : ∀ j, j < n → on j = on2 j) (h2 : ∀ j, j < n → on j = 1 → pl j = pl2 j) : ∀ a : Nat, a ≤ n → lgo on pl a = lgo on2 pl2 a
  | 0, _ => rfl
  | a + 1, ha => by
    show lgi on pl a (lgo on pl a) a = lgi on2 pl2 a (lgo on2 pl2 a) a
    rw [lgo_cong h1 h2 a (by omega), lgi_cong h1 h2 (by omega) a (by omega)]
theorem lg_same {μ ρ : NS} (hC : IC μ ρ) : lgo (ρ 1) (ρ 0) 16 = lgo (onM μ) (pN μ) 16 := lgo_cong (fun j hj => on_same hC hj) (fun j hj q => hC.2.1 j hj q) 16 (Nat.le_refl _)
theorem lgi_off {on pl : Nat → Nat} {a acc : Nat} (h : ¬ on a = 1) : ∀ b : Nat, lgi on pl a acc b = acc
  | 0 => rfl
  | b + 1 => by rw [lgi_f (fun z => h z.1), lgi_off h b]
theorem lgo_stop {on pl : Nat → Nat} {C : Nat} (h : ∀ j, C ≤ j → ¬ on j = 1) : ∀ d : Nat, lgo on pl (C + d) = lgo on pl C
  | 0 => rfl
  | d + 1 => by
    show lgi on pl (C + d) (lgo on pl (C + d)) (C + d) = lgo on pl C
    rw [lgi_off (h _ (by omega)), lgo_stop h d]
theorem onM_off {μ : NS} {j : Nat} (h : μ 3 0 ≤ j) : onM μ j = 0 := bq_f (by omega)
theorem lg_C {μ : NS} (hM : IM μ) : lgo (onM μ) (pN μ) (μ 3 0) = lgo (onM μ) (pN μ) 16 := by
  have h := lgo_stop (on := onM μ) (pl := pN μ) (C := μ 3 0) (fun j hj => by rw [onM_off hj]; omega) (16 - μ 3 0)
  rw [show μ 3 0 + (16 - μ 3 0) = 16 from by have := hM.2.2.2.1; omega] at h
  exact h.symm
theorem ct_stop {f : Nat → Nat} {C n : Nat} (hC : C ≤ n) (h : ∀ j, C ≤ j → f j = 0) : ct f C = ct f n := by
  have h1 := ct_add f C (n - C)
  rw [show C + (n - C) = n from by omega, ct_zero (f := fun j => f (C + j)) (fun j _ => h _ (by omega))] at h1
  omega
theorem nr_C {μ : NS} (hM : IM μ) : nrN (onM μ) (pN μ) (μ 3 0) = nrN (onM μ) (pN μ) 16 := ct_stop hM.2.2.2.1 (fun j hj => bq_f (fun z => by rw [onM_off hj] at z; omega))
theorem cars_C {μ : NS} (hM : IM μ) : ct (fun j => 1 - μ 5 j) (μ 3 0) = ct (onM μ) 16 := by
  rw [← ct_stop (f := onM μ) hM.2.2.2.1 (fun j hj => onM_off hj)]
  refine ct_cong (fun j hj => ?_)
  obtain ⟨-, -, -, hc, -, hoff, -⟩ := hM
  have := hoff j (by omega)
  unfold onM
  by_cases q : μ 5 j = 0
  · rw [bq_t ⟨hj, q⟩, q]
  · rw [bq_f (fun z => q z.2)]; omega
theorem pp_same {μ ρ : NS} (hC : IC μ ρ) (k : Nat) : ppN (μ 16) (μ 17) (ρ 5) k (μ 15 0) = ppl μ k := by
  unfold ppl ppN
  refine ct_cong (fun j hj => ?_)
  have h := hC.2.2.2.2 j hj
  by_cases q : μ 20 j = 0
  · rw [if_pos q] at h
    by_cases g : μ 16 j = k
    · rw [if_pos ⟨g, h⟩, if_pos ⟨g, q⟩]
    · rw [if_neg (fun z => g z.1), if_neg (fun z => g z.1)]
  · rw [if_neg q] at h
    rw [if_neg (fun z => by omega), if_neg (fun z => q z.2)]
theorem th_same {μ ρ : NS} (hM : IM μ) (hC : IC μ ρ) : thf (μ 21) (ρ 5) (μ 19) (μ 16) (oC (ρ 1) (plS μ ρ)) (uS μ) (spS μ) (μ 15 0) = thS μ := by
  funext j
  unfold thS thf
  by_cases hj : j < μ 15 0
  · obtain ⟨-, -, -, hcar, hbase, -, -, -, -, -, -, -, -, -, -, htk, -⟩ := hM
    obtain ⟨h1, -, -, -, -, -, h7⟩ := htk j hj
    have hA := hC.2.2.2.2 j hj
    have key : (j < μ 15 0 ∧ ρ 5 j = 0 ∧ uS μ < μ 19 j ∧ spS μ = 0 ∧ oC (ρ 1) (plS μ ρ) (μ 16 j) = 1) ↔ (j < μ 15 0 ∧ μ 20 j = 0 ∧ uS μ < μ 19 j ∧ spS μ = 0 ∧ ouM (uS μ) (μ 4) (μ 16 j) = 1) := by
      by_cases q : μ 20 j = 0
      · rw [if_pos q] at hA
        have hk : μ 16 j < 16 := by omega
        have hon : ρ 1 (μ 16 j) = 1 := by rw [hC.1 _ hk]; exact bq_t ⟨h1, h7 q⟩
        have hpl : plS μ ρ (μ 16 j) = (uS μ - μ 4 (μ 16 j)) % 1200 := by
          unfold plS mvf
          rw [if_pos ⟨hk, hon⟩, hC.2.1 _ hk hon]
          have := hbase _ hk
          unfold uS
          omega
        have ho : oC (ρ 1) (plS μ ρ) (μ 16 j) = ouM (uS μ) (μ 4) (μ 16 j) := by
          unfold oC ouM
          refine bq_cong ?_
          rw [hpl]
          constructor
          · intro z; omega
          · intro z; exact ⟨hon, by omega⟩
        rw [ho, hA]
        exact ⟨fun z => ⟨z.1, q, z.2.2⟩, fun z => ⟨z.1, rfl, z.2.2⟩⟩
      · rw [if_neg q] at hA
        exact ⟨fun z => by omega, fun z => absurd z.2.1 q⟩
    by_cases g : j < μ 15 0 ∧ ρ 5 j = 0 ∧ uS μ < μ 19 j ∧ spS μ = 0 ∧ oC (ρ 1) (plS μ ρ) (μ 16 j) = 1
    · rw [if_pos g, if_pos (key.mp g)]
    · rw [if_neg g, if_neg (fun z => g (key.mpr z))]
  · rw [if_neg (fun z => hj z.1), if_neg (fun z => hj z.1)]
theorem sp_same {μ ρ : NS} (hC : IC μ ρ) : wdN (μ 2 0) (dcN (cfN (T1 μ) (cbS μ ρ) (vtS μ) 2 7) (cfN (T1 μ) (cbS μ ρ) (vtS μ) 1 7) (cfN (T1 μ) (cbS μ ρ) (vtS μ) 0 7)) = spS μ := by
  unfold spS dwN
  rw [cf_cv (fun t ht => cb_same hC ht), cf_cv (fun t ht => cb_same hC ht), cf_cv (fun t ht => cb_same hC ht)]
theorem wd_same {μ ρ : NS} (hC : IC μ ρ) : wdN (μ 2 0) (dcN (cfN (μ 0 0) (ρ 4) (μ 12) 2 7) (cfN (μ 0 0) (ρ 4) (μ 12) 1 7) (cfN (μ 0 0) (ρ 4) (μ 12) 0 7)) = dwN (μ 0 0) (μ 2 0) (μ 12) (μ 13) := by
  unfold dwN
  rw [cf_cv hC.2.2.2.1, cf_cv hC.2.2.2.1, cf_cv hC.2.2.2.1]
-- a minute keeps it all
theorem IM_stp {μ : NS} (hM : IM μ) (hT : μ 0 0 < 1000) : IM (stp μ) := by
  have hvt' := fun t ht => vtS_le hM (t := t) ht
  have hvv' := fun t ht => vvS_le hM (t := t) ht
  have hr' := fun i t hi ht => r8_new hM (i := i) (t := t) hi ht
  have hb' := fun k hk => b8S_le hM (k := k) hk
  have hsp : spS μ ≤ 2 := dwN_le _ _ _ _
  have hfc := fcN_le (T1 μ) (vtS μ)
  have hpt := ptN_le (spS μ)
  obtain ⟨h0, hU, hhd, hcar, hbase, hoff, hoff2, hw, hcut, hb8, hr8, hvt, hvv, hrec, hN, htk, hth, hta0⟩ := hM
  refine ⟨?_, ?_, hhd, hcar, ?_, hoff, hoff2, hw, hcut, hb', hr', hvt', hvv', ?_, hN, ?_, ?_, ?_⟩
  · show T1 μ ≤ 1000; exact hT
  · show uS μ ≤ 30 * T1 μ; unfold uS T1; omega
  · intro j hj; have := hbase j hj; show μ 4 j ≤ uS μ; unfold uS; omega
  · intro j hj
    show va_up (μ 14) (T1 μ) (rcS μ) j ≤ 72 ∧ va_up (μ 14) (T1 μ) (rcS μ) j % 10 ≤ 2
    unfold va_up
    split
    · unfold rcS; omega
    · exact hrec j hj
  · intro j hj
    obtain ⟨g1, g2, g3, g4, g5, g6, g7⟩ := htk j hj
    refine ⟨g1, g2, g3, g4, ?_, ?_, ?_⟩
    · show μ 19 j ≤ uS μ + 1200; unfold uS; omega
    · show taS μ j ≤ T1 μ; unfold taS taf; split
      · exact Nat.le_refl _
      · unfold T1; omega
    · intro (z : taS μ j = 0)
      refine g7 ?_
      unfold taS taf at z
      split at z
      · unfold T1 at z; omega
      · exact z
  · intro j hj
    have := hth j hj
    show thS μ j ≤ T1 μ
    unfold thS thf T1
    split <;> omega
  · intro j hj hn
    show taS μ j = 0
    unfold taS taf
    have hn2 : μ 15 0 ≤ j := hn
    rw [if_neg (by omega)]
    exact hta0 j hj hn2
theorem IC_stp {μ ρ : NS} (hM : IM μ) (hC : IC μ ρ) : IC (stp μ) (stpR μ ρ) := by
  have hrg := fun i t hi ht => rg_new hC (i := i) (t := t) hi ht
  have hcb := fun t ht => cb_same hC (t := t) ht
  obtain ⟨-, -, -, -, hbase, -⟩ := hM
  refine ⟨hC.1, ?_, hrg, hcb, ?_⟩
  · intro j hj (q : ρ 1 j = 1)
    show plS μ ρ j = (uS μ - μ 4 j) % 1200
    unfold plS mvf
    rw [if_pos ⟨hj, q⟩, hC.2.1 j hj q]
    have := hbase j hj
    unfold uS
    omega
  · intro j hj
    have hA := hC.2.2.2.2 j hj
    show tAS μ ρ j = if taS μ j = 0 then 0 else taS μ j + 1
    have hj2 : j < μ 15 0 := hj
    by_cases q : μ 20 j = 0
    · rw [if_pos q] at hA
      by_cases g : μ 19 j ≤ uS μ
      · have e1 : tAS μ ρ j = T1 μ + 1 := by unfold tAS taf; exact if_pos ⟨hj2, hA, g⟩
        have e2 : taS μ j = T1 μ := by unfold taS taf; exact if_pos ⟨hj2, q, g⟩
        rw [e1, e2, if_neg (by unfold T1; omega)]
      · have e1 : tAS μ ρ j = ρ 5 j := by unfold tAS taf; exact if_neg (fun z => g z.2.2)
        have e2 : taS μ j = μ 20 j := by unfold taS taf; exact if_neg (fun z => g z.2.2)
        rw [e1, e2, if_pos q, hA]
    · rw [if_neg q] at hA
      have e1 : tAS μ ρ j = ρ 5 j := by unfold tAS taf; exact if_neg (fun z => by omega)
      have e2 : taS μ j = μ 20 j := by unfold taS taf; exact if_neg (fun z => q z.2.1)
      rw [e1, e2, if_neg q, hA]
