-- plain facts of the refutation's states: no minute has passed, no ticket is sold; of c cars all but the last d are off
def SC (μ : NS) (c d : Nat) : Prop := μ 0 0 = 0 ∧ μ 1 0 = 0 ∧ μ 2 0 = 0 ∧ μ 3 0 = c ∧ μ 15 0 = 0 ∧ (∀ j, j < 16 → μ 4 j = 0) ∧ (∀ j, j < c → μ 5 j = if j + d < c then 1 else 0) ∧ (∀ j, j < 7 → μ 12 j = 0) ∧ (∀ j, j < 56 → μ 10 j = 0)
theorem SC_0 : SC mu0 0 0 := ⟨rfl, rfl, rfl, rfl, rfl, fun _ _ => rfl, fun j hj => absurd hj (Nat.not_lt_zero j), fun j hj => (by show ini 0 4294967296 7 j = 0; unfold ini; rw [if_pos hj]), fun _ _ => rfl⟩
theorem SC_put {μ : NS} {c : Nat} (hM : IM μ) (h : SC μ c 0) (hc : c < 16) : SC (muPut μ) (c + 1) 1 := by
  obtain ⟨h0, h1, h2, h3, h15, h4, h5, h12, h10⟩ := h
  obtain ⟨-, -, -, -, -, -, hoff2, -⟩ := hM
  refine ⟨h0, h1, h2, ?_, h15, fun j hj => ?_, fun j hj => ?_, h12, h10⟩
  · show μ 3 0 + 1 = c + 1; rw [h3]
  · show va_up (μ 4) (μ 3 0) (μ 1 0) j = 0
    unfold va_up; split
    · exact h1
    · exact h4 j hj
  · show μ 5 j = if j + 1 < c + 1 then 1 else 0
    by_cases q : j < c
    · rw [h5 j q, if_pos (by omega), if_pos (by omega)]
    · rw [hoff2 j (by omega) (by omega), if_neg (by omega)]
theorem SC_off {μ : NS} {c : Nat} (h : SC μ (c + 1) 1) : SC (muOff μ c) (c + 1) 0 := by
  obtain ⟨h0, h1, h2, h3, h15, h4, h5, h12, h10⟩ := h
  refine ⟨h0, h1, h2, h3, h15, h4, fun j hj => ?_, h12, h10⟩
  show va_up (μ 5) c 1 j = if j + 0 < c + 1 then 1 else 0
  rw [if_pos (by omega)]
  unfold va_up
  by_cases q : j = c
  · rw [if_pos q]
  · rw [if_neg q, h5 j hj, if_pos (by omega)]
section SCF
variable {μ : NS} {c d : Nat}
theorem SC.on (h : SC μ c d) (j : Nat) : onM μ j = bq (j < c ∧ c ≤ j + d) := by
  obtain ⟨-, -, -, h3, -, -, h5, -, -⟩ := h
  unfold onM
  refine bq_cong ?_
  rw [h3]
  constructor
  · rintro ⟨a, b⟩
    rw [h5 j a] at b
    refine ⟨a, ?_⟩
    by_cases q : j + d < c
    · rw [if_pos q] at b; omega
    · omega
  · rintro ⟨a, b⟩
    exact ⟨a, by rw [h5 j a, if_neg (by omega)]⟩
theorem SC.pl (h : SC μ c d) {j : Nat} (hj : j < 16) : pN μ j = 0 := by
  obtain ⟨-, h1, -, -, -, h4, -⟩ := h
  unfold pN
  rw [h1, h4 j hj]
theorem SC.pp (h : SC μ c d) (k : Nat) : ppl μ k = 0 := by
  obtain ⟨-, -, -, -, h15, -⟩ := h
  unfold ppl
  rw [h15]
  rfl
theorem SC.car1 (h : SC μ c d) (hc : c ≤ 16) {j : Nat} (hj : j < c) (q : c ≤ j + d) : thCar μ (nI j) = 0 := by
  obtain ⟨-, -, -, h3, -, -, h5, -, -⟩ := h
  unfold thCar
  refine if_pos ?_
  show ix 16 (nI j) < μ 3 0 ∧ μ 5 (ix 16 (nI j)) = 0
  rw [ix_nI (show j < 16 by omega) (by decide), h3, h5 j hj, if_neg (by omega)]
  exact ⟨hj, rfl⟩
theorem SC.car0 (h : SC μ c d) (hc : c ≤ 16) {j : Nat} (hj : j < c) (q : j + d < c) : ¬ thCar μ (nI j) = 0 := by
  obtain ⟨-, -, -, h3, -, -, h5, -, -⟩ := h
  unfold thCar
  rw [if_neg]
  · decide
  · show ¬ (ix 16 (nI j) < μ 3 0 ∧ μ 5 (ix 16 (nI j)) = 0)
    rw [ix_nI (show j < 16 by omega) (by decide), h3, h5 j hj, if_pos q]
    omega
theorem SC.put0 (h : SC μ c 0) (hc : c < 16) : thPut μ = 0 := by
  unfold thPut
  refine if_pos ⟨by rw [h.2.2.2.1]; exact hc, ?_⟩
  unfold nrN
  refine ct_zero (fun j hj => bq_f (fun z => ?_))
  have h1 := z.1
  rw [h.on, bq_f (by omega)] at h1
  omega
theorem SC.put1 (h : SC μ (c + 1) 1) (hc : c < 16) : ¬ thPut μ = 0 := by
  unfold thPut
  rw [if_neg]
  · decide
  · rintro ⟨-, z⟩
    refine nrN_pos (i := c) (n := 16) hc ?_ ?_ z
    · rw [h.on, bq_t (by omega)]
    · rw [h.pl hc]; decide
theorem SC.putF (h : SC μ 16 0) : ¬ thPut μ = 0 := by
  unfold thPut
  rw [if_neg]
  · decide
  · rintro ⟨z, -⟩
    rw [h.2.2.2.1] at z
    omega
theorem SC.off0 (h : SC μ (c + 1) 1) (hc : c < 16) : thOff μ (nI c) = 0 := by
  have e := ix_nI hc (show (16 : Nat) < 2 ^ 31 by decide)
  unfold thOff
  rw [if_pos, if_pos]
  · rw [e, h.pl hc, h.pp]
    exact ⟨by decide, rfl⟩
  · show ix 16 (nI c) < μ 3 0 ∧ μ 5 (ix 16 (nI c)) = 0
    rw [e, h.2.2.2.1, h.2.2.2.2.2.2.1 c (by omega), if_neg (by omega)]
    exact ⟨by omega, rfl⟩
theorem SC.offA (h : SC μ (c + 1) 1) (hc : c < 16) : μ 1 0 - μ 4 (ix 16 (nI c)) = 0 := by
  rw [h.2.1]; exact Nat.zero_sub _
theorem SC.cnt (h : SC μ c d) (hd : d ≤ c) : ∀ i : Nat, i ≤ c → ct (onM μ) i = i + d - c
  | 0, _ => by show 0 = _; omega
  | i + 1, hi => by
    rw [ct_s, h.cnt hd i (by omega), h.on i]
    by_cases q : c ≤ i + d
    · rw [bq_t ⟨by omega, q⟩]; omega
    · rw [bq_f (by omega)]; omega
theorem SC.cntAll (h : SC μ c d) (hd : d ≤ c) (hc : c ≤ 16) : ct (onM μ) 16 = d := by
  rw [← ct_stop (f := onM μ) (C := c) hc (fun j hj => by rw [h.on]; exact bq_f (by omega)), h.cnt hd c (Nat.le_refl c)]
  omega
theorem lgi_one {on pl : Nat → Nat} {a acc : Nat} (h : ∀ b, b < a → ¬ (on a = 1 ∧ on b = 1)) : ∀ b : Nat, b ≤ a → lgi on pl a acc b = acc
  | 0, _ => rfl
  | b + 1, hb => by rw [lgi_f (h b (by omega)), lgi_one h b (by omega)]
theorem lgo_one {on pl : Nat → Nat} (h : ∀ a b, b < a → ¬ (on a = 1 ∧ on b = 1)) : ∀ n : Nat, lgo on pl n = 0
  | 0 => rfl
  | n + 1 => by
    show lgi on pl n (lgo on pl n) n = 0
    rw [lgo_one h n, lgi_one (h n) n (Nat.le_refl n)]
theorem SC.gap (h : SC μ c d) (hd : d ≤ 1) : lgo (onM μ) (pN μ) 16 = 0 := lgo_one (fun a b hab z => by
  have z1 := z.1
  have z2 := z.2
  rw [h.on] at z1 z2
  by_cases q1 : a < c ∧ c ≤ a + d
  · by_cases q2 : b < c ∧ c ≤ b + d
    · omega
    · rw [bq_f q2] at z2; omega
  · rw [bq_f q1] at z1; omega) 16
theorem fsI_z {T : Nat} {vt : Nat → Nat} : ∀ n : Nat, (∀ j, j < n → vt j = 0) → fsI T vt n = nI 0
  | 0, _ => rfl
  | n + 1, h => by rw [fsI_f (fun z => z.1 (h n (by omega))), fsI_z n (fun j hj => h j (by omega))]
theorem SC.fresh (h : SC μ c d) : fsI (μ 0 0) (μ 12) 7 = nI 0 := fsI_z 7 h.2.2.2.2.2.2.2.1
theorem SC.way (h : SC μ c d) : owN (μ 0 0) (μ 10) 56 = 0 := ct_zero (fun j hj => bq_f (by rw [h.1, h.2.2.2.2.2.2.2.2 j hj]; omega))
theorem SC.vt (h : SC μ c d) {t : Nat} (ht : t < 7) : zI (μ 12 (ix 7 (nI t))) = -1 := by rw [ix_nI ht (by decide), h.2.2.2.2.2.2.2.1 t ht]; rfl
theorem SC.vl (h : SC μ c d) {t : Nat} (ht : t < 7) : mI (vlN μ (ix 7 (nI t))) = -1 := by
  rw [ix_nI ht (by decide)]
  unfold vlN
  rw [if_pos (h.2.2.2.2.2.2.2.1 t ht)]
  exact mI_0
theorem SC.tow {t : Nat} (ht : t < 7) : thTow (nI t) = 0 := if_pos (by rw [ix_nI ht (by decide)]; exact ht)
theorem cfN_z {T : Nat} {cb vt : Nat → Nat} {w : Nat} (h : ∀ j, j < 7 → vt j = 0) : cfN T cb vt w 7 = 0 := ct_zero (fun j hj => bq_f (fun z => z.2.1 (h j hj)))
theorem SC.dec (h : SC μ c d) (cb : Nat → Nat) : wdN (μ 2 0) (dcN (cfN (μ 0 0) cb (μ 12) 2 7) (cfN (μ 0 0) cb (μ 12) 1 7) (cfN (μ 0 0) cb (μ 12) 0 7)) = 0 := by
  rw [cfN_z h.2.2.2.2.2.2.2.1, cfN_z h.2.2.2.2.2.2.2.1, cfN_z h.2.2.2.2.2.2.2.1, h.2.2.1]
  rfl
theorem SC.ref (h : SC μ c d) : rsN (μ 18) (μ 17) (μ 21) (μ 15 0) = 0 := by rw [h.2.2.2.2.1]; rfl
end SCF
theorem shr0 {t : Nat} (h : t < 7) : (nI 0 >>> (nI t &&& 31)) &&& nI 1 = nI 0 := by
  rcases (show t = 0 ∨ t = 1 ∨ t = 2 ∨ t = 3 ∨ t = 4 ∨ t = 5 ∨ t = 6 by omega) with rfl | rfl | rfl | rfl | rfl | rfl | rfl <;> decide
/-- what 'low' answers -/
def lowI (v n : Int32) : Int32 := (v &&& 2147483647) - (v &&& 2147483647) / n * n
