-- when calls are refused, and what they answer, in the numbers of the state
theorem ix_spec (k : Nat) (hk : k < 2 ^ 31) (x : Int32) : (x.toInt < 0 ∧ ix k x = k) ∨ ((k : Int) ≤ x.toInt ∧ ix k x = k) ∨ (0 ≤ x.toInt ∧ x.toInt < (k : Int) ∧ ((ix k x : Nat) : Int) = x.toInt) := by
  rcases pk_ix x hk with h | h | ⟨j, h, rfl⟩
  · refine Or.inl ⟨?_, ix_neg h⟩
    rw [Int32.lt_iff_toInt_lt] at h
    have z : (0 : Int32).toInt = 0 := by decide
    omega
  · refine Or.inr (Or.inl ⟨?_, ix_big hk h⟩)
    rw [Int32.le_iff_toInt_le, nI_toInt hk] at h
    exact h
  · refine Or.inr (Or.inr ?_)
    rw [ix_nI h hk, nI_toInt (by omega)]
    omega
theorem i0_toInt : (0 : Int32).toInt = 0 := by decide
theorem IC.on {μ ρ : NS} (hC : IC μ ρ) : ∀ j, j < 16 → ρ 1 j ≤ 1 := fun j hj => by rw [hC.1 j hj]; exact bq_le _
theorem IC.pl {μ ρ : NS} (hC : IC μ ρ) : ∀ j, j < 16 → ρ 1 j = 1 → ρ 0 j < 1200 := fun j hj q => by rw [hC.2.1 j hj q]; omega
theorem IC.cb {μ ρ : NS} (hM : IM μ) (hC : IC μ ρ) : ∀ j, j < 7 → ρ 4 j ≤ 3 := fun j hj => by
  obtain ⟨-, -, -, -, -, -, -, -, -, -, -, -, hvv, -⟩ := hM
  have := hvv j hj
  rw [hC.2.2.2.1 j hj]; split <;> omega
theorem IC.tA {μ ρ : NS} (hM : IM μ) (hC : IC μ ρ) : ∀ j, j < μ 15 0 → ρ 5 j ≤ 1001 := fun j hj => by
  obtain ⟨h0, -, -, -, -, -, -, -, -, -, -, -, -, -, -, htk, -⟩ := hM
  have h1 := (htk j hj).2.2.2.2.2.1
  rw [hC.2.2.2.2 j hj]; split <;> omega
abbrev caQ (μ : NS) (x : Int32) : Prop := ix 16 x < μ 3 0 ∧ μ 5 (ix 16 x) = 0
theorem ca_on {μ ρ : NS} (hM : IM μ) (hC : IC μ ρ) {x : Int32} : (ix 16 x < 16 ∧ ρ 1 (ix 16 x) = 1) ↔ caQ μ x := by
  obtain ⟨-, -, -, hcar, -⟩ := hM
  constructor
  · rintro ⟨h1, h2⟩
    rw [hC.1 _ h1] at h2
    by_cases q : ix 16 x < μ 3 0 ∧ μ 5 (ix 16 x) = 0
    · exact q
    · rw [bq_f q] at h2; omega
  · intro h
    have h1 : ix 16 x < 16 := by have := h.1; omega
    exact ⟨h1, by rw [hC.1 _ h1]; exact bq_t h⟩
def thPut (μ : NS) : Nat := if μ 3 0 < 16 ∧ nrN (onM μ) (pN μ) 16 = 0 then 0 else 1
def thOff (μ : NS) (x : Int32) : Nat := if caQ μ x then (if pN μ (ix 16 x) < 20 ∧ ppl μ (ix 16 x) = 0 then 0 else 2) else 1
def thCar (μ : NS) (x : Int32) : Nat := if caQ μ x then 0 else 1
def thTow (x : Int32) : Nat := if ix 7 x < 7 then 0 else 1
def thWin (x w : Int32) : Nat := if ix 7 x < 7 then (if ix 151 w < 151 then 0 else 2) else 1
def thLim (x a b : Int32) : Nat := if ix 7 x < 7 then (if ix 151 a < 151 ∧ ix 151 a ≤ ix 151 b ∧ ix 151 b < 151 then 0 else 2) else 1
def thPas (μ : NS) (x : Int32) : Nat := if 1 ≤ ix 61 x ∧ ix 61 x < 61 then (if μ 0 0 + ix 61 x ≤ 1000 then 0 else 2) else 1
def thDec (μ : NS) (x : Int32) : Nat := if 1 ≤ ix 1001 x ∧ ix 1001 x ≤ μ 0 0 then 0 else 1
def thMin (x : Int32) : Nat := if ix 3 x < 3 then 0 else 1
def thBoa (μ : NS) (x p f : Int32) : Nat := if caQ μ x then (if 1 ≤ ix 9 p ∧ ix 9 p < 9 ∧ ix 1001 f < 1001 then (if (pN μ (ix 16 x) < 20 ∨ 600 ≤ pN μ (ix 16 x) ∧ pN μ (ix 16 x) < 620) ∧ ppl μ (ix 16 x) + ix 9 p ≤ 8 ∧ μ 15 0 < 60 then 0 else 3) else 2) else 1
def thTic (μ : NS) (x : Int32) : Nat := if ix 60 x < μ 15 0 then 0 else 1
/-- in how many of the first n minutes the speed v was decided -/
def mnN (rc : Nat → Nat) (v : Nat) : Nat → Nat := ct (fun m => bq (rc (m + 1) % 10 = v))
theorem mnN_s (rc : Nat → Nat) (v n : Nat) : mnN rc v (n + 1) = mnN rc v n + bq (rc (n + 1) % 10 = v) := rfl
/-- the vote that the control has: 0 none, else it and one -/
def vlN (μ : NS) (k : Nat) : Nat := if μ 12 k = 0 then 0 else μ 13 k + 1
def arN (μ : NS) (k : Nat) : Nat := if μ 20 k = 0 then 0 else μ 20 k + 1
/-- the state behind the calls that change it -/
def muPut (μ : NS) : NS := va_up (va_up μ 4 (va_up (μ 4) (μ 3 0) (μ 1 0))) 3 (fun _ => μ 3 0 + 1)
def roPut (μ ρ : NS) : NS := va_up (va_up ρ 0 (va_up (ρ 0) (μ 3 0) 0)) 1 (va_up (ρ 1) (μ 3 0) 1)
def muOff (μ : NS) (k : Nat) : NS := va_up μ 5 (va_up (μ 5) k 1)
def roOff (ρ : NS) (k : Nat) : NS := va_up ρ 1 (va_up (ρ 1) k 0)
def muWin (μ : NS) (k w : Nat) : NS := va_up μ 6 (va_up (μ 6) k w)
def muLim (μ : NS) (k a b : Nat) : NS := va_up (va_up μ 7 (va_up (μ 7) k a)) 8 (va_up (μ 8) k b)
def muCut (μ : NS) (k b : Nat) : NS := va_up μ 9 (va_up (μ 9) k b)
def muHol (μ : NS) (b : Nat) : NS := va_up μ 2 (fun _ => b)
def goN (μ : NS) (k : Nat) : Nat := if pN μ k < 20 then μ 1 0 + 600 - pN μ k else μ 1 0 + 1200 - pN μ k
def muBoa (μ : NS) (k p f : Nat) : NS := va_up (va_up (va_up (va_up (va_up μ 16 (va_up (μ 16) (μ 15 0) k)) 17 (va_up (μ 17) (μ 15 0) p)) 18 (va_up (μ 18) (μ 15 0) f)) 19 (va_up (μ 19) (μ 15 0) (goN μ k))) 15 (fun _ => μ 15 0 + 1)
def roBoa (μ ρ : NS) : NS := va_up ρ 5 (va_up (ρ 5) (μ 15 0) 0)
def itM (μ : NS) : Nat → NS
  | 0 => μ
  | n + 1 => stp (itM μ n)
def itR (μ ρ : NS) : Nat → NS
  | 0 => ρ
  | n + 1 => stpR (itM μ n) (itR μ ρ n)
theorem itM_T (μ : NS) : ∀ n : Nat, itM μ n 0 0 = μ 0 0 + n
  | 0 => rfl
  | n + 1 => by show itM μ n 0 0 + 1 = _; rw [itM_T μ n]; omega
theorem it_ok {μ ρ : NS} (hM : IM μ) (hC : IC μ ρ) : ∀ n : Nat, μ 0 0 + n ≤ 1000 → IM (itM μ n) ∧ IC (itM μ n) (itR μ ρ n)
  | 0, _ => ⟨hM, hC⟩
  | n + 1, h => by
    obtain ⟨h1, h2⟩ := it_ok hM hC n (by omega)
    exact ⟨IM_stp h1 (by rw [itM_T]; omega), IC_stp h1 h2⟩
theorem it_okM {μ : NS} (hM : IM μ) : ∀ n : Nat, μ 0 0 + n ≤ 1000 → IM (itM μ n)
  | 0, _ => hM
  | n + 1, h => IM_stp (it_okM hM n (by omega)) (by rw [itM_T]; omega)
theorem it_U (μ : NS) : ∀ n : Nat, μ 1 0 ≤ itM μ n 1 0
  | 0 => Nat.le_refl _
  | n + 1 => Nat.le_trans (it_U μ n) (by show itM μ n 1 0 ≤ uS (itM μ n); unfold uS; omega)
-- what the calls keep
theorem IM_put {μ : NS} (hM : IM μ) (h : μ 3 0 < 16) : IM (muPut μ) := by
  obtain ⟨h0, hU, hhd, hcar, hbase, hoff, hoff2, hw, hcut, hb8, hr8, hvt, hvv, hrec, hN, htk, hth, hta0⟩ := hM
  refine ⟨h0, hU, hhd, h, ?_, hoff, fun j hj hn => hoff2 j hj (by have : μ 3 0 + 1 ≤ j := hn; omega), hw, hcut, hb8, hr8, hvt, hvv, hrec, hN, fun j hj => ?_, hth, hta0⟩
  · intro j hj
    show va_up (μ 4) (μ 3 0) (μ 1 0) j ≤ μ 1 0
    unfold va_up; split
    · exact Nat.le_refl _
    · exact hbase j hj
  · obtain ⟨g1, g2⟩ := htk j hj
    exact ⟨by show μ 16 j < μ 3 0 + 1; omega, g2⟩
theorem IC_put {μ ρ : NS} (hM : IM μ) (hC : IC μ ρ) (h : μ 3 0 < 16) : IC (muPut μ) (roPut μ ρ) := by
  obtain ⟨-, -, -, -, -, -, hoff2, -⟩ := hM
  refine ⟨fun j hj => ?_, fun j hj => ?_, hC.2.2.1, hC.2.2.2.1, hC.2.2.2.2⟩
  · show va_up (ρ 1) (μ 3 0) 1 j = bq (j < μ 3 0 + 1 ∧ μ 5 j = 0)
    unfold va_up
    by_cases q : j = μ 3 0
    · rw [if_pos q, bq_t ⟨by omega, hoff2 j hj (by omega)⟩]
    · rw [if_neg q, hC.1 j hj]
      exact bq_cong ⟨fun z => ⟨by omega, z.2⟩, fun z => ⟨by omega, z.2⟩⟩
  · show va_up (ρ 1) (μ 3 0) 1 j = 1 → va_up (ρ 0) (μ 3 0) 0 j = (μ 1 0 - va_up (μ 4) (μ 3 0) (μ 1 0) j) % 1200
    unfold va_up
    by_cases q : j = μ 3 0
    · rw [if_pos q, if_pos q, if_pos q, Nat.sub_self]
      exact fun _ => rfl
    · rw [if_neg q, if_neg q, if_neg q]
      exact hC.2.1 j hj
theorem ct_pos_of {f : Nat → Nat} {n : Nat} (h : ct f n = 0) : ∀ j, j < n → f j = 0 := fun j hj => by
  have := ct_part (f := f) hj
  omega
theorem IM_off {μ : NS} (hM : IM μ) {k : Nat} (hk : k < μ 3 0) (hp : ppl μ k = 0) : IM (muOff μ k) := by
  obtain ⟨h0, hU, hhd, hcar, hbase, hoff, hoff2, hw, hcut, hb8, hr8, hvt, hvv, hrec, hN, htk, hth, hta0⟩ := hM
  refine ⟨h0, hU, hhd, hcar, hbase, fun j hj => ?_, fun j hj hn => ?_, hw, hcut, hb8, hr8, hvt, hvv, hrec, hN, fun j hj => ?_, hth, hta0⟩
  · show va_up (μ 5) k 1 j ≤ 1
    unfold va_up; split
    · exact Nat.le_refl _
    · exact hoff j hj
  · show va_up (μ 5) k 1 j = 0
    unfold va_up
    have hn2 : μ 3 0 ≤ j := hn
    rw [if_neg (by omega)]
    exact hoff2 j hj hn
  · obtain ⟨g1, g2, g3, g4, g5, g6, g7⟩ := htk j hj
    refine ⟨g1, g2, g3, g4, g5, g6, fun (z : μ 20 j = 0) => ?_⟩
    show va_up (μ 5) k 1 (μ 16 j) = 0
    unfold va_up
    have hj2 : j < μ 15 0 := hj
    by_cases q : μ 16 j = k
    · have h1 := ct_pos_of hp j hj2
      rw [if_pos ⟨q, z⟩] at h1
      have g2' : 1 ≤ μ 17 j := g2
      omega
    · rw [if_neg q]; exact g7 z
theorem IC_off {μ ρ : NS} (hC : IC μ ρ) (k : Nat) : IC (muOff μ k) (roOff ρ k) := by
  refine ⟨fun j hj => ?_, fun j hj => ?_, hC.2.2.1, hC.2.2.2.1, hC.2.2.2.2⟩
  · show va_up (ρ 1) k 0 j = bq (j < μ 3 0 ∧ va_up (μ 5) k 1 j = 0)
    unfold va_up
    by_cases q : j = k
    · rw [if_pos q, if_pos q, bq_f (by omega)]
    · rw [if_neg q, if_neg q]; exact hC.1 j hj
  · show va_up (ρ 1) k 0 j = 1 → ρ 0 j = (μ 1 0 - μ 4 j) % 1200
    unfold va_up
    by_cases q : j = k
    · rw [if_pos q]; intro z; omega
    · rw [if_neg q]; exact hC.2.1 j hj
theorem IM_win {μ : NS} (hM : IM μ) {k w : Nat} (hw9 : w ≤ 150) : IM (muWin μ k w) := by
  obtain ⟨h0, hU, hhd, hcar, hbase, hoff, hoff2, hw, hcut, hb8, hr8, hvt, hvv, hrec, hN, htk, hth, hta0⟩ := hM
  refine ⟨h0, hU, hhd, hcar, hbase, hoff, hoff2, fun j hj => ⟨?_, (hw j hj).2⟩, hcut, hb8, hr8, hvt, hvv, hrec, hN, htk, hth, hta0⟩
  show va_up (μ 6) k w j ≤ 150
  unfold va_up; split
  · exact hw9
  · exact (hw j hj).1
theorem IM_lim {μ : NS} (hM : IM μ) {k a b : Nat} (ha : a ≤ 150) (hb : b ≤ 150) : IM (muLim μ k a b) := by
  obtain ⟨h0, hU, hhd, hcar, hbase, hoff, hoff2, hw, hcut, hb8, hr8, hvt, hvv, hrec, hN, htk, hth, hta0⟩ := hM
  refine ⟨h0, hU, hhd, hcar, hbase, hoff, hoff2, fun j hj => ⟨(hw j hj).1, ?_, ?_⟩, hcut, hb8, hr8, hvt, hvv, hrec, hN, htk, hth, hta0⟩
  · show va_up (μ 7) k a j ≤ 150
    unfold va_up; split
    · exact ha
    · exact (hw j hj).2.1
  · show va_up (μ 8) k b j ≤ 150
    unfold va_up; split
    · exact hb
    · exact (hw j hj).2.2
theorem IM_cut {μ : NS} (hM : IM μ) {k b : Nat} (hb : b ≤ 1) : IM (muCut μ k b) := by
  obtain ⟨h0, hU, hhd, hcar, hbase, hoff, hoff2, hw, hcut, hb8, hr8, hvt, hvv, hrec, hN, htk, hth, hta0⟩ := hM
  refine ⟨h0, hU, hhd, hcar, hbase, hoff, hoff2, hw, fun j hj => ?_, hb8, hr8, hvt, hvv, hrec, hN, htk, hth, hta0⟩
  show va_up (μ 9) k b j ≤ 1
  unfold va_up; split
  · exact hb
  · exact hcut j hj
theorem IM_hol {μ : NS} (hM : IM μ) {b : Nat} (hb : b ≤ 1) : IM (muHol μ b) := by
  obtain ⟨h0, hU, hhd, hr⟩ := hM
  exact ⟨h0, hU, hb, hr⟩
theorem IM_boa {μ : NS} (hM : IM μ) {k p f : Nat} (hN9 : μ 15 0 < 60) (hk : k < μ 3 0) (hk2 : μ 5 k = 0) (hp1 : 1 ≤ p) (hp : p ≤ 8) (hf : f ≤ 1000) : IM (muBoa μ k p f) := by
  obtain ⟨h0, hU, hhd, hcar, hbase, hoff, hoff2, hw, hcut, hb8, hr8, hvt, hvv, hrec, hN, htk, hth, hta0⟩ := hM
  refine ⟨h0, hU, hhd, hcar, hbase, hoff, hoff2, hw, hcut, hb8, hr8, hvt, hvv, hrec, hN9, fun j hj => ?_, hth, fun j hj hn => hta0 j hj (by have : μ 15 0 + 1 ≤ j := hn; omega)⟩
  have hj2 : j < μ 15 0 + 1 := hj
  show va_up (μ 16) (μ 15 0) k j < μ 3 0 ∧ 1 ≤ va_up (μ 17) (μ 15 0) p j ∧ va_up (μ 17) (μ 15 0) p j ≤ 8 ∧ va_up (μ 18) (μ 15 0) f j ≤ 1000 ∧ va_up (μ 19) (μ 15 0) (goN μ k) j ≤ μ 1 0 + 1200 ∧ μ 20 j ≤ μ 0 0 ∧ (μ 20 j = 0 → μ 5 (va_up (μ 16) (μ 15 0) k j) = 0)
  by_cases q : j = μ 15 0
  · have e := hta0 j (by omega) (by omega)
    subst q
    simp only [va_up_self]
    refine ⟨hk, hp1, hp, hf, ?_, by omega, fun _ => hk2⟩
    unfold goN; split <;> omega
  · simp only [va_up_ne _ _ q]
    exact htk j (by omega)
theorem IC_boa {μ ρ : NS} (hM : IM μ) (hC : IC μ ρ) (k p f : Nat) (hN9 : μ 15 0 < 60) : IC (muBoa μ k p f) (roBoa μ ρ) := by
  obtain ⟨-, -, -, -, -, -, -, -, -, -, -, -, -, -, -, -, -, hta0⟩ := hM
  refine ⟨hC.1, hC.2.1, hC.2.2.1, hC.2.2.2.1, fun j hj => ?_⟩
  have hj2 : j < μ 15 0 + 1 := hj
  show va_up (ρ 5) (μ 15 0) 0 j = if μ 20 j = 0 then 0 else μ 20 j + 1
  unfold va_up
  by_cases q : j = μ 15 0
  · rw [if_pos q, if_pos (hta0 j (by omega) (by omega))]
  · rw [if_neg q]; exact hC.2.2.2.2 j (by omega)
