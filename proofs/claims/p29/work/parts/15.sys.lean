-- the state of both sides: μ is the model's numbers by its fields' order, ρ the class's own rows beside them
abbrev NS : Type := Nat → Nat → Nat
def onM (μ : NS) : Nat → Nat := fun j => bq (j < μ 3 0 ∧ μ 5 j = 0)
def pN (μ : NS) : Nat → Nat := fun j => (μ 1 0 - μ 4 j) % 1200
def ppl (μ : NS) (k : Nat) : Nat := ppN (μ 16) (μ 17) (μ 20) k (μ 15 0)
/-- what the numbers keep to -/
def IM (μ : NS) : Prop := μ 0 0 ≤ 1000 ∧ μ 1 0 ≤ 30 * μ 0 0 ∧ μ 2 0 ≤ 1 ∧ μ 3 0 ≤ 16 ∧ (∀ j, j < 16 → μ 4 j ≤ μ 1 0) ∧ (∀ j, j < 16 → μ 5 j ≤ 1) ∧ (∀ j, j < 16 → μ 3 0 ≤ j → μ 5 j = 0) ∧ (∀ j, j < 7 → μ 6 j ≤ 150 ∧ μ 7 j ≤ 150 ∧ μ 8 j ≤ 150) ∧ (∀ j, j < 7 → μ 9 j ≤ 1) ∧ (∀ j, j < 56 → μ 11 j ≤ 2) ∧ (∀ i t, i ≤ 7 → t < 7 → r8 (μ 0 0) (μ 10) i t ≤ μ 0 0 + 6 - i) ∧ (∀ j, j < 7 → μ 12 j ≤ μ 0 0) ∧ (∀ j, j < 7 → μ 13 j ≤ 2) ∧ (∀ j, j < 1001 → μ 14 j ≤ 72 ∧ μ 14 j % 10 ≤ 2) ∧ μ 15 0 ≤ 60 ∧ (∀ j, j < μ 15 0 → μ 16 j < μ 3 0 ∧ 1 ≤ μ 17 j ∧ μ 17 j ≤ 8 ∧ μ 18 j ≤ 1000 ∧ μ 19 j ≤ μ 1 0 + 1200 ∧ μ 20 j ≤ μ 0 0 ∧ (μ 20 j = 0 → μ 5 (μ 16 j) = 0)) ∧ (∀ j, j < 60 → μ 21 j ≤ μ 0 0) ∧ (∀ j, j < 60 → μ 15 0 ≤ j → μ 20 j = 0)
/-- what ties the class's rows to them -/
def IC (μ ρ : NS) : Prop := (∀ j, j < 16 → ρ 1 j = bq (j < μ 3 0 ∧ μ 5 j = 0)) ∧ (∀ j, j < 16 → ρ 1 j = 1 → ρ 0 j = (μ 1 0 - μ 4 j) % 1200) ∧ (∀ i t, i < 7 → t < 7 → r7 (μ 0 0) (ρ 3) i t = r8 (μ 0 0) (μ 10) i t ∧ r7 (μ 0 0) (ρ 2) i t = r8 (μ 0 0) (μ 11) i t) ∧ (∀ j, j < 7 → ρ 4 j = if μ 12 j = 0 then 0 else μ 13 j + 1) ∧ (∀ j, j < μ 15 0 → ρ 5 j = if μ 20 j = 0 then 0 else μ 20 j + 1)
-- rings
theorem r7_all {P : Nat → Prop} {T : Nat} {f : Nat → Nat} (h : ∀ i t, i < 7 → t < 7 → P (r7 T f i t)) {k : Nat} (hk : k < 49) : P (f k) := by
  have h1 := h ((T + 7 - k / 7) % 7) (k % 7) (by omega) (by omega)
  unfold r7 at h1
  rw [show (T + 7 - (T + 7 - k / 7) % 7) % 7 * 7 + k % 7 = k from by omega] at h1
  exact h1
theorem r8_all {P : Nat → Prop} {T : Nat} {f : Nat → Nat} (h : ∀ i t, i < 8 → t < 7 → P (r8 T f i t)) {k : Nat} (hk : k < 56) : P (f k) := by
  have h1 := h ((T + 8 - k % 8) % 8) (k / 8) (by omega) (by omega)
  unfold r8 at h1
  rw [show 8 * (k / 8) + (T + 8 - (T + 8 - k % 8) % 8) % 8 = k from by omega] at h1
  exact h1
theorem IM.c8 {μ : NS} (h : IM μ) {k : Nat} (hk : k < 56) : μ 10 k ≤ μ 0 0 + 6 := by
  obtain ⟨-, -, -, -, -, -, -, -, -, -, hr8, -⟩ := h
  exact r8_all (P := fun x => x ≤ μ 0 0 + 6) (T := μ 0 0) (fun i t hi ht => Nat.le_trans (hr8 i t (by omega) ht) (by omega)) hk
theorem IC.c7 {μ ρ : NS} (hM : IM μ) (h : IC μ ρ) {k : Nat} (hk : k < 49) : ρ 3 k ≤ μ 0 0 + 6 := by
  obtain ⟨-, -, -, -, -, -, -, -, -, -, hr8, -⟩ := hM
  exact r7_all (P := fun x => x ≤ μ 0 0 + 6) (T := μ 0 0) (fun i t hi ht => by rw [(h.2.2.1 i t hi ht).1]; exact Nat.le_trans (hr8 i t (by omega) ht) (by omega)) hk
theorem IC.b7 {μ ρ : NS} (hM : IM μ) (h : IC μ ρ) {k : Nat} (hk : k < 49) : ρ 2 k ≤ 2 := by
  obtain ⟨-, -, -, -, -, -, -, -, -, hb8, -⟩ := hM
  exact r7_all (P := fun x => x ≤ 2) (T := μ 0 0) (fun i t hi ht => by rw [(h.2.2.1 i t hi ht).2]; unfold r8; exact hb8 _ (by omega)) hk
/-- the rows of the minute T -/
def mk7 (T : Nat) (f v : Nat → Nat) (n : Nat) : Nat → Nat := fun k => if T % 7 * 7 ≤ k ∧ k < T % 7 * 7 + n then v (k - T % 7 * 7) else f k
def mk8 (T : Nat) (f v : Nat → Nat) (n : Nat) : Nat → Nat := fun k => if k % 8 = T % 8 ∧ k / 8 < n then v (k / 8) else f k
theorem mk7_0 {T : Nat} {f v : Nat → Nat} : mk7 T f v 0 = f := by funext k; unfold mk7; rw [if_neg (by omega)]
theorem mk8_0 {T : Nat} {f v : Nat → Nat} : mk8 T f v 0 = f := by funext k; unfold mk8; rw [if_neg (by omega)]
theorem mk7_s {T : Nat} {f v : Nat → Nat} {n : Nat} : va_up (mk7 T f v n) (T % 7 * 7 + n) (v n) = mk7 T f v (n + 1) := by
  funext k; unfold va_up mk7
  by_cases e : k = T % 7 * 7 + n
  · subst e; rw [if_pos rfl, if_pos (by omega), show T % 7 * 7 + n - T % 7 * 7 = n from by omega]
  · rw [if_neg e]
    by_cases q : T % 7 * 7 ≤ k ∧ k < T % 7 * 7 + n
    · rw [if_pos q, if_pos (by omega)]
    · rw [if_neg q, if_neg (by omega)]
theorem mk8_s {T : Nat} {f v : Nat → Nat} {n : Nat} : va_up (mk8 T f v n) (8 * n + T % 8) (v n) = mk8 T f v (n + 1) := by
  funext k; unfold va_up mk8
  by_cases e : k = 8 * n + T % 8
  · subst e; rw [if_pos rfl, if_pos (by omega), show (8 * n + T % 8) / 8 = n from by omega]
  · rw [if_neg e]
    by_cases q : k % 8 = T % 8 ∧ k / 8 < n
    · rw [if_pos q, if_pos (by omega)]
    · rw [if_neg q, if_neg (by omega)]
theorem r7_0 {T t : Nat} {f v : Nat → Nat} (ht : t < 7) : r7 T (mk7 T f v 7) 0 t = v t := by
  unfold r7 mk7
  rw [if_pos (by omega), show (T + 7 - 0) % 7 * 7 + t - T % 7 * 7 = t from by omega]
theorem r7_s {T i t : Nat} {f v : Nat → Nat} (hi : i < 6) (ht : t < 7) : r7 (T + 1) (mk7 (T + 1) f v 7) (i + 1) t = r7 T f i t := by
  unfold r7 mk7
  rw [if_neg (by omega), show T + 1 + 7 - (i + 1) = T + 7 - i from by omega]
theorem r8_0 {T t : Nat} {f v : Nat → Nat} (ht : t < 7) : r8 T (mk8 T f v 7) 0 t = v t := by
  unfold r8 mk8
  rw [if_pos (by omega), show (8 * t + (T + 8 - 0) % 8) / 8 = t from by omega]
theorem r8_s {T i t : Nat} {f v : Nat → Nat} (hi : i < 7) (ht : t < 7) : r8 (T + 1) (mk8 (T + 1) f v 7) (i + 1) t = r8 T f i t := by
  unfold r8 mk8
  rw [if_neg (by omega), show T + 1 + 8 - (i + 1) = T + 8 - i from by omega]
-- a minute
abbrev T1 (μ : NS) : Nat := μ 0 0 + 1
def cmF (T : Nat) (cu : Nat → Nat) : Nat → Nat := fun t => cmN T (dlN cu t 7)
def c8S (μ : NS) : Nat → Nat := mk8 (T1 μ) (μ 10) (cmF (T1 μ) (μ 9)) 7
def b8S (μ : NS) : Nat → Nat := mk8 (T1 μ) (μ 11) (vnN (μ 6) (μ 7) (μ 8)) 7
def vtS (μ : NS) : Nat → Nat := dmt (T1 μ) (r8 (T1 μ) (c8S μ)) (r8 (T1 μ) (b8S μ)) (μ 12) (μ 13) 7 0
def vvS (μ : NS) : Nat → Nat := dmx (T1 μ) (r8 (T1 μ) (c8S μ)) (r8 (T1 μ) (b8S μ)) (μ 12) (μ 13) 7 0
def wdN (hd x : Nat) : Nat := if hd = 0 then x else 0
def dwN (T hd : Nat) (vt vv : Nat → Nat) : Nat := wdN hd (dcN (cvN T vt vv 2 7) (cvN T vt vv 1 7) (cvN T vt vv 0 7))
def spS (μ : NS) : Nat := dwN (T1 μ) (μ 2 0) (vtS μ) (vvS μ)
def uS (μ : NS) : Nat := μ 1 0 + ptN (spS μ)
def fcN (T : Nat) (vt : Nat → Nat) : Nat := ct (fun t => bq (frP T vt t)) 7
def rcS (μ : NS) : Nat := 10 * fcN (T1 μ) (vtS μ) + spS μ
def ouM (U : Nat) (ba : Nat → Nat) (k : Nat) : Nat := bq (¬ ((U - ba k) % 1200 % 600 < 20))
def taS (μ : NS) : Nat → Nat := taf (μ 20) (μ 19) (T1 μ) (uS μ) (μ 15 0)
def thS (μ : NS) : Nat → Nat := thf (μ 21) (μ 20) (μ 19) (μ 16) (ouM (uS μ) (μ 4)) (uS μ) (spS μ) (μ 15 0)
def stp (μ : NS) : NS := va_up (va_up (va_up (va_up (va_up (va_up (va_up (va_up (va_up μ 0 (fun _ => T1 μ)) 1 (fun _ => uS μ)) 10 (c8S μ)) 11 (b8S μ)) 12 (vtS μ)) 13 (vvS μ)) 14 (va_up (μ 14) (T1 μ) (rcS μ))) 20 (taS μ)) 21 (thS μ)
def c7S (μ ρ : NS) : Nat → Nat := mk7 (T1 μ) (ρ 3) (cmF (T1 μ) (μ 9)) 7
def b7S (μ ρ : NS) : Nat → Nat := mk7 (T1 μ) (ρ 2) (vnN (μ 6) (μ 7) (μ 8)) 7
def cbS (μ ρ : NS) : Nat → Nat := dmx (T1 μ) (r7 (T1 μ) (c7S μ ρ)) (r7s (T1 μ) (b7S μ ρ)) (μ 12) (ρ 4) 7 0
def plS (μ ρ : NS) : Nat → Nat := mvf (ρ 1) (ρ 0) (ptN (spS μ)) 16
def tAS (μ ρ : NS) : Nat → Nat := taf (ρ 5) (μ 19) (T1 μ + 1) (uS μ) (μ 15 0)
def stpR (μ ρ : NS) : NS := va_up (va_up (va_up (va_up (va_up ρ 0 (plS μ ρ)) 2 (b7S μ ρ)) 3 (c7S μ ρ)) 4 (cbS μ ρ)) 5 (tAS μ ρ)
theorem ptN_le (v : Nat) : ptN v ≤ 30 := by unfold ptN; split <;> (try split) <;> omega
theorem dwN_le (T hd : Nat) (vt vv : Nat → Nat) : dwN T hd vt vv ≤ 2 := by
  unfold dwN wdN
  split
  · exact dcN_le _ _ _
  · omega
theorem fcN_le (T : Nat) (vt : Nat → Nat) : fcN T vt ≤ 7 := by
  have h : fcN T vt ≤ 7 * 1 := ct_le (fun j _ => bq_le _)
  omega
theorem cmN_le {m d : Nat} (h : d ≤ 7) : cmN m d ≤ m + 6 := by unfold cmN; split <;> omega
/-- the ring after the new row -/
theorem rg_new {μ ρ : NS} (hC : IC μ ρ) {i t : Nat} (hi : i < 7) (ht : t < 7) : r7 (T1 μ) (c7S μ ρ) i t = r8 (T1 μ) (c8S μ) i t ∧ r7 (T1 μ) (b7S μ ρ) i t = r8 (T1 μ) (b8S μ) i t := by
  rcases Nat.eq_zero_or_pos i with rfl | h0
  · unfold c7S c8S b7S b8S
    rw [r7_0 ht, r8_0 ht, r7_0 ht, r8_0 ht]
    exact ⟨rfl, rfl⟩
  · obtain ⟨i, rfl⟩ : ∃ k, i = k + 1 := ⟨i - 1, by omega⟩
    unfold c7S c8S b7S b8S
    rw [r7_s (by omega) ht, r8_s (by omega) ht, r7_s (by omega) ht, r8_s (by omega) ht]
    exact hC.2.2.1 i t (by omega) ht
theorem r8_new {μ : NS} (hM : IM μ) {i t : Nat} (hi : i ≤ 7) (ht : t < 7) : r8 (T1 μ) (c8S μ) i t ≤ T1 μ + 6 - i := by
  rcases Nat.eq_zero_or_pos i with rfl | h0
  · unfold c8S
    rw [r8_0 ht]
    unfold cmF
    have := cmN_le (m := T1 μ) (d := dlN (μ 9) t 7) (dlN_le ht 7 (by omega))
    omega
  · obtain ⟨i, rfl⟩ : ∃ k, i = k + 1 := ⟨i - 1, by omega⟩
    unfold c8S
    rw [r8_s (by omega) ht]
    obtain ⟨-, -, -, -, -, -, -, -, -, -, hr8, -⟩ := hM
    have := hr8 i t (by omega) ht
    unfold T1
    omega
/-- both controls take the same votes -/
theorem dv_same {T : Nat} {R1 X1 R2 X2 : Nat → Nat → Nat} {vt x1 x2 : Nat → Nat} {t : Nat} (hR : ∀ i, i < 7 → R1 i t = R2 i t) (hX : ∀ i, i < 7 → X1 i t = X2 i t + 1) (hx : x1 t = if vt t = 0 then 0 else x2 t + 1) : ∀ n : Nat, (dv T R1 X1 vt x1 t n).1 = (dv T R2 X2 vt x2 t n).1 ∧ (dv T R1 X1 vt x1 t n).2 = if (dv T R2 X2 vt x2 t n).1 = 0 then 0 else (dv T R2 X2 vt x2 t n).2 + 1
  | 0 => ⟨rfl, hx⟩
  | n + 1 => by
    obtain ⟨h1, h2⟩ := dv_same hR hX hx n
    unfold dv
    rw [hR (6 - n) (by omega), h1]
    split
    · rename_i q
      refine ⟨rfl, ?_⟩
      show X1 (6 - n) t = if T - (6 - n) = 0 then 0 else X2 (6 - n) t + 1
      rw [if_neg (by omega), hX (6 - n) (by omega)]
    · exact ⟨h1, h2⟩
theorem vt_same {μ ρ : NS} (hC : IC μ ρ) : dmt (T1 μ) (r7 (T1 μ) (c7S μ ρ)) (r7s (T1 μ) (b7S μ ρ)) (μ 12) (ρ 4) 7 0 = vtS μ := by
  funext t
  unfold vtS dmt
  by_cases ht : t < 7
  · rw [if_pos ht, if_pos ht, if_neg (Nat.not_lt_zero t)]
    exact (dv_same (fun i hi => (rg_new hC hi ht).1) (fun i hi => congrArg (· + 1) (rg_new hC hi ht).2) (hC.2.2.2.1 t ht) 7).1
  · rw [if_neg ht, if_neg ht]
theorem cb_same {μ ρ : NS} (hC : IC μ ρ) {t : Nat} (ht : t < 7) : cbS μ ρ t = if vtS μ t = 0 then 0 else vvS μ t + 1 := by
  unfold cbS vtS vvS dmx dmt
  rw [if_pos ht, if_pos ht, if_pos ht, if_neg (Nat.not_lt_zero t)]
  exact (dv_same (fun i hi => (rg_new hC hi ht).1) (fun i hi => congrArg (· + 1) (rg_new hC hi ht).2) (hC.2.2.2.1 t ht) 7).2
theorem cf_cv {T : Nat} {cb vt vv : Nat → Nat} {w : Nat} (h : ∀ t, t < 7 → cb t = if vt t = 0 then 0 else vv t + 1) : cfN T cb vt w 7 = cvN T vt vv w 7 := by
  unfold cfN cvN
  refine ct_cong (fun t ht => bq_cong ?_)
  have h1 := h t ht
  by_cases q : vt t = 0
  · rw [if_pos q] at h1; unfold frP; omega
  · rw [if_neg q] at h1; unfold frP; omega
theorem vtS_le {μ : NS} (hM : IM μ) {t : Nat} (ht : t < 7) : vtS μ t ≤ T1 μ := by
  obtain ⟨-, -, -, -, -, -, -, -, -, -, -, hvt, -⟩ := hM
  exact dmt_le (fun j hj => Nat.le_succ_of_le (hvt j hj)) ht
theorem dv_le2 {T : Nat} {Rr X : Nat → Nat → Nat} {vt x : Nat → Nat} {t : Nat} (hx : x t ≤ 2) (hX : ∀ i, i < 7 → X i t ≤ 2) : ∀ n : Nat, (dv T Rr X vt x t n).2 ≤ 2
  | 0 => hx
  | n + 1 => by
    unfold dv
    split
    · exact hX _ (by omega)
    · exact dv_le2 hx hX n
theorem b8S_le {μ : NS} (hM : IM μ) {k : Nat} (hk : k < 56) : b8S μ k ≤ 2 := by
  obtain ⟨-, -, -, -, -, -, -, -, -, hb8, -⟩ := hM
  unfold b8S mk8
  split
  · exact vnN_le _ _ _ _
  · exact hb8 k hk
theorem vvS_le {μ : NS} (hM : IM μ) {t : Nat} (ht : t < 7) : vvS μ t ≤ 2 := by
  unfold vvS dmx
  rw [if_pos ht]
  refine dv_le2 ?_ (fun i hi => ?_) _
  · obtain ⟨-, -, -, -, -, -, -, -, -, -, -, -, hvv, -⟩ := hM
    exact hvv t ht
  · unfold r8; exact b8S_le hM (by omega)
