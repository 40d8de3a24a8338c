-- plain facts for the model
theorem mgn_lt {acc g : Nat} (h : 0 < acc) (q : g < acc - 1) : mI (mgn acc g) = nI g := by
  rw [mgn_1 h]; congr 1; omega
theorem mgn_ge {acc g : Nat} (h : 0 < acc) (q : acc - 1 ≤ g) : mgn acc g = acc := by
  unfold mgn; rw [if_neg (by omega)]; omega
theorem mk_inc (a : Nat) : nI a - nI 6 + 1 = nI (a + 1) - nI 6 := by
  rw [show nI (a + 1) = nI a + 1 from nI_succ a, Int32.sub_eq_add_neg, Int32.sub_eq_add_neg, Int32.add_assoc, Int32.add_assoc, Int32.add_comm (-nI 6) 1]
theorem mk_toInt {T n : Nat} (hT : T ≤ 1000) (hn : n ≤ 10) : (nI (T + n) - nI 6).toInt = (T + n : Nat) - 6 := pk_sub_toInt (by omega) (by decide)
def tkT (n : Nat) (x : Int32) : Nat := if ix 60 x < n then 0 else 1
theorem IM.ba {μ : NS} (hM : IM μ) {j : Nat} (hj : j < 16) : μ 4 j ≤ μ 1 0 := hM.2.2.2.2.1 j hj
theorem rf_comm (a b h : Nat) : rfN (a * b) h = rfN (b * a) h := by rw [Nat.mul_comm]
theorem cars_s (μ : NS) (n : Nat) : ct (fun j => 1 - μ 5 j) (n + 1) = ct (fun j => 1 - μ 5 j) n + (1 - μ 5 n) := rfl
theorem go_same {μ : NS} {k : Nat} (h : pN μ k < 20 ∨ 600 ≤ pN μ k ∧ pN μ k < 620) : μ 1 0 + 600 - pN μ k % 600 = goN μ k := by
  unfold goN
  split <;> omega
theorem ou_eq {μ : NS} {k : Nat} : ouM (uS μ) (μ 4) k = bq (¬ ((uS μ - μ 4 k) % 1200 % 600 < 20)) := rfl
theorem tk_at {μ : NS} {n : Nat} : taf (μ 20) (μ 19) (T1 μ) (uS μ) n n = μ 20 n := taf_at
def crN (μ : NS) : Nat → Nat := ct (fun j => 1 - μ 5 j)
theorem crN_s (μ : NS) (n : Nat) : crN μ (n + 1) = crN μ n + (1 - μ 5 n) := rfl
theorem crN_C {μ : NS} (hM : IM μ) : crN μ (μ 3 0) = ct (onM μ) 16 := cars_C hM
def ptT (μ : NS) (i : Nat) : Nat := if μ 3 0 = 16 ∨ 0 < nrN (onM μ) (pN μ) i then 1 else 0
theorem pt_same {μ : NS} (hM : IM μ) : ptT μ (μ 3 0) = thPut μ := by
  have hc := hM.2.2.2.1
  have h := nr_C hM
  unfold ptT thPut
  rw [h]
  repeat (first | omega | split)
theorem nr0 (μ : NS) : nrN (onM μ) (pN μ) 0 = 0 := rfl
theorem onM_1 {μ : NS} {j : Nat} (h : j < μ 3 0) (h2 : μ 5 j = 0) : onM μ j = 1 := bq_t ⟨h, h2⟩
theorem onM_0 {μ : NS} {j : Nat} (h2 : ¬ μ 5 j = 0) : onM μ j = 0 := bq_f (fun z => h2 z.2)
theorem or_0 (x : Int32) : x ||| nI 0 = x := by rw [nI_0]; exact Int32.or_zero
theorem pN_lt (μ : NS) (k : Nat) : pN μ k < 1200 := Nat.mod_lt _ (by decide)
theorem ppl_le {μ : NS} (hM : IM μ) (k : Nat) : ppl μ k ≤ 480 := by
  obtain ⟨-, -, -, -, -, -, -, -, -, -, -, -, -, -, hN, htk, -⟩ := hM
  have h : ppl μ k ≤ μ 15 0 * 8 := ct_le (c := 8) (fun j hj => by
    split
    · exact (htk j hj).2.2.1
    · omega)
  omega
