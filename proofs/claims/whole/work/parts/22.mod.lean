-- plain facts for the model
theorem mgn_lt {acc g : Nat} (h : 0 < acc) (q : g < acc - 1) : mI (mgn acc g) = nI g := by
  rw [mgn_1 h]; congr 1; omega
theorem mgn_ge {acc g : Nat} (h : 0 < acc) (q : acc - 1 ≤ g) : mgn acc g = acc := by
  unfold mgn; rw [if_neg (by omega)]; omega
theorem mk_inc (a : Nat) : nI a - nI 6 + 1 = nI (a + 1) - nI 6 := by
  rw [show nI (a + 1) = nI a + 1 from nI_succ a, Int32.sub_eq_add_neg, Int32.sub_eq_add_neg, Int32.add_assoc, Int32.add_assoc, Int32.add_comm (-nI 6) 1]
theorem mk_toInt {T n : Nat} (hT : T ≤ 1000) (hn : n ≤ 10) : (nI (T + n) - nI 6).toInt = (T + n : Nat) - 6 := pk_sub_toInt (by omega) (by decide)
def tkT (n : Nat) (x : Int32) : Nat := if ix 60 x < n then 0 else 1
theorem IM.ba {μ : NS} (hM : IM μ) {j : Nat} (hj : j < 16) : μ 4 j ≤ μ 1 0 := hM.2.2.2.2.1 j hj
theorem rf_comm (a b h : Nat) : rfN (a * b) h = rfN (b * a) h := by rw [Nat.mul_comm]
theorem cars_s (μ : NS) (n : Nat) : ct (fun j => 1 - μ 5 j) (n + 1) = ct (fun j => 1 - μ 5 j) n + (1 - μ 5 n) := rfl
theorem go_same {μ : NS} {k : Nat} (h : pN μ k < 20 ∨ 600 ≤ pN μ k ∧ pN μ k < 620) : μ 1 0 + 600 - pN μ k % 600 = goN μ k := by
  unfold goN
  split <;> omega
theorem ou_eq {μ : NS} {k : Nat} : ouM (uS μ) (μ 4) k = bq (¬ ((uS μ - μ 4 k) % 1200 % 600 < 20)) := rfl
theorem tk_at {μ : NS} {n : Nat} : taf (μ 20) (μ 19) (T1 μ) (uS μ) n n = μ 20 n := taf_at
