-- the words of the state: sums, gaps, votes, times; the same for both sides
def ct (f : Nat → Nat) : Nat → Nat
  | 0 => 0
  | n + 1 => ct f n + f n
theorem ct_s (f : Nat → Nat) (n : Nat) : ct f (n + 1) = ct f n + f n := rfl
theorem ct_cong {f g : Nat → Nat} : ∀ {n : Nat}, (∀ j, j < n → f j = g j) → ct f n = ct g n
  | 0, _ => rfl
  | n + 1, h => by rw [ct_s, ct_s, ct_cong (fun j hj => h j (by omega)), h n (by omega)]
theorem ct_le {f : Nat → Nat} {c : Nat} : ∀ {n : Nat}, (∀ j, j < n → f j ≤ c) → ct f n ≤ n * c
  | 0, _ => by simp [ct]
  | n + 1, h => by
    have h1 := ct_le (n := n) (fun j hj => h j (by omega))
    have h2 := h n (by omega)
    rw [ct_s, Nat.add_mul]; omega
theorem ct_zero {f : Nat → Nat} : ∀ {n : Nat}, (∀ j, j < n → f j = 0) → ct f n = 0
  | 0, _ => rfl
  | n + 1, h => by rw [ct_s, ct_zero (fun j hj => h j (by omega)), h n (by omega)]
theorem ct_add (f : Nat → Nat) (m : Nat) : ∀ n : Nat, ct f (m + n) = ct f m + ct (fun j => f (m + j)) n
  | 0 => by simp [ct]
  | n + 1 => by rw [show m + (n + 1) = (m + n) + 1 from rfl, ct_s, ct_s, ct_add f m n]; omega
theorem ct_sum (f g : Nat → Nat) : ∀ n : Nat, ct (fun j => f j + g j) n = ct f n + ct g n
  | 0 => rfl
  | n + 1 => by rw [ct_s, ct_s, ct_s, ct_sum f g n]; omega
/-- the lesser one of what there is (0: none, n + 1: n) and g -/
def mgn (acc g : Nat) : Nat := if acc = 0 then g + 1 else min acc (g + 1)
theorem mgn_pos (acc g : Nat) : 0 < mgn acc g := by unfold mgn; split <;> omega
theorem mgn_le {acc g n : Nat} (ha : acc ≤ n) (hg : g < n) : mgn acc g ≤ n := by unfold mgn; split <;> omega
def lgi (on pl : Nat → Nat) (a acc : Nat) : Nat → Nat
  | 0 => acc
  | b + 1 => if on a = 1 ∧ on b = 1 then mgn (lgi on pl a acc b) (gpN (pl a) (pl b)) else lgi on pl a acc b
def lgo (on pl : Nat → Nat) : Nat → Nat
  | 0 => 0
  | a + 1 => lgi on pl a (lgo on pl a) a
theorem gpN_le (a b : Nat) : gpN a b ≤ 600 := by unfold gpN; omega
theorem adf_lt {a b n : Nat} (ha : a < n) (hb : b < n) : adf a b < n := by unfold adf; split <;> omega
theorem lgi_le {on pl : Nat → Nat} {a acc : Nat} (h : acc ≤ 601) : ∀ b, lgi on pl a acc b ≤ 601
  | 0 => h
  | b + 1 => by
    have h1 := lgi_le (on := on) (pl := pl) (a := a) h b
    have h2 := gpN_le (pl a) (pl b)
    unfold lgi
    split
    · exact mgn_le h1 (by omega)
    · exact h1
theorem lgo_le {on pl : Nat → Nat} : ∀ a, lgo on pl a ≤ 601
  | 0 => by simp [lgo]
  | a + 1 => lgi_le (lgo_le a) a
/-- what all cars' places are behind a move, the first n done -/
def mvf (on pl : Nat → Nat) (k n : Nat) : Nat → Nat := fun j => if j < n ∧ on j = 1 then (pl j + k) % 1200 else pl j
/-- what a tower votes -/
def vnN (wi sl st : Nat → Nat) (t : Nat) : Nat := if wi t < sl t then 2 else if wi t < st t then 1 else 0
theorem vnN_le (wi sl st : Nat → Nat) (t : Nat) : vnN wi sl st t ≤ 2 := by unfold vnN; split <;> (try split) <;> omega
/-- the way to the nearest tower that isn't cut off among the first n (0: none) -/
def dlN (cu : Nat → Nat) (t : Nat) : Nat → Nat
  | 0 => 0
  | o + 1 => if cu o = 0 then mgn (dlN cu t o) (adf t o) else dlN cu t o
theorem dlN_le {cu : Nat → Nat} {t : Nat} (ht : t < 7) : ∀ o, o ≤ 7 → dlN cu t o ≤ 7
  | 0, _ => by simp [dlN]
  | o + 1, h => by
    have h1 := dlN_le (cu := cu) ht o (by omega)
    unfold dlN
    split
    · exact mgn_le h1 (adf_lt ht (by omega))
    · exact h1
/-- when a vote of the minute m comes -/
def cmN (m d : Nat) : Nat := if d = 0 then 0 else m + (d - 1)
/-- a fresh vote -/
abbrev frP (T : Nat) (vt : Nat → Nat) (t : Nat) : Prop := vt t ≠ 0 ∧ T ≤ vt t + 3
def fsI (T : Nat) (vt : Nat → Nat) : Nat → Int32
  | 0 => nI 0
  | n + 1 => if frP T vt n then fsI T vt n ||| (nI 1 <<< (nI n &&& 31)) else fsI T vt n
/-- how many fresh votes say w -/
def cvN (T : Nat) (vt vv : Nat → Nat) (w : Nat) : Nat → Nat := ct (fun t => bq (frP T vt t ∧ vv t = w))
/-- what is decided -/
def dcN (full slow stop : Nat) : Nat := if 4 ≤ full ∧ stop = 0 then 2 else if 4 ≤ full + slow ∧ stop ≤ 1 then 1 else 0
theorem dcN_le (a b d : Nat) : dcN a b d ≤ 2 := by unfold dcN; split <;> (try split) <;> omega
/-- a ticket's refund -/
def rfN (w h : Nat) : Nat := min w (w * (h - 5) / 10)
/-- the people in a car who have not arrived -/
def ppN (tc tp ar : Nat → Nat) (k : Nat) : Nat → Nat := ct (fun j => if tc j = k ∧ ar j = 0 then tp j else 0)
theorem ix_ge {k n : Nat} {x : Int32} (hk : k < 2 ^ 31) (h : n ≤ k) (g : nI n ≤ x) : n ≤ ix k x := by
  rcases pk_ix x hk with h1 | h1 | ⟨j, h1, rfl⟩
  · rw [ix_neg h1]; exact h
  · rw [ix_big hk h1]; exact h
  · rw [ix_nI h1 hk]; exact (nI_leI (by omega) (by omega)).mp g
theorem ix_lt2 {k n : Nat} {x : Int32} (hk : k < 2 ^ 31) (h : n ≤ k) (h0 : ¬ x < 0) (g : ¬ nI n ≤ x) : ix k x < n := by
  obtain ⟨j, hj, rfl⟩ := ix_of (n := n) (by omega) h0 g
  rw [ix_nI (by omega) hk]; exact hj
theorem nI_xor_nn {a b : Nat} (ha : a < 2 ^ 31) (hb : b < 2 ^ 31) : 0 ≤ nI a ^^^ nI b := by
  have e : nI a ^^^ nI b = nI (a ^^^ b) := by
    apply Int32.toBitVec_inj.mp
    simp [nI]
  rw [e]
  exact nI_pos' (Nat.xor_lt_two_pow ha hb)
