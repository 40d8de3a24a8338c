-- the words of the state: sums, gaps, votes, times; the same for both sides
def ct (f : Nat → Nat) : Nat → Nat
  | 0 => 0
  | n + 1 => ct f n + f n
theorem ct_s (f : Nat → Nat) (n : Nat) : ct f (n + 1) = ct f n + f n := rfl
theorem ct_cong {f g : Nat → Nat} : ∀ {n : Nat}, (∀ j, j < n → f j = g j) → ct f n = ct g n
  | 0, _ => rfl
  | n + 1, h => by rw [ct_s, ct_s, ct_cong (fun j hj => h j (by omega)), h n (by omega)]
theorem ct_le {f : Nat → Nat} {c : Nat} : ∀ {n : Nat}, (∀ j, j < n → f j ≤ c) → ct f n ≤ n * c
  | 0, _ => by simp [ct]
  | n + 1, h => by
    have h1 := ct_le (n := n) (fun j hj => h j (by omega))
    have h2 := h n (by omega)
    rw [ct_s, Nat.add_mul]; omega
theorem ct_zero {f : Nat → Nat} : ∀ {n : Nat}, (∀ j, j < n → f j = 0) → ct f n = 0
  | 0, _ => rfl
  | n + 1, h => by rw [ct_s, ct_zero (fun j hj => h j (by omega)), h n (by omega)]
theorem ct_add (f : Nat → Nat) (m : Nat) : ∀ n : Nat, ct f (m + n) = ct f m + ct (fun j => f (m + j)) n
  | 0 => by simp [ct]
  | n + 1 => by rw [show m + (n + 1) = (m + n) + 1 from rfl, ct_s, ct_s, ct_add f m n]; omega
theorem ct_sum (f g : Nat → Nat) : ∀ n : Nat, ct (fun j => f j + g j) n = ct f n + ct g n
  | 0 => rfl
  | n + 1 => by rw [ct_s, ct_s, ct_s, ct_sum f g n]; omega
/-- the lesser one of what there is (0: none, n + 1: n) and g -/
def mgn (acc g : Nat) : Nat := if acc = 0 then g + 1 else min acc (g + 1)
theorem mgn_pos (acc g : Nat) : 0 < mgn acc g := by unfold mgn; split <;> omega
theorem mgn_le {acc g n : Nat} (ha : acc ≤ n) (hg : g < n) : mgn acc g ≤ n := by unfold mgn; split <;> omega
def lgi (on pl : Nat → Nat) (a acc : Nat) : Nat → Nat
  | 0 => acc
  | b + 1 => if on a = 1 ∧ on b = 1 then mgn (lgi on pl a acc b) (gpN (pl a) (pl b)) else lgi on pl a acc b
def lgo (on pl : Nat → Nat) : Nat → Nat
  | 0 => 0
  | a + 1 => lgi on pl a (lgo on pl a) a
theorem gpN_le (a b : Nat) : gpN a b ≤ 600 := by unfold gpN; omega
theorem adf_lt {a b n : Nat} (ha : a < n) (hb : b < n) : adf a b < n := by unfold adf; split <;> omega
theorem lgi_le {on pl : Nat → Nat} {a acc : Nat} (h : acc ≤ 601) : ∀ b, lgi on pl a acc b ≤ 601
  | 0 => h
  | b + 1 => by
    have h1 := lgi_le (on := on) (pl := pl) (a := a) h b
    have h2 := gpN_le (pl a) (pl b)
    unfold lgi
    split
    · exact mgn_le h1 (by omega)
    · exact h1
theorem lgo_le {on pl : Nat → Nat} : ∀ a, lgo on pl a ≤ 601
  | 0 => by simp [lgo]
  | a + 1 => lgi_le (lgo_le a) a
/-- what all cars' places are behind a move, the first n done -/
def mvf (on pl : Nat → Nat) (k n : Nat) : Nat → Nat := fun j => if j < n ∧ on j = 1 then (pl j + k) % 1200 else pl j
/-- what a tower votes -/
def vnN (wi sl st : Nat → Nat) (t : Nat) : Nat := if wi t < sl t then 2 else if wi t < st t then 1 else 0
theorem vnN_le (wi sl st : Nat → Nat) (t : Nat) : vnN wi sl st t ≤ 2 := by unfold vnN; split <;> (try split) <;> omega
/-- the way to the nearest tower that isn't cut off among the first n (0: none) -/
def dlN (cu : Nat → Nat) (t : Nat) : Nat → Nat
  | 0 => 0
  | o + 1 => if cu o = 0 then mgn (dlN cu t o) (adf t o) else dlN cu t o
theorem dlN_le {cu : Nat → Nat} {t : Nat} (ht : t < 7) : ∀ o, o ≤ 7 → dlN cu t o ≤ 7
  | 0, _ => by simp [dlN]
  | o + 1, h => by
    have h1 := dlN_le (cu := cu) ht o (by omega)
    unfold dlN
    split
    · exact mgn_le h1 (adf_lt ht (by omega))
    · exact h1
/-- when a vote of the minute m comes -/
def cmN (m d : Nat) : Nat := if d = 0 then 0 else m + (d - 1)
/-- a fresh vote -/
abbrev frP (T : Nat) (vt : Nat → Nat) (t : Nat) : Prop := vt t ≠ 0 ∧ T ≤ vt t + 3
def fsI (T : Nat) (vt : Nat → Nat) : Nat → Int32
  | 0 => nI 0
  | n + 1 => if frP T vt n then fsI T vt n ||| (nI 1 <<< (nI n &&& 31)) else fsI T vt n
/-- how many fresh votes say w -/
def cvN (T : Nat) (vt vv : Nat → Nat) (w : Nat) : Nat → Nat := ct (fun t => bq (frP T vt t ∧ vv t = w))
/-- what is decided -/
def dcN (full slow stop : Nat) : Nat := if 4 ≤ full ∧ stop = 0 then 2 else if 4 ≤ full + slow ∧ stop ≤ 1 then 1 else 0
theorem dcN_le (a b d : Nat) : dcN a b d ≤ 2 := by unfold dcN; split <;> (try split) <;> omega
/-- a ticket's refund -/
def rfN (w h : Nat) : Nat := min w (w * (h - 5) / 10)
/-- the people in a car who have not arrived -/
def ppN (tc tp ar : Nat → Nat) (k : Nat) : Nat → Nat := ct (fun j => if tc j = k ∧ ar j = 0 then tp j else 0)
theorem ix_ge {k n : Nat} {x : Int32} (hk : k < 2 ^ 31) (h : n ≤ k) (g : nI n ≤ x) : n ≤ ix k x := by
  rcases pk_ix x hk with h1 | h1 | ⟨j, h1, rfl⟩
  · rw [ix_neg h1]; exact h
  · rw [ix_big hk h1]; exact h
  · rw [ix_nI h1 hk]; exact (nI_leI (by omega) (by omega)).mp g
theorem ix_lt2 {k n : Nat} {x : Int32} (hk : k < 2 ^ 31) (h : n ≤ k) (h0 : ¬ x < 0) (g : ¬ nI n ≤ x) : ix k x < n := by
  obtain ⟨j, hj, rfl⟩ := ix_of (n := n) (by omega) h0 g
  rw [ix_nI (by omega) hk]; exact hj
theorem nI_xor_nn {a b : Nat} (ha : a < 2 ^ 31) (hb : b < 2 ^ 31) : 0 ≤ nI a ^^^ nI b := by
  have e : nI a ^^^ nI b = nI (a ^^^ b) := by
    apply Int32.toBitVec_inj.mp
    simp [nI]
  rw [e]
  exact nI_pos' (Nat.xor_lt_two_pow ha hb)
theorem mgn_0 {acc g : Nat} (h : acc = 0) : mI (mgn acc g) = nI g := by rw [mgn, if_pos h, mI_s]
theorem mgn_1 {acc g : Nat} (h : 0 < acc) : mI (mgn acc g) = nI (min (acc - 1) g) := by
  rw [mgn, if_neg (by omega), mI_pos (by omega)]
  congr 1
  omega
theorem lgi_t {on pl : Nat → Nat} {a acc b : Nat} (h : on a = 1 ∧ on b = 1) : lgi on pl a acc (b + 1) = mgn (lgi on pl a acc b) (gpN (pl a) (pl b)) := if_pos h
theorem lgi_f {on pl : Nat → Nat} {a acc b : Nat} (h : ¬ (on a = 1 ∧ on b = 1)) : lgi on pl a acc (b + 1) = lgi on pl a acc b := if_neg h
theorem dlN_t {cu : Nat → Nat} {t o : Nat} (h : cu o = 0) : dlN cu t (o + 1) = mgn (dlN cu t o) (adf t o) := if_pos h
theorem dlN_f {cu : Nat → Nat} {t o : Nat} (h : ¬ cu o = 0) : dlN cu t (o + 1) = dlN cu t o := if_neg h
theorem fsI_t {T : Nat} {vt : Nat → Nat} {n : Nat} (h : frP T vt n) : fsI T vt (n + 1) = fsI T vt n ||| (nI 1 <<< (nI n &&& 31)) := if_pos h
theorem fsI_f {T : Nat} {vt : Nat → Nat} {n : Nat} (h : ¬ frP T vt n) : fsI T vt (n + 1) = fsI T vt n := if_neg h
theorem mvf_s1 {on pl : Nat → Nat} {k n : Nat} (h : on n = 1) : va_up (mvf on pl k n) n ((pl n + k) % 1200) = mvf on pl k (n + 1) := by
  funext j
  unfold va_up mvf
  by_cases e : j = n
  · subst e; rw [if_pos rfl, if_pos ⟨by omega, h⟩]
  · rw [if_neg e]
    by_cases q : j < n ∧ on j = 1
    · rw [if_pos q, if_pos ⟨by omega, q.2⟩]
    · rw [if_neg q, if_neg (fun z => q ⟨by omega, z.2⟩)]
theorem mvf_s0 {on pl : Nat → Nat} {k n : Nat} (h : ¬ on n = 1) : mvf on pl k n = mvf on pl k (n + 1) := by
  funext j
  unfold mvf
  by_cases q : j < n ∧ on j = 1
  · rw [if_pos q, if_pos ⟨by omega, q.2⟩]
  · rw [if_neg q, if_neg (fun z => by
      rcases (show j < n ∨ j = n by omega) with g | rfl
      · exact q ⟨g, z.2⟩
      · exact h z.2)]
theorem mvf_0 (on pl : Nat → Nat) (k : Nat) : mvf on pl k 0 = pl := by
  funext j
  unfold mvf
  rw [if_neg (by omega)]
theorem mvf_at {on pl : Nat → Nat} {k n : Nat} : mvf on pl k n n = pl n := by
  unfold mvf
  rw [if_neg (by omega)]
/-- how many cars are too near to the place 0 -/
def nrN (on pl : Nat → Nat) (n : Nat) : Nat := ct (fun j => bq (on j = 1 ∧ gpN (pl j) 0 < 60)) n
theorem nrN_s (on pl : Nat → Nat) (n : Nat) : nrN on pl (n + 1) = nrN on pl n + bq (on n = 1 ∧ gpN (pl n) 0 < 60) := rfl
theorem ct_part {f : Nat → Nat} {j : Nat} : ∀ {n : Nat}, j < n → f j ≤ ct f n
  | 0, h => absurd h (by omega)
  | n + 1, h => by
    rw [ct_s]
    rcases (show j < n ∨ j = n by omega) with g | rfl
    · have := ct_part (f := f) g; omega
    · omega
theorem nrN_pos {on pl : Nat → Nat} {i n : Nat} (hi : i < n) (h1 : on i = 1) (h2 : gpN (pl i) 0 < 60) (h : nrN on pl n = 0) : False := by
  have h3 : bq (on i = 1 ∧ gpN (pl i) 0 < 60) ≤ nrN on pl n := ct_part (f := fun j => bq (on j = 1 ∧ gpN (pl j) 0 < 60)) hi
  rw [bq_t ⟨h1, h2⟩] at h3
  omega
theorem lt_succ_eq {j n : Nat} (h : ¬ j = n) : (j < n + 1) = (j < n) := by apply propext; omega
/-- fresh votes of the class's control that say w (its rows hold a vote and one) -/
def cfN (T : Nat) (cb vt : Nat → Nat) (w : Nat) : Nat → Nat := ct (fun t => bq (cb t = w + 1 ∧ frP T vt t))
theorem cfN_s (T : Nat) (cb vt : Nat → Nat) (w n : Nat) : cfN T cb vt w (n + 1) = cfN T cb vt w n + bq (cb n = w + 1 ∧ frP T vt n) := rfl
theorem cfN_le (T : Nat) (cb vt : Nat → Nat) (w n : Nat) : cfN T cb vt w n ≤ n := by
  have h : cfN T cb vt w n ≤ n * 1 := ct_le (fun j _ => bq_le _)
  omega
theorem cvN_s (T : Nat) (vt vv : Nat → Nat) (w n : Nat) : cvN T vt vv w (n + 1) = cvN T vt vv w n + bq (frP T vt n ∧ vv n = w) := rfl
theorem cvN_le (T : Nat) (vt vv : Nat → Nat) (w n : Nat) : cvN T vt vv w n ≤ n := by
  have h : cvN T vt vv w n ≤ n * 1 := ct_le (fun j _ => bq_le _)
  omega
/-- votes on the way -/
def owN (T : Nat) (cm : Nat → Nat) : Nat → Nat := ct (fun k => bq (T < cm k))
theorem owN_s (T : Nat) (cm : Nat → Nat) (n : Nat) : owN T cm (n + 1) = owN T cm n + bq (T < cm n) := rfl
/-- the control takes a vote of the minute m, if it has none or an earlier one -/
def tkF (x vt : Nat → Nat) (t v m : Nat) : Nat → Nat := if vt t < m then va_up x t v else x
theorem tkF_t {x vt : Nat → Nat} {t v m : Nat} (h : vt t < m) : tkF x vt t v m = va_up x t v := if_pos h
theorem tkF_f {x vt : Nat → Nat} {t v m : Nat} (h : ¬ vt t < m) : tkF x vt t v m = x := if_neg h
/-- a tower's vote at the control when the minutes T - 6 .. have been looked through, n of them: (time, what) -/
def dv (T : Nat) (Rr X : Nat → Nat → Nat) (vt x : Nat → Nat) (t : Nat) : Nat → Nat × Nat
  | 0 => (vt t, x t)
  | n + 1 => if 6 - n < T ∧ Rr (6 - n) t = T ∧ (dv T Rr X vt x t n).1 < T - (6 - n) then (T - (6 - n), X (6 - n) t) else dv T Rr X vt x t n
def dmt (T : Nat) (Rr X : Nat → Nat → Nat) (vt x : Nat → Nat) (n t0 : Nat) : Nat → Nat := fun t => if t < 7 then (dv T Rr X vt x t (if t < t0 then n + 1 else n)).1 else vt t
def dmx (T : Nat) (Rr X : Nat → Nat → Nat) (vt x : Nat → Nat) (n t0 : Nat) : Nat → Nat := fun t => if t < 7 then (dv T Rr X vt x t (if t < t0 then n + 1 else n)).2 else x t
def r7 (T : Nat) (f : Nat → Nat) (i t : Nat) : Nat := f ((T + 7 - i) % 7 * 7 + t)
def r7s (T : Nat) (f : Nat → Nat) (i t : Nat) : Nat := f ((T + 7 - i) % 7 * 7 + t) + 1
def r8 (T : Nat) (f : Nat → Nat) (i t : Nat) : Nat := f (8 * t + (T + 8 - i) % 8)
section DV
variable {T : Nat} {Rr X : Nat → Nat → Nat} {vt x : Nat → Nat}
theorem dv_skip {t : Nat} : ∀ {n : Nat}, n + T ≤ 7 → dv T Rr X vt x t n = (vt t, x t)
  | 0, _ => rfl
  | n + 1, h => by
    unfold dv
    rw [if_neg (by omega), dv_skip (by omega)]
theorem dm_start {n : Nat} (h : n = 0 ∨ n + T ≤ 7) : dmt T Rr X vt x n 0 = vt ∧ dmx T Rr X vt x n 0 = x := by
  have e : ∀ t, dv T Rr X vt x t n = (vt t, x t) := fun t => by
    rcases h with rfl | h
    · rfl
    · exact dv_skip h
  constructor
  · funext t; unfold dmt; rw [if_neg (Nat.not_lt_zero t), e]; split <;> rfl
  · funext t; unfold dmx; rw [if_neg (Nat.not_lt_zero t), e]; split <;> rfl
theorem dm_next (n : Nat) : dmt T Rr X vt x n 7 = dmt T Rr X vt x (n + 1) 0 ∧ dmx T Rr X vt x n 7 = dmx T Rr X vt x (n + 1) 0 := by
  constructor
  · funext t; unfold dmt
    by_cases h : t < 7
    · rw [if_pos h, if_pos h, if_pos h, if_neg (Nat.not_lt_zero t)]
    · rw [if_neg h, if_neg h]
  · funext t; unfold dmx
    by_cases h : t < 7
    · rw [if_pos h, if_pos h, if_pos h, if_neg (Nat.not_lt_zero t)]
    · rw [if_neg h, if_neg h]
theorem dmt_at {n t0 : Nat} (h : t0 < 7) : dmt T Rr X vt x n t0 t0 = (dv T Rr X vt x t0 n).1 := by
  unfold dmt; rw [if_pos h, if_neg (Nat.lt_irrefl _)]
/-- this minute's vote of the tower t0 isn't here now -/
theorem dm_no {n t0 : Nat} (h : t0 < 7) (g : ¬ (6 - n < T ∧ Rr (6 - n) t0 = T ∧ dmt T Rr X vt x n t0 t0 < T - (6 - n))) : dmt T Rr X vt x n t0 = dmt T Rr X vt x n (t0 + 1) ∧ dmx T Rr X vt x n t0 = dmx T Rr X vt x n (t0 + 1) := by
  rw [dmt_at h] at g
  have e : dv T Rr X vt x t0 (n + 1) = dv T Rr X vt x t0 n := by rw [dv, if_neg g]
  constructor
  · funext t; unfold dmt
    by_cases q : t = t0
    · subst q; rw [if_neg (Nat.lt_irrefl t), if_pos (Nat.lt_succ_self t), e]
    · simp only [lt_succ_eq q]
  · funext t; unfold dmx
    by_cases q : t = t0
    · subst q; rw [if_neg (Nat.lt_irrefl t), if_pos (Nat.lt_succ_self t), e]
    · simp only [lt_succ_eq q]
/-- .. is here -/
theorem dm_yes {n t0 m w : Nat} (h : t0 < 7) (g1 : 6 - n < T) (g2 : Rr (6 - n) t0 = T) (hm : m = T - (6 - n)) (hw : X (6 - n) t0 = w) : tkF (dmt T Rr X vt x n t0) (dmt T Rr X vt x n t0) t0 m m = dmt T Rr X vt x n (t0 + 1) ∧ tkF (dmx T Rr X vt x n t0) (dmt T Rr X vt x n t0) t0 w m = dmx T Rr X vt x n (t0 + 1) := by
  subst hm
  by_cases g3 : dmt T Rr X vt x n t0 t0 < T - (6 - n)
  · rw [tkF_t g3, tkF_t g3]
    rw [dmt_at h] at g3
    have e : dv T Rr X vt x t0 (n + 1) = (T - (6 - n), w) := by rw [dv, if_pos ⟨g1, g2, g3⟩, hw]
    constructor
    · funext t; unfold va_up
      by_cases q : t = t0
      · subst q; rw [if_pos rfl]; unfold dmt; rw [if_pos h, if_pos (Nat.lt_succ_self t), e]
      · rw [if_neg q]; unfold dmt; simp only [lt_succ_eq q]
    · funext t; unfold va_up
      by_cases q : t = t0
      · subst q; rw [if_pos rfl]; unfold dmx; rw [if_pos h, if_pos (Nat.lt_succ_self t), e]
      · rw [if_neg q]; unfold dmx; simp only [lt_succ_eq q]
  · rw [tkF_f g3, tkF_f g3]
    exact dm_no h (fun z => g3 z.2.2)
theorem dv_le {t : Nat} (h : vt t ≤ T) : ∀ n : Nat, (dv T Rr X vt x t n).1 ≤ T
  | 0 => h
  | n + 1 => by
    unfold dv
    split
    · exact Nat.sub_le _ _
    · exact dv_le h n
theorem dmt_le {n t0 : Nat} (h : ∀ t, t < 7 → vt t ≤ T) {t : Nat} (ht : t < 7) : dmt T Rr X vt x n t0 t ≤ T := by
  unfold dmt; rw [if_pos ht]; exact dv_le (h t ht) _
end DV
/-- tickets that arrive, the first n looked at: w is what the row holds for 'now' -/
def taf (ta tg : Nat → Nat) (w U n : Nat) : Nat → Nat := fun j => if j < n ∧ ta j = 0 ∧ tg j ≤ U then w else ta j
/-- tickets that hang -/
def thf (th ta tg tc ou : Nat → Nat) (U v n : Nat) : Nat → Nat := fun j => if j < n ∧ ta j = 0 ∧ U < tg j ∧ v = 0 ∧ ou (tc j) = 1 then th j + 1 else th j
def oC (on pl : Nat → Nat) (k : Nat) : Nat := bq (on k = 1 ∧ ¬ (pl k < 20 ∨ 600 ≤ pl k ∧ pl k < 620))
section TF
variable {ta tg th tc ou : Nat → Nat} {w U v n : Nat}
theorem taf_0 : taf ta tg w U 0 = ta := by funext j; unfold taf; rw [if_neg (by omega)]
theorem thf_0 : thf th ta tg tc ou U v 0 = th := by funext j; unfold thf; rw [if_neg (by omega)]
theorem taf_at : taf ta tg w U n n = ta n := by unfold taf; rw [if_neg (by omega)]
theorem thf_at : thf th ta tg tc ou U v n n = th n := by unfold thf; rw [if_neg (by omega)]
theorem taf_s0 (h : ¬ (ta n = 0 ∧ tg n ≤ U)) : taf ta tg w U n = taf ta tg w U (n + 1) := by
  funext j; unfold taf
  by_cases q : j = n
  · subst q; rw [if_neg (by omega), if_neg (fun z => h z.2)]
  · simp only [lt_succ_eq q]
theorem taf_s1 (h : ta n = 0 ∧ tg n ≤ U) : va_up (taf ta tg w U n) n w = taf ta tg w U (n + 1) := by
  funext j; unfold va_up taf
  by_cases q : j = n
  · subst q; rw [if_pos rfl, if_pos ⟨Nat.lt_succ_self j, h⟩]
  · rw [if_neg q]; simp only [lt_succ_eq q]
theorem thf_s0 (h : ¬ (ta n = 0 ∧ U < tg n ∧ v = 0 ∧ ou (tc n) = 1)) : thf th ta tg tc ou U v n = thf th ta tg tc ou U v (n + 1) := by
  funext j; unfold thf
  by_cases q : j = n
  · subst q; rw [if_neg (by omega), if_neg (fun z => h z.2)]
  · simp only [lt_succ_eq q]
theorem thf_s1 (h : ta n = 0 ∧ U < tg n ∧ v = 0 ∧ ou (tc n) = 1) : va_up (thf th ta tg tc ou U v n) n (th n + 1) = thf th ta tg tc ou U v (n + 1) := by
  funext j; unfold va_up thf
  by_cases q : j = n
  · subst q; rw [if_pos rfl, if_pos ⟨Nat.lt_succ_self j, h⟩]
  · rw [if_neg q]; simp only [lt_succ_eq q]
end TF
/-- all refunds of the first n tickets -/
def rsN (tf tp th : Nat → Nat) : Nat → Nat := ct (fun j => rfN (tf j * tp j) (th j))
theorem rsN_s (tf tp th : Nat → Nat) (n : Nat) : rsN tf tp th (n + 1) = rsN tf tp th n + rfN (tf n * tp n) (th n) := rfl
theorem ppN_s (tc tp ar : Nat → Nat) (k n : Nat) : ppN tc tp ar k (n + 1) = ppN tc tp ar k n + (if tc n = k ∧ ar n = 0 then tp n else 0) := rfl
theorem mx5 {h : Nat} (hh : h < 2 ^ 30) : (if nI 0 < nI h - nI 5 then nI h - nI 5 else nI 0) = nI (h - 5) := by
  by_cases g : 5 < h
  · rw [pk_sub (by omega), if_pos (nI_lt (by omega) (by omega))]
  · have e : (nI h - nI 5).toInt = (h : Int) - 5 := pk_sub_toInt hh (by decide)
    rw [if_neg (fun q => by rw [Int32.lt_iff_toInt_lt, e, nI_toInt (by decide)] at q; omega), show h - 5 = 0 from by omega]
theorem mx7 {T : Nat} (hT : T < 2 ^ 30) : (if nI 1 < nI T - nI 7 + nI 1 then nI T - nI 7 + nI 1 else nI 1) = nI (max 1 (T - 6)) := by
  by_cases g : 7 ≤ T
  · rw [pk_sub g, nI_add, show T - 7 + 1 = T - 6 from by omega, rr_max (by omega) (by omega)]
  · have e1 : (nI T - nI 7).toInt = (T : Int) - 7 := pk_sub_toInt hT (by decide)
    have e2 : nI T - nI 7 + nI 1 = nI (T + 1) - nI 7 := by
      rw [← nI_add, Int32.add_comm (nI T) (nI 1), Int32.add_comm (nI T - nI 7) (nI 1), Int32.sub_eq_add_neg, Int32.sub_eq_add_neg, Int32.add_assoc]
    have e3 : (nI (T + 1) - nI 7).toInt = ((T + 1 : Nat) : Int) - 7 := pk_sub_toInt (by omega) (by decide)
    rw [e2, if_neg (fun q => by rw [Int32.lt_iff_toInt_lt, e3, nI_toInt (by decide)] at q; omega), show max 1 (T - 6) = 1 from by omega]
/-- the steps of Integer.bitCount -/
def us (x y : Int32) : Int32 := (x.toUInt32 >>> (y.toUInt32 &&& Int32.toUInt32 31)).toInt32
def bc1 (x : Int32) : Int32 := x - (us x (nI 1) &&& 1431655765)
def bc2 (x : Int32) : Int32 := (x &&& 858993459) + (us x (nI 2) &&& 858993459)
def bc3 (x : Int32) : Int32 := (x + us x (nI 4)) &&& 252645135
def bc4 (x : Int32) : Int32 := x + us x (nI 8)
def bc5 (x : Int32) : Int32 := x + us x (nI 16)
def bcI (x : Int32) : Int32 := bc5 (bc4 (bc3 (bc2 (bc1 x)))) &&& nI 63
