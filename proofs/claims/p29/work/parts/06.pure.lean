-- plain facts: numbers out of arguments, answers of conditions, the shared words of both sides
def bq (c : Prop) [Decidable c] : Nat := if c then 1 else 0
theorem bq_le (c : Prop) [Decidable c] : bq c ≤ 1 := by unfold bq; split <;> omega
theorem bq_t {c : Prop} [Decidable c] (h : c) : bq c = 1 := if_pos h
theorem bq_f {c : Prop} [Decidable c] (h : ¬ c) : bq c = 0 := if_neg h
theorem bq_cong {a b : Prop} [Decidable a] [Decidable b] (h : a ↔ b) : bq a = bq b := by
  by_cases ha : a
  · rw [bq_t ha, bq_t (h.mp ha)]
  · rw [bq_f ha, bq_f (fun hb => ha (h.mpr hb))]
/-- the number of an argument, n where it isn't below n -/
def ix (n : Nat) (x : Int32) : Nat := if x < 0 then n else if nI n ≤ x then n else x.toNatClampNeg
theorem ix_neg {n : Nat} {x : Int32} (h : x < 0) : ix n x = n := if_pos h
theorem ix_big {n : Nat} {x : Int32} (hn : n < 2 ^ 31) (h : nI n ≤ x) : ix n x = n := by
  unfold ix; split <;> rfl
theorem ix_nI {n j : Nat} (h : j < n) (hn : n < 2 ^ 31) : ix n (nI j) = j := by
  unfold ix
  rw [if_neg (nI_pos (by omega)), if_neg (nI_ge h hn), nI_clamp (by omega)]
theorem ix_le (n : Nat) (x : Int32) (hn : n < 2 ^ 31) : ix n x ≤ n := by
  rcases pk_ix x hn with h | h | ⟨j, h, rfl⟩
  · rw [ix_neg h]; exact Nat.le_refl _
  · rw [ix_big hn h]; exact Nat.le_refl _
  · rw [ix_nI h hn]; omega
theorem ix_of {n : Nat} {x : Int32} (hn : n < 2 ^ 31) (h0 : ¬ x < 0) (h1 : ¬ nI n ≤ x) : ∃ j : Nat, j < n ∧ x = nI j := by
  rcases pk_ix x hn with h | h | h
  · exact absurd h h0
  · exact absurd h h1
  · exact h
theorem ix_lt {n : Nat} {x : Int32} (hn : n < 2 ^ 31) (h : ix n x < n) : x = nI (ix n x) := by
  rcases pk_ix x hn with h1 | h1 | ⟨j, h1, rfl⟩
  · rw [ix_neg h1] at h; omega
  · rw [ix_big hn h1] at h; omega
  · rw [ix_nI h1 hn]
/-- 'in(v, lo, hi)' in numbers -/
theorem ix_in {k lo hi : Nat} {x : Int32} (hk : k < 2 ^ 31) (h : hi < k) (hlo : lo < k) : (nI lo ≤ x ∧ x ≤ nI hi) ↔ (lo ≤ ix k x ∧ ix k x ≤ hi) := by
  rcases pk_ix x hk with h1 | h1 | ⟨j, h1, rfl⟩
  · rw [ix_neg h1]
    constructor
    · intro g
      have g1 := g.1
      rw [Int32.le_iff_toInt_le, nI_toInt (by omega)] at g1
      rw [Int32.lt_iff_toInt_lt] at h1
      have z : (0 : Int32).toInt = 0 := by decide
      omega
    · intro g; omega
  · rw [ix_big hk h1]
    constructor
    · intro g
      have g2 := g.2
      rw [Int32.le_iff_toInt_le, nI_toInt (by omega)] at g2
      rw [Int32.le_iff_toInt_le, nI_toInt (by omega)] at h1
      omega
    · intro g; omega
  · rw [ix_nI h1 hk, nI_leI (by omega) (by omega), nI_leI (by omega) (by omega)]
/-- 'in(v, 0, n - 1)' -/
theorem ix_in1 {k n : Nat} {x : Int32} (hk : k < 2 ^ 31) (h : n ≤ k) : (nI 0 ≤ x ∧ x ≤ nI n - nI 1) ↔ ix k x < n := by
  rcases Nat.eq_zero_or_pos n with rfl | hn
  · constructor
    · intro g
      have g1 := g.1; have g2 := g.2
      rw [Int32.le_iff_toInt_le] at g1 g2
      have z : (nI 0).toInt = 0 := by decide
      have z1 : (nI 0 - nI 1).toInt = -1 := by decide
      omega
    · intro g; omega
  · rw [show nI n - nI 1 = nI (n - 1) from by rw [pk_sub (by omega)], ix_in hk (by omega) (by omega)]
    omega
/-- an answer that may be NONE: 0 is NONE, n + 1 is n -/
def mI (n : Nat) : Int32 := nI n - 1
theorem mI_0 : mI 0 = -1 := by decide
theorem mI_s (n : Nat) : mI (n + 1) = nI n := nI_pred n
theorem mI_pos {n : Nat} (h : 0 < n) : mI n = nI (n - 1) := by
  obtain ⟨k, rfl⟩ : ∃ k, n = k + 1 := ⟨n - 1, by omega⟩
  rw [mI_s]; rfl
theorem nI_ne_m1 {n : Nat} (h : n < 2 ^ 31) : nI n ≠ -1 := by
  intro e
  have := nI_toInt h
  rw [e] at this
  have z : (-1 : Int32).toInt = -1 := by decide
  omega
theorem mI_m1 {n : Nat} (h : n < 2 ^ 31) : mI n = -1 ↔ n = 0 := by
  rcases Nat.eq_zero_or_pos n with rfl | hn
  · exact ⟨fun _ => rfl, fun _ => mI_0⟩
  · rw [mI_pos hn]
    exact ⟨fun e => absurd e (nI_ne_m1 (by omega)), fun e => by omega⟩
theorem mI_eq {a b : Nat} (ha : a < 2 ^ 31) (hb : b < 2 ^ 31) : mI a = nI b ↔ a = b + 1 := by
  rcases Nat.eq_zero_or_pos a with rfl | hn
  · rw [mI_0]; exact ⟨fun e => absurd e.symm (nI_ne_m1 hb), fun e => by omega⟩
  · rw [mI_pos hn, nI_eq (by omega) hb]; omega
/-- a time that may be NONE: 0 is NONE -/
def zI (n : Nat) : Int32 := if n = 0 then -1 else nI n
theorem zI_0 : zI 0 = -1 := rfl
theorem zI_pos {n : Nat} (h : 0 < n) : zI n = nI n := if_neg (by omega)
theorem zI_m1 {n : Nat} (h : n < 2 ^ 31) : zI n = -1 ↔ n = 0 := by
  rcases Nat.eq_zero_or_pos n with rfl | hn
  · exact ⟨fun _ => rfl, fun _ => rfl⟩
  · rw [zI_pos hn]; exact ⟨fun e => absurd e (nI_ne_m1 h), fun e => by omega⟩
theorem zI_le {a b : Nat} (ha : a < 2 ^ 31) (hb : b < 2 ^ 31) : nI a ≤ zI b ↔ (0 < b ∧ a ≤ b) := by
  rcases Nat.eq_zero_or_pos b with rfl | hn
  · rw [zI_0]
    constructor
    · intro h
      rw [Int32.le_iff_toInt_le, nI_toInt ha] at h
      have z : (-1 : Int32).toInt = -1 := by decide
      omega
    · intro h; omega
  · rw [zI_pos hn, nI_leI ha hb]
    exact ⟨fun h => ⟨hn, h⟩, fun h => h.2⟩
theorem rr_max {a b : Nat} (ha : a < 2 ^ 31) (hb : b < 2 ^ 31) : (if nI a < nI b then nI b else nI a) = nI (max a b) := by
  by_cases h : a < b
  · rw [if_pos (nI_lt h hb), Nat.max_eq_right (by omega)]
  · rw [if_neg (nI_nlt (by omega) ha), Nat.max_eq_left (by omega)]
theorem rr_min {a b : Nat} (ha : a < 2 ^ 31) (hb : b < 2 ^ 31) : (if nI b < nI a then nI b else nI a) = nI (min a b) := by
  by_cases h : b < a
  · rw [if_pos (nI_lt h ha), Nat.min_eq_right (by omega)]
  · rw [if_neg (nI_nlt (by omega) hb), Nat.min_eq_left (by omega)]
/-- how far two numbers are apart -/
def adf (a b : Nat) : Nat := if b < a then a - b else b - a
theorem adf_abs {a b : Nat} (ha : a < 2 ^ 30) (hb : b < 2 ^ 30) : (if 0 ≤ nI a - nI b then nI a - nI b else 0 - (nI a - nI b)) = nI (adf a b) := by
  have h := pk_sub_toInt ha hb
  by_cases g : b ≤ a
  · rw [pk_sub g, if_pos (nI_pos' (by omega))]
    unfold adf
    split
    · rfl
    · rw [show a - b = b - a from by omega]
  · rw [if_neg (fun q => by rw [Int32.le_iff_toInt_le, h] at q; have z : (0 : Int32).toInt = 0 := by decide
                            omega)]
    rw [show (0 : Int32) - (nI a - nI b) = nI b - nI a from by rw [Int32.zero_sub, Int32.neg_sub], pk_sub (by omega)]
    unfold adf
    rw [if_neg (by omega)]
/-- the gap of two places -/
def gpN (a b : Nat) : Nat := min (adf a b) (1200 - adf a b)
def inB (p : Nat) : Prop := p < 20
def inS (p : Nat) : Prop := p < 20 ∨ (600 ≤ p ∧ p < 620)
abbrev cB (p : Nat) : Nat := bq (p < 20)
abbrev cS (p : Nat) : Nat := bq (p < 20 ∨ (600 ≤ p ∧ p < 620))
def ptN (v : Nat) : Nat := if v = 2 then 30 else if v = 1 then 10 else 0
section PB
variable {p : Program} {l : Launch} {e : Env} {R : Room} {s : State} {m : MethodId} {args : Array Value} {below : List Frame} {meth : Method} {c : Code} {H : Heap} {locs : List Loc} {cells slots : Nat} {Q : State → Prop}
variable {pc : Nat} {ls : Array Slot} {rest : List Value} {cc : ByteArray}
theorem rr_bq_eq {a : Prop} {dec : Decidable a} {off : Int} {tgt : Nat} (hexec : p.tables.exec = Jvm.exec) (hb : c.code = cc) (hdg : decode cc pc = .ok (.ifCond .eq off, 3)) (ht : (pc : Int) + off = (tgt : Int)) (kt : ¬ a → W p l e R s m args below meth c H locs cells slots Q (F0 m tgt ls rest)) (kf : a → W p l e R s m args below meth c H locs cells slots Q (F0 m (pc + 3) ls rest)) : W p l e R s m args below meth c H locs cells slots Q (F0 m pc ls (.int (nI (bq a)) :: rest)) := by
  by_cases h : a
  · rw [bq_t h]; exact rr_if_eq (by decide) hexec hb hdg ht (fun z => by omega) (fun _ => kf h)
  · rw [bq_f h]; exact rr_if_eq (by decide) hexec hb hdg ht (fun _ => kt h) (fun z => by omega)
theorem rr_bq_ne {a : Prop} {dec : Decidable a} {off : Int} {tgt : Nat} (hexec : p.tables.exec = Jvm.exec) (hb : c.code = cc) (hdg : decode cc pc = .ok (.ifCond .ne off, 3)) (ht : (pc : Int) + off = (tgt : Int)) (kt : a → W p l e R s m args below meth c H locs cells slots Q (F0 m tgt ls rest)) (kf : ¬ a → W p l e R s m args below meth c H locs cells slots Q (F0 m (pc + 3) ls rest)) : W p l e R s m args below meth c H locs cells slots Q (F0 m pc ls (.int (nI (bq a)) :: rest)) := by
  by_cases h : a
  · rw [bq_t h]; exact rr_if_ne (by decide) hexec hb hdg ht (fun _ => kt h) (fun z => by omega)
  · rw [bq_f h]; exact rr_if_ne (by decide) hexec hb hdg ht (fun z => by omega) (fun _ => kf h)
end PB
