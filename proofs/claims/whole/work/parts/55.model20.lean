theorem bits_tb {P : Nat → Prop} [DecidablePred P] {q : Nat} : ∀ n, (bitsF P n).testBit q = decide (q < n ∧ P q)
  | 0 => by simp [bitsF]
  | n + 1 => by
    have ih := bits_tb (P := P) (q := q) n
    by_cases hp : P n
    · rw [bits_pos hp, Nat.testBit_or, ih, Nat.one_mul, Nat.testBit_two_pow]
      by_cases e : n = q
      · subst e; simp [hp]
      · have : (q < n + 1) ↔ (q < n) := by omega
        simp [e, this]
    · rw [bits_neg hp, ih]
      by_cases e : n = q
      · subst e; simp [hp]
      · have : (q < n + 1) ↔ (q < n) := by omega
        simp [this]
theorem bits_at {P : Nat → Prop} [DecidablePred P] {q n : Nat} (hq : q < n) : bitsF P n / 2 ^ q % 2 = if P q then 1 else 0 := by
  have h := bits_tb (P := P) (q := q) n
  rw [Nat.testBit_eq_decide_div_mod_eq] at h
  by_cases hp : P q
  · rw [if_pos hp]
    have h2 : decide (q < n ∧ P q) = true := decide_eq_true ⟨hq, hp⟩
    rw [h2] at h
    exact of_decide_eq_true h
  · rw [if_neg hp]
    have h2 : decide (q < n ∧ P q) = false := decide_eq_false (fun z => hp z.2)
    rw [h2] at h
    have := of_decide_eq_false h
    omega
theorem bits_lt {P : Nat → Prop} [DecidablePred P] : ∀ n, bitsF P n < 2 ^ n
  | 0 => by simp [bitsF]
  | n + 1 => by
    have ih := bits_lt (P := P) n
    have h1 : bitsF P n < 2 ^ (n + 1) := Nat.lt_trans ih (Nat.pow_lt_pow_right (by omega) (by omega))
    simp only [bitsF]
    split
    · exact Nat.or_lt_two_pow h1 (by rw [Nat.one_mul]; exact Nat.pow_lt_pow_right (by omega) (by omega))
    · exact h1
theorem bits_64 {P : Nat → Prop} [DecidablePred P] {n : Nat} (h : n ≤ 6) : bitsF P n < 64 := Nat.lt_of_lt_of_le (bits_lt n) (p2_64 h)
/-- which and how many, as the reference keeps them -/
def lkI (S : Rm) (q : Nat) : Int × Int := if q = 0 then (-4, -1) else (((lookF S q).1 : Int), ((lookF S q).2 : Int))
theorem lkI_pos {S : Rm} {q : Nat} (h : (lkI S q).2 < ((cntP (fun i => tellF S i q) (rN S) : Nat) : Int)) : lkI S (q + 1) = ((q : Int), ((cntP (fun i => tellF S i q) (rN S) : Nat) : Int)) := by
  unfold lkI at *
  rw [if_neg (by omega)]
  by_cases hq : q = 0
  · subst hq
    by_cases hc : 0 < cntP (fun i => tellF S i 0) (rN S)
    · rw [look_pos (S := S) (q := 0) hc]
    · rw [look_neg (S := S) (q := 0) hc]
      show (((0 : Nat) : Int), ((0 : Nat) : Int)) = _
      rw [show cntP (fun i => tellF S i 0) (rN S) = 0 by omega]
  · rw [if_neg hq] at h
    rw [look_pos (by omega)]
theorem lkI_neg {S : Rm} {q : Nat} (h : ¬ (lkI S q).2 < ((cntP (fun i => tellF S i q) (rN S) : Nat) : Int)) : lkI S (q + 1) = lkI S q := by
  unfold lkI at *
  rw [if_neg (by omega)]
  by_cases hq : q = 0
  · subst hq
    rw [if_pos rfl] at h
    exfalso
    apply h
    show (-1 : Int) < _
    omega
  · rw [if_neg hq] at h ⊢
    rw [look_neg (by omega)]
theorem lkI_bd {S : Rm} (q : Nat) : (-4 ≤ (lkI S q).1 ∧ (lkI S q).1 ≤ q) ∧ -1 ≤ (lkI S q).2 ∧ (lkI S q).2 ≤ rN S := by
  have := look_le (S := S) q
  unfold lkI
  split
  · exact ⟨⟨by show (-4 : Int) ≤ -4; omega, by show (-4 : Int) ≤ _; omega⟩, by show (-1 : Int) ≤ -1; omega, by show (-1 : Int) ≤ _; omega⟩
  · exact ⟨⟨by show (-4 : Int) ≤ ((lookF S q).1 : Int); omega, by show ((lookF S q).1 : Int) ≤ q; omega⟩, by show (-1 : Int) ≤ ((lookF S q).2 : Int); omega, by show ((lookF S q).2 : Int) ≤ rN S; omega⟩
