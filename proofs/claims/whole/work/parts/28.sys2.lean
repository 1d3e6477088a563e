theorem p2_lt {q : Nat} (h : q < 30) : 1 * 2 ^ q < 4294967296 := by
  rw [Nat.one_mul]
  exact Nat.lt_of_lt_of_le (Nat.pow_lt_pow_right (by omega) h) (by decide)
def bitsF (P : Nat → Prop) [DecidablePred P] : Nat → Nat
  | 0 => 0
  | n + 1 => if P n then bitsF P n ||| (1 * 2 ^ n) else bitsF P n
theorem bits_pos {P : Nat → Prop} [DecidablePred P] {n : Nat} (h : P n) : bitsF P (n + 1) = bitsF P n ||| (1 * 2 ^ n) := by simp only [bitsF]; rw [if_pos h]
theorem bits_neg {P : Nat → Prop} [DecidablePred P] {n : Nat} (h : ¬ P n) : bitsF P (n + 1) = bitsF P n := by simp only [bitsF]; rw [if_neg h]
def a_toward (T : Sy) (p : Int) : Int32 := if isP T p then nI (bitsF (fun q => tellF (tS T) p.toNat q) (rN (tS T))) else iI (-1)
def lookF (S : Rm) : Nat → Nat × Nat
  | 0 => (0, 0)
  | q + 1 => if (lookF S q).2 < cntP (fun i => tellF S i q) (rN S) then (q, cntP (fun i => tellF S i q) (rN S)) else lookF S q
theorem look_pos {S : Rm} {q : Nat} (h : (lookF S q).2 < cntP (fun i => tellF S i q) (rN S)) : lookF S (q + 1) = (q, cntP (fun i => tellF S i q) (rN S)) := by simp only [lookF]; rw [if_pos h]
theorem look_neg {S : Rm} {q : Nat} (h : ¬ (lookF S q).2 < cntP (fun i => tellF S i q) (rN S)) : lookF S (q + 1) = lookF S q := by simp only [lookF]; rw [if_neg h]
theorem look_le {S : Rm} : ∀ q, (lookF S q).2 ≤ rN S ∧ (lookF S q).1 ≤ q
  | 0 => ⟨Nat.zero_le _, Nat.zero_le _⟩
  | q + 1 => by
    have := look_le (S := S) q
    simp only [lookF]
    split
    · exact ⟨cntP_le _, by show q ≤ q + 1; omega⟩
    · exact ⟨this.1, by omega⟩
def a_looked (T : Sy) (w : Int) : Int32 := if 0 ≤ w ∧ w < ((2 : Nat) : Int) then (if w = 0 then nI (lookF (tS T) (rN (tS T))).1 else nI (lookF (tS T) (rN (tS T))).2) else iI (-1)
def a_behind (T : Sy) (n p : Int) : Int32 := if (0 ≤ n ∧ n ≤ 40) ∧ isP T p then nI (itF (rK (tS T) p.toNat) (draftF (tS T) p.toNat) (rV (tS T) p.toNat) n.toNat) else iI (-1)
def stlF (S : Rm) : Nat → Nat → Option Nat
  | 0, _ => none
  | f + 1, n => if turnsF (hoursF S n) = 0 then some n else stlF S f (n + 1)
theorem stl_pos {S : Rm} {f n : Nat} (h : turnsF (hoursF S n) = 0) : stlF S (f + 1) n = some n := by simp only [stlF]; rw [if_pos h]
theorem stl_neg {S : Rm} {f n : Nat} (h : ¬ turnsF (hoursF S n) = 0) : stlF S (f + 1) n = stlF S f (n + 1) := by simp only [stlF]; rw [if_neg h]
theorem hours_B {S : Rm} (hB : RmB S) : ∀ n, RmB (hoursF S n)
  | 0 => hB
  | n + 1 => hour_B (hours_B hB n)
theorem hours_same {S : Rm} : ∀ n, rN (hoursF S n) = rN S ∧ rW (hoursF S n) = rW S ∧ rH (hoursF S n) = rH S ∧ rK (hoursF S n) = rK S ∧ rX (hoursF S n) = rX S ∧ rY (hoursF S n) = rY S ∧ rL (hoursF S n) = rL S ∧ rT (hoursF S n) = rT S + n
  | 0 => ⟨rfl, rfl, rfl, rfl, rfl, rfl, rfl, rfl⟩
  | n + 1 => by
    obtain ⟨a, b, c, d, e, f, g, t⟩ := hours_same (S := S) n
    exact ⟨a, b, c, d, e, f, g, by show rT (hoursF S n) + 1 = _; omega⟩
def a_see (T : Sy) (p n w : Int) : Int32 := if (isP T p ∧ 0 ≤ n ∧ n ≤ 20) ∧ 0 ≤ w ∧ w < ((8 : Nat) : Int) then (if (tN T).length < 6 then nI ((tN T).length + 1) else iI (-3)) else iI (-1)
def n_see (T : Sy) (p n w : Int) : Sy := if ((isP T p ∧ 0 ≤ n ∧ n ≤ 20) ∧ 0 ≤ w ∧ w < ((8 : Nat) : Int)) ∧ (tN T).length < 6 then (tT T, tS T, tP T, tK T, tN T ++ [(p.toNat, n.toNat, w.toNat)]) else T
def a_kinds (T : Sy) (p : Int) : Int32 := if isP T p then nI (bitsF (fun kd => holdF (tN T) p.toNat kd (rV (tS T) p.toNat) (draftF (tS T) p.toNat)) 4) else iI (-1)
def a_count (T : Sy) (w : Int) : Int32 := if w = 0 then nI (rW (tS T)) else if w = 1 then nI (rH (tS T)) else if w = 2 then nI (rN (tS T)) else if w = 3 then nI (rT (tS T)) else if w = 4 then nI (cntP (fun i => draftF (tS T) i ≠ none) (rN (tS T)))
  else if w = 5 then nI (cntP (fun i => rL (tS T) (i / 6) (i % 6) ≠ 0) 36) else if w = 6 then nI (tN T).length else if w = 7 then nI (tP T).length else if w = 8 then nI (tK T).length else if w = 9 then nI (tT T).length else iI (-1)
def evF (S : Rm) (z : Nat) : Nat → Rm × Nat
  | 0 => (S, 0)
  | k + 1 => (hourF (actF (evF S z k).1 (drawF z k)), (evF S z k).2 + turnsF (actF (evF S z k).1 (drawF z k)))
def a_evening (T : Sy) (z n w : Int) : Int32 := if ((0 ≤ z ∧ z ≤ 9999) ∧ 1 ≤ n ∧ n ≤ 60) ∧ 0 ≤ w ∧ w < ((2 : Nat) : Int) then (if w = 0 then nI (sumV (evF (tS T) z.toNat n.toNat).1 (rN (tS T))) else nI (evF (tS T) z.toNat n.toNat).2) else iI (-1)
theorem act_same {S : Rm} (d : Nat) : rN (actF S d) = rN S ∧ rW (actF S d) = rW S ∧ rH (actF S d) = rH S ∧ rK (actF S d) = rK S := by
  unfold actF
  repeat' split
  all_goals exact ⟨rfl, rfl, rfl, rfl⟩
theorem act_B {S : Rm} (hB : RmB S) (d : Nat) : RmB (actF S d) := by
  unfold actF
  split
  · split
    · next h =>
      have h1 := h.1
      exact put_B hB (by omega) (by omega)
    · exact hB
  · split
    · exact lean_B hB (by show (-20 : Int) ≤ ((d / 512 % 41 : Nat) : Int) - ((20 : Nat) : Int); omega) (by show ((d / 512 % 41 : Nat) : Int) - ((20 : Nat) : Int) ≤ 20; omega)
    · exact hB
theorem ev_B {S : Rm} (hB : RmB S) (z : Nat) : ∀ k, RmB (evF S z k).1 ∧ rN (evF S z k).1 = rN S
  | 0 => ⟨hB, rfl⟩
  | k + 1 => by
    have ih := ev_B hB z k
    exact ⟨hour_B (act_B ih.1 _), by show rN (actF (evF S z k).1 (drawF z k)) = rN S; rw [(act_same _).1, ih.2]⟩
theorem ev_bd {S : Rm} (hB : RmB S) (z : Nat) : ∀ k, (evF S z k).2 ≤ 6 * k
  | 0 => Nat.le_refl _
  | k + 1 => by
    have ih := ev_bd hB z k
    have h1 := ev_B hB z k
    have h2 : turnsF (actF (evF S z k).1 (drawF z k)) ≤ rN (actF (evF S z k).1 (drawF z k)) := cntP_le _
    rw [(act_same _).1, h1.2] at h2
    have := hB.1
    show (evF S z k).2 + turnsF (actF (evF S z k).1 (drawF z k)) ≤ 6 * (k + 1)
    omega
