theorem way_scale {c : Nat} (h0 : 0 < c) (h1 : c ≤ 12) (dx dy : Int) : wayF ((c : Int) * dx) ((c : Int) * dy) = wayF dx dy := by
  have e1 : ((c : Int) * dx = 0 ∧ (c : Int) * dy = 0) ↔ (dx = 0 ∧ dy = 0) := by
    rcases (show c = 1 ∨ c = 2 ∨ c = 3 ∨ c = 4 ∨ c = 5 ∨ c = 6 ∨ c = 7 ∨ c = 8 ∨ c = 9 ∨ c = 10 ∨ c = 11 ∨ c = 12 by omega) with h | h | h | h | h | h | h | h | h | h | h | h <;> subst h <;> omega
  have e2 : (2 * ((c : Int) * dy).natAbs < ((c : Int) * dx).natAbs) ↔ (2 * dy.natAbs < dx.natAbs) := by
    rcases (show c = 1 ∨ c = 2 ∨ c = 3 ∨ c = 4 ∨ c = 5 ∨ c = 6 ∨ c = 7 ∨ c = 8 ∨ c = 9 ∨ c = 10 ∨ c = 11 ∨ c = 12 by omega) with h | h | h | h | h | h | h | h | h | h | h | h <;> subst h <;> omega
  have e3 : (2 * ((c : Int) * dx).natAbs < ((c : Int) * dy).natAbs) ↔ (2 * dx.natAbs < dy.natAbs) := by
    rcases (show c = 1 ∨ c = 2 ∨ c = 3 ∨ c = 4 ∨ c = 5 ∨ c = 6 ∨ c = 7 ∨ c = 8 ∨ c = 9 ∨ c = 10 ∨ c = 11 ∨ c = 12 by omega) with h | h | h | h | h | h | h | h | h | h | h | h <;> subst h <;> omega
  have e4 : (0 < (c : Int) * dx) ↔ (0 < dx) := by
    rcases (show c = 1 ∨ c = 2 ∨ c = 3 ∨ c = 4 ∨ c = 5 ∨ c = 6 ∨ c = 7 ∨ c = 8 ∨ c = 9 ∨ c = 10 ∨ c = 11 ∨ c = 12 by omega) with h | h | h | h | h | h | h | h | h | h | h | h <;> subst h <;> omega
  have e5 : (0 < (c : Int) * dy) ↔ (0 < dy) := by
    rcases (show c = 1 ∨ c = 2 ∨ c = 3 ∨ c = 4 ∨ c = 5 ∨ c = 6 ∨ c = 7 ∨ c = 8 ∨ c = 9 ∨ c = 10 ∨ c = 11 ∨ c = 12 by omega) with h | h | h | h | h | h | h | h | h | h | h | h <;> subst h <;> omega
  unfold wayF
  simp only [e1, e2, e3, e4, e5]
abbrev farF (S : Rm) (p q : Nat) : Nat := ((rX S q : Int) - rX S p).natAbs + ((rY S q : Int) - rY S p).natAbs
theorem bit63 : ∀ j, j < 6 → 63 / 2 ^ j % 2 = 1 := by decide
theorem alone_felt {S : Rm} {p q n : Nat} (hn : n ≤ 6) (hq : q < n) (hqp : q ≠ p) : ∀ k, k ≤ n → feltE (rAlone S p q n) p 63 k = (if q < k then ((12 - farF S p q : Nat) : Int) * ((rX S q : Int) - rX S p) else 0) ∧ feltS (rAlone S p q n) p 63 k = (if q < k then ((12 - farF S p q : Nat) : Int) * ((rY S q : Int) - rY S p) else 0)
  | 0, _ => by simp [feltE, feltS]
  | k + 1, hk => by
    have ih := alone_felt (S := S) (p := p) hn hq hqp k (by omega)
    have hb := bit63 k (by omega)
    have hl : rL (rAlone S p q n) p k = if k = q then 1 else 0 := by
      show (if p = p ∧ k < n then (if k = q then (1 : Int) else 0) else rL S p k) = _
      rw [if_pos ⟨rfl, by omega⟩]
    simp only [feltE, feltS]
    rw [ih.1, ih.2]
    by_cases e : k = q
    · subst e
      have hpl : pullF (rAlone S p k n) p k = ((12 - farF S p k : Nat) : Int) := by
        unfold pullF
        rw [hl, if_pos rfl, Int.one_mul]
        rfl
      have hlt1 : ¬ k < k := Nat.lt_irrefl k
      have hlt2 : k < k + 1 := Nat.lt_succ_self k
      have hcnd : k ≠ p ∧ 63 / 2 ^ k % 2 = 1 := ⟨hqp, hb⟩
      refine ⟨?_, ?_⟩
      · rw [if_neg hlt1, if_pos hlt2, if_pos hcnd, hpl, Int.zero_add]; rfl
      · rw [if_neg hlt1, if_pos hlt2, if_pos hcnd, hpl, Int.zero_add]; rfl
    · have hpl : pullF (rAlone S p q n) p k = 0 := by
        unfold pullF
        rw [hl, if_neg e, Int.zero_mul]
      rw [hpl, Int.zero_mul, Int.zero_mul]
      have hx : (q < k + 1) ↔ (q < k) := by omega
      simp only [ite_self, Int.add_zero, hx]
      exact ⟨trivial, trivial⟩
theorem love_iff {S : Rm} {p q w : Nat} (hn : rN S ≤ 6) (hq : q < rN S) : loveP S p w q ↔ (q ≠ p ∧ farF S p q < 12 ∧ wayF ((rX S q : Int) - rX S p) ((rY S q : Int) - rY S p) = some w) := by
  constructor
  · intro ⟨h1, h2⟩
    have e := alone_felt (S := S) (p := p) hn hq h1 (rN S) (Nat.le_refl _)
    rw [if_pos hq, if_pos hq] at e
    have h3 : wayF (((12 - farF S p q : Nat) : Int) * ((rX S q : Int) - rX S p)) (((12 - farF S p q : Nat) : Int) * ((rY S q : Int) - rY S p)) = some w := by
      rw [← e.1, ← e.2]; exact h2
    by_cases hf : farF S p q < 12
    · rw [way_scale (by omega) (by omega)] at h3
      exact ⟨h1, hf, h3⟩
    · rw [show 12 - farF S p q = 0 by omega] at h3
      simp [wayF] at h3
  · intro ⟨h1, hf, h3⟩
    refine ⟨h1, ?_⟩
    have e := alone_felt (S := S) (p := p) hn hq h1 (rN S) (Nat.le_refl _)
    rw [if_pos hq, if_pos hq] at e
    show wayF (feltE (rAlone S p q (rN S)) p 63 (rN S)) (feltS (rAlone S p q (rN S)) p 63 (rN S)) = some w
    rw [e.1, e.2, way_scale (by omega) (by omega)]
    exact h3
