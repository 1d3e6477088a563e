/-! away: sums over sets with and without p -/
def sB (f : Nat → Nat) (p b : Nat) : Nat → Nat
  | 0 => 0
  | m + 1 => sB f p b m + if m / 2 ^ p % 2 = b then f m else 0
def sR (f : Nat → Nat) (N : Nat) : Nat → Nat
  | 0 => 0
  | j + 1 => sR f N j + f (N + j)
theorem bit_lo {p t j : Nat} (h : j < 2 ^ p) : (t * (2 * 2 ^ p) + j) / 2 ^ p % 2 = 0 := by
  have e : t * (2 * 2 ^ p) + j = 2 ^ p * (2 * t) + j := by rw [Nat.mul_comm 2 (2 ^ p), ← Nat.mul_assoc, Nat.mul_comm t, Nat.mul_assoc, Nat.mul_comm t 2]
  rw [e, Nat.mul_add_div (Nat.two_pow_pos p), Nat.div_eq_of_lt h]
  omega
theorem bit_hi {p t j : Nat} (h : j < 2 ^ p) : (t * (2 * 2 ^ p) + 2 ^ p + j) / 2 ^ p % 2 = 1 := by
  have e : t * (2 * 2 ^ p) + 2 ^ p + j = 2 ^ p * (2 * t + 1) + j := by rw [Nat.mul_add, Nat.mul_one, Nat.mul_comm 2 (2 ^ p), ← Nat.mul_assoc, Nat.mul_comm t, Nat.mul_assoc, Nat.mul_comm t 2]
  rw [e, Nat.mul_add_div (Nat.two_pow_pos p), Nat.div_eq_of_lt h]
  omega
theorem sB_lo {f : Nat → Nat} {p t : Nat} : ∀ j, j ≤ 2 ^ p → sB f p 0 (t * (2 * 2 ^ p) + j) = sB f p 0 (t * (2 * 2 ^ p)) + sR f (t * (2 * 2 ^ p)) j ∧ sB f p 1 (t * (2 * 2 ^ p) + j) = sB f p 1 (t * (2 * 2 ^ p))
  | 0, _ => ⟨rfl, rfl⟩
  | j + 1, h => by
    have ih := sB_lo (f := f) (p := p) (t := t) j (by omega)
    have b := bit_lo (t := t) (show j < 2 ^ p by omega)
    show sB f p 0 (t * (2 * 2 ^ p) + j) + (if (t * (2 * 2 ^ p) + j) / 2 ^ p % 2 = 0 then f (t * (2 * 2 ^ p) + j) else 0) = _ ∧ sB f p 1 (t * (2 * 2 ^ p) + j) + (if (t * (2 * 2 ^ p) + j) / 2 ^ p % 2 = 1 then f (t * (2 * 2 ^ p) + j) else 0) = _
    rw [if_pos b, if_neg (by omega), ih.1, ih.2]
    exact ⟨Nat.add_assoc _ _ _, rfl⟩
theorem sB_hi {f : Nat → Nat} {p t : Nat} : ∀ j, j ≤ 2 ^ p → sB f p 1 (t * (2 * 2 ^ p) + 2 ^ p + j) = sB f p 1 (t * (2 * 2 ^ p) + 2 ^ p) + sR f (t * (2 * 2 ^ p) + 2 ^ p) j ∧ sB f p 0 (t * (2 * 2 ^ p) + 2 ^ p + j) = sB f p 0 (t * (2 * 2 ^ p) + 2 ^ p)
  | 0, _ => ⟨rfl, rfl⟩
  | j + 1, h => by
    have ih := sB_hi (f := f) (p := p) (t := t) j (by omega)
    have b := bit_hi (t := t) (show j < 2 ^ p by omega)
    show sB f p 1 (t * (2 * 2 ^ p) + 2 ^ p + j) + (if (t * (2 * 2 ^ p) + 2 ^ p + j) / 2 ^ p % 2 = 1 then f (t * (2 * 2 ^ p) + 2 ^ p + j) else 0) = _ ∧ sB f p 0 (t * (2 * 2 ^ p) + 2 ^ p + j) + (if (t * (2 * 2 ^ p) + 2 ^ p + j) / 2 ^ p % 2 = 0 then f (t * (2 * 2 ^ p) + 2 ^ p + j) else 0) = _
    rw [if_pos b, if_neg (by omega), ih.1, ih.2]
    exact ⟨Nat.add_assoc _ _ _, rfl⟩
theorem sR_same {f : Nat → Nat} {N N' : Nat} : ∀ j, (∀ i, i < j → f (N' + i) = f (N + i)) → sR f N' j = sR f N j
  | 0, _ => rfl
  | j + 1, h => by
    show sR f N' j + f (N' + j) = sR f N j + f (N + j)
    rw [sR_same j (fun i hi => h i (by omega)), h j (by omega)]
theorem sB_block {f : Nat → Nat} {p M : Nat} (hf : ∀ m, m < M → m / 2 ^ p % 2 = 0 → f (m + 2 ^ p) = f m) : ∀ t, t * (2 * 2 ^ p) ≤ M → sB f p 1 (t * (2 * 2 ^ p)) = sB f p 0 (t * (2 * 2 ^ p))
  | 0, _ => by rw [Nat.zero_mul]; rfl
  | t + 1, h => by
    have e : (t + 1) * (2 * 2 ^ p) = t * (2 * 2 ^ p) + 2 ^ p + 2 ^ p := by rw [Nat.add_mul]; omega
    have h2p := Nat.two_pow_pos p
    have ih := sB_block hf t (by omega)
    have h1 := sB_hi (f := f) (p := p) (t := t) (2 ^ p) (Nat.le_refl _)
    have h2 := sB_lo (f := f) (p := p) (t := t) (2 ^ p) (Nat.le_refl _)
    rw [e, h1.1, h1.2, h2.1, h2.2, ih]
    congr 1
    refine sR_same _ (fun i hi => ?_)
    rw [show t * (2 * 2 ^ p) + 2 ^ p + i = t * (2 * 2 ^ p) + i + 2 ^ p by omega]
    exact hf _ (by omega) (bit_lo hi)
theorem bit_mv0 : ∀ m : Fin 64, ∀ p : Fin 6, ∀ q : Fin 6, (m.val / 2 ^ p.val % 2 = 0 ∧ q.val ≠ p.val) → (m.val + 2 ^ p.val) / 2 ^ q.val % 2 = m.val / 2 ^ q.val % 2 := by decide +kernel
theorem bit_move (m : Nat) (hm : m < 64) (p : Nat) (hp : p < 6) (hb : m / 2 ^ p % 2 = 0) (q : Nat) (hq : q < 6) (hne : q ≠ p) : (m + 2 ^ p) / 2 ^ q % 2 = m / 2 ^ q % 2 := bit_mv0 ⟨m, hm⟩ ⟨p, hp⟩ ⟨q, hq⟩ ⟨hb, hne⟩
theorem felt_bits {S : Rm} {p m m' : Nat} : ∀ n, (∀ q, q < n → q ≠ p → m' / 2 ^ q % 2 = m / 2 ^ q % 2) → feltE S p m' n = feltE S p m n ∧ feltS S p m' n = feltS S p m n
  | 0, _ => ⟨rfl, rfl⟩
  | n + 1, h => by
    have ih := felt_bits (S := S) n (fun q hq => h q (by omega))
    simp only [feltE, feltS]
    rw [ih.1, ih.2]
    by_cases e : n = p
    · rw [if_neg (fun u => u.1 e), if_neg (fun u => u.1 e), if_neg (fun u => u.1 e), if_neg (fun u => u.1 e)]; exact ⟨rfl, rfl⟩
    · rw [h n (by omega) e]; exact ⟨rfl, rfl⟩
theorem wg_bits {p x m m' : Nat} : ∀ n, (∀ q, q < n → q ≠ p → m' / 2 ^ q % 2 = m / 2 ^ q % 2) → wgF p x m' n = wgF p x m n
  | 0, _ => rfl
  | n + 1, h => by
    have ih := wg_bits (x := x) n (fun q hq => h q (by omega))
    simp only [wgF]
    rw [ih]
    by_cases e : n = p
    · rw [if_neg (fun u => u e), if_neg (fun u => u e)]
    · rw [h n (by omega) e]
/-- the weight of a set of those present by which it blows so -/
def awT (S : Rm) (p w x m : Nat) : Nat := if draftM S p m = some w then wgF p x m (rN S) else 0
theorem aw_two {S : Rm} {p w x : Nat} : ∀ m, (awF S p w x m).2 = sB (awT S p w x) p 1 m
  | 0 => rfl
  | m + 1 => by
    have ih := aw_two (S := S) (p := p) (w := w) (x := x) m
    simp only [awF, sB]
    by_cases h : m / 2 ^ p % 2 = 0
    · rw [if_pos h, if_neg (by omega), ih]; rfl
    · rw [if_neg h, if_pos (show m / 2 ^ p % 2 = 1 by omega), ← ih]
      show (if draftM S p m = some w then (awF S p w x m).2 + wgF p x m (rN S) else (awF S p w x m).2) = (awF S p w x m).2 + awT S p w x m
      unfold awT
      split <;> rfl
def wsF (p x n : Nat) : Nat → Nat
  | 0 => 0
  | m + 1 => if m / 2 ^ p % 2 = 0 then wsF p x n m else wsF p x n m + wgF p x m n
theorem aw_one {S : Rm} {p w x : Nat} : ∀ m, (awF S p w x m).1 = wsF p x (rN S) m
  | 0 => rfl
  | m + 1 => by
    have ih := aw_one (S := S) (p := p) (w := w) (x := x) m
    simp only [awF, wsF]
    by_cases h : m / 2 ^ p % 2 = 0
    · rw [if_pos h, if_pos h, ih]
    · rw [if_neg h, if_neg h, ← ih]
theorem ws_all : ∀ n, n < 7 → ∀ p, p < n → ∀ x, x < 11 → wsF p x n (2 ^ n) = 10 ^ (n - 1) := by decide +kernel
theorem aw_1 {S : Rm} {p w x : Nat} (hn : rN S ≤ 6) (hp : p < rN S) (hx : x ≤ 10) : (awF S p w x (2 ^ rN S)).1 = 10 ^ (rN S - 1) := by
  rw [aw_one]; exact ws_all _ (by omega) p hp x (by omega)
theorem aw_2 {S : Rm} {p w x : Nat} (hn : rN S ≤ 6) (hp : p < rN S) : (awF S p w x (2 ^ rN S)).2 = sB (awT S p w x) p 0 (2 ^ rN S) := by
  rw [aw_two]
  have e : 2 ^ rN S = 2 ^ (rN S - (p + 1)) * (2 * 2 ^ p) := by
    rw [Nat.mul_comm 2 (2 ^ p), ← Nat.pow_succ, ← Nat.pow_add]; congr 1; omega
  have h64 := p2_64 hn
  have hb := sB_block (f := awT S p w x) (p := p) (M := 2 ^ rN S) (fun m hm hb => by
    have hq := bit_move m (by omega) p (by omega) hb
    unfold awT draftM
    have f1 := felt_bits (S := S) (p := p) (m := m) (m' := m + 2 ^ p) (rN S) (fun q h1 h2 => hq q (by omega) h2)
    have f2 := wg_bits (p := p) (x := x) (m := m) (m' := m + 2 ^ p) (rN S) (fun q h1 h2 => hq q (by omega) h2)
    rw [f1.1, f1.2, f2]) (2 ^ (rN S - (p + 1))) (by rw [← e]; exact Nat.le_refl _)
  rw [← e] at hb
  exact hb
theorem awT_le {S : Rm} (hB : RmB S) {p w x m : Nat} (hx : x ≤ 10) : awT S p w x m ≤ 1000000 := by
  unfold awT
  split
  · exact wg_6 hx hB.1
  · omega
theorem sB_le {f : Nat → Nat} {p b C : Nat} (hf : ∀ m, f m ≤ C) : ∀ m, sB f p b m ≤ C * m
  | 0 => Nat.le_refl _
  | m + 1 => by
    have ih := sB_le (p := p) (b := b) hf m
    have := hf m
    simp only [sB]
    rw [Nat.mul_succ]
    split <;> omega
theorem ten_le {n : Nat} (h : n ≤ 6) : 1 ≤ 10 ^ n ∧ 10 ^ n ≤ 1000000 := ⟨Nat.pos_of_ne_zero (by have := Nat.pow_pos (a := 10) (n := n) (by omega); omega), Nat.le_trans (Nat.pow_le_pow_right (by omega) h) (by decide)⟩
