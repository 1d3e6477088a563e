/-! stand, away -/
abbrev stOk (S : Rm) (p q w x y : Nat) : Prop := (whoF S x y (rN S) = none ∨ whoF S x y (rN S) = some p) ∧ draftF (rPut S p x y) q = some w
def stY (S : Rm) (p q w x : Nat) (a : Nat × Option Nat) : Nat → Nat × Option Nat
  | 0 => a
  | y + 1 => if stOk S p q w x y then ((stY S p q w x a y).1 + 1, if (stY S p q w x a y).1 = 0 then some (10 * x + y) else (stY S p q w x a y).2) else stY S p q w x a y
def stX (S : Rm) (p q w : Nat) : Nat → Nat × Option Nat
  | 0 => (0, none)
  | x + 1 => stY S p q w x (stX S p q w x) (rH S)
theorem stY_pos {S : Rm} {p q w x y : Nat} {a : Nat × Option Nat} (h : stOk S p q w x y) : stY S p q w x a (y + 1) = ((stY S p q w x a y).1 + 1, if (stY S p q w x a y).1 = 0 then some (10 * x + y) else (stY S p q w x a y).2) := by simp only [stY]; rw [if_pos h]
theorem stY_neg {S : Rm} {p q w x y : Nat} {a : Nat × Option Nat} (h : ¬ stOk S p q w x y) : stY S p q w x a (y + 1) = stY S p q w x a y := by simp only [stY]; rw [if_neg h]
theorem stY_le {S : Rm} {p q w x : Nat} {a : Nat × Option Nat} : ∀ y, (stY S p q w x a y).1 ≤ a.1 + y
  | 0 => Nat.le_refl _
  | y + 1 => by
    have := stY_le (S := S) (p := p) (q := q) (w := w) (x := x) (a := a) y
    simp only [stY]
    split
    · show (stY S p q w x a y).1 + 1 ≤ _; omega
    · omega
theorem stX_le {S : Rm} (hB : RmB S) {p q w : Nat} : ∀ x, (stX S p q w x).1 ≤ 9 * x
  | 0 => Nat.le_refl _
  | x + 1 => by
    have := stX_le hB (p := p) (q := q) (w := w) x
    have h2 := stY_le (S := S) (p := p) (q := q) (w := w) (x := x) (a := stX S p q w x) (rH S)
    have := hB.2.2.1
    show (stY S p q w x (stX S p q w x) (rH S)).1 ≤ _
    omega
theorem put_put {S : Rm} {p x y x' y' : Nat} : rPut (rPut S p x' y') p x y = rPut S p x y := by
  unfold rPut
  have e : ∀ (f : Nat → Nat) (a b : Nat), up1 (up1 f p a) p b = up1 f p b := by
    intro f a b; funext j; unfold up1; split <;> rfl
  show (_, _, _, _, _, _, up1 (up1 (rX S) p x') p x, up1 (up1 (rY S) p y') p y, _) = _
  rw [e, e]
def a_stand (T : Sy) (p q w what : Int) : Int32 := if (is2 T p q ∧ 0 ≤ w ∧ w < ((8 : Nat) : Int)) ∧ 0 ≤ what ∧ what < ((2 : Nat) : Int) then (if what = 0 then nI (stX (tS T) p.toNat q.toNat w.toNat (rW (tS T))).1 else eO (stX (tS T) p.toNat q.toNat w.toNat (rW (tS T))).2) else iI (-1)
/-- of how much a set of those present weighs -/
def wgF (p x m : Nat) : Nat → Nat
  | 0 => 1
  | q + 1 => if q ≠ p then wgF p x m q * (if m / 2 ^ q % 2 = 1 then 10 - x else x) else wgF p x m q
theorem wg_le {p x m : Nat} (hx : x ≤ 10) : ∀ q, q ≤ 6 → wgF p x m q ≤ 10 ^ q
  | 0, _ => Nat.le_refl _
  | q + 1, h => by
    have ih := wg_le (p := p) (m := m) hx q (by omega)
    simp only [wgF]
    have h2 : 10 ^ (q + 1) = 10 ^ q * 10 := Nat.pow_succ ..
    split
    · rw [h2]; exact Nat.mul_le_mul ih (by split <;> omega)
    · rw [h2]; omega
theorem wg_6 {p x m q : Nat} (hx : x ≤ 10) (hq : q ≤ 6) : wgF p x m q ≤ 1000000 := Nat.le_trans (wg_le hx q hq) (Nat.le_trans (Nat.pow_le_pow_right (by omega) hq) (by decide))
/-- the sums: below, above -/
def awF (S : Rm) (p w x : Nat) : Nat → Nat × Nat
  | 0 => (0, 0)
  | m + 1 => if m / 2 ^ p % 2 = 0 then awF S p w x m else ((awF S p w x m).1 + wgF p x m (rN S), if draftM S p m = some w then (awF S p w x m).2 + wgF p x m (rN S) else (awF S p w x m).2)
theorem aw_le {S : Rm} (hB : RmB S) {p w x : Nat} (hx : x ≤ 10) : ∀ m, (awF S p w x m).1 ≤ 1000000 * m ∧ (awF S p w x m).2 ≤ (awF S p w x m).1
  | 0 => ⟨Nat.le_refl _, Nat.le_refl _⟩
  | m + 1 => by
    have ih := aw_le hB (p := p) (w := w) hx m
    have h1 := wg_6 (p := p) (m := m) hx hB.1
    simp only [awF]
    split
    · exact ⟨by omega, ih.2⟩
    · constructor
      · show (awF S p w x m).1 + wgF p x m (rN S) ≤ _; omega
      · show (if draftM S p m = some w then (awF S p w x m).2 + wgF p x m (rN S) else (awF S p w x m).2) ≤ (awF S p w x m).1 + wgF p x m (rN S)
        split <;> omega
theorem aw_skip {S : Rm} {p w x m : Nat} (h : m / 2 ^ p % 2 = 0) : awF S p w x (m + 1) = awF S p w x m := by simp only [awF]; rw [if_pos h]
theorem aw_in {S : Rm} {p w x m : Nat} (h : ¬ m / 2 ^ p % 2 = 0) (hd : draftM S p m = some w) : awF S p w x (m + 1) = ((awF S p w x m).1 + wgF p x m (rN S), (awF S p w x m).2 + wgF p x m (rN S)) := by simp only [awF]; rw [if_neg h, if_pos hd]
theorem aw_out {S : Rm} {p w x m : Nat} (h : ¬ m / 2 ^ p % 2 = 0) (hd : ¬ draftM S p m = some w) : awF S p w x (m + 1) = ((awF S p w x m).1 + wgF p x m (rN S), (awF S p w x m).2) := by simp only [awF]; rw [if_neg h, if_neg hd]
theorem p2_64 {n : Nat} (h : n ≤ 6) : 2 ^ n ≤ 64 := Nat.le_trans (Nat.pow_le_pow_right (by omega) h) (by decide)
/-- what Euclid's way keeps -/
def euP (a b : Nat) (i hi lo : Nat) : Prop := Nat.gcd hi lo = Nat.gcd a b ∧ hi < 2147483648 ∧ lo < 2147483648 ∧ ((i = 0 ∧ hi = a ∧ lo = b) ∨ (1 ≤ i ∧ lo < hi ∧ hi * lo * 2 ^ i < 2 ^ 62))
theorem eu_step {a b i hi lo : Nat} (ha : a < 2147483648) (hb : b < 1073741824) (h : euP a b i hi lo) (h0 : lo ≠ 0) : euP a b (i + 1) lo (hi % lo) := by
  obtain ⟨h1, h2, h3, h4⟩ := h
  have hm : hi % lo < lo := Nat.mod_lt _ (by omega)
  refine ⟨?_, h3, by omega, Or.inr ⟨by omega, hm, ?_⟩⟩
  · rw [← h1, Nat.gcd_comm hi lo, Nat.gcd_rec lo hi]
    rw [Nat.gcd_comm]
  · rcases h4 with ⟨e1, e2, e3⟩ | ⟨e1, e2, e3⟩
    · subst e1; subst e3
      have h5 : hi % lo ≤ lo := by omega
      have h6 : lo * (hi % lo) ≤ 1073741824 * 1073741824 := Nat.mul_le_mul (by omega) (by omega)
      have h7 : lo * (hi % lo) < 1073741824 * 1073741824 := by
        have : lo * (hi % lo) ≤ 1073741823 * 1073741823 := Nat.mul_le_mul (by omega) (by omega)
        omega
      show lo * (hi % lo) * 2 ^ (0 + 1) < 2 ^ 62
      omega
    · have hdm : lo * (hi / lo) + hi % lo = hi := Nat.div_add_mod hi lo
      have hq : 1 ≤ hi / lo := Nat.div_pos (by omega) (by omega)
      have h8 : lo * 1 ≤ lo * (hi / lo) := Nat.mul_le_mul_left _ hq
      have h9 : 2 * (hi % lo) ≤ hi := by omega
      have h10 : lo * (2 * (hi % lo)) ≤ lo * hi := Nat.mul_le_mul_left _ h9
      have h11 : lo * (hi % lo) * 2 ^ (i + 1) = lo * (2 * (hi % lo)) * 2 ^ i := by rw [Nat.pow_succ]; simp only [Nat.mul_assoc, Nat.mul_comm, Nat.mul_left_comm]
      rw [h11]
      have h12 : lo * (2 * (hi % lo)) * 2 ^ i ≤ lo * hi * 2 ^ i := Nat.mul_le_mul_right _ h10
      rw [Nat.mul_comm lo hi] at h12
      omega
theorem eu_end {a b hi lo : Nat} (h : euP a b 64 hi lo) : lo = 0 := by
  obtain ⟨-, -, -, h4⟩ := h
  rcases h4 with ⟨e, -⟩ | ⟨-, e2, e3⟩
  · omega
  · rcases Nat.eq_zero_or_pos lo with z | z
    · exact z
    · exfalso
      have h1 : 1 ≤ hi * lo := Nat.mul_pos (by omega) z
      have h2 : 1 * 2 ^ 64 ≤ hi * lo * 2 ^ 64 := Nat.mul_le_mul_right _ h1
      have : (2 : Nat) ^ 62 < 2 ^ 64 := by decide
      omega
def a_away (T : Sy) (p w x part : Int) : Int32 := if ((isP T p ∧ 0 ≤ w ∧ w < ((8 : Nat) : Int)) ∧ 0 ≤ x ∧ x ≤ 10) ∧ 0 ≤ part ∧ part < ((2 : Nat) : Int) then
    (let r := awF (tS T) p.toNat w.toNat x.toNat (2 ^ rN (tS T)); if Nat.gcd r.2 r.1 < 1 then iI (-4) else if part = 0 then nI (r.2 / Nat.gcd r.2 r.1) else nI (r.1 / Nat.gcd r.2 r.1)) else iI (-1)

theorem gcd_lt {a b : Nat} (ha : a < 2147483648) (hb : b < 2147483648) : Nat.gcd a b < 2147483648 := by
  rcases Nat.eq_zero_or_pos b with z | z
  · subst z; rw [Nat.gcd_zero_right]; exact ha
  · exact Nat.lt_of_le_of_lt (Nat.le_of_dvd z (Nat.gcd_dvd_right a b)) hb
