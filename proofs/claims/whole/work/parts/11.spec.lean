/-! WHAT A ROOM IS: wide, deep, how many, hours; kinds, vanes, X, Y, leanings -/
abbrev Rm : Type := Nat × Nat × Nat × Nat × (Nat → Nat) × (Nat → Nat) × (Nat → Nat) × (Nat → Nat) × (Nat → Nat → Int)
abbrev rW (S : Rm) : Nat := S.1
abbrev rH (S : Rm) : Nat := S.2.1
abbrev rN (S : Rm) : Nat := S.2.2.1
abbrev rT (S : Rm) : Nat := S.2.2.2.1
abbrev rK (S : Rm) : Nat → Nat := S.2.2.2.2.1
abbrev rV (S : Rm) : Nat → Nat := S.2.2.2.2.2.1
abbrev rX (S : Rm) : Nat → Nat := S.2.2.2.2.2.2.1
abbrev rY (S : Rm) : Nat → Nat := S.2.2.2.2.2.2.2.1
abbrev rL (S : Rm) : Nat → Nat → Int := S.2.2.2.2.2.2.2.2
/-- bounds -/
def RmB (S : Rm) : Prop := rN S ≤ 6 ∧ (1 ≤ rW S ∧ rW S ≤ 9) ∧ (1 ≤ rH S ∧ rH S ≤ 9) ∧ (∀ i, i < rN S → rK S i < 4 ∧ rV S i < 8 ∧ rX S i < rW S ∧ rY S i < rH S) ∧ ∀ i j, -20 ≤ rL S i j ∧ rL S i j ≤ 20
/-- no two at one place -/
def RmD (S : Rm) : Prop := ∀ i j, i < rN S → j < rN S → rX S i = rX S j → rY S i = rY S j → i = j
/-- leanings among those who are there alone -/
def RmZ (S : Rm) : Prop := ∀ i j, ¬ (i < rN S ∧ j < rN S) → rL S i j = 0
def RmOk (S : Rm) : Prop := RmB S ∧ RmD S ∧ RmZ S
def eO (o : Option Nat) : Int32 := match o with
  | none => iI (-4)
  | some i => nI i
/-- who is at a place: the first -/
def whoF (S : Rm) (x y : Nat) : Nat → Option Nat
  | 0 => none
  | k + 1 => match whoF S x y k with
    | some i => some i
    | none => if rX S k = x ∧ rY S k = y then some k else none
theorem whoF_lt {S : Rm} {x y : Nat} : ∀ {n i : Nat}, whoF S x y n = some i → i < n ∧ rX S i = x ∧ rY S i = y
  | 0, i, h => by cases h
  | n + 1, i, h => by
    unfold whoF at h
    split at h
    next j hj =>
      cases h
      have := whoF_lt hj
      exact ⟨by omega, this.2⟩
    next hj =>
      split at h
      next hc => cases h; exact ⟨by omega, hc⟩
      next => cases h
theorem whoF_none {S : Rm} {x y : Nat} : ∀ {n : Nat}, whoF S x y n = none → ∀ i, i < n → ¬ (rX S i = x ∧ rY S i = y)
  | 0, _, i, hi => by omega
  | n + 1, h, i, hi => by
    unfold whoF at h
    split at h
    next => cases h
    next hj =>
      split at h
      next => cases h
      next hc =>
        rcases Nat.lt_or_ge i n with q | q
        · exact whoF_none hj i q
        · have : i = n := by omega
          subst this; exact hc
theorem whoF_some {S : Rm} {x y i : Nat} (h0 : whoF S x y i = none) (hm : rX S i = x ∧ rY S i = y) : ∀ n, i < n → whoF S x y n = some i
  | 0, h => by omega
  | n + 1, h => by
    unfold whoF
    rcases Nat.lt_or_ge i n with q | q
    · rw [whoF_some h0 hm n q]
    · have : i = n := by omega
      subst this
      rw [h0]; simp [hm]
theorem whoF_eq {S : Rm} {x y i n : Nat} (hd : ∀ a b, a < n → b < n → rX S a = rX S b → rY S a = rY S b → a = b) (hi : i < n) (hm : rX S i = x ∧ rY S i = y) : whoF S x y n = some i := by
  cases hw : whoF S x y n with
  | none => exact absurd hm (whoF_none hw i hi)
  | some j =>
    have := whoF_lt hw
    rw [hd j i this.1 hi (by omega) (by omega)]
/-- how strongly p feels q -/
def pullF (S : Rm) (p q : Nat) : Int := rL S p q * ((12 - (((rX S q : Int) - rX S p).natAbs + ((rY S q : Int) - rY S p).natAbs) : Nat) : Int)
def feltE (S : Rm) (p m : Nat) : Nat → Int
  | 0 => 0
  | q + 1 => feltE S p m q + if q ≠ p ∧ m / 2 ^ q % 2 = 1 then pullF S p q * ((rX S q : Int) - rX S p) else 0
def feltS (S : Rm) (p m : Nat) : Nat → Int
  | 0 => 0
  | q + 1 => feltS S p m q + if q ≠ p ∧ m / 2 ^ q % 2 = 1 then pullF S p q * ((rY S q : Int) - rY S p) else 0
def wayF (e s : Int) : Option Nat :=
  if e = 0 ∧ s = 0 then none
  else if 2 * s.natAbs < e.natAbs then some (if 0 < e then 2 else 6)
  else if 2 * e.natAbs < s.natAbs then some (if 0 < s then 4 else 0)
  else if 0 < e then some (if 0 < s then 3 else 1) else some (if 0 < s then 5 else 7)
theorem wayF_lt {e s : Int} {w : Nat} (h : wayF e s = some w) : w < 8 := by
  unfold wayF at h
  repeat' split at h
  all_goals first | (cases h; done) | (cases h; omega)
def draftM (S : Rm) (p m : Nat) : Option Nat := wayF (feltE S p m (rN S)) (feltS S p m (rN S))
def draftF (S : Rm) (p : Nat) : Option Nat := draftM S p 63
theorem draftF_lt {S : Rm} {p w : Nat} (h : draftF S p = some w) : w < 8 := wayF_lt h
theorem mul_bd {a b A C : Int} (h1 : -A ≤ a) (h2 : a ≤ A) (h3 : -C ≤ b) (h4 : b ≤ C) : -(A * C) ≤ a * b ∧ a * b ≤ A * C := by
  have e1 : a.natAbs ≤ A.natAbs := by omega
  have e2 : b.natAbs ≤ C.natAbs := by omega
  have e3 : (a * b).natAbs ≤ (A * C).natAbs := by rw [Int.natAbs_mul, Int.natAbs_mul]; exact Nat.mul_le_mul e1 e2
  have hA : 0 ≤ A := by omega
  have hC : 0 ≤ C := by omega
  have hp := Int.mul_nonneg hA hC
  omega
theorem pull_bd {S : Rm} (hB : RmB S) (p q : Nat) : -240 ≤ pullF S p q ∧ pullF S p q ≤ 240 := by
  have h := hB.2.2.2.2 p q
  unfold pullF
  have := mul_bd (A := 20) (C := 12) h.1 h.2 (b := (((12 - (((rX S q : Int) - rX S p).natAbs + ((rY S q : Int) - rY S p).natAbs) : Nat)) : Int)) (by omega) (by omega)
  omega
theorem felt_bd {S : Rm} (hB : RmB S) {p m : Nat} (hp : p < rN S) : ∀ n, n ≤ rN S → (-(1920 * (n : Int)) ≤ feltE S p m n ∧ feltE S p m n ≤ 1920 * n) ∧ (-(1920 * (n : Int)) ≤ feltS S p m n ∧ feltS S p m n ≤ 1920 * n)
  | 0, _ => by simp [feltE, feltS]
  | n + 1, hn => by
    have ih := felt_bd hB (p := p) (m := m) hp n (by omega)
    have hq := pull_bd hB p n
    have b1 := hB.2.2.2.1 n (by omega)
    have b2 := hB.2.2.2.1 p hp
    have bw := hB.2.1
    have bh := hB.2.2.1
    have e1 := mul_bd (A := 240) (C := 8) hq.1 hq.2 (b := (rX S n : Int) - rX S p) (by omega) (by omega)
    have e2 := mul_bd (A := 240) (C := 8) hq.1 hq.2 (b := (rY S n : Int) - rY S p) (by omega) (by omega)
    simp only [feltE, feltS]
    push_cast
    constructor
    · split <;> omega
    · split <;> omega
theorem iI_toN {z : Int} {n : Nat} (h : z = (n : Int)) : iI z = nI n := by rw [h, iI_nat]
def turnF (told w : Nat) : Nat := if (w + 8 - told) % 8 = 0 then told else if (w + 8 - told) % 8 ≤ 4 then (told + 1) % 8 else (told + 7) % 8
/-- what a vane tells behind the next hour -/
def nextF (kd told : Nat) (d : Option Nat) : Nat := if kd = 2 then (told + 1) % 8 else match d with
  | none => told
  | some w => if kd = 0 then w else if kd = 1 then turnF told w else (w + 4) % 8
theorem nextF_lt {kd told : Nat} {d : Option Nat} (ht : told < 8) (hd : ∀ w, d = some w → w < 8) : nextF kd told d < 8 := by
  unfold nextF turnF
  split
  · omega
  · split
    · exact ht
    · next w => have := hd w rfl; repeat' split
                all_goals omega
def itF (kd : Nat) (d : Option Nat) (told : Nat) : Nat → Nat
  | 0 => told
  | n + 1 => nextF kd (itF kd d told n) d
theorem itF_lt {kd told : Nat} {d : Option Nat} (ht : told < 8) (hd : ∀ w, d = some w → w < 8) : ∀ n, itF kd d told n < 8
  | 0 => ht
  | n + 1 => nextF_lt (itF_lt ht hd n) hd
/-- one hour -/
def vaneF (S : Rm) (p : Nat) : Nat := nextF (rK S p) (rV S p) (draftF S p)
def cntP (P : Nat → Prop) [DecidablePred P] : Nat → Nat
  | 0 => 0
  | n + 1 => cntP P n + if P n then 1 else 0
theorem cntP_pos {P : Nat → Prop} [DecidablePred P] {n : Nat} (h : P n) : cntP P (n + 1) = cntP P n + 1 := by simp only [cntP]; rw [if_pos h]
theorem cntP_neg {P : Nat → Prop} [DecidablePred P] {n : Nat} (h : ¬ P n) : cntP P (n + 1) = cntP P n := by simp only [cntP]; rw [if_neg h]; rfl
theorem cntP_le {P : Nat → Prop} [DecidablePred P] : ∀ n, cntP P n ≤ n
  | 0 => Nat.le_refl _
  | n + 1 => by have := cntP_le (P := P) n; simp only [cntP]; split <;> omega
def rSetV (S : Rm) (V : Nat → Nat) (t : Nat) : Rm := (rW S, rH S, rN S, t, rK S, V, rX S, rY S, rL S)
def hourF (S : Rm) : Rm := rSetV S (vaneF S) (rT S + 1)
def turnsF (S : Rm) : Nat := cntP (fun p => vaneF S p ≠ rV S p) (rN S)
def up1 (f : Nat → Nat) (i x : Nat) : Nat → Nat := fun j => if j = i then x else f j
def rPut (S : Rm) (p x y : Nat) : Rm := (rW S, rH S, rN S, rT S, rK S, rV S, up1 (rX S) p x, up1 (rY S) p y, rL S)
def rLean (S : Rm) (a b : Nat) (l : Int) : Rm := (rW S, rH S, rN S, rT S, rK S, rV S, rX S, rY S, fun i j => if i = a ∧ j = b then l else rL S i j)
/-- a room's cells: the room at r, its rows behind it -/
def RoomAt (h : VHp) (r : Nat) (S : Rm) : Prop := ∃ kd xs ys vs ll : List Int32,
  h[r]? = some (.inr (.inr (3, [.ref (r + 1), .ref (r + 2), .ref (r + 3), .ref (r + 4), .ref (r + 5), .int (nI (rW S)), .int (nI (rH S)), .int (nI (rN S)), .int (nI (rT S))]))) ∧
  h[r + 1]? = some (.inl kd) ∧ h[r + 2]? = some (.inl xs) ∧ h[r + 3]? = some (.inl ys) ∧ h[r + 4]? = some (.inl vs) ∧ h[r + 5]? = some (.inl ll) ∧
  kd.length = 6 ∧ xs.length = 6 ∧ ys.length = 6 ∧ vs.length = 6 ∧ ll.length = 36 ∧
  (∀ i, i < rN S → kd[i]? = some (nI (rK S i))) ∧ (∀ i, i < rN S → xs[i]? = some (nI (rX S i))) ∧ (∀ i, i < rN S → ys[i]? = some (nI (rY S i))) ∧ (∀ i, i < rN S → vs[i]? = some (nI (rV S i))) ∧
  (∀ i j, i < 6 → j < 6 → ll[6 * i + j]? = some (iI (rL S i j)))
/-- the heap is as before but for the cells from lo on and below hi -/
def VFr (lo hi : Nat) (h h' : VHp) : Prop := h'.length = h.length ∧ ∀ q, q < lo ∨ hi ≤ q → h'[q]? = h[q]?
theorem VFr.rf {lo hi : Nat} {h : VHp} : VFr lo hi h h := ⟨rfl, fun _ _ => rfl⟩
theorem VFr.tr {lo hi : Nat} {a b c : VHp} (h1 : VFr lo hi a b) (h2 : VFr lo hi b c) : VFr lo hi a c := ⟨h2.1.trans h1.1, fun q hq => (h2.2 q hq).trans (h1.2 q hq)⟩
theorem VFr.wide {lo hi lo' hi' : Nat} {a b : VHp} (h : VFr lo hi a b) (h1 : lo' ≤ lo) (h2 : hi ≤ hi') : VFr lo' hi' a b := ⟨h.1, fun q hq => h.2 q (by omega)⟩
theorem VFr.set {lo hi a : Nat} {h : VHp} {c : VC} (h1 : lo ≤ a) (h2 : a < hi) : VFr lo hi h (h.set a c) := ⟨List.length_set .., fun q hq => List.getElem?_set_ne (by omega)⟩
theorem RoomAt.keep {h h' : VHp} {r lo hi : Nat} {S : Rm} (w : RoomAt h r S) (f : VFr lo hi h h') (hd : r + 6 ≤ lo ∨ hi ≤ r) : RoomAt h' r S := by
  obtain ⟨kd, xs, ys, vs, ll, h0, h1, h2, h3, h4, h5, rest⟩ := w
  exact ⟨kd, xs, ys, vs, ll, by rw [f.2 _ (by omega)]; exact h0, by rw [f.2 _ (by omega)]; exact h1, by rw [f.2 _ (by omega)]; exact h2, by rw [f.2 _ (by omega)]; exact h3, by rw [f.2 _ (by omega)]; exact h4, by rw [f.2 _ (by omega)]; exact h5, rest⟩
theorem pull_eq {S : Rm} {p q : Nat} (h : ((((rX S q : Int) - rX S p).natAbs : Nat) : Int) + ((((rY S q : Int) - rY S p).natAbs : Nat) : Int) < 12) : pullF S p q = rL S p q * (((12 : Nat) : Int) - (((((rX S q : Int) - rX S p).natAbs : Nat) : Int) + ((((rY S q : Int) - rY S p).natAbs : Nat) : Int))) := by
  unfold pullF
  congr 1
  omega
theorem pull_zero {S : Rm} {p q : Nat} (h : 12 ≤ ((((rX S q : Int) - rX S p).natAbs : Nat) : Int) + ((((rY S q : Int) - rY S p).natAbs : Nat) : Int)) : pullF S p q = 0 := by
  unfold pullF
  rw [show (12 - (((rX S q : Int) - rX S p).natAbs + ((rY S q : Int) - rY S p).natAbs) : Nat) = 0 by omega]
  simp
def sumV (S : Rm) : Nat → Nat
  | 0 => 0
  | n + 1 => sumV S n + rV S n
theorem sumV_le {S : Rm} (hB : RmB S) : ∀ n, n ≤ rN S → sumV S n ≤ 8 * n
  | 0, _ => Nat.le_refl _
  | n + 1, h => by have := sumV_le hB n (by omega); have := hB.2.2.2.1 n (by omega); simp only [sumV]; omega
def drawF (z k : Nat) : Nat := (7919 * z + 6151 * k + 1) * (7919 * z + 6151 * k + 1) % 65521
theorem drawF_lt (z k : Nat) : drawF z k < 65521 := Nat.mod_lt _ (by omega)
theorem draw_eq {z k : Nat} (hz : z ≤ 9999) (hk : k ≤ 60) : ((7919 * (nI z).toInt64 + 6151 * (nI k).toInt64 + 1) * (7919 * (nI z).toInt64 + 6151 * (nI k).toInt64 + 1) - (7919 * (nI z).toInt64 + 6151 * (nI k).toInt64 + 1) * (7919 * (nI z).toInt64 + 6151 * (nI k).toInt64 + 1) / 65521 * 65521).toInt32 = nI (drawF z k) := by
  have hX : (7919 * (nI z).toInt64 + 6151 * (nI k).toInt64 + 1 : Int64) = lN (7919 * z + 6151 * k + 1) := by
    rw [nI_l (by omega), nI_l (by omega), show (7919 : Int64) = lN 7919 from rfl, show (6151 : Int64) = lN 6151 from rfl, lN_mul, lN_mul, lN_add, lN_1]
  rw [hX, lN_mul, show (65521 : Int64) = lN 65521 from rfl]
  have h1 : 7919 * z + 6151 * k + 1 ≤ 80000000 := by omega
  have h2 := Nat.mul_le_mul h1 h1
  rw [pk_lRem (by omega) (by omega) (by omega), lN_i]
  rfl
