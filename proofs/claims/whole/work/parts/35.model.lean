/-! THE REFERENCE'S CELLS: the object at m, its eleven rows behind it -/
def mLen (i : Nat) : Nat := match i with
  | 1 => 200
  | 2 => 9
  | 3 => 9
  | 4 => 55
  | 5 => 55
  | 6 => 440
  | 7 => 110
  | 8 => 18
  | 9 => 55
  | 10 => 81
  | _ => 6
abbrev MF : Type := Nat → Int32
abbrev MA : Type := Nat → List Int32
def mObj (m : Nat) (F : MF) : VC := .inr (.inr (8, [.ref (m + 1), .int (F 0), .ref (m + 2), .ref (m + 3), .ref (m + 4), .ref (m + 5), .ref (m + 6), .int (F 1), .ref (m + 7), .int (F 2), .ref (m + 8), .int (F 3), .int (F 4), .ref (m + 9), .ref (m + 10), .ref (m + 11)]))
def MRaw (h : VHp) (m : Nat) (F : MF) (A : MA) : Prop := h[m]? = some (.inr (.inr (8, [.ref (m + 1), .int (F 0), .ref (m + 2), .ref (m + 3), .ref (m + 4), .ref (m + 5), .ref (m + 6), .int (F 1), .ref (m + 7), .int (F 2), .ref (m + 8), .int (F 3), .int (F 4), .ref (m + 9), .ref (m + 10), .ref (m + 11)]))) ∧ ∀ i, 1 ≤ i → i ≤ 11 → h[m + i]? = some (.inl (A i)) ∧ (A i).length = mLen i
def upA (A : MA) (i : Nat) (z : List Int32) : MA := fun j => if j = i then z else A j
def upF (F : MF) (i : Nat) (z : Int32) : MF := fun j => if j = i then z else F j
theorem upA_s {A : MA} {i : Nat} {z : List Int32} : upA A i z i = z := by unfold upA; rw [if_pos rfl]
theorem upA_n {A : MA} {i j : Nat} {z : List Int32} (h : j ≠ i) : upA A i z j = A j := by unfold upA; rw [if_neg h]
theorem MRaw.keep {h h' : VHp} {m lo hi : Nat} {F : MF} {A : MA} (w : MRaw h m F A) (f : VFr lo hi h h') (hd : m + 12 ≤ lo ∨ hi ≤ m) : MRaw h' m F A := ⟨by rw [f.2 _ (by omega)]; exact w.1, fun i h1 h2 => ⟨by rw [f.2 _ (by omega)]; exact (w.2 i h1 h2).1, (w.2 i h1 h2).2⟩⟩
theorem MRaw.set {h : VHp} {m : Nat} {F : MF} {A : MA} (w : MRaw h m F A) (i : Nat) (h1 : 1 ≤ i) (h2 : i ≤ 11) (z : List Int32) (hz : z.length = mLen i) : MRaw (h.set (m + i) (.inl z)) m F (upA A i z) := by
  refine ⟨vset_ne w.1 (by omega), fun j j1 j2 => ?_⟩
  by_cases e : j = i
  · subst e
    rw [upA_s]
    exact ⟨vset_eq (w.2 j h1 h2).1, hz⟩
  · rw [upA_n e]
    exact ⟨vset_ne (w.2 j j1 j2).1 (by omega), (w.2 j j1 j2).2⟩
/-- told: wide, deep, how many, kinds -/
def RowT (S : Rm) (t : List Int32) : Prop := t[0]? = some (nI (rW S)) ∧ t[1]? = some (nI (rH S)) ∧ t[2]? = some (nI (rN S)) ∧ ∀ i, i < rN S → t[3 + i]? = some (nI (rK S i))
/-- a room now -/
def RowS (S : Rm) (s : List Int32) : Prop := s[0]? = some (nI (rT S)) ∧ (∀ i, i < rN S → s[1 + i]? = some (nI (rV S i))) ∧ (∀ i, i < rN S → s[7 + i]? = some (nI (rX S i))) ∧ (∀ i, i < rN S → s[13 + i]? = some (nI (rY S i))) ∧ ∀ i j, i < 6 → j < 6 → s[19 + 6 * i + j]? = some (iI (rL S i j))
/-- the room that the reference holds -/
def MRm (h : VHp) (m : Nat) (F : MF) (A : MA) (S : Rm) : Prop := MRaw h m F A ∧ RowT S (A 2) ∧ RowS S (A 5)
section
variable {k : VK} {b : Nat × Nat} {pc : Nat} {ls : List (Option Value)} {st : List Value} {h : VHp}
theorem V.nmZ {z : Int} (kk : ∀ y : Int, y = z → V k b pc ls (.int (iI y) :: st) h) : V k b pc ls (.int (iI z) :: st) h := kk z rfl
theorem V.nmN {z : Nat} (kk : ∀ y : Nat, y = z → V k b pc ls (.int (nI y) :: st) h) : V k b pc ls (.int (nI z) :: st) h := kk z rfl
end
theorem whoF_last {S : Rm} (hD : RmD S) {x y i : Nat} (hi : i < rN S) (hm : rX S i = x ∧ rY S i = y) : whoF S x y i = none := by
  cases hw : whoF S x y i with
  | none => rfl
  | some j =>
    have := whoF_lt hw
    have e := hD j i (by omega) hi (by omega) (by omega)
    omega
theorem whoF_step {S : Rm} {x y i : Nat} (h : whoF S x y i = none) (hm : rX S i = x ∧ rY S i = y) : whoF S x y (i + 1) = some i := by
  unfold whoF; rw [h]; simp [hm]
theorem whoF_skip {S : Rm} {x y i : Nat} (hm : ¬ (rX S i = x ∧ rY S i = y)) : whoF S x y (i + 1) = whoF S x y i := by
  rw [whoF]
  cases whoF S x y i with
  | some j => rfl
  | none => simp only; rw [if_neg hm]
theorem V.toZ3 {k : VK} {b : Nat × Nat} {pc : Nat} {ls : List (Option Value)} {st : List Value} {h : VHp} {a : Nat} {v w : Value} (kk : V k b pc ls (v :: w :: .int (iI (a : Int)) :: st) h) : V k b pc ls (v :: w :: .int (nI a) :: st) h := by rwa [iI_nat] at kk
