/-- a draft of a room in rows 3 and 4: vanes of those to come at 0 -/
def MDr (h : VHp) (m : Nat) (F : MF) (A : MA) (S : Rm) : Prop := MRaw h m F A ∧ RowT S (A 3) ∧ RowS S (A 4) ∧ ∀ i, i < 6 → (A 4)[1 + i]? = some (nI 0)
def MQd (m : Nat) (F : MF) (A : MA) (S : Rm) (h : VHp) (x : Option Value) : VPost := fun v h' => v = x ∧ (∃ d b, MDr h' m F (upA (upA A 3 d) 4 b) S) ∧ VFr (m + 3) (m + 5) h h'
theorem rowD_grow {f : Nat → Nat} {n o x : Nat} {z : List Int32} (h : ∀ i, i < n → z[o + i]? = some (nI (f i))) (hl : o + n < z.length) : ∀ i, i < n + 1 → (z.set (o + n) (nI x))[o + i]? = some (nI (up1 f n x i)) := by
  intro i hi
  unfold up1
  by_cases e : i = n
  · rw [if_pos e, e, List.getElem?_set_self hl]
  · rw [if_neg e, List.getElem?_set_ne (by omega)]; exact h i (by omega)
