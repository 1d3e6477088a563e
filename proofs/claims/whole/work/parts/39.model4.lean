theorem getD_some {l : List Int32} {k : Nat} (h : k < l.length) : l[k]? = some (l.getD k 0) := by
  rw [List.getD_eq_getElem?_getD]
  cases hk : l[k]? with
  | none => rw [List.getElem?_eq_none_iff] at hk; omega
  | some v => rfl
theorem cp_step {z src : List Int32} {k : Nat} (hz : ∀ j, j < k → z[j]? = src[j]?) (hk : k < z.length) (hs : k < src.length) : ∀ j, j < k + 1 → (z.set k (src.getD k 0))[j]? = src[j]? := by
  intro j hj
  by_cases e : j = k
  · subst e; rw [List.getElem?_set_self hk, getD_some hs]
  · rw [List.getElem?_set_ne (Ne.symm e)]; exact hz j (by omega)
theorem cp_end {z src : List Int32} {n : Nat} (hz : ∀ j, j < n → z[j]? = src[j]?) (h1 : z.length = n) (h2 : src.length = n) : z = src := by
  apply List.ext_getElem?
  intro j
  by_cases h : j < n
  · exact hz j h
  · rw [List.getElem?_eq_none (by omega), List.getElem?_eq_none (by omega)]
/-- one row is written anew -/
def MQr (m : Nat) (F : MF) (A : MA) (i : Nat) (z : List Int32) (h : VHp) (x : Option Value) : VPost := fun v h' => v = x ∧ MRaw h' m F (upA A i z) ∧ VFr (m + i) (m + i + 1) h h'
theorem mix_up {S : Rm} {p i : Nat} (hi : i < rN S) : mixV S (p + 1) i = up1 (mixV S p) p (vaneF S p) i := by
  unfold mixV up1
  by_cases e : i = p
  · subst e; rw [if_pos (by omega), if_pos rfl]
  · rw [if_neg e]
    show (if i < p + 1 then vaneF S i else rV S i) = (if i < p then vaneF S i else rV S i)
    by_cases h2 : i < p
    · rw [if_pos (by omega), if_pos h2]
    · rw [if_neg (by omega), if_neg h2]
theorem hour_row {S : Rm} {s : List Int32} (r : RowS (rSetV (rSetV S (mixV S (rN S)) (rT S)) (mixV S (rN S)) (rT S + 1)) s) : RowS (hourF S) s := by
  obtain ⟨a, b, c, d, e⟩ := r
  refine ⟨a, fun i hi => ?_, c, d, e⟩
  rw [b i hi]
  show some (nI (mixV S (rN S) i)) = some (nI (vaneF S i))
  unfold mixV
  rw [if_pos (show i < rN S from hi)]
