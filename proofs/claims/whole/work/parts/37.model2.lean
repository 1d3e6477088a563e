theorem upA_upA {A : MA} {i : Nat} {a b : List Int32} : upA (upA A i a) i b = upA A i b := by
  funext j; unfold upA; split <;> rfl
theorem upA_id {A : MA} {i : Nat} : upA A i (A i) = A := by
  funext j; unfold upA; split
  · next h => rw [h]
  · rfl
def rSetX (S : Rm) (p x : Nat) : Rm := (rW S, rH S, rN S, rT S, rK S, rV S, up1 (rX S) p x, rY S, rL S)
def rSetY (S : Rm) (p y : Nat) : Rm := (rW S, rH S, rN S, rT S, rK S, rV S, rX S, up1 (rY S) p y, rL S)
theorem put_XY {S : Rm} {p x y : Nat} : rSetY (rSetX S p x) p y = rPut S p x y := rfl
/-- only the row of now has changed -/
def MQ5 (m : Nat) (F : MF) (A : MA) (S : Rm) (h : VHp) (x : Option Value) : VPost := fun v h' => v = x ∧ ∃ s, MRm h' m F (upA A 5 s) S ∧ VFr (m + 5) (m + 6) h h'
section
variable {h : VHp} {m : Nat} {F : MF} {A : MA} {S : Rm}
theorem MRm.len (w : MRm h m F A S) : (A 5).length = 55 := (w.1.2 5 (by omega) (by omega)).2
theorem MRm.w5 (w : MRm h m F A S) {S' : Rm} (z : List Int32) (hz : z.length = 55) (hs : RowS S' z) (h1 : rW S' = rW S) (h2 : rH S' = rH S) (h3 : rN S' = rN S) (h4 : rK S' = rK S) : MRm (h.set (m + 5) (.inl z)) m F (upA A 5 z) S' := by
  refine ⟨MRaw.set w.1 5 (by omega) (by omega) z hz, ?_, ?_⟩
  · rw [upA_n (by omega)]
    obtain ⟨a, b, c, d⟩ := w.2.1
    exact ⟨by rw [h1]; exact a, by rw [h2]; exact b, by rw [h3]; exact c, by rw [h3, h4]; exact d⟩
  · rw [upA_s]; exact hs
theorem row_at {s : List Int32} {o n p x : Nat} {f : Nat → Nat} (h : ∀ i, i < n → s[o + i]? = some (nI (f i))) (hp : o + p < s.length) : ∀ i, i < n → (s.set (o + p) (nI x))[o + i]? = some (nI (up1 f p x i)) := by
  intro i hi
  unfold up1
  by_cases e : i = p
  · subst e; rw [List.getElem?_set_self hp]; simp
  · rw [List.getElem?_set_ne (by omega), h i hi]; simp [e]
theorem row_off {s : List Int32} {o n k : Nat} {v : Int32} {f : Nat → Int32} (h : ∀ i, i < n → s[o + i]? = some (f i)) (hk : k < o ∨ o + n ≤ k) : ∀ i, i < n → (s.set k v)[o + i]? = some (f i) := by
  intro i hi
  rw [List.getElem?_set_ne (by omega)]; exact h i hi
theorem lean_off {s : List Int32} {k : Nat} {v : Int32} {L : Nat → Nat → Int} (h : ∀ i j, i < 6 → j < 6 → s[19 + 6 * i + j]? = some (iI (L i j))) (hk : k < 19) : ∀ i j, i < 6 → j < 6 → (s.set k v)[19 + 6 * i + j]? = some (iI (L i j)) := by
  intro i j hi hj
  rw [List.getElem?_set_ne (by omega)]; exact h i j hi hj
theorem RowS.x (r : RowS S (A 5)) (hl : (A 5).length = 55) (hn : rN S ≤ 6) {p x : Nat} (hp : p < rN S) : RowS (rSetX S p x) ((A 5).set (7 + p) (nI x)) := by
  obtain ⟨a, b, c, d, e⟩ := r
  exact ⟨by rw [List.getElem?_set_ne (by omega)]; exact a, row_off (n := rN S) (f := fun i => nI (rV S i)) b (by omega), row_at c (by omega), row_off (n := rN S) (f := fun i => nI (rY S i)) d (by omega), lean_off e (by omega)⟩
theorem RowS.y (r : RowS S (A 5)) (hl : (A 5).length = 55) (hn : rN S ≤ 6) {p y : Nat} (hp : p < rN S) : RowS (rSetY S p y) ((A 5).set (13 + p) (nI y)) := by
  obtain ⟨a, b, c, d, e⟩ := r
  exact ⟨by rw [List.getElem?_set_ne (by omega)]; exact a, row_off (n := rN S) (f := fun i => nI (rV S i)) b (by omega), row_off (n := rN S) (f := fun i => nI (rX S i)) c (by omega), row_at d (by omega), lean_off e (by omega)⟩
theorem RowS.v (r : RowS S (A 5)) (hl : (A 5).length = 55) (hn : rN S ≤ 6) {p v : Nat} {V : Nat → Nat} (hp : p < rN S) (hV : ∀ i, i < rN S → V i = up1 (rV S) p v i) : RowS (rSetV S V (rT S)) ((A 5).set (1 + p) (nI v)) := by
  obtain ⟨a, b, c, d, e⟩ := r
  refine ⟨by rw [List.getElem?_set_ne (by omega)]; exact a, fun i hi => ?_, row_off (n := rN S) (f := fun i => nI (rX S i)) c (by omega), row_off (n := rN S) (f := fun i => nI (rY S i)) d (by omega), lean_off e (by omega)⟩
  show _ = some (nI (V i))
  rw [hV i hi]
  exact row_at b (by omega) i hi
theorem RowS.t (r : RowS S (A 5)) (hl : (A 5).length = 55) (hn : rN S ≤ 6) {t : Nat} : RowS (rSetV S (rV S) t) ((A 5).set 0 (nI t)) := by
  obtain ⟨a, b, c, d, e⟩ := r
  exact ⟨List.getElem?_set_self (by omega), row_off (n := rN S) (f := fun i => nI (rV S i)) b (by omega), row_off (n := rN S) (f := fun i => nI (rX S i)) c (by omega), row_off (n := rN S) (f := fun i => nI (rY S i)) d (by omega), lean_off e (by omega)⟩
theorem RowS.l (r : RowS S (A 5)) (hl : (A 5).length = 55) (hn : rN S ≤ 6) {a b : Nat} {l : Int} (ha : a < 6) (hb : b < 6) : RowS (rLean S a b l) ((A 5).set (19 + 6 * a + b) (iI l)) := by
  obtain ⟨p, q, c, d, e⟩ := r
  refine ⟨by rw [List.getElem?_set_ne (by omega)]; exact p, row_off (n := rN S) (f := fun i => nI (rV S i)) q (by omega), row_off (n := rN S) (f := fun i => nI (rX S i)) c (by omega), row_off (n := rN S) (f := fun i => nI (rY S i)) d (by omega), fun i j hi hj => ?_⟩
  show _ = some (iI (if i = a ∧ j = b then l else rL S i j))
  by_cases z : i = a ∧ j = b
  · rw [z.1, z.2, List.getElem?_set_self (by omega), if_pos ⟨rfl, rfl⟩]
  · rw [if_neg z, List.getElem?_set_ne (by omega)]; exact e i j hi hj
end
