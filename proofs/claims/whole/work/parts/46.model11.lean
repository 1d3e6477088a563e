theorem sh_step {z a : List Int32} {i : Nat} (h1 : ∀ k, k < i → z[k]? = a[k + 55]?) (h2 : ∀ k, i ≤ k → z[k]? = a[k]?) (hz : i < z.length) (ha : i + 55 < a.length) : (∀ k, k < i + 1 → (z.set i (a.getD (i + 55) 0))[k]? = a[k + 55]?) ∧ (∀ k, i + 1 ≤ k → (z.set i (a.getD (i + 55) 0))[k]? = a[k]?) := by
  refine ⟨fun k hk => ?_, fun k hk => ?_⟩
  · by_cases e : k = i
    · subst e; rw [List.getElem?_set_self hz, getD_some ha]
    · rw [List.getElem?_set_ne (Ne.symm e)]; exact h1 k (by omega)
  · rw [List.getElem?_set_ne (by omega)]; exact h2 k (by omega)
theorem bk_step {z z0 b : List Int32} {o i : Nat} (h1 : ∀ k, k < i → z[o + k]? = b[k]?) (h2 : ∀ q, q < o ∨ o + i ≤ q → z[q]? = z0[q]?) (hz : o + i < z.length) (hb : i < b.length) : (∀ k, k < i + 1 → (z.set (o + i) (b.getD i 0))[o + k]? = b[k]?) ∧ (∀ q, q < o ∨ o + (i + 1) ≤ q → (z.set (o + i) (b.getD i 0))[q]? = z0[q]?) := by
  refine ⟨fun k hk => ?_, fun q hq => ?_⟩
  · by_cases e : k = i
    · subst e; rw [List.getElem?_set_self hz, getD_some hb]
    · rw [List.getElem?_set_ne (by omega)]; exact h1 k (by omega)
  · rw [List.getElem?_set_ne (by omega)]; exact h2 q (by omega)
theorem RowB.off {P : Rm} {s s' : List Int32} {o o' : Nat} (w : RowB P s o) (h : ∀ k, k < 55 → s'[o' + k]? = s[o + k]?) : RowB P s' o' := by
  obtain ⟨b, h1, h2, h3⟩ := w
  exact ⟨b, h1, h2, fun k hk => (h k hk).trans (h3 k hk)⟩
/-- the blocks of the past behind keeping -/
theorem rem_blocks {T : Sy} {z z0 b : List Int32} {kn : Nat} (hl : (rem T).length = kn + 1) (hb : b.length = 55) (hS : RowS (tS T) b) (h0 : ∀ j, j < kn → RowB ((tP T).getD j rClear) z0 (55 * (kn - 1 - j))) (h1 : ∀ k, k < 55 → z[55 * kn + k]? = b[k]?) (h2 : ∀ q, q < 55 * kn ∨ 55 * kn + 55 ≤ q → z[q]? = z0[q]?) : ∀ j, j < (rem T).length → RowB ((rem T).getD j rClear) z (55 * ((rem T).length - 1 - j)) := by
  intro j hj
  rw [rem_getD hj, hl]
  cases j with
  | zero => exact ⟨b, hb, hS, fun k hk => by rw [show kn + 1 - 1 - 0 = kn by omega]; exact h1 k hk⟩
  | succ j =>
    rw [List.getD_cons_succ]
    exact (h0 j (by omega)).off (fun k hk => by rw [show kn + 1 - 1 - (j + 1) = kn - 1 - j by omega]; exact h2 _ (by omega))
theorem getD_mem {l : List Rm} {j : Nat} (h : j < l.length) : l.getD j rClear ∈ l := by
  rw [List.getD_eq_getElem?_getD]
  cases hk : l[j]? with
  | none => rw [List.getElem?_eq_none_iff] at hk; omega
  | some v => exact List.mem_of_getElem? hk
theorem RowT.kin {S P : Rm} {t : List Int32} (w : RowT S t) (k : Kin S P) : RowT P t := by
  obtain ⟨-, e1, e2, e3, e4⟩ := k
  obtain ⟨a, b, c, d⟩ := w
  exact ⟨by rw [e1]; exact a, by rw [e2]; exact b, by rw [e3]; exact c, by rw [e3, e4]; exact d⟩
theorem past_tail {ps : List Rm} {s : List Int32} (h : ∀ j, j < ps.length → RowB (ps.getD j rClear) s (55 * (ps.length - 1 - j))) : ∀ j, j < ps.tail.length → RowB (ps.tail.getD j rClear) s (55 * (ps.tail.length - 1 - j)) := by
  intro j hj
  rw [List.length_tail] at hj ⊢
  have e0 : ps.tail.getD j rClear = ps.getD (j + 1) rClear := by
    cases ps with
    | nil => simp at hj
    | cons a l => simp
  rw [e0, show ps.length - 1 - 1 - j = ps.length - 1 - (j + 1) by omega]
  exact h (j + 1) (by omega)
theorem kept_app {ks : List Rm} {S : Rm} {a z b : List Int32} (hb : b.length = 55) (hS : RowS S b) (h : ∀ i, i < ks.length → RowB (ks.getD i rClear) a (55 * i)) (h1 : ∀ k, k < 55 → z[55 * ks.length + k]? = b[k]?) (h2 : ∀ q, q < 55 * ks.length ∨ 55 * ks.length + 55 ≤ q → z[q]? = a[q]?) : ∀ i, i < (ks ++ [S]).length → RowB ((ks ++ [S]).getD i rClear) z (55 * i) := by
  intro i hi
  rw [List.length_append] at hi
  simp only [List.length_cons, List.length_nil] at hi
  rw [getD_appR]
  by_cases e : i = ks.length
  · rw [if_pos e, e]; exact ⟨b, hb, hS, h1⟩
  · rw [if_neg e]; exact (h i (by omega)).off (fun k hk => h2 _ (by omega))
