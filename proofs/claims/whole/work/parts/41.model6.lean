/-! THE REFERENCE'S STATE -/
/-- a room in a block of a longer row -/
def RowB (P : Rm) (s : List Int32) (o : Nat) : Prop := ∃ b : List Int32, b.length = 55 ∧ RowS P b ∧ ∀ k, k < 55 → s[o + k]? = b[k]?
def MAt (h : VHp) (m : Nat) (T : Sy) : Prop := ∃ (F : MF) (A : MA), MRm h m F A (tS T) ∧ F 0 = nI (tT T).length ∧ (∀ i, i < (tT T).length → (A 1)[i]? = some (nI ((tT T).getD i 0))) ∧ F 1 = nI (tP T).length ∧ (∀ j, j < (tP T).length → RowB ((tP T).getD j rClear) (A 6) (55 * ((tP T).length - 1 - j))) ∧ F 2 = nI (tK T).length ∧ (∀ i, i < (tK T).length → RowB ((tK T).getD i rClear) (A 7) (55 * i)) ∧ F 3 = nI (tN T).length ∧ (∀ i, i < (tN T).length → (A 8)[3 * i]? = some (nI ((tN T).getD i (0, 0, 0)).1) ∧ (A 8)[3 * i + 1]? = some (nI ((tN T).getD i (0, 0, 0)).2.1) ∧ (A 8)[3 * i + 2]? = some (nI ((tN T).getD i (0, 0, 0)).2.2))
def MPo (m : Nat) (x : Int32) (T : Sy) (h : VHp) : VPost := fun v h' => v = some (.int x) ∧ MAt h' m T ∧ VFr m (m + 12) h h'

theorem MRaw.f0 {h : VHp} {m : Nat} {F : MF} {A : MA} (w : MRaw h m F A) (z : Int32) : MRaw (h.set m (.inr (.inr (8, [.ref (m + 1), .int (z), .ref (m + 2), .ref (m + 3), .ref (m + 4), .ref (m + 5), .ref (m + 6), .int (F 1), .ref (m + 7), .int (F 2), .ref (m + 8), .int (F 3), .int (F 4), .ref (m + 9), .ref (m + 10), .ref (m + 11)])))) m (upF F 0 z) A := ⟨vset_eq w.1, fun j j1 j2 => ⟨vset_ne (w.2 j j1 j2).1 (by omega), (w.2 j j1 j2).2⟩⟩
theorem MRaw.f1 {h : VHp} {m : Nat} {F : MF} {A : MA} (w : MRaw h m F A) (z : Int32) : MRaw (h.set m (.inr (.inr (8, [.ref (m + 1), .int (F 0), .ref (m + 2), .ref (m + 3), .ref (m + 4), .ref (m + 5), .ref (m + 6), .int (z), .ref (m + 7), .int (F 2), .ref (m + 8), .int (F 3), .int (F 4), .ref (m + 9), .ref (m + 10), .ref (m + 11)])))) m (upF F 1 z) A := ⟨vset_eq w.1, fun j j1 j2 => ⟨vset_ne (w.2 j j1 j2).1 (by omega), (w.2 j j1 j2).2⟩⟩
theorem MRaw.f2 {h : VHp} {m : Nat} {F : MF} {A : MA} (w : MRaw h m F A) (z : Int32) : MRaw (h.set m (.inr (.inr (8, [.ref (m + 1), .int (F 0), .ref (m + 2), .ref (m + 3), .ref (m + 4), .ref (m + 5), .ref (m + 6), .int (F 1), .ref (m + 7), .int (z), .ref (m + 8), .int (F 3), .int (F 4), .ref (m + 9), .ref (m + 10), .ref (m + 11)])))) m (upF F 2 z) A := ⟨vset_eq w.1, fun j j1 j2 => ⟨vset_ne (w.2 j j1 j2).1 (by omega), (w.2 j j1 j2).2⟩⟩
theorem MRaw.f3 {h : VHp} {m : Nat} {F : MF} {A : MA} (w : MRaw h m F A) (z : Int32) : MRaw (h.set m (.inr (.inr (8, [.ref (m + 1), .int (F 0), .ref (m + 2), .ref (m + 3), .ref (m + 4), .ref (m + 5), .ref (m + 6), .int (F 1), .ref (m + 7), .int (F 2), .ref (m + 8), .int (z), .int (F 4), .ref (m + 9), .ref (m + 10), .ref (m + 11)])))) m (upF F 3 z) A := ⟨vset_eq w.1, fun j j1 j2 => ⟨vset_ne (w.2 j j1 j2).1 (by omega), (w.2 j j1 j2).2⟩⟩
theorem MRaw.f4 {h : VHp} {m : Nat} {F : MF} {A : MA} (w : MRaw h m F A) (z : Int32) : MRaw (h.set m (.inr (.inr (8, [.ref (m + 1), .int (F 0), .ref (m + 2), .ref (m + 3), .ref (m + 4), .ref (m + 5), .ref (m + 6), .int (F 1), .ref (m + 7), .int (F 2), .ref (m + 8), .int (F 3), .int (z), .ref (m + 9), .ref (m + 10), .ref (m + 11)])))) m (upF F 4 z) A := ⟨vset_eq w.1, fun j j1 j2 => ⟨vset_ne (w.2 j j1 j2).1 (by omega), (w.2 j j1 j2).2⟩⟩
theorem note3 {s : List Int32} {ns : List Nt} {c : Nt} (h : ∀ i, i < ns.length → s[3 * i]? = some (nI (ns.getD i (0, 0, 0)).1) ∧ s[3 * i + 1]? = some (nI (ns.getD i (0, 0, 0)).2.1) ∧ s[3 * i + 2]? = some (nI (ns.getD i (0, 0, 0)).2.2)) (hl : 3 * ns.length + 2 < s.length) : ∀ i, i < (ns ++ [c]).length → (((s.set (3 * ns.length) (nI c.1)).set (3 * ns.length + 1) (nI c.2.1)).set (3 * ns.length + 2) (nI c.2.2))[3 * i]? = some (nI ((ns ++ [c]).getD i (0, 0, 0)).1) ∧ (((s.set (3 * ns.length) (nI c.1)).set (3 * ns.length + 1) (nI c.2.1)).set (3 * ns.length + 2) (nI c.2.2))[3 * i + 1]? = some (nI ((ns ++ [c]).getD i (0, 0, 0)).2.1) ∧ (((s.set (3 * ns.length) (nI c.1)).set (3 * ns.length + 1) (nI c.2.1)).set (3 * ns.length + 2) (nI c.2.2))[3 * i + 2]? = some (nI ((ns ++ [c]).getD i (0, 0, 0)).2.2) := by
  intro i hi
  rw [List.length_append] at hi
  simp only [List.length_cons, List.length_nil] at hi
  rw [getD_app3]
  by_cases e : i = ns.length
  · subst e
    rw [if_pos rfl]
    refine ⟨?_, ?_, ?_⟩
    · rw [List.getElem?_set_ne (by omega), List.getElem?_set_ne (by omega), List.getElem?_set_self (by omega)]
    · rw [List.getElem?_set_ne (by omega), List.getElem?_set_self (by rw [List.length_set]; omega)]
    · rw [List.getElem?_set_self (by rw [List.length_set, List.length_set]; omega)]
  · rw [if_neg e]
    have := h i (by omega)
    refine ⟨?_, ?_, ?_⟩
    · rw [List.getElem?_set_ne (by omega), List.getElem?_set_ne (by omega), List.getElem?_set_ne (by omega)]; exact this.1
    · rw [List.getElem?_set_ne (by omega), List.getElem?_set_ne (by omega), List.getElem?_set_ne (by omega)]; exact this.2.1
    · rw [List.getElem?_set_ne (by omega), List.getElem?_set_ne (by omega), List.getElem?_set_ne (by omega)]; exact this.2.2
theorem upF_s {F : MF} {i : Nat} {z : Int32} : upF F i z i = z := by unfold upF; rw [if_pos rfl]
theorem upF_n {F : MF} {i j : Nat} {z : Int32} (h : j ≠ i) : upF F i z j = F j := by unfold upF; rw [if_neg h]
/-- now changed to another room of the laying; the rest is as it was -/
theorem MAt.now {h h' : VHp} {m : Nat} {T : Sy} {F : MF} {A : MA} {S : Rm} {s : List Int32} (w : MRm h' m F (upA A 5 s) S) (hT : F 0 = nI (tT T).length ∧ (∀ i, i < (tT T).length → (A 1)[i]? = some (nI ((tT T).getD i 0))) ∧ F 1 = nI (tP T).length ∧ (∀ j, j < (tP T).length → RowB ((tP T).getD j rClear) (A 6) (55 * ((tP T).length - 1 - j))) ∧ F 2 = nI (tK T).length ∧ (∀ i, i < (tK T).length → RowB ((tK T).getD i rClear) (A 7) (55 * i)) ∧ F 3 = nI (tN T).length ∧ (∀ i, i < (tN T).length → (A 8)[3 * i]? = some (nI ((tN T).getD i (0, 0, 0)).1) ∧ (A 8)[3 * i + 1]? = some (nI ((tN T).getD i (0, 0, 0)).2.1) ∧ (A 8)[3 * i + 2]? = some (nI ((tN T).getD i (0, 0, 0)).2.2))) : MAt h' m (tT T, S, T.2.2) :=
  ⟨F, upA A 5 s, w, hT.1, by rw [upA_n (by omega)]; exact hT.2.1, hT.2.2.1, by rw [upA_n (by omega)]; exact hT.2.2.2.1, hT.2.2.2.2.1, by rw [upA_n (by omega)]; exact hT.2.2.2.2.2.1, hT.2.2.2.2.2.2.1, by rw [upA_n (by omega)]; exact hT.2.2.2.2.2.2.2⟩
