theorem hours_V {S : Rm} {p : Nat} (hp : p < rN S) : ∀ k, rV (hoursF S k) p = itF (rK S p) (draftF S p) (rV S p) k
  | 0 => rfl
  | k + 1 => by
    have ih := hours_V (S := S) hp k
    obtain ⟨a, b, c, d, e, f, g, t⟩ := hours_same (S := S) k
    show nextF (rK (hoursF S k) p) (rV (hoursF S k) p) (draftF (hoursF S k) p) = _
    rw [ih, d, show draftF (hoursF S k) p = draftF S p from draft_congr e f g a p 63]
    rfl
theorem upA_9 {A : MA} : upA (upA A 9 (A 5)) 5 (A 5) = upA A 9 (A 5) := by
  funext j; unfold upA
  by_cases h : j = 5
  · subst h; rfl
  · rw [if_neg h]
/-- behind a question that held now aside -/
def MQa (m : Nat) (F : MF) (A : MA) (S : Rm) (h : VHp) (x : Int32) : VPost := fun v h' => v = some (.int x) ∧ MRm h' m F (upA A 9 (A 5)) S ∧ VFr m (m + 12) h h'
theorem lets_back {h' : VHp} {m : Nat} {F : MF} {A : MA} {s : List Int32} (w : MRaw h' m F (upA (upA (upA A 9 (A 5)) 5 s) 5 (upA (upA A 9 (A 5)) 5 s 9))) : MRaw h' m F (upA A 9 (A 5)) := by
  rw [upA_n (by omega), upA_s, upA_upA, upA_9] at w
  exact w
theorem MRm.back {h h' : VHp} {m : Nat} {F : MF} {A : MA} {S : Rm} (w : MRm h m F A S) (w' : MRaw h' m F (upA A 9 (A 5))) : MRm h' m F (upA A 9 (A 5)) S := ⟨w', by rw [upA_n (by omega)]; exact w.2.1, by rw [upA_n (by omega)]; exact w.2.2⟩
theorem MRm.held {h h' : VHp} {m : Nat} {F : MF} {A : MA} {S : Rm} (w : MRm h m F A S) (w' : MRaw h' m F (upA A 9 (A 5))) : MRm h' m F (upA (upA A 9 (A 5)) 5 (A 5)) S := by rw [upA_9]; exact w.back w'
theorem MAt.aside {h h' : VHp} {m : Nat} {T : Sy} {F : MF} {A : MA} {z : List Int32} (w : MRm h' m F (upA A 9 z) (tS T)) (hT : F 0 = nI (tT T).length ∧ (∀ i, i < (tT T).length → (A 1)[i]? = some (nI ((tT T).getD i 0))) ∧ F 1 = nI (tP T).length ∧ (∀ j, j < (tP T).length → RowB ((tP T).getD j rClear) (A 6) (55 * ((tP T).length - 1 - j))) ∧ F 2 = nI (tK T).length ∧ (∀ i, i < (tK T).length → RowB ((tK T).getD i rClear) (A 7) (55 * i)) ∧ F 3 = nI (tN T).length ∧ (∀ i, i < (tN T).length → (A 8)[3 * i]? = some (nI ((tN T).getD i (0, 0, 0)).1) ∧ (A 8)[3 * i + 1]? = some (nI ((tN T).getD i (0, 0, 0)).2.1) ∧ (A 8)[3 * i + 2]? = some (nI ((tN T).getD i (0, 0, 0)).2.2))) : MAt h' m T :=
  ⟨F, upA A 9 z, w, hT.1, by rw [upA_n (by omega)]; exact hT.2.1, hT.2.2.1, by rw [upA_n (by omega)]; exact hT.2.2.2.1, hT.2.2.2.2.1, by rw [upA_n (by omega)]; exact hT.2.2.2.2.2.1, hT.2.2.2.2.2.2.1, by rw [upA_n (by omega)]; exact hT.2.2.2.2.2.2.2⟩
theorem rem_getD {T : Sy} {j : Nat} (h : j < (rem T).length) : (rem T).getD j rClear = (tS T :: tP T).getD j rClear := by
  unfold rem at *
  simp only [List.getD_eq_getElem?_getD, List.getElem?_take]
  rw [List.length_take] at h
  rw [if_pos (by omega)]
theorem rem_len {T : Sy} : (rem T).length = min 8 ((tP T).length + 1) := by unfold rem; rw [List.length_take, List.length_cons]
