/-! text, sights, past: their cells -/
def TextAt (h : VHp) (t : Nat) (tx : List Nat) : Prop := ∃ lt : List Int32, h[t]? = some (.inr (.inr (6, [.ref (t + 1), .int (nI tx.length)]))) ∧ h[t + 1]? = some (.inl lt) ∧ lt.length = 200 ∧ tx.length ≤ 200 ∧ (∀ i, i < tx.length → lt[i]? = some (nI (tx.getD i 0)))
def TxOk (tx : List Nat) : Prop := tx.length ≤ 200 ∧ ∀ i, i < tx.length → 32 ≤ tx.getD i 0 ∧ tx.getD i 0 ≤ 126
theorem TextAt.keep {h h' : VHp} {t lo hi : Nat} {tx : List Nat} (w : TextAt h t tx) (f : VFr lo hi h h') (hd : t + 2 ≤ lo ∨ hi ≤ t) : TextAt h' t tx := by
  obtain ⟨lt, h0, h1, rest⟩ := w
  exact ⟨lt, by rw [f.2 _ (by omega)]; exact h0, by rw [f.2 _ (by omega)]; exact h1, rest⟩
def chF (tx : List Nat) (i : Nat) : Option Nat := if i < tx.length then some (tx.getD i 0) else none
theorem getD_app {tx : List Nat} {c i : Nat} : (tx ++ [c]).getD i 0 = if i = tx.length then c else tx.getD i 0 := by
  simp only [List.getD_eq_getElem?_getD]
  by_cases h : i < tx.length
  · rw [List.getElem?_append_left h, if_neg (by omega)]
  · rw [List.getElem?_append_right (by omega)]
    by_cases e : i = tx.length
    · subst e; simp
    · rw [if_neg e, List.getElem?_eq_none (by simp; omega), List.getElem?_eq_none (by omega)]
theorem text_app {lt : List Int32} {tx : List Nat} {c : Nat} (h : ∀ i, i < tx.length → lt[i]? = some (nI (tx.getD i 0))) (hl : tx.length < lt.length) : ∀ i, i < (tx ++ [c]).length → (lt.set tx.length (nI c))[i]? = some (nI ((tx ++ [c]).getD i 0)) := by
  intro i hi
  rw [List.length_append] at hi
  simp only [List.length_cons, List.length_nil] at hi
  rw [getD_app]
  by_cases e : i = tx.length
  · subst e; rw [List.getElem?_set_self hl, if_pos rfl]
  · rw [List.getElem?_set_ne (Ne.symm e), if_neg e]; exact h i (by omega)
abbrev Nt : Type := Nat × Nat × Nat
def SightsAt (h : VHp) (t : Nat) (ns : List Nt) : Prop := ∃ wh hb wy : List Int32, h[t]? = some (.inr (.inr (5, [.ref (t + 1), .ref (t + 2), .ref (t + 3), .int (nI ns.length)]))) ∧ h[t + 1]? = some (.inl wh) ∧ h[t + 2]? = some (.inl hb) ∧ h[t + 3]? = some (.inl wy) ∧ wh.length = 6 ∧ hb.length = 6 ∧ wy.length = 6 ∧ ns.length ≤ 6 ∧ (∀ i, i < ns.length → wh[i]? = some (nI (ns.getD i (0, 0, 0)).1)) ∧ (∀ i, i < ns.length → hb[i]? = some (nI (ns.getD i (0, 0, 0)).2.1)) ∧ (∀ i, i < ns.length → wy[i]? = some (nI (ns.getD i (0, 0, 0)).2.2))
theorem SightsAt.keep {h h' : VHp} {t lo hi : Nat} {ns : List Nt} (w : SightsAt h t ns) (f : VFr lo hi h h') (hd : t + 4 ≤ lo ∨ hi ≤ t) : SightsAt h' t ns := by
  obtain ⟨wh, hb, wy, h0, h1, h2, h3, rest⟩ := w
  exact ⟨wh, hb, wy, by rw [f.2 _ (by omega)]; exact h0, by rw [f.2 _ (by omega)]; exact h1, by rw [f.2 _ (by omega)]; exact h2, by rw [f.2 _ (by omega)]; exact h3, rest⟩
theorem getD_app3 {tx : List Nt} {c : Nt} {i : Nat} : (tx ++ [c]).getD i (0, 0, 0) = if i = tx.length then c else tx.getD i (0, 0, 0) := by
  simp only [List.getD_eq_getElem?_getD]
  by_cases h : i < tx.length
  · rw [List.getElem?_append_left h, if_neg (by omega)]
  · rw [List.getElem?_append_right (by omega)]
    by_cases e : i = tx.length
    · subst e; simp
    · rw [if_neg e, List.getElem?_eq_none (by simp; omega), List.getElem?_eq_none (by omega)]
theorem note_app {lt : List Int32} {tx : List Nt} {c : Nt} {f : Nt → Nat} (h : ∀ i, i < tx.length → lt[i]? = some (nI (f (tx.getD i (0, 0, 0))))) (hl : tx.length < lt.length) : ∀ i, i < (tx ++ [c]).length → (lt.set tx.length (nI (f c)))[i]? = some (nI (f ((tx ++ [c]).getD i (0, 0, 0)))) := by
  intro i hi
  rw [List.length_append] at hi
  simp only [List.length_cons, List.length_nil] at hi
  rw [getD_app3]
  by_cases e : i = tx.length
  · subst e; rw [List.getElem?_set_self hl, if_pos rfl]
  · rw [List.getElem?_set_ne (Ne.symm e), if_neg e]; exact h i (by omega)
/-- would all that is seen of p be so -/
abbrev holdF (ns : List Nt) (p kd told : Nat) (d : Option Nat) : Prop := ∀ i, i < ns.length → (ns.getD i (0, 0, 0)).1 = p → itF kd d told (ns.getD i (0, 0, 0)).2.1 = (ns.getD i (0, 0, 0)).2.2
/-- what is known of notes -/
def NtOk (ns : List Nt) : Prop := ns.length ≤ 6 ∧ ∀ i, i < ns.length → (ns.getD i (0, 0, 0)).1 < 6 ∧ (ns.getD i (0, 0, 0)).2.1 ≤ 20 ∧ (ns.getD i (0, 0, 0)).2.2 < 8
def prefs (b : Nat) : List (Option Nat) := [some (b + 2), some (b + 8), some (b + 14), some (b + 20), some (b + 26), some (b + 32), some (b + 38), some (b + 44)]
theorem prefs_at (b : Nat) : ∀ i, i < 8 → (prefs b)[i]? = some (some (b + 2 + 6 * i)) := by
  intro i hi
  rcases (show i = 0 ∨ i = 1 ∨ i = 2 ∨ i = 3 ∨ i = 4 ∨ i = 5 ∨ i = 6 ∨ i = 7 by omega) with h | h | h | h | h | h | h | h <;> subst h <;> rfl
def PastAt (h : VHp) (b : Nat) (ps : List Rm) : Prop := ∃ nx, nx < 8 ∧ ps.length ≤ 8 ∧ h[b]? = some (.inr (.inr (1, [.ref (b + 1), .int (nI nx), .int (nI ps.length)]))) ∧ h[b + 1]? = some (.inr (.inl (prefs b))) ∧ (∀ i, i < 8 → ∃ Q, RoomAt h (b + 2 + 6 * i) Q) ∧ ∀ j, j < ps.length → RoomAt h (b + 2 + 6 * ((nx + 7 - j) % 8)) (ps.getD j rClear)
theorem PastAt.keep {h h' : VHp} {b lo hi : Nat} {ps : List Rm} (w : PastAt h b ps) (f : VFr lo hi h h') (hd : b + 50 ≤ lo ∨ hi ≤ b) : PastAt h' b ps := by
  obtain ⟨nx, h0, h1, h2, h3, h4, h5⟩ := w
  exact ⟨nx, h0, h1, by rw [f.2 _ (by omega)]; exact h2, by rw [f.2 _ (by omega)]; exact h3, fun i hi => (h4 i hi).imp (fun Q q => q.keep f (by omega)), fun j hj => (h5 j hj).keep f (by omega)⟩
def VFr2 (lo hi lo' hi' : Nat) (h h' : VHp) : Prop := h'.length = h.length ∧ ∀ q, q < lo ∨ hi ≤ q → q < lo' ∨ hi' ≤ q → h'[q]? = h[q]?
/-- behind the copy into the ring's next room -/
theorem past_push {h h1 : VHp} {b nx : Nat} {S : Rm} {ps : List Rm} (hn : nx < 8) (hp : ps.length ≤ 8) (h4 : ∀ i, i < 8 → ∃ Q, RoomAt h (b + 2 + 6 * i) Q) (h5 : ∀ j, j < ps.length → RoomAt h (b + 2 + 6 * ((nx + 7 - j) % 8)) (ps.getD j rClear)) (hR : RoomAt h1 (b + 2 + 6 * nx) S) (f : VFr (b + 2 + 6 * nx) (b + 2 + 6 * nx + 6) h h1) :
    (∀ i, i < 8 → ∃ Q, RoomAt h1 (b + 2 + 6 * i) Q) ∧ ∀ j, j < ((S :: ps).take 8).length → RoomAt h1 (b + 2 + 6 * (((nx + 1) % 8 + 7 - j) % 8)) (((S :: ps).take 8).getD j rClear) := by
  refine ⟨fun i hi => ?_, fun j hj => ?_⟩
  · by_cases e : i = nx
    · subst e; exact ⟨S, hR⟩
    · exact (h4 i hi).imp (fun Q q => q.keep f (by omega))
  · rw [List.length_take, List.length_cons] at hj
    have e0 : ((S :: ps).take 8).getD j rClear = (S :: ps).getD j rClear := by
      simp only [List.getD_eq_getElem?_getD, List.getElem?_take]
      rw [if_pos (by omega)]
    rw [e0]
    cases j with
    | zero =>
      rw [show ((nx + 1) % 8 + 7 - 0) % 8 = nx by omega]
      exact hR
    | succ j =>
      rw [show ((nx + 1) % 8 + 7 - (j + 1)) % 8 = (nx + 7 - j) % 8 by omega]
      exact (h5 j (by omega)).keep f (by omega)
theorem past_pop {h : VHp} {b nx : Nat} {ps : List Rm} (hn : nx < 8) (hp : ps.length ≤ 8) (h5 : ∀ j, j < ps.length → RoomAt h (b + 2 + 6 * ((nx + 7 - j) % 8)) (ps.getD j rClear)) : ∀ j, j < ps.tail.length → RoomAt h (b + 2 + 6 * (((nx + 7) % 8 + 7 - j) % 8)) (ps.tail.getD j rClear) := by
  intro j hj
  rw [List.length_tail] at hj
  have e0 : ps.tail.getD j rClear = ps.getD (j + 1) rClear := by
    cases ps with
    | nil => simp at hj
    | cons a l => simp
  rw [e0, show ((nx + 7) % 8 + 7 - j) % 8 = (nx + 7 - (j + 1)) % 8 by omega]
  exact h5 (j + 1) (by omega)
abbrev figF (o : Option Nat) : Prop := 48 ≤ o.getD 0 ∧ o.getD 0 ≤ 57
theorem chF_bd {tx : List Nat} (h : TxOk tx) {i : Nat} : ∀ c, chF tx i = some c → 32 ≤ c ∧ c ≤ 126 := by
  intro c hc
  unfold chF at hc
  split at hc
  · cases hc; exact h.2 i (by assumption)
  · cases hc
theorem RoomAt.obj {h : VHp} {r : Nat} {S : Rm} (w : RoomAt h r S) : h[r]? = some (.inr (.inr (3, [.ref (r + 1), .ref (r + 2), .ref (r + 3), .ref (r + 4), .ref (r + 5), .int (nI (rW S)), .int (nI (rH S)), .int (nI (rN S)), .int (nI (rT S))]))) := by
  obtain ⟨kd, xs, ys, vs, ll, h0, rest⟩ := w
  exact h0
theorem take8_len {S : Rm} {ps : List Rm} : ((S :: ps).take 8).length = min (ps.length + 1) 8 := by rw [List.length_take, List.length_cons, Nat.min_comm]
