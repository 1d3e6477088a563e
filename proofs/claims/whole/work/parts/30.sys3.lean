theorem kp_at (k : Nat) : ∀ i, i < 2 → ([some (k + 1), some (k + 7)] : List (Option Nat))[i]? = some (some (k + 1 + 6 * i)) := by
  intro i hi
  rcases (show i = 0 ∨ i = 1 by omega) with h | h <;> subst h <;> rfl
theorem getD_appR {l : List Rm} {c : Rm} {i : Nat} : (l ++ [c]).getD i rClear = if i = l.length then c else l.getD i rClear := by
  simp only [List.getD_eq_getElem?_getD]
  by_cases h : i < l.length
  · rw [List.getElem?_append_left h, if_neg (by omega)]
  · rw [List.getElem?_append_right (by omega)]
    by_cases e : i = l.length
    · subst e; simp
    · rw [if_neg e, List.getElem?_eq_none (by simp; omega), List.getElem?_eq_none (by omega)]
theorem getD_dropL {l : List Rm} {i : Nat} (hi : i < l.dropLast.length) : l.dropLast.getD i rClear = l.getD i rClear := by
  simp only [List.getD_eq_getElem?_getD, List.dropLast_eq_take, List.getElem?_take]
  rw [List.length_dropLast] at hi
  rw [if_pos hi]
theorem CAt.keepR {h h' : VHp} {c : Nat} {T : Sy} (w : CAt h c T) (hl : (tK T).length < 2) {S : Rm} (f : VFr (c + 79 + 1 + 6 * (tK T).length) (c + 79 + 1 + 6 * (tK T).length + 6) h h') (q : RoomAt h' (c + 79 + 1 + 6 * (tK T).length) S) : CAt h' c T ∧ ∀ i, i < (tK T ++ [S]).length → RoomAt h' (c + 79 + 1 + 6 * i) ((tK T ++ [S]).getD i rClear) := by
  obtain ⟨h0, h1, ⟨nm, h2⟩, h3, ⟨Q, h4⟩, h5, h6, h7, h8, h9, h10, h11, h12⟩ := w
  refine ⟨⟨by rw [f.2 _ (by omega)]; exact h0, h1.keep f (by omega), ⟨nm, h2.keep f (by omega)⟩, h3.keep f (by omega), ⟨Q, h4.keep f (by omega)⟩, h5.keep f (by omega), h6.keep f (by omega), h7.keep f (by omega), h8.keep f (by omega), by rw [f.2 _ (by omega)]; exact h9, h10, fun i hi => ?_, fun i hi => (h12 i hi).keep f (by omega)⟩, fun i hi => ?_⟩
  · by_cases e : i = (tK T).length
    · rw [e]; exact ⟨S, q⟩
    · exact (h11 i hi).imp (fun Q q => q.keep f (by omega))
  · rw [List.length_append] at hi
    simp only [List.length_cons, List.length_nil] at hi
    rw [getD_appR]
    by_cases e : i = (tK T).length
    · rw [if_pos e, e]; exact q
    · rw [if_neg e]; exact (h12 i (by omega)).keep f (by omega)
theorem alone_alone {S : Rm} {p q q' n : Nat} : rAlone (rAlone S p q' n) p q n = rAlone S p q n := by
  unfold rAlone
  congr
  funext i j
  show (if i = p ∧ j < n then (if j = q then 1 else 0) else if i = p ∧ j < n then (if j = q' then 1 else 0) else rL S i j) = _
  by_cases h : i = p ∧ j < n
  · rw [if_pos h, if_pos h]
  · rw [if_neg h, if_neg h, if_neg h]
abbrev loveP (S : Rm) (p w q : Nat) : Prop := q ≠ p ∧ draftF (rAlone S p q (rN S)) p = some w
def a_loves (T : Sy) (p w : Int) : Int32 := if isP T p ∧ 0 ≤ w ∧ w < ((8 : Nat) : Int) then nI (bitsF (fun q => loveP (tS T) p.toNat w.toNat q) (rN (tS T))) else iI (-1)
