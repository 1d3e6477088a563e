/-! reading a text -/
def nOf (c : Nat) : Nat := if c = 114 then 2 else if c = 112 then 3 else if c = 108 then 4 else 0
def numF (tx : List Nat) (i : Nat) : Option (Nat × Nat) :=
  if figF (chF tx i) then (if figF (chF tx (i + 1)) then some (10 * ((chF tx i).getD 0 - 48) + (chF tx (i + 1)).getD 0 - 48, i + 2) else some ((chF tx i).getD 0 - 48, i + 1)) else none
def sepF (m : Nat) : Nat := if m = 0 then 59 else 44
def numsF (tx : List Nat) : Nat → Nat → Option (List Nat × Nat)
  | 0, i => some ([], i)
  | m + 1, i => match numF tx i with
    | none => none
    | some (v, j) => if chF tx j = some (sepF m) then (numsF tx m (j + 1)).map (fun q => (v :: q.1, q.2)) else none
theorem numF_no {tx : List Nat} {i : Nat} (h : ¬ figF (chF tx i)) : numF tx i = none := by unfold numF; rw [if_neg h]
theorem numF_one {tx : List Nat} {i : Nat} (h : figF (chF tx i)) (h2 : ¬ figF (chF tx (i + 1))) : numF tx i = some ((chF tx i).getD 0 - 48, i + 1) := by unfold numF; rw [if_pos h, if_neg h2]
theorem numF_two {tx : List Nat} {i : Nat} (h : figF (chF tx i)) (h2 : figF (chF tx (i + 1))) : numF tx i = some (10 * ((chF tx i).getD 0 - 48) + (chF tx (i + 1)).getD 0 - 48, i + 2) := by unfold numF; rw [if_pos h, if_pos h2]
theorem nums_no {tx : List Nat} {m i : Nat} (h : numF tx i = none) : numsF tx (m + 1) i = none := by simp only [numsF, h]
theorem nums_bad {tx : List Nat} {m i v j : Nat} (h : numF tx i = some (v, j)) (hc : ¬ chF tx j = some (sepF m)) : numsF tx (m + 1) i = none := by simp only [numsF, h]; rw [if_neg hc]
theorem nums_ok {tx : List Nat} {m i v j : Nat} (h : numF tx i = some (v, j)) (hc : chF tx j = some (sepF m)) : numsF tx (m + 1) i = (numsF tx m (j + 1)).map (fun q => (v :: q.1, q.2)) := by simp only [numsF, h]; rw [if_pos hc]
theorem numF_bd {tx : List Nat} (hK : TxOk tx) {i v j : Nat} (h : numF tx i = some (v, j)) : v ≤ 99 ∧ i < j ∧ j ≤ i + 2 := by
  unfold numF at h
  split at h
  · split at h
    · next h1 h2 => simp only [Option.some.injEq, Prod.mk.injEq] at h; simp only [figF] at h1 h2; omega
    · next h1 h2 => simp only [Option.some.injEq, Prod.mk.injEq] at h; simp only [figF] at h1; omega
  · cases h
theorem numsF_bd {tx : List Nat} (hK : TxOk tx) : ∀ {m i : Nat} {vs : List Nat} {e : Nat}, numsF tx m i = some (vs, e) → vs.length = m ∧ i ≤ e ∧ e ≤ i + 3 * m ∧ (∀ k, k < m → vs.getD k 0 ≤ 99)
  | 0, i, vs, e, h => by
    simp only [numsF, Option.some.injEq, Prod.mk.injEq] at h
    obtain ⟨rfl, rfl⟩ := h
    exact ⟨rfl, by omega, by omega, fun k hk => by omega⟩
  | m + 1, i, vs, e, h => by
    simp only [numsF] at h
    split at h
    · cases h
    · next v j hn =>
      split at h
      · cases hq : numsF tx m (j + 1) with
        | none => rw [hq] at h; cases h
        | some q =>
          rw [hq] at h
          simp only [Option.map_some, Option.some.injEq, Prod.mk.injEq] at h
          obtain ⟨rfl, rfl⟩ := h
          have ih := numsF_bd hK (m := m) (i := j + 1) (vs := q.1) (e := q.2) hq
          have bd := numF_bd hK hn
          refine ⟨by rw [List.length_cons, ih.1], by omega, by omega, fun k hk => ?_⟩
          cases k with
          | zero => exact bd.1
          | succ k => rw [List.getD_cons_succ]; exact ih.2.2.2 k (by omega)
      · cases h
def ReaderAt (h : VHp) (q : Nat) (nm : List Int32) : Prop := h[q]? = some (.inr (.inr (2, [.ref (q + 1)]))) ∧ h[q + 1]? = some (.inl nm) ∧ nm.length = 4
theorem ReaderAt.keep {h h' : VHp} {q lo hi : Nat} {nm : List Int32} (w : ReaderAt h q nm) (f : VFr lo hi h h') (hd : q + 2 ≤ lo ∨ hi ≤ q) : ReaderAt h' q nm := by
  obtain ⟨h0, h1, l⟩ := w
  exact ⟨by rw [f.2 _ (by omega)]; exact h0, by rw [f.2 _ (by omega)]; exact h1, l⟩
def RdPost (q : Nat) (res : Option (List Nat × Nat)) (n : Nat) (h : VHp) : VPost := fun v h' => VFr q (q + 2) h h' ∧ ∃ nm, ReaderAt h' q nm ∧ match res with
  | none => v = some (.int (iI (-4)))
  | some w => v = some (.int (nI w.2)) ∧ ∀ i, i < n → nm[i]? = some (nI (w.1.getD i 0))
theorem fig_eO {o : Option Nat} (h : figF o) : eO o = nI (o.getD 0) := by
  cases o with
  | none => simp [figF] at h
  | some c => rfl
theorem fig_bd {o : Option Nat} (h : figF o) : 48 ≤ o.getD 0 ∧ o.getD 0 ≤ 57 := h
theorem ch_lt {tx : List Nat} (hK : TxOk tx) {i : Nat} : ∀ c, chF tx i = some c → c < 1000 := fun c h => by have := chF_bd hK c h; omega
theorem pre_app {nm : List Int32} {pre : List Nat} {v i : Nat} (h : ∀ j, j < i → nm[j]? = some (nI (pre.getD j 0))) (hl : pre.length = i) (hi : i < nm.length) : ∀ j, j < i + 1 → (nm.set i (nI v))[j]? = some (nI ((pre ++ [v]).getD j 0)) := by
  intro j hj
  rw [getD_app, hl]
  by_cases e : j = i
  · subst e; rw [List.getElem?_set_self hi, if_pos rfl]
  · rw [List.getElem?_set_ne (Ne.symm e), if_neg e]; exact h j (by omega)
theorem nums_next {tx : List Nat} {w i at_ from_ v j : Nat} {pre : List Nat} (hi : i < w) (he : numsF tx w from_ = (numsF tx (w - i) at_).map (fun q => (pre ++ q.1, q.2))) (hn : numF tx at_ = some (v, j)) (hc : chF tx j = some (sepF (w - i - 1))) : numsF tx w from_ = (numsF tx (w - (i + 1)) (j + 1)).map (fun q => (pre ++ [v] ++ q.1, q.2)) := by
  rw [he, show w - i = (w - i - 1) + 1 by omega, nums_ok hn hc, Option.map_map, show w - (i + 1) = w - i - 1 by omega]
  congr 1
  funext q
  simp
theorem nums_stop {tx : List Nat} {w i at_ from_ v j : Nat} {pre : List Nat} (hi : i < w) (he : numsF tx w from_ = (numsF tx (w - i) at_).map (fun q => (pre ++ q.1, q.2))) (hn : numF tx at_ = none ∨ (numF tx at_ = some (v, j) ∧ ¬ chF tx j = some (sepF (w - i - 1)))) : numsF tx w from_ = none := by
  rw [he, show w - i = (w - i - 1) + 1 by omega]
  rcases hn with hn | ⟨hn, hc⟩
  · rw [nums_no hn]; rfl
  · rw [nums_bad hn hc]; rfl
theorem look_no {x : Int32} {c : Nat} (hx : x.toInt = (c : Int)) (h1 : c ≠ 114) (h2 : c ≠ 112) (h3 : c ≠ 108) {a1 a2 a3 d : Int} : Op.lookupswitch.offset #[(108, a1), (112, a2), (114, a3)].toList d x.toInt = d := by
  rw [hx]
  simp [Op.lookupswitch.offset]
  omega
