/-! a room's cells, raw -/
def dxF (j : Nat) : Int := if j = 1 then 1 else if j = 3 then -1 else 0
def dyF (j : Nat) : Int := if j = 0 then -1 else if j = 2 then 1 else 0
theorem vea_d : ∀ j, j < 4 → vea j = iI (dxF j) := by decide +kernel
theorem vso_d : ∀ j, j < 4 → vso j = iI (dyF j) := by decide +kernel
theorem dx_bd (j : Nat) : -1 ≤ dxF j ∧ dxF j ≤ 1 := by unfold dxF; split <;> (try split) <;> omega
theorem dy_bd (j : Nat) : -1 ≤ dyF j ∧ dyF j ≤ 1 := by unfold dyF; split <;> (try split) <;> omega
def sxF (S : Rm) (p side : Nat) : Int := (rX S p : Int) + dxF side
def syF (S : Rm) (p side : Nat) : Int := (rY S p : Int) + dyF side
abbrev inF (S : Rm) (x y : Int) : Prop := (0 ≤ x ∧ x < (rW S : Nat)) ∧ (0 ≤ y ∧ y < (rH S : Nat))
abbrev canF (S : Rm) (p side : Nat) : Prop := inF S (sxF S p side) (syF S p side) ∧ whoF S (sxF S p side).toNat (syF S p side).toNat (rN S) = none
def rStep (S : Rm) (p side : Nat) : Rm := rPut S p (sxF S p side).toNat (syF S p side).toNat
def RawAt (h : VHp) (r W H n t : Nat) (kd xs ys vs ll : List Int32) : Prop :=
  h[r]? = some (.inr (.inr (3, [.ref (r + 1), .ref (r + 2), .ref (r + 3), .ref (r + 4), .ref (r + 5), .int (nI W), .int (nI H), .int (nI n), .int (nI t)]))) ∧
  h[r + 1]? = some (.inl kd) ∧ h[r + 2]? = some (.inl xs) ∧ h[r + 3]? = some (.inl ys) ∧ h[r + 4]? = some (.inl vs) ∧ h[r + 5]? = some (.inl ll) ∧
  kd.length = 6 ∧ xs.length = 6 ∧ ys.length = 6 ∧ vs.length = 6 ∧ ll.length = 36
def RowsOf (S : Rm) (kd xs ys vs ll : List Int32) : Prop := (∀ i, i < rN S → kd[i]? = some (nI (rK S i))) ∧ (∀ i, i < rN S → xs[i]? = some (nI (rX S i))) ∧ (∀ i, i < rN S → ys[i]? = some (nI (rY S i))) ∧ (∀ i, i < rN S → vs[i]? = some (nI (rV S i))) ∧ (∀ i j, i < 6 → j < 6 → ll[6 * i + j]? = some (iI (rL S i j)))
theorem RoomAt.raw {h : VHp} {r : Nat} {S : Rm} (w : RoomAt h r S) : ∃ kd xs ys vs ll, RawAt h r (rW S) (rH S) (rN S) (rT S) kd xs ys vs ll ∧ RowsOf S kd xs ys vs ll := by
  obtain ⟨kd, xs, ys, vs, ll, h0, h1, h2, h3, h4, h5, l1, l2, l3, l4, l5, rest⟩ := w
  exact ⟨kd, xs, ys, vs, ll, ⟨h0, h1, h2, h3, h4, h5, l1, l2, l3, l4, l5⟩, rest⟩
theorem RawAt.room {h : VHp} {r W H n t : Nat} {kd xs ys vs ll : List Int32} {S : Rm} (w : RawAt h r W H n t kd xs ys vs ll) (q : RowsOf S kd xs ys vs ll) (e1 : W = rW S) (e2 : H = rH S) (e3 : n = rN S) (e4 : t = rT S) : RoomAt h r S := by
  subst e1; subst e2; subst e3; subst e4
  obtain ⟨h0, h1, h2, h3, h4, h5, l1, l2, l3, l4, l5⟩ := w
  exact ⟨kd, xs, ys, vs, ll, h0, h1, h2, h3, h4, h5, l1, l2, l3, l4, l5, q⟩
theorem vset_ne {h : VHp} {a k : Nat} {c : VC} {v : Option VC} (hk : h[k]? = v) (hne : a ≠ k) : (h.set a c)[k]? = v := by rw [List.getElem?_set_ne hne]; exact hk
theorem vset_eq {h : VHp} {a : Nat} {c c0 : VC} (hk : h[a]? = some c0) : (h.set a c)[a]? = some c := by rw [List.getElem?_set_self (List.getElem?_eq_some_iff.mp hk).1]
section Raw
variable {h : VHp} {r W H n t : Nat} {kd xs ys vs ll : List Int32} (w : RawAt h r W H n t kd xs ys vs ll)
theorem RawAt.keep (w : RawAt h r W H n t kd xs ys vs ll) {h' : VHp} {lo hi : Nat} (f : VFr lo hi h h') (hd : r + 6 ≤ lo ∨ hi ≤ r) : RawAt h' r W H n t kd xs ys vs ll := by
  obtain ⟨h0, h1, h2, h3, h4, h5, rest⟩ := w
  exact ⟨by rw [f.2 _ (by omega)]; exact h0, by rw [f.2 _ (by omega)]; exact h1, by rw [f.2 _ (by omega)]; exact h2, by rw [f.2 _ (by omega)]; exact h3, by rw [f.2 _ (by omega)]; exact h4, by rw [f.2 _ (by omega)]; exact h5, rest⟩
theorem RawAt.w0 (w : RawAt h r W H n t kd xs ys vs ll) (W' H' n' t' : Nat) : RawAt (h.set r (.inr (.inr (3, [.ref (r + 1), .ref (r + 2), .ref (r + 3), .ref (r + 4), .ref (r + 5), .int (nI W'), .int (nI H'), .int (nI n'), .int (nI t')])))) r W' H' n' t' kd xs ys vs ll := by
  obtain ⟨h0, h1, h2, h3, h4, h5, rest⟩ := w
  exact ⟨vset_eq h0, vset_ne h1 (by omega), vset_ne h2 (by omega), vset_ne h3 (by omega), vset_ne h4 (by omega), vset_ne h5 (by omega), rest⟩
theorem RawAt.w1 (w : RawAt h r W H n t kd xs ys vs ll) (z : List Int32) (hz : z.length = 6) : RawAt (h.set (r + 1) (.inl z)) r W H n t z xs ys vs ll := by
  obtain ⟨h0, h1, h2, h3, h4, h5, l1, l2, l3, l4, l5⟩ := w
  exact ⟨vset_ne h0 (by omega), vset_eq h1, vset_ne h2 (by omega), vset_ne h3 (by omega), vset_ne h4 (by omega), vset_ne h5 (by omega), hz, l2, l3, l4, l5⟩
theorem RawAt.w2 (w : RawAt h r W H n t kd xs ys vs ll) (z : List Int32) (hz : z.length = 6) : RawAt (h.set (r + 2) (.inl z)) r W H n t kd z ys vs ll := by
  obtain ⟨h0, h1, h2, h3, h4, h5, l1, l2, l3, l4, l5⟩ := w
  exact ⟨vset_ne h0 (by omega), vset_ne h1 (by omega), vset_eq h2, vset_ne h3 (by omega), vset_ne h4 (by omega), vset_ne h5 (by omega), l1, hz, l3, l4, l5⟩
theorem RawAt.w3 (w : RawAt h r W H n t kd xs ys vs ll) (z : List Int32) (hz : z.length = 6) : RawAt (h.set (r + 3) (.inl z)) r W H n t kd xs z vs ll := by
  obtain ⟨h0, h1, h2, h3, h4, h5, l1, l2, l3, l4, l5⟩ := w
  exact ⟨vset_ne h0 (by omega), vset_ne h1 (by omega), vset_ne h2 (by omega), vset_eq h3, vset_ne h4 (by omega), vset_ne h5 (by omega), l1, l2, hz, l4, l5⟩
theorem RawAt.w4 (w : RawAt h r W H n t kd xs ys vs ll) (z : List Int32) (hz : z.length = 6) : RawAt (h.set (r + 4) (.inl z)) r W H n t kd xs ys z ll := by
  obtain ⟨h0, h1, h2, h3, h4, h5, l1, l2, l3, l4, l5⟩ := w
  exact ⟨vset_ne h0 (by omega), vset_ne h1 (by omega), vset_ne h2 (by omega), vset_ne h3 (by omega), vset_eq h4, vset_ne h5 (by omega), l1, l2, l3, hz, l5⟩
theorem RawAt.w5 (w : RawAt h r W H n t kd xs ys vs ll) (z : List Int32) (hz : z.length = 36) : RawAt (h.set (r + 5) (.inl z)) r W H n t kd xs ys vs z := by
  obtain ⟨h0, h1, h2, h3, h4, h5, l1, l2, l3, l4, l5⟩ := w
  exact ⟨vset_ne h0 (by omega), vset_ne h1 (by omega), vset_ne h2 (by omega), vset_ne h3 (by omega), vset_ne h4 (by omega), vset_eq h5, l1, l2, l3, l4, hz⟩
end Raw
theorem row_set {xs : List Int32} {n p x : Nat} {f : Nat → Nat} (h : ∀ i, i < n → xs[i]? = some (nI (f i))) (hp : p < xs.length) : ∀ i, i < n → (xs.set p (nI x))[i]? = some (nI (up1 f p x i)) := by
  intro i hi
  unfold up1
  by_cases e : i = p
  · subst e; rw [List.getElem?_set_self hp]; simp
  · rw [List.getElem?_set_ne (Ne.symm e), h i hi]; simp [e]
theorem row_grow {xs : List Int32} {n x : Nat} {f : Nat → Nat} (h : ∀ i, i < n → xs[i]? = some (nI (f i))) (hp : n < xs.length) : ∀ i, i < n + 1 → (xs.set n (nI x))[i]? = some (nI (up1 f n x i)) := by
  intro i hi
  unfold up1
  by_cases e : i = n
  · subst e; rw [List.getElem?_set_self hp]; simp
  · rw [List.getElem?_set_ne (Ne.symm e), h i (by omega)]; simp [e]
theorem lean_set {ll : List Int32} {a b : Nat} {l : Int} {L : Nat → Nat → Int} (h : ∀ i j, i < 6 → j < 6 → ll[6 * i + j]? = some (iI (L i j))) (hl : ll.length = 36) (ha : a < 6) (hb : b < 6) : ∀ i j, i < 6 → j < 6 → (ll.set (6 * a + b) (iI l))[6 * i + j]? = some (iI (if i = a ∧ j = b then l else L i j)) := by
  intro i j hi hj
  by_cases e : i = a ∧ j = b
  · obtain ⟨rfl, rfl⟩ := e
    rw [List.getElem?_set_self (by omega)]; simp
  · rw [List.getElem?_set_ne (by omega), h i j hi hj]; simp [e]
theorem felt_congr {S S' : Rm} (h1 : rX S = rX S') (h2 : rY S = rY S') (h3 : rL S = rL S') (p m : Nat) : ∀ n, feltE S p m n = feltE S' p m n ∧ feltS S p m n = feltS S' p m n
  | 0 => ⟨rfl, rfl⟩
  | n + 1 => by
    have ih := felt_congr h1 h2 h3 p m n
    simp only [feltE, feltS, pullF, h1, h2, h3, ih.1, ih.2]
    exact ⟨trivial, trivial⟩
theorem draft_congr {S S' : Rm} (h1 : rX S = rX S') (h2 : rY S = rY S') (h3 : rL S = rL S') (h4 : rN S = rN S') (p m : Nat) : draftM S p m = draftM S' p m := by
  unfold draftM
  rw [(felt_congr h1 h2 h3 p m _).1, (felt_congr h1 h2 h3 p m _).2, h4]
/-- the vanes while an hour goes by -/
def mixV (S : Rm) (p : Nat) : Nat → Nat := fun i => if i < p then vaneF S i else rV S i
theorem vaneF_lt {S : Rm} (hB : RmB S) {p : Nat} (hp : p < rN S) : vaneF S p < 8 := nextF_lt (hB.2.2.2.1 p hp).2.1 (fun _ h => draftF_lt h)
theorem hour_B {S : Rm} (hB : RmB S) : RmB (hourF S) := by
  obtain ⟨b1, b2, b3, b4, b5⟩ := id hB
  exact ⟨b1, b2, b3, fun i hi => ⟨(b4 i hi).1, vaneF_lt hB hi, (b4 i hi).2.2⟩, b5⟩
theorem put_B {S : Rm} (hB : RmB S) {p x y : Nat} (hx : x < rW S) (hy : y < rH S) : RmB (rPut S p x y) := by
  obtain ⟨b1, b2, b3, b4, b5⟩ := id hB
  refine ⟨b1, b2, b3, fun i hi => ⟨(b4 i hi).1, (b4 i hi).2.1, ?_, ?_⟩, b5⟩
  · show up1 (rX S) p x i < rW S
    unfold up1; split
    · exact hx
    · exact (b4 i hi).2.2.1
  · show up1 (rY S) p y i < rH S
    unfold up1; split
    · exact hy
    · exact (b4 i hi).2.2.2
theorem lean_B {S : Rm} (hB : RmB S) {a b : Nat} {l : Int} (h1 : -20 ≤ l) (h2 : l ≤ 20) : RmB (rLean S a b l) := by
  obtain ⟨b1, b2, b3, b4, b5⟩ := id hB
  refine ⟨b1, b2, b3, b4, fun i j => ?_⟩
  show -20 ≤ (if i = a ∧ j = b then l else rL S i j) ∧ (if i = a ∧ j = b then l else rL S i j) ≤ 20
  split
  · exact ⟨h1, h2⟩
  · exact b5 i j
def VRm (r : Nat) (S' : Rm) (h : VHp) (x : Option Value) : VPost := fun v h' => v = x ∧ RoomAt h' r S' ∧ VFr r (r + 6) h h'
theorem eO_none {o : Option Nat} (hlt : ∀ i, o = some i → i < 1000) : eO o = iI (-4) ↔ o = none := by
  cases o with
  | none => exact ⟨fun _ => rfl, fun _ => rfl⟩
  | some i =>
    refine ⟨fun h => ?_, fun h => by cases h⟩
    have := hlt i rfl
    rw [show eO (some i) = iI (i : Int) from (iI_nat i).symm] at h
    have := (iI_eq (by omega) (by omega) (by omega) (by omega)).mp h
    omega
theorem eO_some {o : Option Nat} (hlt : ∀ i, o = some i → i < 1000) {p : Nat} (hp : p < 1000) : eO o = nI p ↔ o = some p := by
  cases o with
  | none =>
    refine ⟨fun h => ?_, fun h => by cases h⟩
    rw [show eO none = iI (-4) from rfl, ← iI_nat] at h
    have := (iI_eq (by omega) (by omega) (by omega) (by omega)).mp h
    omega
  | some i =>
    have := hlt i rfl
    rw [show eO (some i) = nI i from rfl, nI_eq (by omega) (by omega)]
    exact ⟨fun h => by rw [h], fun h => by cases h; rfl⟩
abbrev tellF (S : Rm) (p q : Nat) : Prop := p ≠ q ∧ wayF ((rX S q : Int) - rX S p) ((rY S q : Int) - rY S p) = some (rV S p)
theorem lean_all {ll : List Int32} {L : Nat → Nat → Int} (h : ∀ i j, i < 6 → j < 6 → ll[6 * i + j]? = some (iI (L i j))) : ∀ i, i < 36 → ll[i]? = some (iI (L (i / 6) (i % 6))) := by
  intro i hi
  have := h (i / 6) (i % 6) (by omega) (by omega)
  rwa [show 6 * (i / 6) + i % 6 = i by omega] at this
abbrev actL (S : Rm) (d : Nat) : Int := ((d / 512 % 41 : Nat) : Int) - ((20 : Nat) : Int)
/-- what is done ahead of an hour of an evening -/
def actF (S : Rm) (d : Nat) : Rm :=
  if d % 8 < 4 then (if canF S (d / 8 % rN S) (d / 64 % 4) then rStep S (d / 8 % rN S) (d / 64 % 4) else S)
  else if d % 8 = 4 ∧ d / 64 % rN S ≠ d / 8 % rN S then rLean S (d / 8 % rN S) (d / 64 % rN S) (actL S d) else S
def rAlone (S : Rm) (p q n : Nat) : Rm := (rW S, rH S, rN S, rT S, rK S, rV S, rX S, rY S, fun i j => if i = p ∧ j < n then (if j = q then 1 else 0) else rL S i j)
theorem alone_B {S : Rm} (hB : RmB S) {p q n : Nat} : RmB (rAlone S p q n) := by
  obtain ⟨b1, b2, b3, b4, b5⟩ := id hB
  refine ⟨b1, b2, b3, b4, fun i j => ?_⟩
  show -20 ≤ (if i = p ∧ j < n then (if j = q then 1 else 0) else rL S i j) ∧ (if i = p ∧ j < n then (if j = q then (1 : Int) else 0) else rL S i j) ≤ 20
  have := b5 i j
  split
  · split <;> omega
  · exact this
theorem alone_step {S : Rm} {p q n : Nat} {l : Int} (hl : l = if n = q then 1 else 0) : rLean (rAlone S p q n) p n l = rAlone S p q (n + 1) := by
  unfold rLean rAlone
  congr
  funext i j
  show (if i = p ∧ j = n then l else if i = p ∧ j < n then (if j = q then 1 else 0) else rL S i j) = (if i = p ∧ j < n + 1 then (if j = q then 1 else 0) else rL S i j)
  by_cases h1 : i = p
  · by_cases h2 : j = n
    · subst h2; simp [h1, hl]
    · have : (j < n + 1) ↔ (j < n) := by omega
      simp [h1, h2, this]
  · simp [h1]
theorem alone_zero {S : Rm} {p q : Nat} : rAlone S p q 0 = S := by
  unfold rAlone
  simp
def rAdd (S : Rm) (k x y : Nat) : Rm := (rW S, rH S, rN S + 1, rT S, up1 (rK S) (rN S) k, up1 (rV S) (rN S) 0, up1 (rX S) (rN S) x, up1 (rY S) (rN S) y, rL S)
def rClear : Rm := (6, 6, 0, 0, fun _ => 0, fun _ => 0, fun _ => 0, fun _ => 0, fun _ _ => 0)
theorem mix_zero {S : Rm} : rSetV S (mixV S 0) (rT S) = S := by
  unfold rSetV
  have : mixV S 0 = rV S := by funext i; simp [mixV]
  rw [this]
theorem mix_B {S : Rm} (hB : RmB S) (p : Nat) : RmB (rSetV S (mixV S p) (rT S)) := by
  obtain ⟨b1, b2, b3, b4, b5⟩ := id hB
  refine ⟨b1, b2, b3, fun i hi => ⟨(b4 i hi).1, ?_, (b4 i hi).2.2⟩, b5⟩
  show mixV S p i < 8
  unfold mixV
  split
  · exact vaneF_lt hB hi
  · exact (b4 i hi).2.1
theorem mix_row {S : Rm} {p n : Nat} {vs : List Int32} (h : ∀ i, i < n → vs[i]? = some (nI (mixV S p i))) (hp : p < vs.length) : ∀ i, i < n → (vs.set p (nI (vaneF S p)))[i]? = some (nI (mixV S (p + 1) i)) := by
  intro i hi
  by_cases e : i = p
  · subst e
    rw [List.getElem?_set_self hp]
    unfold mixV
    rw [if_pos (by omega)]
  · rw [List.getElem?_set_ne (Ne.symm e), h i hi]
    unfold mixV
    by_cases h2 : i < p
    · rw [if_pos h2, if_pos (by omega)]
    · rw [if_neg h2, if_neg (by omega)]
theorem mix_end {S : Rm} {vs : List Int32} (h : ∀ i, i < rN S → vs[i]? = some (nI (mixV S (rN S) i))) : ∀ i, i < rN S → vs[i]? = some (nI (vaneF S i)) := by
  intro i hi
  rw [h i hi]
  unfold mixV
  rw [if_pos hi]
theorem draft_setV {S : Rm} {V : Nat → Nat} {t p : Nat} : draftF (rSetV S V t) p = draftF S p := draft_congr (S := rSetV S V t) (S' := S) rfl rfl rfl rfl p 63
theorem zero_set {ll : List Int32} {i : Nat} (hz : ∀ j, j < i → ll[j]? = some (nI 0)) (hi : i < ll.length) : ∀ j, j < i + 1 → (ll.set i (nI 0))[j]? = some (nI 0) := by
  intro j hj
  by_cases e : j = i
  · subst e; rw [List.getElem?_set_self hi]
  · rw [List.getElem?_set_ne (Ne.symm e)]; exact hz j (by omega)
