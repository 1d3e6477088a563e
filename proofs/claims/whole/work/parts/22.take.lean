def takeW (S : Rm) (vs : List Nat) : Option Rm := if 1 ≤ vs.getD 0 0 ∧ vs.getD 0 0 ≤ 9 ∧ 1 ≤ vs.getD 1 0 ∧ vs.getD 1 0 ≤ 9 then some (vs.getD 0 0, vs.getD 1 0, S.2.2) else none
def takeP (S : Rm) (vs : List Nat) : Option Rm := if rN S < 6 ∧ vs.getD 0 0 < 4 ∧ vs.getD 1 0 < rW S ∧ vs.getD 2 0 < rH S ∧ whoF S (vs.getD 1 0) (vs.getD 2 0) (rN S) = none then some (rAdd S (vs.getD 0 0) (vs.getD 1 0) (vs.getD 2 0)) else none
def takeL (S : Rm) (vs : List Nat) : Option Rm := if vs.getD 0 0 < rN S ∧ vs.getD 1 0 < rN S ∧ vs.getD 0 0 ≠ vs.getD 1 0 ∧ vs.getD 2 0 ≤ 1 ∧ vs.getD 3 0 ≤ 20 then some (rLean S (vs.getD 0 0) (vs.getD 1 0) (if vs.getD 2 0 = 0 then ((vs.getD 3 0 : Nat) : Int) else -((vs.getD 3 0 : Nat) : Int))) else none
def takeF (S : Rm) (c : Nat) (vs : List Nat) : Option Rm := if c = 114 then takeW S vs else if c = 112 then takeP S vs else if c = 108 then takeL S vs else none
def tk (o : Option Rm) : Nat := match o with
  | none => 0
  | some _ => 1
theorem tk_01 (o : Option Rm) : nI (tk o) = 0 ∨ nI (tk o) = 1 := by
  cases o with
  | none => exact Or.inl (by decide)
  | some _ => exact Or.inr (show nI 1 = 1 from by decide)
def TkPost (r : Nat) (S : Rm) (res : Option Rm) (h : VHp) : VPost := fun v h' => VFr r (r + 6) h h' ∧ v = some (.int (nI (tk res))) ∧ RoomAt h' r (res.getD S)
theorem TkPost.no {r : Nat} {S : Rm} {res : Option Rm} {h : VHp} (hR : RoomAt h r S) (e : res = none) : TkPost r S res h (some (.int (nI 0))) h := by
  subst e; exact ⟨VFr.rf, rfl, hR⟩
theorem TkPost.yes {r : Nat} {S S' : Rm} {res : Option Rm} {h h' : VHp} (hR : RoomAt h' r S') (e : res = some S') (f : VFr r (r + 6) h h') : TkPost r S res h (some (.int (nI 1))) h' := by
  subst e; exact ⟨f, rfl, hR⟩
/-- all of a text from a place on: the first fault, the room -/
def parseF (tx : List Nat) : Nat → Nat → Rm → Bool → Option Nat × Rm
  | 0, _, S, _ => (none, S)
  | f + 1, i, S, ro => if i < tx.length then
      match (if nOf (tx.getD i 0) = 0 then none else numsF tx (nOf (tx.getD i 0)) (i + 1)) with
      | none => (some i, S)
      | some w => if tx.getD i 0 = 114 ∧ ro = false then (some i, S) else
        match takeF S (tx.getD i 0) w.1 with
        | none => (some i, S)
        | some S' => parseF tx f w.2 S' (decide (tx.getD i 0 = 114))
    else (none, S)
theorem parse_end {tx : List Nat} {f i : Nat} {S : Rm} {ro : Bool} (h : ¬ i < tx.length) : parseF tx f i S ro = (none, S) := by
  cases f with
  | zero => rfl
  | succ f => simp only [parseF]; rw [if_neg h]
theorem parse_no1 {tx : List Nat} {f i : Nat} {S : Rm} {ro : Bool} (h : i < tx.length) (hn : (if nOf (tx.getD i 0) = 0 then none else numsF tx (nOf (tx.getD i 0)) (i + 1)) = none) : parseF tx (f + 1) i S ro = (some i, S) := by
  simp only [parseF]; rw [if_pos h, hn]
theorem parse_no2 {tx : List Nat} {f i : Nat} {S : Rm} {ro : Bool} {w : List Nat × Nat} (h : i < tx.length) (hn : (if nOf (tx.getD i 0) = 0 then none else numsF tx (nOf (tx.getD i 0)) (i + 1)) = some w) (hr : tx.getD i 0 = 114 ∧ ro = false) : parseF tx (f + 1) i S ro = (some i, S) := by
  simp only [parseF]; rw [if_pos h, hn]; simp only [hr]; simp
theorem parse_no3 {tx : List Nat} {f i : Nat} {S : Rm} {ro : Bool} {w : List Nat × Nat} (h : i < tx.length) (hn : (if nOf (tx.getD i 0) = 0 then none else numsF tx (nOf (tx.getD i 0)) (i + 1)) = some w) (ht : takeF S (tx.getD i 0) w.1 = none) : parseF tx (f + 1) i S ro = (some i, S) := by
  simp only [parseF]; rw [if_pos h, hn]; simp only [ht]; split <;> rfl
theorem parse_ok {tx : List Nat} {f i : Nat} {S S' : Rm} {ro : Bool} {w : List Nat × Nat} (h : i < tx.length) (hn : (if nOf (tx.getD i 0) = 0 then none else numsF tx (nOf (tx.getD i 0)) (i + 1)) = some w) (hr : ¬ (tx.getD i 0 = 114 ∧ ro = false)) (ht : takeF S (tx.getD i 0) w.1 = some S') : parseF tx (f + 1) i S ro = parseF tx f w.2 S' (decide (tx.getD i 0 = 114)) := by
  simp only [parseF]; rw [if_pos h, hn]; simp only [ht]; rw [if_neg hr]
theorem add_Ok {S : Rm} (hO : RmOk S) {k x y : Nat} (hn : rN S < 6) (hk : k < 4) (hx : x < rW S) (hy : y < rH S) (hw : whoF S x y (rN S) = none) : RmOk (rAdd S k x y) := by
  obtain ⟨⟨b1, b2, b3, b4, b5⟩, hD, hZ⟩ := hO
  refine ⟨⟨by show rN S + 1 ≤ 6; omega, b2, b3, fun i hi => ?_, b5⟩, fun i j hi hj e1 e2 => ?_, fun i j hij => ?_⟩
  · replace hi : i < rN S + 1 := hi
    show up1 (rK S) (rN S) k i < 4 ∧ up1 (rV S) (rN S) 0 i < 8 ∧ up1 (rX S) (rN S) x i < rW S ∧ up1 (rY S) (rN S) y i < rH S
    unfold up1
    by_cases e : i = rN S
    · simp only [e, if_true]; omega
    · simp only [if_neg e]; exact b4 i (by omega)
  · replace hi : i < rN S + 1 := hi
    replace hj : j < rN S + 1 := hj
    replace e1 : up1 (rX S) (rN S) x i = up1 (rX S) (rN S) x j := e1
    replace e2 : up1 (rY S) (rN S) y i = up1 (rY S) (rN S) y j := e2
    unfold up1 at e1 e2
    by_cases c1 : i = rN S <;> by_cases c2 : j = rN S
    · omega
    · rw [if_pos c1, if_neg c2] at e1 e2
      exact absurd ⟨e1.symm, e2.symm⟩ (whoF_none hw j (by omega))
    · rw [if_neg c1, if_pos c2] at e1 e2
      exact absurd ⟨e1, e2⟩ (whoF_none hw i (by omega))
    · rw [if_neg c1, if_neg c2] at e1 e2
      exact hD i j (by omega) (by omega) e1 e2
  · exact hZ i j (fun q => hij ⟨Nat.lt_succ_of_lt q.1, Nat.lt_succ_of_lt q.2⟩)
theorem lean_Ok {S : Rm} (hO : RmOk S) {a b : Nat} {l : Int} (ha : a < rN S) (hb : b < rN S) (h1 : -20 ≤ l) (h2 : l ≤ 20) : RmOk (rLean S a b l) := by
  refine ⟨lean_B hO.1 h1 h2, hO.2.1, fun i j hij => ?_⟩
  show (if i = a ∧ j = b then l else rL S i j) = 0
  rw [if_neg (fun q => hij (by rw [q.1, q.2]; exact ⟨ha, hb⟩))]
  exact hO.2.2 i j hij
theorem take_Ok {S S' : Rm} {c : Nat} {vs : List Nat} (hO : RmOk S) (hr : c = 114 → rN S = 0) (h : takeF S c vs = some S') : RmOk S' ∧ (c = 114 → rN S' = 0) := by
  unfold takeF at h
  split at h
  · next hc =>
    unfold takeW at h
    split at h
    · cases h
      have h0 := hr hc
      refine ⟨⟨⟨by show rN S ≤ 6; omega, by show 1 ≤ vs.getD 0 0 ∧ vs.getD 0 0 ≤ 9; omega, by show 1 ≤ vs.getD 1 0 ∧ vs.getD 1 0 ≤ 9; omega, fun i hi => ?_, hO.1.2.2.2.2⟩, hO.2.1, hO.2.2⟩, fun _ => h0⟩
      exact absurd (show i < rN S from hi) (by omega)
    · cases h
  · next hc =>
    split at h
    · unfold takeP at h
      split at h
      · next q => cases h; exact ⟨add_Ok hO q.1 q.2.1 q.2.2.1 q.2.2.2.1 q.2.2.2.2, fun z => absurd z hc⟩
      · cases h
    · split at h
      · unfold takeL at h
        split at h
        · next q => cases h; exact ⟨lean_Ok hO q.1 q.2.1 (by split <;> omega) (by split <;> omega), fun z => absurd z hc⟩
        · cases h
      · cases h
theorem clear_Ok : RmOk rClear := ⟨⟨by decide, by decide, by decide, fun i hi => absurd hi (Nat.not_lt_zero _), fun _ _ => (show (-20 : Int) ≤ 0 ∧ (0 : Int) ≤ 20 from by decide)⟩, fun i j hi => absurd hi (Nat.not_lt_zero _), fun _ _ _ => rfl⟩
theorem VFr.to2l {lo hi lo' hi' : Nat} {a b : VHp} (f : VFr lo hi a b) : VFr2 lo hi lo' hi' a b := ⟨f.1, fun q h1 _ => f.2 q h1⟩
theorem VFr.to2r {lo hi lo' hi' : Nat} {a b : VHp} (f : VFr lo' hi' a b) : VFr2 lo hi lo' hi' a b := ⟨f.1, fun q _ h2 => f.2 q h2⟩
theorem VFr2.tr {lo hi lo' hi' : Nat} {a b c : VHp} (h1 : VFr2 lo hi lo' hi' a b) (h2 : VFr2 lo hi lo' hi' b c) : VFr2 lo hi lo' hi' a c := ⟨h2.1.trans h1.1, fun q q1 q2 => (h2.2 q q1 q2).trans (h1.2 q q1 q2)⟩
theorem TextAt.keep2 {h h' : VHp} {t lo hi lo' hi' : Nat} {tx : List Nat} (w : TextAt h t tx) (f : VFr2 lo hi lo' hi' h h') (hd : t + 2 ≤ lo ∨ hi ≤ t) (hd' : t + 2 ≤ lo' ∨ hi' ≤ t) : TextAt h' t tx := by
  obtain ⟨lt, h0, h1, rest⟩ := w
  exact ⟨lt, by rw [f.2 _ (by omega) (by omega)]; exact h0, by rw [f.2 _ (by omega) (by omega)]; exact h1, rest⟩
theorem tk_le (o : Option Rm) : tk o ≤ 1 := by
  cases o with
  | none => exact Nat.zero_le 1
  | some _ => exact Nat.le_refl 1
theorem tk_ne {o : Option Rm} (h : tk o ≠ 0) : ∃ S, o = some S := by
  cases o with
  | none => exact absurd rfl h
  | some S => exact ⟨S, rfl⟩
theorem tk_eq {o : Option Rm} (h : tk o = 0) : o = none := by
  cases o with
  | none => rfl
  | some S => exact absurd h (by show ¬ (1 : Nat) = 0; omega)
def RiPost (q r : Nat) (res : Option Nat × Rm) (h : VHp) : VPost := fun v h' => VFr2 q (q + 2) r (r + 6) h h' ∧ (∃ nm, ReaderAt h' q nm) ∧ v = some (.int (eO res.1)) ∧ RoomAt h' r res.2
theorem numsW_bd {tx : List Nat} (hK : TxOk tx) {c i : Nat} {w : List Nat × Nat} (h : (if nOf c = 0 then none else numsF tx (nOf c) i) = some w) : i ≤ w.2 ∧ w.2 ≤ i + 12 ∧ (∀ k, k < nOf c → w.1.getD k 0 ≤ 99) ∧ w.1.length = nOf c := by
  split at h
  · cases h
  · have := numsF_bd hK (vs := w.1) (e := w.2) h
    have h4 : nOf c ≤ 4 := by unfold nOf; repeat' split
                              all_goals omega
    exact ⟨this.2.1, by omega, this.2.2.2, this.1⟩
theorem nOf_le (c : Nat) : nOf c ≤ 4 := by
  unfold nOf; repeat' split
  all_goals omega
