/-! THE WHOLE: text, room, past (latest first), kept (in order), notes -/
abbrev Sy : Type := List Nat × Rm × List Rm × List Rm × List Nt
abbrev tT (T : Sy) : List Nat := T.1
abbrev tS (T : Sy) : Rm := T.2.1
abbrev tP (T : Sy) : List Rm := T.2.2.1
abbrev tK (T : Sy) : List Rm := T.2.2.2.1
abbrev tN (T : Sy) : List Nt := T.2.2.2.2
/-- rooms of one laying -/
def Kin (S P : Rm) : Prop := RmOk P ∧ rW P = rW S ∧ rH P = rH S ∧ rN P = rN S ∧ rK P = rK S
def SyOk (T : Sy) : Prop := TxOk (tT T) ∧ RmOk (tS T) ∧ 1 ≤ rN (tS T) ∧ (tP T).length ≤ 8 ∧ (tK T).length ≤ 2 ∧ NtOk (tN T) ∧ (∀ P, P ∈ tP T → Kin (tS T) P) ∧ ∀ P, P ∈ tK T → Kin (tS T) P
def SearchAt (h : VHp) (s : Nat) : Prop := ∃ (f c b d r : List Int32) (x : Int32), h[s]? = some (.inr (.inr (4, [.ref (s + 1), .ref (s + 2), .ref (s + 3), .ref (s + 4), .ref (s + 5), .int x]))) ∧ h[s + 1]? = some (.inl f) ∧ h[s + 2]? = some (.inl c) ∧ h[s + 3]? = some (.inl b) ∧ h[s + 4]? = some (.inl d) ∧ h[s + 5]? = some (.inl r) ∧ f.length = 81 ∧ c.length = 81 ∧ b.length = 81 ∧ d.length = 81 ∧ r.length = 81
def CouplesAt (h : VHp) (s : Nat) : Prop := ∃ m : List Int32, h[s]? = some (.inr (.inr (0, [.ref (s + 1)]))) ∧ h[s + 1]? = some (.inl m) ∧ m.length = 6
def KeptAt (h : VHp) (k : Nat) (ks : List Rm) : Prop := h[k]? = some (.inr (.inl [some (k + 1), some (k + 7)])) ∧ ks.length ≤ 2 ∧ (∀ i, i < 2 → ∃ Q, RoomAt h (k + 1 + 6 * i) Q) ∧ ∀ i, i < ks.length → RoomAt h (k + 1 + 6 * i) (ks.getD i rClear)
theorem SearchAt.keep {h h' : VHp} {s lo hi : Nat} (w : SearchAt h s) (f : VFr lo hi h h') (hd : s + 6 ≤ lo ∨ hi ≤ s) : SearchAt h' s := by
  obtain ⟨a, b, c, d, e, x, h0, h1, h2, h3, h4, h5, rest⟩ := w
  exact ⟨a, b, c, d, e, x, by rw [f.2 _ (by omega)]; exact h0, by rw [f.2 _ (by omega)]; exact h1, by rw [f.2 _ (by omega)]; exact h2, by rw [f.2 _ (by omega)]; exact h3, by rw [f.2 _ (by omega)]; exact h4, by rw [f.2 _ (by omega)]; exact h5, rest⟩
theorem CouplesAt.keep {h h' : VHp} {s lo hi : Nat} (w : CouplesAt h s) (f : VFr lo hi h h') (hd : s + 2 ≤ lo ∨ hi ≤ s) : CouplesAt h' s := by
  obtain ⟨a, h0, h1, rest⟩ := w
  exact ⟨a, by rw [f.2 _ (by omega)]; exact h0, by rw [f.2 _ (by omega)]; exact h1, rest⟩
theorem KeptAt.keep {h h' : VHp} {k lo hi : Nat} {ks : List Rm} (w : KeptAt h k ks) (f : VFr lo hi h h') (hd : k + 13 ≤ lo ∨ hi ≤ k) : KeptAt h' k ks := by
  obtain ⟨h0, h1, h2, h3⟩ := w
  exact ⟨by rw [f.2 _ (by omega)]; exact h0, h1, fun i hi => (h2 i hi).imp (fun Q q => q.keep f (by omega)), fun i hi => (h3 i hi).keep f (by omega)⟩
def CAt (h : VHp) (c : Nat) (T : Sy) : Prop :=
  h[c]? = some (.inr (.inr (7, [.ref (c + 1), .ref (c + 3), .ref (c + 5), .ref (c + 11), .ref (c + 17), .ref (c + 67), .ref (c + 71), .ref (c + 77), .ref (c + 79), .int (nI (tK T).length)]))) ∧
  TextAt h (c + 1) (tT T) ∧ (∃ nm, ReaderAt h (c + 3) nm) ∧ RoomAt h (c + 5) (tS T) ∧ (∃ Q, RoomAt h (c + 11) Q) ∧ PastAt h (c + 17) (tP T) ∧ SightsAt h (c + 67) (tN T) ∧ SearchAt h (c + 71) ∧ CouplesAt h (c + 77) ∧ KeptAt h (c + 79) (tK T)
/-- a public method's end -/
def CP (c : Nat) (x : Int32) (T : Sy) (h : VHp) : VPost := fun v h' => v = some (.int x) ∧ CAt h' c T ∧ VFr c (c + 92) h h'
section CAtKeep
variable {h h' : VHp} {c : Nat} {T : Sy}
theorem CAt.text (w : CAt h c T) {tx : List Nat} (f : VFr (c + 1) (c + 3) h h') (q : TextAt h' (c + 1) tx) : CAt h' c (tx, T.2) := by
  obtain ⟨h0, h1, ⟨nm, h2⟩, h3, ⟨Q, h4⟩, h5, h6, h7, h8, h9⟩ := w
  exact ⟨by rw [f.2 _ (by omega)]; exact h0, q, ⟨nm, h2.keep f (by omega)⟩, h3.keep f (by omega), ⟨Q, h4.keep f (by omega)⟩, h5.keep f (by omega), h6.keep f (by omega), h7.keep f (by omega), h8.keep f (by omega), h9.keep f (by omega)⟩
theorem CAt.room (w : CAt h c T) {S : Rm} (f : VFr (c + 5) (c + 5 + 6) h h') (q : RoomAt h' (c + 5) S) : CAt h' c (tT T, S, T.2.2) := by
  obtain ⟨h0, h1, ⟨nm, h2⟩, h3, ⟨Q, h4⟩, h5, h6, h7, h8, h9⟩ := w
  exact ⟨by rw [f.2 _ (by omega)]; exact h0, h1.keep f (by omega), ⟨nm, h2.keep f (by omega)⟩, q, ⟨Q, h4.keep f (by omega)⟩, h5.keep f (by omega), h6.keep f (by omega), h7.keep f (by omega), h8.keep f (by omega), h9.keep f (by omega)⟩
theorem CAt.trial (w : CAt h c T) {Q : Rm} (f : VFr (c + 11) (c + 11 + 6) h h') (q : RoomAt h' (c + 11) Q) : CAt h' c T := by
  obtain ⟨h0, h1, ⟨nm, h2⟩, h3, -, h5, h6, h7, h8, h9⟩ := w
  exact ⟨by rw [f.2 _ (by omega)]; exact h0, h1.keep f (by omega), ⟨nm, h2.keep f (by omega)⟩, h3.keep f (by omega), ⟨Q, q⟩, h5.keep f (by omega), h6.keep f (by omega), h7.keep f (by omega), h8.keep f (by omega), h9.keep f (by omega)⟩
theorem CAt.past (w : CAt h c T) {ps : List Rm} (f : VFr (c + 17) (c + 17 + 50) h h') (q : PastAt h' (c + 17) ps) : CAt h' c (tT T, tS T, ps, T.2.2.2) := by
  obtain ⟨h0, h1, ⟨nm, h2⟩, h3, ⟨Q, h4⟩, h5, h6, h7, h8, h9⟩ := w
  exact ⟨by rw [f.2 _ (by omega)]; exact h0, h1.keep f (by omega), ⟨nm, h2.keep f (by omega)⟩, h3.keep f (by omega), ⟨Q, h4.keep f (by omega)⟩, q, h6.keep f (by omega), h7.keep f (by omega), h8.keep f (by omega), h9.keep f (by omega)⟩
theorem CAt.sights (w : CAt h c T) {ns : List Nt} (f : VFr (c + 67) (c + 67 + 4) h h') (q : SightsAt h' (c + 67) ns) : CAt h' c (tT T, tS T, tP T, tK T, ns) := by
  obtain ⟨h0, h1, ⟨nm, h2⟩, h3, ⟨Q, h4⟩, h5, h6, h7, h8, h9⟩ := w
  exact ⟨by rw [f.2 _ (by omega)]; exact h0, h1.keep f (by omega), ⟨nm, h2.keep f (by omega)⟩, h3.keep f (by omega), ⟨Q, h4.keep f (by omega)⟩, h5.keep f (by omega), q, h7.keep f (by omega), h8.keep f (by omega), h9.keep f (by omega)⟩
theorem CAt.search (w : CAt h c T) (f : VFr (c + 71) (c + 71 + 6) h h') (q : SearchAt h' (c + 71)) : CAt h' c T := by
  obtain ⟨h0, h1, ⟨nm, h2⟩, h3, ⟨Q, h4⟩, h5, h6, h7, h8, h9⟩ := w
  exact ⟨by rw [f.2 _ (by omega)]; exact h0, h1.keep f (by omega), ⟨nm, h2.keep f (by omega)⟩, h3.keep f (by omega), ⟨Q, h4.keep f (by omega)⟩, h5.keep f (by omega), h6.keep f (by omega), q, h8.keep f (by omega), h9.keep f (by omega)⟩
theorem CAt.couples (w : CAt h c T) (f : VFr (c + 77) (c + 77 + 2) h h') (q : CouplesAt h' (c + 77)) : CAt h' c T := by
  obtain ⟨h0, h1, ⟨nm, h2⟩, h3, ⟨Q, h4⟩, h5, h6, h7, h8, h9⟩ := w
  exact ⟨by rw [f.2 _ (by omega)]; exact h0, h1.keep f (by omega), ⟨nm, h2.keep f (by omega)⟩, h3.keep f (by omega), ⟨Q, h4.keep f (by omega)⟩, h5.keep f (by omega), h6.keep f (by omega), h7.keep f (by omega), q, h9.keep f (by omega)⟩
/-- reader and trial changed -/
theorem CAt.read (w : CAt h c T) {Q : Rm} (f : VFr2 (c + 3) (c + 3 + 2) (c + 11) (c + 11 + 6) h h') (q : RoomAt h' (c + 11) Q) (q2 : ∃ nm, ReaderAt h' (c + 3) nm) : CAt h' c T := by
  obtain ⟨h0, h1, -, h3, -, h5, h6, h7, h8, h9⟩ := w
  have g1 : VFr (c + 3) (c + 17) h h' := ⟨f.1, fun q hq => f.2 q (by omega) (by omega)⟩
  refine ⟨by rw [g1.2 _ (by omega)]; exact h0, h1.keep g1 (by omega), q2, ?_, ⟨Q, q⟩, h5.keep g1 (by omega), h6.keep g1 (by omega), h7.keep g1 (by omega), h8.keep g1 (by omega), h9.keep g1 (by omega)⟩
  obtain ⟨kd, xs, ys, vs, ll, a0, a1, a2, a3, a4, a5, rest⟩ := h3
  exact ⟨kd, xs, ys, vs, ll, by rw [f.2 _ (by omega) (by omega)]; exact a0, by rw [f.2 _ (by omega) (by omega)]; exact a1, by rw [f.2 _ (by omega) (by omega)]; exact a2, by rw [f.2 _ (by omega) (by omega)]; exact a3, by rw [f.2 _ (by omega) (by omega)]; exact a4, by rw [f.2 _ (by omega) (by omega)]; exact a5, rest⟩
end CAtKeep
/-! what calls answer, and what is then -/
def a_write (T : Sy) (z : Int) : Int32 := if 32 ≤ z ∧ z ≤ 126 then (if (tT T).length < 200 then nI ((tT T).length + 1) else iI (-3)) else iI (-1)
def n_write (T : Sy) (z : Int) : Sy := if (32 ≤ z ∧ z ≤ 126) ∧ (tT T).length < 200 then (tT T ++ [z.toNat], T.2) else T
abbrev isP (T : Sy) (p : Int) : Prop := 0 ≤ p ∧ p < ((rN (tS T) : Nat) : Int)
def a_person (T : Sy) (p w : Int) : Int32 := if isP T p then
    (if w = 0 then nI (rK (tS T) p.toNat) else if w = 1 then nI (rX (tS T) p.toNat) else if w = 2 then nI (rY (tS T) p.toNat) else if w = 3 then nI (rV (tS T) p.toNat) else if w = 4 then eO (draftF (tS T) p.toNat)
     else if w = 5 then iI (feltE (tS T) p.toNat 63 (rN (tS T)) + ((10000 : Nat) : Int)) else if w = 6 then iI (feltS (tS T) p.toNat 63 (rN (tS T)) + ((10000 : Nat) : Int)) else iI (-1)) else iI (-1)
abbrev is2 (T : Sy) (a b : Int) : Prop := isP T a ∧ isP T b ∧ a ≠ b
def a_leaning (T : Sy) (a b : Int) : Int32 := if is2 T a b then iI (rL (tS T) a.toNat b.toNat + ((20 : Nat) : Int)) else iI (-1)
def a_place (T : Sy) (x y : Int) : Int32 := if inF (tS T) x y then eO (whoF (tS T) x.toNat y.toNat (rN (tS T))) else iI (-1)
def hoursF (S : Rm) : Nat → Rm
  | 0 => S
  | n + 1 => hourF (hoursF S n)
def rem (T : Sy) : List Rm := (tS T :: tP T).take 8
def a_pass (T : Sy) (n : Int) : Int32 := if 1 ≤ n ∧ n ≤ 24 then nI (rT (hoursF (tS T) n.toNat)) else iI (-1)
def n_pass (T : Sy) (n : Int) : Sy := if 1 ≤ n ∧ n ≤ 24 then (tT T, hoursF (tS T) n.toNat, rem T, T.2.2.2) else T
def a_walk (T : Sy) (p s : Int) : Int32 := if isP T p ∧ 0 ≤ s ∧ s < ((4 : Nat) : Int) then (if canF (tS T) p.toNat s.toNat then nI (10 * (sxF (tS T) p.toNat s.toNat).toNat + (syF (tS T) p.toNat s.toNat).toNat) else iI (-2)) else iI (-1)
def n_walk (T : Sy) (p s : Int) : Sy := if (isP T p ∧ 0 ≤ s ∧ s < ((4 : Nat) : Int)) ∧ canF (tS T) p.toNat s.toNat then (tT T, rStep (tS T) p.toNat s.toNat, rem T, T.2.2.2) else T
def a_lean (T : Sy) (a b l : Int) : Int32 := if is2 T a b ∧ -20 ≤ l ∧ l ≤ 20 then iI (rL (tS T) a.toNat b.toNat + ((20 : Nat) : Int)) else iI (-1)
def n_lean (T : Sy) (a b l : Int) : Sy := if is2 T a b ∧ -20 ≤ l ∧ l ≤ 20 then (tT T, rLean (tS T) a.toNat b.toNat l, rem T, T.2.2.2) else T
def a_undo (T : Sy) : Int32 := if 1 ≤ (tP T).length then nI ((tP T).length - 1) else iI (-2)
def n_undo (T : Sy) : Sy := if 1 ≤ (tP T).length then (tT T, (tP T).getD 0 rClear, (tP T).tail, T.2.2.2) else T
def readF (tx : List Nat) : Option Nat × Rm := parseF tx 200 0 rClear true
def a_lay (T : Sy) : Int32 := if (readF (tT T)).1 = none ∧ 1 ≤ rN (readF (tT T)).2 then nI (rN (readF (tT T)).2) else iI (-2)
def n_lay (T : Sy) : Sy := if (readF (tT T)).1 = none ∧ 1 ≤ rN (readF (tT T)).2 then (tT T, (readF (tT T)).2, [], [], []) else T
def a_keep (T : Sy) : Int32 := if (tK T).length < 2 then nI ((tK T).length + 1) else iI (-3)
def n_keep (T : Sy) : Sy := if (tK T).length < 2 then (tT T, tS T, tP T, tK T ++ [tS T], tN T) else T
def a_back (T : Sy) : Int32 := if 1 ≤ (tK T).length then nI ((tK T).length - 1) else iI (-2)
def n_back (T : Sy) : Sy := if 1 ≤ (tK T).length then (tT T, (tK T).getD ((tK T).length - 1) rClear, [], (tK T).dropLast, tN T) else T
theorem parse_res {tx : List Nat} (hK : TxOk tx) : ∀ f i S ro, RmOk S → (ro = true → rN S = 0) → RmOk (parseF tx f i S ro).2 ∧ ∀ e, (parseF tx f i S ro).1 = some e → e < 200
  | 0, i, S, ro, hO, _ => ⟨hO, fun e h => by cases h⟩
  | f + 1, i, S, ro, hO, hr => by
    by_cases hl : i < tx.length
    · cases hn : (if nOf (tx.getD i 0) = 0 then none else numsF tx (nOf (tx.getD i 0)) (i + 1)) with
      | none => rw [parse_no1 hl hn]; exact ⟨hO, fun e h => by cases h; have := hK.1; omega⟩
      | some w =>
        by_cases h2 : tx.getD i 0 = 114 ∧ ro = false
        · rw [parse_no2 hl hn h2]; exact ⟨hO, fun e h => by cases h; have := hK.1; omega⟩
        · cases ht : takeF S (tx.getD i 0) w.1 with
          | none => rw [parse_no3 hl hn ht]; exact ⟨hO, fun e h => by cases h; have := hK.1; omega⟩
          | some S' =>
            rw [parse_ok hl hn h2 ht]
            have := take_Ok hO (fun z => hr (by cases ro with
              | true => rfl
              | false => exact absurd ⟨z, rfl⟩ h2)) ht
            exact parse_res hK f w.2 S' _ this.1 (fun z => this.2 (of_decide_eq_true z))
    · rw [parse_end hl]; exact ⟨hO, fun e h => by cases h⟩
theorem read_res {tx : List Nat} (hK : TxOk tx) : RmOk (readF tx).2 ∧ ∀ e, (readF tx).1 = some e → e < 1000 := by
  have := parse_res hK 200 0 rClear true clear_Ok (fun _ => rfl)
  exact ⟨this.1, fun e h => by have := this.2 e h; omega⟩
theorem CAt.undo {h h' : VHp} {c : Nat} {T : Sy} (w : CAt h c T) {S : Rm} {ps : List Rm} (f : VFr2 (c + 17) (c + 17 + 50) (c + 5) (c + 5 + 6) h h') (q : RoomAt h' (c + 5) S) (q2 : PastAt h' (c + 17) ps) : CAt h' c (tT T, S, ps, T.2.2.2) := by
  obtain ⟨h0, h1, ⟨nm, h2⟩, h3, ⟨Q, h4⟩, h5, h6, h7, h8, h9⟩ := w
  have g1 : VFr (c + 5) (c + 67) h h' := ⟨f.1, fun q hq => f.2 q (by omega) (by omega)⟩
  refine ⟨by rw [g1.2 _ (by omega)]; exact h0, h1.keep g1 (by omega), ⟨nm, h2.keep g1 (by omega)⟩, q, ⟨Q, ?_⟩, q2, h6.keep g1 (by omega), h7.keep g1 (by omega), h8.keep g1 (by omega), h9.keep g1 (by omega)⟩
  obtain ⟨kd, xs, ys, vs, ll, a0, a1, a2, a3, a4, a5, rest⟩ := h4
  exact ⟨kd, xs, ys, vs, ll, by rw [f.2 _ (by omega) (by omega)]; exact a0, by rw [f.2 _ (by omega) (by omega)]; exact a1, by rw [f.2 _ (by omega) (by omega)]; exact a2, by rw [f.2 _ (by omega) (by omega)]; exact a3, by rw [f.2 _ (by omega) (by omega)]; exact a4, by rw [f.2 _ (by omega) (by omega)]; exact a5, rest⟩
/-- another number of kept rooms -/
theorem CAt.count {h : VHp} {c : Nat} {T : Sy} (w : CAt h c T) {ks : List Rm} (hl : ks.length ≤ 2) (hk : ∀ i, i < ks.length → RoomAt h (c + 79 + 1 + 6 * i) (ks.getD i rClear)) : CAt (h.set c (.inr (.inr (7, [.ref (c + 1), .ref (c + 3), .ref (c + 5), .ref (c + 11), .ref (c + 17), .ref (c + 67), .ref (c + 71), .ref (c + 77), .ref (c + 79), .int (nI ks.length)])))) c (tT T, tS T, tP T, ks, tN T) := by
  obtain ⟨h0, h1, ⟨nm, h2⟩, h3, ⟨Q, h4⟩, h5, h6, h7, h8, h9⟩ := w
  have f := VFr.set (h := h) (lo := c) (hi := c + 1) (a := c) (c := .inr (.inr (7, [.ref (c + 1), .ref (c + 3), .ref (c + 5), .ref (c + 11), .ref (c + 17), .ref (c + 67), .ref (c + 71), .ref (c + 77), .ref (c + 79), .int (nI ks.length)]))) (Nat.le_refl _) (by omega)
  have h9' := h9.keep f (by omega)
  exact ⟨vset_eq h0, h1.keep f (by omega), ⟨nm, h2.keep f (by omega)⟩, h3.keep f (by omega), ⟨Q, h4.keep f (by omega)⟩, h5.keep f (by omega), h6.keep f (by omega), h7.keep f (by omega), h8.keep f (by omega), ⟨h9'.1, hl, h9'.2.2.1, fun i hi => (hk i hi).keep f (by omega)⟩⟩
