/-! THE CLASS'S CONSTRUCTOR -/
def vokvB (n : Nat) : Value → Bool
  | .ref q => decide (q < n)
  | _ => true
def vokcB (n : Nat) : VC → Bool
  | .inl _ => true
  | .inr (.inl rs) => rs.all (fun o => match o with
    | none => true
    | some q => decide (q < n))
  | .inr (.inr o) => o.2.all (vokvB n)
theorem vokvB_ok {n : Nat} {v : Value} (h : vokvB n v = true) : vokv n v := by
  cases v with
  | ref q => exact Or.inl (of_decide_eq_true h)
  | _ => trivial
theorem vwfB {n : Nat} {h : VHp} (hh : h.all (vokcB n) = true) : vwf n h := by
  intro c hc
  have z := List.all_eq_true.mp hh c hc
  match c, z with
  | .inl _, _ => trivial
  | .inr (.inl rs), z =>
    intro q hq
    exact of_decide_eq_true (List.all_eq_true.mp z (some q) hq)
  | .inr (.inr o), z => exact fun v hv => vokvB_ok (List.all_eq_true.mp z v hv)
def txt0 : List Nat := [114, 55, 44, 54, 59, 112, 48, 44, 48, 44, 48, 59, 112, 49, 44, 54, 44, 53, 59, 112, 50, 44, 51, 44, 50, 59, 112, 51, 44, 53, 44, 49, 59, 112, 48, 44, 49, 44, 52, 59, 112, 48, 44, 52, 44, 52, 59, 108, 48, 44, 49, 44, 48, 44, 53, 59, 108, 48, 44, 50, 44, 49, 44, 50, 59, 108, 49, 44, 48, 44, 48, 44, 57, 59, 108, 49, 44, 52, 44, 48, 44, 51, 59, 108, 50, 44, 51, 44, 48, 44, 55, 59, 108, 51, 44, 50, 44, 48, 44, 52, 59, 108, 51, 44, 53, 44, 49, 44, 54, 59, 108, 52, 44, 53, 44, 48, 44, 56, 59, 108, 53, 44, 52, 44, 48, 44, 50, 59, 108, 53, 44, 48, 44, 48, 44, 57, 59]
def rm_0 : Rm := (7, 6, rClear.2.2)
def rm_1 : Rm := rAdd rm_0 0 0 0
def rm_2 : Rm := rAdd rm_1 1 6 5
def rm_3 : Rm := rAdd rm_2 2 3 2
def rm_4 : Rm := rAdd rm_3 3 5 1
def rm_5 : Rm := rAdd rm_4 0 1 4
def rm_6 : Rm := rAdd rm_5 0 4 4
def rm_7 : Rm := rLean rm_6 0 1 (5)
def rm_8 : Rm := rLean rm_7 0 2 (-2)
def rm_9 : Rm := rLean rm_8 1 0 (9)
def rm_10 : Rm := rLean rm_9 1 4 (3)
def rm_11 : Rm := rLean rm_10 2 3 (7)
def rm_12 : Rm := rLean rm_11 3 2 (4)
def rm_13 : Rm := rLean rm_12 3 5 (-6)
def rm_14 : Rm := rLean rm_13 4 5 (8)
def rm_15 : Rm := rLean rm_14 5 4 (2)
def rm_16 : Rm := rLean rm_15 5 0 (9)
def S0 : Rm := rm_16
theorem txt0_len : txt0.length = 137 := by decide +kernel
theorem vtb_160 : vtb.length = 137 := by decide +kernel
theorem txt0_at : ∀ j, j < 137 → vtb.getD j 0 = nI (txt0.getD j 0) := by decide +kernel
theorem txt0_bd : ∀ j, j < 137 → 32 ≤ txt0.getD j 0 ∧ txt0.getD j 0 ≤ 126 := by decide +kernel
theorem txt0_ok : TxOk txt0 := ⟨by rw [txt0_len]; decide, fun i hi => txt0_bd i (by rw [txt0_len] at hi; exact hi)⟩
theorem take_next : ∀ {l : List Nat} {i : Nat}, i < l.length → l.take (i + 1) = l.take i ++ [l.getD i 0]
  | [], i, h => absurd h (Nat.not_lt_zero _)
  | a :: l, 0, _ => rfl
  | a :: l, i + 1, h => by
    show a :: l.take (i + 1) = a :: (l.take i ++ [l.getD i 0])
    rw [take_next (Nat.lt_of_succ_lt_succ h)]
theorem room_new {h : VHp} {r : Nat} (h0 : h[r]? = (roomC r)[0]?) (h1 : h[r + 1]? = some (.inl (List.replicate 6 0))) (h2 : h[r + 2]? = some (.inl (List.replicate 6 0))) (h3 : h[r + 3]? = some (.inl (List.replicate 6 0))) (h4 : h[r + 4]? = some (.inl (List.replicate 6 0))) (h5 : h[r + 5]? = some (.inl (List.replicate 36 0))) : RoomAt h r rClear :=
  ⟨_, _, _, _, _, h0, h1, h2, h3, h4, h5, rfl, rfl, rfl, rfl, rfl, fun i hi => absurd hi (Nat.not_lt_zero _), fun i hi => absurd hi (Nat.not_lt_zero _), fun i hi => absurd hi (Nat.not_lt_zero _), fun i hi => absurd hi (Nat.not_lt_zero _), fun i j hi hj => by rw [List.getElem?_replicate, if_pos (by omega)]; rfl⟩

def heap0 : VHp := (Sum.inr (Sum.inr (7, [.ref 1, .ref 3, .ref 5, .ref 11, .ref 17, .ref 67, .ref 71, .ref 77, .ref 79, .int (nI 0)])) : VC) :: ((textC 1 ++ readerC 3 ++ roomC 5 ++ roomC 11 ++ pastC 17 ++ sightsC 67 ++ searchC 71 ++ couplesC 77) ++ .inr (.inl (refsI 80 2 2)) :: roomsI 80 2)
theorem heap0_len : heap0.length = 92 := by decide +kernel
set_option maxRecDepth 20000 in
theorem cat0 : CAt heap0 0 ([], rClear, [], [], []) := by
  refine ⟨rfl, ⟨_, rfl, rfl, rfl, Nat.zero_le _, fun i hi => absurd hi (Nat.not_lt_zero _)⟩, ⟨_, rfl, rfl, rfl⟩, room_new rfl rfl rfl rfl rfl rfl, ⟨_, room_new rfl rfl rfl rfl rfl rfl⟩, ⟨0, by decide, Nat.zero_le _, rfl, rfl, fun i hi => ?_, fun j hj => absurd hj (Nat.not_lt_zero _)⟩, ⟨_, _, _, rfl, rfl, rfl, rfl, rfl, rfl, rfl, Nat.zero_le _, fun i hi => absurd hi (Nat.not_lt_zero _), fun i hi => absurd hi (Nat.not_lt_zero _), fun i hi => absurd hi (Nat.not_lt_zero _)⟩, ⟨_, _, _, _, _, _, rfl, rfl, rfl, rfl, rfl, rfl, rfl, rfl, rfl, rfl, rfl⟩, ⟨_, rfl, rfl, rfl⟩, rfl, Nat.zero_le _, fun i hi => ?_, fun i hi => absurd hi (Nat.not_lt_zero _)⟩
  · rcases (show i = 0 ∨ i = 1 ∨ i = 2 ∨ i = 3 ∨ i = 4 ∨ i = 5 ∨ i = 6 ∨ i = 7 by omega) with q | q | q | q | q | q | q | q <;> subst q <;> exact ⟨rClear, room_new rfl rfl rfl rfl rfl rfl⟩
  · rcases (show i = 0 ∨ i = 1 by omega) with q | q <;> subst q <;> exact ⟨rClear, room_new rfl rfl rfl rfl rfl rfl⟩
theorem rd_0 : parseF txt0 200 0 rClear true = parseF txt0 199 5 rm_0 true := by
  have h1 : (if nOf (txt0.getD 0 0) = 0 then none else numsF txt0 (nOf (txt0.getD 0 0)) (0 + 1)) = some ([7, 6], 5) := by decide +kernel
  have h2 : takeF rClear (txt0.getD 0 0) [7, 6] = some rm_0 := by
    rw [show txt0.getD 0 0 = 114 by decide +kernel]
    show takeW rClear [7, 6] = some rm_0
    unfold takeW
    rw [if_pos (by decide +kernel)]
    rfl
  have h3 := parse_ok (f := 199) (ro := true) (by decide +kernel) h1 (by decide +kernel) h2
  rw [show decide (txt0.getD 0 0 = 114) = true by decide +kernel] at h3
  exact h3
theorem rd_1 : parseF txt0 199 5 rm_0 true = parseF txt0 198 12 rm_1 false := by
  have h1 : (if nOf (txt0.getD 5 0) = 0 then none else numsF txt0 (nOf (txt0.getD 5 0)) (5 + 1)) = some ([0, 0, 0], 12) := by decide +kernel
  have h2 : takeF rm_0 (txt0.getD 5 0) [0, 0, 0] = some rm_1 := by
    rw [show txt0.getD 5 0 = 112 by decide +kernel]
    show takeP rm_0 [0, 0, 0] = some rm_1
    unfold takeP
    rw [if_pos (by decide +kernel)]
    rfl
  have h3 := parse_ok (f := 198) (ro := true) (by decide +kernel) h1 (by decide +kernel) h2
  rw [show decide (txt0.getD 5 0 = 114) = false by decide +kernel] at h3
  exact h3
theorem rd_2 : parseF txt0 198 12 rm_1 false = parseF txt0 197 19 rm_2 false := by
  have h1 : (if nOf (txt0.getD 12 0) = 0 then none else numsF txt0 (nOf (txt0.getD 12 0)) (12 + 1)) = some ([1, 6, 5], 19) := by decide +kernel
  have h2 : takeF rm_1 (txt0.getD 12 0) [1, 6, 5] = some rm_2 := by
    rw [show txt0.getD 12 0 = 112 by decide +kernel]
    show takeP rm_1 [1, 6, 5] = some rm_2
    unfold takeP
    rw [if_pos (by decide +kernel)]
    rfl
  have h3 := parse_ok (f := 197) (ro := false) (by decide +kernel) h1 (by decide +kernel) h2
  rw [show decide (txt0.getD 12 0 = 114) = false by decide +kernel] at h3
  exact h3
theorem rd_3 : parseF txt0 197 19 rm_2 false = parseF txt0 196 26 rm_3 false := by
  have h1 : (if nOf (txt0.getD 19 0) = 0 then none else numsF txt0 (nOf (txt0.getD 19 0)) (19 + 1)) = some ([2, 3, 2], 26) := by decide +kernel
  have h2 : takeF rm_2 (txt0.getD 19 0) [2, 3, 2] = some rm_3 := by
    rw [show txt0.getD 19 0 = 112 by decide +kernel]
    show takeP rm_2 [2, 3, 2] = some rm_3
    unfold takeP
    rw [if_pos (by decide +kernel)]
    rfl
  have h3 := parse_ok (f := 196) (ro := false) (by decide +kernel) h1 (by decide +kernel) h2
  rw [show decide (txt0.getD 19 0 = 114) = false by decide +kernel] at h3
  exact h3
theorem rd_4 : parseF txt0 196 26 rm_3 false = parseF txt0 195 33 rm_4 false := by
  have h1 : (if nOf (txt0.getD 26 0) = 0 then none else numsF txt0 (nOf (txt0.getD 26 0)) (26 + 1)) = some ([3, 5, 1], 33) := by decide +kernel
  have h2 : takeF rm_3 (txt0.getD 26 0) [3, 5, 1] = some rm_4 := by
    rw [show txt0.getD 26 0 = 112 by decide +kernel]
    show takeP rm_3 [3, 5, 1] = some rm_4
    unfold takeP
    rw [if_pos (by decide +kernel)]
    rfl
  have h3 := parse_ok (f := 195) (ro := false) (by decide +kernel) h1 (by decide +kernel) h2
  rw [show decide (txt0.getD 26 0 = 114) = false by decide +kernel] at h3
  exact h3
theorem rd_5 : parseF txt0 195 33 rm_4 false = parseF txt0 194 40 rm_5 false := by
  have h1 : (if nOf (txt0.getD 33 0) = 0 then none else numsF txt0 (nOf (txt0.getD 33 0)) (33 + 1)) = some ([0, 1, 4], 40) := by decide +kernel
  have h2 : takeF rm_4 (txt0.getD 33 0) [0, 1, 4] = some rm_5 := by
    rw [show txt0.getD 33 0 = 112 by decide +kernel]
    show takeP rm_4 [0, 1, 4] = some rm_5
    unfold takeP
    rw [if_pos (by decide +kernel)]
    rfl
  have h3 := parse_ok (f := 194) (ro := false) (by decide +kernel) h1 (by decide +kernel) h2
  rw [show decide (txt0.getD 33 0 = 114) = false by decide +kernel] at h3
  exact h3
theorem rd_6 : parseF txt0 194 40 rm_5 false = parseF txt0 193 47 rm_6 false := by
  have h1 : (if nOf (txt0.getD 40 0) = 0 then none else numsF txt0 (nOf (txt0.getD 40 0)) (40 + 1)) = some ([0, 4, 4], 47) := by decide +kernel
  have h2 : takeF rm_5 (txt0.getD 40 0) [0, 4, 4] = some rm_6 := by
    rw [show txt0.getD 40 0 = 112 by decide +kernel]
    show takeP rm_5 [0, 4, 4] = some rm_6
    unfold takeP
    rw [if_pos (by decide +kernel)]
    rfl
  have h3 := parse_ok (f := 193) (ro := false) (by decide +kernel) h1 (by decide +kernel) h2
  rw [show decide (txt0.getD 40 0 = 114) = false by decide +kernel] at h3
  exact h3
theorem rd_7 : parseF txt0 193 47 rm_6 false = parseF txt0 192 56 rm_7 false := by
  have h1 : (if nOf (txt0.getD 47 0) = 0 then none else numsF txt0 (nOf (txt0.getD 47 0)) (47 + 1)) = some ([0, 1, 0, 5], 56) := by decide +kernel
  have h2 : takeF rm_6 (txt0.getD 47 0) [0, 1, 0, 5] = some rm_7 := by
    rw [show txt0.getD 47 0 = 108 by decide +kernel]
    show takeL rm_6 [0, 1, 0, 5] = some rm_7
    unfold takeL
    rw [if_pos (by decide +kernel)]
    rfl
  have h3 := parse_ok (f := 192) (ro := false) (by decide +kernel) h1 (by decide +kernel) h2
  rw [show decide (txt0.getD 47 0 = 114) = false by decide +kernel] at h3
  exact h3
theorem rd_8 : parseF txt0 192 56 rm_7 false = parseF txt0 191 65 rm_8 false := by
  have h1 : (if nOf (txt0.getD 56 0) = 0 then none else numsF txt0 (nOf (txt0.getD 56 0)) (56 + 1)) = some ([0, 2, 1, 2], 65) := by decide +kernel
  have h2 : takeF rm_7 (txt0.getD 56 0) [0, 2, 1, 2] = some rm_8 := by
    rw [show txt0.getD 56 0 = 108 by decide +kernel]
    show takeL rm_7 [0, 2, 1, 2] = some rm_8
    unfold takeL
    rw [if_pos (by decide +kernel)]
    rfl
  have h3 := parse_ok (f := 191) (ro := false) (by decide +kernel) h1 (by decide +kernel) h2
  rw [show decide (txt0.getD 56 0 = 114) = false by decide +kernel] at h3
  exact h3
theorem rd_9 : parseF txt0 191 65 rm_8 false = parseF txt0 190 74 rm_9 false := by
  have h1 : (if nOf (txt0.getD 65 0) = 0 then none else numsF txt0 (nOf (txt0.getD 65 0)) (65 + 1)) = some ([1, 0, 0, 9], 74) := by decide +kernel
  have h2 : takeF rm_8 (txt0.getD 65 0) [1, 0, 0, 9] = some rm_9 := by
    rw [show txt0.getD 65 0 = 108 by decide +kernel]
    show takeL rm_8 [1, 0, 0, 9] = some rm_9
    unfold takeL
    rw [if_pos (by decide +kernel)]
    rfl
  have h3 := parse_ok (f := 190) (ro := false) (by decide +kernel) h1 (by decide +kernel) h2
  rw [show decide (txt0.getD 65 0 = 114) = false by decide +kernel] at h3
  exact h3
theorem rd_10 : parseF txt0 190 74 rm_9 false = parseF txt0 189 83 rm_10 false := by
  have h1 : (if nOf (txt0.getD 74 0) = 0 then none else numsF txt0 (nOf (txt0.getD 74 0)) (74 + 1)) = some ([1, 4, 0, 3], 83) := by decide +kernel
  have h2 : takeF rm_9 (txt0.getD 74 0) [1, 4, 0, 3] = some rm_10 := by
    rw [show txt0.getD 74 0 = 108 by decide +kernel]
    show takeL rm_9 [1, 4, 0, 3] = some rm_10
    unfold takeL
    rw [if_pos (by decide +kernel)]
    rfl
  have h3 := parse_ok (f := 189) (ro := false) (by decide +kernel) h1 (by decide +kernel) h2
  rw [show decide (txt0.getD 74 0 = 114) = false by decide +kernel] at h3
  exact h3
theorem rd_11 : parseF txt0 189 83 rm_10 false = parseF txt0 188 92 rm_11 false := by
  have h1 : (if nOf (txt0.getD 83 0) = 0 then none else numsF txt0 (nOf (txt0.getD 83 0)) (83 + 1)) = some ([2, 3, 0, 7], 92) := by decide +kernel
  have h2 : takeF rm_10 (txt0.getD 83 0) [2, 3, 0, 7] = some rm_11 := by
    rw [show txt0.getD 83 0 = 108 by decide +kernel]
    show takeL rm_10 [2, 3, 0, 7] = some rm_11
    unfold takeL
    rw [if_pos (by decide +kernel)]
    rfl
  have h3 := parse_ok (f := 188) (ro := false) (by decide +kernel) h1 (by decide +kernel) h2
  rw [show decide (txt0.getD 83 0 = 114) = false by decide +kernel] at h3
  exact h3
theorem rd_12 : parseF txt0 188 92 rm_11 false = parseF txt0 187 101 rm_12 false := by
  have h1 : (if nOf (txt0.getD 92 0) = 0 then none else numsF txt0 (nOf (txt0.getD 92 0)) (92 + 1)) = some ([3, 2, 0, 4], 101) := by decide +kernel
  have h2 : takeF rm_11 (txt0.getD 92 0) [3, 2, 0, 4] = some rm_12 := by
    rw [show txt0.getD 92 0 = 108 by decide +kernel]
    show takeL rm_11 [3, 2, 0, 4] = some rm_12
    unfold takeL
    rw [if_pos (by decide +kernel)]
    rfl
  have h3 := parse_ok (f := 187) (ro := false) (by decide +kernel) h1 (by decide +kernel) h2
  rw [show decide (txt0.getD 92 0 = 114) = false by decide +kernel] at h3
  exact h3
theorem rd_13 : parseF txt0 187 101 rm_12 false = parseF txt0 186 110 rm_13 false := by
  have h1 : (if nOf (txt0.getD 101 0) = 0 then none else numsF txt0 (nOf (txt0.getD 101 0)) (101 + 1)) = some ([3, 5, 1, 6], 110) := by decide +kernel
  have h2 : takeF rm_12 (txt0.getD 101 0) [3, 5, 1, 6] = some rm_13 := by
    rw [show txt0.getD 101 0 = 108 by decide +kernel]
    show takeL rm_12 [3, 5, 1, 6] = some rm_13
    unfold takeL
    rw [if_pos (by decide +kernel)]
    rfl
  have h3 := parse_ok (f := 186) (ro := false) (by decide +kernel) h1 (by decide +kernel) h2
  rw [show decide (txt0.getD 101 0 = 114) = false by decide +kernel] at h3
  exact h3
theorem rd_14 : parseF txt0 186 110 rm_13 false = parseF txt0 185 119 rm_14 false := by
  have h1 : (if nOf (txt0.getD 110 0) = 0 then none else numsF txt0 (nOf (txt0.getD 110 0)) (110 + 1)) = some ([4, 5, 0, 8], 119) := by decide +kernel
  have h2 : takeF rm_13 (txt0.getD 110 0) [4, 5, 0, 8] = some rm_14 := by
    rw [show txt0.getD 110 0 = 108 by decide +kernel]
    show takeL rm_13 [4, 5, 0, 8] = some rm_14
    unfold takeL
    rw [if_pos (by decide +kernel)]
    rfl
  have h3 := parse_ok (f := 185) (ro := false) (by decide +kernel) h1 (by decide +kernel) h2
  rw [show decide (txt0.getD 110 0 = 114) = false by decide +kernel] at h3
  exact h3
theorem rd_15 : parseF txt0 185 119 rm_14 false = parseF txt0 184 128 rm_15 false := by
  have h1 : (if nOf (txt0.getD 119 0) = 0 then none else numsF txt0 (nOf (txt0.getD 119 0)) (119 + 1)) = some ([5, 4, 0, 2], 128) := by decide +kernel
  have h2 : takeF rm_14 (txt0.getD 119 0) [5, 4, 0, 2] = some rm_15 := by
    rw [show txt0.getD 119 0 = 108 by decide +kernel]
    show takeL rm_14 [5, 4, 0, 2] = some rm_15
    unfold takeL
    rw [if_pos (by decide +kernel)]
    rfl
  have h3 := parse_ok (f := 184) (ro := false) (by decide +kernel) h1 (by decide +kernel) h2
  rw [show decide (txt0.getD 119 0 = 114) = false by decide +kernel] at h3
  exact h3
theorem rd_16 : parseF txt0 184 128 rm_15 false = parseF txt0 183 137 rm_16 false := by
  have h1 : (if nOf (txt0.getD 128 0) = 0 then none else numsF txt0 (nOf (txt0.getD 128 0)) (128 + 1)) = some ([5, 0, 0, 9], 137) := by decide +kernel
  have h2 : takeF rm_15 (txt0.getD 128 0) [5, 0, 0, 9] = some rm_16 := by
    rw [show txt0.getD 128 0 = 108 by decide +kernel]
    show takeL rm_15 [5, 0, 0, 9] = some rm_16
    unfold takeL
    rw [if_pos (by decide +kernel)]
    rfl
  have h3 := parse_ok (f := 183) (ro := false) (by decide +kernel) h1 (by decide +kernel) h2
  rw [show decide (txt0.getD 128 0 = 114) = false by decide +kernel] at h3
  exact h3
theorem read0 : readF txt0 = (none, S0) := by
  show parseF txt0 200 0 rClear true = _
  rw [rd_0, rd_1, rd_2, rd_3, rd_4, rd_5, rd_6, rd_7, rd_8, rd_9, rd_10, rd_11, rd_12, rd_13, rd_14, rd_15, rd_16, parse_end (by decide +kernel)]
  rfl
def T0 : Sy := ([], S0, [], [], [])
theorem CAt.readRoom {h h' : VHp} {c : Nat} {T : Sy} (w : CAt h c T) {S : Rm} (f : VFr2 (c + 3) (c + 3 + 2) (c + 5) (c + 5 + 6) h h') (q : RoomAt h' (c + 5) S) (q2 : ∃ nm, ReaderAt h' (c + 3) nm) : CAt h' c (tT T, S, T.2.2) := by
  obtain ⟨h0, h1, -, h3, ⟨Q, h4⟩, h5, h6, h7, h8, h9⟩ := w
  have g1 : VFr (c + 3) (c + 11) h h' := ⟨f.1, fun q hq => f.2 q (by omega) (by omega)⟩
  exact ⟨by rw [g1.2 _ (by omega)]; exact h0, h1.keep g1 (by omega), q2, q, ⟨Q, h4.keep g1 (by omega)⟩, h5.keep g1 (by omega), h6.keep g1 (by omega), h7.keep g1 (by omega), h8.keep g1 (by omega), h9.keep g1 (by omega)⟩

set_option maxRecDepth 20000 in
set_option maxHeartbeats 8000000 in
theorem k_HV (g : VG) : VE g mX7_init 6 true (91, 1488) [.ref 0] [.inr (.inr (7, [.null, .null, .null, .null, .null, .null, .null, .null, .null, .int 0]))] (fun v h' => v = none ∧ CAt h' 0 T0 ∧ h'.length = 92) := by
  refine VE.of (by decide) rfl (Nat.le_of_ble_eq_true rfl) ?_
  have L : ∀ i, i ≤ 137 → ∀ h1 : VHp, VFr (0 + 1) (0 + 3) heap0 h1 → TextAt h1 (0 + 1) (txt0.take i) → V (g, mX7_init, 6, true, ([.inr (.inr (7, [.null, .null, .null, .null, .null, .null, .null, .null, .null, .int 0]))] : VHp).length, (fun v h' => v = none ∧ CAt h' 0 T0 ∧ h'.length = 92)) (0, 0) 133 [some (.ref 0), some (.int (nI i))] [] h1 := by
    refine vloop 137 (fun i ih hi => ?_)
    intro h1 hf1 hT1
    have hC1 := cat0.text hf1 hT1
    have ho1 := hC1.1
    obtain ⟨lt, hto, -⟩ := id hT1
    have hlv := vtb_160
    have hlt := txt0_len
    refine V.iload_n dX7_init_133 rfl ?_
    refine V.ldcS rfl dX7_init_134 ?_
    refine V.callT (As := []) cj_71 (j_length g h1) dX7_init_136 (Nat.le_of_ble_eq_true rfl) rfl rfl rfl (Nat.le_of_ble_eq_true rfl) (fun v_ h_ hp_ => ?_)
    obtain ⟨rfl, rfl⟩ := hp_
    dsimp only [Option.toList, List.cons_append, List.nil_append]
    refine V.icmp_geN 161 dX7_init_139 (by decide) (by omega) (by omega) (fun hc => ?_) (fun hc => ?_)
    · obtain rfl : i = 137 := (by omega)
      rw [show txt0.take 137 = txt0 from List.take_of_length_le (by omega)] at hT1 hC1
      obtain ⟨lt1, hto1, -⟩ := id hT1
      obtain ⟨-, -, ⟨nm1, hQ1⟩, hR1, -⟩ := id hC1
      refine V.aload_n dX7_init_161 rfl ?_
      refine V.get fX7_19 dX7_init_162 ho1 rfl ?_
      refine V.aload_n dX7_init_165 rfl ?_
      refine V.get fX7_26 dX7_init_166 ho1 rfl ?_
      refine V.aload_n dX7_init_169 rfl ?_
      refine V.get fX7_12 dX7_init_170 ho1 rfl ?_
      refine V.callV (ci := 2) cX7_85 (e_readInto g h_ (0 + 3) (0 + 5) (0 + 1) rClear txt0 nm1 hQ1 hR1 hT1 txt0_ok (by omega) (by omega) (by omega)) dX7_init_173 (Nat.le_of_ble_eq_true rfl) rfl hQ1.1 rfl rfl (Nat.le_of_ble_eq_true rfl) (fun v_ h2 hp_ => ?_)
      obtain ⟨hf2, hQ2, rfl, hR2⟩ := hp_
      dsimp only [Option.toList, List.cons_append, List.nil_append]
      rw [show parseF txt0 200 0 rClear true = (none, S0) from read0] at hR2
      have hC2 := hC1.readRoom hf2 hR2 hQ2
      have ho2 := hC2.1
      have hT2 : TextAt h2 (0 + 1) txt0 := hC2.2.1
      obtain ⟨lt2, hto2, -⟩ := id hT2
      refine V.pop dX7_init_176 rfl ?_
      refine V.aload_n dX7_init_177 rfl ?_
      refine V.get fX7_12 dX7_init_178 ho2 rfl ?_
      refine V.callV (As := []) (ci := 6) cX7_89 (e_textClear g h2 (0 + 1) txt0 hT2) dX7_init_181 (Nat.le_of_ble_eq_true rfl) rfl hto2 rfl rfl (Nat.le_of_ble_eq_true rfl) (fun v_ h3 hp_ => ?_)
      obtain ⟨rfl, hT3, hf3⟩ := hp_
      dsimp only [Option.toList, List.nil_append]
      have hC3 := hC2.text hf3 hT3
      exact V.vret dX7_init_184 rfl ⟨rfl, hC3, by rw [hf3.1, hf2.1, hf1.1, heap0_len]⟩
    · refine V.aload_n dX7_init_142 rfl ?_
      refine V.get fX7_12 dX7_init_143 ho1 rfl ?_
      refine V.ldcS rfl dX7_init_146 ?_
      refine V.iload_n dX7_init_148 rfl ?_
      refine V.callT (As := [.int (nI i)]) cj_77 (j_charAt g h_ i (by omega)) dX7_init_149 (Nat.le_of_ble_eq_true rfl) rfl rfl rfl (Nat.le_of_ble_eq_true rfl) (fun v_ h2 hp_ => ?_)
      obtain ⟨rfl, rfl⟩ := hp_
      dsimp only [Option.toList, List.cons_append, List.nil_append]
      refine V.re (txt0_at i (by omega)) ?_
      refine V.callV (As := [.int (nI (txt0.getD i 0))]) (ci := 6) cX7_81 (e_append g h2 (0 + 1) (txt0.take i) hT1 (txt0.getD i 0) (by rw [List.length_take]; omega)) dX7_init_152 (Nat.le_of_ble_eq_true rfl) rfl hto rfl rfl (Nat.le_of_ble_eq_true rfl) (fun v_ h3 hp_ => ?_)
      obtain ⟨rfl, hT3, hf3⟩ := hp_
      dsimp only [Option.toList, List.nil_append]
      rw [← take_next (by omega)] at hT3
      refine V.iincN (n := 1) dX7_init_155 rfl rfl rfl ?_
      dsimp only [List.set]
      refine V.goto 133 dX7_init_158 (by decide) ?_
      exact ih (i + 1) (by omega) (by omega) h3 (hf1.tr hf3) hT3
  show V _ _ 0 [some (.ref 0), none] [] (([] : VHp) ++ (Sum.inr (Sum.inr (7, [.null, .null, .null, .null, .null, .null, .null, .null, .null, .int 0])) : VC) :: [])
  refine V.aload_n dX7_init_0 rfl ?_
  refine V.objInit jX7_3 dX7_init_1 (Nat.le_of_ble_eq_true rfl) (Nat.le_of_ble_eq_true rfl) ?_
  refine V.aload_n dX7_init_4 rfl ?_
  have hl_1 : (([] : VHp) ++ (Sum.inr (Sum.inr (7, [.null, .null, .null, .null, .null, .null, .null, .null, .null, .int 0])) : VC) :: []).length = 1 := by decide +kernel
  have hw_1 : vwf 1 (([] : VHp) ++ (Sum.inr (Sum.inr (7, [.null, .null, .null, .null, .null, .null, .null, .null, .null, .int 0])) : VC) :: []) := vwfB (by decide +kernel)
  refine V.mk (b := (89, 1286)) (b1 := (1, 200)) (n := 1) (P := fun h' => h' = (([] : VHp) ++ (Sum.inr (Sum.inr (7, [.null, .null, .null, .null, .null, .null, .null, .null, .null, .int 0])) : VC) :: []) ++ textC 1) hl_1 (ci := 6) (C := RX6) (T := TX6) (ty := tyX6) (fs := [.null, .int 0]) rfl ⟨k9_X6, w9_64, w9_65, w9_42⟩ tyX6_ok (by decide +kernel) (fun _ => rfl) rfl hw_1 ⟨vlc (vor (by decide)) (vl0 vln), vfc (vor (by decide)) vfn⟩ (by decide) dX7_init_5 dX7_init_8 dX7_init_9 cX7_11 (k_Text g _ 1 hl_1 hw_1 (by decide)) (Nat.le_of_ble_eq_true rfl) (Nat.le_of_ble_eq_true rfl) (fun h' eh => ?_)
  subst eh
  show V _ _ _ _ _ (([] : VHp) ++ (Sum.inr (Sum.inr (7, [.null, .null, .null, .null, .null, .null, .null, .null, .null, .int 0])) : VC) :: textC 1)
  refine V.putFc rfl fX7_12 (fun C T N e => by have e2 : some (RX7, TX7, 10) = some (C, T, N) := e; cases e2; exact w9_340) (fun _ => ⟨rfl, rfl⟩) rfl dX7_init_12 (Nat.le_of_ble_eq_true rfl) ?_
  dsimp only [List.set]
  show V _ _ _ _ _ (([] : VHp) ++ (Sum.inr (Sum.inr (7, [.ref 1, .null, .null, .null, .null, .null, .null, .null, .null, .int 0])) : VC) :: textC 1)
  refine V.aload_n dX7_init_15 rfl ?_
  have hl_3 : (([] : VHp) ++ (Sum.inr (Sum.inr (7, [.ref 1, .null, .null, .null, .null, .null, .null, .null, .null, .int 0])) : VC) :: textC 1).length = 3 := by decide +kernel
  have hw_3 : vwf 3 (([] : VHp) ++ (Sum.inr (Sum.inr (7, [.ref 1, .null, .null, .null, .null, .null, .null, .null, .null, .int 0])) : VC) :: textC 1) := vwfB (by decide +kernel)
  refine V.mk (b := (87, 1281)) (b1 := (1, 4)) (n := 3) (P := fun h' => h' = (([] : VHp) ++ (Sum.inr (Sum.inr (7, [.ref 1, .null, .null, .null, .null, .null, .null, .null, .null, .int 0])) : VC) :: textC 1) ++ readerC 3) hl_3 (ci := 2) (C := RX2) (T := TX2) (ty := tyX2) (fs := [.null]) rfl ⟨k9_X2, w9_80, w9_81, w9_43⟩ tyX2_ok (by decide +kernel) (fun _ => rfl) rfl hw_3 ⟨vlc (vor (by decide)) (vl0 vln), vfc (vor (by decide)) vfn⟩ (by decide) dX7_init_16 dX7_init_19 dX7_init_20 cX7_18 (k_Reader g _ 3 hl_3 hw_3 (by decide)) (Nat.le_of_ble_eq_true rfl) (Nat.le_of_ble_eq_true rfl) (fun h' eh => ?_)
  subst eh
  show V _ _ _ _ _ (([] : VHp) ++ (Sum.inr (Sum.inr (7, [.ref 1, .null, .null, .null, .null, .null, .null, .null, .null, .int 0])) : VC) :: (textC 1 ++ readerC 3))
  refine V.putFc rfl fX7_19 (fun C T N e => by have e2 : some (RX7, TX7, 10) = some (C, T, N) := e; cases e2; exact w9_341) (fun _ => ⟨rfl, rfl⟩) rfl dX7_init_23 (Nat.le_of_ble_eq_true rfl) ?_
  dsimp only [List.set]
  show V _ _ _ _ _ (([] : VHp) ++ (Sum.inr (Sum.inr (7, [.ref 1, .ref 3, .null, .null, .null, .null, .null, .null, .null, .int 0])) : VC) :: (textC 1 ++ readerC 3))
  refine V.aload_n dX7_init_26 rfl ?_
  have hl_5 : (([] : VHp) ++ (Sum.inr (Sum.inr (7, [.ref 1, .ref 3, .null, .null, .null, .null, .null, .null, .null, .int 0])) : VC) :: (textC 1 ++ readerC 3)).length = 5 := by decide +kernel
  have hw_5 : vwf 5 (([] : VHp) ++ (Sum.inr (Sum.inr (7, [.ref 1, .ref 3, .null, .null, .null, .null, .null, .null, .null, .int 0])) : VC) :: (textC 1 ++ readerC 3)) := vwfB (by decide +kernel)
  refine V.mk (b := (81, 1212)) (b1 := (5, 60)) (n := 5) (P := fun h' => h' = (([] : VHp) ++ (Sum.inr (Sum.inr (7, [.ref 1, .ref 3, .null, .null, .null, .null, .null, .null, .null, .int 0])) : VC) :: (textC 1 ++ readerC 3)) ++ roomC 5) hl_5 (ci := 3) (C := RX3) (T := TX3) (ty := tyX3) (fs := [.null, .null, .null, .null, .null, .int 0, .int 0, .int 0, .int 0]) rfl ⟨k9_X3, w9_90, w9_91, w9_44⟩ tyX3_ok (by decide +kernel) (fun _ => rfl) rfl hw_5 ⟨vlc (vor (by decide)) (vl0 vln), vfc (vor (by decide)) vfn⟩ (by decide) dX7_init_27 dX7_init_30 dX7_init_31 cX7_25 (k_Room g _ 5 hl_5 hw_5 (by decide)) (Nat.le_of_ble_eq_true rfl) (Nat.le_of_ble_eq_true rfl) (fun h' eh => ?_)
  subst eh
  show V _ _ _ _ _ (([] : VHp) ++ (Sum.inr (Sum.inr (7, [.ref 1, .ref 3, .null, .null, .null, .null, .null, .null, .null, .int 0])) : VC) :: (textC 1 ++ readerC 3 ++ roomC 5))
  refine V.putFc rfl fX7_26 (fun C T N e => by have e2 : some (RX7, TX7, 10) = some (C, T, N) := e; cases e2; exact w9_342) (fun _ => ⟨rfl, rfl⟩) rfl dX7_init_34 (Nat.le_of_ble_eq_true rfl) ?_
  dsimp only [List.set]
  show V _ _ _ _ _ (([] : VHp) ++ (Sum.inr (Sum.inr (7, [.ref 1, .ref 3, .ref 5, .null, .null, .null, .null, .null, .null, .int 0])) : VC) :: (textC 1 ++ readerC 3 ++ roomC 5))
  refine V.aload_n dX7_init_37 rfl ?_
  have hl_11 : (([] : VHp) ++ (Sum.inr (Sum.inr (7, [.ref 1, .ref 3, .ref 5, .null, .null, .null, .null, .null, .null, .int 0])) : VC) :: (textC 1 ++ readerC 3 ++ roomC 5)).length = 11 := by decide +kernel
  have hw_11 : vwf 11 (([] : VHp) ++ (Sum.inr (Sum.inr (7, [.ref 1, .ref 3, .ref 5, .null, .null, .null, .null, .null, .null, .int 0])) : VC) :: (textC 1 ++ readerC 3 ++ roomC 5)) := vwfB (by decide +kernel)
  refine V.mk (b := (75, 1143)) (b1 := (5, 60)) (n := 11) (P := fun h' => h' = (([] : VHp) ++ (Sum.inr (Sum.inr (7, [.ref 1, .ref 3, .ref 5, .null, .null, .null, .null, .null, .null, .int 0])) : VC) :: (textC 1 ++ readerC 3 ++ roomC 5)) ++ roomC 11) hl_11 (ci := 3) (C := RX3) (T := TX3) (ty := tyX3) (fs := [.null, .null, .null, .null, .null, .int 0, .int 0, .int 0, .int 0]) rfl ⟨k9_X3, w9_90, w9_91, w9_44⟩ tyX3_ok (by decide +kernel) (fun _ => rfl) rfl hw_11 ⟨vlc (vor (by decide)) (vl0 vln), vfc (vor (by decide)) vfn⟩ (by decide) dX7_init_38 dX7_init_41 dX7_init_42 cX7_25 (k_Room g _ 11 hl_11 hw_11 (by decide)) (Nat.le_of_ble_eq_true rfl) (Nat.le_of_ble_eq_true rfl) (fun h' eh => ?_)
  subst eh
  show V _ _ _ _ _ (([] : VHp) ++ (Sum.inr (Sum.inr (7, [.ref 1, .ref 3, .ref 5, .null, .null, .null, .null, .null, .null, .int 0])) : VC) :: (textC 1 ++ readerC 3 ++ roomC 5 ++ roomC 11))
  refine V.putFc rfl fX7_30 (fun C T N e => by have e2 : some (RX7, TX7, 10) = some (C, T, N) := e; cases e2; exact w9_343) (fun _ => ⟨rfl, rfl⟩) rfl dX7_init_45 (Nat.le_of_ble_eq_true rfl) ?_
  dsimp only [List.set]
  show V _ _ _ _ _ (([] : VHp) ++ (Sum.inr (Sum.inr (7, [.ref 1, .ref 3, .ref 5, .ref 11, .null, .null, .null, .null, .null, .int 0])) : VC) :: (textC 1 ++ readerC 3 ++ roomC 5 ++ roomC 11))
  refine V.aload_n dX7_init_48 rfl ?_
  have hl_17 : (([] : VHp) ++ (Sum.inr (Sum.inr (7, [.ref 1, .ref 3, .ref 5, .ref 11, .null, .null, .null, .null, .null, .int 0])) : VC) :: (textC 1 ++ readerC 3 ++ roomC 5 ++ roomC 11)).length = 17 := by decide +kernel
  have hw_17 : vwf 17 (([] : VHp) ++ (Sum.inr (Sum.inr (7, [.ref 1, .ref 3, .ref 5, .ref 11, .null, .null, .null, .null, .null, .int 0])) : VC) :: (textC 1 ++ readerC 3 ++ roomC 5 ++ roomC 11)) := vwfB (by decide +kernel)
  refine V.mk (b := (25, 580)) (b1 := (49, 560)) (n := 17) (P := fun h' => h' = (([] : VHp) ++ (Sum.inr (Sum.inr (7, [.ref 1, .ref 3, .ref 5, .ref 11, .null, .null, .null, .null, .null, .int 0])) : VC) :: (textC 1 ++ readerC 3 ++ roomC 5 ++ roomC 11)) ++ pastC 17) hl_17 (ci := 1) (C := RX1) (T := TX1) (ty := tyX1) (fs := [.null, .int 0, .int 0]) rfl ⟨k9_X1, w9_138, w9_139, w9_45⟩ tyX1_ok (by decide +kernel) (fun _ => rfl) rfl hw_17 ⟨vlc (vor (by decide)) (vl0 vln), vfc (vor (by decide)) vfn⟩ (by decide) dX7_init_49 dX7_init_52 dX7_init_53 cX7_35 (k_Past g _ 17 hl_17 hw_17 (by decide)) (Nat.le_of_ble_eq_true rfl) (Nat.le_of_ble_eq_true rfl) (fun h' eh => ?_)
  subst eh
  show V _ _ _ _ _ (([] : VHp) ++ (Sum.inr (Sum.inr (7, [.ref 1, .ref 3, .ref 5, .ref 11, .null, .null, .null, .null, .null, .int 0])) : VC) :: (textC 1 ++ readerC 3 ++ roomC 5 ++ roomC 11 ++ pastC 17))
  refine V.putFc rfl fX7_36 (fun C T N e => by have e2 : some (RX7, TX7, 10) = some (C, T, N) := e; cases e2; exact w9_344) (fun _ => ⟨rfl, rfl⟩) rfl dX7_init_56 (Nat.le_of_ble_eq_true rfl) ?_
  dsimp only [List.set]
  show V _ _ _ _ _ (([] : VHp) ++ (Sum.inr (Sum.inr (7, [.ref 1, .ref 3, .ref 5, .ref 11, .ref 17, .null, .null, .null, .null, .int 0])) : VC) :: (textC 1 ++ readerC 3 ++ roomC 5 ++ roomC 11 ++ pastC 17))
  refine V.aload_n dX7_init_59 rfl ?_
  have hl_67 : (([] : VHp) ++ (Sum.inr (Sum.inr (7, [.ref 1, .ref 3, .ref 5, .ref 11, .ref 17, .null, .null, .null, .null, .int 0])) : VC) :: (textC 1 ++ readerC 3 ++ roomC 5 ++ roomC 11 ++ pastC 17)).length = 67 := by decide +kernel
  have hw_67 : vwf 67 (([] : VHp) ++ (Sum.inr (Sum.inr (7, [.ref 1, .ref 3, .ref 5, .ref 11, .ref 17, .null, .null, .null, .null, .int 0])) : VC) :: (textC 1 ++ readerC 3 ++ roomC 5 ++ roomC 11 ++ pastC 17)) := vwfB (by decide +kernel)
  refine V.mk (b := (21, 558)) (b1 := (3, 18)) (n := 67) (P := fun h' => h' = (([] : VHp) ++ (Sum.inr (Sum.inr (7, [.ref 1, .ref 3, .ref 5, .ref 11, .ref 17, .null, .null, .null, .null, .int 0])) : VC) :: (textC 1 ++ readerC 3 ++ roomC 5 ++ roomC 11 ++ pastC 17)) ++ sightsC 67) hl_67 (ci := 5) (C := RX5) (T := TX5) (ty := tyX5) (fs := [.null, .null, .null, .int 0]) rfl ⟨k9_X5, w9_158, w9_159, w9_46⟩ tyX5_ok (by decide +kernel) (fun _ => rfl) rfl hw_67 ⟨vlc (vor (by decide)) (vl0 vln), vfc (vor (by decide)) vfn⟩ (by decide) dX7_init_60 dX7_init_63 dX7_init_64 cX7_42 (k_Sights g _ 67 hl_67 hw_67 (by decide)) (Nat.le_of_ble_eq_true rfl) (Nat.le_of_ble_eq_true rfl) (fun h' eh => ?_)
  subst eh
  show V _ _ _ _ _ (([] : VHp) ++ (Sum.inr (Sum.inr (7, [.ref 1, .ref 3, .ref 5, .ref 11, .ref 17, .null, .null, .null, .null, .int 0])) : VC) :: (textC 1 ++ readerC 3 ++ roomC 5 ++ roomC 11 ++ pastC 17 ++ sightsC 67))
  refine V.putFc rfl fX7_43 (fun C T N e => by have e2 : some (RX7, TX7, 10) = some (C, T, N) := e; cases e2; exact w9_345) (fun _ => ⟨rfl, rfl⟩) rfl dX7_init_67 (Nat.le_of_ble_eq_true rfl) ?_
  dsimp only [List.set]
  show V _ _ _ _ _ (([] : VHp) ++ (Sum.inr (Sum.inr (7, [.ref 1, .ref 3, .ref 5, .ref 11, .ref 17, .ref 67, .null, .null, .null, .int 0])) : VC) :: (textC 1 ++ readerC 3 ++ roomC 5 ++ roomC 11 ++ pastC 17 ++ sightsC 67))
  refine V.aload_n dX7_init_70 rfl ?_
  have hl_71 : (([] : VHp) ++ (Sum.inr (Sum.inr (7, [.ref 1, .ref 3, .ref 5, .ref 11, .ref 17, .ref 67, .null, .null, .null, .int 0])) : VC) :: (textC 1 ++ readerC 3 ++ roomC 5 ++ roomC 11 ++ pastC 17 ++ sightsC 67)).length = 71 := by decide +kernel
  have hw_71 : vwf 71 (([] : VHp) ++ (Sum.inr (Sum.inr (7, [.ref 1, .ref 3, .ref 5, .ref 11, .ref 17, .ref 67, .null, .null, .null, .int 0])) : VC) :: (textC 1 ++ readerC 3 ++ roomC 5 ++ roomC 11 ++ pastC 17 ++ sightsC 67)) := vwfB (by decide +kernel)
  refine V.mk (b := (15, 147)) (b1 := (5, 405)) (n := 71) (P := fun h' => h' = (([] : VHp) ++ (Sum.inr (Sum.inr (7, [.ref 1, .ref 3, .ref 5, .ref 11, .ref 17, .ref 67, .null, .null, .null, .int 0])) : VC) :: (textC 1 ++ readerC 3 ++ roomC 5 ++ roomC 11 ++ pastC 17 ++ sightsC 67)) ++ searchC 71) hl_71 (ci := 4) (C := RX4) (T := TX4) (ty := tyX4) (fs := [.null, .null, .null, .null, .null, .int 0]) rfl ⟨k9_X4, w9_178, w9_179, w9_47⟩ tyX4_ok (by decide +kernel) (fun _ => rfl) rfl hw_71 ⟨vlc (vor (by decide)) (vl0 vln), vfc (vor (by decide)) vfn⟩ (by decide) dX7_init_71 dX7_init_74 dX7_init_75 cX7_49 (k_Search g _ 71 hl_71 hw_71 (by decide)) (Nat.le_of_ble_eq_true rfl) (Nat.le_of_ble_eq_true rfl) (fun h' eh => ?_)
  subst eh
  show V _ _ _ _ _ (([] : VHp) ++ (Sum.inr (Sum.inr (7, [.ref 1, .ref 3, .ref 5, .ref 11, .ref 17, .ref 67, .null, .null, .null, .int 0])) : VC) :: (textC 1 ++ readerC 3 ++ roomC 5 ++ roomC 11 ++ pastC 17 ++ sightsC 67 ++ searchC 71))
  refine V.putFc rfl fX7_50 (fun C T N e => by have e2 : some (RX7, TX7, 10) = some (C, T, N) := e; cases e2; exact w9_346) (fun _ => ⟨rfl, rfl⟩) rfl dX7_init_78 (Nat.le_of_ble_eq_true rfl) ?_
  dsimp only [List.set]
  show V _ _ _ _ _ (([] : VHp) ++ (Sum.inr (Sum.inr (7, [.ref 1, .ref 3, .ref 5, .ref 11, .ref 17, .ref 67, .ref 71, .null, .null, .int 0])) : VC) :: (textC 1 ++ readerC 3 ++ roomC 5 ++ roomC 11 ++ pastC 17 ++ sightsC 67 ++ searchC 71))
  refine V.aload_n dX7_init_81 rfl ?_
  have hl_77 : (([] : VHp) ++ (Sum.inr (Sum.inr (7, [.ref 1, .ref 3, .ref 5, .ref 11, .ref 17, .ref 67, .ref 71, .null, .null, .int 0])) : VC) :: (textC 1 ++ readerC 3 ++ roomC 5 ++ roomC 11 ++ pastC 17 ++ sightsC 67 ++ searchC 71)).length = 77 := by decide +kernel
  have hw_77 : vwf 77 (([] : VHp) ++ (Sum.inr (Sum.inr (7, [.ref 1, .ref 3, .ref 5, .ref 11, .ref 17, .ref 67, .ref 71, .null, .null, .int 0])) : VC) :: (textC 1 ++ readerC 3 ++ roomC 5 ++ roomC 11 ++ pastC 17 ++ sightsC 67 ++ searchC 71)) := vwfB (by decide +kernel)
  refine V.mk (b := (13, 140)) (b1 := (1, 6)) (n := 77) (P := fun h' => h' = (([] : VHp) ++ (Sum.inr (Sum.inr (7, [.ref 1, .ref 3, .ref 5, .ref 11, .ref 17, .ref 67, .ref 71, .null, .null, .int 0])) : VC) :: (textC 1 ++ readerC 3 ++ roomC 5 ++ roomC 11 ++ pastC 17 ++ sightsC 67 ++ searchC 71)) ++ couplesC 77) hl_77 (ci := 0) (C := RX0) (T := TX0) (ty := tyX0) (fs := [.null]) rfl ⟨k9_X0, w9_204, w9_205, w9_48⟩ tyX0_ok (by decide +kernel) (fun _ => rfl) rfl hw_77 ⟨vlc (vor (by decide)) (vl0 vln), vfc (vor (by decide)) vfn⟩ (by decide) dX7_init_82 dX7_init_85 dX7_init_86 cX7_56 (k_Couples g _ 77 hl_77 hw_77 (by decide)) (Nat.le_of_ble_eq_true rfl) (Nat.le_of_ble_eq_true rfl) (fun h' eh => ?_)
  subst eh
  show V _ _ _ _ _ (([] : VHp) ++ (Sum.inr (Sum.inr (7, [.ref 1, .ref 3, .ref 5, .ref 11, .ref 17, .ref 67, .ref 71, .null, .null, .int 0])) : VC) :: (textC 1 ++ readerC 3 ++ roomC 5 ++ roomC 11 ++ pastC 17 ++ sightsC 67 ++ searchC 71 ++ couplesC 77))
  refine V.putFc rfl fX7_57 (fun C T N e => by have e2 : some (RX7, TX7, 10) = some (C, T, N) := e; cases e2; exact w9_347) (fun _ => ⟨rfl, rfl⟩) rfl dX7_init_89 (Nat.le_of_ble_eq_true rfl) ?_
  dsimp only [List.set]
  show V _ _ _ _ _ (([] : VHp) ++ (Sum.inr (Sum.inr (7, [.ref 1, .ref 3, .ref 5, .ref 11, .ref 17, .ref 67, .ref 71, .ref 77, .null, .int 0])) : VC) :: (textC 1 ++ readerC 3 ++ roomC 5 ++ roomC 11 ++ pastC 17 ++ sightsC 67 ++ searchC 71 ++ couplesC 77))
  refine V.aload_n dX7_init_92 rfl ?_
  refine V.iconst (v := nI 2) dX7_init_93 (by decide) ?_
  have hl_79 : (([] : VHp) ++ (Sum.inr (Sum.inr (7, [.ref 1, .ref 3, .ref 5, .ref 11, .ref 17, .ref 67, .ref 71, .ref 77, .null, .int 0])) : VC) :: (textC 1 ++ readerC 3 ++ roomC 5 ++ roomC 11 ++ pastC 17 ++ sightsC 67 ++ searchC 71 ++ couplesC 77)).length = 79 := by decide +kernel
  have hw_79 : vwf 79 (([] : VHp) ++ (Sum.inr (Sum.inr (7, [.ref 1, .ref 3, .ref 5, .ref 11, .ref 17, .ref 67, .ref 71, .ref 77, .null, .int 0])) : VC) :: (textC 1 ++ readerC 3 ++ roomC 5 ++ roomC 11 ++ pastC 17 ++ sightsC 67 ++ searchC 71 ++ couplesC 77)) := vwfB (by decide +kernel)
  refine V.newRc (b := (12, 138)) (N := 2) (q := 79) w9_90 (by decide) rfl hl_79 hw_79 ⟨vlc (vor (by decide)) (vl0 vln), vfc (vor (by decide)) vfn⟩ (by decide) dX7_init_94 ?_
  show V _ _ _ _ _ (([] : VHp) ++ (Sum.inr (Sum.inr (7, [.ref 1, .ref 3, .ref 5, .ref 11, .ref 17, .ref 67, .ref 71, .ref 77, .null, .int 0])) : VC) :: ((textC 1 ++ readerC 3 ++ roomC 5 ++ roomC 11 ++ pastC 17 ++ sightsC 67 ++ searchC 71 ++ couplesC 77) ++ (Sum.inr (Sum.inl (refsI 80 2 0)) : VC) :: roomsI 80 0))
  refine V.putFc rfl fX7_61 (fun C T N e => by have e2 : some (RX7, TX7, 10) = some (C, T, N) := e; cases e2; exact w9_348) (fun _ => ⟨rfl, rfl⟩) rfl dX7_init_97 (Nat.le_of_ble_eq_true rfl) ?_
  dsimp only [List.set]
  refine V.iconst (v := nI 0) dX7_init_100 (by decide) ?_
  refine V.istore_n (i := 1) dX7_init_101 rfl rfl rfl ?_
  dsimp only [List.set]
  have hl_g : ((Sum.inr (Sum.inr (7, [.ref 1, .ref 3, .ref 5, .ref 11, .ref 17, .ref 67, .ref 71, .ref 77, .ref 79, .int 0])) : VC) :: (textC 1 ++ readerC 3 ++ roomC 5 ++ roomC 11 ++ pastC 17 ++ sightsC 67 ++ searchC 71 ++ couplesC 77) : VHp).length = 79 := by decide +kernel
  have hw_g : vwf 80 ((Sum.inr (Sum.inr (7, [.ref 1, .ref 3, .ref 5, .ref 11, .ref 17, .ref 67, .ref 71, .ref 77, .ref 79, .int 0])) : VC) :: (textC 1 ++ readerC 3 ++ roomC 5 ++ roomC 11 ++ pastC 17 ++ sightsC 67 ++ searchC 71 ++ couplesC 77)) := vwfB (by decide +kernel)
  show V _ _ _ _ _ (((Sum.inr (Sum.inr (7, [.ref 1, .ref 3, .ref 5, .ref 11, .ref 17, .ref 67, .ref 71, .ref 77, .ref 79, .int 0])) : VC) :: (textC 1 ++ readerC 3 ++ roomC 5 ++ roomC 11 ++ pastC 17 ++ sightsC 67 ++ searchC 71 ++ couplesC 77)) ++ (Sum.inr (Sum.inl (refsI (79 + 1) 2 0)) : VC) :: roomsI (79 + 1) 0)
  refine V.iload_n dX7_init_102 rfl ?_
  refine V.iconst (v := nI 2) dX7_init_103 (by decide) ?_
  refine V.icmp_geN 126 dX7_init_104 (by decide) (by omega) (by omega) (fun hc => absurd hc (by omega)) (fun hc => ?_)
  refine V.aload_n dX7_init_107 rfl ?_
  refine V.get fX7_61 dX7_init_108 (fs := [.ref 1, .ref 3, .ref 5, .ref 11, .ref 17, .ref 67, .ref 71, .ref 77, .ref 79, .int 0]) rfl rfl ?_
  refine V.iload_n dX7_init_111 rfl ?_
  refine V.mkR (b := (6, 69)) (N := 2) (i := 0) (q := 80) hl_g rfl (by decide) (by decide) w9_90 cX7_25 rfl (hw_g.mono (by decide)) ⟨vlc (vor (by decide)) (vlc trivial vln), vfn⟩ (by decide) dX7_init_112 dX7_init_115 dX7_init_116 dX7_init_119 (Nat.le_of_ble_eq_true rfl) (Nat.le_of_ble_eq_true rfl) ?_
  refine V.iincN (n := 1) dX7_init_120 rfl rfl rfl ?_
  dsimp only [List.set]
  refine V.goto 102 dX7_init_123 (by decide) ?_
  show V _ _ _ [some (.ref 0), some (.int (nI 1))] _ _
  show V _ _ _ _ _ (((Sum.inr (Sum.inr (7, [.ref 1, .ref 3, .ref 5, .ref 11, .ref 17, .ref 67, .ref 71, .ref 77, .ref 79, .int 0])) : VC) :: (textC 1 ++ readerC 3 ++ roomC 5 ++ roomC 11 ++ pastC 17 ++ sightsC 67 ++ searchC 71 ++ couplesC 77)) ++ (Sum.inr (Sum.inl (refsI (79 + 1) 2 1)) : VC) :: roomsI (79 + 1) 1)
  refine V.iload_n dX7_init_102 rfl ?_
  refine V.iconst (v := nI 2) dX7_init_103 (by decide) ?_
  refine V.icmp_geN 126 dX7_init_104 (by decide) (by omega) (by omega) (fun hc => absurd hc (by omega)) (fun hc => ?_)
  refine V.aload_n dX7_init_107 rfl ?_
  refine V.get fX7_61 dX7_init_108 (fs := [.ref 1, .ref 3, .ref 5, .ref 11, .ref 17, .ref 67, .ref 71, .ref 77, .ref 79, .int 0]) rfl rfl ?_
  refine V.iload_n dX7_init_111 rfl ?_
  refine V.mkR (b := (0, 0)) (N := 2) (i := 1) (q := 86) hl_g rfl (by decide) (by decide) w9_90 cX7_25 rfl (hw_g.mono (by decide)) ⟨vlc (vor (by decide)) (vlc trivial vln), vfn⟩ (by decide) dX7_init_112 dX7_init_115 dX7_init_116 dX7_init_119 (Nat.le_of_ble_eq_true rfl) (Nat.le_of_ble_eq_true rfl) ?_
  refine V.iincN (n := 1) dX7_init_120 rfl rfl rfl ?_
  dsimp only [List.set]
  refine V.goto 102 dX7_init_123 (by decide) ?_
  show V _ _ _ [some (.ref 0), some (.int (nI 2))] _ _
  show V _ _ _ _ _ (([] : VHp) ++ (Sum.inr (Sum.inr (7, [.ref 1, .ref 3, .ref 5, .ref 11, .ref 17, .ref 67, .ref 71, .ref 77, .ref 79, .int 0])) : VC) :: ((textC 1 ++ readerC 3 ++ roomC 5 ++ roomC 11 ++ pastC 17 ++ sightsC 67 ++ searchC 71 ++ couplesC 77) ++ (Sum.inr (Sum.inl (refsI 80 2 2)) : VC) :: roomsI 80 2))
  refine V.iload_n dX7_init_102 rfl ?_
  refine V.iconst (v := nI 2) dX7_init_103 (by decide) ?_
  refine V.icmp_geN 126 dX7_init_104 (by decide) (by omega) (by omega) (fun hc => ?_) (fun hc => absurd hc (by omega))
  refine V.aload_n dX7_init_126 rfl ?_
  refine V.iconst (v := nI 0) dX7_init_127 (by decide) ?_
  refine V.putic rfl fX7_65 dX7_init_128 (Nat.le_of_ble_eq_true rfl) ?_
  dsimp only [List.set]
  refine V.iconst (v := nI 0) dX7_init_131 (by decide) ?_
  refine V.istore_n (i := 1) dX7_init_132 rfl rfl rfl ?_
  dsimp only [List.set]
  show V _ _ _ [some (.ref 0), some (.int (nI 0))] _ heap0
  exact L 0 (by omega) heap0 VFr.rf cat0.2.1
