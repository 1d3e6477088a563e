/-! STEPS: rows of sides as numbers to the base of 4 behind a leading 1: shorter ones first, then by sides -/
def folG (st : Nat → Nat → Option Nat) (c0 : Nat) (n : Nat) : Option Nat := if n < 4 then (if n = 1 then some c0 else none) else (folG st c0 (n / 4)).bind (fun c => st c (n % 4))
termination_by n
decreasing_by omega
def lnG (n : Nat) : Nat := if n < 4 then 0 else lnG (n / 4) + 1
termination_by n
decreasing_by omega
section
variable {st : Nat → Nat → Option Nat} {c0 : Nat}
theorem fol_1 : folG st c0 1 = some c0 := by rw [folG, if_pos (by omega), if_pos rfl]
theorem fol_ap {n s c : Nat} (hn : folG st c0 n = some c) (h1 : 1 ≤ n) (hs : s < 4) : folG st c0 (4 * n + s) = st c s := by
  rw [folG, if_neg (by omega), show (4 * n + s) / 4 = n by omega, show (4 * n + s) % 4 = s by omega, hn]; rfl
theorem fol_inv {n c : Nat} (h : folG st c0 n = some c) : (n = 1 ∧ c = c0) ∨ ∃ n' s b, n = 4 * n' + s ∧ s < 4 ∧ 1 ≤ n' ∧ folG st c0 n' = some b ∧ st b s = some c := by
  rw [folG] at h
  by_cases h4 : n < 4
  · rw [if_pos h4] at h
    by_cases h1 : n = 1
    · rw [if_pos h1] at h; exact Or.inl ⟨h1, (Option.some.inj h).symm⟩
    · rw [if_neg h1] at h; cases h
  · rw [if_neg h4] at h
    cases hb : folG st c0 (n / 4) with
    | none => rw [hb] at h; cases h
    | some b =>
      rw [hb] at h
      exact Or.inr ⟨n / 4, n % 4, b, by omega, by omega, by omega, hb, h⟩
theorem fol_pos {n c : Nat} (h : folG st c0 n = some c) : 1 ≤ n := by
  rcases fol_inv h with ⟨h1, -⟩ | ⟨n', s, b, h1, -, h2, -⟩ <;> omega
theorem ln_small {n : Nat} (h : n < 4) : lnG n = 0 := by rw [lnG, if_pos h]
theorem ln_ap {n s : Nat} (h1 : 1 ≤ n) (hs : s < 4) : lnG (4 * n + s) = lnG n + 1 := by
  rw [lnG, if_neg (by omega), show (4 * n + s) / 4 = n by omega]
theorem ln_big {n : Nat} (h : ¬ n < 4) : lnG n = lnG (n / 4) + 1 := by rw [lnG, if_neg h]
theorem ln_mono : ∀ m n, n ≤ m → lnG n ≤ lnG m := by
  intro m
  induction m using Nat.strongRecOn with
  | ind m ih =>
    intro n hn
    by_cases h : n < 4
    · rw [ln_small h]; exact Nat.zero_le _
    · rw [ln_big h, ln_big (show ¬ m < 4 by omega)]
      have := ih (m / 4) (by omega) (n / 4) (by omega)
      omega
/-- the least row that ends where it should -/
def MinG (st : Nat → Nat → Option Nat) (c0 : Nat) (gl : Nat → Prop) (o : Option Nat) : Prop := (o = none → ∀ m c, folG st c0 m = some c → ¬ gl c) ∧ ∀ N, o = some N → (∃ c, folG st c0 N = some c ∧ gl c) ∧ ∀ m c, folG st c0 m = some c → gl c → N ≤ m
theorem min_uniq {gl : Nat → Prop} {o o' : Option Nat} (h : MinG st c0 gl o) (h' : MinG st c0 gl o') : o = o' := by
  cases o with
  | none =>
    cases o' with
    | none => rfl
    | some N =>
      obtain ⟨⟨c, h1, h2⟩, -⟩ := h'.2 N rfl
      exact absurd h2 (h.1 rfl N c h1)
  | some N =>
    obtain ⟨⟨c, h1, h2⟩, h3⟩ := h.2 N rfl
    cases o' with
    | none => exact absurd h2 (h'.1 rfl N c h1)
    | some N' =>
      obtain ⟨⟨c', h1', h2'⟩, h3'⟩ := h'.2 N' rfl
      have := h3 N' c' h1' h2'
      have := h3' N c h1 h2
      rw [show N = N' by omega]
theorem min_exists (gl : Nat → Prop) : ∃ o, MinG st c0 gl o := by
  rcases Classical.em (∃ m c, folG st c0 m = some c ∧ gl c) with h | h
  · obtain ⟨m, c, h1, h2⟩ := h
    have key : ∀ m, (∃ c, folG st c0 m = some c ∧ gl c) → ∃ N, (∃ c, folG st c0 N = some c ∧ gl c) ∧ ∀ m c, folG st c0 m = some c → gl c → N ≤ m := by
      intro m
      induction m using Nat.strongRecOn with
      | ind m ih =>
        intro hm
        rcases Classical.em (∃ m', m' < m ∧ ∃ c, folG st c0 m' = some c ∧ gl c) with ⟨m', hl, q⟩ | hno
        · exact ih m' hl q
        · refine ⟨m, hm, fun m' c h1 h2 => ?_⟩
          rcases Nat.lt_or_ge m' m with z | z
          · exact absurd ⟨m', z, c, h1, h2⟩ hno
          · exact z
    obtain ⟨N, hN⟩ := key m ⟨c, h1, h2⟩
    exact ⟨some N, fun z => (by cases z), fun N' e => by cases e; exact hN⟩
  · exact ⟨none, fun _ m c h1 h2 => h ⟨m, c, h1, h2⟩, fun N e => by cases e⟩
end
theorem cntP_congr {P Q : Nat → Prop} [DecidablePred P] [DecidablePred Q] : ∀ n, (∀ i, i < n → (P i ↔ Q i)) → cntP P n = cntP Q n
  | 0, _ => rfl
  | n + 1, h => by
    have ih := cntP_congr (P := P) (Q := Q) n (fun i hi => h i (by omega))
    have hn := h n (by omega)
    by_cases e : P n
    · rw [cntP_pos e, cntP_pos (hn.mp e), ih]
    · rw [cntP_neg e, cntP_neg (fun u => e (hn.mpr u)), ih]
theorem cnt_up {P Q : Nat → Prop} [DecidablePred P] [DecidablePred Q] {c : Nat} (hP : ¬ P c) (hQ : ∀ i, Q i ↔ (i = c ∨ P i)) : ∀ n, c < n → cntP Q n = cntP P n + 1
  | 0, h => by omega
  | n + 1, h => by
    by_cases e : n = c
    · have h1 : cntP Q n = cntP P n := cntP_congr n (fun i hi => by rw [hQ i]; exact ⟨fun u => u.elim (fun z => absurd z (by omega)) id, Or.inr⟩)
      rw [cntP_pos ((hQ n).mpr (Or.inl e)), cntP_neg (by rw [e]; exact hP), h1]
    · have ih := cnt_up hP hQ n (by omega)
      by_cases e2 : P n
      · rw [cntP_pos ((hQ n).mpr (Or.inr e2)), cntP_pos e2, ih]
      · rw [cntP_neg (fun u => ((hQ n).mp u).elim e e2), cntP_neg e2, ih]
theorem cnt_lt {P : Nat → Prop} [DecidablePred P] {c : Nat} (hP : ¬ P c) : ∀ n, c < n → cntP P n < n
  | 0, h => by omega
  | n + 1, h => by
    by_cases e : n = c
    · rw [cntP_neg (by rw [e]; exact hP)]; have := cntP_le (P := P) n; omega
    · have ih := cnt_lt hP n (by omega)
      simp only [cntP]
      split <;> omega
/-- what holds while places are found: those found, with which row, how many, whose turn, which side's -/
def Bfs (st : Nat → Nat → Option Nat) (c0 : Nat) (gl : Nat → Prop) (fs cd : Nat → Nat) (n i s : Nat) : Prop :=
  (∀ j, j < n → fs j < 81 ∧ cd (fs j) ≠ 0 ∧ folG st c0 (cd (fs j)) = some (fs j) ∧ lnG (cd (fs j)) ≤ j) ∧
  (∀ c, cd c ≠ 0 → ∃ j, j < n ∧ fs j = c) ∧ (∀ j k, j < k → k < n → cd (fs j) < cd (fs k)) ∧
  (∀ c m, cd c ≠ 0 → folG st c0 m = some c → cd c ≤ m) ∧
  (∀ j s' c, j < n → s' < 4 → (j < i ∨ (j = i ∧ s' < s)) → st (fs j) s' = some c → cd c ≠ 0) ∧
  (∀ k, k < n → i < n → cd (fs k) < 4 * cd (fs i) + s) ∧ (∀ j, j < i → j < n → ¬ gl (fs j)) ∧
  cntP (fun c => cd c ≠ 0) 81 = n ∧ cd c0 ≠ 0 ∧ 1 ≤ n
section
variable {st : Nat → Nat → Option Nat} {c0 : Nat} {gl : Nat → Prop} {fs cd : Nat → Nat} {n i s : Nat}
theorem bfs_init (h0 : c0 < 81) : Bfs st c0 gl (fun _ => c0) (fun c => if c = c0 then 1 else 0) 1 0 0 := by
  refine ⟨fun j hj => ⟨h0, ?_, ?_, ?_⟩, fun c hc => ⟨0, by omega, ?_⟩, fun j k h1 h2 => absurd h1 (by omega), fun c m hc hm => ?_, fun j s' c hj hs h => absurd h (by omega), fun k hk _ => ?_, fun j hj => absurd hj (by omega), ?_, ?_, Nat.le_refl 1⟩
  · show (if c0 = c0 then 1 else 0) ≠ 0; rw [if_pos rfl]; omega
  · show folG st c0 (if c0 = c0 then 1 else 0) = some c0; rw [if_pos rfl]; exact fol_1
  · show lnG (if c0 = c0 then 1 else 0) ≤ j; rw [if_pos rfl, ln_small (by omega)]; omega
  · show c0 = c
    by_cases e : c = c0
    · exact e.symm
    · exact absurd (if_neg e) hc
  · have := fol_pos hm
    show (if c = c0 then 1 else 0) ≤ m
    split <;> omega
  · show (if c0 = c0 then 1 else 0) < 4 * (if c0 = c0 then 1 else 0) + 0; rw [if_pos rfl]; omega
  · have h1 := cnt_up (P := fun _ => False) (Q := fun c => (if c = c0 then 1 else 0) ≠ 0) (c := c0) (fun u => u) (fun i => by
      by_cases e : i = c0
      · rw [if_pos e]; exact ⟨fun _ => Or.inl e, fun _ => by omega⟩
      · rw [if_neg e]; exact ⟨fun u => absurd rfl u, fun u => u.elim (fun z => absurd z e) (fun z => z.elim)⟩) 81 h0
    rw [h1]
    decide
  · show (if c0 = c0 then 1 else 0) ≠ 0; rw [if_pos rfl]; omega
/-- a row that leaves what is found leaves it at one whose turn is not over -/
theorem bfs_exit (b : Bfs st c0 gl fs cd n i s) : ∀ m c, folG st c0 m = some c → cd c ≠ 0 ∨ ∃ m1 j s1 c1, folG st c0 m1 = some (fs j) ∧ j < n ∧ s1 < 4 ∧ st (fs j) s1 = some c1 ∧ cd c1 = 0 ∧ 4 * m1 ≤ m := by
  intro m
  induction m using Nat.strongRecOn with
  | ind m ih =>
    intro c hm
    rcases fol_inv hm with ⟨-, h2⟩ | ⟨n', s', b', h1, h2, h3, h4, h5⟩
    · rw [h2]; exact Or.inl b.2.2.2.2.2.2.2.2.1
    · by_cases hc : cd c = 0
      · right
        rcases ih n' (by omega) b' h4 with hb | ⟨m1, j, s1, c1, g1, g2, g3, g4, g5, g6⟩
        · obtain ⟨j, hj, e⟩ := b.2.1 b' hb
          exact ⟨n', j, s', c, by rw [e]; exact h4, hj, h2, by rw [e]; exact h5, hc, by omega⟩
        · exact ⟨m1, j, s1, c1, g1, g2, g3, g4, g5, by omega⟩
      · exact Or.inl hc
theorem bfs_le (b : Bfs st c0 gl fs cd n i s) {j k : Nat} (h : j ≤ k) (hk : k < n) : cd (fs j) ≤ cd (fs k) := by
  rcases Nat.lt_or_ge j k with q | q
  · have := b.2.2.1 j k q hk; omega
  · rw [show j = k by omega]; exact Nat.le_refl _
theorem bfs_no (b : Bfs st c0 gl fs cd n i s) (h : ∀ c, st (fs i) s = some c → cd c ≠ 0) : Bfs st c0 gl fs cd n i (s + 1) := by
  obtain ⟨b1, b2, b3, b4, b5, b6, b7, b8⟩ := b
  refine ⟨b1, b2, b3, b4, fun j s' c hj hs q e => ?_, fun k hk hi => by have := b6 k hk hi; omega, b7, b8⟩
  by_cases z : j = i ∧ s' = s
  · obtain ⟨rfl, rfl⟩ := z; exact h c e
  · exact b5 j s' c hj hs (by omega) e
theorem bfs_add (b : Bfs st c0 gl fs cd n i s) (hi : i < n) (hs : s < 4) {c : Nat} (hc : c < 81) (he : st (fs i) s = some c) (h0 : cd c = 0) : n < 81 ∧ Bfs st c0 gl (up1 fs n c) (up1 cd c (4 * cd (fs i) + s)) (n + 1) i (s + 1) := by
  obtain ⟨b1, b2, b3, b4, b5, b6, b7, b8, b9, b10⟩ := id b
  have hn : n < 81 := by
    have := cnt_lt (P := fun c => cd c ≠ 0) (c := c) (fun u => u h0) 81 hc
    omega
  have hne : ∀ j, j < n → fs j ≠ c := fun j hj e => (b1 j hj).2.1 (by rw [e]; exact h0)
  have uf : ∀ j, j < n → up1 fs n c j = fs j := fun j hj => if_neg (by omega)
  have un : up1 fs n c n = c := if_pos rfl
  have ud : ∀ x, x ≠ c → up1 cd c (4 * cd (fs i) + s) x = cd x := fun x hx => if_neg hx
  have uc : up1 cd c (4 * cd (fs i) + s) c = 4 * cd (fs i) + s := if_pos rfl
  have hi1 := b1 i hi
  have hpos := fol_pos hi1.2.2.1
  have hnew : folG st c0 (4 * cd (fs i) + s) = some c := by rw [fol_ap hi1.2.2.1 hpos hs]; exact he
  have hmin : ∀ m, folG st c0 m = some c → 4 * cd (fs i) + s ≤ m := by
    intro m hm
    rcases fol_inv hm with ⟨-, h2⟩ | ⟨n', s', b', h1, h2, h3, h4, h5⟩
    · exact absurd h0 (by rw [h2]; exact b9)
    · rcases bfs_exit b n' b' h4 with hb | ⟨m1, j, s1, c1, g1, g2, g3, g4, g5, g6⟩
      · obtain ⟨j, hj, e⟩ := b2 b' hb
        have h4' := b4 b' n' hb h4
        rw [← e] at h5 h4'
        rcases Nat.lt_trichotomy j i with q | q | q
        · exact absurd h0 (b5 j s' c hj h2 (Or.inl q) h5)
        · subst q
          have : s ≤ s' := by
            rcases Nat.lt_or_ge s' s with z | z
            · exact absurd h0 (b5 j s' c hj h2 (Or.inr ⟨rfl, z⟩) h5)
            · exact z
          omega
        · have := b3 i j q hj
          omega
      · have h4' := b4 (fs j) m1 (b1 j g2).2.1 g1
        have : i ≤ j := by
          rcases Nat.lt_or_ge j i with z | z
          · exact absurd g5 (b5 j s1 c1 g2 g3 (Or.inl z) g4)
          · exact z
        have := bfs_le b this g2
        omega
  refine ⟨hn, fun j hj => ?_, fun x hx => ?_, fun j k hjk hk => ?_, fun x m hx hm => ?_, fun j s' x hj hs' q e => ?_, fun k hk hi' => ?_, fun j hji hj => ?_, ?_, ?_, by omega⟩
  · by_cases e : j = n
    · rw [e, un, uc]
      exact ⟨hc, by omega, hnew, by rw [ln_ap hpos hs]; omega⟩
    · have hj' : j < n := by omega
      rw [uf j hj', ud _ (hne j hj')]
      exact b1 j hj'
  · by_cases e : x = c
    · exact ⟨n, by omega, by rw [un, e]⟩
    · rw [ud x e] at hx
      obtain ⟨j, hj, q⟩ := b2 x hx
      exact ⟨j, by omega, by rw [uf j hj]; exact q⟩
  · rw [uf j (by omega), ud _ (hne j (by omega))]
    by_cases e : k = n
    · rw [e, un, uc]; exact b6 j (by omega) hi
    · rw [uf k (by omega), ud _ (hne k (by omega))]; exact b3 j k hjk (by omega)
  · by_cases e : x = c
    · rw [e, uc]; rw [e] at hm; exact hmin m hm
    · rw [ud x e] at hx ⊢; exact b4 x m hx hm
  · by_cases ex : x = c
    · rw [ex, uc]; omega
    · rw [ud x ex]
      by_cases ej : j = n
      · omega
      · rw [uf j (by omega)] at e
        by_cases z : j = i ∧ s' = s
        · obtain ⟨rfl, rfl⟩ := z
          rw [he] at e; exact absurd (Option.some.inj e).symm ex
        · exact b5 j s' x (by omega) hs' (by omega) e
  · rw [uf i hi, ud _ (hne i hi)]
    by_cases e : k = n
    · rw [e, un, uc]; omega
    · rw [uf k (by omega), ud _ (hne k (by omega))]
      have := b6 k (by omega) hi; omega
  · rw [uf j (by omega)]; exact b7 j hji (by omega)
  · have h1 := cnt_up (P := fun x => cd x ≠ 0) (Q := fun x => up1 cd c (4 * cd (fs i) + s) x ≠ 0) (c := c) (fun u => u h0) (fun x => by
      by_cases e : x = c
      · rw [e, uc]; exact ⟨fun _ => Or.inl rfl, fun _ => by omega⟩
      · rw [ud x e]; exact ⟨Or.inr, fun u => u.elim (fun z => absurd z e) id⟩) 81 hc
    rw [h1, b8]
  · by_cases e : c0 = c
    · rw [e, uc]; omega
    · rw [ud c0 e]; exact b9
theorem bfs_next (b : Bfs st c0 gl fs cd n i 4) (hi : i < n) (hg : ¬ gl (fs i)) : Bfs st c0 gl fs cd n (i + 1) 0 := by
  obtain ⟨b1, b2, b3, b4, b5, b6, b7, b8⟩ := b
  refine ⟨b1, b2, b3, b4, fun j s' c hj hs q e => b5 j s' c hj hs (by omega) e, fun k hk hi' => ?_, fun j hj hjn => ?_, b8⟩
  · have h1 := b6 k hk hi
    have h2 := b3 i (i + 1) (by omega) hi'
    omega
  · by_cases e : j = i
    · rw [e]; exact hg
    · exact b7 j (by omega) hjn
theorem bfs_end (b : Bfs st c0 gl fs cd n n s) : MinG st c0 gl none := by
  refine ⟨fun _ m c hm => ?_, fun N e => by cases e⟩
  rcases bfs_exit b m c hm with hc | ⟨m1, j, s1, c1, g1, g2, g3, g4, g5, g6⟩
  · obtain ⟨j, hj, e⟩ := b.2.1 c hc
    rw [← e]; exact b.2.2.2.2.2.2.1 j hj hj
  · exact absurd g5 (b.2.2.2.2.1 j s1 c1 g2 g3 (Or.inl g2) g4)
theorem bfs_goal (b : Bfs st c0 gl fs cd n i 0) (hi : i < n) (hg : gl (fs i)) : MinG st c0 gl (some (cd (fs i))) := by
  refine ⟨fun e => (by cases e), fun N e => ?_⟩
  cases e
  refine ⟨⟨fs i, (b.1 i hi).2.2.1, hg⟩, fun m c hm hc => ?_⟩
  rcases bfs_exit b m c hm with h | ⟨m1, j, s1, c1, g1, g2, g3, g4, g5, g6⟩
  · obtain ⟨j, hj, e⟩ := b.2.1 c h
    have : i ≤ j := by
      rcases Nat.lt_or_ge j i with z | z
      · exact absurd (by rw [e]; exact hc) (b.2.2.2.2.2.2.1 j z hj)
      · exact z
    have h1 := bfs_le b this hj
    have h2 := b.2.2.2.1 c m h hm
    rw [e] at h1
    omega
  · have : i ≤ j := by
      rcases Nat.lt_or_ge j i with z | z
      · exact absurd g5 (b.2.2.2.2.1 j s1 c1 g2 g3 (Or.inl z) g4)
      · exact z
    have h1 := bfs_le b this g2
    have h2 := b.2.2.2.1 (fs j) m1 (b.1 j g2).2.1 g1
    omega
end
