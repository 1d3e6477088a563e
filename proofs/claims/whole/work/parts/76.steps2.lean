/-! STEPS by how far it is: the reference's way -/
theorem php : ∀ (N d : Nat) (F : Nat → Nat), (∀ v, v ≤ d → ∃ c, c < N ∧ F c = v) → d < N := by
  intro N
  induction N with
  | zero => intro d F h; obtain ⟨c, hc, -⟩ := h 0 (by omega); omega
  | succ N ih =>
    intro d F h
    rcases Nat.eq_zero_or_pos d with e | e
    · omega
    · by_cases hu : F N ≤ d
      · have := ih (d - 1) (fun c => if F N < F c then F c - 1 else F c) (fun v hv => by
          by_cases hvu : v < F N
          · obtain ⟨c, h1, h2⟩ := h v (by omega)
            have : c ≠ N := fun q => by rw [q] at h2; omega
            refine ⟨c, by omega, ?_⟩
            show (if F N < F c then F c - 1 else F c) = v
            rw [if_neg (by omega)]; exact h2
          · obtain ⟨c, h1, h2⟩ := h (v + 1) (by omega)
            have : c ≠ N := fun q => by rw [q] at h2; omega
            refine ⟨c, by omega, ?_⟩
            show (if F N < F c then F c - 1 else F c) = v
            rw [if_pos (by omega)]; omega)
        omega
      · have := ih d F (fun v hv => by
          obtain ⟨c, h1, h2⟩ := h v hv
          have : c ≠ N := fun q => by rw [q] at h2; omega
          exact ⟨c, by omega, h2⟩)
        omega
/-- how far each place is from where it should be: what measuring ends with -/
def FarG (st : Nat → Nat → Option Nat) (c0 : Nat) (gl : Nat → Prop) (ac : Nat → Prop) (F : Nat → Nat) : Prop :=
  ac c0 ∧ (∀ c, ac c → c < 81 ∧ F c ≤ 999 ∧ (F c = 0 ↔ gl c)) ∧ (∀ c, ac c → 0 < F c → F c < 999 → ∃ s c', s < 4 ∧ st c s = some c' ∧ F c' + 1 = F c) ∧ (∀ c s c', ac c → s < 4 → st c s = some c' → ac c' ∧ F c ≤ F c' + 1)
section
variable {st : Nat → Nat → Option Nat} {c0 : Nat} {gl ac : Nat → Prop} {F : Nat → Nat}
theorem far_ac (f : FarG st c0 gl ac F) : ∀ m c, folG st c0 m = some c → ac c := by
  intro m
  induction m using Nat.strongRecOn with
  | ind m ih =>
    intro c hm
    rcases fol_inv hm with ⟨-, h2⟩ | ⟨n', s', b', h1, h2, h3, h4, h5⟩
    · rw [h2]; exact f.1
    · exact (f.2.2.2 b' s' c (ih n' (by omega) b' h4) h2 h5).1
theorem far_chain (f : FarG st c0 gl ac F) : ∀ d c, ac c → F c = d → d < 999 → ∀ v, v ≤ d → ∃ c', ac c' ∧ F c' = v := by
  intro d
  induction d with
  | zero => intro c h1 h2 _ v hv; exact ⟨c, h1, by omega⟩
  | succ d ih =>
    intro c h1 h2 h3 v hv
    by_cases e : v = d + 1
    · exact ⟨c, h1, by omega⟩
    · obtain ⟨s, c', q1, q2, q3⟩ := f.2.2.1 c h1 (by omega) (by omega)
      exact ih c' (f.2.2.2 c s c' h1 q1 q2).1 (by omega) (by omega) v (by omega)
theorem far_small (f : FarG st c0 gl ac F) {c : Nat} (hc : ac c) (h : F c < 999) : F c ≤ 80 := by
  have := php 81 (F c) F (fun v hv => by
    obtain ⟨c', h1, h2⟩ := far_chain f (F c) c hc rfl h v hv
    exact ⟨c', (f.2.1 c' h1).1, h2⟩)
  omega
theorem far_none (f : FarG st c0 gl ac F) (h : F c0 = 999) : MinG st c0 gl none := by
  have key : ∀ m c, folG st c0 m = some c → F c = 999 := by
    intro m
    induction m using Nat.strongRecOn with
    | ind m ih =>
      intro c hm
      have hac := far_ac f m c hm
      rcases fol_inv hm with ⟨-, h2⟩ | ⟨n', s', b', h1, h2, h3, h4, h5⟩
      · rw [h2]; exact h
      · have hb := ih n' (by omega) b' h4
        have q := f.2.2.2 b' s' c (far_ac f n' b' h4) h2 h5
        have q2 := f.2.1 c hac
        rcases Nat.lt_or_ge (F c) 999 with z | z
        · have := far_small f hac z; omega
        · omega
  refine ⟨fun _ m c hm hg => ?_, fun N e => by cases e⟩
  have h1 := key m c hm
  have h2 := (f.2.1 c (far_ac f m c hm)).2.2.mpr hg
  omega
theorem div4 {m j : Nat} : m / 4 ^ (j + 1) = m / 4 ^ j / 4 := by rw [Nat.pow_succ, Nat.div_div_eq_div_mul]
theorem far_pre (f : FarG st c0 gl ac F) {m b : Nat} (hm : folG st c0 m = some b) : ∀ j, j ≤ lnG m → ∃ b', folG st c0 (m / 4 ^ j) = some b' ∧ lnG (m / 4 ^ j) + j = lnG m ∧ F b' ≤ F b + j
  | 0, _ => ⟨b, by rw [Nat.pow_zero, Nat.div_one]; exact hm, by rw [Nat.pow_zero, Nat.div_one]; omega, by omega⟩
  | j + 1, h => by
    obtain ⟨b', h1, h2, h3⟩ := far_pre f hm j (by omega)
    rcases fol_inv h1 with ⟨q1, -⟩ | ⟨n', s', b2, q1, q2, q3, q4, q5⟩
    · rw [q1, ln_small (by omega)] at h2; omega
    · refine ⟨b2, ?_, ?_, ?_⟩
      · rw [div4, q1, show (4 * n' + s') / 4 = n' by omega]; exact q4
      · rw [q1, ln_ap q3 q2] at h2
        rw [div4, q1, show (4 * n' + s') / 4 = n' by omega]; omega
      · have := (f.2.2.2 b2 s' b' (far_ac f n' b2 q4) q2 q5).2
        omega
theorem far_low (f : FarG st c0 gl ac F) {m b : Nat} (hm : folG st c0 m = some b) : F c0 ≤ F b + lnG m := by
  obtain ⟨b', h1, h2, h3⟩ := far_pre f hm (lnG m) (Nat.le_refl _)
  rcases fol_inv h1 with ⟨-, q2⟩ | ⟨n', s', b2, q1, q2, q3, q4, q5⟩
  · rw [← q2]; exact h3
  · rw [q1, ln_ap q3 q2] at h2; omega
theorem far_ext (f : FarG st c0 gl ac F) : ∀ e g c, folG st c0 g = some c → F c = e → e < 999 → ∃ M c', folG st c0 M = some c' ∧ gl c' ∧ M / 4 ^ e = g ∧ lnG M = lnG g + e := by
  intro e
  induction e with
  | zero =>
    intro g c h1 h2 _
    exact ⟨g, c, h1, (f.2.1 c (far_ac f g c h1)).2.2.mp h2, by rw [Nat.pow_zero, Nat.div_one], rfl⟩
  | succ e ih =>
    intro g c h1 h2 h3
    obtain ⟨s, c', q1, q2, q3⟩ := f.2.2.1 c (far_ac f g c h1) (by omega) (by omega)
    have hp := fol_pos h1
    obtain ⟨M, c2, g1, g2, g3, g4⟩ := ih (4 * g + s) c' (by rw [fol_ap h1 hp q1]; exact q2) (by omega) (by omega)
    refine ⟨M, c2, g1, g2, ?_, ?_⟩
    · rw [div4, g3]; omega
    · rw [g4, ln_ap hp q1]; omega
/-- going down by the first side each time, after t steps -/
def GrdG (st : Nat → Nat → Option Nat) (c0 : Nat) (F : Nat → Nat) (t g c : Nat) : Prop := folG st c0 g = some c ∧ lnG g = t ∧ F c + t = F c0 ∧ ∀ m b, folG st c0 m = some b → lnG m = t → F b + t ≤ F c0 → g ≤ m
theorem grd_0 : GrdG st c0 F 0 1 c0 := ⟨fol_1, ln_small (by omega), rfl, fun m b hm _ _ => fol_pos hm⟩
theorem grd_step (f : FarG st c0 gl ac F) {t g c s c' : Nat} (w : GrdG st c0 F t g c) (hs : s < 4) (he : st c s = some c') (hF : F c' + 1 = F c) (hl : ∀ s' c2, s' < s → st c s' = some c2 → F c2 + 1 ≠ F c) : GrdG st c0 F (t + 1) (4 * g + s) c' := by
  obtain ⟨w1, w2, w3, w4⟩ := w
  have hp := fol_pos w1
  refine ⟨by rw [fol_ap w1 hp hs]; exact he, by rw [ln_ap hp hs, w2], by omega, fun m b hm hln hFb => ?_⟩
  rcases fol_inv hm with ⟨q1, -⟩ | ⟨n', s', b2, q1, q2, q3, q4, q5⟩
  · rw [q1, ln_small (by omega)] at hln; omega
  · rw [q1, ln_ap q3 q2] at hln
    have h1 := (f.2.2.2 b2 s' b (far_ac f n' b2 q4) q2 q5).2
    have h2 := w4 n' b2 q4 (by omega) (by omega)
    rcases Nat.lt_or_ge g n' with z | z
    · omega
    · have e : g = n' := by omega
      subst e
      rw [w1] at q4
      cases q4
      have : s ≤ s' := by
        rcases Nat.lt_or_ge s' s with y | y
        · exact absurd (show F b + 1 = F c by omega) (hl s' b y q5)
        · exact y
      omega
theorem min_len (f : FarG st c0 gl ac F) (h : F c0 < 999) {N : Nat} (hN : MinG st c0 gl (some N)) : lnG N = F c0 := by
  obtain ⟨⟨c, h1, h2⟩, h3⟩ := hN.2 N rfl
  have h4 := far_low f h1
  rw [(f.2.1 c (far_ac f N c h1)).2.2.mpr h2] at h4
  obtain ⟨M, c', g1, g2, g3, g4⟩ := far_ext f (F c0) 1 c0 fol_1 rfl h
  have h5 := ln_mono M N (h3 M c' g1 g2)
  rw [g4, ln_small (n := 1) (by omega)] at h5
  omega
theorem grd_eq (f : FarG st c0 gl ac F) (h : F c0 < 999) {N : Nat} (hN : MinG st c0 gl (some N)) {t g c : Nat} (ht : t ≤ F c0) (w : GrdG st c0 F t g c) : g = N / 4 ^ (F c0 - t) := by
  have hl := min_len f h hN
  obtain ⟨⟨cN, h1, h2⟩, h3⟩ := hN.2 N rfl
  obtain ⟨w1, w2, w3, w4⟩ := w
  have hz := (f.2.1 cN (far_ac f N cN h1)).2.2.mpr h2
  obtain ⟨b', p1, p2, p3⟩ := far_pre f h1 (F c0 - t) (by omega)
  have q1 := w4 _ b' p1 (by omega) (by omega)
  obtain ⟨M, c', g1, g2, g3, g4⟩ := far_ext f (F c) g c w1 rfl (by omega)
  have q2 := Nat.div_le_div_right (c := 4 ^ (F c0 - t)) (h3 M c' g1 g2)
  rw [show F c0 - t = F c by omega] at q1 q2 ⊢
  rw [g3] at q2
  omega
theorem min_some (f : FarG st c0 gl ac F) (h : F c0 < 999) {o : Option Nat} (hN : MinG st c0 gl o) : ∃ N, o = some N := by
  cases o with
  | some N => exact ⟨N, rfl⟩
  | none =>
    obtain ⟨M, c', g1, g2, -⟩ := far_ext f (F c0) 1 c0 fol_1 rfl h
    exact absurd g2 (hN.1 rfl M c' g1)
end
/-- what steps answers -/
def a_stepsO (o : Option Nat) (k : Int) : Int32 := match o with
  | none => iI (-4)
  | some N => if k = -1 then nI (lnG N) else if k < ((lnG N : Nat) : Int) then nI (N / 4 ^ (lnG N - 1 - k.toNat) % 4) else iI (-4)
def a_steps (T : Sy) (p w k : Int) (o : Option Nat) : Int32 := if (isP T p ∧ 0 ≤ w ∧ w < ((8 : Nat) : Int)) ∧ -1 ≤ k then a_stepsO o k else iI (-1)
/-- to where p, at c, can step -/
def stpF (S : Rm) (p c s : Nat) : Option Nat := if canF (rPut S p (c / 9) (c % 9)) p s then some ((((c / 9 : Nat) : Int) + dxF s).toNat * 9 + (((c % 9 : Nat) : Int) + dyF s).toNat) else none
def golF (S : Rm) (p w c : Nat) : Prop := draftF (rPut S p (c / 9) (c % 9)) p = some w
theorem put_x {S : Rm} {p x y : Nat} : rX (rPut S p x y) p = x := if_pos rfl
theorem put_y {S : Rm} {p x y : Nat} : rY (rPut S p x y) p = y := if_pos rfl
theorem stp_some {S : Rm} (hB : RmB S) {p c s c' : Nat} (h : stpF S p c s = some c') : canF (rPut S p (c / 9) (c % 9)) p s ∧ (0 ≤ ((c / 9 : Nat) : Int) + dxF s ∧ ((c / 9 : Nat) : Int) + dxF s < (rW S : Nat)) ∧ (0 ≤ ((c % 9 : Nat) : Int) + dyF s ∧ ((c % 9 : Nat) : Int) + dyF s < (rH S : Nat)) ∧ c' < 81 ∧ c' / 9 = (((c / 9 : Nat) : Int) + dxF s).toNat ∧ c' % 9 = (((c % 9 : Nat) : Int) + dyF s).toNat := by
  unfold stpF at h
  split at h
  · next q =>
    have q1 := q.1
    unfold sxF syF at q1
    rw [put_x, put_y] at q1
    have bw := hB.2.1
    have bh := hB.2.2.1
    have e := Option.some.inj h
    have r1 : 0 ≤ ((c / 9 : Nat) : Int) + dxF s ∧ ((c / 9 : Nat) : Int) + dxF s < (rW S : Nat) := q1.1
    have r2 : 0 ≤ ((c % 9 : Nat) : Int) + dyF s ∧ ((c % 9 : Nat) : Int) + dyF s < (rH S : Nat) := q1.2
    exact ⟨q, r1, r2, by omega, by omega, by omega⟩
  · cases h
theorem stp_none {S : Rm} {p c s : Nat} (h : ¬ canF (rPut S p (c / 9) (c % 9)) p s) : stpF S p c s = none := if_neg h
theorem stp_can {S : Rm} {p c s : Nat} (h : canF (rPut S p (c / 9) (c % 9)) p s) : stpF S p c s = some ((((c / 9 : Nat) : Int) + dxF s).toNat * 9 + (((c % 9 : Nat) : Int) + dyF s).toNat) := if_pos h
