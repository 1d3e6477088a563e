/-- mates by both sides, who lean toward each other -/
def MCo (S : Rm) (M : Mt) : Prop := ∀ a b, a < rN S → M a = some b → b < rN S ∧ b ≠ a ∧ M b = some a ∧ 0 < rL S a b ∧ 0 < rL S b a
/-- from k on none but by those below -/
def InvM (S : Rm) (M : Mt) (k : Nat) : Prop := MCo S M ∧ ∀ a b, k ≤ a → a < rN S → M a = some b → b < k
abbrev may0 (S : Rm) (M : Mt) (k b : Nat) : Prop := b = rN S ∨ (b ≠ k ∧ 0 < rL S k b ∧ 0 < rL S b k ∧ (k < b ∨ M b = some k))
abbrev clA (S : Rm) (M : Mt) (k b a : Nat) : Prop := (M a ≠ some k ∨ b = a) ∧ (M a ≠ some b ∨ b = rN S)
abbrev mayQ (S : Rm) (M : Mt) (k b j : Nat) : Prop := may0 S M k b ∧ ∀ a, a < j → clA S M k b a
def restK (S : Rm) (d k : Nat) (M : Mt) (c : Nat) : Option Mt := match M k with
  | some f => if c ≤ f then pairF S d M else none
  | none => if c ≤ rN S then tryG (pairF S d) S M k (rN S - max c (k + 1)) else none
def newM (S : Rm) (M : Mt) (k b : Nat) : Mt := if k < b ∧ b < rN S then setM M k b else M
theorem rest_s {S : Rm} {d k c f : Nat} {M : Mt} (h : M k = some f) : restK S d k M c = if c ≤ f then pairF S d M else none := by unfold restK; rw [h]
theorem rest_n {S : Rm} {d k c : Nat} {M : Mt} (h : M k = none) : restK S d k M c = if c ≤ rN S then tryG (pairF S d) S M k (rN S - max c (k + 1)) else none := by unfold restK; rw [h]
theorem pair_rest {S : Rm} {d k : Nat} {M : Mt} (hk : k + (d + 1) = rN S) : pairF S (d + 1) M = restK S d k M 0 := by
  cases hm : M k with
  | none => rw [pair_free hk hm, rest_n hm, if_pos (by omega), show rN S - max 0 (k + 1) = d by omega]
  | some f => rw [pair_set hk (by rw [hm]; exact fun z => by cases z), rest_s hm, if_pos (by omega)]
theorem rest_end {S : Rm} {d k : Nat} {M : Mt} (w : InvM S M k) (hk : k + (d + 1) = rN S) : restK S d k M (rN S + 1) = none := by
  cases hm : M k with
  | none => rw [rest_n hm, if_neg (by omega)]
  | some f =>
    have := (w.1 k f (by omega) hm).1
    rw [rest_s hm, if_neg (by omega)]
theorem or_none1 {o : Option Mt} : o.or none = o := by cases o <;> rfl
theorem set_k {M : Mt} {k c : Nat} : setM M k c k = some c := if_pos rfl
theorem set_c {M : Mt} {k c : Nat} (h : c ≠ k) : setM M k c c = some k := by unfold setM; rw [if_neg h, if_pos rfl]
theorem set_o {M : Mt} {k c a : Nat} (h1 : a ≠ k) (h2 : a ≠ c) : setM M k c a = M a := by unfold setM; rw [if_neg h1, if_neg h2]
theorem rest_yes {S : Rm} {d k c : Nat} {M : Mt} (w : InvM S M k) (hk : k + (d + 1) = rN S) (hc : c ≤ rN S) (hm : mayQ S M k c k) : restK S d k M c = (pairF S d (newM S M k c)).or (restK S d k M (c + 1)) ∧ InvM S (newM S M k c) (k + 1) ∧ (newM S M k c k).getD (rN S) = c ∧ ∀ a, a < k → newM S M k c a = M a := by
  obtain ⟨w1, w2⟩ := id w
  have hkn : k < rN S := by omega
  cases hmk : M k with
  | some f =>
    have hf := w2 k f (Nat.le_refl _) hkn hmk
    have hcf := w1 k f hkn hmk
    have hcl := (hm.2 f hf).1
    have e : c = f := hcl.elim (fun z => absurd hcf.2.2.1 z) id
    have en : newM S M k c = M := if_neg (by omega)
    rw [en, rest_s hmk, rest_s hmk, if_pos (by omega), if_neg (by omega), or_none1]
    exact ⟨rfl, ⟨w1, fun a b h1 h2 h3 => by have := w2 a b (by omega) h2 h3; omega⟩, by rw [hmk]; exact e.symm, fun _ _ => rfl⟩
  | none =>
    by_cases e : c = rN S
    · have en : newM S M k c = M := if_neg (by omega)
      rw [en, rest_n hmk, rest_n hmk, if_pos (by omega), if_neg (by omega), or_none1, show rN S - max c (k + 1) = 0 by omega, try_0]
      exact ⟨rfl, ⟨w1, fun a b h1 h2 h3 => by have := w2 a b (by omega) h2 h3; omega⟩, by rw [hmk]; exact e.symm, fun _ _ => rfl⟩
    · have hcn : c < rN S := by omega
      obtain ⟨m1, m2, m3, m4⟩ := hm.1.elim (fun z => absurd z e) id
      have hkc : k < c := m4.elim id (fun z => by
        have y := (w1 c k hcn z).2.2.1
        rw [hmk] at y; cases y)
      have hmc : M c = none := by
        cases hq : M c with
        | none => rfl
        | some b =>
          have y1 := w2 c b (by omega) hcn hq
          have y2 := (w1 c b hcn hq).2.2.1
          exact ((hm.2 b y1).2.elim (fun z => absurd y2 z) (fun z => absurd z e))
      have en : newM S M k c = setM M k c := if_pos ⟨hkc, hcn⟩
      obtain ⟨e9, he9⟩ : ∃ e9, c + (e9 + 1) = rN S := ⟨rN S - c - 1, by omega⟩
      rw [en, rest_n hmk, rest_n hmk, if_pos (by omega), if_pos (by omega), show rN S - max c (k + 1) = e9 + 1 by omega, show rN S - max (c + 1) (k + 1) = e9 by omega, try_yes he9 ⟨hmc, m2, m3⟩]
      refine ⟨rfl, ⟨fun a b h1 h2 => ?_, fun a b h1 h2 h3 => ?_⟩, by rw [set_k]; rfl, fun a ha => set_o (by omega) (by omega)⟩
      · by_cases q1 : a = k
        · rw [q1, set_k] at h2
          cases h2
          rw [q1]
          exact ⟨hcn, m1, set_c m1, m2, m3⟩
        · by_cases q2 : a = c
          · rw [q2, set_c m1] at h2
            cases h2
            rw [q2]
            exact ⟨hkn, by omega, set_k, m3, m2⟩
          · rw [set_o q1 q2] at h2
            have y := w1 a b h1 h2
            have n1 : b ≠ k := fun z => by rw [z, hmk] at y; cases y.2.2.1
            have n2 : b ≠ c := fun z => by rw [z, hmc] at y; cases y.2.2.1
            rw [set_o n1 n2]
            exact y
      · by_cases q2 : a = c
        · rw [q2, set_c m1] at h3; cases h3; omega
        · rw [set_o (by omega) q2] at h3
          have := w2 a b (by omega) h2 h3; omega
theorem rest_no {S : Rm} {d k c : Nat} {M : Mt} (w : InvM S M k) (hk : k + (d + 1) = rN S) (hc : c ≤ rN S) (hm : ¬ mayQ S M k c k) : restK S d k M c = restK S d k M (c + 1) := by
  obtain ⟨w1, w2⟩ := id w
  have hkn : k < rN S := by omega
  cases hmk : M k with
  | some f =>
    have hf := w2 k f (Nat.le_refl _) hkn hmk
    have hcf := w1 k f hkn hmk
    have hne : c ≠ f := fun e => hm (by
      subst e
      refine ⟨Or.inr ⟨hcf.2.1, hcf.2.2.2.1, hcf.2.2.2.2, Or.inr hcf.2.2.1⟩, fun a ha => ⟨?_, ?_⟩⟩
      · rcases Classical.em (M a = some k) with z | z
        · have y := (w1 a k (by omega) z).2.2.1
          rw [hmk] at y
          exact Or.inr (Option.some.inj y)
        · exact Or.inl z
      · refine Or.inl (fun z => ?_)
        have y := (w1 a c (by omega) z).2.2.1
        rw [hcf.2.2.1] at y
        have := Option.some.inj y
        omega)
    rw [rest_s hmk, rest_s hmk]
    by_cases z : c ≤ f
    · rw [if_pos z, if_pos (by omega)]
    · rw [if_neg z, if_neg (by omega)]
  | none =>
    have hnk : ∀ a, a < k → M a ≠ some k := fun a ha z => by
      have y := (w1 a k (by omega) z).2.2.1
      rw [hmk] at y; cases y
    have hcn : c < rN S := by
      rcases Nat.lt_or_ge c (rN S) with z | z
      · exact z
      · exact absurd ⟨Or.inl (by omega), fun a ha => ⟨Or.inl (hnk a ha), Or.inr (by omega)⟩⟩ hm
    rw [rest_n hmk, rest_n hmk, if_pos (by omega), if_pos (by omega)]
    by_cases z : c ≤ k
    · rw [show max c (k + 1) = max (c + 1) (k + 1) by omega]
    · obtain ⟨e9, he9⟩ : ∃ e9, c + (e9 + 1) = rN S := ⟨rN S - c - 1, by omega⟩
      rw [show rN S - max c (k + 1) = e9 + 1 by omega, show rN S - max (c + 1) (k + 1) = e9 by omega]
      refine try_no he9 (fun y => hm ?_)
      refine ⟨Or.inr ⟨by omega, y.2.1, y.2.2, Or.inl (by omega)⟩, fun a ha => ⟨Or.inl (hnk a ha), Or.inl (fun u => ?_)⟩⟩
      have v := (w1 a c (by omega) u).2.2.1
      rw [y.1] at v; cases v
abbrev leav2 (S : Rm) (M : Mt) (a b : Nat) : Prop := a ≠ b ∧ M a ≠ some b ∧ nowF S M a < rL S a b ∧ nowF S M b < rL S b a
def stJ (S : Rm) (M : Mt) (p q : Nat) : Prop := ∀ p' q', p' < rN S → q' < rN S → (p' < p ∨ (p' = p ∧ q' < q)) → ¬ leav2 S M p' q'
theorem stJ_step {S : Rm} {M : Mt} {p q : Nat} (h : stJ S M p q) (hn : ¬ leav2 S M p q) : stJ S M p (q + 1) := by
  intro p' q' h1 h2 h4
  by_cases e : p' = p ∧ q' = q
  · rw [e.1, e.2]; exact hn
  · exact h p' q' h1 h2 (by omega)
theorem stJ_next {S : Rm} {M : Mt} {p q : Nat} (h : stJ S M p q) (hq : rN S ≤ q) : stJ S M (p + 1) 0 := by
  intro p' q' h1 h2 h4
  exact h p' q' h1 h2 (by omega)
theorem stJ_end {S : Rm} {M : Mt} {p q : Nat} (h : stJ S M p q) (hp : rN S ≤ p) : stabF S M := by
  intro a ha b hb hab z
  exact h a b ha hb (by omega) ⟨by omega, z.1, z.2.1, z.2.2⟩
theorem leav_no {S : Rm} {M : Mt} (w : MCo S M) {a b : Nat} (ha : a < rN S) (hb : b < rN S) (h : leav2 S M a b) : ¬ stabF S M := by
  intro z
  obtain ⟨h1, h2, h3, h4⟩ := h
  rcases Nat.lt_or_ge a b with q | q
  · exact z a ha b hb q ⟨h2, h3, h4⟩
  · exact z b hb a ha (by omega) ⟨fun y => h2 (w b a hb y).2.2.1, h4, h3⟩
theorem now_eq {S : Rm} {M : Mt} (w : MCo S M) {a : Nat} (ha : a < rN S) : (if (M a).getD (rN S) = rN S then 0 else rL S a ((M a).getD (rN S))) = nowF S M a := by
  unfold nowF
  cases h : M a with
  | none => exact if_pos rfl
  | some b => have := (w a b ha h).1; exact if_neg (show ¬ b = rN S by omega)
theorem now_bd {S : Rm} (hB : RmB S) {M : Mt} (a : Nat) : -20 ≤ nowF S M a ∧ nowF S M a ≤ 20 := by
  unfold nowF
  split
  · omega
  · exact hB.2.2.2.2 _ _
theorem getM_some {M : Mt} {a b n : Nat} (h : (M a).getD n = b) (hb : b ≠ n) : M a = some b := by
  cases hm : M a with
  | none => rw [hm] at h; exact absurd h.symm hb
  | some c => rw [hm] at h; rw [← h]; rfl
theorem getM_bd {S : Rm} {M : Mt} (w : MCo S M) {a : Nat} (ha : a < rN S) : (M a).getD (rN S) ≤ rN S := by
  cases hm : M a with
  | none => exact Nat.le_refl _
  | some c => have := (w a c ha hm).1; show c ≤ rN S; omega

set_option maxHeartbeats 1000000 in
theorem m_isMarried (g : VG) (h : VHp) (m : Nat) (F : MF) (A : MA) (S : Rm) (hM : MRm h m F A S) (hB : RmB S) (M : Mt) (hMc : MCo S M) (hrow : ∀ a, a < rN S → (A 11)[a]? = some (nI ((M a).getD (rN S)))) : VE g mX8_isMarried 1 false (0, 0) [.ref m] h (VP (vB (stabF S M)) h) := by
  obtain ⟨hw, ⟨et0, et1, et2, ek⟩, es0, ev, ex, ey, eL⟩ := id hM
  obtain ⟨ho, hA⟩ := id hw
  obtain ⟨bn, bW, bH, bP, bL⟩ := id hB
  refine VE.of (by decide) rfl (Nat.le_of_ble_eq_true rfl) ?_
  have L2 : ∀ a, a ≤ rN S → ∀ (i1 : Nat) (v3 v4 : Option Value), ((i1 = 1 ∧ stJ S M a 0) ∨ (i1 = 0 ∧ ¬ stabF S M)) → V (g, mX8_isMarried, 1, false, h.length, VP (vB (stabF S M)) h) (0, 0) 73 [some (.ref m), some (.int (nI i1)), some (.int (nI a)), v3, v4] [] h := by
    refine vloop (rN S) (fun a ih hi => ?_)
    intro i1 v3 v4 hi1
    have LI : a < rN S → ∀ b, b ≤ rN S → ∀ (i1 : Nat) (v4 : Option Value), ((i1 = 1 ∧ stJ S M a b) ∨ (i1 = 0 ∧ ¬ stabF S M)) → V (g, mX8_isMarried, 1, false, h.length, VP (vB (stabF S M)) h) (0, 0) 89 [some (.ref m), some (.int (nI i1)), some (.int (nI a)), some (.int (nI b)), v4] [] h := by
      intro han
      refine vloop (rN S) (fun b ih2 hi2 => ?_)
      intro i1 v4 hi1
      have bab := bL a b
      have bba := bL b a
      have na := now_bd hB (M := M) a
      have nb := now_bd hB (M := M) b
      have ga := getM_bd hMc han
      refine V.iload_n dX8_isMarried_89 rfl ?_
      refine V.aload_n dX8_isMarried_90 rfl ?_
      refine V.get fX8_13 dX8_isMarried_91 ho rfl ?_
      refine V.iconst (v := nI 2) dX8_isMarried_94 (by decide) ?_
      refine V.iald dX8_isMarried_95 (hA 2 (by omega) (by omega)).1 rfl (by omega) et2 ?_
      refine V.icmp_geN 182 dX8_isMarried_96 (by decide) (by omega) (by omega) (fun hc1 => ?_) (fun hc1 => ?_)
      · skip
        refine V.iincN (n := 1) dX8_isMarried_182 rfl rfl rfl ?_
        dsimp only [List.set]
        refine V.goto 73 dX8_isMarried_185 (by decide) ?_
        exact ih (a + 1) (by omega) (by omega) i1 _ _ (hi1.imp (fun z => ⟨z.1, stJ_next z.2 (by omega)⟩) id)
      · skip
        have gb := getM_bd hMc hc1
        refine V.iload_n dX8_isMarried_99 rfl ?_
        refine V.iload_n dX8_isMarried_100 rfl ?_
        refine V.icmp_eqN 158 dX8_isMarried_101 (by decide) (by omega) (by omega) (fun hc2 => ?_) (fun hc2 => ?_)
        · skip
          have hnl : ¬ leav2 S M a b := fun z => z.1 hc2
          refine V.iconst (v := nI 0) dX8_isMarried_158 (by decide) ?_
          refine V.istore dX8_isMarried_159 rfl rfl ?_
          dsimp only [List.set]
          refine V.iload_n dX8_isMarried_161 rfl ?_
          refine V.if_eqN 174 dX8_isMarried_162 (by decide) (by omega) (fun hc3 => ?_) (fun hc3 => ?_)
          · skip
            refine V.iconst (v := nI 0) dX8_isMarried_174 (by decide) ?_
            refine V.istore_n (i := 1) dX8_isMarried_175 rfl rfl rfl ?_
            dsimp only [List.set]
            refine V.iincN (n := 1) dX8_isMarried_176 rfl rfl rfl ?_
            dsimp only [List.set]
            refine V.goto 89 dX8_isMarried_179 (by decide) ?_
            exact ih2 (b + 1) (by omega) (by omega) 0 _ (Or.inr ⟨rfl, by first | exact leav_no hMc (by omega) (by omega) hle | exact hi1.elim (fun z => absurd z.1 (by omega)) (fun z => z.2)⟩)
          · skip
            refine V.iload dX8_isMarried_165 rfl ?_
            refine V.if_neN 174 dX8_isMarried_167 (by decide) (by omega) (fun hc4 => ?_) (fun hc4 => ?_)
            · exact absurd rfl hc4
            · skip
              refine V.iconst (v := nI 1) dX8_isMarried_170 (by decide) ?_
              refine V.goto 175 dX8_isMarried_171 (by decide) ?_
              refine V.istore_n (i := 1) dX8_isMarried_175 rfl rfl rfl ?_
              dsimp only [List.set]
              refine V.iincN (n := 1) dX8_isMarried_176 rfl rfl rfl ?_
              dsimp only [List.set]
              refine V.goto 89 dX8_isMarried_179 (by decide) ?_
              exact ih2 (b + 1) (by omega) (by omega) 1 _ (Or.inl ⟨rfl, stJ_step (hi1.elim (fun z => z.2) (fun z => absurd z.1 (by omega))) hnl⟩)
        · skip
          have hab := hc2
          refine V.aload_n dX8_isMarried_104 rfl ?_
          refine V.get fX8_40 dX8_isMarried_105 ho rfl ?_
          refine V.iload_n dX8_isMarried_108 rfl ?_
          refine V.iald dX8_isMarried_109 (hA 11 (by omega) (by omega)).1 rfl (by omega) (hrow _ (by omega)) ?_
          refine V.iload_n dX8_isMarried_110 rfl ?_
          refine V.icmp_eqN 158 dX8_isMarried_111 (by decide) (by omega) (by omega) (fun hc5 => ?_) (fun hc5 => ?_)
          · skip
            have hnl : ¬ leav2 S M a b := fun z => z.2.1 (getM_some hc5 (by omega))
            refine V.iconst (v := nI 0) dX8_isMarried_158 (by decide) ?_
            refine V.istore dX8_isMarried_159 rfl rfl ?_
            dsimp only [List.set]
            refine V.iload_n dX8_isMarried_161 rfl ?_
            refine V.if_eqN 174 dX8_isMarried_162 (by decide) (by omega) (fun hc6 => ?_) (fun hc6 => ?_)
            · skip
              refine V.iconst (v := nI 0) dX8_isMarried_174 (by decide) ?_
              refine V.istore_n (i := 1) dX8_isMarried_175 rfl rfl rfl ?_
              dsimp only [List.set]
              refine V.iincN (n := 1) dX8_isMarried_176 rfl rfl rfl ?_
              dsimp only [List.set]
              refine V.goto 89 dX8_isMarried_179 (by decide) ?_
              exact ih2 (b + 1) (by omega) (by omega) 0 _ (Or.inr ⟨rfl, by first | exact leav_no hMc (by omega) (by omega) hle | exact hi1.elim (fun z => absurd z.1 (by omega)) (fun z => z.2)⟩)
            · skip
              refine V.iload dX8_isMarried_165 rfl ?_
              refine V.if_neN 174 dX8_isMarried_167 (by decide) (by omega) (fun hc7 => ?_) (fun hc7 => ?_)
              · exact absurd rfl hc7
              · skip
                refine V.iconst (v := nI 1) dX8_isMarried_170 (by decide) ?_
                refine V.goto 175 dX8_isMarried_171 (by decide) ?_
                refine V.istore_n (i := 1) dX8_isMarried_175 rfl rfl rfl ?_
                dsimp only [List.set]
                refine V.iincN (n := 1) dX8_isMarried_176 rfl rfl rfl ?_
                dsimp only [List.set]
                refine V.goto 89 dX8_isMarried_179 (by decide) ?_
                exact ih2 (b + 1) (by omega) (by omega) 1 _ (Or.inl ⟨rfl, stJ_step (hi1.elim (fun z => z.2) (fun z => absurd z.1 (by omega))) hnl⟩)
          · skip
            have hne : M a ≠ some b := fun z => hc5 (by rw [z]; rfl)
            refine V.aload_n dX8_isMarried_114 rfl ?_
            refine V.iload_n dX8_isMarried_115 rfl ?_
            refine V.iload_n dX8_isMarried_116 rfl ?_
            refine V.callVp (ci := 8) cX8_172 (m_leans g h m F A S hM hB a b (by omega) (by omega)) dX8_isMarried_117 (Nat.le_of_ble_eq_true rfl) rfl ho rfl rfl (Nat.le_of_ble_eq_true rfl) ?_
            refine V.re (y := iI (rL S a b)) (by rw [if_neg (by omega)]) ?_
            refine V.aload_n dX8_isMarried_120 rfl ?_
            refine V.iload_n dX8_isMarried_121 rfl ?_
            refine V.aload_n dX8_isMarried_122 rfl ?_
            refine V.get fX8_40 dX8_isMarried_123 ho rfl ?_
            refine V.iload_n dX8_isMarried_126 rfl ?_
            refine V.iald dX8_isMarried_127 (hA 11 (by omega) (by omega)).1 rfl (by omega) (hrow _ (by omega)) ?_
            refine V.callVp (ci := 8) cX8_172 (m_leans g h m F A S hM hB a ((M a).getD (rN S)) (by omega) (by omega)) dX8_isMarried_128 (Nat.le_of_ble_eq_true rfl) rfl ho rfl rfl (Nat.le_of_ble_eq_true rfl) ?_
            refine V.re (y := iI (nowF S M a)) (by rw [now_eq hMc (by omega)]) ?_
            refine V.icmp_leZ 158 dX8_isMarried_131 (by decide) (by omega) (by omega) (fun hc8 => ?_) (fun hc8 => ?_)
            · skip
              have hnl : ¬ leav2 S M a b := fun z => by have y := z.2.2.1; omega
              refine V.iconst (v := nI 0) dX8_isMarried_158 (by decide) ?_
              refine V.istore dX8_isMarried_159 rfl rfl ?_
              dsimp only [List.set]
              refine V.iload_n dX8_isMarried_161 rfl ?_
              refine V.if_eqN 174 dX8_isMarried_162 (by decide) (by omega) (fun hc9 => ?_) (fun hc9 => ?_)
              · skip
                refine V.iconst (v := nI 0) dX8_isMarried_174 (by decide) ?_
                refine V.istore_n (i := 1) dX8_isMarried_175 rfl rfl rfl ?_
                dsimp only [List.set]
                refine V.iincN (n := 1) dX8_isMarried_176 rfl rfl rfl ?_
                dsimp only [List.set]
                refine V.goto 89 dX8_isMarried_179 (by decide) ?_
                exact ih2 (b + 1) (by omega) (by omega) 0 _ (Or.inr ⟨rfl, by first | exact leav_no hMc (by omega) (by omega) hle | exact hi1.elim (fun z => absurd z.1 (by omega)) (fun z => z.2)⟩)
              · skip
                refine V.iload dX8_isMarried_165 rfl ?_
                refine V.if_neN 174 dX8_isMarried_167 (by decide) (by omega) (fun hc10 => ?_) (fun hc10 => ?_)
                · exact absurd rfl hc10
                · skip
                  refine V.iconst (v := nI 1) dX8_isMarried_170 (by decide) ?_
                  refine V.goto 175 dX8_isMarried_171 (by decide) ?_
                  refine V.istore_n (i := 1) dX8_isMarried_175 rfl rfl rfl ?_
                  dsimp only [List.set]
                  refine V.iincN (n := 1) dX8_isMarried_176 rfl rfl rfl ?_
                  dsimp only [List.set]
                  refine V.goto 89 dX8_isMarried_179 (by decide) ?_
                  exact ih2 (b + 1) (by omega) (by omega) 1 _ (Or.inl ⟨rfl, stJ_step (hi1.elim (fun z => z.2) (fun z => absurd z.1 (by omega))) hnl⟩)
            · skip
              have hr1 := hc8
              refine V.aload_n dX8_isMarried_134 rfl ?_
              refine V.iload_n dX8_isMarried_135 rfl ?_
              refine V.iload_n dX8_isMarried_136 rfl ?_
              refine V.callVp (ci := 8) cX8_172 (m_leans g h m F A S hM hB b a (by omega) (by omega)) dX8_isMarried_137 (Nat.le_of_ble_eq_true rfl) rfl ho rfl rfl (Nat.le_of_ble_eq_true rfl) ?_
              refine V.re (y := iI (rL S b a)) (by rw [if_neg (by omega)]) ?_
              refine V.aload_n dX8_isMarried_140 rfl ?_
              refine V.iload_n dX8_isMarried_141 rfl ?_
              refine V.aload_n dX8_isMarried_142 rfl ?_
              refine V.get fX8_40 dX8_isMarried_143 ho rfl ?_
              refine V.iload_n dX8_isMarried_146 rfl ?_
              refine V.iald dX8_isMarried_147 (hA 11 (by omega) (by omega)).1 rfl (by omega) (hrow _ (by omega)) ?_
              refine V.callVp (ci := 8) cX8_172 (m_leans g h m F A S hM hB b ((M b).getD (rN S)) (by omega) (by omega)) dX8_isMarried_148 (Nat.le_of_ble_eq_true rfl) rfl ho rfl rfl (Nat.le_of_ble_eq_true rfl) ?_
              refine V.re (y := iI (nowF S M b)) (by rw [now_eq hMc (by omega)]) ?_
              refine V.icmp_leZ 158 dX8_isMarried_151 (by decide) (by omega) (by omega) (fun hc11 => ?_) (fun hc11 => ?_)
              · skip
                have hnl : ¬ leav2 S M a b := fun z => by have y := z.2.2.2; omega
                refine V.iconst (v := nI 0) dX8_isMarried_158 (by decide) ?_
                refine V.istore dX8_isMarried_159 rfl rfl ?_
                dsimp only [List.set]
                refine V.iload_n dX8_isMarried_161 rfl ?_
                refine V.if_eqN 174 dX8_isMarried_162 (by decide) (by omega) (fun hc12 => ?_) (fun hc12 => ?_)
                · skip
                  refine V.iconst (v := nI 0) dX8_isMarried_174 (by decide) ?_
                  refine V.istore_n (i := 1) dX8_isMarried_175 rfl rfl rfl ?_
                  dsimp only [List.set]
                  refine V.iincN (n := 1) dX8_isMarried_176 rfl rfl rfl ?_
                  dsimp only [List.set]
                  refine V.goto 89 dX8_isMarried_179 (by decide) ?_
                  exact ih2 (b + 1) (by omega) (by omega) 0 _ (Or.inr ⟨rfl, by first | exact leav_no hMc (by omega) (by omega) hle | exact hi1.elim (fun z => absurd z.1 (by omega)) (fun z => z.2)⟩)
                · skip
                  refine V.iload dX8_isMarried_165 rfl ?_
                  refine V.if_neN 174 dX8_isMarried_167 (by decide) (by omega) (fun hc13 => ?_) (fun hc13 => ?_)
                  · exact absurd rfl hc13
                  · skip
                    refine V.iconst (v := nI 1) dX8_isMarried_170 (by decide) ?_
                    refine V.goto 175 dX8_isMarried_171 (by decide) ?_
                    refine V.istore_n (i := 1) dX8_isMarried_175 rfl rfl rfl ?_
                    dsimp only [List.set]
                    refine V.iincN (n := 1) dX8_isMarried_176 rfl rfl rfl ?_
                    dsimp only [List.set]
                    refine V.goto 89 dX8_isMarried_179 (by decide) ?_
                    exact ih2 (b + 1) (by omega) (by omega) 1 _ (Or.inl ⟨rfl, stJ_step (hi1.elim (fun z => z.2) (fun z => absurd z.1 (by omega))) hnl⟩)
              · skip
                have hle : leav2 S M a b := ⟨hab, hne, hr1, hc11⟩
                refine V.iconst (v := nI 1) dX8_isMarried_154 (by decide) ?_
                refine V.goto 159 dX8_isMarried_155 (by decide) ?_
                refine V.istore dX8_isMarried_159 rfl rfl ?_
                dsimp only [List.set]
                refine V.iload_n dX8_isMarried_161 rfl ?_
                refine V.if_eqN 174 dX8_isMarried_162 (by decide) (by omega) (fun hc14 => ?_) (fun hc14 => ?_)
                · skip
                  refine V.iconst (v := nI 0) dX8_isMarried_174 (by decide) ?_
                  refine V.istore_n (i := 1) dX8_isMarried_175 rfl rfl rfl ?_
                  dsimp only [List.set]
                  refine V.iincN (n := 1) dX8_isMarried_176 rfl rfl rfl ?_
                  dsimp only [List.set]
                  refine V.goto 89 dX8_isMarried_179 (by decide) ?_
                  exact ih2 (b + 1) (by omega) (by omega) 0 _ (Or.inr ⟨rfl, by first | exact leav_no hMc (by omega) (by omega) hle | exact hi1.elim (fun z => absurd z.1 (by omega)) (fun z => z.2)⟩)
                · skip
                  refine V.iload dX8_isMarried_165 rfl ?_
                  refine V.if_neN 174 dX8_isMarried_167 (by decide) (by omega) (fun hc15 => ?_) (fun hc15 => ?_)
                  · skip
                    refine V.iconst (v := nI 0) dX8_isMarried_174 (by decide) ?_
                    refine V.istore_n (i := 1) dX8_isMarried_175 rfl rfl rfl ?_
                    dsimp only [List.set]
                    refine V.iincN (n := 1) dX8_isMarried_176 rfl rfl rfl ?_
                    dsimp only [List.set]
                    refine V.goto 89 dX8_isMarried_179 (by decide) ?_
                    exact ih2 (b + 1) (by omega) (by omega) 0 _ (Or.inr ⟨rfl, by first | exact leav_no hMc (by omega) (by omega) hle | exact hi1.elim (fun z => absurd z.1 (by omega)) (fun z => z.2)⟩)
                  · exact absurd hc15 (by omega)
    refine V.iload_n dX8_isMarried_73 rfl ?_
    refine V.aload_n dX8_isMarried_74 rfl ?_
    refine V.get fX8_13 dX8_isMarried_75 ho rfl ?_
    refine V.iconst (v := nI 2) dX8_isMarried_78 (by decide) ?_
    refine V.iald dX8_isMarried_79 (hA 2 (by omega) (by omega)).1 rfl (by omega) et2 ?_
    refine V.icmp_geN 188 dX8_isMarried_80 (by decide) (by omega) (by omega) (fun hc1 => ?_) (fun hc1 => ?_)
    · skip
      refine V.iload_n dX8_isMarried_188 rfl ?_
      rcases hi1 with ⟨e, z⟩ | ⟨e, z⟩
      · exact V.zret dX8_isMarried_189 rfl (by rw [e]; decide) ⟨by rw [vB_t (stJ_end z (by omega)), e]; rfl, rfl⟩
      · exact V.zret dX8_isMarried_189 rfl (by rw [e]; decide) ⟨by rw [vB_f z, e]; rfl, rfl⟩
    · skip
      have hi9 : i1 ≤ 1 := by rcases hi1 with ⟨e, -⟩ | ⟨e, -⟩ <;> omega
      refine V.iload_n dX8_isMarried_83 rfl ?_
      refine V.if_eqN 188 dX8_isMarried_84 (by decide) (by omega) (fun hc2 => ?_) (fun hc2 => ?_)
      · skip
        refine V.iload_n dX8_isMarried_188 rfl ?_
        rcases hi1 with ⟨e, z⟩ | ⟨e, z⟩
        · exact V.zret dX8_isMarried_189 rfl (by rw [e]; decide) ⟨by rw [vB_t (stJ_end z (by omega)), e]; rfl, rfl⟩
        · exact V.zret dX8_isMarried_189 rfl (by rw [e]; decide) ⟨by rw [vB_f z, e]; rfl, rfl⟩
      · skip
        refine V.iconst (v := nI 0) dX8_isMarried_87 (by decide) ?_
        refine V.istore_n (i := 3) dX8_isMarried_88 rfl rfl rfl ?_
        dsimp only [List.set]
        exact LI (by omega) 0 (by omega) i1 _ hi1
  have L1 : ∀ a, a ≤ rN S → ∀ v3 : Option Value, V (g, mX8_isMarried, 1, false, h.length, VP (vB (stabF S M)) h) (0, 0) 4 [some (.ref m), some (.int (nI 1)), some (.int (nI a)), v3, none] [] h := by
    refine vloop (rN S) (fun a ih hi => ?_)
    intro v3
    refine V.iload_n dX8_isMarried_4 rfl ?_
    refine V.aload_n dX8_isMarried_5 rfl ?_
    refine V.get fX8_13 dX8_isMarried_6 ho rfl ?_
    refine V.iconst (v := nI 2) dX8_isMarried_9 (by decide) ?_
    refine V.iald dX8_isMarried_10 (hA 2 (by omega) (by omega)).1 rfl (by omega) et2 ?_
    refine V.icmp_geN 71 dX8_isMarried_11 (by decide) (by omega) (by omega) (fun hc1 => ?_) (fun hc1 => ?_)
    · skip
      refine V.iconst (v := nI 0) dX8_isMarried_71 (by decide) ?_
      refine V.istore_n (i := 2) dX8_isMarried_72 rfl rfl rfl ?_
      dsimp only [List.set]
      exact L2 0 (by omega) 1 _ _ (Or.inl ⟨rfl, fun p' q' _ _ h4 => absurd h4 (by omega)⟩)
    · skip
      have ga := getM_bd hMc hc1
      refine V.aload_n dX8_isMarried_14 rfl ?_
      refine V.get fX8_40 dX8_isMarried_15 ho rfl ?_
      refine V.iload_n dX8_isMarried_18 rfl ?_
      refine V.iald dX8_isMarried_19 (hA 11 (by omega) (by omega)).1 rfl (by omega) (hrow _ (by omega)) ?_
      refine V.istore_n (i := 3) dX8_isMarried_20 rfl rfl rfl ?_
      dsimp only [List.set]
      refine V.iload_n dX8_isMarried_21 rfl ?_
      refine V.if_eqN 63 dX8_isMarried_22 (by decide) (by omega) (fun hc2 => ?_) (fun hc2 => ?_)
      · exact absurd hc2 (by omega)
      · skip
        refine V.iload_n dX8_isMarried_25 rfl ?_
        refine V.aload_n dX8_isMarried_26 rfl ?_
        refine V.get fX8_13 dX8_isMarried_27 ho rfl ?_
        refine V.iconst (v := nI 2) dX8_isMarried_30 (by decide) ?_
        refine V.iald dX8_isMarried_31 (hA 2 (by omega) (by omega)).1 rfl (by omega) et2 ?_
        refine V.icmp_eqN 59 dX8_isMarried_32 (by decide) (by omega) (by omega) (fun hc3 => ?_) (fun hc3 => ?_)
        · skip
          refine V.iconst (v := nI 1) dX8_isMarried_59 (by decide) ?_
          refine V.goto 64 dX8_isMarried_60 (by decide) ?_
          refine V.istore_n (i := 1) dX8_isMarried_64 rfl rfl rfl ?_
          dsimp only [List.set]
          refine V.iincN (n := 1) dX8_isMarried_65 rfl rfl rfl ?_
          dsimp only [List.set]
          refine V.goto 4 dX8_isMarried_68 (by decide) ?_
          exact ih (a + 1) (by omega) (by omega) _
        · skip
          have hb9 := getM_some (M := M) (a := a) rfl hc3
          have hco := hMc a _ (by omega) hb9
          obtain ⟨c1, c2, c3, c4, c5⟩ := id hco
          have hg8 : (M ((M a).getD (rN S))).getD (rN S) = a := by rw [c3]; rfl
          refine V.iload_n dX8_isMarried_35 rfl ?_
          refine V.iload_n dX8_isMarried_36 rfl ?_
          refine V.icmp_eqN 63 dX8_isMarried_37 (by decide) (by omega) (by omega) (fun hc4 => ?_) (fun hc4 => ?_)
          · exact absurd hc4 (by omega)
          · skip
            refine V.aload_n dX8_isMarried_40 rfl ?_
            refine V.get fX8_40 dX8_isMarried_41 ho rfl ?_
            refine V.iload_n dX8_isMarried_44 rfl ?_
            refine V.iald dX8_isMarried_45 (hA 11 (by omega) (by omega)).1 rfl (by omega) (hrow _ (by omega)) ?_
            refine V.iload_n dX8_isMarried_46 rfl ?_
            refine V.icmp_neN 63 dX8_isMarried_47 (by decide) (by omega) (by omega) (fun hc5 => ?_) (fun hc5 => ?_)
            · exact absurd hc5 (by omega)
            · skip
              refine V.aload_n dX8_isMarried_50 rfl ?_
              refine V.iload_n dX8_isMarried_51 rfl ?_
              refine V.iload_n dX8_isMarried_52 rfl ?_
              refine V.callVp (ci := 8) cX8_172 (m_leans g h m F A S hM hB a ((M a).getD (rN S)) (by omega) (by omega)) dX8_isMarried_53 (Nat.le_of_ble_eq_true rfl) rfl ho rfl rfl (Nat.le_of_ble_eq_true rfl) ?_
              refine V.re (y := iI (rL S a ((M a).getD (rN S)))) (by rw [if_neg (by omega)]) ?_
              have bz := bL a ((M a).getD (rN S))
              refine V.if_leZ 63 dX8_isMarried_56 (by decide) (by omega) (fun hc6 => ?_) (fun hc6 => ?_)
              · exact absurd hc6 (by omega)
              · skip
                refine V.iconst (v := nI 1) dX8_isMarried_59 (by decide) ?_
                refine V.goto 64 dX8_isMarried_60 (by decide) ?_
                refine V.istore_n (i := 1) dX8_isMarried_64 rfl rfl rfl ?_
                dsimp only [List.set]
                refine V.iincN (n := 1) dX8_isMarried_65 rfl rfl rfl ?_
                dsimp only [List.set]
                refine V.goto 4 dX8_isMarried_68 (by decide) ?_
                exact ih (a + 1) (by omega) (by omega) _
  show V _ _ 0 [some (.ref m), none, none, none, none] [] h
  refine V.iconst (v := nI 1) dX8_isMarried_0 (by decide) ?_
  refine V.istore_n (i := 1) dX8_isMarried_1 rfl rfl rfl ?_
  dsimp only [List.set]
  refine V.iconst (v := nI 0) dX8_isMarried_2 (by decide) ?_
  refine V.istore_n (i := 2) dX8_isMarried_3 rfl rfl rfl ?_
  dsimp only [List.set]
  exact L1 0 (by omega) none
