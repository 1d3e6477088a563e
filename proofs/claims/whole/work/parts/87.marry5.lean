def MSm (h : VHp) (m : Nat) (F : MF) (A A1 : MA) : Prop := MRaw h m F A1 ∧ ∀ j, j ≠ 11 → A1 j = A j
theorem MSm.set {h : VHp} {m : Nat} {F : MF} {A A1 : MA} (w : MSm h m F A A1) (z : List Int32) (hz : z.length = 6) : MSm (h.set (m + 11) (.inl z)) m F A (upA A1 11 z) := ⟨MRaw.set w.1 11 (by omega) (by omega) z hz, fun j hj => by rw [upA_n hj]; exact w.2 j hj⟩
def MMr (m : Nat) (F : MF) (A : MA) (S : Rm) (h : VHp) : VPost := fun v h' => v = some (.int (vB ((pairF S (rN S) (fun _ => none)).isSome = true))) ∧ (∃ A', MSm h' m F A A' ∧ ∀ R, pairF S (rN S) (fun _ => none) = some R → ∀ a, a < rN S → (A' 11)[a]? = some (nI ((R a).getD (rN S)))) ∧ VFr m (m + 12) h h'
theorem mayQ_yes {S : Rm} {M : Mt} {k b a : Nat} (h : mayQ S M k b a) (hc : clA S M k b a) : mayQ S M k b (a + 1) := ⟨h.1, fun x hx => by
  by_cases e : x = a
  · rw [e]; exact hc
  · exact h.2 x (by omega)⟩
theorem mayQ_dn {S : Rm} {M : Mt} {k b a : Nat} (h : ¬ mayQ S M k b a) : ¬ mayQ S M k b (a + 1) := fun z => h ⟨z.1, fun x hx => z.2 x (by omega)⟩
theorem mayQ_cl {S : Rm} {M : Mt} {k b a : Nat} (h : ¬ clA S M k b a) : ¬ mayQ S M k b (a + 1) := fun z => h (z.2 a (by omega))
theorem or_assoc1 {a b c : Option Mt} : (a.or b).or c = a.or (b.or c) := by cases a <;> rfl
theorem pair_0 {S : Rm} {M : Mt} : pairF S 0 M = if stabF S M then some M else none := rfl

set_option maxHeartbeats 1000000 in
theorem m_marries (g : VG) (h : VHp) (m : Nat) (F : MF) (A : MA) (S : Rm) (hM : MRm h m F A S) (hB : RmB S) (h1n : 1 ≤ rN S) : VE g mX8_marries 2 false (0, 0) [.ref m] h (MMr m F A S h) := by
  obtain ⟨hw, ⟨et0, et1, et2, ek⟩, es0, ev, ex, ey, eL⟩ := id hM
  obtain ⟨ho, hA⟩ := id hw
  obtain ⟨bn, bW, bH, bP, bL⟩ := id hB
  refine VE.of (by decide) rfl (Nat.le_of_ble_eq_true rfl) ?_
  have LV : ∀ d k, k + (d + 1) = rN S → ∀ (M : Mt) (KK : Option Mt), InvM S M k → (∀ (h2 : VHp) (A2 : MA) (kz : Int) (v3 v4 v5 : Option Value), MSm h2 m F A A2 → (∀ a, a < k → (A2 11)[a]? = some (nI ((M a).getD (rN S)))) → kz = (((k) : Nat) : Int) - 1 → pairF S (rN S) (fun _ => none) = KK → VFr m (m + 12) h h2 → (A2 11)[k]? = (A2 11)[k]? → V (g, mX8_marries, 2, false, h.length, MMr m F A S h) (0, 0) 16 [some (.ref m), some (.int (nI (rN S))), some (.int (iI kz)), v3, v4, v5] [] h2) → ∀ e c, c + e = rN S + 1 → ∀ (h1 : VHp) (A1 : MA) (kz : Int) (v3 v4 v5 : Option Value), MSm h1 m F A A1 → (∀ a, a < k → (A1 11)[a]? = some (nI ((M a).getD (rN S)))) → (A1 11)[k]? = some (iI (((c : Nat) : Int) - 1)) → kz = ((k : Nat) : Int) → pairF S (rN S) (fun _ => none) = (restK S d k M c).or KK → VFr m (m + 12) h h1 → V (g, mX8_marries, 2, false, h.length, MMr m F A S h) (0, 0) 16 [some (.ref m), some (.int (nI (rN S))), some (.int (iI kz)), v3, v4, v5] [] h1 := by
    intro d
    induction d with
    | zero =>
      intro k hkd M KK hIv HF e
      induction e with
      | zero =>
        intro c hce h1 A1 kz v3 v4 v5 hS1 hrow1 hk11 hkz hans hf1
        obtain ⟨ho1, hA1⟩ := id hS1.1
        have hl11 : (A1 11).length = 6 := (hA1 11 (by omega) (by omega)).2
        have h111 := (hA1 11 (by omega) (by omega)).1
        have hkn : k < rN S := by omega
        refine V.iload_n dX8_marries_16 rfl ?_
        refine V.re (iI_toN (n := k) hkz) ?_
        refine V.if_ltN 202 dX8_marries_17 (by decide) (by omega) (fun hc1 => ?_) (fun hc1 => ?_)
        · exact absurd hc1 (by omega)
        · skip
          refine V.aload_n dX8_marries_20 rfl ?_
          refine V.get fX8_40 dX8_marries_21 ho1 rfl ?_
          refine V.iload_n dX8_marries_24 rfl ?_
          refine V.re (iI_toN (n := k) hkz) ?_
          refine V.dup2 dX8_marries_25 rfl rfl ?_
          refine V.iald dX8_marries_26 h111 rfl (by omega) hk11 ?_
          refine V.iconst (v := nI 1) dX8_marries_27 (by decide) ?_
          refine V.toZ1 ?_
          refine V.iaddZ dX8_marries_28 ?_
          refine V.re (y := nI c) (iI_toN (by omega)) ?_
          refine V.iast dX8_marries_29 h111 rfl (by omega) (by omega) ?_
          have hS2 := hS1.set ((A1 11).set k (nI c)) (by rw [List.length_set]; exact hl11)
          have hf2 := hf1.tr (VFr.set (h := h1) (lo := m) (hi := m + 12) (a := m + 11) (c := Sum.inl ((A1 11).set k (nI c))) (by omega) (by omega))
          have hrow2 : (∀ a, a < k → ((upA A1 11 ((A1 11).set k (nI c))) 11)[a]? = some (nI ((M a).getD (rN S)))) := fun a ha => by rw [upA_s, List.getElem?_set_ne (by omega)]; exact hrow1 a ha
          have hk2 : (upA A1 11 ((A1 11).set k (nI c)) 11)[k]? = some (nI c) := by rw [upA_s, List.getElem?_set_self (by omega)]
          generalize List.set h1 (m + 11) (Sum.inl ((A1 11).set k (nI c))) = h2 at hS2 hf2 ⊢
          generalize upA A1 11 ((A1 11).set k (nI c)) = A2 at hS2 hrow2 hk2
          obtain ⟨ho2, hA2⟩ := id hS2.1
          have h112 := (hA2 11 (by omega) (by omega)).1
          have hl2 : (A2 11).length = 6 := (hA2 11 (by omega) (by omega)).2
          have h22 := (hA2 2 (by omega) (by omega)).1
          rw [hS2.2 2 (by omega)] at h22
          have hM2 : MRm h2 m F A2 S := ⟨hS2.1, by rw [hS2.2 2 (by omega)]; exact hM.2.1, by rw [hS2.2 5 (by omega)]; exact hM.2.2⟩
          have hk3 : (A2 11)[k]? = some (iI (((c + 1 : Nat) : Int) - 1)) := by rw [hk2, iI_toN (n := c) (by omega)]
          refine V.aload_n dX8_marries_30 rfl ?_
          refine V.get fX8_40 dX8_marries_31 ho2 rfl ?_
          refine V.iload_n dX8_marries_34 rfl ?_
          refine V.re (iI_toN (n := k) hkz) ?_
          refine V.iald dX8_marries_35 h112 rfl (by omega) hk2 ?_
          refine V.iload_n dX8_marries_36 rfl ?_
          refine V.icmp_leN 46 dX8_marries_37 (by decide) (by omega) (by omega) (fun hc2 => ?_) (fun hc2 => ?_)
          · exact absurd hc2 (by omega)
          · skip
            refine V.iinc (v := iI (kz + (-1))) dX8_marries_40 rfl (iI_add _ _) rfl rfl ?_
            dsimp only [List.set]
            refine V.goto 16 dX8_marries_43 (by decide) ?_
            refine HF h2 A2 _ _ _ _ hS2 hrow2 (by omega) ?_ hf2 rfl
            rw [hans, show c = rN S + 1 by omega, rest_end hIv hkd]; rfl
      | succ e ihe =>
        intro c hce h1 A1 kz v3 v4 v5 hS1 hrow1 hk11 hkz hans hf1
        obtain ⟨ho1, hA1⟩ := id hS1.1
        have hl11 : (A1 11).length = 6 := (hA1 11 (by omega) (by omega)).2
        have h111 := (hA1 11 (by omega) (by omega)).1
        have hkn : k < rN S := by omega
        have LA : ∀ (h2 : VHp) (A2 : MA), MSm h2 m F A A2 → (∀ a, a < k → (A2 11)[a]? = some (nI ((M a).getD (rN S)))) → (A2 11)[k]? = some (nI c) → VFr m (m + 12) h h2 → ∀ a, a ≤ k → V (g, mX8_marries, 2, false, h.length, MMr m F A S h) (0, 0) 106 [some (.ref m), some (.int (nI (rN S))), some (.int (iI kz)), some (.int (nI c)), some (.int (vB (mayQ S M k c a))), some (.int (nI a))] [] h2 := by
          intro h2 A2 hS2 hrow2 hk2 hf2
          refine vloop k (fun a iha hia => ?_)
          obtain ⟨ho2, hA2⟩ := id hS2.1
          have h112 := (hA2 11 (by omega) (by omega)).1
          have hl2 : (A2 11).length = 6 := (hA2 11 (by omega) (by omega)).2
          have h22 := (hA2 2 (by omega) (by omega)).1
          rw [hS2.2 2 (by omega)] at h22
          have hM2 : MRm h2 m F A2 S := ⟨hS2.1, by rw [hS2.2 2 (by omega)]; exact hM.2.1, by rw [hS2.2 5 (by omega)]; exact hM.2.2⟩
          have hk3 : (A2 11)[k]? = some (iI (((c + 1 : Nat) : Int) - 1)) := by rw [hk2, iI_toN (n := c) (by omega)]
          refine V.iload dX8_marries_106 rfl ?_
          refine V.iload_n dX8_marries_108 rfl ?_
          refine V.re (iI_toN (n := k) hkz) ?_
          refine V.icmp_geN 163 dX8_marries_109 (by decide) (by omega) (by omega) (fun hc1 => ?_) (fun hc1 => ?_)
          · skip
            refine V.iload dX8_marries_163 rfl ?_
            refine V.if_eqB 184 dX8_marries_165 (by decide) (fun hc2 => ?_) (fun hc2 => ?_)
            · skip
              have hmay : ¬ mayQ S M k c k := by rw [show a = k by omega] at hc2; exact hc2
              refine V.iload dX8_marries_184 rfl ?_
              refine V.if_eqB 199 dX8_marries_186 (by decide) (fun hc3 => ?_) (fun hc3 => ?_)
              · skip
                refine V.goto 16 dX8_marries_199 (by decide) ?_
                obtain rfl : a = k := (by omega)
                first
                  | exact ihe (c + 1) (by omega) h2 A2 _ _ _ _ hS2 hrow2 hk3 hkz (by rw [hans, rest_no hIv hkd (by omega) hmay]) hf2
                  | exact ihe (c + 1) (by omega) h2 A2 _ _ _ _ hS2 hrow2 hk3 hkz (by rw [hans, hry.1, or_assoc1, pair_0, if_neg hstb]; rfl) hf2
              · exact absurd hc3 (by rw [show a = k by omega]; exact hmay)
            · skip
              have hm0 := hc2
              have hak : a = k := (by omega)
              rw [hak] at hc2
              have hry := rest_yes hIv hkd (by omega) hc2
              refine V.iload_n dX8_marries_168 rfl ?_
              refine V.re (iI_toN (n := k) hkz) ?_
              refine V.iload_n dX8_marries_169 rfl ?_
              refine V.iconst (v := nI 1) dX8_marries_170 (by decide) ?_
              refine V.isubN dX8_marries_171 (by omega) ?_
              refine V.icmp_neN 184 dX8_marries_172 (by decide) (by omega) (by omega) (fun hc4 => ?_) (fun hc4 => ?_)
              · exact absurd hc4 (by omega)
              · skip
                have hrow9 : (∀ a, a < (rN S) → (A2 11)[a]? = some (nI (((newM S M k c) a).getD (rN S)))) := fun x hx => by
                  by_cases q : x = k
                  · rw [q, hk2, hry.2.2.1]
                  · rw [hry.2.2.2 x (by omega)]; exact hrow2 x (by omega)
                refine V.aload_n dX8_marries_175 rfl ?_
                refine V.callVp (ci := 8) cX8_175 (m_isMarried g h2 m F A2 S hM2 hB (newM S M k c) hry.2.1.1 hrow9) dX8_marries_176 (Nat.le_of_ble_eq_true rfl) rfl ho2 rfl rfl (Nat.le_of_ble_eq_true rfl) ?_
                refine V.if_eqB 199 dX8_marries_179 (by decide) (fun hc5 => ?_) (fun hc5 => ?_)
                · skip
                  have hstb := hc5
                  refine V.goto 16 dX8_marries_199 (by decide) ?_
                  obtain rfl : a = k := (by omega)
                  first
                    | exact ihe (c + 1) (by omega) h2 A2 _ _ _ _ hS2 hrow2 hk3 hkz (by rw [hans, rest_no hIv hkd (by omega) hmay]) hf2
                    | exact ihe (c + 1) (by omega) h2 A2 _ _ _ _ hS2 hrow2 hk3 hkz (by rw [hans, hry.1, or_assoc1, pair_0, if_neg hstb]; rfl) hf2
                · skip
                  have hstb := hc5
                  refine V.iconst (v := nI 1) dX8_marries_182 (by decide) ?_
                  have ha9 : pairF S (rN S) (fun _ => none) = some (newM S M k c) := by rw [hans, hry.1, pair_0, if_pos hstb]; rfl
                  refine V.zret dX8_marries_183 rfl (Or.inr rfl) ⟨by rw [ha9]; rfl, ⟨A2, hS2, fun R hR => ?_⟩, hf2⟩
                  rw [ha9] at hR
                  cases hR
                  exact hrow9
          · skip
            have gma := getM_bd hIv.1 (a := a) (by omega)
            refine V.iload dX8_marries_112 rfl ?_
            refine V.if_eqB 154 dX8_marries_114 (by decide) (fun hc6 => ?_) (fun hc6 => ?_)
            · skip
              have hmq := hc6
              refine V.iconst (v := nI 0) dX8_marries_154 (by decide) ?_
              refine V.istore dX8_marries_155 rfl rfl ?_
              dsimp only [List.set]
              refine V.iincN (n := 1) dX8_marries_157 rfl rfl rfl ?_
              dsimp only [List.set]
              refine V.goto 106 dX8_marries_160 (by decide) ?_
              have z := iha (a + 1) (by omega) (by omega)
              first
                | (rw [vB_f (mayQ_dn hmq)] at z; exact z)
                | (rw [vB_f (mayQ_cl (fun y => by
                     first
                       | exact y.1.elim (fun u => u (getM_some hx1 (by omega))) (fun u => by omega)
                       | exact y.2.elim (fun u => u (getM_some hx2 (by omega))) (fun u => by omega)))] at z
                   exact z)
            · skip
              have hmq := hc6
              refine V.aload_n dX8_marries_117 rfl ?_
              refine V.get fX8_40 dX8_marries_118 ho2 rfl ?_
              refine V.iload dX8_marries_121 rfl ?_
              refine V.iald dX8_marries_123 h112 rfl (by omega) (hrow2 _ (by omega)) ?_
              refine V.iload_n dX8_marries_124 rfl ?_
              refine V.re (iI_toN (n := k) hkz) ?_
              refine V.icmp_neN 134 dX8_marries_125 (by decide) (by omega) (by omega) (fun hc7 => ?_) (fun hc7 => ?_)
              · skip
                have hx1 := hc7
                refine V.aload_n dX8_marries_134 rfl ?_
                refine V.get fX8_40 dX8_marries_135 ho2 rfl ?_
                refine V.iload dX8_marries_138 rfl ?_
                refine V.iald dX8_marries_140 h112 rfl (by omega) (hrow2 _ (by omega)) ?_
                refine V.iload_n dX8_marries_141 rfl ?_
                refine V.icmp_neN 150 dX8_marries_142 (by decide) (by omega) (by omega) (fun hc8 => ?_) (fun hc8 => ?_)
                · skip
                  have hx2 := hc8
                  refine V.iconst (v := nI 1) dX8_marries_150 (by decide) ?_
                  refine V.goto 155 dX8_marries_151 (by decide) ?_
                  refine V.istore dX8_marries_155 rfl rfl ?_
                  dsimp only [List.set]
                  refine V.iincN (n := 1) dX8_marries_157 rfl rfl rfl ?_
                  dsimp only [List.set]
                  refine V.goto 106 dX8_marries_160 (by decide) ?_
                  have z := iha (a + 1) (by omega) (by omega)
                  rw [vB_t (mayQ_yes hmq ⟨by first | exact Or.inl (fun y => hx1 (by rw [y]; rfl)) | exact Or.inr (by omega), by first | exact Or.inl (fun y => hx2 (by rw [y]; rfl)) | exact Or.inr (by omega)⟩)] at z
                  exact z
                · skip
                  have hx2 := hc8
                  refine V.iload_n dX8_marries_145 rfl ?_
                  refine V.iload_n dX8_marries_146 rfl ?_
                  refine V.icmp_neN 154 dX8_marries_147 (by decide) (by omega) (by omega) (fun hc9 => ?_) (fun hc9 => ?_)
                  · skip
                    refine V.iconst (v := nI 0) dX8_marries_154 (by decide) ?_
                    refine V.istore dX8_marries_155 rfl rfl ?_
                    dsimp only [List.set]
                    refine V.iincN (n := 1) dX8_marries_157 rfl rfl rfl ?_
                    dsimp only [List.set]
                    refine V.goto 106 dX8_marries_160 (by decide) ?_
                    have z := iha (a + 1) (by omega) (by omega)
                    first
                      | (rw [vB_f (mayQ_dn hmq)] at z; exact z)
                      | (rw [vB_f (mayQ_cl (fun y => by
                           first
                             | exact y.1.elim (fun u => u (getM_some hx1 (by omega))) (fun u => by omega)
                             | exact y.2.elim (fun u => u (getM_some hx2 (by omega))) (fun u => by omega)))] at z
                         exact z)
                  · skip
                    refine V.iconst (v := nI 1) dX8_marries_150 (by decide) ?_
                    refine V.goto 155 dX8_marries_151 (by decide) ?_
                    refine V.istore dX8_marries_155 rfl rfl ?_
                    dsimp only [List.set]
                    refine V.iincN (n := 1) dX8_marries_157 rfl rfl rfl ?_
                    dsimp only [List.set]
                    refine V.goto 106 dX8_marries_160 (by decide) ?_
                    have z := iha (a + 1) (by omega) (by omega)
                    rw [vB_t (mayQ_yes hmq ⟨by first | exact Or.inl (fun y => hx1 (by rw [y]; rfl)) | exact Or.inr (by omega), by first | exact Or.inl (fun y => hx2 (by rw [y]; rfl)) | exact Or.inr (by omega)⟩)] at z
                    exact z
              · skip
                have hx1 := hc7
                refine V.iload_n dX8_marries_128 rfl ?_
                refine V.iload dX8_marries_129 rfl ?_
                refine V.icmp_neN 154 dX8_marries_131 (by decide) (by omega) (by omega) (fun hc10 => ?_) (fun hc10 => ?_)
                · skip
                  refine V.iconst (v := nI 0) dX8_marries_154 (by decide) ?_
                  refine V.istore dX8_marries_155 rfl rfl ?_
                  dsimp only [List.set]
                  refine V.iincN (n := 1) dX8_marries_157 rfl rfl rfl ?_
                  dsimp only [List.set]
                  refine V.goto 106 dX8_marries_160 (by decide) ?_
                  have z := iha (a + 1) (by omega) (by omega)
                  first
                    | (rw [vB_f (mayQ_dn hmq)] at z; exact z)
                    | (rw [vB_f (mayQ_cl (fun y => by
                         first
                           | exact y.1.elim (fun u => u (getM_some hx1 (by omega))) (fun u => by omega)
                           | exact y.2.elim (fun u => u (getM_some hx2 (by omega))) (fun u => by omega)))] at z
                       exact z)
                · skip
                  refine V.aload_n dX8_marries_134 rfl ?_
                  refine V.get fX8_40 dX8_marries_135 ho2 rfl ?_
                  refine V.iload dX8_marries_138 rfl ?_
                  refine V.iald dX8_marries_140 h112 rfl (by omega) (hrow2 _ (by omega)) ?_
                  refine V.iload_n dX8_marries_141 rfl ?_
                  refine V.icmp_neN 150 dX8_marries_142 (by decide) (by omega) (by omega) (fun hc11 => ?_) (fun hc11 => ?_)
                  · skip
                    have hx2 := hc11
                    refine V.iconst (v := nI 1) dX8_marries_150 (by decide) ?_
                    refine V.goto 155 dX8_marries_151 (by decide) ?_
                    refine V.istore dX8_marries_155 rfl rfl ?_
                    dsimp only [List.set]
                    refine V.iincN (n := 1) dX8_marries_157 rfl rfl rfl ?_
                    dsimp only [List.set]
                    refine V.goto 106 dX8_marries_160 (by decide) ?_
                    have z := iha (a + 1) (by omega) (by omega)
                    rw [vB_t (mayQ_yes hmq ⟨by first | exact Or.inl (fun y => hx1 (by rw [y]; rfl)) | exact Or.inr (by omega), by first | exact Or.inl (fun y => hx2 (by rw [y]; rfl)) | exact Or.inr (by omega)⟩)] at z
                    exact z
                  · skip
                    have hx2 := hc11
                    refine V.iload_n dX8_marries_145 rfl ?_
                    refine V.iload_n dX8_marries_146 rfl ?_
                    refine V.icmp_neN 154 dX8_marries_147 (by decide) (by omega) (by omega) (fun hc12 => ?_) (fun hc12 => ?_)
                    · skip
                      refine V.iconst (v := nI 0) dX8_marries_154 (by decide) ?_
                      refine V.istore dX8_marries_155 rfl rfl ?_
                      dsimp only [List.set]
                      refine V.iincN (n := 1) dX8_marries_157 rfl rfl rfl ?_
                      dsimp only [List.set]
                      refine V.goto 106 dX8_marries_160 (by decide) ?_
                      have z := iha (a + 1) (by omega) (by omega)
                      first
                        | (rw [vB_f (mayQ_dn hmq)] at z; exact z)
                        | (rw [vB_f (mayQ_cl (fun y => by
                             first
                               | exact y.1.elim (fun u => u (getM_some hx1 (by omega))) (fun u => by omega)
                               | exact y.2.elim (fun u => u (getM_some hx2 (by omega))) (fun u => by omega)))] at z
                           exact z)
                    · skip
                      refine V.iconst (v := nI 1) dX8_marries_150 (by decide) ?_
                      refine V.goto 155 dX8_marries_151 (by decide) ?_
                      refine V.istore dX8_marries_155 rfl rfl ?_
                      dsimp only [List.set]
                      refine V.iincN (n := 1) dX8_marries_157 rfl rfl rfl ?_
                      dsimp only [List.set]
                      refine V.goto 106 dX8_marries_160 (by decide) ?_
                      have z := iha (a + 1) (by omega) (by omega)
                      rw [vB_t (mayQ_yes hmq ⟨by first | exact Or.inl (fun y => hx1 (by rw [y]; rfl)) | exact Or.inr (by omega), by first | exact Or.inl (fun y => hx2 (by rw [y]; rfl)) | exact Or.inr (by omega)⟩)] at z
                      exact z
        refine V.iload_n dX8_marries_16 rfl ?_
        refine V.re (iI_toN (n := k) hkz) ?_
        refine V.if_ltN 202 dX8_marries_17 (by decide) (by omega) (fun hc1 => ?_) (fun hc1 => ?_)
        · exact absurd hc1 (by omega)
        · skip
          refine V.aload_n dX8_marries_20 rfl ?_
          refine V.get fX8_40 dX8_marries_21 ho1 rfl ?_
          refine V.iload_n dX8_marries_24 rfl ?_
          refine V.re (iI_toN (n := k) hkz) ?_
          refine V.dup2 dX8_marries_25 rfl rfl ?_
          refine V.iald dX8_marries_26 h111 rfl (by omega) hk11 ?_
          refine V.iconst (v := nI 1) dX8_marries_27 (by decide) ?_
          refine V.toZ1 ?_
          refine V.iaddZ dX8_marries_28 ?_
          refine V.re (y := nI c) (iI_toN (by omega)) ?_
          refine V.iast dX8_marries_29 h111 rfl (by omega) (by omega) ?_
          have hS2 := hS1.set ((A1 11).set k (nI c)) (by rw [List.length_set]; exact hl11)
          have hf2 := hf1.tr (VFr.set (h := h1) (lo := m) (hi := m + 12) (a := m + 11) (c := Sum.inl ((A1 11).set k (nI c))) (by omega) (by omega))
          have hrow2 : (∀ a, a < k → ((upA A1 11 ((A1 11).set k (nI c))) 11)[a]? = some (nI ((M a).getD (rN S)))) := fun a ha => by rw [upA_s, List.getElem?_set_ne (by omega)]; exact hrow1 a ha
          have hk2 : (upA A1 11 ((A1 11).set k (nI c)) 11)[k]? = some (nI c) := by rw [upA_s, List.getElem?_set_self (by omega)]
          generalize List.set h1 (m + 11) (Sum.inl ((A1 11).set k (nI c))) = h2 at hS2 hf2 ⊢
          generalize upA A1 11 ((A1 11).set k (nI c)) = A2 at hS2 hrow2 hk2
          obtain ⟨ho2, hA2⟩ := id hS2.1
          have h112 := (hA2 11 (by omega) (by omega)).1
          have hl2 : (A2 11).length = 6 := (hA2 11 (by omega) (by omega)).2
          have h22 := (hA2 2 (by omega) (by omega)).1
          rw [hS2.2 2 (by omega)] at h22
          have hM2 : MRm h2 m F A2 S := ⟨hS2.1, by rw [hS2.2 2 (by omega)]; exact hM.2.1, by rw [hS2.2 5 (by omega)]; exact hM.2.2⟩
          have hk3 : (A2 11)[k]? = some (iI (((c + 1 : Nat) : Int) - 1)) := by rw [hk2, iI_toN (n := c) (by omega)]
          refine V.aload_n dX8_marries_30 rfl ?_
          refine V.get fX8_40 dX8_marries_31 ho2 rfl ?_
          refine V.iload_n dX8_marries_34 rfl ?_
          refine V.re (iI_toN (n := k) hkz) ?_
          refine V.iald dX8_marries_35 h112 rfl (by omega) hk2 ?_
          refine V.iload_n dX8_marries_36 rfl ?_
          refine V.icmp_leN 46 dX8_marries_37 (by decide) (by omega) (by omega) (fun hc2 => ?_) (fun hc2 => ?_)
          · skip
            refine V.aload_n dX8_marries_46 rfl ?_
            refine V.get fX8_40 dX8_marries_47 ho2 rfl ?_
            refine V.iload_n dX8_marries_50 rfl ?_
            refine V.re (iI_toN (n := k) hkz) ?_
            refine V.iald dX8_marries_51 h112 rfl (by omega) hk2 ?_
            refine V.istore_n (i := 3) dX8_marries_52 rfl rfl rfl ?_
            dsimp only [List.set]
            refine V.iload_n dX8_marries_53 rfl ?_
            refine V.iload_n dX8_marries_54 rfl ?_
            refine V.icmp_eqN 96 dX8_marries_55 (by decide) (by omega) (by omega) (fun hc3 => ?_) (fun hc3 => ?_)
            · skip
              refine V.iconst (v := nI 1) dX8_marries_96 (by decide) ?_
              refine V.goto 101 dX8_marries_97 (by decide) ?_
              refine V.istore dX8_marries_101 rfl rfl ?_
              dsimp only [List.set]
              refine V.iconst (v := nI 0) dX8_marries_103 (by decide) ?_
              refine V.istore dX8_marries_104 rfl rfl ?_
              dsimp only [List.set]
              have z := LA h2 A2 hS2 hrow2 hk2 hf2 0 (by omega)
              rw [vB_t (show mayQ S M k c 0 from ⟨by first | exact Or.inl (by omega) | exact Or.inr ⟨by omega, by omega, by omega, Or.inl (by omega)⟩ | exact Or.inr ⟨by omega, by omega, by omega, Or.inr (getM_some hx3 (by omega))⟩, fun x hx => absurd hx (Nat.not_lt_zero _)⟩)] at z
              exact z
            · skip
              refine V.iload_n dX8_marries_58 rfl ?_
              refine V.iload_n dX8_marries_59 rfl ?_
              refine V.re (iI_toN (n := k) hkz) ?_
              refine V.icmp_eqN 100 dX8_marries_60 (by decide) (by omega) (by omega) (fun hc4 => ?_) (fun hc4 => ?_)
              · skip
                refine V.iconst (v := nI 0) dX8_marries_100 (by decide) ?_
                refine V.istore dX8_marries_101 rfl rfl ?_
                dsimp only [List.set]
                refine V.iconst (v := nI 0) dX8_marries_103 (by decide) ?_
                refine V.istore dX8_marries_104 rfl rfl ?_
                dsimp only [List.set]
                have z := LA h2 A2 hS2 hrow2 hk2 hf2 0 (by omega)
                rw [vB_f (show ¬ mayQ S M k c 0 from fun y => y.1.elim (fun u => by omega) (fun u => by
                  have u1 := u.1; have u2 := u.2.1; have u3 := u.2.2.1
                  first | (exfalso; omega) | exact u.2.2.2.elim (fun q => by omega) (fun q => hx3 (by rw [q]; rfl))))] at z
                exact z
              · skip
                refine V.aload_n dX8_marries_63 rfl ?_
                refine V.iload_n dX8_marries_64 rfl ?_
                refine V.re (iI_toN (n := k) hkz) ?_
                refine V.iload_n dX8_marries_65 rfl ?_
                refine V.callVp (ci := 8) cX8_172 (m_leans g h2 m F A2 S hM2 hB k c (by omega) (by omega)) dX8_marries_66 (Nat.le_of_ble_eq_true rfl) rfl ho2 rfl rfl (Nat.le_of_ble_eq_true rfl) ?_
                refine V.re (y := iI (rL S k c)) (by rw [if_neg (by omega)]) ?_
                have bkc := bL k c
                refine V.if_leZ 100 dX8_marries_69 (by decide) (by omega) (fun hc5 => ?_) (fun hc5 => ?_)
                · skip
                  refine V.iconst (v := nI 0) dX8_marries_100 (by decide) ?_
                  refine V.istore dX8_marries_101 rfl rfl ?_
                  dsimp only [List.set]
                  refine V.iconst (v := nI 0) dX8_marries_103 (by decide) ?_
                  refine V.istore dX8_marries_104 rfl rfl ?_
                  dsimp only [List.set]
                  have z := LA h2 A2 hS2 hrow2 hk2 hf2 0 (by omega)
                  rw [vB_f (show ¬ mayQ S M k c 0 from fun y => y.1.elim (fun u => by omega) (fun u => by
                    have u1 := u.1; have u2 := u.2.1; have u3 := u.2.2.1
                    first | (exfalso; omega) | exact u.2.2.2.elim (fun q => by omega) (fun q => hx3 (by rw [q]; rfl))))] at z
                  exact z
                · skip
                  refine V.aload_n dX8_marries_72 rfl ?_
                  refine V.iload_n dX8_marries_73 rfl ?_
                  refine V.iload_n dX8_marries_74 rfl ?_
                  refine V.re (iI_toN (n := k) hkz) ?_
                  refine V.callVp (ci := 8) cX8_172 (m_leans g h2 m F A2 S hM2 hB c k (by omega) (by omega)) dX8_marries_75 (Nat.le_of_ble_eq_true rfl) rfl ho2 rfl rfl (Nat.le_of_ble_eq_true rfl) ?_
                  refine V.re (y := iI (rL S c k)) (by rw [if_neg (by omega)]) ?_
                  have bck := bL c k
                  refine V.if_leZ 100 dX8_marries_78 (by decide) (by omega) (fun hc6 => ?_) (fun hc6 => ?_)
                  · skip
                    refine V.iconst (v := nI 0) dX8_marries_100 (by decide) ?_
                    refine V.istore dX8_marries_101 rfl rfl ?_
                    dsimp only [List.set]
                    refine V.iconst (v := nI 0) dX8_marries_103 (by decide) ?_
                    refine V.istore dX8_marries_104 rfl rfl ?_
                    dsimp only [List.set]
                    have z := LA h2 A2 hS2 hrow2 hk2 hf2 0 (by omega)
                    rw [vB_f (show ¬ mayQ S M k c 0 from fun y => y.1.elim (fun u => by omega) (fun u => by
                      have u1 := u.1; have u2 := u.2.1; have u3 := u.2.2.1
                      first | (exfalso; omega) | exact u.2.2.2.elim (fun q => by omega) (fun q => hx3 (by rw [q]; rfl))))] at z
                    exact z
                  · skip
                    refine V.iload_n dX8_marries_81 rfl ?_
                    refine V.iload_n dX8_marries_82 rfl ?_
                    refine V.re (iI_toN (n := k) hkz) ?_
                    refine V.icmp_gtN 96 dX8_marries_83 (by decide) (by omega) (by omega) (fun hc7 => ?_) (fun hc7 => ?_)
                    · skip
                      refine V.iconst (v := nI 1) dX8_marries_96 (by decide) ?_
                      refine V.goto 101 dX8_marries_97 (by decide) ?_
                      refine V.istore dX8_marries_101 rfl rfl ?_
                      dsimp only [List.set]
                      refine V.iconst (v := nI 0) dX8_marries_103 (by decide) ?_
                      refine V.istore dX8_marries_104 rfl rfl ?_
                      dsimp only [List.set]
                      have z := LA h2 A2 hS2 hrow2 hk2 hf2 0 (by omega)
                      rw [vB_t (show mayQ S M k c 0 from ⟨by first | exact Or.inl (by omega) | exact Or.inr ⟨by omega, by omega, by omega, Or.inl (by omega)⟩ | exact Or.inr ⟨by omega, by omega, by omega, Or.inr (getM_some hx3 (by omega))⟩, fun x hx => absurd hx (Nat.not_lt_zero _)⟩)] at z
                      exact z
                    · skip
                      have gmc := getM_bd hIv.1 (a := c) (by omega)
                      refine V.aload_n dX8_marries_86 rfl ?_
                      refine V.get fX8_40 dX8_marries_87 ho2 rfl ?_
                      refine V.iload_n dX8_marries_90 rfl ?_
                      refine V.iald dX8_marries_91 h112 rfl (by omega) (hrow2 _ (by omega)) ?_
                      refine V.iload_n dX8_marries_92 rfl ?_
                      refine V.re (iI_toN (n := k) hkz) ?_
                      refine V.icmp_neN 100 dX8_marries_93 (by decide) (by omega) (by omega) (fun hc8 => ?_) (fun hc8 => ?_)
                      · skip
                        have hx3 := hc8
                        refine V.iconst (v := nI 0) dX8_marries_100 (by decide) ?_
                        refine V.istore dX8_marries_101 rfl rfl ?_
                        dsimp only [List.set]
                        refine V.iconst (v := nI 0) dX8_marries_103 (by decide) ?_
                        refine V.istore dX8_marries_104 rfl rfl ?_
                        dsimp only [List.set]
                        have z := LA h2 A2 hS2 hrow2 hk2 hf2 0 (by omega)
                        rw [vB_f (show ¬ mayQ S M k c 0 from fun y => y.1.elim (fun u => by omega) (fun u => by
                          have u1 := u.1; have u2 := u.2.1; have u3 := u.2.2.1
                          first | (exfalso; omega) | exact u.2.2.2.elim (fun q => by omega) (fun q => hx3 (by rw [q]; rfl))))] at z
                        exact z
                      · skip
                        have hx3 := hc8
                        refine V.iconst (v := nI 1) dX8_marries_96 (by decide) ?_
                        refine V.goto 101 dX8_marries_97 (by decide) ?_
                        refine V.istore dX8_marries_101 rfl rfl ?_
                        dsimp only [List.set]
                        refine V.iconst (v := nI 0) dX8_marries_103 (by decide) ?_
                        refine V.istore dX8_marries_104 rfl rfl ?_
                        dsimp only [List.set]
                        have z := LA h2 A2 hS2 hrow2 hk2 hf2 0 (by omega)
                        rw [vB_t (show mayQ S M k c 0 from ⟨by first | exact Or.inl (by omega) | exact Or.inr ⟨by omega, by omega, by omega, Or.inl (by omega)⟩ | exact Or.inr ⟨by omega, by omega, by omega, Or.inr (getM_some hx3 (by omega))⟩, fun x hx => absurd hx (Nat.not_lt_zero _)⟩)] at z
                        exact z
          · exact absurd hc2 (by omega)
    | succ d ihd =>
      intro k hkd M KK hIv HF e
      induction e with
      | zero =>
        intro c hce h1 A1 kz v3 v4 v5 hS1 hrow1 hk11 hkz hans hf1
        obtain ⟨ho1, hA1⟩ := id hS1.1
        have hl11 : (A1 11).length = 6 := (hA1 11 (by omega) (by omega)).2
        have h111 := (hA1 11 (by omega) (by omega)).1
        have hkn : k < rN S := by omega
        refine V.iload_n dX8_marries_16 rfl ?_
        refine V.re (iI_toN (n := k) hkz) ?_
        refine V.if_ltN 202 dX8_marries_17 (by decide) (by omega) (fun hc1 => ?_) (fun hc1 => ?_)
        · exact absurd hc1 (by omega)
        · skip
          refine V.aload_n dX8_marries_20 rfl ?_
          refine V.get fX8_40 dX8_marries_21 ho1 rfl ?_
          refine V.iload_n dX8_marries_24 rfl ?_
          refine V.re (iI_toN (n := k) hkz) ?_
          refine V.dup2 dX8_marries_25 rfl rfl ?_
          refine V.iald dX8_marries_26 h111 rfl (by omega) hk11 ?_
          refine V.iconst (v := nI 1) dX8_marries_27 (by decide) ?_
          refine V.toZ1 ?_
          refine V.iaddZ dX8_marries_28 ?_
          refine V.re (y := nI c) (iI_toN (by omega)) ?_
          refine V.iast dX8_marries_29 h111 rfl (by omega) (by omega) ?_
          have hS2 := hS1.set ((A1 11).set k (nI c)) (by rw [List.length_set]; exact hl11)
          have hf2 := hf1.tr (VFr.set (h := h1) (lo := m) (hi := m + 12) (a := m + 11) (c := Sum.inl ((A1 11).set k (nI c))) (by omega) (by omega))
          have hrow2 : (∀ a, a < k → ((upA A1 11 ((A1 11).set k (nI c))) 11)[a]? = some (nI ((M a).getD (rN S)))) := fun a ha => by rw [upA_s, List.getElem?_set_ne (by omega)]; exact hrow1 a ha
          have hk2 : (upA A1 11 ((A1 11).set k (nI c)) 11)[k]? = some (nI c) := by rw [upA_s, List.getElem?_set_self (by omega)]
          generalize List.set h1 (m + 11) (Sum.inl ((A1 11).set k (nI c))) = h2 at hS2 hf2 ⊢
          generalize upA A1 11 ((A1 11).set k (nI c)) = A2 at hS2 hrow2 hk2
          obtain ⟨ho2, hA2⟩ := id hS2.1
          have h112 := (hA2 11 (by omega) (by omega)).1
          have hl2 : (A2 11).length = 6 := (hA2 11 (by omega) (by omega)).2
          have h22 := (hA2 2 (by omega) (by omega)).1
          rw [hS2.2 2 (by omega)] at h22
          have hM2 : MRm h2 m F A2 S := ⟨hS2.1, by rw [hS2.2 2 (by omega)]; exact hM.2.1, by rw [hS2.2 5 (by omega)]; exact hM.2.2⟩
          have hk3 : (A2 11)[k]? = some (iI (((c + 1 : Nat) : Int) - 1)) := by rw [hk2, iI_toN (n := c) (by omega)]
          refine V.aload_n dX8_marries_30 rfl ?_
          refine V.get fX8_40 dX8_marries_31 ho2 rfl ?_
          refine V.iload_n dX8_marries_34 rfl ?_
          refine V.re (iI_toN (n := k) hkz) ?_
          refine V.iald dX8_marries_35 h112 rfl (by omega) hk2 ?_
          refine V.iload_n dX8_marries_36 rfl ?_
          refine V.icmp_leN 46 dX8_marries_37 (by decide) (by omega) (by omega) (fun hc2 => ?_) (fun hc2 => ?_)
          · exact absurd hc2 (by omega)
          · skip
            refine V.iinc (v := iI (kz + (-1))) dX8_marries_40 rfl (iI_add _ _) rfl rfl ?_
            dsimp only [List.set]
            refine V.goto 16 dX8_marries_43 (by decide) ?_
            refine HF h2 A2 _ _ _ _ hS2 hrow2 (by omega) ?_ hf2 rfl
            rw [hans, show c = rN S + 1 by omega, rest_end hIv hkd]; rfl
      | succ e ihe =>
        intro c hce h1 A1 kz v3 v4 v5 hS1 hrow1 hk11 hkz hans hf1
        obtain ⟨ho1, hA1⟩ := id hS1.1
        have hl11 : (A1 11).length = 6 := (hA1 11 (by omega) (by omega)).2
        have h111 := (hA1 11 (by omega) (by omega)).1
        have hkn : k < rN S := by omega
        have LA : ∀ (h2 : VHp) (A2 : MA), MSm h2 m F A A2 → (∀ a, a < k → (A2 11)[a]? = some (nI ((M a).getD (rN S)))) → (A2 11)[k]? = some (nI c) → VFr m (m + 12) h h2 → ∀ a, a ≤ k → V (g, mX8_marries, 2, false, h.length, MMr m F A S h) (0, 0) 106 [some (.ref m), some (.int (nI (rN S))), some (.int (iI kz)), some (.int (nI c)), some (.int (vB (mayQ S M k c a))), some (.int (nI a))] [] h2 := by
          intro h2 A2 hS2 hrow2 hk2 hf2
          refine vloop k (fun a iha hia => ?_)
          obtain ⟨ho2, hA2⟩ := id hS2.1
          have h112 := (hA2 11 (by omega) (by omega)).1
          have hl2 : (A2 11).length = 6 := (hA2 11 (by omega) (by omega)).2
          have h22 := (hA2 2 (by omega) (by omega)).1
          rw [hS2.2 2 (by omega)] at h22
          have hM2 : MRm h2 m F A2 S := ⟨hS2.1, by rw [hS2.2 2 (by omega)]; exact hM.2.1, by rw [hS2.2 5 (by omega)]; exact hM.2.2⟩
          have hk3 : (A2 11)[k]? = some (iI (((c + 1 : Nat) : Int) - 1)) := by rw [hk2, iI_toN (n := c) (by omega)]
          refine V.iload dX8_marries_106 rfl ?_
          refine V.iload_n dX8_marries_108 rfl ?_
          refine V.re (iI_toN (n := k) hkz) ?_
          refine V.icmp_geN 163 dX8_marries_109 (by decide) (by omega) (by omega) (fun hc1 => ?_) (fun hc1 => ?_)
          · skip
            refine V.iload dX8_marries_163 rfl ?_
            refine V.if_eqB 184 dX8_marries_165 (by decide) (fun hc2 => ?_) (fun hc2 => ?_)
            · skip
              have hmay : ¬ mayQ S M k c k := by rw [show a = k by omega] at hc2; exact hc2
              refine V.iload dX8_marries_184 rfl ?_
              refine V.if_eqB 199 dX8_marries_186 (by decide) (fun hc3 => ?_) (fun hc3 => ?_)
              · skip
                refine V.goto 16 dX8_marries_199 (by decide) ?_
                obtain rfl : a = k := (by omega)
                first
                  | exact ihe (c + 1) (by omega) h2 A2 _ _ _ _ hS2 hrow2 hk3 hkz (by rw [hans, rest_no hIv hkd (by omega) hmay]) hf2
                  | exact ihe (c + 1) (by omega) h2 A2 _ _ _ _ hS2 hrow2 hk3 hkz (by rw [hans, hry.1, or_assoc1, pair_0, if_neg hstb]; rfl) hf2
              · exact absurd hc3 (by rw [show a = k by omega]; exact hmay)
            · skip
              have hm0 := hc2
              have hak : a = k := (by omega)
              rw [hak] at hc2
              have hry := rest_yes hIv hkd (by omega) hc2
              refine V.iload_n dX8_marries_168 rfl ?_
              refine V.re (iI_toN (n := k) hkz) ?_
              refine V.iload_n dX8_marries_169 rfl ?_
              refine V.iconst (v := nI 1) dX8_marries_170 (by decide) ?_
              refine V.isubN dX8_marries_171 (by omega) ?_
              refine V.icmp_neN 184 dX8_marries_172 (by decide) (by omega) (by omega) (fun hc4 => ?_) (fun hc4 => ?_)
              · skip
                refine V.iload dX8_marries_184 rfl ?_
                refine V.if_eqB 199 dX8_marries_186 (by decide) (fun hc5 => ?_) (fun hc5 => ?_)
                · exact absurd hm0 hc5
                · skip
                  refine V.iinc (v := iI (kz + (1))) dX8_marries_189 rfl (iI_add _ _) rfl rfl ?_
                  dsimp only [List.set]
                  refine V.aload_n dX8_marries_192 rfl ?_
                  refine V.get fX8_40 dX8_marries_193 ho2 rfl ?_
                  refine V.iload_n dX8_marries_196 rfl ?_
                  refine V.re (iI_toN (n := k + 1) (by omega)) ?_
                  refine V.iconst (v := iI (-1)) dX8_marries_197 (by decide) ?_
                  refine V.iast dX8_marries_198 h112 rfl (by omega) (by omega) ?_
                  refine V.goto 16 dX8_marries_199 (by decide) ?_
                  obtain rfl : a = k := (by omega)
                  have hS4 := hS2.set ((A2 11).set (a + 1) (iI (-1))) (by rw [List.length_set]; exact hl2)
                  refine ihd (a + 1) (by omega) (newM S M a c) ((restK S (d + 1) a M (c + 1)).or KK) hry.2.1 ?_ (rN S + 1) 0 (by omega) _ _ _ _ _ _ hS4 ?_ ?_ (by omega) ?_ (hf2.tr (VFr.set (by omega) (by omega)))
                  · intro h5 A5 kz5 v35 v45 v55 hS5 hrow5 hkz5 hans5 hf5 _
                    refine ihe (c + 1) (by omega) h5 A5 kz5 _ _ _ hS5 (fun x hx => ?_) ?_ (by omega) hans5 hf5
                    · rw [hrow5 x (by omega), hry.2.2.2 x hx]
                    · rw [hrow5 a (by omega), hry.2.2.1, iI_toN (n := c) (by omega)]
                  · intro x hx
                    rw [upA_s, List.getElem?_set_ne (by omega)]
                    by_cases q : x = a
                    · rw [q, hk2, hry.2.2.1]
                    · rw [hry.2.2.2 x (by omega)]; exact hrow2 x (by omega)
                  · rw [upA_s, List.getElem?_set_self (by omega)]; rfl
                  · rw [hans, hry.1, or_assoc1, pair_rest (k := a + 1) (by omega)]
              · exact absurd hc4 (by omega)
          · skip
            have gma := getM_bd hIv.1 (a := a) (by omega)
            refine V.iload dX8_marries_112 rfl ?_
            refine V.if_eqB 154 dX8_marries_114 (by decide) (fun hc6 => ?_) (fun hc6 => ?_)
            · skip
              have hmq := hc6
              refine V.iconst (v := nI 0) dX8_marries_154 (by decide) ?_
              refine V.istore dX8_marries_155 rfl rfl ?_
              dsimp only [List.set]
              refine V.iincN (n := 1) dX8_marries_157 rfl rfl rfl ?_
              dsimp only [List.set]
              refine V.goto 106 dX8_marries_160 (by decide) ?_
              have z := iha (a + 1) (by omega) (by omega)
              first
                | (rw [vB_f (mayQ_dn hmq)] at z; exact z)
                | (rw [vB_f (mayQ_cl (fun y => by
                     first
                       | exact y.1.elim (fun u => u (getM_some hx1 (by omega))) (fun u => by omega)
                       | exact y.2.elim (fun u => u (getM_some hx2 (by omega))) (fun u => by omega)))] at z
                   exact z)
            · skip
              have hmq := hc6
              refine V.aload_n dX8_marries_117 rfl ?_
              refine V.get fX8_40 dX8_marries_118 ho2 rfl ?_
              refine V.iload dX8_marries_121 rfl ?_
              refine V.iald dX8_marries_123 h112 rfl (by omega) (hrow2 _ (by omega)) ?_
              refine V.iload_n dX8_marries_124 rfl ?_
              refine V.re (iI_toN (n := k) hkz) ?_
              refine V.icmp_neN 134 dX8_marries_125 (by decide) (by omega) (by omega) (fun hc7 => ?_) (fun hc7 => ?_)
              · skip
                have hx1 := hc7
                refine V.aload_n dX8_marries_134 rfl ?_
                refine V.get fX8_40 dX8_marries_135 ho2 rfl ?_
                refine V.iload dX8_marries_138 rfl ?_
                refine V.iald dX8_marries_140 h112 rfl (by omega) (hrow2 _ (by omega)) ?_
                refine V.iload_n dX8_marries_141 rfl ?_
                refine V.icmp_neN 150 dX8_marries_142 (by decide) (by omega) (by omega) (fun hc8 => ?_) (fun hc8 => ?_)
                · skip
                  have hx2 := hc8
                  refine V.iconst (v := nI 1) dX8_marries_150 (by decide) ?_
                  refine V.goto 155 dX8_marries_151 (by decide) ?_
                  refine V.istore dX8_marries_155 rfl rfl ?_
                  dsimp only [List.set]
                  refine V.iincN (n := 1) dX8_marries_157 rfl rfl rfl ?_
                  dsimp only [List.set]
                  refine V.goto 106 dX8_marries_160 (by decide) ?_
                  have z := iha (a + 1) (by omega) (by omega)
                  rw [vB_t (mayQ_yes hmq ⟨by first | exact Or.inl (fun y => hx1 (by rw [y]; rfl)) | exact Or.inr (by omega), by first | exact Or.inl (fun y => hx2 (by rw [y]; rfl)) | exact Or.inr (by omega)⟩)] at z
                  exact z
                · skip
                  have hx2 := hc8
                  refine V.iload_n dX8_marries_145 rfl ?_
                  refine V.iload_n dX8_marries_146 rfl ?_
                  refine V.icmp_neN 154 dX8_marries_147 (by decide) (by omega) (by omega) (fun hc9 => ?_) (fun hc9 => ?_)
                  · skip
                    refine V.iconst (v := nI 0) dX8_marries_154 (by decide) ?_
                    refine V.istore dX8_marries_155 rfl rfl ?_
                    dsimp only [List.set]
                    refine V.iincN (n := 1) dX8_marries_157 rfl rfl rfl ?_
                    dsimp only [List.set]
                    refine V.goto 106 dX8_marries_160 (by decide) ?_
                    have z := iha (a + 1) (by omega) (by omega)
                    first
                      | (rw [vB_f (mayQ_dn hmq)] at z; exact z)
                      | (rw [vB_f (mayQ_cl (fun y => by
                           first
                             | exact y.1.elim (fun u => u (getM_some hx1 (by omega))) (fun u => by omega)
                             | exact y.2.elim (fun u => u (getM_some hx2 (by omega))) (fun u => by omega)))] at z
                         exact z)
                  · skip
                    refine V.iconst (v := nI 1) dX8_marries_150 (by decide) ?_
                    refine V.goto 155 dX8_marries_151 (by decide) ?_
                    refine V.istore dX8_marries_155 rfl rfl ?_
                    dsimp only [List.set]
                    refine V.iincN (n := 1) dX8_marries_157 rfl rfl rfl ?_
                    dsimp only [List.set]
                    refine V.goto 106 dX8_marries_160 (by decide) ?_
                    have z := iha (a + 1) (by omega) (by omega)
                    rw [vB_t (mayQ_yes hmq ⟨by first | exact Or.inl (fun y => hx1 (by rw [y]; rfl)) | exact Or.inr (by omega), by first | exact Or.inl (fun y => hx2 (by rw [y]; rfl)) | exact Or.inr (by omega)⟩)] at z
                    exact z
              · skip
                have hx1 := hc7
                refine V.iload_n dX8_marries_128 rfl ?_
                refine V.iload dX8_marries_129 rfl ?_
                refine V.icmp_neN 154 dX8_marries_131 (by decide) (by omega) (by omega) (fun hc10 => ?_) (fun hc10 => ?_)
                · skip
                  refine V.iconst (v := nI 0) dX8_marries_154 (by decide) ?_
                  refine V.istore dX8_marries_155 rfl rfl ?_
                  dsimp only [List.set]
                  refine V.iincN (n := 1) dX8_marries_157 rfl rfl rfl ?_
                  dsimp only [List.set]
                  refine V.goto 106 dX8_marries_160 (by decide) ?_
                  have z := iha (a + 1) (by omega) (by omega)
                  first
                    | (rw [vB_f (mayQ_dn hmq)] at z; exact z)
                    | (rw [vB_f (mayQ_cl (fun y => by
                         first
                           | exact y.1.elim (fun u => u (getM_some hx1 (by omega))) (fun u => by omega)
                           | exact y.2.elim (fun u => u (getM_some hx2 (by omega))) (fun u => by omega)))] at z
                       exact z)
                · skip
                  refine V.aload_n dX8_marries_134 rfl ?_
                  refine V.get fX8_40 dX8_marries_135 ho2 rfl ?_
                  refine V.iload dX8_marries_138 rfl ?_
                  refine V.iald dX8_marries_140 h112 rfl (by omega) (hrow2 _ (by omega)) ?_
                  refine V.iload_n dX8_marries_141 rfl ?_
                  refine V.icmp_neN 150 dX8_marries_142 (by decide) (by omega) (by omega) (fun hc11 => ?_) (fun hc11 => ?_)
                  · skip
                    have hx2 := hc11
                    refine V.iconst (v := nI 1) dX8_marries_150 (by decide) ?_
                    refine V.goto 155 dX8_marries_151 (by decide) ?_
                    refine V.istore dX8_marries_155 rfl rfl ?_
                    dsimp only [List.set]
                    refine V.iincN (n := 1) dX8_marries_157 rfl rfl rfl ?_
                    dsimp only [List.set]
                    refine V.goto 106 dX8_marries_160 (by decide) ?_
                    have z := iha (a + 1) (by omega) (by omega)
                    rw [vB_t (mayQ_yes hmq ⟨by first | exact Or.inl (fun y => hx1 (by rw [y]; rfl)) | exact Or.inr (by omega), by first | exact Or.inl (fun y => hx2 (by rw [y]; rfl)) | exact Or.inr (by omega)⟩)] at z
                    exact z
                  · skip
                    have hx2 := hc11
                    refine V.iload_n dX8_marries_145 rfl ?_
                    refine V.iload_n dX8_marries_146 rfl ?_
                    refine V.icmp_neN 154 dX8_marries_147 (by decide) (by omega) (by omega) (fun hc12 => ?_) (fun hc12 => ?_)
                    · skip
                      refine V.iconst (v := nI 0) dX8_marries_154 (by decide) ?_
                      refine V.istore dX8_marries_155 rfl rfl ?_
                      dsimp only [List.set]
                      refine V.iincN (n := 1) dX8_marries_157 rfl rfl rfl ?_
                      dsimp only [List.set]
                      refine V.goto 106 dX8_marries_160 (by decide) ?_
                      have z := iha (a + 1) (by omega) (by omega)
                      first
                        | (rw [vB_f (mayQ_dn hmq)] at z; exact z)
                        | (rw [vB_f (mayQ_cl (fun y => by
                             first
                               | exact y.1.elim (fun u => u (getM_some hx1 (by omega))) (fun u => by omega)
                               | exact y.2.elim (fun u => u (getM_some hx2 (by omega))) (fun u => by omega)))] at z
                           exact z)
                    · skip
                      refine V.iconst (v := nI 1) dX8_marries_150 (by decide) ?_
                      refine V.goto 155 dX8_marries_151 (by decide) ?_
                      refine V.istore dX8_marries_155 rfl rfl ?_
                      dsimp only [List.set]
                      refine V.iincN (n := 1) dX8_marries_157 rfl rfl rfl ?_
                      dsimp only [List.set]
                      refine V.goto 106 dX8_marries_160 (by decide) ?_
                      have z := iha (a + 1) (by omega) (by omega)
                      rw [vB_t (mayQ_yes hmq ⟨by first | exact Or.inl (fun y => hx1 (by rw [y]; rfl)) | exact Or.inr (by omega), by first | exact Or.inl (fun y => hx2 (by rw [y]; rfl)) | exact Or.inr (by omega)⟩)] at z
                      exact z
        refine V.iload_n dX8_marries_16 rfl ?_
        refine V.re (iI_toN (n := k) hkz) ?_
        refine V.if_ltN 202 dX8_marries_17 (by decide) (by omega) (fun hc1 => ?_) (fun hc1 => ?_)
        · exact absurd hc1 (by omega)
        · skip
          refine V.aload_n dX8_marries_20 rfl ?_
          refine V.get fX8_40 dX8_marries_21 ho1 rfl ?_
          refine V.iload_n dX8_marries_24 rfl ?_
          refine V.re (iI_toN (n := k) hkz) ?_
          refine V.dup2 dX8_marries_25 rfl rfl ?_
          refine V.iald dX8_marries_26 h111 rfl (by omega) hk11 ?_
          refine V.iconst (v := nI 1) dX8_marries_27 (by decide) ?_
          refine V.toZ1 ?_
          refine V.iaddZ dX8_marries_28 ?_
          refine V.re (y := nI c) (iI_toN (by omega)) ?_
          refine V.iast dX8_marries_29 h111 rfl (by omega) (by omega) ?_
          have hS2 := hS1.set ((A1 11).set k (nI c)) (by rw [List.length_set]; exact hl11)
          have hf2 := hf1.tr (VFr.set (h := h1) (lo := m) (hi := m + 12) (a := m + 11) (c := Sum.inl ((A1 11).set k (nI c))) (by omega) (by omega))
          have hrow2 : (∀ a, a < k → ((upA A1 11 ((A1 11).set k (nI c))) 11)[a]? = some (nI ((M a).getD (rN S)))) := fun a ha => by rw [upA_s, List.getElem?_set_ne (by omega)]; exact hrow1 a ha
          have hk2 : (upA A1 11 ((A1 11).set k (nI c)) 11)[k]? = some (nI c) := by rw [upA_s, List.getElem?_set_self (by omega)]
          generalize List.set h1 (m + 11) (Sum.inl ((A1 11).set k (nI c))) = h2 at hS2 hf2 ⊢
          generalize upA A1 11 ((A1 11).set k (nI c)) = A2 at hS2 hrow2 hk2
          obtain ⟨ho2, hA2⟩ := id hS2.1
          have h112 := (hA2 11 (by omega) (by omega)).1
          have hl2 : (A2 11).length = 6 := (hA2 11 (by omega) (by omega)).2
          have h22 := (hA2 2 (by omega) (by omega)).1
          rw [hS2.2 2 (by omega)] at h22
          have hM2 : MRm h2 m F A2 S := ⟨hS2.1, by rw [hS2.2 2 (by omega)]; exact hM.2.1, by rw [hS2.2 5 (by omega)]; exact hM.2.2⟩
          have hk3 : (A2 11)[k]? = some (iI (((c + 1 : Nat) : Int) - 1)) := by rw [hk2, iI_toN (n := c) (by omega)]
          refine V.aload_n dX8_marries_30 rfl ?_
          refine V.get fX8_40 dX8_marries_31 ho2 rfl ?_
          refine V.iload_n dX8_marries_34 rfl ?_
          refine V.re (iI_toN (n := k) hkz) ?_
          refine V.iald dX8_marries_35 h112 rfl (by omega) hk2 ?_
          refine V.iload_n dX8_marries_36 rfl ?_
          refine V.icmp_leN 46 dX8_marries_37 (by decide) (by omega) (by omega) (fun hc2 => ?_) (fun hc2 => ?_)
          · skip
            refine V.aload_n dX8_marries_46 rfl ?_
            refine V.get fX8_40 dX8_marries_47 ho2 rfl ?_
            refine V.iload_n dX8_marries_50 rfl ?_
            refine V.re (iI_toN (n := k) hkz) ?_
            refine V.iald dX8_marries_51 h112 rfl (by omega) hk2 ?_
            refine V.istore_n (i := 3) dX8_marries_52 rfl rfl rfl ?_
            dsimp only [List.set]
            refine V.iload_n dX8_marries_53 rfl ?_
            refine V.iload_n dX8_marries_54 rfl ?_
            refine V.icmp_eqN 96 dX8_marries_55 (by decide) (by omega) (by omega) (fun hc3 => ?_) (fun hc3 => ?_)
            · skip
              refine V.iconst (v := nI 1) dX8_marries_96 (by decide) ?_
              refine V.goto 101 dX8_marries_97 (by decide) ?_
              refine V.istore dX8_marries_101 rfl rfl ?_
              dsimp only [List.set]
              refine V.iconst (v := nI 0) dX8_marries_103 (by decide) ?_
              refine V.istore dX8_marries_104 rfl rfl ?_
              dsimp only [List.set]
              have z := LA h2 A2 hS2 hrow2 hk2 hf2 0 (by omega)
              rw [vB_t (show mayQ S M k c 0 from ⟨by first | exact Or.inl (by omega) | exact Or.inr ⟨by omega, by omega, by omega, Or.inl (by omega)⟩ | exact Or.inr ⟨by omega, by omega, by omega, Or.inr (getM_some hx3 (by omega))⟩, fun x hx => absurd hx (Nat.not_lt_zero _)⟩)] at z
              exact z
            · skip
              refine V.iload_n dX8_marries_58 rfl ?_
              refine V.iload_n dX8_marries_59 rfl ?_
              refine V.re (iI_toN (n := k) hkz) ?_
              refine V.icmp_eqN 100 dX8_marries_60 (by decide) (by omega) (by omega) (fun hc4 => ?_) (fun hc4 => ?_)
              · skip
                refine V.iconst (v := nI 0) dX8_marries_100 (by decide) ?_
                refine V.istore dX8_marries_101 rfl rfl ?_
                dsimp only [List.set]
                refine V.iconst (v := nI 0) dX8_marries_103 (by decide) ?_
                refine V.istore dX8_marries_104 rfl rfl ?_
                dsimp only [List.set]
                have z := LA h2 A2 hS2 hrow2 hk2 hf2 0 (by omega)
                rw [vB_f (show ¬ mayQ S M k c 0 from fun y => y.1.elim (fun u => by omega) (fun u => by
                  have u1 := u.1; have u2 := u.2.1; have u3 := u.2.2.1
                  first | (exfalso; omega) | exact u.2.2.2.elim (fun q => by omega) (fun q => hx3 (by rw [q]; rfl))))] at z
                exact z
              · skip
                refine V.aload_n dX8_marries_63 rfl ?_
                refine V.iload_n dX8_marries_64 rfl ?_
                refine V.re (iI_toN (n := k) hkz) ?_
                refine V.iload_n dX8_marries_65 rfl ?_
                refine V.callVp (ci := 8) cX8_172 (m_leans g h2 m F A2 S hM2 hB k c (by omega) (by omega)) dX8_marries_66 (Nat.le_of_ble_eq_true rfl) rfl ho2 rfl rfl (Nat.le_of_ble_eq_true rfl) ?_
                refine V.re (y := iI (rL S k c)) (by rw [if_neg (by omega)]) ?_
                have bkc := bL k c
                refine V.if_leZ 100 dX8_marries_69 (by decide) (by omega) (fun hc5 => ?_) (fun hc5 => ?_)
                · skip
                  refine V.iconst (v := nI 0) dX8_marries_100 (by decide) ?_
                  refine V.istore dX8_marries_101 rfl rfl ?_
                  dsimp only [List.set]
                  refine V.iconst (v := nI 0) dX8_marries_103 (by decide) ?_
                  refine V.istore dX8_marries_104 rfl rfl ?_
                  dsimp only [List.set]
                  have z := LA h2 A2 hS2 hrow2 hk2 hf2 0 (by omega)
                  rw [vB_f (show ¬ mayQ S M k c 0 from fun y => y.1.elim (fun u => by omega) (fun u => by
                    have u1 := u.1; have u2 := u.2.1; have u3 := u.2.2.1
                    first | (exfalso; omega) | exact u.2.2.2.elim (fun q => by omega) (fun q => hx3 (by rw [q]; rfl))))] at z
                  exact z
                · skip
                  refine V.aload_n dX8_marries_72 rfl ?_
                  refine V.iload_n dX8_marries_73 rfl ?_
                  refine V.iload_n dX8_marries_74 rfl ?_
                  refine V.re (iI_toN (n := k) hkz) ?_
                  refine V.callVp (ci := 8) cX8_172 (m_leans g h2 m F A2 S hM2 hB c k (by omega) (by omega)) dX8_marries_75 (Nat.le_of_ble_eq_true rfl) rfl ho2 rfl rfl (Nat.le_of_ble_eq_true rfl) ?_
                  refine V.re (y := iI (rL S c k)) (by rw [if_neg (by omega)]) ?_
                  have bck := bL c k
                  refine V.if_leZ 100 dX8_marries_78 (by decide) (by omega) (fun hc6 => ?_) (fun hc6 => ?_)
                  · skip
                    refine V.iconst (v := nI 0) dX8_marries_100 (by decide) ?_
                    refine V.istore dX8_marries_101 rfl rfl ?_
                    dsimp only [List.set]
                    refine V.iconst (v := nI 0) dX8_marries_103 (by decide) ?_
                    refine V.istore dX8_marries_104 rfl rfl ?_
                    dsimp only [List.set]
                    have z := LA h2 A2 hS2 hrow2 hk2 hf2 0 (by omega)
                    rw [vB_f (show ¬ mayQ S M k c 0 from fun y => y.1.elim (fun u => by omega) (fun u => by
                      have u1 := u.1; have u2 := u.2.1; have u3 := u.2.2.1
                      first | (exfalso; omega) | exact u.2.2.2.elim (fun q => by omega) (fun q => hx3 (by rw [q]; rfl))))] at z
                    exact z
                  · skip
                    refine V.iload_n dX8_marries_81 rfl ?_
                    refine V.iload_n dX8_marries_82 rfl ?_
                    refine V.re (iI_toN (n := k) hkz) ?_
                    refine V.icmp_gtN 96 dX8_marries_83 (by decide) (by omega) (by omega) (fun hc7 => ?_) (fun hc7 => ?_)
                    · skip
                      refine V.iconst (v := nI 1) dX8_marries_96 (by decide) ?_
                      refine V.goto 101 dX8_marries_97 (by decide) ?_
                      refine V.istore dX8_marries_101 rfl rfl ?_
                      dsimp only [List.set]
                      refine V.iconst (v := nI 0) dX8_marries_103 (by decide) ?_
                      refine V.istore dX8_marries_104 rfl rfl ?_
                      dsimp only [List.set]
                      have z := LA h2 A2 hS2 hrow2 hk2 hf2 0 (by omega)
                      rw [vB_t (show mayQ S M k c 0 from ⟨by first | exact Or.inl (by omega) | exact Or.inr ⟨by omega, by omega, by omega, Or.inl (by omega)⟩ | exact Or.inr ⟨by omega, by omega, by omega, Or.inr (getM_some hx3 (by omega))⟩, fun x hx => absurd hx (Nat.not_lt_zero _)⟩)] at z
                      exact z
                    · skip
                      have gmc := getM_bd hIv.1 (a := c) (by omega)
                      refine V.aload_n dX8_marries_86 rfl ?_
                      refine V.get fX8_40 dX8_marries_87 ho2 rfl ?_
                      refine V.iload_n dX8_marries_90 rfl ?_
                      refine V.iald dX8_marries_91 h112 rfl (by omega) (hrow2 _ (by omega)) ?_
                      refine V.iload_n dX8_marries_92 rfl ?_
                      refine V.re (iI_toN (n := k) hkz) ?_
                      refine V.icmp_neN 100 dX8_marries_93 (by decide) (by omega) (by omega) (fun hc8 => ?_) (fun hc8 => ?_)
                      · skip
                        have hx3 := hc8
                        refine V.iconst (v := nI 0) dX8_marries_100 (by decide) ?_
                        refine V.istore dX8_marries_101 rfl rfl ?_
                        dsimp only [List.set]
                        refine V.iconst (v := nI 0) dX8_marries_103 (by decide) ?_
                        refine V.istore dX8_marries_104 rfl rfl ?_
                        dsimp only [List.set]
                        have z := LA h2 A2 hS2 hrow2 hk2 hf2 0 (by omega)
                        rw [vB_f (show ¬ mayQ S M k c 0 from fun y => y.1.elim (fun u => by omega) (fun u => by
                          have u1 := u.1; have u2 := u.2.1; have u3 := u.2.2.1
                          first | (exfalso; omega) | exact u.2.2.2.elim (fun q => by omega) (fun q => hx3 (by rw [q]; rfl))))] at z
                        exact z
                      · skip
                        have hx3 := hc8
                        refine V.iconst (v := nI 1) dX8_marries_96 (by decide) ?_
                        refine V.goto 101 dX8_marries_97 (by decide) ?_
                        refine V.istore dX8_marries_101 rfl rfl ?_
                        dsimp only [List.set]
                        refine V.iconst (v := nI 0) dX8_marries_103 (by decide) ?_
                        refine V.istore dX8_marries_104 rfl rfl ?_
                        dsimp only [List.set]
                        have z := LA h2 A2 hS2 hrow2 hk2 hf2 0 (by omega)
                        rw [vB_t (show mayQ S M k c 0 from ⟨by first | exact Or.inl (by omega) | exact Or.inr ⟨by omega, by omega, by omega, Or.inl (by omega)⟩ | exact Or.inr ⟨by omega, by omega, by omega, Or.inr (getM_some hx3 (by omega))⟩, fun x hx => absurd hx (Nat.not_lt_zero _)⟩)] at z
                        exact z
          · exact absurd hc2 (by omega)
  show V _ _ 0 [some (.ref m), none, none, none, none, none] [] h
  refine V.aload_n dX8_marries_0 rfl ?_
  refine V.get fX8_13 dX8_marries_1 ho rfl ?_
  refine V.iconst (v := nI 2) dX8_marries_4 (by decide) ?_
  refine V.iald dX8_marries_5 (hA 2 (by omega) (by omega)).1 rfl (by omega) et2 ?_
  refine V.istore_n (i := 1) dX8_marries_6 rfl rfl rfl ?_
  dsimp only [List.set]
  refine V.iconst (v := nI 0) dX8_marries_7 (by decide) ?_
  refine V.istore_n (i := 2) dX8_marries_8 rfl rfl rfl ?_
  dsimp only [List.set]
  refine V.aload_n dX8_marries_9 rfl ?_
  refine V.get fX8_40 dX8_marries_10 ho rfl ?_
  refine V.iconst (v := nI 0) dX8_marries_13 (by decide) ?_
  refine V.iconst (v := iI (-1)) dX8_marries_14 (by decide) ?_
  refine V.iast dX8_marries_15 (hA 11 (by omega) (by omega)).1 rfl (by omega) (by rw [(hA 11 (by omega) (by omega)).2]; show _ < 6; omega) ?_
  have hl11 : (A 11).length = 6 := (hA 11 (by omega) (by omega)).2
  have hS1 := MSm.set (A := A) ⟨hw, fun j _ => rfl⟩ ((A 11).set 0 (iI (-1))) (by rw [List.length_set]; exact hl11)
  have hf1 := VFr.set (h := h) (lo := m) (hi := m + 12) (a := m + 11) (c := Sum.inl ((A 11).set 0 (iI (-1)))) (by omega) (by omega)
  have HE : (∀ (h2 : VHp) (A2 : MA) (kz : Int) (v3 v4 v5 : Option Value), MSm h2 m F A A2 → (∀ a, a < 0 → (A2 11)[a]? = some (nI (((fun _ => none) a).getD (rN S)))) → kz = (((0) : Nat) : Int) - 1 → pairF S (rN S) (fun _ => none) = none → VFr m (m + 12) h h2 → (A2 11)[0]? = (A2 11)[0]? → V (g, mX8_marries, 2, false, h.length, MMr m F A S h) (0, 0) 16 [some (.ref m), some (.int (nI (rN S))), some (.int (iI kz)), v3, v4, v5] [] h2) := by
    intro h2 A2 kz v3 v4 v5 hS2 _ hkz hans hf2 _
    refine V.iload_n dX8_marries_16 rfl ?_
    refine V.if_ltZ 202 dX8_marries_17 (by decide) (by omega) (fun hc1 => ?_) (fun hc1 => ?_)
    · skip
      refine V.iconst (v := nI 0) dX8_marries_202 (by decide) ?_
      exact V.zret dX8_marries_203 rfl (Or.inl rfl) ⟨by rw [hans]; rfl, ⟨A2, hS2, fun R hR => by rw [hans] at hR; cases hR⟩, hf2⟩
    · exact absurd hc1 (by omega)
  have z := LV (rN S - 1) 0 (by omega) (fun _ => none) none ⟨fun a b _ z => (by cases z), fun a b _ _ z => (by cases z)⟩ HE (rN S + 1) 0 (by omega) _ _ ((0 : Nat) : Int) none none none hS1 (fun a ha => absurd ha (Nat.not_lt_zero _)) (by rw [upA_s, List.getElem?_set_self (by omega)]; rfl) rfl (by rw [← pair_rest (by omega), or_none1, show rN S - 1 + 1 = rN S by omega]) hf1
  rw [iI_nat] at z
  exact z
