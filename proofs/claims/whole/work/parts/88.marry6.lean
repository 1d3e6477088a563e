set_option maxHeartbeats 1000000 in
theorem r_marry (g : VG) (h : VHp) (m : Nat) (T : Sy) (hC : MAt h m T) (hO : SyOk T) (p : Int) (hp0 : -2147483648 ≤ p ∧ p < 2147483648) : VE g mX8_marry 3 false (0, 0) [.ref m, .int (iI p)] h (MPo m (a_marry T p) T h) := by
  obtain ⟨F, A, hM, hAll⟩ := id hC
  obtain ⟨hF0, hTx, hF1, hPa, hF2, hKe, hF3, hNo⟩ := id hAll
  obtain ⟨hOt, hOs, hOn, hOp, hOk, hOns, hOpk, hOkk⟩ := id hO
  have hB := hOs.1
  have hD := hOs.2.1
  have hnl := hOns.1
  have htl := hOt.1
  obtain ⟨hw, ⟨et0, et1, et2, ek⟩, es0, ev, ex, ey, eL⟩ := id hM
  obtain ⟨ho, hA⟩ := id hw
  obtain ⟨bn, bW, bH, bP, bL⟩ := id hB
  refine VE.of (by decide) rfl (Nat.le_of_ble_eq_true rfl) ?_
  have L : (p = -1 ∨ isP T p) → ∀ (h1 : VHp) (A1 : MA) (R9 : Mt), MSm h1 m F A A1 → pairF (tS T) (rN (tS T)) (fun _ => none) = some R9 → MtB (tS T) R9 → (∀ a, a < rN (tS T) → (A1 11)[a]? = some (nI ((R9 a).getD (rN (tS T))))) → MAt h1 m T → VFr m (m + 12) h h1 → ∀ a, a ≤ rN (tS T) → V (g, mX8_marry, 3, false, h.length, MPo m (a_marry T p) T h) (0, 0) 29 [some (.ref m), some (.int (iI p)), some (.int (nI (cntP (fun a => R9 a ≠ none) a))), some (.int (nI a))] [] h1 := by
    intro hpp h1 A1 R9 hS1 han hMb hrow hC1 hf1
    refine vloop (rN (tS T)) (fun a ih hi => ?_)
    obtain ⟨ho1, hA1⟩ := id hS1.1
    have h21 := (hA1 2 (by omega) (by omega)).1
    rw [hS1.2 2 (by omega)] at h21
    have h111 := (hA1 11 (by omega) (by omega)).1
    have gbd : ∀ x, (R9 x).getD (rN (tS T)) ≤ rN (tS T) := fun x => by
      cases hx : R9 x with
      | none => exact Nat.le_refl _
      | some b => have := hMb x b hx; show b ≤ rN (tS T); omega
    have gp := gbd p.toNat
    have ga := gbd a
    have hcb := cntP_le (P := fun a => R9 a ≠ none) a
    refine V.iload_n dX8_marry_29 rfl ?_
    refine V.aload_n dX8_marry_30 rfl ?_
    refine V.get fX8_13 dX8_marry_31 ho1 rfl ?_
    refine V.iconst (v := nI 2) dX8_marry_34 (by decide) ?_
    refine V.iald dX8_marry_35 h21 rfl (by omega) et2 ?_
    refine V.icmp_geN 68 dX8_marry_36 (by decide) (by omega) (by omega) (fun hc1 => ?_) (fun hc1 => ?_)
    · skip
      refine V.iload_n dX8_marry_68 rfl ?_
      refine V.iconst (v := iI (-1)) dX8_marry_69 (by decide) ?_
      refine V.icmp_neZ 77 dX8_marry_70 (by decide) (by omega) (by omega) (fun hc2 => ?_) (fun hc2 => ?_)
      · skip
        have hp9 : isP T p := by omega
        refine V.aload_n dX8_marry_77 rfl ?_
        refine V.get fX8_40 dX8_marry_78 ho1 rfl ?_
        refine V.iload_n dX8_marry_81 rfl ?_
        refine V.re (iI_toN (n := p.toNat) (by omega)) ?_
        refine V.iald dX8_marry_82 h111 rfl (by omega) (hrow _ (by omega)) ?_
        refine V.aload_n dX8_marry_83 rfl ?_
        refine V.get fX8_13 dX8_marry_84 ho1 rfl ?_
        refine V.iconst (v := nI 2) dX8_marry_87 (by decide) ?_
        refine V.iald dX8_marry_88 h21 rfl (by omega) et2 ?_
        refine V.icmp_neN 97 dX8_marry_89 (by decide) (by omega) (by omega) (fun hc3 => ?_) (fun hc3 => ?_)
        · skip
          have hq2 := hc3
          refine V.aload_n dX8_marry_97 rfl ?_
          refine V.get fX8_40 dX8_marry_98 ho1 rfl ?_
          refine V.iload_n dX8_marry_101 rfl ?_
          refine V.re (iI_toN (n := p.toNat) (by omega)) ?_
          refine V.iald dX8_marry_102 h111 rfl (by omega) (hrow _ (by omega)) ?_
          obtain rfl : a = rN (tS T) := (by omega)
          refine V.iret dX8_marry_103 rfl ⟨?_, hC1, hf1⟩
          unfold a_marry a_marryO
          rw [if_pos hpp, han]
          dsimp only
          first
            | (rw [if_pos (by omega)]; done)
            | (rw [if_neg (by omega)]
               cases hx : R9 p.toNat with
               | none => first | rfl | (exfalso; rw [hx] at hq2; exact hq2 rfl)
               | some b => first | rfl | (exfalso; have y := hMb _ b hx; rw [hx] at hq2; have hq3 : b = rN (tS T) := hq2; omega))
        · skip
          have hq2 := hc3
          refine V.bipush (v := iI (-4)) dX8_marry_92 (by decide) ?_
          refine V.goto 103 dX8_marry_94 (by decide) ?_
          obtain rfl : a = rN (tS T) := (by omega)
          refine V.iret dX8_marry_103 rfl ⟨?_, hC1, hf1⟩
          unfold a_marry a_marryO
          rw [if_pos hpp, han]
          dsimp only
          first
            | (rw [if_pos (by omega)]; done)
            | (rw [if_neg (by omega)]
               cases hx : R9 p.toNat with
               | none => first | rfl | (exfalso; rw [hx] at hq2; exact hq2 rfl)
               | some b => first | rfl | (exfalso; have y := hMb _ b hx; rw [hx] at hq2; have hq3 : b = rN (tS T) := hq2; omega))
      · skip
        refine V.iload_n dX8_marry_73 rfl ?_
        refine V.goto 103 dX8_marry_74 (by decide) ?_
        obtain rfl : a = rN (tS T) := (by omega)
        refine V.iret dX8_marry_103 rfl ⟨?_, hC1, hf1⟩
        unfold a_marry a_marryO
        rw [if_pos hpp, han]
        dsimp only
        first
          | (rw [if_pos (by omega)]; done)
          | (rw [if_neg (by omega)]
             cases hx : R9 p.toNat with
             | none => first | rfl | (exfalso; rw [hx] at hq2; exact hq2 rfl)
             | some b => first | rfl | (exfalso; have y := hMb _ b hx; rw [hx] at hq2; have hq3 : b = rN (tS T) := hq2; omega))
    · skip
      refine V.iload_n dX8_marry_39 rfl ?_
      refine V.aload_n dX8_marry_40 rfl ?_
      refine V.get fX8_40 dX8_marry_41 ho1 rfl ?_
      refine V.iload_n dX8_marry_44 rfl ?_
      refine V.iald dX8_marry_45 h111 rfl (by omega) (hrow _ (by omega)) ?_
      refine V.aload_n dX8_marry_46 rfl ?_
      refine V.get fX8_13 dX8_marry_47 ho1 rfl ?_
      refine V.iconst (v := nI 2) dX8_marry_50 (by decide) ?_
      refine V.iald dX8_marry_51 h21 rfl (by omega) et2 ?_
      refine V.icmp_neN 59 dX8_marry_52 (by decide) (by omega) (by omega) (fun hc4 => ?_) (fun hc4 => ?_)
      · skip
        have hq1 := hc4
        refine V.iconst (v := nI 1) dX8_marry_59 (by decide) ?_
        refine V.iaddN dX8_marry_60 ?_
        refine V.istore_n (i := 2) dX8_marry_61 rfl rfl rfl ?_
        dsimp only [List.set]
        refine V.iincN (n := 1) dX8_marry_62 rfl rfl rfl ?_
        dsimp only [List.set]
        refine V.goto 29 dX8_marry_65 (by decide) ?_
        have z := ih (a + 1) (by omega) (by omega)
        first
          | (rw [cntP_neg (P := fun a => R9 a ≠ none) (n := a) (fun u => by
               cases hx : R9 a with
               | none => exact u hx
               | some b => have y := hMb a b hx; rw [hx] at hq1; have hq2 : b = rN (tS T) := hq1; omega)] at z
             rw [Nat.add_zero]
             exact z)
          | (rw [cntP_pos (P := fun a => R9 a ≠ none) (n := a) (fun u => hq1 (by rw [u]; rfl))] at z; exact z)
      · skip
        have hq1 := hc4
        refine V.iconst (v := nI 0) dX8_marry_55 (by decide) ?_
        refine V.goto 60 dX8_marry_56 (by decide) ?_
        refine V.iaddN dX8_marry_60 ?_
        refine V.istore_n (i := 2) dX8_marry_61 rfl rfl rfl ?_
        dsimp only [List.set]
        refine V.iincN (n := 1) dX8_marry_62 rfl rfl rfl ?_
        dsimp only [List.set]
        refine V.goto 29 dX8_marry_65 (by decide) ?_
        have z := ih (a + 1) (by omega) (by omega)
        first
          | (rw [cntP_neg (P := fun a => R9 a ≠ none) (n := a) (fun u => by
               cases hx : R9 a with
               | none => exact u hx
               | some b => have y := hMb a b hx; rw [hx] at hq1; have hq2 : b = rN (tS T) := hq1; omega)] at z
             rw [Nat.add_zero]
             exact z)
          | (rw [cntP_pos (P := fun a => R9 a ≠ none) (n := a) (fun u => hq1 (by rw [u]; rfl))] at z; exact z)
  show V _ _ 0 [some (.ref m), some (.int (iI p)), none, none] [] h
  refine V.iload_n dX8_marry_0 rfl ?_
  refine V.iconst (v := iI (-1)) dX8_marry_1 (by decide) ?_
  refine V.icmp_eqZ 15 dX8_marry_2 (by decide) (by omega) (by omega) (fun hc1 => ?_) (fun hc1 => ?_)
  · skip
    refine V.aload_n dX8_marry_15 rfl ?_
    refine V.callV (ci := 8) cX8_178 (m_marries g h m F A (tS T) hM hB hOn) dX8_marry_16 (Nat.le_of_ble_eq_true rfl) rfl ho rfl rfl (Nat.le_of_ble_eq_true rfl) (fun v_ h_ hp_ => ?_)
    obtain ⟨rfl, ⟨A1, hS1, hrow⟩, hf1⟩ := hp_
    dsimp only [Option.toList, List.cons_append, List.nil_append]
    generalize h_ = h1 at hS1 hf1 ⊢
    have hC1 : MAt h1 m T := ⟨F, A1, ⟨hS1.1, by rw [hS1.2 2 (by omega)]; exact hM.2.1, by rw [hS1.2 5 (by omega)]; exact hM.2.2⟩, hF0, by rw [hS1.2 1 (by omega)]; exact hTx, hF1, by rw [hS1.2 6 (by omega)]; exact hPa, hF2, by rw [hS1.2 7 (by omega)]; exact hKe, hF3, by rw [hS1.2 8 (by omega)]; exact hNo⟩
    rcases hr : pairF (tS T) (rN (tS T)) (fun _ => none) with _ | R9
    · skip
      change V _ _ _ _ (Value.int (nI 0) :: _) _
      refine V.if_neN 25 dX8_marry_19 (by decide) (by omega) (fun hc2 => ?_) (fun hc2 => ?_)
      · exact absurd rfl hc2
      · skip
        refine V.bipush (v := iI (-4)) dX8_marry_22 (by decide) ?_
        exact V.iret dX8_marry_24 rfl ⟨by unfold a_marry a_marryO; rw [if_pos (by omega), hr], hC1, hf1⟩
    · skip
      have hrow9 := hrow R9 hr
      have hMb := pair_MtB (rN (tS T)) (Nat.le_refl _) _ R9 (fun a b z => by cases z) hr
      change V _ _ _ _ (Value.int (nI 1) :: _) _
      refine V.if_neN 25 dX8_marry_19 (by decide) (by omega) (fun hc3 => ?_) (fun hc3 => ?_)
      · skip
        refine V.iconst (v := nI 0) dX8_marry_25 (by decide) ?_
        refine V.istore_n (i := 2) dX8_marry_26 rfl rfl rfl ?_
        dsimp only [List.set]
        refine V.iconst (v := nI 0) dX8_marry_27 (by decide) ?_
        refine V.istore_n (i := 3) dX8_marry_28 rfl rfl rfl ?_
        dsimp only [List.set]
        exact L (by omega) h1 A1 R9 hS1 hr hMb hrow9 hC1 hf1 0 (by omega)
      · exact absurd hc3 (by omega)
  · skip
    refine V.aload_n dX8_marry_5 rfl ?_
    refine V.iload_n dX8_marry_6 rfl ?_
    refine V.callVp (ci := 8) cX8_116 (m_isOne g h m F A (tS T) hM hB p (by omega)) dX8_marry_7 (Nat.le_of_ble_eq_true rfl) rfl ho rfl rfl (Nat.le_of_ble_eq_true rfl) ?_
    refine V.if_neB 15 dX8_marry_10 (by decide) (fun hc4 => ?_) (fun hc4 => ?_)
    · skip
      refine V.aload_n dX8_marry_15 rfl ?_
      refine V.callV (ci := 8) cX8_178 (m_marries g h m F A (tS T) hM hB hOn) dX8_marry_16 (Nat.le_of_ble_eq_true rfl) rfl ho rfl rfl (Nat.le_of_ble_eq_true rfl) (fun v_ h_ hp_ => ?_)
      obtain ⟨rfl, ⟨A1, hS1, hrow⟩, hf1⟩ := hp_
      dsimp only [Option.toList, List.cons_append, List.nil_append]
      generalize h_ = h1 at hS1 hf1 ⊢
      have hC1 : MAt h1 m T := ⟨F, A1, ⟨hS1.1, by rw [hS1.2 2 (by omega)]; exact hM.2.1, by rw [hS1.2 5 (by omega)]; exact hM.2.2⟩, hF0, by rw [hS1.2 1 (by omega)]; exact hTx, hF1, by rw [hS1.2 6 (by omega)]; exact hPa, hF2, by rw [hS1.2 7 (by omega)]; exact hKe, hF3, by rw [hS1.2 8 (by omega)]; exact hNo⟩
      rcases hr : pairF (tS T) (rN (tS T)) (fun _ => none) with _ | R9
      · skip
        change V _ _ _ _ (Value.int (nI 0) :: _) _
        refine V.if_neN 25 dX8_marry_19 (by decide) (by omega) (fun hc5 => ?_) (fun hc5 => ?_)
        · exact absurd rfl hc5
        · skip
          refine V.bipush (v := iI (-4)) dX8_marry_22 (by decide) ?_
          exact V.iret dX8_marry_24 rfl ⟨by unfold a_marry a_marryO; rw [if_pos (by omega), hr], hC1, hf1⟩
      · skip
        have hrow9 := hrow R9 hr
        have hMb := pair_MtB (rN (tS T)) (Nat.le_refl _) _ R9 (fun a b z => by cases z) hr
        change V _ _ _ _ (Value.int (nI 1) :: _) _
        refine V.if_neN 25 dX8_marry_19 (by decide) (by omega) (fun hc6 => ?_) (fun hc6 => ?_)
        · skip
          refine V.iconst (v := nI 0) dX8_marry_25 (by decide) ?_
          refine V.istore_n (i := 2) dX8_marry_26 rfl rfl rfl ?_
          dsimp only [List.set]
          refine V.iconst (v := nI 0) dX8_marry_27 (by decide) ?_
          refine V.istore_n (i := 3) dX8_marry_28 rfl rfl rfl ?_
          dsimp only [List.set]
          exact L (by omega) h1 A1 R9 hS1 hr hMb hrow9 hC1 hf1 0 (by omega)
        · exact absurd hc6 (by omega)
    · skip
      refine V.iconst (v := iI (-1)) dX8_marry_13 (by decide) ?_
      exact V.iret dX8_marry_14 rfl ⟨by unfold a_marry; rw [if_neg (by omega)], hC, VFr.rf⟩
