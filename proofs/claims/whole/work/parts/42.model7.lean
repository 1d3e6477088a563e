set_option maxHeartbeats 1000000 in
theorem r_person (g : VG) (h : VHp) (m : Nat) (T : Sy) (hC : MAt h m T) (hO : SyOk T) (p w : Int) (hp : -2147483648 ≤ p ∧ p < 2147483648) (hw : -2147483648 ≤ w ∧ w < 2147483648) : VE g mX8_person 4 false (0, 0) [.ref m, .int (iI p), .int (iI w)] h (VP (a_person T p w) h) := by
  obtain ⟨F, A, hM, hAll⟩ := id hC
  obtain ⟨hF0, hTx, hF1, hPa, hF2, hKe, hF3, hNo⟩ := id hAll
  obtain ⟨hOt, hOs, hOn, hOp, hOk, hOns, hOpk, hOkk⟩ := id hO
  have hB := hOs.1
  have hD := hOs.2.1
  have hnl := hOns.1
  have htl := hOt.1
  obtain ⟨hw, ⟨et0, et1, et2, ek⟩, es0, ev, ex, ey, eL⟩ := id hM
  obtain ⟨ho, hA⟩ := id hw
  obtain ⟨bn, bW, bH, bP, bL⟩ := id hB
  refine VE.of (by decide) rfl (Nat.le_of_ble_eq_true rfl) ?_
  show V _ _ 0 [some (.ref m), some (.int (iI p)), some (.int (iI w))] [] h
  refine V.aload_n dX8_person_0 rfl ?_
  refine V.iload_n dX8_person_1 rfl ?_
  refine V.callVp (ci := 8) cX8_116 (m_isOne g h m F A (tS T) hM hB p (by omega)) dX8_person_2 (Nat.le_of_ble_eq_true rfl) rfl ho rfl rfl (Nat.le_of_ble_eq_true rfl) ?_
  refine V.if_neB 10 dX8_person_5 (by decide) (fun hc1 => ?_) (fun hc1 => ?_)
  · skip
    have hpp := hc1
    refine V.iload_n dX8_person_10 rfl ?_
    rcases (show w = 0 ∨ w = 1 ∨ w = 2 ∨ w = 3 ∨ w = 4 ∨ w = 5 ∨ w = 6 ∨ (w < 0 ∨ 6 < w) by omega) with hq | hq | hq | hq | hq | hq | hq | hq
    · skip
      subst hq
      refine V.tabIn (off := 41) 52 dX8_person_11 (by decide) (by decide) (by decide) (by decide) ?_
      refine V.aload_n dX8_person_52 rfl ?_
      refine V.get fX8_13 dX8_person_53 ho rfl ?_
      refine V.iconst (v := nI 3) dX8_person_56 (by decide) ?_
      refine V.iload_n dX8_person_57 rfl ?_
      refine V.re (iI_toN (n := p.toNat) (by omega)) ?_
      refine V.iaddN dX8_person_58 ?_
      refine V.iald dX8_person_59 (hA 2 (by omega) (by omega)).1 rfl (by omega) (ek _ (by omega)) ?_
      exact V.iret dX8_person_60 rfl ⟨by unfold a_person; first | (rw [if_neg hpp]; done) | (rw [if_neg hpp]; rfl) | (rw [if_pos hpp]; rfl) | (rw [if_pos hpp]; (repeat first | rw [if_pos (by first | omega | assumption)] | rw [if_neg (by first | omega | assumption)]); rfl) | (rw [if_pos hpp]; (repeat first | rw [if_pos (by first | omega | assumption)] | rw [if_neg (by first | omega | assumption)]); done), rfl⟩
    · skip
      subst hq
      refine V.tabIn (off := 50) 61 dX8_person_11 (by decide) (by decide) (by decide) (by decide) ?_
      refine V.aload_n dX8_person_61 rfl ?_
      refine V.get fX8_22 dX8_person_62 ho rfl ?_
      refine V.bipush (v := nI 7) dX8_person_65 (by decide) ?_
      refine V.iload_n dX8_person_67 rfl ?_
      refine V.re (iI_toN (n := p.toNat) (by omega)) ?_
      refine V.iaddN dX8_person_68 ?_
      refine V.iald dX8_person_69 (hA 5 (by omega) (by omega)).1 rfl (by omega) (ex _ (by omega)) ?_
      exact V.iret dX8_person_70 rfl ⟨by unfold a_person; first | (rw [if_neg hpp]; done) | (rw [if_neg hpp]; rfl) | (rw [if_pos hpp]; rfl) | (rw [if_pos hpp]; (repeat first | rw [if_pos (by first | omega | assumption)] | rw [if_neg (by first | omega | assumption)]); rfl) | (rw [if_pos hpp]; (repeat first | rw [if_pos (by first | omega | assumption)] | rw [if_neg (by first | omega | assumption)]); done), rfl⟩
    · skip
      subst hq
      refine V.tabIn (off := 60) 71 dX8_person_11 (by decide) (by decide) (by decide) (by decide) ?_
      refine V.aload_n dX8_person_71 rfl ?_
      refine V.get fX8_22 dX8_person_72 ho rfl ?_
      refine V.bipush (v := nI 13) dX8_person_75 (by decide) ?_
      refine V.iload_n dX8_person_77 rfl ?_
      refine V.re (iI_toN (n := p.toNat) (by omega)) ?_
      refine V.iaddN dX8_person_78 ?_
      refine V.iald dX8_person_79 (hA 5 (by omega) (by omega)).1 rfl (by omega) (ey _ (by omega)) ?_
      exact V.iret dX8_person_80 rfl ⟨by unfold a_person; first | (rw [if_neg hpp]; done) | (rw [if_neg hpp]; rfl) | (rw [if_pos hpp]; rfl) | (rw [if_pos hpp]; (repeat first | rw [if_pos (by first | omega | assumption)] | rw [if_neg (by first | omega | assumption)]); rfl) | (rw [if_pos hpp]; (repeat first | rw [if_pos (by first | omega | assumption)] | rw [if_neg (by first | omega | assumption)]); done), rfl⟩
    · skip
      subst hq
      refine V.tabIn (off := 70) 81 dX8_person_11 (by decide) (by decide) (by decide) (by decide) ?_
      refine V.aload_n dX8_person_81 rfl ?_
      refine V.get fX8_22 dX8_person_82 ho rfl ?_
      refine V.iconst (v := nI 1) dX8_person_85 (by decide) ?_
      refine V.iload_n dX8_person_86 rfl ?_
      refine V.re (iI_toN (n := p.toNat) (by omega)) ?_
      refine V.iaddN dX8_person_87 ?_
      refine V.iald dX8_person_88 (hA 5 (by omega) (by omega)).1 rfl (by omega) (ev _ (by omega)) ?_
      exact V.iret dX8_person_89 rfl ⟨by unfold a_person; first | (rw [if_neg hpp]; done) | (rw [if_neg hpp]; rfl) | (rw [if_pos hpp]; rfl) | (rw [if_pos hpp]; (repeat first | rw [if_pos (by first | omega | assumption)] | rw [if_neg (by first | omega | assumption)]); rfl) | (rw [if_pos hpp]; (repeat first | rw [if_pos (by first | omega | assumption)] | rw [if_neg (by first | omega | assumption)]); done), rfl⟩
    · skip
      subst hq
      refine V.tabIn (off := 79) 90 dX8_person_11 (by decide) (by decide) (by decide) (by decide) ?_
      refine V.aload_n dX8_person_90 rfl ?_
      refine V.iload_n dX8_person_91 rfl ?_
      refine V.re (iI_toN (n := p.toNat) (by omega)) ?_
      refine V.callVp (ci := 8) cX8_119 (m_draftOf g h m F A (tS T) hM hB p.toNat (by omega)) dX8_person_92 (Nat.le_of_ble_eq_true rfl) rfl ho rfl rfl (Nat.le_of_ble_eq_true rfl) ?_
      exact V.iret dX8_person_95 rfl ⟨by unfold a_person; first | (rw [if_neg hpp]; done) | (rw [if_neg hpp]; rfl) | (rw [if_pos hpp]; rfl) | (rw [if_pos hpp]; (repeat first | rw [if_pos (by first | omega | assumption)] | rw [if_neg (by first | omega | assumption)]); rfl) | (rw [if_pos hpp]; (repeat first | rw [if_pos (by first | omega | assumption)] | rw [if_neg (by first | omega | assumption)]); done), rfl⟩
    · skip
      subst hq
      refine V.tabIn (off := 85) 96 dX8_person_11 (by decide) (by decide) (by decide) (by decide) ?_
      refine V.aload_n dX8_person_96 rfl ?_
      refine V.iload_n dX8_person_97 rfl ?_
      refine V.re (iI_toN (n := p.toNat) (by omega)) ?_
      refine V.callSp cX8_110 (m_all g h) dX8_person_98 (Nat.le_of_ble_eq_true rfl) rfl rfl (Nat.le_of_ble_eq_true rfl) ?_
      refine V.iconst (v := nI 1) dX8_person_101 (by decide) ?_
      refine V.callVp (ci := 8) cX8_102 (m_feelsE g h m F A (tS T) hM hB p.toNat 63 (by omega) (by omega)) dX8_person_102 (Nat.le_of_ble_eq_true rfl) rfl ho rfl rfl (Nat.le_of_ble_eq_true rfl) ?_
      refine V.sipush (v := nI 10000) dX8_person_105 (by decide) ?_
      refine V.toZ1 ?_
      refine V.iaddZ dX8_person_108 ?_
      exact V.iret dX8_person_109 rfl ⟨by unfold a_person; first | (rw [if_neg hpp]; done) | (rw [if_neg hpp]; rfl) | (rw [if_pos hpp]; rfl) | (rw [if_pos hpp]; (repeat first | rw [if_pos (by first | omega | assumption)] | rw [if_neg (by first | omega | assumption)]); rfl) | (rw [if_pos hpp]; (repeat first | rw [if_pos (by first | omega | assumption)] | rw [if_neg (by first | omega | assumption)]); done), rfl⟩
    · skip
      subst hq
      refine V.tabIn (off := 99) 110 dX8_person_11 (by decide) (by decide) (by decide) (by decide) ?_
      refine V.aload_n dX8_person_110 rfl ?_
      refine V.iload_n dX8_person_111 rfl ?_
      refine V.re (iI_toN (n := p.toNat) (by omega)) ?_
      refine V.callSp cX8_110 (m_all g h) dX8_person_112 (Nat.le_of_ble_eq_true rfl) rfl rfl (Nat.le_of_ble_eq_true rfl) ?_
      refine V.iconst (v := nI 0) dX8_person_115 (by decide) ?_
      refine V.callVp (ci := 8) cX8_102 (m_feelsS g h m F A (tS T) hM hB p.toNat 63 (by omega) (by omega)) dX8_person_116 (Nat.le_of_ble_eq_true rfl) rfl ho rfl rfl (Nat.le_of_ble_eq_true rfl) ?_
      refine V.sipush (v := nI 10000) dX8_person_119 (by decide) ?_
      refine V.toZ1 ?_
      refine V.iaddZ dX8_person_122 ?_
      exact V.iret dX8_person_123 rfl ⟨by unfold a_person; first | (rw [if_neg hpp]; done) | (rw [if_neg hpp]; rfl) | (rw [if_pos hpp]; rfl) | (rw [if_pos hpp]; (repeat first | rw [if_pos (by first | omega | assumption)] | rw [if_neg (by first | omega | assumption)]); rfl) | (rw [if_pos hpp]; (repeat first | rw [if_pos (by first | omega | assumption)] | rw [if_neg (by first | omega | assumption)]); done), rfl⟩
    · skip
      refine V.tabOut 124 dX8_person_11 (by rw [iI_toInt (by omega) (by omega)]; omega) (by decide) ?_
      refine V.iconst (v := iI (-1)) dX8_person_124 (by decide) ?_
      exact V.iret dX8_person_125 rfl ⟨by unfold a_person; first | (rw [if_neg hpp]; done) | (rw [if_neg hpp]; rfl) | (rw [if_pos hpp]; rfl) | (rw [if_pos hpp]; (repeat first | rw [if_pos (by first | omega | assumption)] | rw [if_neg (by first | omega | assumption)]); rfl) | (rw [if_pos hpp]; (repeat first | rw [if_pos (by first | omega | assumption)] | rw [if_neg (by first | omega | assumption)]); done), rfl⟩
  · skip
    have hpp := hc1
    refine V.iconst (v := iI (-1)) dX8_person_8 (by decide) ?_
    exact V.iret dX8_person_9 rfl ⟨by unfold a_person; first | (rw [if_neg hpp]; done) | (rw [if_neg hpp]; rfl) | (rw [if_pos hpp]; rfl) | (rw [if_pos hpp]; (repeat first | rw [if_pos (by first | omega | assumption)] | rw [if_neg (by first | omega | assumption)]); rfl) | (rw [if_pos hpp]; (repeat first | rw [if_pos (by first | omega | assumption)] | rw [if_neg (by first | omega | assumption)]); done), rfl⟩
