set_option maxHeartbeats 1000000 in
theorem r_loves (g : VG) (h : VHp) (m : Nat) (T : Sy) (hC : MAt h m T) (hO : SyOk T) (p w : Int) (hp : -2147483648 ≤ p ∧ p < 2147483648) (hw0 : -2147483648 ≤ w ∧ w < 2147483648) : VE g mX8_loves 2 false (0, 0) [.ref m, .int (iI p), .int (iI w)] h (VP (a_loves T p w) h) := by
  obtain ⟨F, A, hM, hAll⟩ := id hC
  obtain ⟨hF0, hTx, hF1, hPa, hF2, hKe, hF3, hNo⟩ := id hAll
  obtain ⟨hOt, hOs, hOn, hOp, hOk, hOns, hOpk, hOkk⟩ := id hO
  have hB := hOs.1
  have hD := hOs.2.1
  have hnl := hOns.1
  have htl := hOt.1
  obtain ⟨hw, ⟨et0, et1, et2, ek⟩, es0, ev, ex, ey, eL⟩ := id hM
  obtain ⟨ho, hA⟩ := id hw
  obtain ⟨bn, bW, bH, bP, bL⟩ := id hB
  refine VE.of (by decide) rfl (Nat.le_of_ble_eq_true rfl) ?_
  have L : (isP T p ∧ 0 ≤ w ∧ w < ((8 : Nat) : Int)) → ∀ q, q ≤ rN (tS T) → ∀ v5 v6 : Option Value, V (g, mX8_loves, 2, false, h.length, VP (a_loves T p w) h) (0, 0) 25 [some (.ref m), some (.int (iI p)), some (.int (iI w)), some (.int (nI (bitsF (fun q => loveP (tS T) p.toNat w.toNat q) q))), some (.int (nI q)), v5, v6] [] h := by
    intro hcd
    refine vloop (rN (tS T)) (fun q ih hi => ?_)
    intro v5 v6
    have bp := bP p.toNat (by omega)
    have hlt : ∀ i, wayF ((rX (tS T) q : Int) - rX (tS T) p.toNat) ((rY (tS T) q : Int) - rY (tS T) p.toNat) = some i → i < 1000 := fun i z => by have := wayF_lt z; omega
    refine V.iload dX8_loves_25 rfl ?_
    refine V.aload_n dX8_loves_27 rfl ?_
    refine V.get fX8_13 dX8_loves_28 ho rfl ?_
    refine V.iconst (v := nI 2) dX8_loves_31 (by decide) ?_
    refine V.iald dX8_loves_32 (hA 2 (by omega) (by omega)).1 rfl (by omega) et2 ?_
    refine V.icmp_geN 130 dX8_loves_33 (by decide) (by omega) (by omega) (fun hc1 => ?_) (fun hc1 => ?_)
    · skip
      refine V.iload_n dX8_loves_130 rfl ?_
      obtain rfl : q = rN (tS T) := (by omega)
      exact V.iret dX8_loves_131 rfl ⟨by unfold a_loves; rw [if_pos hcd], rfl⟩
    · skip
      have hqn := hc1
      have bq := bP q hc1
      refine V.aload_n dX8_loves_36 rfl ?_
      refine V.get fX8_22 dX8_loves_37 ho rfl ?_
      refine V.bipush (v := nI 7) dX8_loves_40 (by decide) ?_
      refine V.iload dX8_loves_42 rfl ?_
      refine V.iaddN dX8_loves_44 ?_
      refine V.iald dX8_loves_45 (hA 5 (by omega) (by omega)).1 rfl (by omega) (ex _ (by omega)) ?_
      refine V.aload_n dX8_loves_46 rfl ?_
      refine V.get fX8_22 dX8_loves_47 ho rfl ?_
      refine V.bipush (v := nI 7) dX8_loves_50 (by decide) ?_
      refine V.iload_n dX8_loves_52 rfl ?_
      refine V.re (iI_toN (n := p.toNat) (by omega)) ?_
      refine V.iaddN dX8_loves_53 ?_
      refine V.iald dX8_loves_54 (hA 5 (by omega) (by omega)).1 rfl (by omega) (ex _ (by omega)) ?_
      refine V.toZ1 ?_
      refine V.toZ2 ?_
      refine V.isubZ dX8_loves_55 ?_
      refine V.nmZ (fun dx hdx => ?_)
      refine V.istore dX8_loves_56 rfl rfl ?_
      dsimp only [List.set]
      refine V.aload_n dX8_loves_58 rfl ?_
      refine V.get fX8_22 dX8_loves_59 ho rfl ?_
      refine V.bipush (v := nI 13) dX8_loves_62 (by decide) ?_
      refine V.iload dX8_loves_64 rfl ?_
      refine V.iaddN dX8_loves_66 ?_
      refine V.iald dX8_loves_67 (hA 5 (by omega) (by omega)).1 rfl (by omega) (ey _ (by omega)) ?_
      refine V.aload_n dX8_loves_68 rfl ?_
      refine V.get fX8_22 dX8_loves_69 ho rfl ?_
      refine V.bipush (v := nI 13) dX8_loves_72 (by decide) ?_
      refine V.iload_n dX8_loves_74 rfl ?_
      refine V.re (iI_toN (n := p.toNat) (by omega)) ?_
      refine V.iaddN dX8_loves_75 ?_
      refine V.iald dX8_loves_76 (hA 5 (by omega) (by omega)).1 rfl (by omega) (ey _ (by omega)) ?_
      refine V.toZ1 ?_
      refine V.toZ2 ?_
      refine V.isubZ dX8_loves_77 ?_
      refine V.nmZ (fun dy hdy => ?_)
      refine V.istore dX8_loves_78 rfl rfl ?_
      dsimp only [List.set]
      refine V.iload_n dX8_loves_80 rfl ?_
      refine V.iload dX8_loves_81 rfl ?_
      refine V.iload_n dX8_loves_83 rfl ?_
      refine V.re (iI_toN (n := p.toNat) (by omega)) ?_
      refine V.icmp_eqN 121 dX8_loves_84 (by decide) (by omega) (by omega) (fun hc2 => ?_) (fun hc2 => ?_)
      · skip
        have hno : ¬ loveP (tS T) p.toNat w.toNat q := fun z => z.1 hc2
        refine V.iconst (v := nI 0) dX8_loves_121 (by decide) ?_
        refine V.iorN dX8_loves_122 ?_
        refine V.istore_n (i := 3) dX8_loves_123 rfl rfl rfl ?_
        dsimp only [List.set]
        refine V.iincN (n := 1) dX8_loves_124 rfl rfl rfl ?_
        dsimp only [List.set]
        refine V.goto 25 dX8_loves_127 (by decide) ?_
        have z := fun a b => ih (q + 1) (by omega) (by omega) a b
        first | (rw [bits_pos (P := fun q => loveP (tS T) p.toNat w.toNat q) (n := q) hyes] at z; exact z _ _) | (rw [bits_neg (P := fun q => loveP (tS T) p.toNat w.toNat q) (n := q) hno] at z; rw [Nat.or_zero]; exact z _ _)
      · skip
        refine V.iload dX8_loves_87 rfl ?_
        refine V.callSp cX8_99 (m_abs g h _ (by omega)) dX8_loves_89 (Nat.le_of_ble_eq_true rfl) rfl rfl (Nat.le_of_ble_eq_true rfl) ?_
        refine V.iload dX8_loves_92 rfl ?_
        refine V.callSp cX8_99 (m_abs g h _ (by omega)) dX8_loves_94 (Nat.le_of_ble_eq_true rfl) rfl rfl (Nat.le_of_ble_eq_true rfl) ?_
        refine V.iaddZ dX8_loves_97 ?_
        refine V.bipush (v := nI 12) dX8_loves_98 (by decide) ?_
        refine V.toZ1 ?_
        refine V.icmp_geZ 121 dX8_loves_100 (by decide) (by omega) (by omega) (fun hc3 => ?_) (fun hc3 => ?_)
        · skip
          have hno : ¬ loveP (tS T) p.toNat w.toNat q := fun z => by have z2 : (((rX (tS T) q : Int) - rX (tS T) p.toNat).natAbs + ((rY (tS T) q : Int) - rY (tS T) p.toNat).natAbs) < 12 := ((love_iff bn hqn).mp z).2.1; omega
          refine V.iconst (v := nI 0) dX8_loves_121 (by decide) ?_
          refine V.iorN dX8_loves_122 ?_
          refine V.istore_n (i := 3) dX8_loves_123 rfl rfl rfl ?_
          dsimp only [List.set]
          refine V.iincN (n := 1) dX8_loves_124 rfl rfl rfl ?_
          dsimp only [List.set]
          refine V.goto 25 dX8_loves_127 (by decide) ?_
          have z := fun a b => ih (q + 1) (by omega) (by omega) a b
          first | (rw [bits_pos (P := fun q => loveP (tS T) p.toNat w.toNat q) (n := q) hyes] at z; exact z _ _) | (rw [bits_neg (P := fun q => loveP (tS T) p.toNat w.toNat q) (n := q) hno] at z; rw [Nat.or_zero]; exact z _ _)
        · skip
          refine V.iload dX8_loves_103 rfl ?_
          refine V.iload dX8_loves_105 rfl ?_
          refine V.callSp cX8_106 (m_way g h _ _ (by omega) (by omega)) dX8_loves_107 (Nat.le_of_ble_eq_true rfl) rfl rfl (Nat.le_of_ble_eq_true rfl) ?_
          refine V.iload_n dX8_loves_110 rfl ?_
          refine V.re (iI_toN (n := w.toNat) (by omega)) ?_
          refine V.icmp_ne 121 dX8_loves_111 (by decide) (fun hc4 => ?_) (fun hc4 => ?_)
          · skip
            rw [hdx, hdy] at hc4
            have hno : ¬ loveP (tS T) p.toNat w.toNat q := fun z => hc4 ((eO_some hlt (by omega)).mpr ((love_iff bn hqn).mp z).2.2)
            refine V.iconst (v := nI 0) dX8_loves_121 (by decide) ?_
            refine V.iorN dX8_loves_122 ?_
            refine V.istore_n (i := 3) dX8_loves_123 rfl rfl rfl ?_
            dsimp only [List.set]
            refine V.iincN (n := 1) dX8_loves_124 rfl rfl rfl ?_
            dsimp only [List.set]
            refine V.goto 25 dX8_loves_127 (by decide) ?_
            have z := fun a b => ih (q + 1) (by omega) (by omega) a b
            first | (rw [bits_pos (P := fun q => loveP (tS T) p.toNat w.toNat q) (n := q) hyes] at z; exact z _ _) | (rw [bits_neg (P := fun q => loveP (tS T) p.toNat w.toNat q) (n := q) hno] at z; rw [Nat.or_zero]; exact z _ _)
          · skip
            rw [hdx, hdy] at hc4
            have hyes : loveP (tS T) p.toNat w.toNat q := (love_iff bn hqn).mpr ⟨by omega, (show (((rX (tS T) q : Int) - rX (tS T) p.toNat).natAbs + ((rY (tS T) q : Int) - rY (tS T) p.toNat).natAbs) < 12 by omega), (eO_some hlt (by omega)).mp hc4⟩
            refine V.iconst (v := nI 1) dX8_loves_114 (by decide) ?_
            refine V.iload dX8_loves_115 rfl ?_
            refine V.ishlN dX8_loves_117 (p2_lt (by omega)) (by omega) ?_
            refine V.goto 122 dX8_loves_118 (by decide) ?_
            refine V.iorN dX8_loves_122 ?_
            refine V.istore_n (i := 3) dX8_loves_123 rfl rfl rfl ?_
            dsimp only [List.set]
            refine V.iincN (n := 1) dX8_loves_124 rfl rfl rfl ?_
            dsimp only [List.set]
            refine V.goto 25 dX8_loves_127 (by decide) ?_
            have z := fun a b => ih (q + 1) (by omega) (by omega) a b
            first | (rw [bits_pos (P := fun q => loveP (tS T) p.toNat w.toNat q) (n := q) hyes] at z; exact z _ _) | (rw [bits_neg (P := fun q => loveP (tS T) p.toNat w.toNat q) (n := q) hno] at z; rw [Nat.or_zero]; exact z _ _)
  show V _ _ 0 [some (.ref m), some (.int (iI p)), some (.int (iI w)), none, none, none, none] [] h
  refine V.aload_n dX8_loves_0 rfl ?_
  refine V.iload_n dX8_loves_1 rfl ?_
  refine V.callVp (ci := 8) cX8_116 (m_isOne g h m F A (tS T) hM hB p (by omega)) dX8_loves_2 (Nat.le_of_ble_eq_true rfl) rfl ho rfl rfl (Nat.le_of_ble_eq_true rfl) ?_
  refine V.if_eqB 18 dX8_loves_5 (by decide) (fun hc1 => ?_) (fun hc1 => ?_)
  · skip
    refine V.iconst (v := iI (-1)) dX8_loves_18 (by decide) ?_
    exact V.iret dX8_loves_19 rfl ⟨by unfold a_loves; rw [if_neg (by omega)], rfl⟩
  · skip
    refine V.iload_n dX8_loves_8 rfl ?_
    refine V.iconst (v := nI 0) dX8_loves_9 (by decide) ?_
    refine V.bipush (v := nI 7) dX8_loves_10 (by decide) ?_
    refine V.toZ1 ?_
    refine V.toZ2 ?_
    refine V.callSp cX8_53 (m_in g h _ _ _ (by omega) (by omega) (by omega)) dX8_loves_12 (Nat.le_of_ble_eq_true rfl) rfl rfl (Nat.le_of_ble_eq_true rfl) ?_
    refine V.if_neB 20 dX8_loves_15 (by decide) (fun hc2 => ?_) (fun hc2 => ?_)
    · skip
      refine V.iconst (v := nI 0) dX8_loves_20 (by decide) ?_
      refine V.istore_n (i := 3) dX8_loves_21 rfl rfl rfl ?_
      dsimp only [List.set]
      refine V.iconst (v := nI 0) dX8_loves_22 (by decide) ?_
      refine V.istore dX8_loves_23 rfl rfl ?_
      dsimp only [List.set]
      exact L (by omega) 0 (by omega) none none
    · skip
      refine V.iconst (v := iI (-1)) dX8_loves_18 (by decide) ?_
      exact V.iret dX8_loves_19 rfl ⟨by unfold a_loves; rw [if_neg (by omega)], rfl⟩
