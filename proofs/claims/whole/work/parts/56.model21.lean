set_option maxHeartbeats 1000000 in
theorem r_looked (g : VG) (h : VHp) (m : Nat) (T : Sy) (hC : MAt h m T) (hO : SyOk T) (w : Int) (hw0 : -2147483648 ≤ w ∧ w < 2147483648) : VE g mX8_looked 3 false (0, 0) [.ref m, .int (iI w)] h (VP (a_looked T w) h) := by
  obtain ⟨F, A, hM, hAll⟩ := id hC
  obtain ⟨hF0, hTx, hF1, hPa, hF2, hKe, hF3, hNo⟩ := id hAll
  obtain ⟨hOt, hOs, hOn, hOp, hOk, hOns, hOpk, hOkk⟩ := id hO
  have hB := hOs.1
  have hD := hOs.2.1
  have hnl := hOns.1
  have htl := hOt.1
  obtain ⟨hw, ⟨et0, et1, et2, ek⟩, es0, ev, ex, ey, eL⟩ := id hM
  obtain ⟨ho, hA⟩ := id hw
  obtain ⟨bn, bW, bH, bP, bL⟩ := id hB
  refine VE.of (by decide) rfl (Nat.le_of_ble_eq_true rfl) ?_
  have L : (0 ≤ w ∧ w < ((2 : Nat) : Int)) → ∀ q, q ≤ rN (tS T) → ∀ v5 v6 : Option Value, V (g, mX8_looked, 3, false, h.length, VP (a_looked T w) h) (0, 0) 19 [some (.ref m), some (.int (iI w)), some (.int (iI ((lkI (tS T) q).1))), some (.int (iI ((lkI (tS T) q).2))), some (.int (nI q)), v5, v6] [] h := by
    intro hcd
    refine vloop (rN (tS T)) (fun q ih hi => ?_)
    intro v5 v6
    have hbd := lkI_bd (S := tS T) q
    have LI : q < rN (tS T) → ∀ i, i ≤ rN (tS T) → V (g, mX8_looked, 3, false, h.length, VP (a_looked T w) h) (0, 0) 36 [some (.ref m), some (.int (iI w)), some (.int (iI ((lkI (tS T) q).1))), some (.int (iI ((lkI (tS T) q).2))), some (.int (nI q)), some (.int (nI (cntP (fun i => tellF (tS T) i q) i))), some (.int (nI i))] [] h := by
      intro hqn
      refine vloop (rN (tS T)) (fun i ih2 hj => ?_)
      have hcl := cntP_le (P := fun i => tellF (tS T) i q) i
      refine V.iload dX8_looked_36 rfl ?_
      refine V.aload_n dX8_looked_38 rfl ?_
      refine V.get fX8_13 dX8_looked_39 ho rfl ?_
      refine V.iconst (v := nI 2) dX8_looked_42 (by decide) ?_
      refine V.iald dX8_looked_43 (hA 2 (by omega) (by omega)).1 rfl (by omega) et2 ?_
      refine V.icmp_geN 69 dX8_looked_44 (by decide) (by omega) (by omega) (fun hc1 => ?_) (fun hc1 => ?_)
      · skip
        refine V.iload dX8_looked_69 rfl ?_
        refine V.iload_n dX8_looked_71 rfl ?_
        refine V.toZ2 ?_
        refine V.icmp_leZ 80 dX8_looked_72 (by decide) (by omega) (by omega) (fun hc2 => ?_) (fun hc2 => ?_)
        · skip
          refine V.iload_n dX8_looked_80 rfl ?_
          refine V.istore_n (i := 2) dX8_looked_81 rfl rfl rfl ?_
          dsimp only [List.set]
          refine V.iload dX8_looked_82 rfl ?_
          refine V.iload_n dX8_looked_84 rfl ?_
          refine V.toZ2 ?_
          refine V.icmp_leZ 93 dX8_looked_85 (by decide) (by omega) (by omega) (fun hc3 => ?_) (fun hc3 => ?_)
          · skip
            refine V.iload_n dX8_looked_93 rfl ?_
            refine V.istore_n (i := 3) dX8_looked_94 rfl rfl rfl ?_
            dsimp only [List.set]
            refine V.iincN (n := 1) dX8_looked_95 rfl rfl rfl ?_
            dsimp only [List.set]
            refine V.goto 19 dX8_looked_98 (by decide) ?_
            obtain rfl : i = rN (tS T) := (by omega)
            have z := fun a b => ih (q + 1) (by omega) (by omega) a b
            first | (exfalso; omega) | (rw [lkI_pos (by omega)] at z; exact z _ _) | (rw [lkI_neg (by omega)] at z; exact z _ _)
          · skip
            refine V.iload dX8_looked_88 rfl ?_
            refine V.goto 94 dX8_looked_90 (by decide) ?_
            refine V.toZ1 ?_
            refine V.istore_n (i := 3) dX8_looked_94 rfl rfl rfl ?_
            dsimp only [List.set]
            refine V.iincN (n := 1) dX8_looked_95 rfl rfl rfl ?_
            dsimp only [List.set]
            refine V.goto 19 dX8_looked_98 (by decide) ?_
            obtain rfl : i = rN (tS T) := (by omega)
            have z := fun a b => ih (q + 1) (by omega) (by omega) a b
            first | (exfalso; omega) | (rw [lkI_pos (by omega)] at z; exact z _ _) | (rw [lkI_neg (by omega)] at z; exact z _ _)
        · skip
          refine V.iload dX8_looked_75 rfl ?_
          refine V.goto 81 dX8_looked_77 (by decide) ?_
          refine V.toZ1 ?_
          refine V.istore_n (i := 2) dX8_looked_81 rfl rfl rfl ?_
          dsimp only [List.set]
          refine V.iload dX8_looked_82 rfl ?_
          refine V.iload_n dX8_looked_84 rfl ?_
          refine V.toZ2 ?_
          refine V.icmp_leZ 93 dX8_looked_85 (by decide) (by omega) (by omega) (fun hc4 => ?_) (fun hc4 => ?_)
          · skip
            refine V.iload_n dX8_looked_93 rfl ?_
            refine V.istore_n (i := 3) dX8_looked_94 rfl rfl rfl ?_
            dsimp only [List.set]
            refine V.iincN (n := 1) dX8_looked_95 rfl rfl rfl ?_
            dsimp only [List.set]
            refine V.goto 19 dX8_looked_98 (by decide) ?_
            obtain rfl : i = rN (tS T) := (by omega)
            have z := fun a b => ih (q + 1) (by omega) (by omega) a b
            first | (exfalso; omega) | (rw [lkI_pos (by omega)] at z; exact z _ _) | (rw [lkI_neg (by omega)] at z; exact z _ _)
          · skip
            refine V.iload dX8_looked_88 rfl ?_
            refine V.goto 94 dX8_looked_90 (by decide) ?_
            refine V.toZ1 ?_
            refine V.istore_n (i := 3) dX8_looked_94 rfl rfl rfl ?_
            dsimp only [List.set]
            refine V.iincN (n := 1) dX8_looked_95 rfl rfl rfl ?_
            dsimp only [List.set]
            refine V.goto 19 dX8_looked_98 (by decide) ?_
            obtain rfl : i = rN (tS T) := (by omega)
            have z := fun a b => ih (q + 1) (by omega) (by omega) a b
            first | (exfalso; omega) | (rw [lkI_pos (by omega)] at z; exact z _ _) | (rw [lkI_neg (by omega)] at z; exact z _ _)
      · skip
        have hb64 := bits_64 (P := fun q => tellF (tS T) i q) bn
        refine V.iload dX8_looked_47 rfl ?_
        refine V.aload_n dX8_looked_49 rfl ?_
        refine V.iload dX8_looked_50 rfl ?_
        refine V.callVp (ci := 8) cX8_151 (m_towardOf g h m F A (tS T) hM hB i (by omega)) dX8_looked_52 (Nat.le_of_ble_eq_true rfl) rfl ho rfl rfl (Nat.le_of_ble_eq_true rfl) ?_
        refine V.iload dX8_looked_55 rfl ?_
        refine V.ishrN dX8_looked_57 (by omega) (by omega) ?_
        refine V.iconst (v := nI 1) dX8_looked_58 (by decide) ?_
        refine V.iand1N dX8_looked_59 (by have := bits_64 (P := fun q => tellF (tS T) i q) bn; exact Nat.lt_of_le_of_lt (Nat.div_le_self _ _) (by omega)) ?_
        refine V.re (congrArg nI (bits_at hqn)) ?_
        refine V.iaddN dX8_looked_60 ?_
        refine V.istore dX8_looked_61 rfl rfl ?_
        dsimp only [List.set]
        refine V.iincN (n := 1) dX8_looked_63 rfl rfl rfl ?_
        dsimp only [List.set]
        refine V.goto 36 dX8_looked_66 (by decide) ?_
        have z := ih2 (i + 1) (by omega) (by omega)
        simp only [cntP] at z
        exact z
    refine V.iload dX8_looked_19 rfl ?_
    refine V.aload_n dX8_looked_21 rfl ?_
    refine V.get fX8_13 dX8_looked_22 ho rfl ?_
    refine V.iconst (v := nI 2) dX8_looked_25 (by decide) ?_
    refine V.iald dX8_looked_26 (hA 2 (by omega) (by omega)).1 rfl (by omega) et2 ?_
    refine V.icmp_geN 101 dX8_looked_27 (by decide) (by omega) (by omega) (fun hc1 => ?_) (fun hc1 => ?_)
    · skip
      refine V.iload_n dX8_looked_101 rfl ?_
      refine V.if_neZ 109 dX8_looked_102 (by decide) (by omega) (fun hc2 => ?_) (fun hc2 => ?_)
      · skip
        refine V.iload_n dX8_looked_109 rfl ?_
        obtain rfl : q = rN (tS T) := (by omega)
        have e9 : lkI (tS T) (rN (tS T)) = (((lookF (tS T) (rN (tS T))).1 : Int), ((lookF (tS T) (rN (tS T))).2 : Int)) := if_neg (by omega)
        exact V.iret dX8_looked_110 rfl ⟨by unfold a_looked; rw [if_pos hcd, e9]; first | (rw [if_pos (by omega)]; exact congrArg _ (congrArg _ (iI_nat _))) | (rw [if_neg (by omega)]; exact congrArg _ (congrArg _ (iI_nat _))), rfl⟩
      · skip
        refine V.iload_n dX8_looked_105 rfl ?_
        refine V.goto 110 dX8_looked_106 (by decide) ?_
        obtain rfl : q = rN (tS T) := (by omega)
        have e9 : lkI (tS T) (rN (tS T)) = (((lookF (tS T) (rN (tS T))).1 : Int), ((lookF (tS T) (rN (tS T))).2 : Int)) := if_neg (by omega)
        exact V.iret dX8_looked_110 rfl ⟨by unfold a_looked; rw [if_pos hcd, e9]; first | (rw [if_pos (by omega)]; exact congrArg _ (congrArg _ (iI_nat _))) | (rw [if_neg (by omega)]; exact congrArg _ (congrArg _ (iI_nat _))), rfl⟩
    · skip
      refine V.iconst (v := nI 0) dX8_looked_30 (by decide) ?_
      refine V.istore dX8_looked_31 rfl rfl ?_
      dsimp only [List.set]
      refine V.iconst (v := nI 0) dX8_looked_33 (by decide) ?_
      refine V.istore dX8_looked_34 rfl rfl ?_
      dsimp only [List.set]
      exact LI (by omega) 0 (by omega)
  show V _ _ 0 [some (.ref m), some (.int (iI w)), none, none, none, none, none] [] h
  refine V.iload_n dX8_looked_0 rfl ?_
  refine V.iconst (v := nI 0) dX8_looked_1 (by decide) ?_
  refine V.iconst (v := nI 1) dX8_looked_2 (by decide) ?_
  refine V.toZ1 ?_
  refine V.toZ2 ?_
  refine V.callSp cX8_53 (m_in g h _ _ _ (by omega) (by omega) (by omega)) dX8_looked_3 (Nat.le_of_ble_eq_true rfl) rfl rfl (Nat.le_of_ble_eq_true rfl) ?_
  refine V.if_neB 11 dX8_looked_6 (by decide) (fun hc1 => ?_) (fun hc1 => ?_)
  · skip
    refine V.bipush (v := iI (-4)) dX8_looked_11 (by decide) ?_
    refine V.istore_n (i := 2) dX8_looked_13 rfl rfl rfl ?_
    dsimp only [List.set]
    refine V.iconst (v := iI (-1)) dX8_looked_14 (by decide) ?_
    refine V.istore_n (i := 3) dX8_looked_15 rfl rfl rfl ?_
    dsimp only [List.set]
    refine V.iconst (v := nI 0) dX8_looked_16 (by decide) ?_
    refine V.istore dX8_looked_17 rfl rfl ?_
    dsimp only [List.set]
    exact L (by omega) 0 (by omega) none none
  · skip
    refine V.iconst (v := iI (-1)) dX8_looked_9 (by decide) ?_
    exact V.iret dX8_looked_10 rfl ⟨by unfold a_looked; rw [if_neg (by omega)], rfl⟩
