set_option maxHeartbeats 1000000 in
theorem m_next (g : VG) (h : VHp) (m : Nat) (F : MF) (A : MA) (S : Rm) (hM : MRm h m F A S) (hB : RmB S) (p : Nat) (d : Option Nat) (hp : p < rN S) (hd : ∀ w, d = some w → w < 8) : VE g mX8_next 0 false (0, 0) [.ref m, .int (nI p), .int (eO d)] h (VP (nI (nextF (rK S p) (rV S p) d)) h) := by
  obtain ⟨hw, ⟨et0, et1, et2, ek⟩, es0, ev, ex, ey, eL⟩ := id hM
  obtain ⟨ho, hA⟩ := id hw
  obtain ⟨bn, bW, bH, bP, bL⟩ := id hB
  have bp := bP p hp
  cases d with
  | none =>
    refine VE.of (by decide) rfl (Nat.le_of_ble_eq_true rfl) ?_
    show V _ _ 0 [some (.ref m), some (.int (nI p)), some (.int (iI (-4))), none, none] [] h
    refine V.aload_n dX8_next_0 rfl ?_
    refine V.get fX8_22 dX8_next_1 ho rfl ?_
    refine V.iconst (v := nI 1) dX8_next_4 (by decide) ?_
    refine V.iload_n dX8_next_5 rfl ?_
    refine V.iaddN dX8_next_6 ?_
    refine V.iald dX8_next_7 (hA 5 (by omega) (by omega)).1 rfl (by omega) (ev _ (by omega)) ?_
    refine V.istore_n (i := 3) dX8_next_8 rfl rfl rfl ?_
    dsimp only [List.set]
    refine V.aload_n dX8_next_9 rfl ?_
    refine V.get fX8_13 dX8_next_10 ho rfl ?_
    refine V.iconst (v := nI 3) dX8_next_13 (by decide) ?_
    refine V.iload_n dX8_next_14 rfl ?_
    refine V.iaddN dX8_next_15 ?_
    refine V.iald dX8_next_16 (hA 2 (by omega) (by omega)).1 rfl (by omega) (ek _ (by omega)) ?_
    refine V.iconst (v := nI 2) dX8_next_17 (by decide) ?_
    refine V.icmp_neN 28 dX8_next_18 (by decide) (by omega) (by omega) (fun hc1 => ?_) (fun hc1 => ?_)
    · skip
      refine V.iload_n dX8_next_28 rfl ?_
      refine V.bipush (v := iI (-4)) dX8_next_29 (by decide) ?_
      refine V.icmp_neZ 36 dX8_next_31 (by decide) (by omega) (by omega) (fun hc2 => ?_) (fun hc2 => ?_)
      · exact absurd rfl hc2
      · skip
        refine V.iload_n dX8_next_34 rfl ?_
        exact V.iret dX8_next_35 rfl ⟨by first | (exfalso; omega) | (simp only [nextF, turnF]; (repeat first | rw [if_pos (by first | omega | trivial)] | rw [if_neg (by omega)]); try rfl), rfl⟩
    · skip
      refine V.iload_n dX8_next_21 rfl ?_
      refine V.iconst (v := nI 1) dX8_next_22 (by decide) ?_
      refine V.iaddN dX8_next_23 ?_
      refine V.bipush (v := nI 8) dX8_next_24 (by decide) ?_
      refine V.iremN dX8_next_26 (by omega) (by omega) (by omega) ?_
      exact V.iret dX8_next_27 rfl ⟨by first | (exfalso; omega) | (simp only [nextF, turnF]; (repeat first | rw [if_pos (by first | omega | trivial)] | rw [if_neg (by omega)]); try rfl), rfl⟩
  | some w =>
    have hw9 : w < 8 := hd w rfl
    refine VE.of (by decide) rfl (Nat.le_of_ble_eq_true rfl) ?_
    show V _ _ 0 [some (.ref m), some (.int (nI p)), some (.int (nI w)), none, none] [] h
    refine V.aload_n dX8_next_0 rfl ?_
    refine V.get fX8_22 dX8_next_1 ho rfl ?_
    refine V.iconst (v := nI 1) dX8_next_4 (by decide) ?_
    refine V.iload_n dX8_next_5 rfl ?_
    refine V.iaddN dX8_next_6 ?_
    refine V.iald dX8_next_7 (hA 5 (by omega) (by omega)).1 rfl (by omega) (ev _ (by omega)) ?_
    refine V.istore_n (i := 3) dX8_next_8 rfl rfl rfl ?_
    dsimp only [List.set]
    refine V.aload_n dX8_next_9 rfl ?_
    refine V.get fX8_13 dX8_next_10 ho rfl ?_
    refine V.iconst (v := nI 3) dX8_next_13 (by decide) ?_
    refine V.iload_n dX8_next_14 rfl ?_
    refine V.iaddN dX8_next_15 ?_
    refine V.iald dX8_next_16 (hA 2 (by omega) (by omega)).1 rfl (by omega) (ek _ (by omega)) ?_
    refine V.iconst (v := nI 2) dX8_next_17 (by decide) ?_
    refine V.icmp_neN 28 dX8_next_18 (by decide) (by omega) (by omega) (fun hc1 => ?_) (fun hc1 => ?_)
    · skip
      refine V.iload_n dX8_next_28 rfl ?_
      refine V.bipush (v := iI (-4)) dX8_next_29 (by decide) ?_
      refine V.toZ2 ?_
      refine V.icmp_neZ 36 dX8_next_31 (by decide) (by omega) (by omega) (fun hc2 => ?_) (fun hc2 => ?_)
      · skip
        refine V.iload_n dX8_next_36 rfl ?_
        refine V.bipush (v := nI 8) dX8_next_37 (by decide) ?_
        refine V.iaddN dX8_next_39 ?_
        refine V.iload_n dX8_next_40 rfl ?_
        refine V.isubN dX8_next_41 (by omega) ?_
        refine V.bipush (v := nI 8) dX8_next_42 (by decide) ?_
        refine V.iremN dX8_next_44 (by omega) (by omega) (by omega) ?_
        refine V.istore dX8_next_45 rfl rfl ?_
        dsimp only [List.set]
        refine V.aload_n dX8_next_47 rfl ?_
        refine V.get fX8_13 dX8_next_48 ho rfl ?_
        refine V.iconst (v := nI 3) dX8_next_51 (by decide) ?_
        refine V.iload_n dX8_next_52 rfl ?_
        refine V.iaddN dX8_next_53 ?_
        refine V.iald dX8_next_54 (hA 2 (by omega) (by omega)).1 rfl (by omega) (ek _ (by omega)) ?_
        rcases (show rK S p = 0 ∨ rK S p = 1 ∨ rK S p = 3 by omega) with hq | hq | hq
        · skip
          rw [hq]
          refine V.lookup (off := 25) 80 dX8_next_55 (by decide) (by decide) (by decide) ?_
          refine V.iload_n dX8_next_80 rfl ?_
          exact V.iret dX8_next_81 rfl ⟨by first | (exfalso; omega) | (simp only [nextF, turnF]; (repeat first | rw [if_pos (by first | omega | trivial)] | rw [if_neg (by omega)]); try rfl), rfl⟩
        · skip
          rw [hq]
          refine V.lookup (off := 27) 82 dX8_next_55 (by decide) (by decide) (by decide) ?_
          refine V.iload dX8_next_82 rfl ?_
          refine V.if_neN 91 dX8_next_84 (by decide) (by omega) (fun hc3 => ?_) (fun hc3 => ?_)
          · skip
            refine V.iload dX8_next_91 rfl ?_
            refine V.iconst (v := nI 4) dX8_next_93 (by decide) ?_
            refine V.icmp_gtN 106 dX8_next_94 (by decide) (by omega) (by omega) (fun hc4 => ?_) (fun hc4 => ?_)
            · skip
              refine V.iload_n dX8_next_106 rfl ?_
              refine V.bipush (v := nI 7) dX8_next_107 (by decide) ?_
              refine V.iaddN dX8_next_109 ?_
              refine V.bipush (v := nI 8) dX8_next_110 (by decide) ?_
              refine V.iremN dX8_next_112 (by omega) (by omega) (by omega) ?_
              exact V.iret dX8_next_113 rfl ⟨by first | (exfalso; omega) | (simp only [nextF, turnF]; (repeat first | rw [if_pos (by first | omega | trivial)] | rw [if_neg (by omega)]); try rfl), rfl⟩
            · skip
              refine V.iload_n dX8_next_97 rfl ?_
              refine V.iconst (v := nI 1) dX8_next_98 (by decide) ?_
              refine V.iaddN dX8_next_99 ?_
              refine V.bipush (v := nI 8) dX8_next_100 (by decide) ?_
              refine V.iremN dX8_next_102 (by omega) (by omega) (by omega) ?_
              refine V.goto 113 dX8_next_103 (by decide) ?_
              exact V.iret dX8_next_113 rfl ⟨by first | (exfalso; omega) | (simp only [nextF, turnF]; (repeat first | rw [if_pos (by first | omega | trivial)] | rw [if_neg (by omega)]); try rfl), rfl⟩
          · skip
            refine V.iload_n dX8_next_87 rfl ?_
            refine V.goto 113 dX8_next_88 (by decide) ?_
            exact V.iret dX8_next_113 rfl ⟨by first | (exfalso; omega) | (simp only [nextF, turnF]; (repeat first | rw [if_pos (by first | omega | trivial)] | rw [if_neg (by omega)]); try rfl), rfl⟩
        · skip
          rw [hq]
          refine V.lookup (off := 59) 114 dX8_next_55 (by decide) (by decide) (by decide) ?_
          refine V.iload_n dX8_next_114 rfl ?_
          refine V.iconst (v := nI 4) dX8_next_115 (by decide) ?_
          refine V.iaddN dX8_next_116 ?_
          refine V.bipush (v := nI 8) dX8_next_117 (by decide) ?_
          refine V.iremN dX8_next_119 (by omega) (by omega) (by omega) ?_
          exact V.iret dX8_next_120 rfl ⟨by first | (exfalso; omega) | (simp only [nextF, turnF]; (repeat first | rw [if_pos (by first | omega | trivial)] | rw [if_neg (by omega)]); try rfl), rfl⟩
      · exact absurd hc2 (by omega)
    · skip
      refine V.iload_n dX8_next_21 rfl ?_
      refine V.iconst (v := nI 1) dX8_next_22 (by decide) ?_
      refine V.iaddN dX8_next_23 ?_
      refine V.bipush (v := nI 8) dX8_next_24 (by decide) ?_
      refine V.iremN dX8_next_26 (by omega) (by omega) (by omega) ?_
      exact V.iret dX8_next_27 rfl ⟨by first | (exfalso; omega) | (simp only [nextF, turnF]; (repeat first | rw [if_pos (by first | omega | trivial)] | rw [if_neg (by omega)]); try rfl), rfl⟩

set_option maxHeartbeats 1000000 in
theorem m_mayWalk (g : VG) (h : VHp) (m : Nat) (F : MF) (A : MA) (S : Rm) (hM : MRm h m F A S) (hB : RmB S) (hD : RmD S) (p sd : Nat) (hp : p < rN S) (hs : sd < 4) : VE g mX8_mayWalk 2 false (0, 0) [.ref m, .int (nI p), .int (nI sd)] h (VP (vB (canF S p sd)) h) := by
  obtain ⟨hw, ⟨et0, et1, et2, ek⟩, es0, ev, ex, ey, eL⟩ := id hM
  obtain ⟨ho, hA⟩ := id hw
  obtain ⟨bn, bW, bH, bP, bL⟩ := id hB
  have es : sxF S p sd = (rX S p : Int) + dxF sd := rfl
  have et : syF S p sd = (rY S p : Int) + dyF sd := rfl
  have b1 := dx_bd sd
  have b2 := dy_bd sd
  have bp := bP p hp
  have hlt : ∀ i, whoF S (sxF S p sd).toNat (syF S p sd).toNat (rN S) = some i → i < 1000 := fun i q => by have := (whoF_lt q).1; omega
  refine VE.of (by decide) rfl (Nat.le_of_ble_eq_true rfl) ?_
  show V _ _ 0 [some (.ref m), some (.int (nI p)), some (.int (nI sd)), none, none] [] h
  refine V.aload_n dX8_mayWalk_0 rfl ?_
  refine V.get fX8_22 dX8_mayWalk_1 ho rfl ?_
  refine V.bipush (v := nI 7) dX8_mayWalk_4 (by decide) ?_
  refine V.iload_n dX8_mayWalk_6 rfl ?_
  refine V.iaddN dX8_mayWalk_7 ?_
  refine V.iald dX8_mayWalk_8 (hA 5 (by omega) (by omega)).1 rfl (by omega) (ex _ (by omega)) ?_
  refine V.iload_n dX8_mayWalk_9 rfl ?_
  refine V.callSp cX8_138 (m_eastBy g h sd hs) dX8_mayWalk_10 (Nat.le_of_ble_eq_true rfl) rfl rfl (Nat.le_of_ble_eq_true rfl) ?_
  refine V.toZ2 ?_
  refine V.iaddZ dX8_mayWalk_13 ?_
  refine V.re (y := iI (sxF S p sd)) rfl ?_
  refine V.istore_n (i := 3) dX8_mayWalk_14 rfl rfl rfl ?_
  dsimp only [List.set]
  refine V.aload_n dX8_mayWalk_15 rfl ?_
  refine V.get fX8_22 dX8_mayWalk_16 ho rfl ?_
  refine V.bipush (v := nI 13) dX8_mayWalk_19 (by decide) ?_
  refine V.iload_n dX8_mayWalk_21 rfl ?_
  refine V.iaddN dX8_mayWalk_22 ?_
  refine V.iald dX8_mayWalk_23 (hA 5 (by omega) (by omega)).1 rfl (by omega) (ey _ (by omega)) ?_
  refine V.iload_n dX8_mayWalk_24 rfl ?_
  refine V.callSp cX8_141 (m_southBy g h sd hs) dX8_mayWalk_25 (Nat.le_of_ble_eq_true rfl) rfl rfl (Nat.le_of_ble_eq_true rfl) ?_
  refine V.toZ2 ?_
  refine V.iaddZ dX8_mayWalk_28 ?_
  refine V.re (y := iI (syF S p sd)) rfl ?_
  refine V.istore dX8_mayWalk_29 rfl rfl ?_
  dsimp only [List.set]
  refine V.aload_n dX8_mayWalk_31 rfl ?_
  refine V.iload_n dX8_mayWalk_32 rfl ?_
  refine V.iload dX8_mayWalk_33 rfl ?_
  refine V.callVp (ci := 8) cX8_122 (m_isPlace g h m F A S hM hB (sxF S p sd) (syF S p sd) (by omega) (by omega)) dX8_mayWalk_35 (Nat.le_of_ble_eq_true rfl) rfl ho rfl rfl (Nat.le_of_ble_eq_true rfl) ?_
  refine V.if_eqB 57 dX8_mayWalk_38 (by decide) (fun hc1 => ?_) (fun hc1 => ?_)
  · skip
    refine V.iconst (v := nI 0) dX8_mayWalk_57 (by decide) ?_
    exact V.zret dX8_mayWalk_58 rfl (by first | exact vB_01 | decide) ⟨by first | (exfalso; omega) | (first | (rw [vB_t ⟨by assumption, (eO_none hlt).mp (by assumption)⟩]; rfl) | (rw [vB_f (fun q => absurd q.1 (by assumption))]; rfl) | (rw [vB_f (fun q => absurd ((eO_none hlt).mpr q.2) (by assumption))]; rfl)), rfl⟩
  · skip
    refine V.aload_n dX8_mayWalk_41 rfl ?_
    refine V.iload_n dX8_mayWalk_42 rfl ?_
    refine V.iload dX8_mayWalk_43 rfl ?_
    refine V.re (iI_toN (n := (syF S p sd).toNat) (by omega)) ?_
    refine V.re2 (iI_toN (n := (sxF S p sd).toNat) (by omega)) ?_
    refine V.callVp (ci := 8) cX8_126 (m_whoAt g h m F A S hM hB hD (sxF S p sd).toNat (syF S p sd).toNat (by omega) (by omega)) dX8_mayWalk_45 (Nat.le_of_ble_eq_true rfl) rfl ho rfl rfl (Nat.le_of_ble_eq_true rfl) ?_
    refine V.bipush (v := iI (-4)) dX8_mayWalk_48 (by decide) ?_
    refine V.icmp_ne 57 dX8_mayWalk_50 (by decide) (fun hc2 => ?_) (fun hc2 => ?_)
    · skip
      refine V.iconst (v := nI 0) dX8_mayWalk_57 (by decide) ?_
      exact V.zret dX8_mayWalk_58 rfl (by first | exact vB_01 | decide) ⟨by first | (exfalso; omega) | (first | (rw [vB_t ⟨by assumption, (eO_none hlt).mp (by assumption)⟩]; rfl) | (rw [vB_f (fun q => absurd q.1 (by assumption))]; rfl) | (rw [vB_f (fun q => absurd ((eO_none hlt).mpr q.2) (by assumption))]; rfl)), rfl⟩
    · skip
      refine V.iconst (v := nI 1) dX8_mayWalk_53 (by decide) ?_
      refine V.goto 58 dX8_mayWalk_54 (by decide) ?_
      exact V.zret dX8_mayWalk_58 rfl (by first | exact vB_01 | decide) ⟨by first | (exfalso; omega) | (first | (rw [vB_t ⟨by assumption, (eO_none hlt).mp (by assumption)⟩]; rfl) | (rw [vB_f (fun q => absurd q.1 (by assumption))]; rfl) | (rw [vB_f (fun q => absurd ((eO_none hlt).mpr q.2) (by assumption))]; rfl)), rfl⟩

set_option maxHeartbeats 1000000 in
theorem m_goes (g : VG) (h : VHp) (m : Nat) (F : MF) (A : MA) (S : Rm) (hM : MRm h m F A S) (hB : RmB S) (p sd : Nat) (hp : p < rN S) (hs : sd < 4) (hin : inF S (sxF S p sd) (syF S p sd)) : VE g mX8_goes 1 false (0, 0) [.ref m, .int (nI p), .int (nI sd)] h (MQ5 m F A (rStep S p sd) h none) := by
  obtain ⟨hw, ⟨et0, et1, et2, ek⟩, es0, ev, ex, ey, eL⟩ := id hM
  obtain ⟨ho, hA⟩ := id hw
  obtain ⟨bn, bW, bH, bP, bL⟩ := id hB
  have es : sxF S p sd = (rX S p : Int) + dxF sd := rfl
  have et : syF S p sd = (rY S p : Int) + dyF sd := rfl
  have b1 := dx_bd sd
  have b2 := dy_bd sd
  have bp := bP p hp
  refine VE.of (by decide) rfl (Nat.le_of_ble_eq_true rfl) ?_
  show V _ _ 0 [some (.ref m), some (.int (nI p)), some (.int (nI sd))] [] h
  refine V.aload_n dX8_goes_0 rfl ?_
  refine V.get fX8_22 dX8_goes_1 ho rfl ?_
  refine V.bipush (v := nI 7) dX8_goes_4 (by decide) ?_
  refine V.iload_n dX8_goes_6 rfl ?_
  refine V.iaddN dX8_goes_7 ?_
  refine V.dup2 dX8_goes_8 rfl rfl ?_
  refine V.iald dX8_goes_9 (hA 5 (by omega) (by omega)).1 rfl (by omega) (ex _ (by omega)) ?_
  refine V.iload_n dX8_goes_10 rfl ?_
  refine V.callSp cX8_138 (m_eastBy g h sd hs) dX8_goes_11 (Nat.le_of_ble_eq_true rfl) rfl rfl (Nat.le_of_ble_eq_true rfl) ?_
  refine V.toZ2 ?_
  refine V.iaddZ dX8_goes_14 ?_
  refine V.re (y := nI (sxF S p sd).toNat) (iI_toN (by show (rX S p : Int) + dxF sd = _; omega)) ?_
  refine V.iast dX8_goes_15 (hA 5 (by omega) (by omega)).1 rfl (by omega) (by rw [(hA 5 (by omega) (by omega)).2]; show _ < 55; omega) ?_
  have hM2 : MRm _ m F (upA A 5 ((A 5).set (7 + p) (nI (sxF S p sd).toNat))) (rSetX S p (sxF S p sd).toNat) := MRm.w5 hM ((A 5).set (7 + p) (nI (sxF S p sd).toNat)) (by rw [List.length_set]; exact hM.len) (RowS.x (x := (sxF S p sd).toNat) hM.2.2 hM.len bn hp) rfl rfl rfl rfl
  have hf2 := VFr.set (h := h) (lo := m + 5) (hi := m + 6) (a := m + 5) (c := Sum.inl ((A 5).set (7 + p) (nI (sxF S p sd).toNat))) (by omega) (by omega)
  generalize h.set (m + 5) (Sum.inl ((A 5).set (7 + p) (nI (sxF S p sd).toNat))) = h2 at hM2 hf2 ⊢
  obtain ⟨hw, ⟨et0, et1, et2, ek⟩, es0, ev, ex, ey, eL⟩ := id hM2
  obtain ⟨ho, hA⟩ := id hw
  have ey : ∀ i, i < rN S → (upA A 5 ((A 5).set (7 + p) (nI (sxF S p sd).toNat)) 5)[13 + i]? = some (nI (rY S i)) := ey
  refine V.aload_n dX8_goes_16 rfl ?_
  refine V.get fX8_22 dX8_goes_17 ho rfl ?_
  refine V.bipush (v := nI 13) dX8_goes_20 (by decide) ?_
  refine V.iload_n dX8_goes_22 rfl ?_
  refine V.iaddN dX8_goes_23 ?_
  refine V.dup2 dX8_goes_24 rfl rfl ?_
  refine V.iald dX8_goes_25 (hA 5 (by omega) (by omega)).1 rfl (by omega) (ey _ (by omega)) ?_
  refine V.iload_n dX8_goes_26 rfl ?_
  refine V.callSp cX8_141 (m_southBy g h2 sd hs) dX8_goes_27 (Nat.le_of_ble_eq_true rfl) rfl rfl (Nat.le_of_ble_eq_true rfl) ?_
  refine V.toZ2 ?_
  refine V.iaddZ dX8_goes_30 ?_
  refine V.re (y := nI (syF S p sd).toNat) (iI_toN (by show (rY S p : Int) + dyF sd = _; omega)) ?_
  refine V.iast dX8_goes_31 (hA 5 (by omega) (by omega)).1 rfl (by omega) (by rw [(hA 5 (by omega) (by omega)).2]; show _ < 55; omega) ?_
  have q := MRm.w5 hM2 ((upA A 5 ((A 5).set (7 + p) (nI (sxF S p sd).toNat)) 5).set (13 + p) (nI (syF S p sd).toNat)) (by rw [List.length_set]; exact hM2.len) (RowS.y (y := (syF S p sd).toNat) hM2.2.2 hM2.len bn hp) rfl rfl rfl rfl
  rw [upA_upA] at q
  exact V.vret dX8_goes_32 rfl ⟨rfl, _, q, hf2.tr (VFr.set (by omega) (by omega))⟩
