set_option maxHeartbeats 1000000 in
theorem r_evening (g : VG) (h : VHp) (m : Nat) (T : Sy) (hC : MAt h m T) (hO : SyOk T) (z n w : Int) (hz : -2147483648 ≤ z ∧ z < 2147483648) (hn0 : -2147483648 ≤ n ∧ n < 2147483648) (hw0 : -2147483648 ≤ w ∧ w < 2147483648) : VE g mX8_evening 6 false (0, 0) [.ref m, .int (iI z), .int (iI n), .int (iI w)] h (MPo m (a_evening T z n w) T h) := by
  obtain ⟨F, A, hM, hAll⟩ := id hC
  obtain ⟨hF0, hTx, hF1, hPa, hF2, hKe, hF3, hNo⟩ := id hAll
  obtain ⟨hOt, hOs, hOn, hOp, hOk, hOns, hOpk, hOkk⟩ := id hO
  have hB := hOs.1
  have hD := hOs.2.1
  have hnl := hOns.1
  have htl := hOt.1
  obtain ⟨hw, ⟨et0, et1, et2, ek⟩, es0, ev, ex, ey, eL⟩ := id hM
  obtain ⟨ho, hA⟩ := id hw
  obtain ⟨bn, bW, bH, bP, bL⟩ := id hB
  refine VE.of (by decide) rfl (Nat.le_of_ble_eq_true rfl) ?_
  have L2 : (((0 ≤ z ∧ z ≤ 9999) ∧ 1 ≤ n ∧ n ≤ 60) ∧ 0 ≤ w ∧ w < ((2 : Nat) : Int)) → ∀ i, i ≤ rN (tS T) → ∀ (h1 : VHp) (s1 : List Int32) (v7 : Option Value), MRm h1 m F (upA (upA A 9 (A 5)) 5 s1) (evF (tS T) z.toNat n.toNat).1 → VFr m (m + 12) h h1 → V (g, mX8_evening, 6, false, h.length, MPo m (a_evening T z n w) T h) (0, 0) 101 [some (.ref m), some (.int (iI z)), some (.int (iI n)), some (.int (iI w)), some (.int (nI ((evF (tS T) z.toNat n.toNat).2))), some (.int (nI (sumV (evF (tS T) z.toNat n.toNat).1 i))), some (.int (nI i)), v7] [] h1 := by
    intro hcd
    refine vloop (rN (tS T)) (fun i ih hi => ?_)
    intro h1 s1 v7 hM1 hf1
    have ho1 := hM1.1.1
    have henn := (ev_B hB z.toNat n.toNat).2
    have h2 := (hM1.1.2 2 (by omega) (by omega)).1
    have h5 := (hM1.1.2 5 (by omega) (by omega)).1
    have et9 : ((upA (upA A 9 (A 5)) 5 s1) 2)[2]? = some (nI (rN (tS T))) := by rw [← henn]; exact hM1.2.1.2.2.1
    have ev9 : ∀ i, i < rN (tS T) → ((upA (upA A 9 (A 5)) 5 s1) 5)[1 + i]? = some (nI (rV (evF (tS T) z.toNat n.toNat).1 i)) := fun i hi => hM1.2.2.2.1 i (by rw [henn]; exact hi)
    refine V.iload dX8_evening_101 rfl ?_
    refine V.aload_n dX8_evening_103 rfl ?_
    refine V.get fX8_13 dX8_evening_104 ho1 rfl ?_
    refine V.iconst (v := nI 2) dX8_evening_107 (by decide) ?_
    refine V.iald dX8_evening_108 h2 rfl (by omega) et9 ?_
    refine V.icmp_geN 132 dX8_evening_109 (by decide) (by omega) (by omega) (fun hc1 => ?_) (fun hc1 => ?_)
    · skip
      refine V.aload_n dX8_evening_132 rfl ?_
      refine V.callV (ci := 8) cX8_157 (m_lets g h1 m F (upA (upA A 9 (A 5)) 5 s1) hM1.1) dX8_evening_133 (Nat.le_of_ble_eq_true rfl) rfl ho1 rfl rfl (Nat.le_of_ble_eq_true rfl) (fun v_ h_ hp_ => ?_)
      obtain ⟨rfl, hw4, hf4⟩ := hp_
      dsimp only [Option.toList, List.nil_append]
      have hM4 := hM.back (lets_back hw4)
      have hC4 : MAt h_ m T := MAt.aside (h := h) hM4 hAll
      refine V.iload_n dX8_evening_136 rfl ?_
      refine V.if_neZ 145 dX8_evening_137 (by decide) (by omega) (fun hc2 => ?_) (fun hc2 => ?_)
      · skip
        refine V.iload dX8_evening_145 rfl ?_
        obtain rfl : i = rN (tS T) := (by omega)
        exact V.iret dX8_evening_147 rfl ⟨by unfold a_evening; rw [if_pos hcd]; first | (rw [if_pos (by omega)]; done) | (rw [if_neg (by omega)]; done), hC4, hf1.tr (hf4.wide (by omega) (by omega))⟩
      · skip
        refine V.iload dX8_evening_140 rfl ?_
        refine V.goto 147 dX8_evening_142 (by decide) ?_
        obtain rfl : i = rN (tS T) := (by omega)
        exact V.iret dX8_evening_147 rfl ⟨by unfold a_evening; rw [if_pos hcd]; first | (rw [if_pos (by omega)]; done) | (rw [if_neg (by omega)]; done), hC4, hf1.tr (hf4.wide (by omega) (by omega))⟩
    · skip
      refine V.iload dX8_evening_112 rfl ?_
      refine V.aload_n dX8_evening_114 rfl ?_
      refine V.get fX8_22 dX8_evening_115 ho1 rfl ?_
      refine V.iconst (v := nI 1) dX8_evening_118 (by decide) ?_
      refine V.iload dX8_evening_119 rfl ?_
      refine V.iaddN dX8_evening_121 ?_
      refine V.iald dX8_evening_122 h5 rfl (by omega) (ev9 _ (by omega)) ?_
      refine V.iaddN dX8_evening_123 ?_
      refine V.istore dX8_evening_124 rfl rfl ?_
      dsimp only [List.set]
      refine V.iincN (n := 1) dX8_evening_126 rfl rfl rfl ?_
      dsimp only [List.set]
      refine V.goto 101 dX8_evening_129 (by decide) ?_
      exact ih (i + 1) (by omega) (by omega) h1 s1 v7 hM1 hf1
  have L : (((0 ≤ z ∧ z ≤ 9999) ∧ 1 ≤ n ∧ n ≤ 60) ∧ 0 ≤ w ∧ w < ((2 : Nat) : Int)) → ∀ k, k ≤ n.toNat → ∀ (h1 : VHp) (s1 : List Int32) (v6 v7 : Option Value), MRm h1 m F (upA (upA A 9 (A 5)) 5 s1) (evF (tS T) z.toNat k).1 → VFr m (m + 12) h h1 → V (g, mX8_evening, 6, false, h.length, MPo m (a_evening T z n w) T h) (0, 0) 42 [some (.ref m), some (.int (iI z)), some (.int (iI n)), some (.int (iI w)), some (.int (nI ((evF (tS T) z.toNat k).2))), some (.int (nI k)), v6, v7] [] h1 := by
    intro hcd
    refine vloop n.toNat (fun k ih hi => ?_)
    intro h1 s1 v6 v7 hM1 hf1
    have ho1 := hM1.1.1
    refine V.iload dX8_evening_42 rfl ?_
    refine V.iload_n dX8_evening_44 rfl ?_
    refine V.re (iI_toN (n := n.toNat) (by omega)) ?_
    refine V.icmp_geN 95 dX8_evening_45 (by decide) (by omega) (by omega) (fun hc1 => ?_) (fun hc1 => ?_)
    · skip
      refine V.iconst (v := nI 0) dX8_evening_95 (by decide) ?_
      refine V.istore dX8_evening_96 rfl rfl ?_
      dsimp only [List.set]
      refine V.iconst (v := nI 0) dX8_evening_98 (by decide) ?_
      refine V.istore dX8_evening_99 rfl rfl ?_
      dsimp only [List.set]
      obtain rfl : k = n.toNat := (by omega)
      exact L2 hcd 0 (by omega) h1 s1 _ hM1 hf1
    · skip
      refine V.ldc2 (v := 7919) dX8_evening_48 lX8_181 ?_
      refine V.iload_n dX8_evening_51 rfl ?_
      refine V.re (iI_toN (n := z.toNat) (by omega)) ?_
      refine V.i2l dX8_evening_52 ?_
      refine V.lmul dX8_evening_53 ?_
      refine V.ldc2 (v := 6151) dX8_evening_54 lX8_183 ?_
      refine V.iload dX8_evening_57 rfl ?_
      refine V.i2l dX8_evening_59 ?_
      refine V.lmul dX8_evening_60 ?_
      refine V.ladd dX8_evening_61 ?_
      refine V.lconst (v := 1) dX8_evening_62 (by decide) ?_
      refine V.ladd dX8_evening_63 ?_
      refine V.lstore dX8_evening_64 rfl rfl ?_
      dsimp only [List.set]
      refine V.aload_n dX8_evening_66 rfl ?_
      refine V.lload dX8_evening_67 rfl ?_
      refine V.lload dX8_evening_69 rfl ?_
      refine V.lmul dX8_evening_71 ?_
      refine V.ldc2 (v := 65521) dX8_evening_72 lX8_185 ?_
      refine V.lrem dX8_evening_75 (by decide) ?_
      refine V.l2i dX8_evening_76 ?_
      refine V.re (y := nI (drawF z.toNat k)) (draw_eq (by omega) (by omega)) ?_
      refine V.callV (ci := 8) cX8_187 (m_turn g h1 m F (upA (upA A 9 (A 5)) 5 s1) (evF (tS T) z.toNat k).1 hM1 (ev_B hB _ _).1 (ev_Ok hOs hOn _ _).2.1 (drawF z.toNat k) (by rw [(ev_B hB _ _).2]; exact hOn) (drawF_lt _ _)) dX8_evening_77 (Nat.le_of_ble_eq_true rfl) rfl ho1 rfl rfl (Nat.le_of_ble_eq_true rfl) (fun v_ h_ hp_ => ?_)
      obtain ⟨rfl, s2, hM2, hf2⟩ := hp_
      rw [upA_upA] at hM2
      dsimp only [Option.toList, List.nil_append]
      replace ho1 := hM2.1.1
      refine V.iload dX8_evening_80 rfl ?_
      refine V.aload_n dX8_evening_82 rfl ?_
      refine V.callV (ci := 8) cX8_135 (m_passes g _ m F _ (actF (evF (tS T) z.toNat k).1 (drawF z.toNat k)) hM2 (act_B (ev_B hB _ _).1 _)) dX8_evening_83 (Nat.le_of_ble_eq_true rfl) rfl ho1 rfl rfl (Nat.le_of_ble_eq_true rfl) (fun v_ h_ hp_ => ?_)
      obtain ⟨rfl, s3, hM3, hf3⟩ := hp_
      rw [upA_upA] at hM3
      dsimp only [Option.toList, List.cons_append, List.nil_append]
      refine V.iaddN dX8_evening_86 ?_
      refine V.istore dX8_evening_87 rfl rfl ?_
      dsimp only [List.set]
      refine V.iincN (n := 1) dX8_evening_89 rfl rfl rfl ?_
      dsimp only [List.set]
      refine V.goto 42 dX8_evening_92 (by decide) ?_
      exact ih (k + 1) (by omega) (by omega) _ _ _ _ hM3 ((hf1.tr (hf2.wide (by omega) (by omega))).tr (hf3.wide (by omega) (by omega)))
  show V _ _ 0 [some (.ref m), some (.int (iI z)), some (.int (iI n)), some (.int (iI w)), none, none, none, none] [] h
  refine V.iload_n dX8_evening_0 rfl ?_
  refine V.iconst (v := nI 0) dX8_evening_1 (by decide) ?_
  refine V.sipush (v := nI 9999) dX8_evening_2 (by decide) ?_
  refine V.toZ1 ?_
  refine V.toZ2 ?_
  refine V.callSp cX8_53 (m_in g h _ _ _ (by omega) (by omega) (by omega)) dX8_evening_5 (Nat.le_of_ble_eq_true rfl) rfl rfl (Nat.le_of_ble_eq_true rfl) ?_
  refine V.if_eqB 30 dX8_evening_8 (by decide) (fun hc1 => ?_) (fun hc1 => ?_)
  · skip
    refine V.iconst (v := iI (-1)) dX8_evening_30 (by decide) ?_
    exact V.iret dX8_evening_31 rfl ⟨by unfold a_evening; rw [if_neg (by omega)], hC, VFr.rf⟩
  · skip
    refine V.iload_n dX8_evening_11 rfl ?_
    refine V.iconst (v := nI 1) dX8_evening_12 (by decide) ?_
    refine V.bipush (v := nI 60) dX8_evening_13 (by decide) ?_
    refine V.toZ1 ?_
    refine V.toZ2 ?_
    refine V.callSp cX8_53 (m_in g h _ _ _ (by omega) (by omega) (by omega)) dX8_evening_15 (Nat.le_of_ble_eq_true rfl) rfl rfl (Nat.le_of_ble_eq_true rfl) ?_
    refine V.if_eqB 30 dX8_evening_18 (by decide) (fun hc2 => ?_) (fun hc2 => ?_)
    · skip
      refine V.iconst (v := iI (-1)) dX8_evening_30 (by decide) ?_
      exact V.iret dX8_evening_31 rfl ⟨by unfold a_evening; rw [if_neg (by omega)], hC, VFr.rf⟩
    · skip
      refine V.iload_n dX8_evening_21 rfl ?_
      refine V.iconst (v := nI 0) dX8_evening_22 (by decide) ?_
      refine V.iconst (v := nI 1) dX8_evening_23 (by decide) ?_
      refine V.toZ1 ?_
      refine V.toZ2 ?_
      refine V.callSp cX8_53 (m_in g h _ _ _ (by omega) (by omega) (by omega)) dX8_evening_24 (Nat.le_of_ble_eq_true rfl) rfl rfl (Nat.le_of_ble_eq_true rfl) ?_
      refine V.if_neB 32 dX8_evening_27 (by decide) (fun hc3 => ?_) (fun hc3 => ?_)
      · skip
        refine V.aload_n dX8_evening_32 rfl ?_
        refine V.callV (ci := 8) cX8_154 (m_holds g h m F A hM.1) dX8_evening_33 (Nat.le_of_ble_eq_true rfl) rfl ho rfl rfl (Nat.le_of_ble_eq_true rfl) (fun v_ h_ hp_ => ?_)
        obtain ⟨rfl, hw2, hf2⟩ := hp_
        dsimp only [Option.toList, List.nil_append]
        have hM2 := hM.held hw2
        refine V.iconst (v := nI 0) dX8_evening_36 (by decide) ?_
        refine V.istore dX8_evening_37 rfl rfl ?_
        dsimp only [List.set]
        refine V.iconst (v := nI 0) dX8_evening_39 (by decide) ?_
        refine V.istore dX8_evening_40 rfl rfl ?_
        dsimp only [List.set]
        exact L (by omega) 0 (by omega) _ _ none none hM2 (hf2.wide (by omega) (by omega))
      · skip
        refine V.iconst (v := iI (-1)) dX8_evening_30 (by decide) ?_
        exact V.iret dX8_evening_31 rfl ⟨by unfold a_evening; rw [if_neg (by omega)], hC, VFr.rf⟩
