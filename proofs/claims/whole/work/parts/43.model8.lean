set_option maxHeartbeats 1000000 in
theorem r_write (g : VG) (h : VHp) (m : Nat) (T : Sy) (hC : MAt h m T) (hO : SyOk T) (z : Int) (hz : -2147483648 ≤ z ∧ z < 2147483648) : VE g mX8_write 1 false (0, 0) [.ref m, .int (iI z)] h (MPo m (a_write T z) (n_write T z) h) := by
  obtain ⟨F, A, hM, hAll⟩ := id hC
  obtain ⟨hF0, hTx, hF1, hPa, hF2, hKe, hF3, hNo⟩ := id hAll
  obtain ⟨hOt, hOs, hOn, hOp, hOk, hOns, hOpk, hOkk⟩ := id hO
  have hB := hOs.1
  have hD := hOs.2.1
  have hnl := hOns.1
  have htl := hOt.1
  obtain ⟨hw, ⟨et0, et1, et2, ek⟩, es0, ev, ex, ey, eL⟩ := id hM
  obtain ⟨ho, hA⟩ := id hw
  obtain ⟨bn, bW, bH, bP, bL⟩ := id hB
  refine VE.of (by decide) rfl (Nat.le_of_ble_eq_true rfl) ?_
  show V _ _ 0 [some (.ref m), some (.int (iI z))] [] h
  refine V.iload_n dX8_write_0 rfl ?_
  refine V.bipush (v := nI 32) dX8_write_1 (by decide) ?_
  refine V.bipush (v := nI 126) dX8_write_3 (by decide) ?_
  refine V.toZ1 ?_
  refine V.toZ2 ?_
  refine V.callSp cX8_53 (m_in g h _ _ _ (by omega) (by omega) (by omega)) dX8_write_5 (Nat.le_of_ble_eq_true rfl) rfl rfl (Nat.le_of_ble_eq_true rfl) ?_
  refine V.if_neB 13 dX8_write_8 (by decide) (fun hc1 => ?_) (fun hc1 => ?_)
  · skip
    refine V.aload_n dX8_write_13 rfl ?_
    refine V.get fX8_57 dX8_write_14 ho rfl ?_
    refine V.re hF0 ?_
    refine V.sipush (v := nI 200) dX8_write_17 (by decide) ?_
    refine V.icmp_neN 26 dX8_write_20 (by decide) (by omega) (by omega) (fun hc2 => ?_) (fun hc2 => ?_)
    · skip
      refine V.aload_n dX8_write_26 rfl ?_
      refine V.get fX8_7 dX8_write_27 ho rfl ?_
      refine V.aload_n dX8_write_30 rfl ?_
      refine V.get fX8_57 dX8_write_31 ho rfl ?_
      refine V.re hF0 ?_
      refine V.iload_n dX8_write_34 rfl ?_
      refine V.re (iI_toN (n := z.toNat) (by omega)) ?_
      refine V.iast dX8_write_35 (hA 1 (by omega) (by omega)).1 rfl (by omega) (by rw [(hA 1 (by omega) (by omega)).2]; show _ < 200; omega) ?_
      have hw2 := MRaw.set hw 1 (by omega) (by omega) ((A 1).set (tT T).length (nI z.toNat)) (by rw [List.length_set]; exact (hw.2 1 (by omega) (by omega)).2)
      have hf1 := VFr.set (h := h) (lo := m) (hi := m + 12) (a := m + 1) (c := Sum.inl ((A 1).set (tT T).length (nI z.toNat))) (by omega) (by omega)
      generalize List.set h (m + 1) (Sum.inl ((A 1).set (tT T).length (nI z.toNat))) = h1 at hw2 hf1 ⊢
      obtain ⟨ho, hA⟩ := id hw2
      refine V.aload_n dX8_write_36 rfl ?_
      refine V.dup dX8_write_37 rfl ?_
      refine V.get fX8_57 dX8_write_38 ho rfl ?_
      refine V.re hF0 ?_
      refine V.iconst (v := nI 1) dX8_write_41 (by decide) ?_
      refine V.iaddN dX8_write_42 ?_
      refine V.puti fX8_57 dX8_write_43 ho (Nat.le_of_ble_eq_true rfl) ?_
      dsimp only [List.set]
      have hw3 := MRaw.f0 hw2 (nI ((tT T).length + 1))
      have ho3 := vset_eq (c := Sum.inr (Sum.inr (8, [Value.ref (m + 1), Value.int (nI ((tT T).length + 1)), Value.ref (m + 2), Value.ref (m + 3), Value.ref (m + 4), Value.ref (m + 5), Value.ref (m + 6), Value.int (F 1), Value.ref (m + 7), Value.int (F 2), Value.ref (m + 8), Value.int (F 3), Value.int (F 4), Value.ref (m + 9), Value.ref (m + 10), Value.ref (m + 11)]))) ho
      have hf3 := hf1.tr (VFr.set (h := h1) (lo := m) (hi := m + 12) (a := m) (c := Sum.inr (Sum.inr (8, [Value.ref (m + 1), Value.int (nI ((tT T).length + 1)), Value.ref (m + 2), Value.ref (m + 3), Value.ref (m + 4), Value.ref (m + 5), Value.ref (m + 6), Value.int (F 1), Value.ref (m + 7), Value.int (F 2), Value.ref (m + 8), Value.int (F 3), Value.int (F 4), Value.ref (m + 9), Value.ref (m + 10), Value.ref (m + 11)]))) (by omega) (by omega))
      refine V.aload_n dX8_write_46 rfl ?_
      refine V.get fX8_57 dX8_write_47 ho3 rfl ?_
      have hC2 : MAt _ m (tT T ++ [z.toNat], T.2) := ⟨_, _, ⟨hw3, (by rw [upA_n (by omega)]; exact hM.2.1), (by rw [upA_n (by omega)]; exact hM.2.2)⟩, (by rw [List.length_append]; exact upF_s), (by rw [upA_s]; exact text_app hTx (by rw [(hM.1.2 1 (by omega) (by omega)).2]; show _ < 200; omega)), ((upF_n (by omega)).trans hF1), (by rw [upA_n (by omega)]; exact hPa), ((upF_n (by omega)).trans hF2), (by rw [upA_n (by omega)]; exact hKe), ((upF_n (by omega)).trans hF3), (by rw [upA_n (by omega)]; exact hNo)⟩
      exact V.iret dX8_write_50 rfl ⟨by first | (exfalso; omega) | (unfold a_write; (repeat first | rw [if_pos (by first | omega | assumption)] | rw [if_neg (by first | omega | assumption)]); try rfl), by first | (exfalso; omega) | (unfold n_write; (repeat first | rw [if_pos (by first | omega | assumption)] | rw [if_neg (by first | omega | assumption)]); exact hC2), hf3⟩
    · skip
      refine V.bipush (v := iI (-3)) dX8_write_23 (by decide) ?_
      exact V.iret dX8_write_25 rfl ⟨by first | (exfalso; omega) | (unfold a_write; (repeat first | rw [if_pos (by first | omega | assumption)] | rw [if_neg (by first | omega | assumption)]); try rfl), by first | (exfalso; omega) | (unfold n_write; (repeat first | rw [if_pos (by first | omega | assumption)] | rw [if_neg (by first | omega | assumption)]); exact hC), VFr.rf⟩
  · skip
    refine V.iconst (v := iI (-1)) dX8_write_11 (by decide) ?_
    exact V.iret dX8_write_12 rfl ⟨by first | (exfalso; omega) | (unfold a_write; (repeat first | rw [if_pos (by first | omega | assumption)] | rw [if_neg (by first | omega | assumption)]); try rfl), by first | (exfalso; omega) | (unfold n_write; (repeat first | rw [if_pos (by first | omega | assumption)] | rw [if_neg (by first | omega | assumption)]); exact hC), VFr.rf⟩

set_option maxHeartbeats 1000000 in
theorem r_wipe (g : VG) (h : VHp) (m : Nat) (T : Sy) (hC : MAt h m T) (hO : SyOk T) : VE g mX8_wipe 0 false (0, 0) [.ref m] h (MPo m (nI (tT T).length) ([], T.2) h) := by
  obtain ⟨F, A, hM, hAll⟩ := id hC
  obtain ⟨hF0, hTx, hF1, hPa, hF2, hKe, hF3, hNo⟩ := id hAll
  obtain ⟨hOt, hOs, hOn, hOp, hOk, hOns, hOpk, hOkk⟩ := id hO
  have hB := hOs.1
  have hD := hOs.2.1
  have hnl := hOns.1
  have htl := hOt.1
  obtain ⟨hw, ⟨et0, et1, et2, ek⟩, es0, ev, ex, ey, eL⟩ := id hM
  obtain ⟨ho, hA⟩ := id hw
  obtain ⟨bn, bW, bH, bP, bL⟩ := id hB
  refine VE.of (by decide) rfl (Nat.le_of_ble_eq_true rfl) ?_
  show V _ _ 0 [some (.ref m), none] [] h
  refine V.aload_n dX8_wipe_0 rfl ?_
  refine V.get fX8_57 dX8_wipe_1 ho rfl ?_
  refine V.re hF0 ?_
  refine V.istore_n (i := 1) dX8_wipe_4 rfl rfl rfl ?_
  dsimp only [List.set]
  refine V.aload_n dX8_wipe_5 rfl ?_
  refine V.iconst (v := nI 0) dX8_wipe_6 (by decide) ?_
  refine V.puti fX8_57 dX8_wipe_7 ho (Nat.le_of_ble_eq_true rfl) ?_
  dsimp only [List.set]
  refine V.iload_n dX8_wipe_10 rfl ?_
  have hw3 := MRaw.f0 hw (nI 0)
  exact V.iret dX8_wipe_11 rfl ⟨rfl, ⟨_, _, ⟨hw3, hM.2.1, hM.2.2⟩, upF_s, (fun i hi => absurd hi (Nat.not_lt_zero _)), ((upF_n (by omega)).trans hF1), hPa, ((upF_n (by omega)).trans hF2), hKe, ((upF_n (by omega)).trans hF3), hNo⟩, VFr.set (by omega) (by omega)⟩

set_option maxHeartbeats 1000000 in
theorem r_forget (g : VG) (h : VHp) (m : Nat) (T : Sy) (hC : MAt h m T) (hO : SyOk T) : VE g mX8_forget 0 false (0, 0) [.ref m] h (MPo m (nI (tN T).length) (tT T, tS T, tP T, tK T, []) h) := by
  obtain ⟨F, A, hM, hAll⟩ := id hC
  obtain ⟨hF0, hTx, hF1, hPa, hF2, hKe, hF3, hNo⟩ := id hAll
  obtain ⟨hOt, hOs, hOn, hOp, hOk, hOns, hOpk, hOkk⟩ := id hO
  have hB := hOs.1
  have hD := hOs.2.1
  have hnl := hOns.1
  have htl := hOt.1
  obtain ⟨hw, ⟨et0, et1, et2, ek⟩, es0, ev, ex, ey, eL⟩ := id hM
  obtain ⟨ho, hA⟩ := id hw
  obtain ⟨bn, bW, bH, bP, bL⟩ := id hB
  refine VE.of (by decide) rfl (Nat.le_of_ble_eq_true rfl) ?_
  show V _ _ 0 [some (.ref m), none] [] h
  refine V.aload_n dX8_forget_0 rfl ?_
  refine V.get fX8_96 dX8_forget_1 ho rfl ?_
  refine V.re hF3 ?_
  refine V.istore_n (i := 1) dX8_forget_4 rfl rfl rfl ?_
  dsimp only [List.set]
  refine V.aload_n dX8_forget_5 rfl ?_
  refine V.iconst (v := nI 0) dX8_forget_6 (by decide) ?_
  refine V.puti fX8_96 dX8_forget_7 ho (Nat.le_of_ble_eq_true rfl) ?_
  dsimp only [List.set]
  refine V.iload_n dX8_forget_10 rfl ?_
  have hw3 := MRaw.f3 hw (nI 0)
  exact V.iret dX8_forget_11 rfl ⟨rfl, ⟨_, _, ⟨hw3, hM.2.1, hM.2.2⟩, ((upF_n (by omega)).trans hF0), hTx, ((upF_n (by omega)).trans hF1), hPa, ((upF_n (by omega)).trans hF2), hKe, upF_s, (fun i hi => absurd hi (Nat.not_lt_zero _))⟩, VFr.set (by omega) (by omega)⟩

set_option maxHeartbeats 1000000 in
theorem r_leaning (g : VG) (h : VHp) (m : Nat) (T : Sy) (hC : MAt h m T) (hO : SyOk T) (a b : Int) (ha : -2147483648 ≤ a ∧ a < 2147483648) (hb : -2147483648 ≤ b ∧ b < 2147483648) : VE g mX8_leaning 2 false (0, 0) [.ref m, .int (iI a), .int (iI b)] h (VP (a_leaning T a b) h) := by
  obtain ⟨F, A, hM, hAll⟩ := id hC
  obtain ⟨hF0, hTx, hF1, hPa, hF2, hKe, hF3, hNo⟩ := id hAll
  obtain ⟨hOt, hOs, hOn, hOp, hOk, hOns, hOpk, hOkk⟩ := id hO
  have hB := hOs.1
  have hD := hOs.2.1
  have hnl := hOns.1
  have htl := hOt.1
  obtain ⟨hw, ⟨et0, et1, et2, ek⟩, es0, ev, ex, ey, eL⟩ := id hM
  obtain ⟨ho, hA⟩ := id hw
  obtain ⟨bn, bW, bH, bP, bL⟩ := id hB
  refine VE.of (by decide) rfl (Nat.le_of_ble_eq_true rfl) ?_
  show V _ _ 0 [some (.ref m), some (.int (iI a)), some (.int (iI b))] [] h
  refine V.aload_n dX8_leaning_0 rfl ?_
  refine V.iload_n dX8_leaning_1 rfl ?_
  refine V.callVp (ci := 8) cX8_116 (m_isOne g h m F A (tS T) hM hB a (by omega)) dX8_leaning_2 (Nat.le_of_ble_eq_true rfl) rfl ho rfl rfl (Nat.le_of_ble_eq_true rfl) ?_
  refine V.if_eqB 41 dX8_leaning_5 (by decide) (fun hc1 => ?_) (fun hc1 => ?_)
  · skip
    refine V.iconst (v := iI (-1)) dX8_leaning_41 (by decide) ?_
    exact V.iret dX8_leaning_42 rfl ⟨by first | (exfalso; omega) | (unfold a_leaning; (repeat first | rw [if_pos (by first | omega | assumption)] | rw [if_neg (by first | omega | assumption)]); try rfl), rfl⟩
  · skip
    refine V.aload_n dX8_leaning_8 rfl ?_
    refine V.iload_n dX8_leaning_9 rfl ?_
    refine V.callVp (ci := 8) cX8_116 (m_isOne g h m F A (tS T) hM hB b (by omega)) dX8_leaning_10 (Nat.le_of_ble_eq_true rfl) rfl ho rfl rfl (Nat.le_of_ble_eq_true rfl) ?_
    refine V.if_eqB 41 dX8_leaning_13 (by decide) (fun hc2 => ?_) (fun hc2 => ?_)
    · skip
      refine V.iconst (v := iI (-1)) dX8_leaning_41 (by decide) ?_
      exact V.iret dX8_leaning_42 rfl ⟨by first | (exfalso; omega) | (unfold a_leaning; (repeat first | rw [if_pos (by first | omega | assumption)] | rw [if_neg (by first | omega | assumption)]); try rfl), rfl⟩
    · skip
      refine V.iload_n dX8_leaning_16 rfl ?_
      refine V.iload_n dX8_leaning_17 rfl ?_
      refine V.icmp_eqZ 41 dX8_leaning_18 (by decide) (by omega) (by omega) (fun hc3 => ?_) (fun hc3 => ?_)
      · skip
        refine V.iconst (v := iI (-1)) dX8_leaning_41 (by decide) ?_
        exact V.iret dX8_leaning_42 rfl ⟨by first | (exfalso; omega) | (unfold a_leaning; (repeat first | rw [if_pos (by first | omega | assumption)] | rw [if_neg (by first | omega | assumption)]); try rfl), rfl⟩
      · skip
        refine V.aload_n dX8_leaning_21 rfl ?_
        refine V.get fX8_22 dX8_leaning_22 ho rfl ?_
        refine V.bipush (v := nI 19) dX8_leaning_25 (by decide) ?_
        refine V.bipush (v := nI 6) dX8_leaning_27 (by decide) ?_
        refine V.iload_n dX8_leaning_29 rfl ?_
        refine V.re (iI_toN (n := a.toNat) (by omega)) ?_
        refine V.imulN dX8_leaning_30 ?_
        refine V.iaddN dX8_leaning_31 ?_
        refine V.iload_n dX8_leaning_32 rfl ?_
        refine V.re (iI_toN (n := b.toNat) (by omega)) ?_
        refine V.iaddN dX8_leaning_33 ?_
        refine V.iald dX8_leaning_34 (hA 5 (by omega) (by omega)).1 rfl (by omega) (eL _ _ (by omega) (by omega)) ?_
        refine V.bipush (v := nI 20) dX8_leaning_35 (by decide) ?_
        refine V.toZ1 ?_
        refine V.iaddZ dX8_leaning_37 ?_
        refine V.goto 42 dX8_leaning_38 (by decide) ?_
        exact V.iret dX8_leaning_42 rfl ⟨by first | (exfalso; omega) | (unfold a_leaning; (repeat first | rw [if_pos (by first | omega | assumption)] | rw [if_neg (by first | omega | assumption)]); try rfl), rfl⟩

set_option maxHeartbeats 1000000 in
theorem r_place (g : VG) (h : VHp) (m : Nat) (T : Sy) (hC : MAt h m T) (hO : SyOk T) (x y : Int) (hx0 : -2147483648 ≤ x ∧ x < 2147483648) (hy0 : -2147483648 ≤ y ∧ y < 2147483648) : VE g mX8_place 2 false (0, 0) [.ref m, .int (iI x), .int (iI y)] h (VP (a_place T x y) h) := by
  obtain ⟨F, A, hM, hAll⟩ := id hC
  obtain ⟨hF0, hTx, hF1, hPa, hF2, hKe, hF3, hNo⟩ := id hAll
  obtain ⟨hOt, hOs, hOn, hOp, hOk, hOns, hOpk, hOkk⟩ := id hO
  have hB := hOs.1
  have hD := hOs.2.1
  have hnl := hOns.1
  have htl := hOt.1
  obtain ⟨hw, ⟨et0, et1, et2, ek⟩, es0, ev, ex, ey, eL⟩ := id hM
  obtain ⟨ho, hA⟩ := id hw
  obtain ⟨bn, bW, bH, bP, bL⟩ := id hB
  refine VE.of (by decide) rfl (Nat.le_of_ble_eq_true rfl) ?_
  show V _ _ 0 [some (.ref m), some (.int (iI x)), some (.int (iI y))] [] h
  refine V.aload_n dX8_place_0 rfl ?_
  refine V.iload_n dX8_place_1 rfl ?_
  refine V.iload_n dX8_place_2 rfl ?_
  refine V.callVp (ci := 8) cX8_122 (m_isPlace g h m F A (tS T) hM hB x y (by omega) (by omega)) dX8_place_3 (Nat.le_of_ble_eq_true rfl) rfl ho rfl rfl (Nat.le_of_ble_eq_true rfl) ?_
  refine V.if_eqB 18 dX8_place_6 (by decide) (fun hc1 => ?_) (fun hc1 => ?_)
  · skip
    refine V.iconst (v := iI (-1)) dX8_place_18 (by decide) ?_
    exact V.iret dX8_place_19 rfl ⟨by first | (exfalso; omega) | (unfold a_place; (repeat first | rw [if_pos (by first | omega | assumption)] | rw [if_neg (by first | omega | assumption)]); try rfl), rfl⟩
  · skip
    refine V.aload_n dX8_place_9 rfl ?_
    refine V.iload_n dX8_place_10 rfl ?_
    refine V.re (iI_toN (n := x.toNat) (by omega)) ?_
    refine V.iload_n dX8_place_11 rfl ?_
    refine V.re (iI_toN (n := y.toNat) (by omega)) ?_
    refine V.callVp (ci := 8) cX8_126 (m_whoAt g h m F A (tS T) hM hB hD x.toNat y.toNat (by omega) (by omega)) dX8_place_12 (Nat.le_of_ble_eq_true rfl) rfl ho rfl rfl (Nat.le_of_ble_eq_true rfl) ?_
    refine V.goto 19 dX8_place_15 (by decide) ?_
    exact V.iret dX8_place_19 rfl ⟨by first | (exfalso; omega) | (unfold a_place; (repeat first | rw [if_pos (by first | omega | assumption)] | rw [if_neg (by first | omega | assumption)]); try rfl), rfl⟩

set_option maxHeartbeats 1000000 in
theorem r_toward (g : VG) (h : VHp) (m : Nat) (T : Sy) (hC : MAt h m T) (hO : SyOk T) (p : Int) (hp : -2147483648 ≤ p ∧ p < 2147483648) : VE g mX8_toward 3 false (0, 0) [.ref m, .int (iI p)] h (VP (a_toward T p) h) := by
  obtain ⟨F, A, hM, hAll⟩ := id hC
  obtain ⟨hF0, hTx, hF1, hPa, hF2, hKe, hF3, hNo⟩ := id hAll
  obtain ⟨hOt, hOs, hOn, hOp, hOk, hOns, hOpk, hOkk⟩ := id hO
  have hB := hOs.1
  have hD := hOs.2.1
  have hnl := hOns.1
  have htl := hOt.1
  obtain ⟨hw, ⟨et0, et1, et2, ek⟩, es0, ev, ex, ey, eL⟩ := id hM
  obtain ⟨ho, hA⟩ := id hw
  obtain ⟨bn, bW, bH, bP, bL⟩ := id hB
  refine VE.of (by decide) rfl (Nat.le_of_ble_eq_true rfl) ?_
  show V _ _ 0 [some (.ref m), some (.int (iI p))] [] h
  refine V.aload_n dX8_toward_0 rfl ?_
  refine V.iload_n dX8_toward_1 rfl ?_
  refine V.callVp (ci := 8) cX8_116 (m_isOne g h m F A (tS T) hM hB p (by omega)) dX8_toward_2 (Nat.le_of_ble_eq_true rfl) rfl ho rfl rfl (Nat.le_of_ble_eq_true rfl) ?_
  refine V.if_eqB 16 dX8_toward_5 (by decide) (fun hc1 => ?_) (fun hc1 => ?_)
  · skip
    refine V.iconst (v := iI (-1)) dX8_toward_16 (by decide) ?_
    exact V.iret dX8_toward_17 rfl ⟨by first | (exfalso; omega) | (unfold a_toward; (repeat first | rw [if_pos (by first | omega | assumption)] | rw [if_neg (by first | omega | assumption)]); try rfl), rfl⟩
  · skip
    refine V.aload_n dX8_toward_8 rfl ?_
    refine V.iload_n dX8_toward_9 rfl ?_
    refine V.re (iI_toN (n := p.toNat) (by omega)) ?_
    refine V.callVp (ci := 8) cX8_151 (m_towardOf g h m F A (tS T) hM hB p.toNat (by omega)) dX8_toward_10 (Nat.le_of_ble_eq_true rfl) rfl ho rfl rfl (Nat.le_of_ble_eq_true rfl) ?_
    refine V.goto 17 dX8_toward_13 (by decide) ?_
    exact V.iret dX8_toward_17 rfl ⟨by first | (exfalso; omega) | (unfold a_toward; (repeat first | rw [if_pos (by first | omega | assumption)] | rw [if_neg (by first | omega | assumption)]); try rfl), rfl⟩

set_option maxHeartbeats 1000000 in
theorem r_see (g : VG) (h : VHp) (m : Nat) (T : Sy) (hC : MAt h m T) (hO : SyOk T) (p n w : Int) (hp : -2147483648 ≤ p ∧ p < 2147483648) (hn0 : -2147483648 ≤ n ∧ n < 2147483648) (hw9 : -2147483648 ≤ w ∧ w < 2147483648) : VE g mX8_see 2 false (0, 0) [.ref m, .int (iI p), .int (iI n), .int (iI w)] h (MPo m (a_see T p n w) (n_see T p n w) h) := by
  obtain ⟨F, A, hM, hAll⟩ := id hC
  obtain ⟨hF0, hTx, hF1, hPa, hF2, hKe, hF3, hNo⟩ := id hAll
  obtain ⟨hOt, hOs, hOn, hOp, hOk, hOns, hOpk, hOkk⟩ := id hO
  have hB := hOs.1
  have hD := hOs.2.1
  have hnl := hOns.1
  have htl := hOt.1
  obtain ⟨hw, ⟨et0, et1, et2, ek⟩, es0, ev, ex, ey, eL⟩ := id hM
  obtain ⟨ho, hA⟩ := id hw
  obtain ⟨bn, bW, bH, bP, bL⟩ := id hB
  refine VE.of (by decide) rfl (Nat.le_of_ble_eq_true rfl) ?_
  show V _ _ 0 [some (.ref m), some (.int (iI p)), some (.int (iI n)), some (.int (iI w))] [] h
  refine V.aload_n dX8_see_0 rfl ?_
  refine V.iload_n dX8_see_1 rfl ?_
  refine V.callVp (ci := 8) cX8_116 (m_isOne g h m F A (tS T) hM hB p (by omega)) dX8_see_2 (Nat.le_of_ble_eq_true rfl) rfl ho rfl rfl (Nat.le_of_ble_eq_true rfl) ?_
  refine V.if_eqB 28 dX8_see_5 (by decide) (fun hc1 => ?_) (fun hc1 => ?_)
  · skip
    refine V.iconst (v := iI (-1)) dX8_see_28 (by decide) ?_
    exact V.iret dX8_see_29 rfl ⟨by first | (exfalso; omega) | (unfold a_see; (repeat first | rw [if_pos (by first | omega | assumption)] | rw [if_neg (by first | omega | assumption)]); try rfl), by first | (exfalso; omega) | (unfold n_see; (repeat first | rw [if_pos (by first | omega | assumption)] | rw [if_neg (by first | omega | assumption)]); exact hC), VFr.rf⟩
  · skip
    refine V.iload_n dX8_see_8 rfl ?_
    refine V.iconst (v := nI 0) dX8_see_9 (by decide) ?_
    refine V.bipush (v := nI 20) dX8_see_10 (by decide) ?_
    refine V.toZ1 ?_
    refine V.toZ2 ?_
    refine V.callSp cX8_53 (m_in g h _ _ _ (by omega) (by omega) (by omega)) dX8_see_12 (Nat.le_of_ble_eq_true rfl) rfl rfl (Nat.le_of_ble_eq_true rfl) ?_
    refine V.if_eqB 28 dX8_see_15 (by decide) (fun hc2 => ?_) (fun hc2 => ?_)
    · skip
      refine V.iconst (v := iI (-1)) dX8_see_28 (by decide) ?_
      exact V.iret dX8_see_29 rfl ⟨by first | (exfalso; omega) | (unfold a_see; (repeat first | rw [if_pos (by first | omega | assumption)] | rw [if_neg (by first | omega | assumption)]); try rfl), by first | (exfalso; omega) | (unfold n_see; (repeat first | rw [if_pos (by first | omega | assumption)] | rw [if_neg (by first | omega | assumption)]); exact hC), VFr.rf⟩
    · skip
      refine V.iload_n dX8_see_18 rfl ?_
      refine V.iconst (v := nI 0) dX8_see_19 (by decide) ?_
      refine V.bipush (v := nI 7) dX8_see_20 (by decide) ?_
      refine V.toZ1 ?_
      refine V.toZ2 ?_
      refine V.callSp cX8_53 (m_in g h _ _ _ (by omega) (by omega) (by omega)) dX8_see_22 (Nat.le_of_ble_eq_true rfl) rfl rfl (Nat.le_of_ble_eq_true rfl) ?_
      refine V.if_neB 30 dX8_see_25 (by decide) (fun hc3 => ?_) (fun hc3 => ?_)
      · skip
        refine V.aload_n dX8_see_30 rfl ?_
        refine V.get fX8_96 dX8_see_31 ho rfl ?_
        refine V.re hF3 ?_
        refine V.bipush (v := nI 6) dX8_see_34 (by decide) ?_
        refine V.icmp_neN 42 dX8_see_36 (by decide) (by omega) (by omega) (fun hc4 => ?_) (fun hc4 => ?_)
        · skip
          refine V.aload_n dX8_see_42 rfl ?_
          refine V.get fX8_31 dX8_see_43 ho rfl ?_
          refine V.iconst (v := nI 3) dX8_see_46 (by decide) ?_
          refine V.aload_n dX8_see_47 rfl ?_
          refine V.get fX8_96 dX8_see_48 ho rfl ?_
          refine V.re hF3 ?_
          refine V.imulN dX8_see_51 ?_
          refine V.iload_n dX8_see_52 rfl ?_
          refine V.re (iI_toN (n := p.toNat) (by omega)) ?_
          refine V.iast dX8_see_53 (hA 8 (by omega) (by omega)).1 rfl (by omega) (by rw [(hw.2 8 (by omega) (by omega)).2]; show _ < 18; omega) ?_
          have hw2 := MRaw.set hw 8 (by omega) (by omega) ((A 8).set (3 * (tN T).length) (nI p.toNat)) (by rw [List.length_set]; exact (hw.2 8 (by omega) (by omega)).2)
          have hf1 := VFr.set (h := h) (lo := m) (hi := m + 12) (a := m + 8) (c := Sum.inl ((A 8).set (3 * (tN T).length) (nI p.toNat))) (by omega) (by omega)
          generalize List.set h (m + 8) (Sum.inl ((A 8).set (3 * (tN T).length) (nI p.toNat))) = h1 at hw2 hf1 ⊢
          obtain ⟨ho, hA⟩ := id hw2
          have h8 := (hA 8 (by omega) (by omega)).1
          rw [upA_s] at h8
          refine V.aload_n dX8_see_54 rfl ?_
          refine V.get fX8_31 dX8_see_55 ho rfl ?_
          refine V.iconst (v := nI 3) dX8_see_58 (by decide) ?_
          refine V.aload_n dX8_see_59 rfl ?_
          refine V.get fX8_96 dX8_see_60 ho rfl ?_
          refine V.re hF3 ?_
          refine V.imulN dX8_see_63 ?_
          refine V.iconst (v := nI 1) dX8_see_64 (by decide) ?_
          refine V.iaddN dX8_see_65 ?_
          refine V.iload_n dX8_see_66 rfl ?_
          refine V.re (iI_toN (n := n.toNat) (by omega)) ?_
          refine V.iast dX8_see_67 h8 rfl (by omega) (by rw [List.length_set, (hw.2 8 (by omega) (by omega)).2]; show _ < 18; omega) ?_
          have hw3 := MRaw.set hw2 8 (by omega) (by omega) (((A 8).set (3 * (tN T).length) (nI p.toNat)).set (3 * (tN T).length + 1) (nI n.toNat)) (by rw [List.length_set]; rw [List.length_set]; exact (hw.2 8 (by omega) (by omega)).2)
          have hf2 := VFr.set (h := h1) (lo := m) (hi := m + 12) (a := m + 8) (c := Sum.inl (((A 8).set (3 * (tN T).length) (nI p.toNat)).set (3 * (tN T).length + 1) (nI n.toNat))) (by omega) (by omega)
          generalize List.set h1 (m + 8) (Sum.inl (((A 8).set (3 * (tN T).length) (nI p.toNat)).set (3 * (tN T).length + 1) (nI n.toNat))) = h2 at hw3 hf2 ⊢
          obtain ⟨ho, hA⟩ := id hw3
          rw [upA_upA] at hw3
          obtain ⟨ho, hA⟩ := id hw3
          have h8 := (hA 8 (by omega) (by omega)).1
          rw [upA_s] at h8
          refine V.aload_n dX8_see_68 rfl ?_
          refine V.get fX8_31 dX8_see_69 ho rfl ?_
          refine V.iconst (v := nI 3) dX8_see_72 (by decide) ?_
          refine V.aload_n dX8_see_73 rfl ?_
          refine V.get fX8_96 dX8_see_74 ho rfl ?_
          refine V.re hF3 ?_
          refine V.imulN dX8_see_77 ?_
          refine V.iconst (v := nI 2) dX8_see_78 (by decide) ?_
          refine V.iaddN dX8_see_79 ?_
          refine V.iload_n dX8_see_80 rfl ?_
          refine V.re (iI_toN (n := w.toNat) (by omega)) ?_
          refine V.iast dX8_see_81 h8 rfl (by omega) (by rw [List.length_set, List.length_set, (hw.2 8 (by omega) (by omega)).2]; show _ < 18; omega) ?_
          have hw4 := MRaw.set hw3 8 (by omega) (by omega) ((((A 8).set (3 * (tN T).length) (nI p.toNat)).set (3 * (tN T).length + 1) (nI n.toNat)).set (3 * (tN T).length + 2) (nI w.toNat)) (by rw [List.length_set]; rw [List.length_set, List.length_set]; exact (hw.2 8 (by omega) (by omega)).2)
          have hf3 := VFr.set (h := h2) (lo := m) (hi := m + 12) (a := m + 8) (c := Sum.inl ((((A 8).set (3 * (tN T).length) (nI p.toNat)).set (3 * (tN T).length + 1) (nI n.toNat)).set (3 * (tN T).length + 2) (nI w.toNat))) (by omega) (by omega)
          generalize List.set h2 (m + 8) (Sum.inl ((((A 8).set (3 * (tN T).length) (nI p.toNat)).set (3 * (tN T).length + 1) (nI n.toNat)).set (3 * (tN T).length + 2) (nI w.toNat))) = h3 at hw4 hf3 ⊢
          obtain ⟨ho, hA⟩ := id hw4
          rw [upA_upA] at hw4
          obtain ⟨ho, hA⟩ := id hw4
          refine V.aload_n dX8_see_82 rfl ?_
          refine V.dup dX8_see_83 rfl ?_
          refine V.get fX8_96 dX8_see_84 ho rfl ?_
          refine V.re hF3 ?_
          refine V.iconst (v := nI 1) dX8_see_87 (by decide) ?_
          refine V.iaddN dX8_see_88 ?_
          refine V.puti fX8_96 dX8_see_89 ho (Nat.le_of_ble_eq_true rfl) ?_
          dsimp only [List.set]
          have hw5 := MRaw.f3 hw4 (nI ((tN T).length + 1))
          have ho5 := vset_eq (c := Sum.inr (Sum.inr (8, [Value.ref (m + 1), Value.int (F 0), Value.ref (m + 2), Value.ref (m + 3), Value.ref (m + 4), Value.ref (m + 5), Value.ref (m + 6), Value.int (F 1), Value.ref (m + 7), Value.int (F 2), Value.ref (m + 8), Value.int (nI ((tN T).length + 1)), Value.int (F 4), Value.ref (m + 9), Value.ref (m + 10), Value.ref (m + 11)]))) ho
          have hf5 := ((hf1.tr hf2).tr hf3).tr (VFr.set (h := h3) (lo := m) (hi := m + 12) (a := m) (c := Sum.inr (Sum.inr (8, [Value.ref (m + 1), Value.int (F 0), Value.ref (m + 2), Value.ref (m + 3), Value.ref (m + 4), Value.ref (m + 5), Value.ref (m + 6), Value.int (F 1), Value.ref (m + 7), Value.int (F 2), Value.ref (m + 8), Value.int (nI ((tN T).length + 1)), Value.int (F 4), Value.ref (m + 9), Value.ref (m + 10), Value.ref (m + 11)]))) (by omega) (by omega))
          refine V.aload_n dX8_see_92 rfl ?_
          refine V.get fX8_96 dX8_see_93 ho5 rfl ?_
          have hC2 : MAt _ m (tT T, tS T, tP T, tK T, tN T ++ [(p.toNat, n.toNat, w.toNat)]) := ⟨_, _, ⟨hw5, (by rw [upA_n (by omega)]; exact hM.2.1), (by rw [upA_n (by omega)]; exact hM.2.2)⟩, ((upF_n (by omega)).trans hF0), (by rw [upA_n (by omega)]; exact hTx), ((upF_n (by omega)).trans hF1), (by rw [upA_n (by omega)]; exact hPa), ((upF_n (by omega)).trans hF2), (by rw [upA_n (by omega)]; exact hKe), (by rw [List.length_append]; exact upF_s), (by rw [upA_s]; exact note3 (c := (p.toNat, n.toNat, w.toNat)) hNo (by rw [(hM.1.2 8 (by omega) (by omega)).2]; show _ < 18; omega))⟩
          exact V.iret dX8_see_96 rfl ⟨by first | (exfalso; omega) | (unfold a_see; (repeat first | rw [if_pos (by first | omega | assumption)] | rw [if_neg (by first | omega | assumption)]); try rfl), by first | (exfalso; omega) | (unfold n_see; (repeat first | rw [if_pos (by first | omega | assumption)] | rw [if_neg (by first | omega | assumption)]); exact hC2), hf5⟩
        · skip
          refine V.bipush (v := iI (-3)) dX8_see_39 (by decide) ?_
          exact V.iret dX8_see_41 rfl ⟨by first | (exfalso; omega) | (unfold a_see; (repeat first | rw [if_pos (by first | omega | assumption)] | rw [if_neg (by first | omega | assumption)]); try rfl), by first | (exfalso; omega) | (unfold n_see; (repeat first | rw [if_pos (by first | omega | assumption)] | rw [if_neg (by first | omega | assumption)]); exact hC), VFr.rf⟩
      · skip
        refine V.iconst (v := iI (-1)) dX8_see_28 (by decide) ?_
        exact V.iret dX8_see_29 rfl ⟨by first | (exfalso; omega) | (unfold a_see; (repeat first | rw [if_pos (by first | omega | assumption)] | rw [if_neg (by first | omega | assumption)]); try rfl), by first | (exfalso; omega) | (unfold n_see; (repeat first | rw [if_pos (by first | omega | assumption)] | rw [if_neg (by first | omega | assumption)]); exact hC), VFr.rf⟩
