set_option maxHeartbeats 1000000 in
theorem r_keep (g : VG) (h : VHp) (m : Nat) (T : Sy) (hC : MAt h m T) (hO : SyOk T) : VE g mX8_keep 0 false (0, 0) [.ref m] h (MPo m (a_keep T) (n_keep T) h) := by
  obtain ⟨F, A, hM, hAll⟩ := id hC
  obtain ⟨hF0, hTx, hF1, hPa, hF2, hKe, hF3, hNo⟩ := id hAll
  obtain ⟨hOt, hOs, hOn, hOp, hOk, hOns, hOpk, hOkk⟩ := id hO
  have hB := hOs.1
  have hD := hOs.2.1
  have hnl := hOns.1
  have htl := hOt.1
  obtain ⟨hw, ⟨et0, et1, et2, ek⟩, es0, ev, ex, ey, eL⟩ := id hM
  obtain ⟨ho, hA⟩ := id hw
  obtain ⟨bn, bW, bH, bP, bL⟩ := id hB
  have hl5 := hM.len
  have hl7 : (A 7).length = 110 := (hM.1.2 7 (by omega) (by omega)).2
  refine VE.of (by decide) rfl (Nat.le_of_ble_eq_true rfl) ?_
  have L : (tK T).length < 2 → ∀ i, i ≤ 55 → ∀ (h1 : VHp) (z : List Int32), MRaw h1 m F (upA A 7 z) → z.length = 110 → (∀ k, k < i → z[55 * (tK T).length + k]? = (A 5)[k]?) → (∀ q, q < 55 * (tK T).length ∨ 55 * (tK T).length + i ≤ q → z[q]? = (A 7)[q]?) → VFr m (m + 12) h h1 → V (g, mX8_keep, 0, false, h.length, MPo m (a_keep T) (n_keep T) h) (0, 0) 13 [some (.ref m), some (.int (nI i))] [] h1 := by
    intro hk2
    refine vloop 55 (fun i ih hi => ?_)
    intro h1 z hw1 hz hca hcb hf1
    have ho1 := hw1.1
    have h7 := (hw1.2 7 (by omega) (by omega)).1
    rw [upA_s] at h7
    have h5 := (hw1.2 5 (by omega) (by omega)).1
    rw [upA_n (by omega)] at h5
    refine V.iload_n dX8_keep_13 rfl ?_
    refine V.bipush (v := nI 55) dX8_keep_14 (by decide) ?_
    refine V.icmp_geN 45 dX8_keep_16 (by decide) (by omega) (by omega) (fun hc1 => ?_) (fun hc1 => ?_)
    · skip
      refine V.aload_n dX8_keep_45 rfl ?_
      refine V.dup dX8_keep_46 rfl ?_
      refine V.get fX8_93 dX8_keep_47 ho1 rfl ?_
      refine V.re hF2 ?_
      refine V.iconst (v := nI 1) dX8_keep_50 (by decide) ?_
      refine V.iaddN dX8_keep_51 ?_
      refine V.puti fX8_93 dX8_keep_52 ho1 (Nat.le_of_ble_eq_true rfl) ?_
      dsimp only [List.set]
      have hw3 := MRaw.f2 hw1 (nI ((tK T).length + 1))
      have ho3 := vset_eq (c := Sum.inr (Sum.inr (8, [Value.ref (m + 1), Value.int (F 0), Value.ref (m + 2), Value.ref (m + 3), Value.ref (m + 4), Value.ref (m + 5), Value.ref (m + 6), Value.int (F 1), Value.ref (m + 7), Value.int (nI ((tK T).length + 1)), Value.ref (m + 8), Value.int (F 3), Value.int (F 4), Value.ref (m + 9), Value.ref (m + 10), Value.ref (m + 11)]))) ho1
      have hf3 := hf1.tr (VFr.set (h := h1) (lo := m) (hi := m + 12) (a := m) (c := Sum.inr (Sum.inr (8, [Value.ref (m + 1), Value.int (F 0), Value.ref (m + 2), Value.ref (m + 3), Value.ref (m + 4), Value.ref (m + 5), Value.ref (m + 6), Value.int (F 1), Value.ref (m + 7), Value.int (nI ((tK T).length + 1)), Value.ref (m + 8), Value.int (F 3), Value.int (F 4), Value.ref (m + 9), Value.ref (m + 10), Value.ref (m + 11)]))) (by omega) (by omega))
      refine V.aload_n dX8_keep_55 rfl ?_
      refine V.get fX8_93 dX8_keep_56 ho3 rfl ?_
      obtain rfl : i = 55 := (by omega)
      have hC2 : MAt _ m (tT T, tS T, tP T, tK T ++ [tS T], tN T) := ⟨_, _, ⟨hw3, (by rw [upA_n (by omega)]; exact hM.2.1), (by rw [upA_n (by omega)]; exact hM.2.2)⟩, ((upF_n (by omega)).trans hF0), (by rw [upA_n (by omega)]; exact hTx), ((upF_n (by omega)).trans hF1), (by rw [upA_n (by omega)]; exact hPa), (by rw [upF_s, List.length_append]; rfl), (by rw [upA_s]; exact kept_app hl5 hM.2.2 hKe hca hcb), ((upF_n (by omega)).trans hF3), (by rw [upA_n (by omega)]; exact hNo)⟩
      exact V.iret dX8_keep_59 rfl ⟨by unfold a_keep; rw [if_pos hk2], by unfold n_keep; rw [if_pos hk2]; exact hC2, hf3⟩
    · skip
      refine V.aload_n dX8_keep_19 rfl ?_
      refine V.get fX8_28 dX8_keep_20 ho1 rfl ?_
      refine V.bipush (v := nI 55) dX8_keep_23 (by decide) ?_
      refine V.aload_n dX8_keep_25 rfl ?_
      refine V.get fX8_93 dX8_keep_26 ho1 rfl ?_
      refine V.re hF2 ?_
      refine V.imulN dX8_keep_29 ?_
      refine V.iload_n dX8_keep_30 rfl ?_
      refine V.iaddN dX8_keep_31 ?_
      refine V.aload_n dX8_keep_32 rfl ?_
      refine V.get fX8_22 dX8_keep_33 ho1 rfl ?_
      refine V.iload_n dX8_keep_36 rfl ?_
      refine V.iald dX8_keep_37 h5 rfl (by omega) (getD_some (by omega)) ?_
      refine V.iast dX8_keep_38 h7 rfl (by omega) (by omega) ?_
      refine V.iincN (n := 1) dX8_keep_39 rfl rfl rfl ?_
      dsimp only [List.set]
      refine V.goto 13 dX8_keep_42 (by decide) ?_
      obtain ⟨q1, q2⟩ := bk_step hca hcb (by omega) (by omega)
      exact ih (i + 1) (by omega) (by omega) _ _ (by have q := MRaw.set hw1 7 (by omega) (by omega) (z.set (55 * (tK T).length + i) ((A 5).getD i 0)) (by rw [List.length_set, hz]; rfl); rw [upA_upA] at q; exact q) (by rw [List.length_set]; exact hz) q1 q2 (hf1.tr (VFr.set (by omega) (by omega)))
  show V _ _ 0 [some (.ref m), none] [] h
  refine V.aload_n dX8_keep_0 rfl ?_
  refine V.get fX8_93 dX8_keep_1 ho rfl ?_
  refine V.re hF2 ?_
  refine V.iconst (v := nI 2) dX8_keep_4 (by decide) ?_
  refine V.icmp_neN 11 dX8_keep_5 (by decide) (by omega) (by omega) (fun hc1 => ?_) (fun hc1 => ?_)
  · skip
    refine V.iconst (v := nI 0) dX8_keep_11 (by decide) ?_
    refine V.istore_n (i := 1) dX8_keep_12 rfl rfl rfl ?_
    dsimp only [List.set]
    exact L (by omega) 0 (by omega) h (A 7) (by rw [upA_id]; exact hM.1) hl7 (fun k hk => absurd hk (Nat.not_lt_zero _)) (fun q _ => rfl) VFr.rf
  · skip
    refine V.bipush (v := iI (-3)) dX8_keep_8 (by decide) ?_
    exact V.iret dX8_keep_10 rfl ⟨by unfold a_keep; rw [if_neg (by omega)], by unfold n_keep; rw [if_neg (by omega)]; exact hC, VFr.rf⟩

set_option maxHeartbeats 1000000 in
theorem r_back (g : VG) (h : VHp) (m : Nat) (T : Sy) (hC : MAt h m T) (hO : SyOk T) : VE g mX8_back 0 false (0, 0) [.ref m] h (MPo m (a_back T) (n_back T) h) := by
  obtain ⟨F, A, hM, hAll⟩ := id hC
  obtain ⟨hF0, hTx, hF1, hPa, hF2, hKe, hF3, hNo⟩ := id hAll
  obtain ⟨hOt, hOs, hOn, hOp, hOk, hOns, hOpk, hOkk⟩ := id hO
  have hB := hOs.1
  have hD := hOs.2.1
  have hnl := hOns.1
  have htl := hOt.1
  obtain ⟨hw, ⟨et0, et1, et2, ek⟩, es0, ev, ex, ey, eL⟩ := id hM
  obtain ⟨ho, hA⟩ := id hw
  obtain ⟨bn, bW, bH, bP, bL⟩ := id hB
  have hl7 : (A 7).length = 110 := (hM.1.2 7 (by omega) (by omega)).2
  refine VE.of (by decide) rfl (Nat.le_of_ble_eq_true rfl) ?_
  have L : 1 ≤ (tK T).length → ∀ i, i ≤ 55 → ∀ (h1 : VHp) (z : List Int32), MRaw h1 m (upF F 2 (nI ((tK T).length - 1))) (upA A 5 z) → z.length = 55 → (∀ k, k < i → z[k]? = (A 7)[55 * ((tK T).length - 1) + k]?) → VFr m (m + 12) h h1 → V (g, mX8_back, 0, false, h.length, MPo m (a_back T) (n_back T) h) (0, 0) 22 [some (.ref m), some (.int (nI i))] [] h1 := by
    intro hp1
    refine vloop 55 (fun i ih hi => ?_)
    intro h1 z hw1 hz hca hf1
    have ho1 := hw1.1
    have hF29 : (upF F 2 (nI ((tK T).length - 1))) 2 = nI ((tK T).length - 1) := upF_s
    have h5 := (hw1.2 5 (by omega) (by omega)).1
    rw [upA_s] at h5
    have h7 := (hw1.2 7 (by omega) (by omega)).1
    rw [upA_n (by omega)] at h7
    refine V.iload_n dX8_back_22 rfl ?_
    refine V.bipush (v := nI 55) dX8_back_23 (by decide) ?_
    refine V.icmp_geN 54 dX8_back_25 (by decide) (by omega) (by omega) (fun hc1 => ?_) (fun hc1 => ?_)
    · skip
      refine V.aload_n dX8_back_54 rfl ?_
      refine V.iconst (v := nI 0) dX8_back_55 (by decide) ?_
      refine V.puti fX8_90 dX8_back_56 ho1 (Nat.le_of_ble_eq_true rfl) ?_
      dsimp only [List.set]
      have hw3 := MRaw.f1 hw1 (nI 0)
      have ho3 := vset_eq (c := Sum.inr (Sum.inr (8, [Value.ref (m + 1), Value.int ((upF F 2 (nI ((tK T).length - 1))) 0), Value.ref (m + 2), Value.ref (m + 3), Value.ref (m + 4), Value.ref (m + 5), Value.ref (m + 6), Value.int (nI 0), Value.ref (m + 7), Value.int ((upF F 2 (nI ((tK T).length - 1))) 2), Value.ref (m + 8), Value.int ((upF F 2 (nI ((tK T).length - 1))) 3), Value.int ((upF F 2 (nI ((tK T).length - 1))) 4), Value.ref (m + 9), Value.ref (m + 10), Value.ref (m + 11)]))) ho1
      have hf3 := hf1.tr (VFr.set (h := h1) (lo := m) (hi := m + 12) (a := m) (c := Sum.inr (Sum.inr (8, [Value.ref (m + 1), Value.int ((upF F 2 (nI ((tK T).length - 1))) 0), Value.ref (m + 2), Value.ref (m + 3), Value.ref (m + 4), Value.ref (m + 5), Value.ref (m + 6), Value.int (nI 0), Value.ref (m + 7), Value.int ((upF F 2 (nI ((tK T).length - 1))) 2), Value.ref (m + 8), Value.int ((upF F 2 (nI ((tK T).length - 1))) 3), Value.int ((upF F 2 (nI ((tK T).length - 1))) 4), Value.ref (m + 9), Value.ref (m + 10), Value.ref (m + 11)]))) (by omega) (by omega))
      generalize List.set h1 m (Sum.inr (Sum.inr (8, [Value.ref (m + 1), Value.int ((upF F 2 (nI ((tK T).length - 1))) 0), Value.ref (m + 2), Value.ref (m + 3), Value.ref (m + 4), Value.ref (m + 5), Value.ref (m + 6), Value.int (nI 0), Value.ref (m + 7), Value.int ((upF F 2 (nI ((tK T).length - 1))) 2), Value.ref (m + 8), Value.int ((upF F 2 (nI ((tK T).length - 1))) 3), Value.int ((upF F 2 (nI ((tK T).length - 1))) 4), Value.ref (m + 9), Value.ref (m + 10), Value.ref (m + 11)]))) = h3 at hw3 ho3 hf3 ⊢
      refine V.aload_n dX8_back_59 rfl ?_
      refine V.get fX8_93 dX8_back_60 ho3 rfl ?_
      refine V.re hF29 ?_
      obtain rfl : i = 55 := (by omega)
      obtain ⟨blk, hb1, hb2, hb3⟩ := hKe ((tK T).length - 1) (by omega)
      have ez : z = blk := cp_end (fun k hk => by rw [hca k hk]; exact hb3 k hk) hz hb1
      subst ez
      have hK := hOkk ((tK T).getD ((tK T).length - 1) rClear) (getD_mem (by omega))
      have hC2 : MAt h3 m (tT T, (tK T).getD ((tK T).length - 1) rClear, [], (tK T).dropLast, tN T) := by
        refine ⟨_, _, ⟨hw3, ?_, by rw [upA_s]; exact hb2⟩, (upF_n (by omega)).trans ((upF_n (by omega)).trans hF0), by rw [upA_n (by omega)]; exact hTx, upF_s, fun j hj => absurd hj (Nat.not_lt_zero _), (upF_n (by omega)).trans (upF_s.trans (congrArg nI List.length_dropLast.symm)), ?_, (upF_n (by omega)).trans ((upF_n (by omega)).trans hF3), by rw [upA_n (by omega)]; exact hNo⟩
        · rw [upA_n (by omega)]; exact RowT.kin hM.2.1 hK
        · rw [upA_n (by omega)]
          intro j hj
          rw [getD_dropL hj]
          exact hKe j (by rw [List.length_dropLast] at hj; omega)
      exact V.iret dX8_back_63 rfl ⟨by unfold a_back; rw [if_pos hp1], by unfold n_back; rw [if_pos hp1]; exact hC2, hf3⟩
    · skip
      refine V.aload_n dX8_back_28 rfl ?_
      refine V.get fX8_22 dX8_back_29 ho1 rfl ?_
      refine V.iload_n dX8_back_32 rfl ?_
      refine V.aload_n dX8_back_33 rfl ?_
      refine V.get fX8_28 dX8_back_34 ho1 rfl ?_
      refine V.bipush (v := nI 55) dX8_back_37 (by decide) ?_
      refine V.aload_n dX8_back_39 rfl ?_
      refine V.get fX8_93 dX8_back_40 ho1 rfl ?_
      refine V.re hF29 ?_
      refine V.imulN dX8_back_43 ?_
      refine V.iload_n dX8_back_44 rfl ?_
      refine V.iaddN dX8_back_45 ?_
      refine V.iald dX8_back_46 h7 rfl (by omega) (getD_some (by omega)) ?_
      refine V.iast dX8_back_47 h5 rfl (by omega) (by omega) ?_
      refine V.iincN (n := 1) dX8_back_48 rfl rfl rfl ?_
      dsimp only [List.set]
      refine V.goto 22 dX8_back_51 (by decide) ?_
      refine ih (i + 1) (by omega) (by omega) _ (z.set i ((A 7).getD (55 * ((tK T).length - 1) + i) 0)) (by have q := MRaw.set hw1 5 (by omega) (by omega) (z.set i ((A 7).getD (55 * ((tK T).length - 1) + i) 0)) (by rw [List.length_set, hz]; rfl); rw [upA_upA] at q; exact q) (by rw [List.length_set]; exact hz) (fun k hk => ?_) (hf1.tr (VFr.set (by omega) (by omega)))
      by_cases e : k = i
      · subst e; rw [List.getElem?_set_self (by omega)]; exact (getD_some (by omega)).symm
      · rw [List.getElem?_set_ne (Ne.symm e)]; exact hca k (by omega)
  show V _ _ 0 [some (.ref m), none] [] h
  refine V.aload_n dX8_back_0 rfl ?_
  refine V.get fX8_93 dX8_back_1 ho rfl ?_
  refine V.re hF2 ?_
  refine V.if_neN 10 dX8_back_4 (by decide) (by omega) (fun hc1 => ?_) (fun hc1 => ?_)
  · skip
    refine V.aload_n dX8_back_10 rfl ?_
    refine V.dup dX8_back_11 rfl ?_
    refine V.get fX8_93 dX8_back_12 ho rfl ?_
    refine V.re hF2 ?_
    refine V.iconst (v := nI 1) dX8_back_15 (by decide) ?_
    refine V.isubN dX8_back_16 (by omega) ?_
    refine V.puti fX8_93 dX8_back_17 ho (Nat.le_of_ble_eq_true rfl) ?_
    dsimp only [List.set]
    refine V.iconst (v := nI 0) dX8_back_20 (by decide) ?_
    refine V.istore_n (i := 1) dX8_back_21 rfl rfl rfl ?_
    dsimp only [List.set]
    exact L (by omega) 0 (by omega) _ (A 5) (by rw [upA_id]; exact MRaw.f2 hM.1 (nI ((tK T).length - 1))) hM.len (fun k hk => absurd hk (Nat.not_lt_zero _)) (VFr.set (by omega) (by omega))
  · skip
    refine V.bipush (v := iI (-2)) dX8_back_7 (by decide) ?_
    exact V.iret dX8_back_9 rfl ⟨by unfold a_back; rw [if_neg (by omega)], by unfold n_back; rw [if_neg (by omega)]; exact hC, VFr.rf⟩
