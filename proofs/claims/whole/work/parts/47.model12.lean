set_option maxHeartbeats 1000000 in
theorem m_keeps (g : VG) (h : VHp) (m : Nat) (T : Sy) (hC : MAt h m T) (hO : SyOk T) : VE g mX8_keeps 0 false (0, 0) [.ref m] h (fun v h' => v = none ∧ MAt h' m (tT T, tS T, rem T, T.2.2.2) ∧ VFr m (m + 12) h h') := by
  obtain ⟨F, A, hM, hAll⟩ := id hC
  obtain ⟨hF0, hTx, hF1, hPa, hF2, hKe, hF3, hNo⟩ := id hAll
  obtain ⟨hOt, hOs, hOn, hOp, hOk, hOns, hOpk, hOkk⟩ := id hO
  have hB := hOs.1
  have hD := hOs.2.1
  have hnl := hOns.1
  have htl := hOt.1
  obtain ⟨hw, ⟨et0, et1, et2, ek⟩, es0, ev, ex, ey, eL⟩ := id hM
  obtain ⟨ho, hA⟩ := id hw
  obtain ⟨bn, bW, bH, bP, bL⟩ := id hB
  have hl5 := hM.len
  have hl6 : (A 6).length = 440 := (hM.1.2 6 (by omega) (by omega)).2
  refine VE.of (by decide) rfl (Nat.le_of_ble_eq_true rfl) ?_
  have L2 : ∀ i, i ≤ 55 → ∀ (h1 : VHp) (F1 : MF) (z z0 : List Int32) (kn : Nat), kn ≤ 7 → (rem T).length = kn + 1 → F1 1 = nI kn → (∀ j, j ≠ 1 → F1 j = F j) → MRaw h1 m F1 (upA A 6 z) → z.length = 440 → (∀ j, j < kn → RowB ((tP T).getD j rClear) z0 (55 * (kn - 1 - j))) → (∀ k, k < i → z[55 * kn + k]? = (A 5)[k]?) → (∀ q, q < 55 * kn ∨ 55 * kn + i ≤ q → z[q]? = z0[q]?) → VFr m (m + 12) h h1 → V (g, mX8_keeps, 0, false, h.length, fun v h' => v = none ∧ MAt h' m (tT T, tS T, rem T, T.2.2.2) ∧ VFr m (m + 12) h h') (0, 0) 51 [some (.ref m), some (.int (nI i))] [] h1 := by
    refine vloop 55 (fun i ih hi => ?_)
    intro h1 F1 z z0 kn hkn hrl hF11 hFo hw1 hz h0 hca hcb hf1
    have ho1 := hw1.1
    have h6 := (hw1.2 6 (by omega) (by omega)).1
    rw [upA_s] at h6
    have h5 := (hw1.2 5 (by omega) (by omega)).1
    rw [upA_n (by omega)] at h5
    refine V.iload_n dX8_keeps_51 rfl ?_
    refine V.bipush (v := nI 55) dX8_keeps_52 (by decide) ?_
    refine V.icmp_geN 83 dX8_keeps_54 (by decide) (by omega) (by omega) (fun hc1 => ?_) (fun hc1 => ?_)
    · skip
      refine V.aload_n dX8_keeps_83 rfl ?_
      refine V.dup dX8_keeps_84 rfl ?_
      refine V.get fX8_90 dX8_keeps_85 ho1 rfl ?_
      refine V.re hF11 ?_
      refine V.iconst (v := nI 1) dX8_keeps_88 (by decide) ?_
      refine V.iaddN dX8_keeps_89 ?_
      refine V.puti fX8_90 dX8_keeps_90 ho1 (Nat.le_of_ble_eq_true rfl) ?_
      dsimp only [List.set]
      obtain rfl : i = 55 := (by omega)
      have hw2 := MRaw.f1 hw1 (nI (kn + 1))
      refine V.vret dX8_keeps_93 rfl ⟨rfl, ⟨_, _, ⟨hw2, by rw [upA_n (by omega)]; exact hM.2.1, by rw [upA_n (by omega)]; exact hM.2.2⟩, (upF_n (by omega)).trans ((hFo 0 (by omega)).trans hF0), by rw [upA_n (by omega)]; exact hTx, by rw [upF_s]; exact congrArg nI hrl.symm, ?_, (upF_n (by omega)).trans ((hFo 2 (by omega)).trans hF2), by rw [upA_n (by omega)]; exact hKe, (upF_n (by omega)).trans ((hFo 3 (by omega)).trans hF3), by rw [upA_n (by omega)]; exact hNo⟩, hf1.tr (VFr.set (by omega) (by omega))⟩
      rw [upA_s]
      exact rem_blocks hrl hl5 hM.2.2 h0 hca hcb
    · skip
      refine V.aload_n dX8_keeps_57 rfl ?_
      refine V.get fX8_25 dX8_keeps_58 ho1 rfl ?_
      refine V.bipush (v := nI 55) dX8_keeps_61 (by decide) ?_
      refine V.aload_n dX8_keeps_63 rfl ?_
      refine V.get fX8_90 dX8_keeps_64 ho1 rfl ?_
      refine V.re hF11 ?_
      refine V.imulN dX8_keeps_67 ?_
      refine V.iload_n dX8_keeps_68 rfl ?_
      refine V.iaddN dX8_keeps_69 ?_
      refine V.aload_n dX8_keeps_70 rfl ?_
      refine V.get fX8_22 dX8_keeps_71 ho1 rfl ?_
      refine V.iload_n dX8_keeps_74 rfl ?_
      refine V.iald dX8_keeps_75 h5 rfl (by omega) (getD_some (by omega)) ?_
      refine V.iast dX8_keeps_76 h6 rfl (by omega) (by omega) ?_
      refine V.iincN (n := 1) dX8_keeps_77 rfl rfl rfl ?_
      dsimp only [List.set]
      refine V.goto 51 dX8_keeps_80 (by decide) ?_
      obtain ⟨q1, q2⟩ := bk_step hca hcb (by omega) (by omega)
      exact ih (i + 1) (by omega) (by omega) _ F1 _ z0 kn hkn hrl hF11 hFo (by have q := MRaw.set hw1 6 (by omega) (by omega) (z.set (55 * kn + i) ((A 5).getD i 0)) (by rw [List.length_set, hz]; rfl); rw [upA_upA] at q; exact q) (by rw [List.length_set]; exact hz) h0 q1 q2 (hf1.tr (VFr.set (by omega) (by omega)))
  have L1 : (tP T).length = 8 → ∀ i, i ≤ 385 → ∀ (h1 : VHp) (z : List Int32), MRaw h1 m F (upA A 6 z) → z.length = 440 → (∀ k, k < i → z[k]? = (A 6)[k + 55]?) → (∀ k, i ≤ k → z[k]? = (A 6)[k]?) → VFr m (m + 12) h h1 → V (g, mX8_keeps, 0, false, h.length, fun v h' => v = none ∧ MAt h' m (tT T, tS T, rem T, T.2.2.2) ∧ VFr m (m + 12) h h') (0, 0) 11 [some (.ref m), some (.int (nI i))] [] h1 := by
    intro hp8
    refine vloop 385 (fun i ih hi => ?_)
    intro h1 z hw1 hz hca hcb hf1
    have ho1 := hw1.1
    have h6 := (hw1.2 6 (by omega) (by omega)).1
    rw [upA_s] at h6
    refine V.iload_n dX8_keeps_11 rfl ?_
    refine V.sipush (v := nI 385) dX8_keeps_12 (by decide) ?_
    refine V.icmp_geN 39 dX8_keeps_15 (by decide) (by omega) (by omega) (fun hc1 => ?_) (fun hc1 => ?_)
    · skip
      refine V.aload_n dX8_keeps_39 rfl ?_
      refine V.dup dX8_keeps_40 rfl ?_
      refine V.get fX8_90 dX8_keeps_41 ho1 rfl ?_
      refine V.re hF1 ?_
      refine V.iconst (v := nI 1) dX8_keeps_44 (by decide) ?_
      refine V.isubN dX8_keeps_45 (by omega) ?_
      refine V.puti fX8_90 dX8_keeps_46 ho1 (Nat.le_of_ble_eq_true rfl) ?_
      dsimp only [List.set]
      refine V.iconst (v := nI 0) dX8_keeps_49 (by decide) ?_
      refine V.istore_n (i := 1) dX8_keeps_50 rfl rfl rfl ?_
      dsimp only [List.set]
      have hw2 := MRaw.f1 hw1 (nI ((tP T).length - 1))
      exact L2 0 (by omega) _ (upF F 1 (nI ((tP T).length - 1))) z z 7 (by omega) (by rw [rem_len]; omega) (by rw [upF_s, hp8]) (fun j hj => upF_n hj) hw2 hz (fun j hj => (hPa j (by omega)).off (fun k hk => by rw [hca _ (by omega)]; congr 1; omega)) (fun k hk => absurd hk (Nat.not_lt_zero _)) (fun q _ => rfl) (hf1.tr (VFr.set (by omega) (by omega)))
    · skip
      refine V.aload_n dX8_keeps_18 rfl ?_
      refine V.get fX8_25 dX8_keeps_19 ho1 rfl ?_
      refine V.iload_n dX8_keeps_22 rfl ?_
      refine V.aload_n dX8_keeps_23 rfl ?_
      refine V.get fX8_25 dX8_keeps_24 ho1 rfl ?_
      refine V.iload_n dX8_keeps_27 rfl ?_
      refine V.bipush (v := nI 55) dX8_keeps_28 (by decide) ?_
      refine V.iaddN dX8_keeps_30 ?_
      refine V.iald dX8_keeps_31 h6 rfl (by omega) (by rw [hcb _ (by omega)]; exact getD_some (by omega)) ?_
      refine V.iast dX8_keeps_32 h6 rfl (by omega) (by omega) ?_
      refine V.iincN (n := 1) dX8_keeps_33 rfl rfl rfl ?_
      dsimp only [List.set]
      refine V.goto 11 dX8_keeps_36 (by decide) ?_
      obtain ⟨q1, q2⟩ := sh_step hca hcb (by omega) (by omega)
      exact ih (i + 1) (by omega) (by omega) _ _ (by have q := MRaw.set hw1 6 (by omega) (by omega) (z.set i ((A 6).getD (i + 55) 0)) (by rw [List.length_set, hz]; rfl); rw [upA_upA] at q; exact q) (by rw [List.length_set]; exact hz) q1 q2 (hf1.tr (VFr.set (by omega) (by omega)))
  show V _ _ 0 [some (.ref m), none] [] h
  refine V.aload_n dX8_keeps_0 rfl ?_
  refine V.get fX8_90 dX8_keeps_1 ho rfl ?_
  refine V.re hF1 ?_
  refine V.bipush (v := nI 8) dX8_keeps_4 (by decide) ?_
  refine V.icmp_neN 49 dX8_keeps_6 (by decide) (by omega) (by omega) (fun hc1 => ?_) (fun hc1 => ?_)
  · skip
    refine V.iconst (v := nI 0) dX8_keeps_49 (by decide) ?_
    refine V.istore_n (i := 1) dX8_keeps_50 rfl rfl rfl ?_
    dsimp only [List.set]
    exact L2 0 (by omega) h F (A 6) (A 6) (tP T).length (by omega) (by rw [rem_len]; omega) hF1 (fun j _ => rfl) (by rw [upA_id]; exact hM.1) hl6 hPa (fun k hk => absurd hk (Nat.not_lt_zero _)) (fun q _ => rfl) VFr.rf
  · skip
    refine V.iconst (v := nI 0) dX8_keeps_9 (by decide) ?_
    refine V.istore_n (i := 1) dX8_keeps_10 rfl rfl rfl ?_
    dsimp only [List.set]
    exact L1 (by omega) 0 (by omega) h (A 6) (by rw [upA_id]; exact hM.1) hl6 (fun k hk => absurd hk (Nat.not_lt_zero _)) (fun k _ => rfl) VFr.rf
