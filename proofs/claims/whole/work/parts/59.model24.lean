set_option maxHeartbeats 1000000 in
theorem m_puts (g : VG) (h : VHp) (m : Nat) (F : MF) (A : MA) (S : Rm) (hM : MRm h m F A S) (hB : RmB S) (p c : Nat) (hp : p < rN S) (hc : c < 81) : VE g mX8_puts 0 false (0, 0) [.ref m, .int (nI p), .int (nI c)] h (MQ5 m F A (rPut S p (c / 9) (c % 9)) h none) := by
  obtain ⟨hw, ⟨et0, et1, et2, ek⟩, es0, ev, ex, ey, eL⟩ := id hM
  obtain ⟨ho, hA⟩ := id hw
  obtain ⟨bn, bW, bH, bP, bL⟩ := id hB
  refine VE.of (by decide) rfl (Nat.le_of_ble_eq_true rfl) ?_
  show V _ _ 0 [some (.ref m), some (.int (nI p)), some (.int (nI c))] [] h
  refine V.aload_n dX8_puts_0 rfl ?_
  refine V.get fX8_22 dX8_puts_1 ho rfl ?_
  refine V.bipush (v := nI 7) dX8_puts_4 (by decide) ?_
  refine V.iload_n dX8_puts_6 rfl ?_
  refine V.iaddN dX8_puts_7 ?_
  refine V.iload_n dX8_puts_8 rfl ?_
  refine V.bipush (v := nI 9) dX8_puts_9 (by decide) ?_
  refine V.idivN dX8_puts_11 (by omega) (by omega) (by omega) ?_
  refine V.iast dX8_puts_12 (hA 5 (by omega) (by omega)).1 rfl (by omega) (by rw [(hA 5 (by omega) (by omega)).2]; show _ < 55; omega) ?_
  have hM1 := MRm.w5 (S' := rSetX S p (c / 9)) hM ((A 5).set (7 + p) (nI (c / 9))) (by rw [List.length_set]; exact hM.len) (RowS.x hM.2.2 hM.len bn hp) rfl rfl rfl rfl
  have hf1 := VFr.set (h := h) (lo := m + 5) (hi := m + 6) (a := m + 5) (c := Sum.inl ((A 5).set (7 + p) (nI (c / 9)))) (by omega) (by omega)
  generalize List.set h (m + 5) (Sum.inl ((A 5).set (7 + p) (nI (c / 9)))) = h1 at hM1 hf1 ⊢
  obtain ⟨ho1, hA1⟩ := id hM1.1
  have h5 := (hA1 5 (by omega) (by omega)).1
  rw [upA_s] at h5
  refine V.aload_n dX8_puts_13 rfl ?_
  refine V.get fX8_22 dX8_puts_14 ho1 rfl ?_
  refine V.bipush (v := nI 13) dX8_puts_17 (by decide) ?_
  refine V.iload_n dX8_puts_19 rfl ?_
  refine V.iaddN dX8_puts_20 ?_
  refine V.iload_n dX8_puts_21 rfl ?_
  refine V.bipush (v := nI 9) dX8_puts_22 (by decide) ?_
  refine V.iremN dX8_puts_24 (by omega) (by omega) (by omega) ?_
  refine V.iast dX8_puts_25 h5 rfl (by omega) (by rw [List.length_set, hM.len]; omega) ?_
  have hM2 := MRm.w5 (S' := rSetY (rSetX S p (c / 9)) p (c % 9)) hM1 ((upA A 5 ((A 5).set (7 + p) (nI (c / 9))) 5).set (13 + p) (nI (c % 9))) (by rw [List.length_set]; exact hM1.len) (RowS.y hM1.2.2 hM1.len bn hp) rfl rfl rfl rfl
  rw [upA_upA, upA_s] at hM2
  exact V.vret dX8_puts_26 rfl ⟨rfl, _, hM2, hf1.tr (VFr.set (by omega) (by omega))⟩
