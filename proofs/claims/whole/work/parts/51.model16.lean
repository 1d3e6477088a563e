set_option maxHeartbeats 1000000 in
theorem m_turn (g : VG) (h : VHp) (m : Nat) (F : MF) (A : MA) (S : Rm) (hM : MRm h m F A S) (hB : RmB S) (hD : RmD S) (d : Nat) (hn : 1 ≤ rN S) (hd : d < 65521) : VE g mX8_turn 3 false (0, 0) [.ref m, .int (nI d)] h (MQ5 m F A (actF S d) h none) := by
  obtain ⟨hw, ⟨et0, et1, et2, ek⟩, es0, ev, ex, ey, eL⟩ := id hM
  obtain ⟨ho, hA⟩ := id hw
  obtain ⟨bn, bW, bH, bP, bL⟩ := id hB
  have hpn : d / 8 % rN S < rN S := Nat.mod_lt _ (by omega)
  have hqn : d / 64 % rN S < rN S := Nat.mod_lt _ (by omega)
  refine VE.of (by decide) rfl (Nat.le_of_ble_eq_true rfl) ?_
  show V _ _ 0 [some (.ref m), some (.int (nI d)), none, none, none, none] [] h
  refine V.iload_n dX8_turn_0 rfl ?_
  refine V.bipush (v := nI 8) dX8_turn_1 (by decide) ?_
  refine V.iremN dX8_turn_3 (by omega) (by omega) (by omega) ?_
  refine V.istore_n (i := 2) dX8_turn_4 rfl rfl rfl ?_
  dsimp only [List.set]
  refine V.iload_n dX8_turn_5 rfl ?_
  refine V.bipush (v := nI 8) dX8_turn_6 (by decide) ?_
  refine V.idivN dX8_turn_8 (by omega) (by omega) (by omega) ?_
  refine V.aload_n dX8_turn_9 rfl ?_
  refine V.get fX8_13 dX8_turn_10 ho rfl ?_
  refine V.iconst (v := nI 2) dX8_turn_13 (by decide) ?_
  refine V.iald dX8_turn_14 (hA 2 (by omega) (by omega)).1 rfl (by omega) et2 ?_
  refine V.iremN dX8_turn_15 (by omega) (by omega) (by omega) ?_
  refine V.istore_n (i := 3) dX8_turn_16 rfl rfl rfl ?_
  dsimp only [List.set]
  refine V.iload_n dX8_turn_17 rfl ?_
  refine V.bipush (v := nI 64) dX8_turn_18 (by decide) ?_
  refine V.idivN dX8_turn_20 (by omega) (by omega) (by omega) ?_
  refine V.aload_n dX8_turn_21 rfl ?_
  refine V.get fX8_13 dX8_turn_22 ho rfl ?_
  refine V.iconst (v := nI 2) dX8_turn_25 (by decide) ?_
  refine V.iald dX8_turn_26 (hA 2 (by omega) (by omega)).1 rfl (by omega) et2 ?_
  refine V.iremN dX8_turn_27 (by omega) (by omega) (by omega) ?_
  refine V.istore dX8_turn_28 rfl rfl ?_
  dsimp only [List.set]
  refine V.iload_n dX8_turn_30 rfl ?_
  refine V.bipush (v := nI 64) dX8_turn_31 (by decide) ?_
  refine V.idivN dX8_turn_33 (by omega) (by omega) (by omega) ?_
  refine V.iconst (v := nI 4) dX8_turn_34 (by decide) ?_
  refine V.iremN dX8_turn_35 (by omega) (by omega) (by omega) ?_
  refine V.istore dX8_turn_36 rfl rfl ?_
  dsimp only [List.set]
  refine V.iload_n dX8_turn_38 rfl ?_
  refine V.iconst (v := nI 4) dX8_turn_39 (by decide) ?_
  refine V.icmp_geN 60 dX8_turn_40 (by decide) (by omega) (by omega) (fun hc1 => ?_) (fun hc1 => ?_)
  · skip
    refine V.iload_n dX8_turn_60 rfl ?_
    refine V.iconst (v := nI 4) dX8_turn_61 (by decide) ?_
    refine V.icmp_neN 97 dX8_turn_62 (by decide) (by omega) (by omega) (fun hc1 => ?_) (fun hc1 => ?_)
    · skip
      first | (exact V.vret dX8_turn_97 rfl ⟨rfl, _, by rw [e3]; exact hM3, hf3⟩) | (exact V.vret dX8_turn_97 rfl ⟨rfl, s2, by rw [show actF S d = rStep S (d / 8 % rN S) (d / 64 % 4) from by (unfold actF; rw [if_pos (by omega), if_pos hcs])]; exact hM2, hf2⟩) | (exact V.vret dX8_turn_97 rfl ⟨rfl, A 5, by rw [upA_id, show actF S d = S from by first | (unfold actF; rw [if_pos (by omega), if_neg hcs]; done) | (unfold actF; rw [if_neg (by omega), if_neg (by omega)]; done)]; exact hM, VFr.rf⟩)
    · skip
      refine V.iload dX8_turn_65 rfl ?_
      refine V.iload_n dX8_turn_67 rfl ?_
      refine V.icmp_eqN 97 dX8_turn_68 (by decide) (by omega) (by omega) (fun hc2 => ?_) (fun hc2 => ?_)
      · skip
        first | (exact V.vret dX8_turn_97 rfl ⟨rfl, _, by rw [e3]; exact hM3, hf3⟩) | (exact V.vret dX8_turn_97 rfl ⟨rfl, s2, by rw [show actF S d = rStep S (d / 8 % rN S) (d / 64 % 4) from by (unfold actF; rw [if_pos (by omega), if_pos hcs])]; exact hM2, hf2⟩) | (exact V.vret dX8_turn_97 rfl ⟨rfl, A 5, by rw [upA_id, show actF S d = S from by first | (unfold actF; rw [if_pos (by omega), if_neg hcs]; done) | (unfold actF; rw [if_neg (by omega), if_neg (by omega)]; done)]; exact hM, VFr.rf⟩)
      · skip
        refine V.aload_n dX8_turn_71 rfl ?_
        refine V.get fX8_22 dX8_turn_72 ho rfl ?_
        refine V.bipush (v := nI 19) dX8_turn_75 (by decide) ?_
        refine V.bipush (v := nI 6) dX8_turn_77 (by decide) ?_
        refine V.iload_n dX8_turn_79 rfl ?_
        refine V.imulN dX8_turn_80 ?_
        refine V.iaddN dX8_turn_81 ?_
        refine V.iload dX8_turn_82 rfl ?_
        refine V.iaddN dX8_turn_84 ?_
        refine V.iload_n dX8_turn_85 rfl ?_
        refine V.sipush (v := nI 512) dX8_turn_86 (by decide) ?_
        refine V.idivN dX8_turn_89 (by omega) (by omega) (by omega) ?_
        refine V.bipush (v := nI 41) dX8_turn_90 (by decide) ?_
        refine V.iremN dX8_turn_92 (by omega) (by omega) (by omega) ?_
        refine V.bipush (v := nI 20) dX8_turn_93 (by decide) ?_
        refine V.toZ1 ?_
        refine V.toZ2 ?_
        refine V.isubZ dX8_turn_95 ?_
        refine V.iast dX8_turn_96 (hA 5 (by omega) (by omega)).1 rfl (by omega) (by rw [(hA 5 (by omega) (by omega)).2]; show _ < 55; omega) ?_
        have hM3 : MRm _ m F (upA A 5 ((A 5).set (19 + 6 * (d / 8 % rN S) + d / 64 % rN S) (iI (actL S d)))) (rLean S (d / 8 % rN S) (d / 64 % rN S) (actL S d)) := MRm.w5 hM ((A 5).set (19 + 6 * (d / 8 % rN S) + d / 64 % rN S) (iI (actL S d))) (by rw [List.length_set]; exact hM.len) (RowS.l hM.2.2 hM.len bn (by omega) (by omega)) rfl rfl rfl rfl
        have hf3 := VFr.set (h := h) (lo := m + 5) (hi := m + 6) (a := m + 5) (c := Sum.inl ((A 5).set (19 + 6 * (d / 8 % rN S) + d / 64 % rN S) (iI (actL S d)))) (by omega) (by omega)
        have e3 : actF S d = rLean S (d / 8 % rN S) (d / 64 % rN S) (actL S d) := by (unfold actF; rw [if_neg (by omega), if_pos (by omega)])
        first | (exact V.vret dX8_turn_97 rfl ⟨rfl, _, by rw [e3]; exact hM3, hf3⟩) | (exact V.vret dX8_turn_97 rfl ⟨rfl, s2, by rw [show actF S d = rStep S (d / 8 % rN S) (d / 64 % 4) from by (unfold actF; rw [if_pos (by omega), if_pos hcs])]; exact hM2, hf2⟩) | (exact V.vret dX8_turn_97 rfl ⟨rfl, A 5, by rw [upA_id, show actF S d = S from by first | (unfold actF; rw [if_pos (by omega), if_neg hcs]; done) | (unfold actF; rw [if_neg (by omega), if_neg (by omega)]; done)]; exact hM, VFr.rf⟩)
  · skip
    refine V.aload_n dX8_turn_43 rfl ?_
    refine V.iload_n dX8_turn_44 rfl ?_
    refine V.iload dX8_turn_45 rfl ?_
    refine V.callVp (ci := 8) cX8_144 (m_mayWalk g h m F A S hM hB hD (d / 8 % rN S) (d / 64 % 4) hpn (by omega)) dX8_turn_47 (Nat.le_of_ble_eq_true rfl) rfl ho rfl rfl (Nat.le_of_ble_eq_true rfl) ?_
    refine V.if_eqB 60 dX8_turn_50 (by decide) (fun hc2 => ?_) (fun hc2 => ?_)
    · skip
      have hcs := hc2
      refine V.iload_n dX8_turn_60 rfl ?_
      refine V.iconst (v := nI 4) dX8_turn_61 (by decide) ?_
      refine V.icmp_neN 97 dX8_turn_62 (by decide) (by omega) (by omega) (fun hc3 => ?_) (fun hc3 => ?_)
      · skip
        first | (exact V.vret dX8_turn_97 rfl ⟨rfl, _, by rw [e3]; exact hM3, hf3⟩) | (exact V.vret dX8_turn_97 rfl ⟨rfl, s2, by rw [show actF S d = rStep S (d / 8 % rN S) (d / 64 % 4) from by (unfold actF; rw [if_pos (by omega), if_pos hcs])]; exact hM2, hf2⟩) | (exact V.vret dX8_turn_97 rfl ⟨rfl, A 5, by rw [upA_id, show actF S d = S from by first | (unfold actF; rw [if_pos (by omega), if_neg hcs]; done) | (unfold actF; rw [if_neg (by omega), if_neg (by omega)]; done)]; exact hM, VFr.rf⟩)
      · skip
        refine V.iload dX8_turn_65 rfl ?_
        refine V.iload_n dX8_turn_67 rfl ?_
        refine V.icmp_eqN 97 dX8_turn_68 (by decide) (by omega) (by omega) (fun hc4 => ?_) (fun hc4 => ?_)
        · skip
          first | (exact V.vret dX8_turn_97 rfl ⟨rfl, _, by rw [e3]; exact hM3, hf3⟩) | (exact V.vret dX8_turn_97 rfl ⟨rfl, s2, by rw [show actF S d = rStep S (d / 8 % rN S) (d / 64 % 4) from by (unfold actF; rw [if_pos (by omega), if_pos hcs])]; exact hM2, hf2⟩) | (exact V.vret dX8_turn_97 rfl ⟨rfl, A 5, by rw [upA_id, show actF S d = S from by first | (unfold actF; rw [if_pos (by omega), if_neg hcs]; done) | (unfold actF; rw [if_neg (by omega), if_neg (by omega)]; done)]; exact hM, VFr.rf⟩)
        · skip
          refine V.aload_n dX8_turn_71 rfl ?_
          refine V.get fX8_22 dX8_turn_72 ho rfl ?_
          refine V.bipush (v := nI 19) dX8_turn_75 (by decide) ?_
          refine V.bipush (v := nI 6) dX8_turn_77 (by decide) ?_
          refine V.iload_n dX8_turn_79 rfl ?_
          refine V.imulN dX8_turn_80 ?_
          refine V.iaddN dX8_turn_81 ?_
          refine V.iload dX8_turn_82 rfl ?_
          refine V.iaddN dX8_turn_84 ?_
          refine V.iload_n dX8_turn_85 rfl ?_
          refine V.sipush (v := nI 512) dX8_turn_86 (by decide) ?_
          refine V.idivN dX8_turn_89 (by omega) (by omega) (by omega) ?_
          refine V.bipush (v := nI 41) dX8_turn_90 (by decide) ?_
          refine V.iremN dX8_turn_92 (by omega) (by omega) (by omega) ?_
          refine V.bipush (v := nI 20) dX8_turn_93 (by decide) ?_
          refine V.toZ1 ?_
          refine V.toZ2 ?_
          refine V.isubZ dX8_turn_95 ?_
          refine V.iast dX8_turn_96 (hA 5 (by omega) (by omega)).1 rfl (by omega) (by rw [(hA 5 (by omega) (by omega)).2]; show _ < 55; omega) ?_
          have hM3 : MRm _ m F (upA A 5 ((A 5).set (19 + 6 * (d / 8 % rN S) + d / 64 % rN S) (iI (actL S d)))) (rLean S (d / 8 % rN S) (d / 64 % rN S) (actL S d)) := MRm.w5 hM ((A 5).set (19 + 6 * (d / 8 % rN S) + d / 64 % rN S) (iI (actL S d))) (by rw [List.length_set]; exact hM.len) (RowS.l hM.2.2 hM.len bn (by omega) (by omega)) rfl rfl rfl rfl
          have hf3 := VFr.set (h := h) (lo := m + 5) (hi := m + 6) (a := m + 5) (c := Sum.inl ((A 5).set (19 + 6 * (d / 8 % rN S) + d / 64 % rN S) (iI (actL S d)))) (by omega) (by omega)
          have e3 : actF S d = rLean S (d / 8 % rN S) (d / 64 % rN S) (actL S d) := by (unfold actF; rw [if_neg (by omega), if_pos (by omega)])
          first | (exact V.vret dX8_turn_97 rfl ⟨rfl, _, by rw [e3]; exact hM3, hf3⟩) | (exact V.vret dX8_turn_97 rfl ⟨rfl, s2, by rw [show actF S d = rStep S (d / 8 % rN S) (d / 64 % 4) from by (unfold actF; rw [if_pos (by omega), if_pos hcs])]; exact hM2, hf2⟩) | (exact V.vret dX8_turn_97 rfl ⟨rfl, A 5, by rw [upA_id, show actF S d = S from by first | (unfold actF; rw [if_pos (by omega), if_neg hcs]; done) | (unfold actF; rw [if_neg (by omega), if_neg (by omega)]; done)]; exact hM, VFr.rf⟩)
    · skip
      have hcs := hc2
      refine V.aload_n dX8_turn_53 rfl ?_
      refine V.iload_n dX8_turn_54 rfl ?_
      refine V.iload dX8_turn_55 rfl ?_
      refine V.callV (ci := 8) cX8_147 (m_goes g h m F A S hM hB (d / 8 % rN S) (d / 64 % 4) hpn (by omega) hcs.1) dX8_turn_57 (Nat.le_of_ble_eq_true rfl) rfl ho rfl rfl (Nat.le_of_ble_eq_true rfl) (fun v_ h_ hp_ => ?_)
      obtain ⟨rfl, s2, hM2, hf2⟩ := hp_
      dsimp only [Option.toList, List.nil_append]
      refine V.iload_n dX8_turn_60 rfl ?_
      refine V.iconst (v := nI 4) dX8_turn_61 (by decide) ?_
      refine V.icmp_neN 97 dX8_turn_62 (by decide) (by omega) (by omega) (fun hc9 => ?_) (fun hc9 => absurd hc9 (by omega))
      first | (exact V.vret dX8_turn_97 rfl ⟨rfl, _, by rw [e3]; exact hM3, hf3⟩) | (exact V.vret dX8_turn_97 rfl ⟨rfl, s2, by rw [show actF S d = rStep S (d / 8 % rN S) (d / 64 % 4) from by (unfold actF; rw [if_pos (by omega), if_pos hcs])]; exact hM2, hf2⟩) | (exact V.vret dX8_turn_97 rfl ⟨rfl, A 5, by rw [upA_id, show actF S d = S from by first | (unfold actF; rw [if_pos (by omega), if_neg hcs]; done) | (unfold actF; rw [if_neg (by omega), if_neg (by omega)]; done)]; exact hM, VFr.rf⟩)
