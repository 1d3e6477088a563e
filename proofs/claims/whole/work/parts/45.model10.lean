set_option maxHeartbeats 1000000 in
theorem m_behindOf (g : VG) (h : VHp) (m : Nat) (F : MF) (A : MA) (S : Rm) (hM : MRm h m F A S) (hB : RmB S) (n p : Nat) (hn : n < 1000) (hp : p < rN S) : VE g mX8_behindOf 5 false (0, 0) [.ref m, .int (nI n), .int (nI p)] h (MQa m F A S h (nI (itF (rK S p) (draftF S p) (rV S p) n))) := by
  obtain ⟨hw, ⟨et0, et1, et2, ek⟩, es0, ev, ex, ey, eL⟩ := id hM
  obtain ⟨ho, hA⟩ := id hw
  obtain ⟨bn, bW, bH, bP, bL⟩ := id hB
  refine VE.of (by decide) rfl (Nat.le_of_ble_eq_true rfl) ?_
  have L : ∀ k, k ≤ n → ∀ (h1 : VHp) (s1 : List Int32), MRm h1 m F (upA (upA A 9 (A 5)) 5 s1) (hoursF S k) → VFr m (m + 12) h h1 → V (g, mX8_behindOf, 5, false, h.length, MQa m F A S h (nI (itF (rK S p) (draftF S p) (rV S p) n))) (0, 0) 6 [some (.ref m), some (.int (nI n)), some (.int (nI p)), some (.int (nI k))] [] h1 := by
    refine vloop n (fun k ih hi => ?_)
    intro h1 s1 hM1 hf1
    have ho1 := hM1.1.1
    have h5 := (hM1.1.2 5 (by omega) (by omega)).1
    have hvk : ((upA (upA A 9 (A 5)) 5 s1) 5)[1 + p]? = some (nI (itF (rK S p) (draftF S p) (rV S p) k)) := by rw [← hours_V hp k]; exact hM1.2.2.2.1 p (by rw [(hours_same k).1]; exact hp)
    refine V.iload_n dX8_behindOf_6 rfl ?_
    refine V.iload_n dX8_behindOf_7 rfl ?_
    refine V.icmp_geN 22 dX8_behindOf_8 (by decide) (by omega) (by omega) (fun hc1 => ?_) (fun hc1 => ?_)
    · skip
      refine V.aload_n dX8_behindOf_22 rfl ?_
      refine V.get fX8_22 dX8_behindOf_23 ho1 rfl ?_
      refine V.iconst (v := nI 1) dX8_behindOf_26 (by decide) ?_
      refine V.iload_n dX8_behindOf_27 rfl ?_
      refine V.iaddN dX8_behindOf_28 ?_
      refine V.iald dX8_behindOf_29 h5 rfl (by omega) hvk ?_
      refine V.istore_n (i := 3) dX8_behindOf_30 rfl rfl rfl ?_
      dsimp only [List.set]
      refine V.aload_n dX8_behindOf_31 rfl ?_
      refine V.callV (ci := 8) cX8_157 (m_lets g h1 m F (upA (upA A 9 (A 5)) 5 s1) hM1.1) dX8_behindOf_32 (Nat.le_of_ble_eq_true rfl) rfl ho1 rfl rfl (Nat.le_of_ble_eq_true rfl) (fun v_ h_ hp_ => ?_)
      obtain ⟨rfl, hw4, hf4⟩ := hp_
      dsimp only [Option.toList, List.nil_append]
      have hM4 := hM.back (lets_back hw4)
      refine V.iload_n dX8_behindOf_35 rfl ?_
      obtain rfl : k = n := (by omega)
      exact V.iret dX8_behindOf_36 rfl ⟨rfl, hM4, hf1.tr (hf4.wide (by omega) (by omega))⟩
    · skip
      refine V.aload_n dX8_behindOf_11 rfl ?_
      refine V.callV (ci := 8) cX8_135 (m_passes g h1 m F (upA (upA A 9 (A 5)) 5 s1) (hoursF S k) hM1 (hours_B hB k)) dX8_behindOf_12 (Nat.le_of_ble_eq_true rfl) rfl ho1 rfl rfl (Nat.le_of_ble_eq_true rfl) (fun v_ h_ hp_ => ?_)
      obtain ⟨rfl, s2, hM3, hf3⟩ := hp_
      rw [upA_upA] at hM3
      dsimp only [Option.toList, List.cons_append, List.nil_append]
      refine V.pop dX8_behindOf_15 rfl ?_
      refine V.iincN (n := 1) dX8_behindOf_16 rfl rfl rfl ?_
      dsimp only [List.set]
      refine V.goto 6 dX8_behindOf_19 (by decide) ?_
      exact ih (k + 1) (by omega) (by omega) _ _ hM3 (hf1.tr (hf3.wide (by omega) (by omega)))
  show V _ _ 0 [some (.ref m), some (.int (nI n)), some (.int (nI p)), none] [] h
  refine V.aload_n dX8_behindOf_0 rfl ?_
  refine V.callV (ci := 8) cX8_154 (m_holds g h m F A hM.1) dX8_behindOf_1 (Nat.le_of_ble_eq_true rfl) rfl ho rfl rfl (Nat.le_of_ble_eq_true rfl) (fun v_ h_ hp_ => ?_)
  obtain ⟨rfl, hw2, hf2⟩ := hp_
  dsimp only [Option.toList, List.nil_append]
  have hM2 := hM.held hw2
  have ho2 := hw2.1
  refine V.iconst (v := nI 0) dX8_behindOf_4 (by decide) ?_
  refine V.istore_n (i := 3) dX8_behindOf_5 rfl rfl rfl ?_
  dsimp only [List.set]
  exact L 0 (by omega) _ _ hM2 (hf2.wide (by omega) (by omega))

set_option maxHeartbeats 1000000 in
theorem r_behind (g : VG) (h : VHp) (m : Nat) (T : Sy) (hC : MAt h m T) (hO : SyOk T) (n p : Int) (hn0 : -2147483648 ≤ n ∧ n < 2147483648) (hp : -2147483648 ≤ p ∧ p < 2147483648) : VE g mX8_behind 6 false (0, 0) [.ref m, .int (iI n), .int (iI p)] h (MPo m (a_behind T n p) T h) := by
  obtain ⟨F, A, hM, hAll⟩ := id hC
  obtain ⟨hF0, hTx, hF1, hPa, hF2, hKe, hF3, hNo⟩ := id hAll
  obtain ⟨hOt, hOs, hOn, hOp, hOk, hOns, hOpk, hOkk⟩ := id hO
  have hB := hOs.1
  have hD := hOs.2.1
  have hnl := hOns.1
  have htl := hOt.1
  obtain ⟨hw, ⟨et0, et1, et2, ek⟩, es0, ev, ex, ey, eL⟩ := id hM
  obtain ⟨ho, hA⟩ := id hw
  obtain ⟨bn, bW, bH, bP, bL⟩ := id hB
  refine VE.of (by decide) rfl (Nat.le_of_ble_eq_true rfl) ?_
  show V _ _ 0 [some (.ref m), some (.int (iI n)), some (.int (iI p))] [] h
  refine V.iload_n dX8_behind_0 rfl ?_
  refine V.iconst (v := nI 0) dX8_behind_1 (by decide) ?_
  refine V.bipush (v := nI 40) dX8_behind_2 (by decide) ?_
  refine V.toZ1 ?_
  refine V.toZ2 ?_
  refine V.callSp cX8_53 (m_in g h _ _ _ (by omega) (by omega) (by omega)) dX8_behind_4 (Nat.le_of_ble_eq_true rfl) rfl rfl (Nat.le_of_ble_eq_true rfl) ?_
  refine V.if_eqB 27 dX8_behind_7 (by decide) (fun hc1 => ?_) (fun hc1 => ?_)
  · skip
    refine V.iconst (v := iI (-1)) dX8_behind_27 (by decide) ?_
    exact V.iret dX8_behind_28 rfl ⟨by unfold a_behind; rw [if_neg (by omega)], hC, VFr.rf⟩
  · skip
    refine V.aload_n dX8_behind_10 rfl ?_
    refine V.iload_n dX8_behind_11 rfl ?_
    refine V.callVp (ci := 8) cX8_116 (m_isOne g h m F A (tS T) hM hB p (by omega)) dX8_behind_12 (Nat.le_of_ble_eq_true rfl) rfl ho rfl rfl (Nat.le_of_ble_eq_true rfl) ?_
    refine V.if_eqB 27 dX8_behind_15 (by decide) (fun hc2 => ?_) (fun hc2 => ?_)
    · skip
      refine V.iconst (v := iI (-1)) dX8_behind_27 (by decide) ?_
      exact V.iret dX8_behind_28 rfl ⟨by unfold a_behind; rw [if_neg (by omega)], hC, VFr.rf⟩
    · skip
      refine V.aload_n dX8_behind_18 rfl ?_
      refine V.iload_n dX8_behind_19 rfl ?_
      refine V.re (iI_toN (n := n.toNat) (by omega)) ?_
      refine V.iload_n dX8_behind_20 rfl ?_
      refine V.re (iI_toN (n := p.toNat) (by omega)) ?_
      refine V.callV (ci := 8) cX8_160 (m_behindOf g h m F A (tS T) hM hB n.toNat p.toNat (by omega) (by omega)) dX8_behind_21 (Nat.le_of_ble_eq_true rfl) rfl ho rfl rfl (Nat.le_of_ble_eq_true rfl) (fun v_ h_ hp_ => ?_)
      obtain ⟨rfl, hM2, hf2⟩ := hp_
      dsimp only [Option.toList, List.cons_append, List.nil_append]
      have hC2 : MAt h_ m T := MAt.aside (h := h) hM2 hAll
      refine V.goto 28 dX8_behind_24 (by decide) ?_
      exact V.iret dX8_behind_28 rfl ⟨by unfold a_behind; rw [if_pos (by omega)], hC2, hf2⟩

set_option maxHeartbeats 1000000 in
theorem r_settled (g : VG) (h : VHp) (m : Nat) (T : Sy) (hC : MAt h m T) (hO : SyOk T) : VE g mX8_settled 5 false (0, 0) [.ref m] h (MPo m (eO (stlF (tS T) 21 0)) T h) := by
  obtain ⟨F, A, hM, hAll⟩ := id hC
  obtain ⟨hF0, hTx, hF1, hPa, hF2, hKe, hF3, hNo⟩ := id hAll
  obtain ⟨hOt, hOs, hOn, hOp, hOk, hOns, hOpk, hOkk⟩ := id hO
  have hB := hOs.1
  have hD := hOs.2.1
  have hnl := hOns.1
  have htl := hOt.1
  obtain ⟨hw, ⟨et0, et1, et2, ek⟩, es0, ev, ex, ey, eL⟩ := id hM
  obtain ⟨ho, hA⟩ := id hw
  obtain ⟨bn, bW, bH, bP, bL⟩ := id hB
  refine VE.of (by decide) rfl (Nat.le_of_ble_eq_true rfl) ?_
  have L : ∀ k, k ≤ 21 → ∀ (h1 : VHp) (s1 : List Int32), MRm h1 m F (upA (upA A 9 (A 5)) 5 s1) (hoursF (tS T) k) → stlF (tS T) 21 0 = stlF (tS T) (21 - k) k → VFr m (m + 12) h h1 → V (g, mX8_settled, 5, false, h.length, MPo m (eO (stlF (tS T) 21 0)) T h) (0, 0) 6 [some (.ref m), some (.int (nI k))] [] h1 := by
    refine vloop 21 (fun k ih hi => ?_)
    intro h1 s1 hM1 he hf1
    have ho1 := hM1.1.1
    refine V.iload_n dX8_settled_6 rfl ?_
    refine V.bipush (v := nI 20) dX8_settled_7 (by decide) ?_
    refine V.icmp_gtN 25 dX8_settled_9 (by decide) (by omega) (by omega) (fun hc1 => ?_) (fun hc1 => ?_)
    · skip
      have hlets := m_lets g h1 m F (upA (upA A 9 (A 5)) 5 s1) hM1.1
      have hfe := hf1
      refine V.aload_n dX8_settled_25 rfl ?_
      refine V.callV (ci := 8) cX8_157 (hlets) dX8_settled_26 (Nat.le_of_ble_eq_true rfl) rfl ho1 rfl rfl (Nat.le_of_ble_eq_true rfl) (fun v_ h_ hp_ => ?_)
      obtain ⟨rfl, hw4, hf4⟩ := hp_
      dsimp only [Option.toList, List.nil_append]
      have hM4 := hM.back (lets_back hw4)
      have hC4 : MAt h_ m T := MAt.aside (h := h) hM4 hAll
      refine V.iload_n dX8_settled_29 rfl ?_
      refine V.bipush (v := nI 20) dX8_settled_30 (by decide) ?_
      refine V.icmp_leN 40 dX8_settled_32 (by decide) (by omega) (by omega) (fun hc2 => ?_) (fun hc2 => ?_)
      · skip
        refine V.iload_n dX8_settled_40 rfl ?_
        exact V.iret dX8_settled_41 rfl ⟨by first | (exfalso; omega) | (rw [he, show 21 - k = (21 - k - 1) + 1 by omega, stl_pos (by omega)]; rfl), hC4, hfe.tr (hf4.wide (by omega) (by omega))⟩
      · skip
        refine V.bipush (v := iI (-4)) dX8_settled_35 (by decide) ?_
        refine V.goto 41 dX8_settled_37 (by decide) ?_
        exact V.iret dX8_settled_41 rfl ⟨by first | (exfalso; omega) | (rw [he, show 21 - k = 0 by omega]; rfl), hC4, hfe.tr (hf4.wide (by omega) (by omega))⟩
    · skip
      refine V.aload_n dX8_settled_12 rfl ?_
      refine V.callV (ci := 8) cX8_135 (m_passes g h1 m F (upA (upA A 9 (A 5)) 5 s1) (hoursF (tS T) k) hM1 (hours_B hB k)) dX8_settled_13 (Nat.le_of_ble_eq_true rfl) rfl ho1 rfl rfl (Nat.le_of_ble_eq_true rfl) (fun v_ h_ hp_ => ?_)
      obtain ⟨rfl, s2, hM3, hf3⟩ := hp_
      rw [upA_upA] at hM3
      dsimp only [Option.toList, List.cons_append, List.nil_append]
      have htb : turnsF (hoursF (tS T) k) ≤ rN (hoursF (tS T) k) := cntP_le _
      have htn2 := (hours_same (S := (tS T)) k).1
      have hf13 := hf1.tr (hf3.wide (lo' := m) (hi' := m + 12) (by omega) (by omega))
      replace ho1 := hM3.1.1
      refine V.if_leN 25 dX8_settled_16 (by decide) (by omega) (fun hc3 => ?_) (fun hc3 => ?_)
      · skip
        have hlets := m_lets g h_ m F _ hM3.1
        have hfe := hf13
        refine V.aload_n dX8_settled_25 rfl ?_
        refine V.callV (ci := 8) cX8_157 (hlets) dX8_settled_26 (Nat.le_of_ble_eq_true rfl) rfl ho1 rfl rfl (Nat.le_of_ble_eq_true rfl) (fun v_ h_ hp_ => ?_)
        obtain ⟨rfl, hw4, hf4⟩ := hp_
        dsimp only [Option.toList, List.nil_append]
        have hM4 := hM.back (lets_back hw4)
        have hC4 : MAt h_ m T := MAt.aside (h := h) hM4 hAll
        refine V.iload_n dX8_settled_29 rfl ?_
        refine V.bipush (v := nI 20) dX8_settled_30 (by decide) ?_
        refine V.icmp_leN 40 dX8_settled_32 (by decide) (by omega) (by omega) (fun hc4 => ?_) (fun hc4 => ?_)
        · skip
          refine V.iload_n dX8_settled_40 rfl ?_
          exact V.iret dX8_settled_41 rfl ⟨by first | (exfalso; omega) | (rw [he, show 21 - k = (21 - k - 1) + 1 by omega, stl_pos (by omega)]; rfl), hC4, hfe.tr (hf4.wide (by omega) (by omega))⟩
        · skip
          refine V.bipush (v := iI (-4)) dX8_settled_35 (by decide) ?_
          refine V.goto 41 dX8_settled_37 (by decide) ?_
          exact V.iret dX8_settled_41 rfl ⟨by first | (exfalso; omega) | (rw [he, show 21 - k = 0 by omega]; rfl), hC4, hfe.tr (hf4.wide (by omega) (by omega))⟩
      · skip
        refine V.iincN (n := 1) dX8_settled_19 rfl rfl rfl ?_
        dsimp only [List.set]
        refine V.goto 6 dX8_settled_22 (by decide) ?_
        exact ih (k + 1) (by omega) (by omega) _ _ hM3 (by rw [he, show 21 - k = (21 - k - 1) + 1 by omega, stl_neg (by omega), show 21 - (k + 1) = 21 - k - 1 by omega]) hf13
  show V _ _ 0 [some (.ref m), none] [] h
  refine V.aload_n dX8_settled_0 rfl ?_
  refine V.callV (ci := 8) cX8_154 (m_holds g h m F A hM.1) dX8_settled_1 (Nat.le_of_ble_eq_true rfl) rfl ho rfl rfl (Nat.le_of_ble_eq_true rfl) (fun v_ h_ hp_ => ?_)
  obtain ⟨rfl, hw2, hf2⟩ := hp_
  dsimp only [Option.toList, List.nil_append]
  have hM2 := hM.held hw2
  have ho2 := hw2.1
  refine V.iconst (v := nI 0) dX8_settled_4 (by decide) ?_
  refine V.istore_n (i := 1) dX8_settled_5 rfl rfl rfl ?_
  dsimp only [List.set]
  exact L 0 (by omega) _ _ hM2 rfl (hf2.wide (by omega) (by omega))
