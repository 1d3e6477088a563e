set_option maxHeartbeats 1000000 in
theorem r_pass (g : VG) (h : VHp) (m : Nat) (T : Sy) (hC : MAt h m T) (hO : SyOk T) (n : Int) (hn0 : -2147483648 ≤ n ∧ n < 2147483648) : VE g mX8_pass 5 false (0, 0) [.ref m, .int (iI n)] h (MPo m (a_pass T n) (n_pass T n) h) := by
  obtain ⟨F, A, hM, hAll⟩ := id hC
  obtain ⟨hF0, hTx, hF1, hPa, hF2, hKe, hF3, hNo⟩ := id hAll
  obtain ⟨hOt, hOs, hOn, hOp, hOk, hOns, hOpk, hOkk⟩ := id hO
  have hB := hOs.1
  have hD := hOs.2.1
  have hnl := hOns.1
  have htl := hOt.1
  obtain ⟨hw, ⟨et0, et1, et2, ek⟩, es0, ev, ex, ey, eL⟩ := id hM
  obtain ⟨ho, hA⟩ := id hw
  obtain ⟨bn, bW, bH, bP, bL⟩ := id hB
  refine VE.of (by decide) rfl (Nat.le_of_ble_eq_true rfl) ?_
  show V _ _ 0 [some (.ref m), some (.int (iI n)), none] [] h
  refine V.iload_n dX8_pass_0 rfl ?_
  refine V.iconst (v := nI 1) dX8_pass_1 (by decide) ?_
  refine V.bipush (v := nI 24) dX8_pass_2 (by decide) ?_
  refine V.toZ1 ?_
  refine V.toZ2 ?_
  refine V.callSp cX8_53 (m_in g h _ _ _ (by omega) (by omega) (by omega)) dX8_pass_4 (Nat.le_of_ble_eq_true rfl) rfl rfl (Nat.le_of_ble_eq_true rfl) ?_
  refine V.if_neB 12 dX8_pass_7 (by decide) (fun hc1 => ?_) (fun hc1 => ?_)
  · skip
    refine V.aload_n dX8_pass_12 rfl ?_
    refine V.callV (ci := 8) cX8_132 (m_keeps g h m T hC hO) dX8_pass_13 (Nat.le_of_ble_eq_true rfl) rfl ho rfl rfl (Nat.le_of_ble_eq_true rfl) (fun v_ h_ hp_ => ?_)
    obtain ⟨rfl, hC1, hf1⟩ := hp_
    dsimp only [Option.toList, List.nil_append]
    obtain ⟨F1, A1, hM1, hAll1⟩ := id hC1
    have hM1 : MRm h_ m F1 A1 (tS T) := hM1
    obtain ⟨hw, ⟨et0, et1, et2, ek⟩, es0, ev, ex, ey, eL⟩ := id hM1
    obtain ⟨ho, hA⟩ := id hw
    refine V.iconst (v := nI 0) dX8_pass_16 (by decide) ?_
    refine V.istore_n (i := 2) dX8_pass_17 rfl rfl rfl ?_
    dsimp only [List.set]
    have L : ∀ k, k ≤ n.toNat → ∀ (h1 : VHp) (s1 : List Int32), MRm h1 m F1 (upA A1 5 s1) (hoursF (tS T) k) → VFr m (m + 12) h h1 → V (g, mX8_pass, 5, false, h.length, MPo m (a_pass T n) (n_pass T n) h) (0, 0) 18 [some (.ref m), some (.int (iI n)), some (.int (nI k))] [] h1 := by
      refine vloop n.toNat (fun k ih hi => ?_)
      intro h1 s1 hM2 hf2
      have ho2 := hM2.1.1
      have h5 := (hM2.1.2 5 (by omega) (by omega)).1
      have es2 := hM2.2.2.1
      refine V.iload_n dX8_pass_18 rfl ?_
      refine V.iload_n dX8_pass_19 rfl ?_
      refine V.re (iI_toN (n := n.toNat) (by omega)) ?_
      refine V.icmp_geN 34 dX8_pass_20 (by decide) (by omega) (by omega) (fun hc1 => ?_) (fun hc1 => ?_)
      · skip
        refine V.aload_n dX8_pass_34 rfl ?_
        refine V.get fX8_22 dX8_pass_35 ho2 rfl ?_
        refine V.iconst (v := nI 0) dX8_pass_38 (by decide) ?_
        refine V.iald dX8_pass_39 h5 rfl (by omega) es2 ?_
        obtain rfl : k = n.toNat := (by omega)
        exact V.iret dX8_pass_40 rfl ⟨by unfold a_pass; rw [if_pos (by omega)], by unfold n_pass; rw [if_pos (by omega)]; exact MAt.now (h := h) (T := (tT T, tS T, rem T, T.2.2.2)) hM2 hAll1, hf2⟩
      · skip
        refine V.aload_n dX8_pass_23 rfl ?_
        refine V.callV (ci := 8) cX8_135 (m_passes g h1 m F1 (upA A1 5 s1) (hoursF (tS T) k) hM2 (hours_B hB k)) dX8_pass_24 (Nat.le_of_ble_eq_true rfl) rfl ho2 rfl rfl (Nat.le_of_ble_eq_true rfl) (fun v_ h_ hp_ => ?_)
        obtain ⟨rfl, s2, hM3, hf3⟩ := hp_
        rw [upA_upA] at hM3
        dsimp only [Option.toList, List.cons_append, List.nil_append]
        refine V.pop dX8_pass_27 rfl ?_
        refine V.iincN (n := 1) dX8_pass_28 rfl rfl rfl ?_
        dsimp only [List.set]
        refine V.goto 18 dX8_pass_31 (by decide) ?_
        exact ih (k + 1) (by omega) (by omega) _ _ hM3 (hf2.tr (hf3.wide (by omega) (by omega)))
    exact L 0 (by omega) h_ (A1 5) (by rw [upA_id]; exact hM1) hf1
  · skip
    refine V.iconst (v := iI (-1)) dX8_pass_10 (by decide) ?_
    exact V.iret dX8_pass_11 rfl ⟨by unfold a_pass; rw [if_neg (by omega)], by unfold n_pass; rw [if_neg (by omega)]; exact hC, VFr.rf⟩

set_option maxHeartbeats 1000000 in
theorem r_walk (g : VG) (h : VHp) (m : Nat) (T : Sy) (hC : MAt h m T) (hO : SyOk T) (p s : Int) (hp : -2147483648 ≤ p ∧ p < 2147483648) (hs0 : -2147483648 ≤ s ∧ s < 2147483648) : VE g mX8_walk 3 false (0, 0) [.ref m, .int (iI p), .int (iI s)] h (MPo m (a_walk T p s) (n_walk T p s) h) := by
  obtain ⟨F, A, hM, hAll⟩ := id hC
  obtain ⟨hF0, hTx, hF1, hPa, hF2, hKe, hF3, hNo⟩ := id hAll
  obtain ⟨hOt, hOs, hOn, hOp, hOk, hOns, hOpk, hOkk⟩ := id hO
  have hB := hOs.1
  have hD := hOs.2.1
  have hnl := hOns.1
  have htl := hOt.1
  obtain ⟨hw, ⟨et0, et1, et2, ek⟩, es0, ev, ex, ey, eL⟩ := id hM
  obtain ⟨ho, hA⟩ := id hw
  obtain ⟨bn, bW, bH, bP, bL⟩ := id hB
  refine VE.of (by decide) rfl (Nat.le_of_ble_eq_true rfl) ?_
  show V _ _ 0 [some (.ref m), some (.int (iI p)), some (.int (iI s))] [] h
  refine V.aload_n dX8_walk_0 rfl ?_
  refine V.iload_n dX8_walk_1 rfl ?_
  refine V.callVp (ci := 8) cX8_116 (m_isOne g h m F A (tS T) hM hB p (by omega)) dX8_walk_2 (Nat.le_of_ble_eq_true rfl) rfl ho rfl rfl (Nat.le_of_ble_eq_true rfl) ?_
  refine V.if_eqB 17 dX8_walk_5 (by decide) (fun hc1 => ?_) (fun hc1 => ?_)
  · skip
    refine V.iconst (v := iI (-1)) dX8_walk_17 (by decide) ?_
    exact V.iret dX8_walk_18 rfl ⟨by first | (exfalso; omega) | (unfold a_walk; (repeat first | rw [if_pos (by first | omega | assumption)] | rw [if_neg (by first | omega | assumption)]); try rfl), by first | (exfalso; omega) | (unfold n_walk; (repeat first | rw [if_pos (by first | omega | assumption)] | rw [if_neg (by first | omega | assumption)]); exact hC), VFr.rf⟩
  · skip
    refine V.iload_n dX8_walk_8 rfl ?_
    refine V.iconst (v := nI 0) dX8_walk_9 (by decide) ?_
    refine V.iconst (v := nI 3) dX8_walk_10 (by decide) ?_
    refine V.toZ1 ?_
    refine V.toZ2 ?_
    refine V.callSp cX8_53 (m_in g h _ _ _ (by omega) (by omega) (by omega)) dX8_walk_11 (Nat.le_of_ble_eq_true rfl) rfl rfl (Nat.le_of_ble_eq_true rfl) ?_
    refine V.if_neB 19 dX8_walk_14 (by decide) (fun hc2 => ?_) (fun hc2 => ?_)
    · skip
      refine V.aload_n dX8_walk_19 rfl ?_
      refine V.iload_n dX8_walk_20 rfl ?_
      refine V.re (iI_toN (n := p.toNat) (by omega)) ?_
      refine V.iload_n dX8_walk_21 rfl ?_
      refine V.re (iI_toN (n := s.toNat) (by omega)) ?_
      refine V.callVp (ci := 8) cX8_144 (m_mayWalk g h m F A (tS T) hM hB hD p.toNat s.toNat (by omega) (by omega)) dX8_walk_22 (Nat.le_of_ble_eq_true rfl) rfl ho rfl rfl (Nat.le_of_ble_eq_true rfl) ?_
      refine V.if_neB 31 dX8_walk_25 (by decide) (fun hc3 => ?_) (fun hc3 => ?_)
      · skip
        have hcs := hc3
        have hcy : (isP T p ∧ 0 ≤ s ∧ s < ((4 : Nat) : Int)) ∧ canF (tS T) p.toNat s.toNat := ⟨⟨by first | assumption | omega, by omega, by omega⟩, hcs⟩
        refine V.aload_n dX8_walk_31 rfl ?_
        refine V.callV (ci := 8) cX8_132 (m_keeps g h m T hC hO) dX8_walk_32 (Nat.le_of_ble_eq_true rfl) rfl ho rfl rfl (Nat.le_of_ble_eq_true rfl) (fun v_ h_ hp_ => ?_)
        obtain ⟨rfl, hC1, hf1⟩ := hp_
        dsimp only [Option.toList, List.nil_append]
        obtain ⟨F1, A1, hM1, hAll1⟩ := id hC1
        have hM1 : MRm h_ m F1 A1 (tS T) := hM1
        obtain ⟨hw, ⟨et0, et1, et2, ek⟩, es0, ev, ex, ey, eL⟩ := id hM1
        obtain ⟨ho, hA⟩ := id hw
        refine V.aload_n dX8_walk_35 rfl ?_
        refine V.iload_n dX8_walk_36 rfl ?_
        refine V.re (iI_toN (n := p.toNat) (by omega)) ?_
        refine V.iload_n dX8_walk_37 rfl ?_
        refine V.re (iI_toN (n := s.toNat) (by omega)) ?_
        refine V.callV (ci := 8) cX8_147 (m_goes g h_ m F1 A1 (tS T) hM1 hB p.toNat s.toNat (by omega) (by omega) hcs.1) dX8_walk_38 (Nat.le_of_ble_eq_true rfl) rfl ho rfl rfl (Nat.le_of_ble_eq_true rfl) (fun v_ h_ hp_ => ?_)
        obtain ⟨rfl, s2, hM2, hf2⟩ := hp_
        dsimp only [Option.toList, List.nil_append]
        have ho2 := hM2.1.1
        have h5 := (hM2.1.2 5 (by omega) (by omega)).1
        have ex2 : (upA A1 5 s2 5)[7 + p.toNat]? = some (nI (sxF (tS T) p.toNat s.toNat).toNat) := by rw [hM2.2.2.2.2.1 p.toNat (by show _ < rN (tS T); omega)]; show some (nI (up1 _ _ _ _)) = _; unfold up1; rw [if_pos rfl]
        have ey2 : (upA A1 5 s2 5)[13 + p.toNat]? = some (nI (syF (tS T) p.toNat s.toNat).toNat) := by rw [hM2.2.2.2.2.2.1 p.toNat (by show _ < rN (tS T); omega)]; show some (nI (up1 _ _ _ _)) = _; unfold up1; rw [if_pos rfl]
        have hC2 := MAt.now (h := h) (T := (tT T, tS T, rem T, T.2.2.2)) hM2 hAll1
        refine V.bipush (v := nI 10) dX8_walk_41 (by decide) ?_
        refine V.aload_n dX8_walk_43 rfl ?_
        refine V.get fX8_22 dX8_walk_44 ho2 rfl ?_
        refine V.bipush (v := nI 7) dX8_walk_47 (by decide) ?_
        refine V.iload_n dX8_walk_49 rfl ?_
        refine V.re (iI_toN (n := p.toNat) (by omega)) ?_
        refine V.iaddN dX8_walk_50 ?_
        refine V.iald dX8_walk_51 h5 rfl (by omega) ex2 ?_
        refine V.imulN dX8_walk_52 ?_
        refine V.aload_n dX8_walk_53 rfl ?_
        refine V.get fX8_22 dX8_walk_54 ho2 rfl ?_
        refine V.bipush (v := nI 13) dX8_walk_57 (by decide) ?_
        refine V.iload_n dX8_walk_59 rfl ?_
        refine V.re (iI_toN (n := p.toNat) (by omega)) ?_
        refine V.iaddN dX8_walk_60 ?_
        refine V.iald dX8_walk_61 h5 rfl (by omega) ey2 ?_
        refine V.iaddN dX8_walk_62 ?_
        exact V.iret dX8_walk_63 rfl ⟨by first | (exfalso; omega) | (unfold a_walk; (repeat first | rw [if_pos (by first | omega | assumption)] | rw [if_neg (by first | omega | assumption)]); try rfl), by first | (exfalso; omega) | (unfold n_walk; (repeat first | rw [if_pos (by first | omega | assumption)] | rw [if_neg (by first | omega | assumption)]); exact hC2), hf1.tr (hf2.wide (by omega) (by omega))⟩
      · skip
        have hcs := hc3
        have hcn : ¬ ((isP T p ∧ 0 ≤ s ∧ s < ((4 : Nat) : Int)) ∧ canF (tS T) p.toNat s.toNat) := fun z => hcs z.2
        refine V.bipush (v := iI (-2)) dX8_walk_28 (by decide) ?_
        exact V.iret dX8_walk_30 rfl ⟨by first | (exfalso; omega) | (unfold a_walk; (repeat first | rw [if_pos (by first | omega | assumption)] | rw [if_neg (by first | omega | assumption)]); try rfl), by first | (exfalso; omega) | (unfold n_walk; (repeat first | rw [if_pos (by first | omega | assumption)] | rw [if_neg (by first | omega | assumption)]); exact hC), VFr.rf⟩
    · skip
      refine V.iconst (v := iI (-1)) dX8_walk_17 (by decide) ?_
      exact V.iret dX8_walk_18 rfl ⟨by first | (exfalso; omega) | (unfold a_walk; (repeat first | rw [if_pos (by first | omega | assumption)] | rw [if_neg (by first | omega | assumption)]); try rfl), by first | (exfalso; omega) | (unfold n_walk; (repeat first | rw [if_pos (by first | omega | assumption)] | rw [if_neg (by first | omega | assumption)]); exact hC), VFr.rf⟩

set_option maxHeartbeats 1000000 in
theorem r_lean (g : VG) (h : VHp) (m : Nat) (T : Sy) (hC : MAt h m T) (hO : SyOk T) (a b l : Int) (ha : -2147483648 ≤ a ∧ a < 2147483648) (hb : -2147483648 ≤ b ∧ b < 2147483648) (hl0 : -2147483648 ≤ l ∧ l < 2147483648) : VE g mX8_lean 3 false (0, 0) [.ref m, .int (iI a), .int (iI b), .int (iI l)] h (MPo m (a_lean T a b l) (n_lean T a b l) h) := by
  obtain ⟨F, A, hM, hAll⟩ := id hC
  obtain ⟨hF0, hTx, hF1, hPa, hF2, hKe, hF3, hNo⟩ := id hAll
  obtain ⟨hOt, hOs, hOn, hOp, hOk, hOns, hOpk, hOkk⟩ := id hO
  have hB := hOs.1
  have hD := hOs.2.1
  have hnl := hOns.1
  have htl := hOt.1
  obtain ⟨hw, ⟨et0, et1, et2, ek⟩, es0, ev, ex, ey, eL⟩ := id hM
  obtain ⟨ho, hA⟩ := id hw
  obtain ⟨bn, bW, bH, bP, bL⟩ := id hB
  refine VE.of (by decide) rfl (Nat.le_of_ble_eq_true rfl) ?_
  show V _ _ 0 [some (.ref m), some (.int (iI a)), some (.int (iI b)), some (.int (iI l)), none] [] h
  refine V.aload_n dX8_lean_0 rfl ?_
  refine V.iload_n dX8_lean_1 rfl ?_
  refine V.callVp (ci := 8) cX8_116 (m_isOne g h m F A (tS T) hM hB a (by omega)) dX8_lean_2 (Nat.le_of_ble_eq_true rfl) rfl ho rfl rfl (Nat.le_of_ble_eq_true rfl) ?_
  refine V.if_eqB 32 dX8_lean_5 (by decide) (fun hc1 => ?_) (fun hc1 => ?_)
  · skip
    refine V.iconst (v := iI (-1)) dX8_lean_32 (by decide) ?_
    exact V.iret dX8_lean_33 rfl ⟨by first | (exfalso; omega) | (unfold a_lean; (repeat first | rw [if_pos (by first | omega | assumption)] | rw [if_neg (by first | omega | assumption)]); try rfl), by first | (exfalso; omega) | (unfold n_lean; (repeat first | rw [if_pos (by first | omega | assumption)] | rw [if_neg (by first | omega | assumption)]); exact hC), VFr.rf⟩
  · skip
    refine V.aload_n dX8_lean_8 rfl ?_
    refine V.iload_n dX8_lean_9 rfl ?_
    refine V.callVp (ci := 8) cX8_116 (m_isOne g h m F A (tS T) hM hB b (by omega)) dX8_lean_10 (Nat.le_of_ble_eq_true rfl) rfl ho rfl rfl (Nat.le_of_ble_eq_true rfl) ?_
    refine V.if_eqB 32 dX8_lean_13 (by decide) (fun hc2 => ?_) (fun hc2 => ?_)
    · skip
      refine V.iconst (v := iI (-1)) dX8_lean_32 (by decide) ?_
      exact V.iret dX8_lean_33 rfl ⟨by first | (exfalso; omega) | (unfold a_lean; (repeat first | rw [if_pos (by first | omega | assumption)] | rw [if_neg (by first | omega | assumption)]); try rfl), by first | (exfalso; omega) | (unfold n_lean; (repeat first | rw [if_pos (by first | omega | assumption)] | rw [if_neg (by first | omega | assumption)]); exact hC), VFr.rf⟩
    · skip
      refine V.iload_n dX8_lean_16 rfl ?_
      refine V.iload_n dX8_lean_17 rfl ?_
      refine V.icmp_eqZ 32 dX8_lean_18 (by decide) (by omega) (by omega) (fun hc3 => ?_) (fun hc3 => ?_)
      · skip
        refine V.iconst (v := iI (-1)) dX8_lean_32 (by decide) ?_
        exact V.iret dX8_lean_33 rfl ⟨by first | (exfalso; omega) | (unfold a_lean; (repeat first | rw [if_pos (by first | omega | assumption)] | rw [if_neg (by first | omega | assumption)]); try rfl), by first | (exfalso; omega) | (unfold n_lean; (repeat first | rw [if_pos (by first | omega | assumption)] | rw [if_neg (by first | omega | assumption)]); exact hC), VFr.rf⟩
      · skip
        refine V.iload_n dX8_lean_21 rfl ?_
        refine V.bipush (v := iI (-20)) dX8_lean_22 (by decide) ?_
        refine V.bipush (v := nI 20) dX8_lean_24 (by decide) ?_
        refine V.toZ1 ?_
        refine V.callSp cX8_53 (m_in g h _ _ _ (by omega) (by omega) (by omega)) dX8_lean_26 (Nat.le_of_ble_eq_true rfl) rfl rfl (Nat.le_of_ble_eq_true rfl) ?_
        refine V.if_neB 34 dX8_lean_29 (by decide) (fun hc4 => ?_) (fun hc4 => ?_)
        · skip
          refine V.aload_n dX8_lean_34 rfl ?_
          refine V.callV (ci := 8) cX8_132 (m_keeps g h m T hC hO) dX8_lean_35 (Nat.le_of_ble_eq_true rfl) rfl ho rfl rfl (Nat.le_of_ble_eq_true rfl) (fun v_ h_ hp_ => ?_)
          obtain ⟨rfl, hC1, hf1⟩ := hp_
          dsimp only [Option.toList, List.nil_append]
          obtain ⟨F1, A1, hM1, hAll1⟩ := id hC1
          have hM1 : MRm h_ m F1 A1 (tS T) := hM1
          obtain ⟨hw, ⟨et0, et1, et2, ek⟩, es0, ev, ex, ey, eL⟩ := id hM1
          obtain ⟨ho, hA⟩ := id hw
          refine V.aload_n dX8_lean_38 rfl ?_
          refine V.get fX8_22 dX8_lean_39 ho rfl ?_
          refine V.bipush (v := nI 19) dX8_lean_42 (by decide) ?_
          refine V.bipush (v := nI 6) dX8_lean_44 (by decide) ?_
          refine V.iload_n dX8_lean_46 rfl ?_
          refine V.re (iI_toN (n := a.toNat) (by omega)) ?_
          refine V.imulN dX8_lean_47 ?_
          refine V.iaddN dX8_lean_48 ?_
          refine V.iload_n dX8_lean_49 rfl ?_
          refine V.re (iI_toN (n := b.toNat) (by omega)) ?_
          refine V.iaddN dX8_lean_50 ?_
          refine V.iald dX8_lean_51 (hA 5 (by omega) (by omega)).1 rfl (by omega) (eL _ _ (by omega) (by omega)) ?_
          refine V.istore dX8_lean_52 rfl rfl ?_
          dsimp only [List.set]
          refine V.aload_n dX8_lean_54 rfl ?_
          refine V.get fX8_22 dX8_lean_55 ho rfl ?_
          refine V.bipush (v := nI 19) dX8_lean_58 (by decide) ?_
          refine V.bipush (v := nI 6) dX8_lean_60 (by decide) ?_
          refine V.iload_n dX8_lean_62 rfl ?_
          refine V.re (iI_toN (n := a.toNat) (by omega)) ?_
          refine V.imulN dX8_lean_63 ?_
          refine V.iaddN dX8_lean_64 ?_
          refine V.iload_n dX8_lean_65 rfl ?_
          refine V.re (iI_toN (n := b.toNat) (by omega)) ?_
          refine V.iaddN dX8_lean_66 ?_
          refine V.iload_n dX8_lean_67 rfl ?_
          refine V.iast dX8_lean_68 (hA 5 (by omega) (by omega)).1 rfl (by omega) (by rw [(hA 5 (by omega) (by omega)).2]; show _ < 55; omega) ?_
          have hM2 : MRm _ m F1 (upA A1 5 ((A1 5).set (19 + 6 * a.toNat + b.toNat) (iI l))) (rLean (tS T) a.toNat b.toNat l) := MRm.w5 hM1 ((A1 5).set (19 + 6 * a.toNat + b.toNat) (iI l)) (by rw [List.length_set]; exact hM1.len) (RowS.l hM1.2.2 hM1.len bn (by omega) (by omega)) rfl rfl rfl rfl
          have hf2 := hf1.tr (VFr.set (h := h_) (lo := m) (hi := m + 12) (a := m + 5) (c := Sum.inl ((A1 5).set (19 + 6 * a.toNat + b.toNat) (iI l))) (by omega) (by omega))
          have hC2 := MAt.now (h := h) (T := (tT T, tS T, rem T, T.2.2.2)) hM2 hAll1
          refine V.iload dX8_lean_69 rfl ?_
          refine V.bipush (v := nI 20) dX8_lean_71 (by decide) ?_
          refine V.toZ1 ?_
          refine V.iaddZ dX8_lean_73 ?_
          exact V.iret dX8_lean_74 rfl ⟨by first | (exfalso; omega) | (unfold a_lean; (repeat first | rw [if_pos (by first | omega | assumption)] | rw [if_neg (by first | omega | assumption)]); try rfl), by first | (exfalso; omega) | (unfold n_lean; (repeat first | rw [if_pos (by first | omega | assumption)] | rw [if_neg (by first | omega | assumption)]); exact hC2), hf2⟩
        · skip
          refine V.iconst (v := iI (-1)) dX8_lean_32 (by decide) ?_
          exact V.iret dX8_lean_33 rfl ⟨by first | (exfalso; omega) | (unfold a_lean; (repeat first | rw [if_pos (by first | omega | assumption)] | rw [if_neg (by first | omega | assumption)]); try rfl), by first | (exfalso; omega) | (unfold n_lean; (repeat first | rw [if_pos (by first | omega | assumption)] | rw [if_neg (by first | omega | assumption)]); exact hC), VFr.rf⟩

set_option maxHeartbeats 1000000 in
theorem r_undo (g : VG) (h : VHp) (m : Nat) (T : Sy) (hC : MAt h m T) (hO : SyOk T) : VE g mX8_undo 0 false (0, 0) [.ref m] h (MPo m (a_undo T) (n_undo T) h) := by
  obtain ⟨F, A, hM, hAll⟩ := id hC
  obtain ⟨hF0, hTx, hF1, hPa, hF2, hKe, hF3, hNo⟩ := id hAll
  obtain ⟨hOt, hOs, hOn, hOp, hOk, hOns, hOpk, hOkk⟩ := id hO
  have hB := hOs.1
  have hD := hOs.2.1
  have hnl := hOns.1
  have htl := hOt.1
  obtain ⟨hw, ⟨et0, et1, et2, ek⟩, es0, ev, ex, ey, eL⟩ := id hM
  obtain ⟨ho, hA⟩ := id hw
  obtain ⟨bn, bW, bH, bP, bL⟩ := id hB
  have hl6 : (A 6).length = 440 := (hM.1.2 6 (by omega) (by omega)).2
  refine VE.of (by decide) rfl (Nat.le_of_ble_eq_true rfl) ?_
  have L : 1 ≤ (tP T).length → ∀ i, i ≤ 55 → ∀ (h1 : VHp) (z : List Int32), MRaw h1 m (upF F 1 (nI ((tP T).length - 1))) (upA A 5 z) → z.length = 55 → (∀ k, k < i → z[k]? = (A 6)[55 * ((tP T).length - 1) + k]?) → VFr m (m + 12) h h1 → V (g, mX8_undo, 0, false, h.length, MPo m (a_undo T) (n_undo T) h) (0, 0) 22 [some (.ref m), some (.int (nI i))] [] h1 := by
    intro hp1
    refine vloop 55 (fun i ih hi => ?_)
    intro h1 z hw1 hz hca hf1
    have ho1 := hw1.1
    have hF19 : (upF F 1 (nI ((tP T).length - 1))) 1 = nI ((tP T).length - 1) := upF_s
    have h5 := (hw1.2 5 (by omega) (by omega)).1
    rw [upA_s] at h5
    have h6 := (hw1.2 6 (by omega) (by omega)).1
    rw [upA_n (by omega)] at h6
    refine V.iload_n dX8_undo_22 rfl ?_
    refine V.bipush (v := nI 55) dX8_undo_23 (by decide) ?_
    refine V.icmp_geN 54 dX8_undo_25 (by decide) (by omega) (by omega) (fun hc1 => ?_) (fun hc1 => ?_)
    · skip
      refine V.aload_n dX8_undo_54 rfl ?_
      refine V.get fX8_90 dX8_undo_55 ho1 rfl ?_
      refine V.re hF19 ?_
      obtain rfl : i = 55 := (by omega)
      obtain ⟨blk, hb1, hb2, hb3⟩ := hPa 0 (by omega)
      have ez : z = blk := cp_end (fun k hk => by rw [hca k hk]; exact hb3 k hk) hz hb1
      subst ez
      have hK := hOpk ((tP T).getD 0 rClear) (getD_mem (by omega))
      have hC2 : MAt h1 m (tT T, (tP T).getD 0 rClear, (tP T).tail, T.2.2.2) := by
        refine ⟨_, _, ⟨hw1, ?_, by rw [upA_s]; exact hb2⟩, (upF_n (by omega)).trans hF0, by rw [upA_n (by omega)]; exact hTx, by rw [upF_s]; exact congrArg nI List.length_tail.symm, ?_, (upF_n (by omega)).trans hF2, by rw [upA_n (by omega)]; exact hKe, (upF_n (by omega)).trans hF3, by rw [upA_n (by omega)]; exact hNo⟩
        · rw [upA_n (by omega)]; exact RowT.kin hM.2.1 hK
        · rw [upA_n (by omega)]
          exact fun j hj => past_tail hPa j hj
      exact V.iret dX8_undo_58 rfl ⟨by unfold a_undo; rw [if_pos hp1], by unfold n_undo; rw [if_pos hp1]; exact hC2, hf1⟩
    · skip
      refine V.aload_n dX8_undo_28 rfl ?_
      refine V.get fX8_22 dX8_undo_29 ho1 rfl ?_
      refine V.iload_n dX8_undo_32 rfl ?_
      refine V.aload_n dX8_undo_33 rfl ?_
      refine V.get fX8_25 dX8_undo_34 ho1 rfl ?_
      refine V.bipush (v := nI 55) dX8_undo_37 (by decide) ?_
      refine V.aload_n dX8_undo_39 rfl ?_
      refine V.get fX8_90 dX8_undo_40 ho1 rfl ?_
      refine V.re hF19 ?_
      refine V.imulN dX8_undo_43 ?_
      refine V.iload_n dX8_undo_44 rfl ?_
      refine V.iaddN dX8_undo_45 ?_
      refine V.iald dX8_undo_46 h6 rfl (by omega) (getD_some (by omega)) ?_
      refine V.iast dX8_undo_47 h5 rfl (by omega) (by omega) ?_
      refine V.iincN (n := 1) dX8_undo_48 rfl rfl rfl ?_
      dsimp only [List.set]
      refine V.goto 22 dX8_undo_51 (by decide) ?_
      refine ih (i + 1) (by omega) (by omega) _ (z.set i ((A 6).getD (55 * ((tP T).length - 1) + i) 0)) (by have q := MRaw.set hw1 5 (by omega) (by omega) (z.set i ((A 6).getD (55 * ((tP T).length - 1) + i) 0)) (by rw [List.length_set, hz]; rfl); rw [upA_upA] at q; exact q) (by rw [List.length_set]; exact hz) (fun k hk => ?_) (hf1.tr (VFr.set (by omega) (by omega)))
      by_cases e : k = i
      · subst e; rw [List.getElem?_set_self (by omega)]; exact (getD_some (by omega)).symm
      · rw [List.getElem?_set_ne (Ne.symm e)]; exact hca k (by omega)
  show V _ _ 0 [some (.ref m), none] [] h
  refine V.aload_n dX8_undo_0 rfl ?_
  refine V.get fX8_90 dX8_undo_1 ho rfl ?_
  refine V.re hF1 ?_
  refine V.if_neN 10 dX8_undo_4 (by decide) (by omega) (fun hc1 => ?_) (fun hc1 => ?_)
  · skip
    refine V.aload_n dX8_undo_10 rfl ?_
    refine V.dup dX8_undo_11 rfl ?_
    refine V.get fX8_90 dX8_undo_12 ho rfl ?_
    refine V.re hF1 ?_
    refine V.iconst (v := nI 1) dX8_undo_15 (by decide) ?_
    refine V.isubN dX8_undo_16 (by omega) ?_
    refine V.puti fX8_90 dX8_undo_17 ho (Nat.le_of_ble_eq_true rfl) ?_
    dsimp only [List.set]
    refine V.iconst (v := nI 0) dX8_undo_20 (by decide) ?_
    refine V.istore_n (i := 1) dX8_undo_21 rfl rfl rfl ?_
    dsimp only [List.set]
    exact L (by omega) 0 (by omega) _ (A 5) (by rw [upA_id]; exact MRaw.f1 hM.1 (nI ((tP T).length - 1))) hM.len (fun k hk => absurd hk (Nat.not_lt_zero _)) (VFr.set (by omega) (by omega))
  · skip
    refine V.bipush (v := iI (-2)) dX8_undo_7 (by decide) ?_
    exact V.iret dX8_undo_9 rfl ⟨by unfold a_undo; rw [if_neg (by omega)], by unfold n_undo; rw [if_neg (by omega)]; exact hC, VFr.rf⟩
