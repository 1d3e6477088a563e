set_option maxHeartbeats 1000000 in
theorem c_pass (g : VG) (h : VHp) (c : Nat) (T : Sy) (hC : CAt h c T) (hO : SyOk T) (n : Int) (hn0 : -2147483648 ≤ n ∧ n < 2147483648) : VE g mX7_pass 6 false (0, 0) [.ref c, .int (iI n)] h (CP c (a_pass T n) (n_pass T n) h) := by
  obtain ⟨hc0, hT, ⟨nm, hQ⟩, hR, ⟨Q, hQr⟩, hP, hN, hSe, hCo, hKe⟩ := id hC
  obtain ⟨hOt, hOs, hOn, hOp, hOk, hOns, hOpk, hOkk⟩ := id hO
  have hB := hOs.1
  obtain ⟨lt, hto, hta, htl, htn, hte⟩ := id hT
  obtain ⟨nx, hnx, hpl, hpo, hpa, hp4, hp5⟩ := id hP
  obtain ⟨hka, hkl, hk2, hk3⟩ := id hKe
  obtain ⟨kd, xs, ys, vs, ll, ho, hk, hx, hy, hv, hl, lk, lx, ly, lv, lL, ek, ex, ey, ev, eL⟩ := id hR
  obtain ⟨bn, bW, bH, bP, bL⟩ := id hB
  refine VE.of (by decide) rfl (Nat.le_of_ble_eq_true rfl) ?_
  have L : ∀ i, i ≤ n.toNat → ∀ h1 : VHp, (1 ≤ n ∧ n ≤ 24) → CAt h1 c (tT T, (hoursF (tS T) i), rem T, T.2.2.2) → VFr c (c + 92) h h1 → V (g, mX7_pass, 6, false, h.length, CP c (a_pass T n) (n_pass T n) h) (0, 0) 26 [some (.ref c), some (.int (iI n)), some (.int (nI i))] [] h1 := by
    refine vloop (n.toNat) (fun i ih hi => ?_)
    intro h1 hnn hC1 hf1
    have hcc := hC1.1
    have hR1 : RoomAt h1 (c + 5) (hoursF (tS T) i) := hC1.2.2.2.1
    refine V.iload_n dX7_pass_26 rfl ?_
    refine V.iload_n dX7_pass_27 rfl ?_
    refine V.re (iI_toN (n := n.toNat) (by omega)) ?_
    refine V.icmp_geN 45 dX7_pass_28 (by decide) (by omega) (by omega) (fun hc1 => ?_) (fun hc1 => ?_)
    · skip
      refine V.aload_n dX7_pass_45 rfl ?_
      refine V.get fX7_26 dX7_pass_46 hcc rfl ?_
      refine V.get fX7_150 dX7_pass_49 (RoomAt.obj hR1) rfl ?_
      obtain rfl : i = n.toNat := (by omega)
      exact V.iret dX7_pass_52 rfl ⟨by unfold a_pass; rw [if_pos hnn], by unfold n_pass; rw [if_pos hnn]; exact hC1, hf1⟩
    · skip
      refine V.aload_n dX7_pass_31 rfl ?_
      refine V.get fX7_26 dX7_pass_32 hcc rfl ?_
      refine V.callV (ci := 3) cX7_147 (e_passHour g h1 (c + 5) (hoursF (tS T) i) hR1 (hours_B hB i)) dX7_pass_35 (Nat.le_of_ble_eq_true rfl) rfl (RoomAt.obj hR1) rfl rfl (Nat.le_of_ble_eq_true rfl) (fun v_ h_ hp_ => ?_)
      obtain ⟨rfl, hR3, hf4⟩ := hp_
      dsimp only [Option.toList, List.cons_append, List.nil_append]
      have hC3 := hC1.room hf4 hR3
      refine V.pop dX7_pass_38 rfl ?_
      refine V.iincN (n := 1) dX7_pass_39 rfl rfl rfl ?_
      dsimp only [List.set]
      refine V.goto 26 dX7_pass_42 (by decide) ?_
      exact ih (i + 1) (by omega) (by omega) _ hnn hC3 (hf1.tr (hf4.wide (by omega) (by omega)))
  show V _ _ 0 [some (.ref c), some (.int (iI n)), none] [] h
  refine V.iload_n dX7_pass_0 rfl ?_
  refine V.iconst (v := nI 1) dX7_pass_1 (by decide) ?_
  refine V.toZ1 ?_
  refine V.icmp_ltZ 11 dX7_pass_2 (by decide) (by omega) (by omega) (fun hc1 => ?_) (fun hc1 => ?_)
  · skip
    refine V.iconst (v := iI (-1)) dX7_pass_11 (by decide) ?_
    exact V.iret dX7_pass_12 rfl ⟨by unfold a_pass; rw [if_neg (by omega)], by unfold n_pass; rw [if_neg (by omega)]; exact hC, VFr.rf⟩
  · skip
    refine V.iload_n dX7_pass_5 rfl ?_
    refine V.bipush (v := nI 24) dX7_pass_6 (by decide) ?_
    refine V.toZ1 ?_
    refine V.icmp_leZ 13 dX7_pass_8 (by decide) (by omega) (by omega) (fun hc2 => ?_) (fun hc2 => ?_)
    · skip
      refine V.aload_n dX7_pass_13 rfl ?_
      refine V.get fX7_36 dX7_pass_14 hc0 rfl ?_
      refine V.aload_n dX7_pass_17 rfl ?_
      refine V.get fX7_26 dX7_pass_18 hc0 rfl ?_
      refine V.callV (ci := 1) cX7_144 (e_remember g h (c + 17) (c + 5) (tP T) (tS T) hP hR (by omega)) dX7_pass_21 (Nat.le_of_ble_eq_true rfl) rfl hpo rfl rfl (Nat.le_of_ble_eq_true rfl) (fun v_ h_ hp_ => ?_)
      obtain ⟨rfl, hP2, hf2⟩ := hp_
      dsimp only [Option.toList, List.nil_append]
      have hC2 : CAt h_ c (tT T, tS T, rem T, T.2.2.2) := hC.past hf2 hP2
      replace hc0 := hC2.1
      have hR2 : RoomAt h_ (c + 5) (tS T) := hC2.2.2.2.1
      have hf3 : VFr c (c + 92) h h_ := hf2.wide (by omega) (by omega)
      refine V.iconst (v := nI 0) dX7_pass_24 (by decide) ?_
      refine V.istore_n (i := 2) dX7_pass_25 rfl rfl rfl ?_
      dsimp only [List.set]
      exact L 0 (by omega) _ (by omega) hC2 hf3
    · skip
      refine V.iconst (v := iI (-1)) dX7_pass_11 (by decide) ?_
      exact V.iret dX7_pass_12 rfl ⟨by unfold a_pass; rw [if_neg (by omega)], by unfold n_pass; rw [if_neg (by omega)]; exact hC, VFr.rf⟩

set_option maxHeartbeats 1000000 in
theorem c_settled (g : VG) (h : VHp) (c : Nat) (T : Sy) (hC : CAt h c T) (hO : SyOk T) : VE g mX7_settled 6 false (0, 0) [.ref c] h (CP c (eO (stlF (tS T) 21 0)) T h) := by
  obtain ⟨hc0, hT, ⟨nm, hQ⟩, hR, ⟨Q, hQr⟩, hP, hN, hSe, hCo, hKe⟩ := id hC
  obtain ⟨hOt, hOs, hOn, hOp, hOk, hOns, hOpk, hOkk⟩ := id hO
  have hB := hOs.1
  obtain ⟨lt, hto, hta, htl, htn, hte⟩ := id hT
  obtain ⟨nx, hnx, hpl, hpo, hpa, hp4, hp5⟩ := id hP
  obtain ⟨hka, hkl, hk2, hk3⟩ := id hKe
  obtain ⟨kd, xs, ys, vs, ll, ho, hk, hx, hy, hv, hl, lk, lx, ly, lv, lL, ek, ex, ey, ev, eL⟩ := id hR
  obtain ⟨bn, bW, bH, bP, bL⟩ := id hB
  refine VE.of (by decide) rfl (Nat.le_of_ble_eq_true rfl) ?_
  have L : ∀ i, i ≤ 21 → ∀ h1 : VHp, RoomAt h1 (c + 11) (hoursF (tS T) i) → CAt h1 c T → stlF (tS T) 21 0 = stlF (tS T) (21 - i) i → VFr c (c + 92) h h1 → V (g, mX7_settled, 6, false, h.length, CP c (eO (stlF (tS T) 21 0)) T h) (0, 0) 13 [some (.ref c), some (.int (nI i))] [] h1 := by
    refine vloop (21) (fun i ih hi => ?_)
    intro h1 hR1 hC1 he hf1
    have hcc := hC1.1
    refine V.iload_n dX7_settled_13 rfl ?_
    refine V.bipush (v := nI 20) dX7_settled_14 (by decide) ?_
    refine V.icmp_gtN 37 dX7_settled_16 (by decide) (by omega) (by omega) (fun hc1 => ?_) (fun hc1 => ?_)
    · skip
      refine V.bipush (v := iI (-4)) dX7_settled_37 (by decide) ?_
      exact V.iret dX7_settled_39 rfl ⟨by rw [he, show 21 - i = 0 by omega]; rfl, hC1, hf1⟩
    · skip
      refine V.aload_n dX7_settled_19 rfl ?_
      refine V.get fX7_30 dX7_settled_20 hcc rfl ?_
      refine V.callV (ci := 3) cX7_147 (e_passHour g h1 (c + 11) (hoursF (tS T) i) hR1 (hours_B hB i)) dX7_settled_23 (Nat.le_of_ble_eq_true rfl) rfl (RoomAt.obj hR1) rfl rfl (Nat.le_of_ble_eq_true rfl) (fun v_ h_ hp_ => ?_)
      obtain ⟨rfl, hR3, hf4⟩ := hp_
      dsimp only [Option.toList, List.cons_append, List.nil_append]
      have hC3 := hC1.trial hf4 hR3
      have htb : turnsF (hoursF (tS T) i) ≤ rN (hoursF (tS T) i) := cntP_le _
      have htn2 := (hours_same (S := tS T) i).1
      refine V.if_neN 31 dX7_settled_26 (by decide) (by omega) (fun hc2 => ?_) (fun hc2 => ?_)
      · skip
        refine V.iincN (n := 1) dX7_settled_31 rfl rfl rfl ?_
        dsimp only [List.set]
        refine V.goto 13 dX7_settled_34 (by decide) ?_
        exact ih (i + 1) (by omega) (by omega) _ hR3 hC3 (by rw [he, show 21 - i = (21 - i - 1) + 1 by omega, stl_neg (by omega), show 21 - (i + 1) = 21 - i - 1 by omega]) (hf1.tr (hf4.wide (by omega) (by omega)))
      · skip
        refine V.iload_n dX7_settled_29 rfl ?_
        exact V.iret dX7_settled_30 rfl ⟨by rw [he, show 21 - i = (21 - i - 1) + 1 by omega, stl_pos (by omega)]; rfl, hC3, hf1.tr (hf4.wide (by omega) (by omega))⟩
  show V _ _ 0 [some (.ref c), none] [] h
  refine V.aload_n dX7_settled_0 rfl ?_
  refine V.get fX7_30 dX7_settled_1 hc0 rfl ?_
  refine V.aload_n dX7_settled_4 rfl ?_
  refine V.get fX7_26 dX7_settled_5 hc0 rfl ?_
  refine V.callV (ci := 3) cX7_97 (e_copyFrom g h (c + 11) (c + 5) Q (tS T) hQr hR (by omega)) dX7_settled_8 (Nat.le_of_ble_eq_true rfl) rfl (RoomAt.obj hQr) rfl rfl (Nat.le_of_ble_eq_true rfl) (fun v_ h_ hp_ => ?_)
  obtain ⟨rfl, hR2, hf2⟩ := hp_
  dsimp only [Option.toList, List.nil_append]
  have hC2 := hC.trial hf2 hR2
  have hf3 : VFr c (c + 92) h h_ := hf2.wide (by omega) (by omega)
  replace hc0 := hC2.1
  refine V.iconst (v := nI 0) dX7_settled_11 (by decide) ?_
  refine V.istore_n (i := 1) dX7_settled_12 rfl rfl rfl ?_
  dsimp only [List.set]
  exact L 0 (by omega) _ hR2 hC2 rfl hf3

set_option maxHeartbeats 1000000 in
theorem c_evening (g : VG) (h : VHp) (c : Nat) (T : Sy) (hC : CAt h c T) (hO : SyOk T) (z n w : Int) (hz : -2147483648 ≤ z ∧ z < 2147483648) (hn0 : -2147483648 ≤ n ∧ n < 2147483648) (hw : -2147483648 ≤ w ∧ w < 2147483648) : VE g mX7_evening 6 false (0, 0) [.ref c, .int (iI z), .int (iI n), .int (iI w)] h (CP c (a_evening T z n w) T h) := by
  obtain ⟨hc0, hT, ⟨nm, hQ⟩, hR, ⟨Q, hQr⟩, hP, hN, hSe, hCo, hKe⟩ := id hC
  obtain ⟨hOt, hOs, hOn, hOp, hOk, hOns, hOpk, hOkk⟩ := id hO
  have hB := hOs.1
  obtain ⟨lt, hto, hta, htl, htn, hte⟩ := id hT
  obtain ⟨nx, hnx, hpl, hpo, hpa, hp4, hp5⟩ := id hP
  obtain ⟨hka, hkl, hk2, hk3⟩ := id hKe
  obtain ⟨kd, xs, ys, vs, ll, ho, hk, hx, hy, hv, hl, lk, lx, ly, lv, lL, ek, ex, ey, ev, eL⟩ := id hR
  obtain ⟨bn, bW, bH, bP, bL⟩ := id hB
  refine VE.of (by decide) rfl (Nat.le_of_ble_eq_true rfl) ?_
  have L : ∀ k, k ≤ n.toNat → ∀ h1 : VHp, (((0 ≤ z ∧ z ≤ 9999) ∧ 1 ≤ n ∧ n ≤ 60) ∧ 0 ≤ w ∧ w < ((2 : Nat) : Int)) → RoomAt h1 (c + 11) (evF (tS T) z.toNat k).1 → CAt h1 c T → VFr c (c + 92) h h1 → V (g, mX7_evening, 6, false, h.length, CP c (a_evening T z n w) T h) (0, 0) 49 [some (.ref c), some (.int (iI z)), some (.int (iI n)), some (.int (iI w)), some (.int (nI ((evF (tS T) z.toNat k).2))), some (.int (nI k))] [] h1 := by
    refine vloop (n.toNat) (fun k ih hi => ?_)
    intro h1 hzz hR1 hC1 hf1
    have hcc := hC1.1
    refine V.iload dX7_evening_49 rfl ?_
    refine V.iload_n dX7_evening_51 rfl ?_
    refine V.re (iI_toN (n := n.toNat) (by omega)) ?_
    refine V.icmp_geN 86 dX7_evening_52 (by decide) (by omega) (by omega) (fun hc1 => ?_) (fun hc1 => ?_)
    · skip
      refine V.iload_n dX7_evening_86 rfl ?_
      refine V.if_neZ 100 dX7_evening_87 (by decide) (by omega) (fun hc2 => ?_) (fun hc2 => ?_)
      · skip
        refine V.iload dX7_evening_100 rfl ?_
        obtain rfl : k = n.toNat := (by omega)
        exact V.iret dX7_evening_102 rfl ⟨by unfold a_evening; rw [if_pos hzz]; first | (rw [if_pos (by omega), (ev_B hB z.toNat n.toNat).2]; done) | (rw [if_neg (by omega)]; done), hC1, hf1⟩
      · skip
        refine V.aload_n dX7_evening_90 rfl ?_
        refine V.get fX7_30 dX7_evening_91 hcc rfl ?_
        refine V.callVp (ci := 3) cX7_245 (e_sumOfVanes g h1 (c + 11) (evF (tS T) z.toNat k).1 hR1 (ev_B hB _ _).1) dX7_evening_94 (Nat.le_of_ble_eq_true rfl) rfl (RoomAt.obj hR1) rfl rfl (Nat.le_of_ble_eq_true rfl) ?_
        refine V.goto 102 dX7_evening_97 (by decide) ?_
        obtain rfl : k = n.toNat := (by omega)
        exact V.iret dX7_evening_102 rfl ⟨by unfold a_evening; rw [if_pos hzz]; first | (rw [if_pos (by omega), (ev_B hB z.toNat n.toNat).2]; done) | (rw [if_neg (by omega)]; done), hC1, hf1⟩
    · skip
      refine V.aload_n dX7_evening_55 rfl ?_
      refine V.get fX7_30 dX7_evening_56 hcc rfl ?_
      refine V.iload_n dX7_evening_59 rfl ?_
      refine V.re (iI_toN (n := z.toNat) (by omega)) ?_
      refine V.iload dX7_evening_60 rfl ?_
      refine V.callSp cX7_239 (e_drawFor g h1 z.toNat k (by omega) (by omega)) dX7_evening_62 (Nat.le_of_ble_eq_true rfl) rfl rfl (Nat.le_of_ble_eq_true rfl) ?_
      refine V.callV (ci := 3) cX7_242 (e_actBy g h1 (c + 11) (evF (tS T) z.toNat k).1 hR1 (ev_B hB _ _).1 (drawF z.toNat k) (by rw [(ev_B hB _ _).2]; omega) (drawF_lt _ _)) dX7_evening_65 (Nat.le_of_ble_eq_true rfl) rfl (RoomAt.obj hR1) rfl rfl (Nat.le_of_ble_eq_true rfl) (fun v_ h_ hp_ => ?_)
      obtain ⟨rfl, hR5, hf5⟩ := hp_
      dsimp only [Option.toList, List.nil_append]
      have hC5 := hC1.trial hf5 hR5
      replace hcc := hC5.1
      have hf6 := hf1.tr (hf5.wide (by omega) (by omega))
      refine V.iload dX7_evening_68 rfl ?_
      refine V.aload_n dX7_evening_70 rfl ?_
      refine V.get fX7_30 dX7_evening_71 hcc rfl ?_
      refine V.callV (ci := 3) cX7_147 (e_passHour g _ (c + 11) (actF (evF (tS T) z.toNat k).1 (drawF z.toNat k)) hR5 (act_B (ev_B hB _ _).1 _)) dX7_evening_74 (Nat.le_of_ble_eq_true rfl) rfl (RoomAt.obj hR5) rfl rfl (Nat.le_of_ble_eq_true rfl) (fun v_ h_ hp_ => ?_)
      obtain ⟨rfl, hR7, hf7⟩ := hp_
      dsimp only [Option.toList, List.cons_append, List.nil_append]
      have hC7 := hC5.trial hf7 hR7
      refine V.iaddN dX7_evening_77 ?_
      refine V.istore dX7_evening_78 rfl rfl ?_
      dsimp only [List.set]
      refine V.iincN (n := 1) dX7_evening_80 rfl rfl rfl ?_
      dsimp only [List.set]
      refine V.goto 49 dX7_evening_83 (by decide) ?_
      exact ih (k + 1) (by omega) (by omega) _ hzz hR7 hC7 (hf6.tr (hf7.wide (by omega) (by omega)))
  show V _ _ 0 [some (.ref c), some (.int (iI z)), some (.int (iI n)), some (.int (iI w)), none, none] [] h
  refine V.iload_n dX7_evening_0 rfl ?_
  refine V.if_ltZ 30 dX7_evening_1 (by decide) (by omega) (fun hc1 => ?_) (fun hc1 => ?_)
  · skip
    refine V.iconst (v := iI (-1)) dX7_evening_30 (by decide) ?_
    exact V.iret dX7_evening_31 rfl ⟨by unfold a_evening; rw [if_neg (by omega)], hC, VFr.rf⟩
  · skip
    refine V.iload_n dX7_evening_4 rfl ?_
    refine V.sipush (v := nI 9999) dX7_evening_5 (by decide) ?_
    refine V.toZ1 ?_
    refine V.icmp_gtZ 30 dX7_evening_8 (by decide) (by omega) (by omega) (fun hc2 => ?_) (fun hc2 => ?_)
    · skip
      refine V.iconst (v := iI (-1)) dX7_evening_30 (by decide) ?_
      exact V.iret dX7_evening_31 rfl ⟨by unfold a_evening; rw [if_neg (by omega)], hC, VFr.rf⟩
    · skip
      refine V.iload_n dX7_evening_11 rfl ?_
      refine V.iconst (v := nI 1) dX7_evening_12 (by decide) ?_
      refine V.toZ1 ?_
      refine V.icmp_ltZ 30 dX7_evening_13 (by decide) (by omega) (by omega) (fun hc3 => ?_) (fun hc3 => ?_)
      · skip
        refine V.iconst (v := iI (-1)) dX7_evening_30 (by decide) ?_
        exact V.iret dX7_evening_31 rfl ⟨by unfold a_evening; rw [if_neg (by omega)], hC, VFr.rf⟩
      · skip
        refine V.iload_n dX7_evening_16 rfl ?_
        refine V.bipush (v := nI 60) dX7_evening_17 (by decide) ?_
        refine V.toZ1 ?_
        refine V.icmp_gtZ 30 dX7_evening_19 (by decide) (by omega) (by omega) (fun hc4 => ?_) (fun hc4 => ?_)
        · skip
          refine V.iconst (v := iI (-1)) dX7_evening_30 (by decide) ?_
          exact V.iret dX7_evening_31 rfl ⟨by unfold a_evening; rw [if_neg (by omega)], hC, VFr.rf⟩
        · skip
          refine V.iload_n dX7_evening_22 rfl ?_
          refine V.iconst (v := nI 2) dX7_evening_23 (by decide) ?_
          refine V.toZ1 ?_
          refine V.callSp cX7_153 (e_isBelow g h _ _ (by omega) (by omega)) dX7_evening_24 (Nat.le_of_ble_eq_true rfl) rfl rfl (Nat.le_of_ble_eq_true rfl) ?_
          refine V.if_neB 32 dX7_evening_27 (by decide) (fun hc5 => ?_) (fun hc5 => ?_)
          · skip
            refine V.aload_n dX7_evening_32 rfl ?_
            refine V.get fX7_30 dX7_evening_33 hc0 rfl ?_
            refine V.aload_n dX7_evening_36 rfl ?_
            refine V.get fX7_26 dX7_evening_37 hc0 rfl ?_
            refine V.callV (ci := 3) cX7_97 (e_copyFrom g h (c + 11) (c + 5) Q (tS T) hQr hR (by omega)) dX7_evening_40 (Nat.le_of_ble_eq_true rfl) rfl (RoomAt.obj hQr) rfl rfl (Nat.le_of_ble_eq_true rfl) (fun v_ h_ hp_ => ?_)
            obtain ⟨rfl, hR2, hf2⟩ := hp_
            dsimp only [Option.toList, List.nil_append]
            have hC2 := hC.trial hf2 hR2
            have hf3 : VFr c (c + 92) h h_ := hf2.wide (by omega) (by omega)
            replace hc0 := hC2.1
            refine V.iconst (v := nI 0) dX7_evening_43 (by decide) ?_
            refine V.istore dX7_evening_44 rfl rfl ?_
            dsimp only [List.set]
            refine V.iconst (v := nI 0) dX7_evening_46 (by decide) ?_
            refine V.istore dX7_evening_47 rfl rfl ?_
            dsimp only [List.set]
            exact L 0 (by omega) _ (by omega) hR2 hC2 hf3
          · skip
            refine V.iconst (v := iI (-1)) dX7_evening_30 (by decide) ?_
            exact V.iret dX7_evening_31 rfl ⟨by unfold a_evening; rw [if_neg (by omega)], hC, VFr.rf⟩

set_option maxHeartbeats 1000000 in
theorem c_loves (g : VG) (h : VHp) (c : Nat) (T : Sy) (hC : CAt h c T) (hO : SyOk T) (p w : Int) (hp : -2147483648 ≤ p ∧ p < 2147483648) (hw : -2147483648 ≤ w ∧ w < 2147483648) : VE g mX7_loves 6 false (0, 0) [.ref c, .int (iI p), .int (iI w)] h (CP c (a_loves T p w) T h) := by
  obtain ⟨hc0, hT, ⟨nm, hQ⟩, hR, ⟨Q, hQr⟩, hP, hN, hSe, hCo, hKe⟩ := id hC
  obtain ⟨hOt, hOs, hOn, hOp, hOk, hOns, hOpk, hOkk⟩ := id hO
  have hB := hOs.1
  obtain ⟨lt, hto, hta, htl, htn, hte⟩ := id hT
  obtain ⟨nx, hnx, hpl, hpo, hpa, hp4, hp5⟩ := id hP
  obtain ⟨hka, hkl, hk2, hk3⟩ := id hKe
  obtain ⟨kd, xs, ys, vs, ll, ho, hk, hx, hy, hv, hl, lk, lx, ly, lv, lL, ek, ex, ey, ev, eL⟩ := id hR
  obtain ⟨bn, bW, bH, bP, bL⟩ := id hB
  refine VE.of (by decide) rfl (Nat.le_of_ble_eq_true rfl) ?_
  have L : ∀ q, q ≤ rN (tS T) → ∀ (h1 : VHp) (Sx : Rm), (isP T p ∧ 0 ≤ w ∧ w < ((8 : Nat) : Int)) → RoomAt h1 (c + 11) Sx → RmB Sx → rN Sx = rN (tS T) → (∀ q, rAlone Sx p.toNat q (rN (tS T)) = rAlone (tS T) p.toNat q (rN (tS T))) → CAt h1 c T → VFr c (c + 92) h h1 → V (g, mX7_loves, 6, false, h.length, CP c (a_loves T p w) T h) (0, 0) 38 [some (.ref c), some (.int (iI p)), some (.int (iI w)), some (.int (nI (bitsF (fun q => loveP (tS T) p.toNat w.toNat q) q))), some (.int (nI q))] [] h1 := by
    refine vloop (rN (tS T)) (fun q ih hi => ?_)
    intro h1 Sx hpw hR1 hBx hnx hal hC1 hf1
    have hcc := hC1.1
    have hdl : ∀ q w9, draftF (rAlone (tS T) p.toNat q (rN (tS T))) p.toNat = some w9 → w9 < 1000 := fun q w9 z => by have := draftF_lt z; omega
    refine V.iload dX7_loves_38 rfl ?_
    refine V.aload_n dX7_loves_40 rfl ?_
    refine V.get fX7_26 dX7_loves_41 hcc rfl ?_
    refine V.get fX7_94 dX7_loves_44 (RoomAt.obj hC1.2.2.2.1) rfl ?_
    refine V.icmp_geN 94 dX7_loves_47 (by decide) (by omega) (by omega) (fun hc1 => ?_) (fun hc1 => ?_)
    · skip
      refine V.iload_n dX7_loves_94 rfl ?_
      obtain rfl : q = rN (tS T) := (by omega)
      exact V.iret dX7_loves_95 rfl ⟨by unfold a_loves; rw [if_pos hpw], hC1, hf1⟩
    · skip
      refine V.iload dX7_loves_50 rfl ?_
      refine V.iload_n dX7_loves_52 rfl ?_
      refine V.re (iI_toN (n := p.toNat) (by omega)) ?_
      refine V.icmp_neN 59 dX7_loves_53 (by decide) (by omega) (by omega) (fun hc2 => ?_) (fun hc2 => ?_)
      · skip
        refine V.aload_n dX7_loves_59 rfl ?_
        refine V.get fX7_30 dX7_loves_60 hcc rfl ?_
        refine V.iload_n dX7_loves_63 rfl ?_
        refine V.re (iI_toN (n := p.toNat) (by omega)) ?_
        refine V.iload dX7_loves_64 rfl ?_
        refine V.callV (ci := 3) cX7_226 (e_leanTowardAlone g h1 (c + 11) Sx hR1 hBx p.toNat q (by omega) (by omega)) dX7_loves_66 (Nat.le_of_ble_eq_true rfl) rfl (RoomAt.obj hR1) rfl rfl (Nat.le_of_ble_eq_true rfl) (fun v_ h_ hp_ => ?_)
        obtain ⟨rfl, hR5, hf5⟩ := hp_
        dsimp only [Option.toList, List.nil_append]
        rw [hnx, hal] at hR5
        have hC5 := hC1.trial hf5 hR5
        replace hcc := hC5.1
        have hf6 := hf1.tr (hf5.wide (by omega) (by omega))
        have hBq : RmB (rAlone (tS T) p.toNat q (rN (tS T))) := alone_B hB
        refine V.aload_n dX7_loves_69 rfl ?_
        refine V.get fX7_30 dX7_loves_70 hcc rfl ?_
        refine V.iload_n dX7_loves_73 rfl ?_
        refine V.re (iI_toN (n := p.toNat) (by omega)) ?_
        refine V.callVp (ci := 3) cX7_120 (e_draft g _ (c + 11) (rAlone (tS T) p.toNat q (rN (tS T))) hR5 hBq p.toNat (by show _ < rN (tS T); omega)) dX7_loves_74 (Nat.le_of_ble_eq_true rfl) rfl (RoomAt.obj hR5) rfl rfl (Nat.le_of_ble_eq_true rfl) ?_
        refine V.iload_n dX7_loves_77 rfl ?_
        refine V.re (iI_toN (n := w.toNat) (by omega)) ?_
        refine V.icmp_ne 88 dX7_loves_78 (by decide) (fun hc3 => ?_) (fun hc3 => ?_)
        · skip
          have hlv : ¬ loveP (tS T) p.toNat w.toNat q := fun z => hc3 ((eO_some (hdl q) (by omega)).mpr z.2)
          refine V.iincN (n := 1) dX7_loves_88 rfl rfl rfl ?_
          dsimp only [List.set]
          refine V.goto 38 dX7_loves_91 (by decide) ?_
          first | (have z := ih (q + 1) (by omega) (by omega) _ (rAlone (tS T) p.toNat q (rN (tS T))) hpw hR5 (alone_B hB) rfl (fun q9 => alone_alone) hC5 hf6; first | (rw [bits_pos (P := fun q => loveP (tS T) p.toNat w.toNat q) (n := q) hlv] at z; exact z) | (rw [bits_neg (P := fun q => loveP (tS T) p.toNat w.toNat q) (n := q) hlv] at z; exact z)) | (have z := ih (q + 1) (by omega) (by omega) _ Sx hpw hR1 hBx hnx hal hC1 hf1; rw [bits_neg (P := fun q => loveP (tS T) p.toNat w.toNat q) (n := q) hlv] at z; exact z)
        · skip
          have hlv : loveP (tS T) p.toNat w.toNat q := ⟨by omega, (eO_some (hdl q) (by omega)).mp hc3⟩
          refine V.iload_n dX7_loves_81 rfl ?_
          refine V.iconst (v := nI 1) dX7_loves_82 (by decide) ?_
          refine V.iload dX7_loves_83 rfl ?_
          refine V.ishlN dX7_loves_85 (p2_lt (by omega)) (by omega) ?_
          refine V.iorN dX7_loves_86 ?_
          refine V.istore_n (i := 3) dX7_loves_87 rfl rfl rfl ?_
          dsimp only [List.set]
          refine V.iincN (n := 1) dX7_loves_88 rfl rfl rfl ?_
          dsimp only [List.set]
          refine V.goto 38 dX7_loves_91 (by decide) ?_
          first | (have z := ih (q + 1) (by omega) (by omega) _ (rAlone (tS T) p.toNat q (rN (tS T))) hpw hR5 (alone_B hB) rfl (fun q9 => alone_alone) hC5 hf6; first | (rw [bits_pos (P := fun q => loveP (tS T) p.toNat w.toNat q) (n := q) hlv] at z; exact z) | (rw [bits_neg (P := fun q => loveP (tS T) p.toNat w.toNat q) (n := q) hlv] at z; exact z)) | (have z := ih (q + 1) (by omega) (by omega) _ Sx hpw hR1 hBx hnx hal hC1 hf1; rw [bits_neg (P := fun q => loveP (tS T) p.toNat w.toNat q) (n := q) hlv] at z; exact z)
      · skip
        have hlv : ¬ loveP (tS T) p.toNat w.toNat q := fun z => z.1 hc2
        refine V.goto 88 dX7_loves_56 (by decide) ?_
        refine V.iincN (n := 1) dX7_loves_88 rfl rfl rfl ?_
        dsimp only [List.set]
        refine V.goto 38 dX7_loves_91 (by decide) ?_
        first | (have z := ih (q + 1) (by omega) (by omega) _ (rAlone (tS T) p.toNat q (rN (tS T))) hpw hR5 (alone_B hB) rfl (fun q9 => alone_alone) hC5 hf6; first | (rw [bits_pos (P := fun q => loveP (tS T) p.toNat w.toNat q) (n := q) hlv] at z; exact z) | (rw [bits_neg (P := fun q => loveP (tS T) p.toNat w.toNat q) (n := q) hlv] at z; exact z)) | (have z := ih (q + 1) (by omega) (by omega) _ Sx hpw hR1 hBx hnx hal hC1 hf1; rw [bits_neg (P := fun q => loveP (tS T) p.toNat w.toNat q) (n := q) hlv] at z; exact z)
  show V _ _ 0 [some (.ref c), some (.int (iI p)), some (.int (iI w)), none, none] [] h
  refine V.aload_n dX7_loves_0 rfl ?_
  refine V.get fX7_26 dX7_loves_1 hc0 rfl ?_
  refine V.iload_n dX7_loves_4 rfl ?_
  refine V.callVp (ci := 3) cX7_103 (e_has g h (c + 5) (tS T) hR hB p (by omega)) dX7_loves_5 (Nat.le_of_ble_eq_true rfl) rfl ho rfl rfl (Nat.le_of_ble_eq_true rfl) ?_
  refine V.if_eqB 20 dX7_loves_8 (by decide) (fun hc1 => ?_) (fun hc1 => ?_)
  · skip
    refine V.iconst (v := iI (-1)) dX7_loves_20 (by decide) ?_
    exact V.iret dX7_loves_21 rfl ⟨by unfold a_loves; rw [if_neg (by omega)], hC, VFr.rf⟩
  · skip
    refine V.iload_n dX7_loves_11 rfl ?_
    refine V.bipush (v := nI 8) dX7_loves_12 (by decide) ?_
    refine V.toZ1 ?_
    refine V.callSp cX7_153 (e_isBelow g h _ _ (by omega) (by omega)) dX7_loves_14 (Nat.le_of_ble_eq_true rfl) rfl rfl (Nat.le_of_ble_eq_true rfl) ?_
    refine V.if_neB 22 dX7_loves_17 (by decide) (fun hc2 => ?_) (fun hc2 => ?_)
    · skip
      refine V.iconst (v := nI 0) dX7_loves_22 (by decide) ?_
      refine V.istore_n (i := 3) dX7_loves_23 rfl rfl rfl ?_
      dsimp only [List.set]
      refine V.aload_n dX7_loves_24 rfl ?_
      refine V.get fX7_30 dX7_loves_25 hc0 rfl ?_
      refine V.aload_n dX7_loves_28 rfl ?_
      refine V.get fX7_26 dX7_loves_29 hc0 rfl ?_
      refine V.callV (ci := 3) cX7_97 (e_copyFrom g h (c + 11) (c + 5) Q (tS T) hQr hR (by omega)) dX7_loves_32 (Nat.le_of_ble_eq_true rfl) rfl (RoomAt.obj hQr) rfl rfl (Nat.le_of_ble_eq_true rfl) (fun v_ h_ hp_ => ?_)
      obtain ⟨rfl, hR2, hf2⟩ := hp_
      dsimp only [Option.toList, List.nil_append]
      have hC2 := hC.trial hf2 hR2
      have hf3 : VFr c (c + 92) h h_ := hf2.wide (by omega) (by omega)
      replace hc0 := hC2.1
      refine V.iconst (v := nI 0) dX7_loves_35 (by decide) ?_
      refine V.istore dX7_loves_36 rfl rfl ?_
      dsimp only [List.set]
      exact L 0 (by omega) _ (tS T) (by omega) hR2 hB rfl (fun q9 => rfl) hC2 hf3
    · skip
      refine V.iconst (v := iI (-1)) dX7_loves_20 (by decide) ?_
      exact V.iret dX7_loves_21 rfl ⟨by unfold a_loves; rw [if_neg (by omega)], hC, VFr.rf⟩

set_option maxHeartbeats 1000000 in
theorem c_keep (g : VG) (h : VHp) (c : Nat) (T : Sy) (hC : CAt h c T) (hO : SyOk T) : VE g mX7_keep 2 false (0, 0) [.ref c] h (CP c (a_keep T) (n_keep T) h) := by
  obtain ⟨hc0, hT, ⟨nm, hQ⟩, hR, ⟨Q, hQr⟩, hP, hN, hSe, hCo, hKe⟩ := id hC
  obtain ⟨hOt, hOs, hOn, hOp, hOk, hOns, hOpk, hOkk⟩ := id hO
  have hB := hOs.1
  obtain ⟨lt, hto, hta, htl, htn, hte⟩ := id hT
  obtain ⟨nx, hnx, hpl, hpo, hpa, hp4, hp5⟩ := id hP
  obtain ⟨hka, hkl, hk2, hk3⟩ := id hKe
  obtain ⟨kd, xs, ys, vs, ll, ho, hk, hx, hy, hv, hl, lk, lx, ly, lv, lL, ek, ex, ey, ev, eL⟩ := id hR
  obtain ⟨bn, bW, bH, bP, bL⟩ := id hB
  refine VE.of (by decide) rfl (Nat.le_of_ble_eq_true rfl) ?_
  show V _ _ 0 [some (.ref c)] [] h
  refine V.aload_n dX7_keep_0 rfl ?_
  refine V.get fX7_65 dX7_keep_1 hc0 rfl ?_
  refine V.iconst (v := nI 2) dX7_keep_4 (by decide) ?_
  refine V.icmp_ltN 11 dX7_keep_5 (by decide) (by omega) (by omega) (fun hc1 => ?_) (fun hc1 => ?_)
  · skip
    obtain ⟨Qk, hQk⟩ := hk2 (tK T).length (by omega)
    refine V.aload_n dX7_keep_11 rfl ?_
    refine V.get fX7_61 dX7_keep_12 hc0 rfl ?_
    refine V.aload_n dX7_keep_15 rfl ?_
    refine V.get fX7_65 dX7_keep_16 hc0 rfl ?_
    refine V.aald dX7_keep_19 hka rfl (by omega) (kp_at (c + 79) _ (by omega)) ?_
    refine V.aload_n dX7_keep_20 rfl ?_
    refine V.get fX7_26 dX7_keep_21 hc0 rfl ?_
    refine V.callV (ci := 3) cX7_97 (e_copyFrom g h (c + 79 + 1 + 6 * (tK T).length) (c + 5) Qk (tS T) hQk hR (by omega)) dX7_keep_24 (Nat.le_of_ble_eq_true rfl) rfl (RoomAt.obj hQk) rfl rfl (Nat.le_of_ble_eq_true rfl) (fun v_ h_ hp_ => ?_)
    obtain ⟨rfl, hR2, hf2⟩ := hp_
    dsimp only [Option.toList, List.nil_append]
    obtain ⟨hC2, hk4⟩ := hC.keepR (by omega) hf2 hR2
    have hC3 := hC2.count (ks := tK T ++ [tS T]) (by rw [List.length_append]; simp only [List.length_cons, List.length_nil]; omega) hk4
    rw [show (tK T ++ [tS T]).length = (tK T).length + 1 from by rw [List.length_append]; rfl] at hC3
    have hf3 : VFr c (c + 92) h h_ := hf2.wide (by omega) (by omega)
    replace hc0 := hC2.1
    refine V.aload_n dX7_keep_27 rfl ?_
    refine V.dup dX7_keep_28 rfl ?_
    refine V.get fX7_65 dX7_keep_29 hc0 rfl ?_
    refine V.iconst (v := nI 1) dX7_keep_32 (by decide) ?_
    refine V.iaddN dX7_keep_33 ?_
    refine V.puti fX7_65 dX7_keep_34 hc0 (Nat.le_of_ble_eq_true rfl) ?_
    dsimp only [List.set]
    have hf4 := hf3.tr (VFr.set (lo := c) (hi := c + 92) (a := c) (c := Sum.inr (Sum.inr (7, [Value.ref (c + 1), Value.ref (c + 3), Value.ref (c + 5), Value.ref (c + 11), Value.ref (c + 17), Value.ref (c + 67), Value.ref (c + 71), Value.ref (c + 77), Value.ref (c + 79), Value.int (nI ((tK T).length + 1))]))) (by omega) (by omega))
    have hc3 := vset_eq (c := Sum.inr (Sum.inr (7, [Value.ref (c + 1), Value.ref (c + 3), Value.ref (c + 5), Value.ref (c + 11), Value.ref (c + 17), Value.ref (c + 67), Value.ref (c + 71), Value.ref (c + 77), Value.ref (c + 79), Value.int (nI ((tK T).length + 1))]))) hc0
    refine V.aload_n dX7_keep_37 rfl ?_
    refine V.get fX7_65 dX7_keep_38 hc3 rfl ?_
    exact V.iret dX7_keep_41 rfl ⟨by first | (exfalso; omega) | (unfold a_keep; (repeat first | rw [if_pos (by first | omega | assumption)] | rw [if_neg (by first | omega | assumption)]); try rfl), by first | (exfalso; omega) | (unfold n_keep; (repeat first | rw [if_pos (by first | omega | assumption)] | rw [if_neg (by first | omega | assumption)]); exact hC3), hf4⟩
  · skip
    refine V.bipush (v := iI (-3)) dX7_keep_8 (by decide) ?_
    exact V.iret dX7_keep_10 rfl ⟨by first | (exfalso; omega) | (unfold a_keep; (repeat first | rw [if_pos (by first | omega | assumption)] | rw [if_neg (by first | omega | assumption)]); try rfl), by first | (exfalso; omega) | (unfold n_keep; (repeat first | rw [if_pos (by first | omega | assumption)] | rw [if_neg (by first | omega | assumption)]); exact hC), VFr.rf⟩
