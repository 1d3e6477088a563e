set_option maxHeartbeats 1000000 in
theorem c_toward (g : VG) (h : VHp) (c : Nat) (T : Sy) (hC : CAt h c T) (hO : SyOk T) (p : Int) (hp : -2147483648 ≤ p ∧ p < 2147483648) : VE g mX7_toward 4 false (0, 0) [.ref c, .int (iI p)] h (VP (a_toward T p) h) := by
  obtain ⟨hc0, hT, ⟨nm, hQ⟩, hR, ⟨Q, hQr⟩, hP, hN, hSe, hCo, hKe⟩ := id hC
  obtain ⟨hOt, hOs, hOn, hOp, hOk, hOns, hOpk, hOkk⟩ := id hO
  have hB := hOs.1
  obtain ⟨lt, hto, hta, htl, htn, hte⟩ := id hT
  obtain ⟨nx, hnx, hpl, hpo, hpa, hp4, hp5⟩ := id hP
  obtain ⟨hka, hkl, hk2, hk3⟩ := id hKe
  obtain ⟨kd, xs, ys, vs, ll, ho, hk, hx, hy, hv, hl, lk, lx, ly, lv, lL, ek, ex, ey, ev, eL⟩ := id hR
  obtain ⟨bn, bW, bH, bP, bL⟩ := id hB
  refine VE.of (by decide) rfl (Nat.le_of_ble_eq_true rfl) ?_
  have L : ∀ i, i ≤ rN (tS T) → isP T p → V (g, mX7_toward, 4, false, h.length, VP (a_toward T p) h) (0, 0) 17 [some (.ref c), some (.int (iI p)), some (.int (nI (bitsF (fun q => tellF (tS T) p.toNat q) i))), some (.int (nI i))] [] h := by
    refine vloop (rN (tS T)) (fun i ih hi => ?_)
    intro hpp
    refine V.iload_n dX7_toward_17 rfl ?_
    refine V.aload_n dX7_toward_18 rfl ?_
    refine V.get fX7_26 dX7_toward_19 hc0 rfl ?_
    refine V.get fX7_94 dX7_toward_22 ho rfl ?_
    refine V.icmp_geN 52 dX7_toward_25 (by decide) (by omega) (by omega) (fun hc1 => ?_) (fun hc1 => ?_)
    · skip
      refine V.iload_n dX7_toward_52 rfl ?_
      obtain rfl : i = rN (tS T) := (by omega)
      exact V.iret dX7_toward_53 rfl ⟨by unfold a_toward; rw [if_pos hpp], rfl⟩
    · skip
      refine V.aload_n dX7_toward_28 rfl ?_
      refine V.get fX7_26 dX7_toward_29 hc0 rfl ?_
      refine V.iload_n dX7_toward_32 rfl ?_
      refine V.re (iI_toN (n := p.toNat) (by omega)) ?_
      refine V.iload_n dX7_toward_33 rfl ?_
      refine V.callVp (ci := 3) cX7_176 (e_tellsToward g h (c + 5) (tS T) hR hB p.toNat i (by omega) (by omega)) dX7_toward_34 (Nat.le_of_ble_eq_true rfl) rfl ho rfl rfl (Nat.le_of_ble_eq_true rfl) ?_
      refine V.if_eqB 46 dX7_toward_37 (by decide) (fun hc2 => ?_) (fun hc2 => ?_)
      · skip
        refine V.iincN (n := 1) dX7_toward_46 rfl rfl rfl ?_
        dsimp only [List.set]
        refine V.goto 17 dX7_toward_49 (by decide) ?_
        have z := ih (i + 1) (by omega) (by omega) hpp
        first | (rw [bits_pos (P := fun q => tellF (tS T) p.toNat q) (n := i) (by assumption)] at z; exact z) | (rw [bits_neg (P := fun q => tellF (tS T) p.toNat q) (n := i) (by assumption)] at z; exact z)
      · skip
        refine V.iload_n dX7_toward_40 rfl ?_
        refine V.iconst (v := nI 1) dX7_toward_41 (by decide) ?_
        refine V.iload_n dX7_toward_42 rfl ?_
        refine V.ishlN dX7_toward_43 (p2_lt (by omega)) (by omega) ?_
        refine V.iorN dX7_toward_44 ?_
        refine V.istore_n (i := 2) dX7_toward_45 rfl rfl rfl ?_
        dsimp only [List.set]
        refine V.iincN (n := 1) dX7_toward_46 rfl rfl rfl ?_
        dsimp only [List.set]
        refine V.goto 17 dX7_toward_49 (by decide) ?_
        have z := ih (i + 1) (by omega) (by omega) hpp
        first | (rw [bits_pos (P := fun q => tellF (tS T) p.toNat q) (n := i) (by assumption)] at z; exact z) | (rw [bits_neg (P := fun q => tellF (tS T) p.toNat q) (n := i) (by assumption)] at z; exact z)
  show V _ _ 0 [some (.ref c), some (.int (iI p)), none, none] [] h
  refine V.aload_n dX7_toward_0 rfl ?_
  refine V.get fX7_26 dX7_toward_1 hc0 rfl ?_
  refine V.iload_n dX7_toward_4 rfl ?_
  refine V.callVp (ci := 3) cX7_103 (e_has g h (c + 5) (tS T) hR hB p (by omega)) dX7_toward_5 (Nat.le_of_ble_eq_true rfl) rfl ho rfl rfl (Nat.le_of_ble_eq_true rfl) ?_
  refine V.if_neB 13 dX7_toward_8 (by decide) (fun hc1 => ?_) (fun hc1 => ?_)
  · skip
    have hpp := hc1
    refine V.iconst (v := nI 0) dX7_toward_13 (by decide) ?_
    refine V.istore_n (i := 2) dX7_toward_14 rfl rfl rfl ?_
    dsimp only [List.set]
    refine V.iconst (v := nI 0) dX7_toward_15 (by decide) ?_
    refine V.istore_n (i := 3) dX7_toward_16 rfl rfl rfl ?_
    dsimp only [List.set]
    exact L 0 (by omega) hpp
  · skip
    have hpp := hc1
    refine V.iconst (v := iI (-1)) dX7_toward_11 (by decide) ?_
    exact V.iret dX7_toward_12 rfl ⟨by unfold a_toward; rw [if_neg hpp], rfl⟩

set_option maxHeartbeats 1000000 in
theorem c_looked (g : VG) (h : VHp) (c : Nat) (T : Sy) (hC : CAt h c T) (hO : SyOk T) (w : Int) (hw : -2147483648 ≤ w ∧ w < 2147483648) : VE g mX7_looked 4 false (0, 0) [.ref c, .int (iI w)] h (VP (a_looked T w) h) := by
  obtain ⟨hc0, hT, ⟨nm, hQ⟩, hR, ⟨Q, hQr⟩, hP, hN, hSe, hCo, hKe⟩ := id hC
  obtain ⟨hOt, hOs, hOn, hOp, hOk, hOns, hOpk, hOkk⟩ := id hO
  have hB := hOs.1
  obtain ⟨lt, hto, hta, htl, htn, hte⟩ := id hT
  obtain ⟨nx, hnx, hpl, hpo, hpa, hp4, hp5⟩ := id hP
  obtain ⟨hka, hkl, hk2, hk3⟩ := id hKe
  obtain ⟨kd, xs, ys, vs, ll, ho, hk, hx, hy, hv, hl, lk, lx, ly, lv, lL, ek, ex, ey, ev, eL⟩ := id hR
  obtain ⟨bn, bW, bH, bP, bL⟩ := id hB
  refine VE.of (by decide) rfl (Nat.le_of_ble_eq_true rfl) ?_
  have L : ∀ q, q ≤ rN (tS T) → ∀ v5 : Option Value, (0 ≤ w ∧ w < ((2 : Nat) : Int)) → V (g, mX7_looked, 4, false, h.length, VP (a_looked T w) h) (0, 0) 17 [some (.ref c), some (.int (iI w)), some (.int (nI ((lookF (tS T) q).1))), some (.int (nI ((lookF (tS T) q).2))), some (.int (nI q)), v5] [] h := by
    refine vloop (rN (tS T)) (fun q ih hi => ?_)
    intro v5 hww
    refine V.iload dX7_looked_17 rfl ?_
    refine V.aload_n dX7_looked_19 rfl ?_
    refine V.get fX7_26 dX7_looked_20 hc0 rfl ?_
    refine V.get fX7_94 dX7_looked_23 ho rfl ?_
    refine V.icmp_geN 58 dX7_looked_26 (by decide) (by omega) (by omega) (fun hc1 => ?_) (fun hc1 => ?_)
    · skip
      refine V.iload_n dX7_looked_58 rfl ?_
      refine V.if_neZ 66 dX7_looked_59 (by decide) (by omega) (fun hc2 => ?_) (fun hc2 => ?_)
      · skip
        refine V.iload_n dX7_looked_66 rfl ?_
        obtain rfl : q = rN (tS T) := (by omega)
        exact V.iret dX7_looked_67 rfl ⟨by unfold a_looked; rw [if_pos hww]; first | rw [if_pos (by omega)] | rw [if_neg (by omega)], rfl⟩
      · skip
        refine V.iload_n dX7_looked_62 rfl ?_
        refine V.goto 67 dX7_looked_63 (by decide) ?_
        obtain rfl : q = rN (tS T) := (by omega)
        exact V.iret dX7_looked_67 rfl ⟨by unfold a_looked; rw [if_pos hww]; first | rw [if_pos (by omega)] | rw [if_neg (by omega)], rfl⟩
    · skip
      have hcl := cntP_le (P := fun i => tellF (tS T) i q) (rN (tS T))
      have hlk := look_le (S := tS T) q
      refine V.aload_n dX7_looked_29 rfl ?_
      refine V.get fX7_26 dX7_looked_30 hc0 rfl ?_
      refine V.iload dX7_looked_33 rfl ?_
      refine V.callVp (ci := 3) cX7_179 (e_lookersAt g h (c + 5) (tS T) hR hB q (by omega)) dX7_looked_35 (Nat.le_of_ble_eq_true rfl) rfl ho rfl rfl (Nat.le_of_ble_eq_true rfl) ?_
      refine V.istore dX7_looked_38 rfl rfl ?_
      dsimp only [List.set]
      refine V.iload dX7_looked_40 rfl ?_
      refine V.iload_n dX7_looked_42 rfl ?_
      refine V.icmp_leN 52 dX7_looked_43 (by decide) (by omega) (by omega) (fun hc3 => ?_) (fun hc3 => ?_)
      · skip
        refine V.iincN (n := 1) dX7_looked_52 rfl rfl rfl ?_
        dsimp only [List.set]
        refine V.goto 17 dX7_looked_55 (by decide) ?_
        have z := fun u => ih (q + 1) (by omega) (by omega) u hww
        first | (rw [look_pos (by assumption)] at z; exact z _) | (rw [look_neg (by omega)] at z; exact z _)
      · skip
        refine V.iload dX7_looked_46 rfl ?_
        refine V.istore_n (i := 2) dX7_looked_48 rfl rfl rfl ?_
        dsimp only [List.set]
        refine V.iload dX7_looked_49 rfl ?_
        refine V.istore_n (i := 3) dX7_looked_51 rfl rfl rfl ?_
        dsimp only [List.set]
        refine V.iincN (n := 1) dX7_looked_52 rfl rfl rfl ?_
        dsimp only [List.set]
        refine V.goto 17 dX7_looked_55 (by decide) ?_
        have z := fun u => ih (q + 1) (by omega) (by omega) u hww
        first | (rw [look_pos (by assumption)] at z; exact z _) | (rw [look_neg (by omega)] at z; exact z _)
  show V _ _ 0 [some (.ref c), some (.int (iI w)), none, none, none, none] [] h
  refine V.iload_n dX7_looked_0 rfl ?_
  refine V.iconst (v := nI 2) dX7_looked_1 (by decide) ?_
  refine V.toZ1 ?_
  refine V.callSp cX7_153 (e_isBelow g h _ _ (by omega) (by omega)) dX7_looked_2 (Nat.le_of_ble_eq_true rfl) rfl rfl (Nat.le_of_ble_eq_true rfl) ?_
  refine V.if_neB 10 dX7_looked_5 (by decide) (fun hc1 => ?_) (fun hc1 => ?_)
  · skip
    refine V.iconst (v := nI 0) dX7_looked_10 (by decide) ?_
    refine V.istore_n (i := 2) dX7_looked_11 rfl rfl rfl ?_
    dsimp only [List.set]
    refine V.iconst (v := nI 0) dX7_looked_12 (by decide) ?_
    refine V.istore_n (i := 3) dX7_looked_13 rfl rfl rfl ?_
    dsimp only [List.set]
    refine V.iconst (v := nI 0) dX7_looked_14 (by decide) ?_
    refine V.istore dX7_looked_15 rfl rfl ?_
    dsimp only [List.set]
    exact L 0 (by omega) none (by assumption)
  · skip
    refine V.iconst (v := iI (-1)) dX7_looked_8 (by decide) ?_
    exact V.iret dX7_looked_9 rfl ⟨by unfold a_looked; rw [if_neg (by omega)], rfl⟩

set_option maxHeartbeats 1000000 in
theorem c_behind (g : VG) (h : VHp) (c : Nat) (T : Sy) (hC : CAt h c T) (hO : SyOk T) (n p : Int) (hn0 : -2147483648 ≤ n ∧ n < 2147483648) (hp : -2147483648 ≤ p ∧ p < 2147483648) : VE g mX7_behind 5 false (0, 0) [.ref c, .int (iI n), .int (iI p)] h (VP (a_behind T n p) h) := by
  obtain ⟨hc0, hT, ⟨nm, hQ⟩, hR, ⟨Q, hQr⟩, hP, hN, hSe, hCo, hKe⟩ := id hC
  obtain ⟨hOt, hOs, hOn, hOp, hOk, hOns, hOpk, hOkk⟩ := id hO
  have hB := hOs.1
  obtain ⟨lt, hto, hta, htl, htn, hte⟩ := id hT
  obtain ⟨nx, hnx, hpl, hpo, hpa, hp4, hp5⟩ := id hP
  obtain ⟨hka, hkl, hk2, hk3⟩ := id hKe
  obtain ⟨kd, xs, ys, vs, ll, ho, hk, hx, hy, hv, hl, lk, lx, ly, lv, lL, ek, ex, ey, ev, eL⟩ := id hR
  obtain ⟨bn, bW, bH, bP, bL⟩ := id hB
  refine VE.of (by decide) rfl (Nat.le_of_ble_eq_true rfl) ?_
  show V _ _ 0 [some (.ref c), some (.int (iI n)), some (.int (iI p))] [] h
  refine V.iload_n dX7_behind_0 rfl ?_
  refine V.if_ltZ 21 dX7_behind_1 (by decide) (by omega) (fun hc1 => ?_) (fun hc1 => ?_)
  · skip
    refine V.iconst (v := iI (-1)) dX7_behind_21 (by decide) ?_
    exact V.iret dX7_behind_22 rfl ⟨by unfold a_behind; first | (rw [if_pos (by omega)]; done) | (rw [if_neg (by omega)]; done), rfl⟩
  · skip
    refine V.iload_n dX7_behind_4 rfl ?_
    refine V.bipush (v := nI 40) dX7_behind_5 (by decide) ?_
    refine V.toZ1 ?_
    refine V.icmp_gtZ 21 dX7_behind_7 (by decide) (by omega) (by omega) (fun hc2 => ?_) (fun hc2 => ?_)
    · skip
      refine V.iconst (v := iI (-1)) dX7_behind_21 (by decide) ?_
      exact V.iret dX7_behind_22 rfl ⟨by unfold a_behind; first | (rw [if_pos (by omega)]; done) | (rw [if_neg (by omega)]; done), rfl⟩
    · skip
      refine V.aload_n dX7_behind_10 rfl ?_
      refine V.get fX7_26 dX7_behind_11 hc0 rfl ?_
      refine V.iload_n dX7_behind_14 rfl ?_
      refine V.callVp (ci := 3) cX7_103 (e_has g h (c + 5) (tS T) hR hB p (by omega)) dX7_behind_15 (Nat.le_of_ble_eq_true rfl) rfl ho rfl rfl (Nat.le_of_ble_eq_true rfl) ?_
      refine V.if_neB 23 dX7_behind_18 (by decide) (fun hc3 => ?_) (fun hc3 => ?_)
      · skip
        have bp := bP p.toNat (by omega)
        refine V.aload_n dX7_behind_23 rfl ?_
        refine V.get fX7_26 dX7_behind_24 hc0 rfl ?_
        refine V.getr fX7_107 dX7_behind_27 ho rfl ?_
        refine V.iload_n dX7_behind_30 rfl ?_
        refine V.re (iI_toN (n := p.toNat) (by omega)) ?_
        refine V.iald dX7_behind_31 hk rfl (by omega) (ek _ (by omega)) ?_
        refine V.aload_n dX7_behind_32 rfl ?_
        refine V.get fX7_26 dX7_behind_33 hc0 rfl ?_
        refine V.getr fX7_117 dX7_behind_36 ho rfl ?_
        refine V.iload_n dX7_behind_39 rfl ?_
        refine V.re (iI_toN (n := p.toNat) (by omega)) ?_
        refine V.iald dX7_behind_40 hv rfl (by omega) (ev _ (by omega)) ?_
        refine V.aload_n dX7_behind_41 rfl ?_
        refine V.get fX7_26 dX7_behind_42 hc0 rfl ?_
        refine V.iload_n dX7_behind_45 rfl ?_
        refine V.re (iI_toN (n := p.toNat) (by omega)) ?_
        refine V.callVp (ci := 3) cX7_120 (e_draft g h (c + 5) (tS T) hR hB p.toNat (by omega)) dX7_behind_46 (Nat.le_of_ble_eq_true rfl) rfl ho rfl rfl (Nat.le_of_ble_eq_true rfl) ?_
        refine V.iload_n dX7_behind_49 rfl ?_
        refine V.re (iI_toN (n := n.toNat) (by omega)) ?_
        refine V.callSp cX7_182 (e_toldBehind g h (rK (tS T) p.toNat) (rV (tS T) p.toNat) (draftF (tS T) p.toNat) n.toNat (by omega) (by omega) (fun _ z => draftF_lt z) (by omega)) dX7_behind_50 (Nat.le_of_ble_eq_true rfl) rfl rfl (Nat.le_of_ble_eq_true rfl) ?_
        exact V.iret dX7_behind_53 rfl ⟨by unfold a_behind; first | (rw [if_pos (by omega)]; done) | (rw [if_neg (by omega)]; done), rfl⟩
      · skip
        refine V.iconst (v := iI (-1)) dX7_behind_21 (by decide) ?_
        exact V.iret dX7_behind_22 rfl ⟨by unfold a_behind; first | (rw [if_pos (by omega)]; done) | (rw [if_neg (by omega)]; done), rfl⟩

set_option maxHeartbeats 1000000 in
theorem c_count (g : VG) (h : VHp) (c : Nat) (T : Sy) (hC : CAt h c T) (hO : SyOk T) (w : Int) (hw : -2147483648 ≤ w ∧ w < 2147483648) : VE g mX7_count 6 false (0, 0) [.ref c, .int (iI w)] h (VP (a_count T w) h) := by
  obtain ⟨hc0, hT, ⟨nm, hQ⟩, hR, ⟨Q, hQr⟩, hP, hN, hSe, hCo, hKe⟩ := id hC
  obtain ⟨hOt, hOs, hOn, hOp, hOk, hOns, hOpk, hOkk⟩ := id hO
  have hB := hOs.1
  obtain ⟨lt, hto, hta, htl, htn, hte⟩ := id hT
  obtain ⟨nx, hnx, hpl, hpo, hpa, hp4, hp5⟩ := id hP
  obtain ⟨hka, hkl, hk2, hk3⟩ := id hKe
  obtain ⟨kd, xs, ys, vs, ll, ho, hk, hx, hy, hv, hl, lk, lx, ly, lv, lL, ek, ex, ey, ev, eL⟩ := id hR
  obtain ⟨bn, bW, bH, bP, bL⟩ := id hB
  obtain ⟨wh4, hb4, wy4, hno, -⟩ := id hN
  refine VE.of (by decide) rfl (Nat.le_of_ble_eq_true rfl) ?_
  show V _ _ 0 [some (.ref c), some (.int (iI w))] [] h
  refine V.iload_n dX7_count_0 rfl ?_
  rcases (show w = 0 ∨ w = 1 ∨ w = 2 ∨ w = 3 ∨ w = 4 ∨ w = 5 ∨ w = 6 ∨ w = 7 ∨ w = 8 ∨ w = 9 ∨ (w < 0 ∨ 9 < w) by omega) with hq | hq | hq | hq | hq | hq | hq | hq | hq | hq | hq
  · skip
    subst hq
    refine V.tabIn (off := 55) 56 dX7_count_1 (by decide) (by decide) (by decide) (by decide) ?_
    refine V.aload_n dX7_count_56 rfl ?_
    refine V.get fX7_26 dX7_count_57 hc0 rfl ?_
    refine V.get fX7_194 dX7_count_60 ho rfl ?_
    exact V.iret dX7_count_63 rfl ⟨by unfold a_count; first | rfl | ((repeat first | rw [if_pos (by first | omega | assumption)] | rw [if_neg (by first | omega | assumption)]); done), rfl⟩
  · skip
    subst hq
    refine V.tabIn (off := 63) 64 dX7_count_1 (by decide) (by decide) (by decide) (by decide) ?_
    refine V.aload_n dX7_count_64 rfl ?_
    refine V.get fX7_26 dX7_count_65 hc0 rfl ?_
    refine V.get fX7_197 dX7_count_68 ho rfl ?_
    exact V.iret dX7_count_71 rfl ⟨by unfold a_count; first | rfl | ((repeat first | rw [if_pos (by first | omega | assumption)] | rw [if_neg (by first | omega | assumption)]); done), rfl⟩
  · skip
    subst hq
    refine V.tabIn (off := 71) 72 dX7_count_1 (by decide) (by decide) (by decide) (by decide) ?_
    refine V.aload_n dX7_count_72 rfl ?_
    refine V.get fX7_26 dX7_count_73 hc0 rfl ?_
    refine V.get fX7_94 dX7_count_76 ho rfl ?_
    exact V.iret dX7_count_79 rfl ⟨by unfold a_count; first | rfl | ((repeat first | rw [if_pos (by first | omega | assumption)] | rw [if_neg (by first | omega | assumption)]); done), rfl⟩
  · skip
    subst hq
    refine V.tabIn (off := 79) 80 dX7_count_1 (by decide) (by decide) (by decide) (by decide) ?_
    refine V.aload_n dX7_count_80 rfl ?_
    refine V.get fX7_26 dX7_count_81 hc0 rfl ?_
    refine V.get fX7_150 dX7_count_84 ho rfl ?_
    exact V.iret dX7_count_87 rfl ⟨by unfold a_count; first | rfl | ((repeat first | rw [if_pos (by first | omega | assumption)] | rw [if_neg (by first | omega | assumption)]); done), rfl⟩
  · skip
    subst hq
    refine V.tabIn (off := 87) 88 dX7_count_1 (by decide) (by decide) (by decide) (by decide) ?_
    refine V.aload_n dX7_count_88 rfl ?_
    refine V.get fX7_26 dX7_count_89 hc0 rfl ?_
    refine V.callVp (ci := 3) cX7_248 (e_howManyFeelADraft g h (c + 5) (tS T) hR hB) dX7_count_92 (Nat.le_of_ble_eq_true rfl) rfl ho rfl rfl (Nat.le_of_ble_eq_true rfl) ?_
    exact V.iret dX7_count_95 rfl ⟨by unfold a_count; first | rfl | ((repeat first | rw [if_pos (by first | omega | assumption)] | rw [if_neg (by first | omega | assumption)]); done), rfl⟩
  · skip
    subst hq
    refine V.tabIn (off := 95) 96 dX7_count_1 (by decide) (by decide) (by decide) (by decide) ?_
    refine V.aload_n dX7_count_96 rfl ?_
    refine V.get fX7_26 dX7_count_97 hc0 rfl ?_
    refine V.callVp (ci := 3) cX7_251 (e_howManyLeanings g h (c + 5) (tS T) hR hB) dX7_count_100 (Nat.le_of_ble_eq_true rfl) rfl ho rfl rfl (Nat.le_of_ble_eq_true rfl) ?_
    exact V.iret dX7_count_103 rfl ⟨by unfold a_count; first | rfl | ((repeat first | rw [if_pos (by first | omega | assumption)] | rw [if_neg (by first | omega | assumption)]); done), rfl⟩
  · skip
    subst hq
    refine V.tabIn (off := 103) 104 dX7_count_1 (by decide) (by decide) (by decide) (by decide) ?_
    refine V.aload_n dX7_count_104 rfl ?_
    refine V.get fX7_43 dX7_count_105 hc0 rfl ?_
    refine V.get fX7_218 dX7_count_108 hno rfl ?_
    exact V.iret dX7_count_111 rfl ⟨by unfold a_count; first | rfl | ((repeat first | rw [if_pos (by first | omega | assumption)] | rw [if_neg (by first | omega | assumption)]); done), rfl⟩
  · skip
    subst hq
    refine V.tabIn (off := 111) 112 dX7_count_1 (by decide) (by decide) (by decide) (by decide) ?_
    refine V.aload_n dX7_count_112 rfl ?_
    refine V.get fX7_36 dX7_count_113 hc0 rfl ?_
    refine V.get fX7_170 dX7_count_116 hpo rfl ?_
    exact V.iret dX7_count_119 rfl ⟨by unfold a_count; first | rfl | ((repeat first | rw [if_pos (by first | omega | assumption)] | rw [if_neg (by first | omega | assumption)]); done), rfl⟩
  · skip
    subst hq
    refine V.tabIn (off := 119) 120 dX7_count_1 (by decide) (by decide) (by decide) (by decide) ?_
    refine V.aload_n dX7_count_120 rfl ?_
    refine V.get fX7_65 dX7_count_121 hc0 rfl ?_
    exact V.iret dX7_count_124 rfl ⟨by unfold a_count; first | rfl | ((repeat first | rw [if_pos (by first | omega | assumption)] | rw [if_neg (by first | omega | assumption)]); done), rfl⟩
  · skip
    subst hq
    refine V.tabIn (off := 124) 125 dX7_count_1 (by decide) (by decide) (by decide) (by decide) ?_
    refine V.aload_n dX7_count_125 rfl ?_
    refine V.get fX7_12 dX7_count_126 hc0 rfl ?_
    refine V.get fX7_92 dX7_count_129 hto rfl ?_
    exact V.iret dX7_count_132 rfl ⟨by unfold a_count; first | rfl | ((repeat first | rw [if_pos (by first | omega | assumption)] | rw [if_neg (by first | omega | assumption)]); done), rfl⟩
  · skip
    refine V.tabOut 133 dX7_count_1 (by rw [iI_toInt (by omega) (by omega)]; omega) (by decide) ?_
    refine V.iconst (v := iI (-1)) dX7_count_133 (by decide) ?_
    exact V.iret dX7_count_134 rfl ⟨by unfold a_count; first | rfl | ((repeat first | rw [if_pos (by first | omega | assumption)] | rw [if_neg (by first | omega | assumption)]); done), rfl⟩

set_option maxHeartbeats 1000000 in
theorem c_see (g : VG) (h : VHp) (c : Nat) (T : Sy) (hC : CAt h c T) (hO : SyOk T) (p n w : Int) (hp : -2147483648 ≤ p ∧ p < 2147483648) (hn0 : -2147483648 ≤ n ∧ n < 2147483648) (hw : -2147483648 ≤ w ∧ w < 2147483648) : VE g mX7_see 2 false (0, 0) [.ref c, .int (iI p), .int (iI n), .int (iI w)] h (CP c (a_see T p n w) (n_see T p n w) h) := by
  obtain ⟨hc0, hT, ⟨nm, hQ⟩, hR, ⟨Q, hQr⟩, hP, hN, hSe, hCo, hKe⟩ := id hC
  obtain ⟨hOt, hOs, hOn, hOp, hOk, hOns, hOpk, hOkk⟩ := id hO
  have hB := hOs.1
  obtain ⟨lt, hto, hta, htl, htn, hte⟩ := id hT
  obtain ⟨nx, hnx, hpl, hpo, hpa, hp4, hp5⟩ := id hP
  obtain ⟨hka, hkl, hk2, hk3⟩ := id hKe
  obtain ⟨kd, xs, ys, vs, ll, ho, hk, hx, hy, hv, hl, lk, lx, ly, lv, lL, ek, ex, ey, ev, eL⟩ := id hR
  obtain ⟨bn, bW, bH, bP, bL⟩ := id hB
  obtain ⟨wh4, hb4, wy4, hno, -⟩ := id hN
  have hnl := hOns.1
  refine VE.of (by decide) rfl (Nat.le_of_ble_eq_true rfl) ?_
  show V _ _ 0 [some (.ref c), some (.int (iI p)), some (.int (iI n)), some (.int (iI w))] [] h
  refine V.aload_n dX7_see_0 rfl ?_
  refine V.get fX7_26 dX7_see_1 hc0 rfl ?_
  refine V.iload_n dX7_see_4 rfl ?_
  refine V.callVp (ci := 3) cX7_103 (e_has g h (c + 5) (tS T) hR hB p (by omega)) dX7_see_5 (Nat.le_of_ble_eq_true rfl) rfl ho rfl rfl (Nat.le_of_ble_eq_true rfl) ?_
  refine V.if_eqB 30 dX7_see_8 (by decide) (fun hc1 => ?_) (fun hc1 => ?_)
  · skip
    refine V.iconst (v := iI (-1)) dX7_see_30 (by decide) ?_
    exact V.iret dX7_see_31 rfl ⟨by first | (exfalso; omega) | (unfold a_see; (repeat first | rw [if_pos (by first | omega | assumption)] | rw [if_neg (by first | omega | assumption)]); try rfl), by first | (exfalso; omega) | (unfold n_see; (repeat first | rw [if_pos (by first | omega | assumption)] | rw [if_neg (by first | omega | assumption)]); exact hC), VFr.rf⟩
  · skip
    refine V.iload_n dX7_see_11 rfl ?_
    refine V.if_ltZ 30 dX7_see_12 (by decide) (by omega) (fun hc2 => ?_) (fun hc2 => ?_)
    · skip
      refine V.iconst (v := iI (-1)) dX7_see_30 (by decide) ?_
      exact V.iret dX7_see_31 rfl ⟨by first | (exfalso; omega) | (unfold a_see; (repeat first | rw [if_pos (by first | omega | assumption)] | rw [if_neg (by first | omega | assumption)]); try rfl), by first | (exfalso; omega) | (unfold n_see; (repeat first | rw [if_pos (by first | omega | assumption)] | rw [if_neg (by first | omega | assumption)]); exact hC), VFr.rf⟩
    · skip
      refine V.iload_n dX7_see_15 rfl ?_
      refine V.bipush (v := nI 20) dX7_see_16 (by decide) ?_
      refine V.toZ1 ?_
      refine V.icmp_gtZ 30 dX7_see_18 (by decide) (by omega) (by omega) (fun hc3 => ?_) (fun hc3 => ?_)
      · skip
        refine V.iconst (v := iI (-1)) dX7_see_30 (by decide) ?_
        exact V.iret dX7_see_31 rfl ⟨by first | (exfalso; omega) | (unfold a_see; (repeat first | rw [if_pos (by first | omega | assumption)] | rw [if_neg (by first | omega | assumption)]); try rfl), by first | (exfalso; omega) | (unfold n_see; (repeat first | rw [if_pos (by first | omega | assumption)] | rw [if_neg (by first | omega | assumption)]); exact hC), VFr.rf⟩
      · skip
        refine V.iload_n dX7_see_21 rfl ?_
        refine V.bipush (v := nI 8) dX7_see_22 (by decide) ?_
        refine V.toZ1 ?_
        refine V.callSp cX7_153 (e_isBelow g h _ _ (by omega) (by omega)) dX7_see_24 (Nat.le_of_ble_eq_true rfl) rfl rfl (Nat.le_of_ble_eq_true rfl) ?_
        refine V.if_neB 32 dX7_see_27 (by decide) (fun hc4 => ?_) (fun hc4 => ?_)
        · skip
          refine V.aload_n dX7_see_32 rfl ?_
          refine V.get fX7_43 dX7_see_33 hc0 rfl ?_
          refine V.get fX7_218 dX7_see_36 hno rfl ?_
          refine V.bipush (v := nI 6) dX7_see_39 (by decide) ?_
          refine V.icmp_ltN 47 dX7_see_41 (by decide) (by omega) (by omega) (fun hc5 => ?_) (fun hc5 => ?_)
          · skip
            refine V.aload_n dX7_see_47 rfl ?_
            refine V.get fX7_43 dX7_see_48 hc0 rfl ?_
            refine V.iload_n dX7_see_51 rfl ?_
            refine V.re (iI_toN (n := p.toNat) (by omega)) ?_
            refine V.iload_n dX7_see_52 rfl ?_
            refine V.re (iI_toN (n := n.toNat) (by omega)) ?_
            refine V.iload_n dX7_see_53 rfl ?_
            refine V.re (iI_toN (n := w.toNat) (by omega)) ?_
            refine V.callV (ci := 5) cX7_219 (e_sightsAdd g h (c + 67) (tN T) hN p.toNat n.toNat w.toNat (by omega)) dX7_see_54 (Nat.le_of_ble_eq_true rfl) rfl hno rfl rfl (Nat.le_of_ble_eq_true rfl) (fun v_ h_ hp_ => ?_)
            obtain ⟨rfl, hN2, hf2⟩ := hp_
            dsimp only [Option.toList, List.nil_append]
            have hC2 := hC.sights hf2 hN2
            replace hc0 := hC2.1
            obtain ⟨wh5, hb5, wy5, hno, -⟩ := id hN2
            refine V.aload_n dX7_see_57 rfl ?_
            refine V.get fX7_43 dX7_see_58 hc0 rfl ?_
            refine V.get fX7_218 dX7_see_61 hno rfl ?_
            exact V.iret dX7_see_64 rfl ⟨by first | (exfalso; omega) | (unfold a_see; (repeat first | rw [if_pos (by first | omega | assumption)] | rw [if_neg (by first | omega | assumption)]); rw [List.length_append]; try rfl), by first | (exfalso; omega) | (unfold n_see; (repeat first | rw [if_pos (by first | omega | assumption)] | rw [if_neg (by first | omega | assumption)]); exact hC2), hf2.wide (by omega) (by omega)⟩
          · skip
            refine V.bipush (v := iI (-3)) dX7_see_44 (by decide) ?_
            exact V.iret dX7_see_46 rfl ⟨by first | (exfalso; omega) | (unfold a_see; (repeat first | rw [if_pos (by first | omega | assumption)] | rw [if_neg (by first | omega | assumption)]); try rfl), by first | (exfalso; omega) | (unfold n_see; (repeat first | rw [if_pos (by first | omega | assumption)] | rw [if_neg (by first | omega | assumption)]); exact hC), VFr.rf⟩
        · skip
          refine V.iconst (v := iI (-1)) dX7_see_30 (by decide) ?_
          exact V.iret dX7_see_31 rfl ⟨by first | (exfalso; omega) | (unfold a_see; (repeat first | rw [if_pos (by first | omega | assumption)] | rw [if_neg (by first | omega | assumption)]); try rfl), by first | (exfalso; omega) | (unfold n_see; (repeat first | rw [if_pos (by first | omega | assumption)] | rw [if_neg (by first | omega | assumption)]); exact hC), VFr.rf⟩

set_option maxHeartbeats 1000000 in
theorem c_forget (g : VG) (h : VHp) (c : Nat) (T : Sy) (hC : CAt h c T) (hO : SyOk T) : VE g mX7_forget 1 false (0, 0) [.ref c] h (CP c (nI (tN T).length) (tT T, tS T, tP T, tK T, []) h) := by
  obtain ⟨hc0, hT, ⟨nm, hQ⟩, hR, ⟨Q, hQr⟩, hP, hN, hSe, hCo, hKe⟩ := id hC
  obtain ⟨hOt, hOs, hOn, hOp, hOk, hOns, hOpk, hOkk⟩ := id hO
  have hB := hOs.1
  obtain ⟨lt, hto, hta, htl, htn, hte⟩ := id hT
  obtain ⟨nx, hnx, hpl, hpo, hpa, hp4, hp5⟩ := id hP
  obtain ⟨hka, hkl, hk2, hk3⟩ := id hKe
  obtain ⟨kd, xs, ys, vs, ll, ho, hk, hx, hy, hv, hl, lk, lx, ly, lv, lL, ek, ex, ey, ev, eL⟩ := id hR
  obtain ⟨bn, bW, bH, bP, bL⟩ := id hB
  obtain ⟨wh4, hb4, wy4, hno, -⟩ := id hN
  refine VE.of (by decide) rfl (Nat.le_of_ble_eq_true rfl) ?_
  show V _ _ 0 [some (.ref c), none] [] h
  refine V.aload_n dX7_forget_0 rfl ?_
  refine V.get fX7_43 dX7_forget_1 hc0 rfl ?_
  refine V.get fX7_218 dX7_forget_4 hno rfl ?_
  refine V.istore_n (i := 1) dX7_forget_7 rfl rfl rfl ?_
  dsimp only [List.set]
  refine V.aload_n dX7_forget_8 rfl ?_
  refine V.get fX7_43 dX7_forget_9 hc0 rfl ?_
  refine V.callV (ci := 5) cX7_102 (e_sightsClear g h (c + 67) (tN T) hN) dX7_forget_12 (Nat.le_of_ble_eq_true rfl) rfl hno rfl rfl (Nat.le_of_ble_eq_true rfl) (fun v_ h_ hp_ => ?_)
  obtain ⟨rfl, hN2, hf2⟩ := hp_
  dsimp only [Option.toList, List.nil_append]
  have hC2 := hC.sights hf2 hN2
  refine V.iload_n dX7_forget_15 rfl ?_
  exact V.iret dX7_forget_16 rfl ⟨rfl, hC2, hf2.wide (by omega) (by omega)⟩

set_option maxHeartbeats 1000000 in
theorem c_kinds (g : VG) (h : VHp) (c : Nat) (T : Sy) (hC : CAt h c T) (hO : SyOk T) (p : Int) (hp : -2147483648 ≤ p ∧ p < 2147483648) : VE g mX7_kinds 5 false (0, 0) [.ref c, .int (iI p)] h (VP (a_kinds T p) h) := by
  obtain ⟨hc0, hT, ⟨nm, hQ⟩, hR, ⟨Q, hQr⟩, hP, hN, hSe, hCo, hKe⟩ := id hC
  obtain ⟨hOt, hOs, hOn, hOp, hOk, hOns, hOpk, hOkk⟩ := id hO
  have hB := hOs.1
  obtain ⟨lt, hto, hta, htl, htn, hte⟩ := id hT
  obtain ⟨nx, hnx, hpl, hpo, hpa, hp4, hp5⟩ := id hP
  obtain ⟨hka, hkl, hk2, hk3⟩ := id hKe
  obtain ⟨kd, xs, ys, vs, ll, ho, hk, hx, hy, hv, hl, lk, lx, ly, lv, lL, ek, ex, ey, ev, eL⟩ := id hR
  obtain ⟨bn, bW, bH, bP, bL⟩ := id hB
  obtain ⟨wh4, hb4, wy4, hno, -⟩ := id hN
  refine VE.of (by decide) rfl (Nat.le_of_ble_eq_true rfl) ?_
  have L : ∀ k, k ≤ 4 → isP T p → V (g, mX7_kinds, 5, false, h.length, VP (a_kinds T p) h) (0, 0) 27 [some (.ref c), some (.int (iI p)), some (.int (nI (bitsF (fun kd => holdF (tN T) p.toNat kd (rV (tS T) p.toNat) (draftF (tS T) p.toNat)) k))), some (.int (eO (draftF (tS T) p.toNat))), some (.int (nI k))] [] h := by
    refine vloop (4) (fun k ih hi => ?_)
    intro hpp
    refine V.iload dX7_kinds_27 rfl ?_
    refine V.iconst (v := nI 4) dX7_kinds_29 (by decide) ?_
    refine V.icmp_geN 69 dX7_kinds_30 (by decide) (by omega) (by omega) (fun hc1 => ?_) (fun hc1 => ?_)
    · skip
      refine V.iload_n dX7_kinds_69 rfl ?_
      obtain rfl : k = 4 := (by omega)
      exact V.iret dX7_kinds_70 rfl ⟨by unfold a_kinds; rw [if_pos hpp], rfl⟩
    · skip
      refine V.aload_n dX7_kinds_33 rfl ?_
      refine V.get fX7_43 dX7_kinds_34 hc0 rfl ?_
      refine V.iload_n dX7_kinds_37 rfl ?_
      refine V.re (iI_toN (n := p.toNat) (by omega)) ?_
      refine V.iload dX7_kinds_38 rfl ?_
      refine V.aload_n dX7_kinds_40 rfl ?_
      refine V.get fX7_26 dX7_kinds_41 hc0 rfl ?_
      refine V.getr fX7_117 dX7_kinds_44 ho rfl ?_
      refine V.iload_n dX7_kinds_47 rfl ?_
      refine V.re (iI_toN (n := p.toNat) (by omega)) ?_
      refine V.iald dX7_kinds_48 hv rfl (by omega) (ev _ (by omega)) ?_
      refine V.iload_n dX7_kinds_49 rfl ?_
      refine V.callVp (ci := 5) cX7_222 (e_wouldHold g h (c + 67) (tN T) hN p.toNat k (rV (tS T) p.toNat) (draftF (tS T) p.toNat) hOns (by omega) (by omega) (bP p.toNat (by omega)).2.1 (fun _ z => draftF_lt z)) dX7_kinds_50 (Nat.le_of_ble_eq_true rfl) rfl hno rfl rfl (Nat.le_of_ble_eq_true rfl) ?_
      refine V.if_eqB 63 dX7_kinds_53 (by decide) (fun hc2 => ?_) (fun hc2 => ?_)
      · skip
        refine V.iincN (n := 1) dX7_kinds_63 rfl rfl rfl ?_
        dsimp only [List.set]
        refine V.goto 27 dX7_kinds_66 (by decide) ?_
        have z := ih (k + 1) (by omega) (by omega) hpp
        first | (rw [bits_pos (P := fun kd => holdF (tN T) p.toNat kd (rV (tS T) p.toNat) (draftF (tS T) p.toNat)) (n := k) (by assumption)] at z; exact z) | (rw [bits_neg (P := fun kd => holdF (tN T) p.toNat kd (rV (tS T) p.toNat) (draftF (tS T) p.toNat)) (n := k) (by assumption)] at z; exact z)
      · skip
        refine V.iload_n dX7_kinds_56 rfl ?_
        refine V.iconst (v := nI 1) dX7_kinds_57 (by decide) ?_
        refine V.iload dX7_kinds_58 rfl ?_
        refine V.ishlN dX7_kinds_60 (p2_lt (by omega)) (by omega) ?_
        refine V.iorN dX7_kinds_61 ?_
        refine V.istore_n (i := 2) dX7_kinds_62 rfl rfl rfl ?_
        dsimp only [List.set]
        refine V.iincN (n := 1) dX7_kinds_63 rfl rfl rfl ?_
        dsimp only [List.set]
        refine V.goto 27 dX7_kinds_66 (by decide) ?_
        have z := ih (k + 1) (by omega) (by omega) hpp
        first | (rw [bits_pos (P := fun kd => holdF (tN T) p.toNat kd (rV (tS T) p.toNat) (draftF (tS T) p.toNat)) (n := k) (by assumption)] at z; exact z) | (rw [bits_neg (P := fun kd => holdF (tN T) p.toNat kd (rV (tS T) p.toNat) (draftF (tS T) p.toNat)) (n := k) (by assumption)] at z; exact z)
  show V _ _ 0 [some (.ref c), some (.int (iI p)), none, none, none] [] h
  refine V.aload_n dX7_kinds_0 rfl ?_
  refine V.get fX7_26 dX7_kinds_1 hc0 rfl ?_
  refine V.iload_n dX7_kinds_4 rfl ?_
  refine V.callVp (ci := 3) cX7_103 (e_has g h (c + 5) (tS T) hR hB p (by omega)) dX7_kinds_5 (Nat.le_of_ble_eq_true rfl) rfl ho rfl rfl (Nat.le_of_ble_eq_true rfl) ?_
  refine V.if_neB 13 dX7_kinds_8 (by decide) (fun hc1 => ?_) (fun hc1 => ?_)
  · skip
    have hpp := hc1
    refine V.iconst (v := nI 0) dX7_kinds_13 (by decide) ?_
    refine V.istore_n (i := 2) dX7_kinds_14 rfl rfl rfl ?_
    dsimp only [List.set]
    refine V.aload_n dX7_kinds_15 rfl ?_
    refine V.get fX7_26 dX7_kinds_16 hc0 rfl ?_
    refine V.iload_n dX7_kinds_19 rfl ?_
    refine V.re (iI_toN (n := p.toNat) (by omega)) ?_
    refine V.callVp (ci := 3) cX7_120 (e_draft g h (c + 5) (tS T) hR hB p.toNat (by omega)) dX7_kinds_20 (Nat.le_of_ble_eq_true rfl) rfl ho rfl rfl (Nat.le_of_ble_eq_true rfl) ?_
    refine V.istore_n (i := 3) dX7_kinds_23 rfl rfl rfl ?_
    dsimp only [List.set]
    refine V.iconst (v := nI 0) dX7_kinds_24 (by decide) ?_
    refine V.istore dX7_kinds_25 rfl rfl ?_
    dsimp only [List.set]
    exact L 0 (by omega) hpp
  · skip
    have hpp := hc1
    refine V.iconst (v := iI (-1)) dX7_kinds_11 (by decide) ?_
    exact V.iret dX7_kinds_12 rfl ⟨by unfold a_kinds; rw [if_neg hpp], rfl⟩
