set_option maxHeartbeats 1000000 in
theorem c_back (g : VG) (h : VHp) (c : Nat) (T : Sy) (hC : CAt h c T) (hO : SyOk T) : VE g mX7_back 2 false (0, 0) [.ref c] h (CP c (a_back T) (n_back T) h) := by
  obtain ⟨hc0, hT, ⟨nm, hQ⟩, hR, ⟨Q, hQr⟩, hP, hN, hSe, hCo, hKe⟩ := id hC
  obtain ⟨hOt, hOs, hOn, hOp, hOk, hOns, hOpk, hOkk⟩ := id hO
  have hB := hOs.1
  obtain ⟨lt, hto, hta, htl, htn, hte⟩ := id hT
  obtain ⟨nx, hnx, hpl, hpo, hpa, hp4, hp5⟩ := id hP
  obtain ⟨hka, hkl, hk2, hk3⟩ := id hKe
  obtain ⟨kd, xs, ys, vs, ll, ho, hk, hx, hy, hv, hl, lk, lx, ly, lv, lL, ek, ex, ey, ev, eL⟩ := id hR
  obtain ⟨bn, bW, bH, bP, bL⟩ := id hB
  refine VE.of (by decide) rfl (Nat.le_of_ble_eq_true rfl) ?_
  show V _ _ 0 [some (.ref c)] [] h
  refine V.aload_n dX7_back_0 rfl ?_
  refine V.get fX7_65 dX7_back_1 hc0 rfl ?_
  refine V.iconst (v := nI 1) dX7_back_4 (by decide) ?_
  refine V.icmp_geN 11 dX7_back_5 (by decide) (by omega) (by omega) (fun hc1 => ?_) (fun hc1 => ?_)
  · skip
    refine V.aload_n dX7_back_11 rfl ?_
    refine V.dup dX7_back_12 rfl ?_
    refine V.get fX7_65 dX7_back_13 hc0 rfl ?_
    refine V.iconst (v := nI 1) dX7_back_16 (by decide) ?_
    refine V.isubN dX7_back_17 (by omega) ?_
    refine V.puti fX7_65 dX7_back_18 hc0 (Nat.le_of_ble_eq_true rfl) ?_
    dsimp only [List.set]
    have hC1 := hC.count (ks := (tK T).dropLast) (by rw [List.length_dropLast]; omega) (fun i hi => by rw [getD_dropL hi]; rw [List.length_dropLast] at hi; exact hk3 i (by omega))
    rw [List.length_dropLast] at hC1
    have hf1 := VFr.set (h := h) (lo := c) (hi := c + 1) (a := c) (c := Sum.inr (Sum.inr (7, [Value.ref (c + 1), Value.ref (c + 3), Value.ref (c + 5), Value.ref (c + 11), Value.ref (c + 17), Value.ref (c + 67), Value.ref (c + 71), Value.ref (c + 77), Value.ref (c + 79), Value.int (nI ((tK T).length - 1))]))) (by omega) (by omega)
    have hcc := vset_eq (c := Sum.inr (Sum.inr (7, [Value.ref (c + 1), Value.ref (c + 3), Value.ref (c + 5), Value.ref (c + 11), Value.ref (c + 17), Value.ref (c + 67), Value.ref (c + 71), Value.ref (c + 77), Value.ref (c + 79), Value.int (nI ((tK T).length - 1))]))) hc0
    have hO1 := (hk3 ((tK T).length - 1) (by omega)).keep hf1 (by omega)
    generalize h.set c (Sum.inr (Sum.inr (7, [Value.ref (c + 1), Value.ref (c + 3), Value.ref (c + 5), Value.ref (c + 11), Value.ref (c + 17), Value.ref (c + 67), Value.ref (c + 71), Value.ref (c + 77), Value.ref (c + 79), Value.int (nI ((tK T).length - 1))]))) = h1 at hC1 hf1 hcc hO1 ⊢
    have hR1 : RoomAt h1 (c + 5) (tS T) := hC1.2.2.2.1
    have hka1 := hC1.2.2.2.2.2.2.2.2.2.1
    refine V.aload_n dX7_back_21 rfl ?_
    refine V.get fX7_26 dX7_back_22 hcc rfl ?_
    refine V.aload_n dX7_back_25 rfl ?_
    refine V.get fX7_61 dX7_back_26 hcc rfl ?_
    refine V.aload_n dX7_back_29 rfl ?_
    refine V.get fX7_65 dX7_back_30 hcc rfl ?_
    refine V.aald dX7_back_33 hka1 rfl (by omega) (kp_at (c + 79) _ (by omega)) ?_
    refine V.callV (ci := 3) cX7_97 (e_copyFrom g h1 (c + 5) (c + 79 + 1 + 6 * ((tK T).length - 1)) (tS T) ((tK T).getD ((tK T).length - 1) rClear) hR1 hO1 (by omega)) dX7_back_34 (Nat.le_of_ble_eq_true rfl) rfl (RoomAt.obj hR1) rfl rfl (Nat.le_of_ble_eq_true rfl) (fun v_ h_ hp_ => ?_)
    obtain ⟨rfl, hR3, hf4⟩ := hp_
    dsimp only [Option.toList, List.nil_append]
    have hC3 := hC1.room hf4 hR3
    have hf5 : VFr c (c + 92) h h_ := (hf1.wide (by omega) (by omega)).tr (hf4.wide (by omega) (by omega))
    replace hcc := (hf4.2 c (by omega)).trans hcc
    have hP3 : PastAt h_ (c + 17) (tP T) := hC3.2.2.2.2.2.1
    obtain ⟨nx3, -, -, hpo3, -⟩ := id hP3
    refine V.aload_n dX7_back_37 rfl ?_
    refine V.get fX7_36 dX7_back_38 hcc rfl ?_
    refine V.callV (ci := 1) cX7_101 (e_pastClear g _ (c + 17) (tP T) hP3) dX7_back_41 (Nat.le_of_ble_eq_true rfl) rfl hpo3 rfl rfl (Nat.le_of_ble_eq_true rfl) (fun v_ h_ hp_ => ?_)
    obtain ⟨rfl, hP4, hf6⟩ := hp_
    dsimp only [Option.toList, List.nil_append]
    have hC4 := hC3.past hf6 hP4
    replace hcc := (hf6.2 c (by omega)).trans hcc
    have hf7 := hf5.tr (hf6.wide (by omega) (by omega))
    refine V.aload_n dX7_back_44 rfl ?_
    refine V.get fX7_65 dX7_back_45 hcc rfl ?_
    exact V.iret dX7_back_48 rfl ⟨by first | (exfalso; omega) | (unfold a_back; (repeat first | rw [if_pos (by first | omega | assumption)] | rw [if_neg (by first | omega | assumption)]); try rfl), by first | (exfalso; omega) | (unfold n_back; (repeat first | rw [if_pos (by first | omega | assumption)] | rw [if_neg (by first | omega | assumption)]); exact hC4), hf7⟩
  · skip
    refine V.bipush (v := iI (-2)) dX7_back_8 (by decide) ?_
    exact V.iret dX7_back_10 rfl ⟨by first | (exfalso; omega) | (unfold a_back; (repeat first | rw [if_pos (by first | omega | assumption)] | rw [if_neg (by first | omega | assumption)]); try rfl), by first | (exfalso; omega) | (unfold n_back; (repeat first | rw [if_pos (by first | omega | assumption)] | rw [if_neg (by first | omega | assumption)]); exact hC), VFr.rf⟩

set_option maxHeartbeats 1000000 in
theorem e_weightOf (g : VG) (h : VHp) (c : Nat) (T : Sy) (hC : CAt h c T) (hO : SyOk T) (m p x : Nat) (hm : m < 100) (hp : p < 100) (hx9 : x ≤ 10) : VE g mX7_weightOf 0 false (0, 0) [.ref c, .int (nI m), .int (nI p), .int (nI x)] h (VP (nI (wgF p x m (rN (tS T)))) h) := by
  obtain ⟨hc0, hT, ⟨nm, hQ⟩, hR, ⟨Q, hQr⟩, hP, hN, hSe, hCo, hKe⟩ := id hC
  obtain ⟨hOt, hOs, hOn, hOp, hOk, hOns, hOpk, hOkk⟩ := id hO
  have hB := hOs.1
  obtain ⟨lt, hto, hta, htl, htn, hte⟩ := id hT
  obtain ⟨nx, hnx, hpl, hpo, hpa, hp4, hp5⟩ := id hP
  obtain ⟨hka, hkl, hk2, hk3⟩ := id hKe
  obtain ⟨kd, xs, ys, vs, ll, ho, hk, hx, hy, hv, hl, lk, lx, ly, lv, lL, ek, ex, ey, ev, eL⟩ := id hR
  obtain ⟨bn, bW, bH, bP, bL⟩ := id hB
  refine VE.of (by decide) rfl (Nat.le_of_ble_eq_true rfl) ?_
  have L : ∀ q, q ≤ rN (tS T) → V (g, mX7_weightOf, 0, false, h.length, VP (nI (wgF p x m (rN (tS T)))) h) (0, 0) 6 [some (.ref c), some (.int (nI m)), some (.int (nI p)), some (.int (nI x)), some (.int (nI (wgF p x m q))), some (.int (nI q))] [] h := by
    refine vloop (rN (tS T)) (fun q ih hi => ?_)
    skip
    refine V.iload dX7_weightOf_6 rfl ?_
    refine V.aload_n dX7_weightOf_8 rfl ?_
    refine V.get fX7_26 dX7_weightOf_9 hc0 rfl ?_
    refine V.get fX7_94 dX7_weightOf_12 ho rfl ?_
    refine V.icmp_geN 53 dX7_weightOf_15 (by decide) (by omega) (by omega) (fun hc1 => ?_) (fun hc1 => ?_)
    · skip
      refine V.iload dX7_weightOf_53 rfl ?_
      exact V.iret dX7_weightOf_55 rfl ⟨by first | (exfalso; omega) | (obtain rfl : q = rN (tS T) := (by omega); rfl), rfl⟩
    · skip
      refine V.iload dX7_weightOf_18 rfl ?_
      refine V.iload_n dX7_weightOf_20 rfl ?_
      refine V.icmp_eqN 47 dX7_weightOf_21 (by decide) (by omega) (by omega) (fun hc2 => ?_) (fun hc2 => ?_)
      · skip
        refine V.iincN (n := 1) dX7_weightOf_47 rfl rfl rfl ?_
        dsimp only [List.set]
        refine V.goto 6 dX7_weightOf_50 (by decide) ?_
        have z := ih (q + 1) (by omega) (by omega)
        simp only [wgF] at z
        first | (rw [if_pos (by omega), if_pos (by omega)] at z; exact z) | (rw [if_pos (by omega), if_neg (by omega)] at z; exact z) | (rw [if_neg (by omega)] at z; exact z)
      · skip
        refine V.iload dX7_weightOf_24 rfl ?_
        refine V.iload_n dX7_weightOf_26 rfl ?_
        refine V.iload dX7_weightOf_27 rfl ?_
        refine V.ishrN dX7_weightOf_29 (by omega) (by omega) ?_
        refine V.iconst (v := nI 1) dX7_weightOf_30 (by decide) ?_
        refine V.iand1N dX7_weightOf_31 (Nat.lt_of_le_of_lt (Nat.div_le_self _ _) (by omega)) ?_
        refine V.iconst (v := nI 1) dX7_weightOf_32 (by decide) ?_
        refine V.icmp_neN 43 dX7_weightOf_33 (by decide) (by omega) (by omega) (fun hc3 => ?_) (fun hc3 => ?_)
        · skip
          refine V.iload_n dX7_weightOf_43 rfl ?_
          refine V.imulN dX7_weightOf_44 ?_
          refine V.istore dX7_weightOf_45 rfl rfl ?_
          dsimp only [List.set]
          refine V.iincN (n := 1) dX7_weightOf_47 rfl rfl rfl ?_
          dsimp only [List.set]
          refine V.goto 6 dX7_weightOf_50 (by decide) ?_
          have z := ih (q + 1) (by omega) (by omega)
          simp only [wgF] at z
          first | (rw [if_pos (by omega), if_pos (by omega)] at z; exact z) | (rw [if_pos (by omega), if_neg (by omega)] at z; exact z) | (rw [if_neg (by omega)] at z; exact z)
        · skip
          refine V.bipush (v := nI 10) dX7_weightOf_36 (by decide) ?_
          refine V.iload_n dX7_weightOf_38 rfl ?_
          refine V.isubN dX7_weightOf_39 (by omega) ?_
          refine V.goto 44 dX7_weightOf_40 (by decide) ?_
          refine V.imulN dX7_weightOf_44 ?_
          refine V.istore dX7_weightOf_45 rfl rfl ?_
          dsimp only [List.set]
          refine V.iincN (n := 1) dX7_weightOf_47 rfl rfl rfl ?_
          dsimp only [List.set]
          refine V.goto 6 dX7_weightOf_50 (by decide) ?_
          have z := ih (q + 1) (by omega) (by omega)
          simp only [wgF] at z
          first | (rw [if_pos (by omega), if_pos (by omega)] at z; exact z) | (rw [if_pos (by omega), if_neg (by omega)] at z; exact z) | (rw [if_neg (by omega)] at z; exact z)
  show V _ _ 0 [some (.ref c), some (.int (nI m)), some (.int (nI p)), some (.int (nI x)), none, none] [] h
  refine V.iconst (v := nI 1) dX7_weightOf_0 (by decide) ?_
  refine V.istore dX7_weightOf_1 rfl rfl ?_
  dsimp only [List.set]
  refine V.iconst (v := nI 0) dX7_weightOf_3 (by decide) ?_
  refine V.istore dX7_weightOf_4 rfl rfl ?_
  dsimp only [List.set]
  exact L 0 (by omega)

set_option maxHeartbeats 1000000 in
theorem e_greatestShared (g : VG) (h : VHp) (a b : Nat) (ha : a < 2147483648) (hb : b < 1073741824) : VE g mX7_greatestShared 0 false (0, 0) [.int (nI a), .int (nI b)] h (VP (nI (Nat.gcd a b)) h) := by
  refine VE.of (by decide) rfl (Nat.le_of_ble_eq_true rfl) ?_
  have L : ∀ i, i ≤ 64 → ∀ (hi_ lo : Nat) (v5 : Option Value), euP a b i hi_ lo → V (g, mX7_greatestShared, 0, false, h.length, VP (nI (Nat.gcd a b)) h) (0, 0) 7 [some (.int (nI a)), some (.int (nI b)), some (.int (nI hi_)), some (.int (nI lo)), some (.int (nI i)), v5] [] h := by
    refine vloop 64 (fun i ih hi => ?_)
    intro hi_ lo v5 hE
    obtain ⟨g1, g2, g3, -⟩ := id hE
    refine V.iload dX7_greatestShared_7 rfl ?_
    refine V.bipush (v := nI 64) dX7_greatestShared_9 (by decide) ?_
    refine V.icmp_geN 34 dX7_greatestShared_11 (by decide) (by omega) (by omega) (fun hc1 => ?_) (fun hc1 => ?_)
    · skip
      refine V.iload_n dX7_greatestShared_34 rfl ?_
      have hz : lo = 0 := by first | omega | (obtain rfl : i = 64 := (by omega); exact eu_end hE)
      subst hz
      rw [Nat.gcd_zero_right] at g1
      exact V.iret dX7_greatestShared_35 rfl ⟨by rw [g1], rfl⟩
    · skip
      refine V.iload_n dX7_greatestShared_14 rfl ?_
      refine V.if_eqN 34 dX7_greatestShared_15 (by decide) (by omega) (fun hc2 => ?_) (fun hc2 => ?_)
      · skip
        refine V.iload_n dX7_greatestShared_34 rfl ?_
        have hz : lo = 0 := by first | omega | (obtain rfl : i = 64 := (by omega); exact eu_end hE)
        subst hz
        rw [Nat.gcd_zero_right] at g1
        exact V.iret dX7_greatestShared_35 rfl ⟨by rw [g1], rfl⟩
      · skip
        refine V.iload_n dX7_greatestShared_18 rfl ?_
        refine V.iload_n dX7_greatestShared_19 rfl ?_
        refine V.iremN dX7_greatestShared_20 (by omega) (by omega) (by omega) ?_
        refine V.istore dX7_greatestShared_21 rfl rfl ?_
        dsimp only [List.set]
        refine V.iload_n dX7_greatestShared_23 rfl ?_
        refine V.istore_n (i := 2) dX7_greatestShared_24 rfl rfl rfl ?_
        dsimp only [List.set]
        refine V.iload dX7_greatestShared_25 rfl ?_
        refine V.istore_n (i := 3) dX7_greatestShared_27 rfl rfl rfl ?_
        dsimp only [List.set]
        refine V.iincN (n := 1) dX7_greatestShared_28 rfl rfl rfl ?_
        dsimp only [List.set]
        refine V.goto 7 dX7_greatestShared_31 (by decide) ?_
        exact ih (i + 1) (by omega) (by omega) lo (hi_ % lo) _ (eu_step ha hb hE (by omega))
  show V _ _ 0 [some (.int (nI a)), some (.int (nI b)), none, none, none, none] [] h
  refine V.iload_n dX7_greatestShared_0 rfl ?_
  refine V.istore_n (i := 2) dX7_greatestShared_1 rfl rfl rfl ?_
  dsimp only [List.set]
  refine V.iload_n dX7_greatestShared_2 rfl ?_
  refine V.istore_n (i := 3) dX7_greatestShared_3 rfl rfl rfl ?_
  dsimp only [List.set]
  refine V.iconst (v := nI 0) dX7_greatestShared_4 (by decide) ?_
  refine V.istore dX7_greatestShared_5 rfl rfl ?_
  dsimp only [List.set]
  exact L 0 (by omega) a b none ⟨rfl, ha, by omega, Or.inl ⟨rfl, rfl, rfl⟩⟩

set_option maxHeartbeats 1000000 in
theorem c_away (g : VG) (h : VHp) (c : Nat) (T : Sy) (hC : CAt h c T) (hO : SyOk T) (p w x part : Int) (hp : -2147483648 ≤ p ∧ p < 2147483648) (hw : -2147483648 ≤ w ∧ w < 2147483648) (hx0 : -2147483648 ≤ x ∧ x < 2147483648) (hpt : -2147483648 ≤ part ∧ part < 2147483648) : VE g mX7_away 5 false (0, 0) [.ref c, .int (iI p), .int (iI w), .int (iI x), .int (iI part)] h (VP (a_away T p w x part) h) := by
  obtain ⟨hc0, hT, ⟨nm, hQ⟩, hR, ⟨Q, hQr⟩, hP, hN, hSe, hCo, hKe⟩ := id hC
  obtain ⟨hOt, hOs, hOn, hOp, hOk, hOns, hOpk, hOkk⟩ := id hO
  have hB := hOs.1
  obtain ⟨lt, hto, hta, htl, htn, hte⟩ := id hT
  obtain ⟨nx, hnx, hpl, hpo, hpa, hp4, hp5⟩ := id hP
  obtain ⟨hka, hkl, hk2, hk3⟩ := id hKe
  obtain ⟨kd, xs, ys, vs, ll, ho, hk, hx, hy, hv, hl, lk, lx, ly, lv, lL, ek, ex, ey, ev, eL⟩ := id hR
  obtain ⟨bn, bW, bH, bP, bL⟩ := id hB
  have h64 := p2_64 bn
  refine VE.of (by decide) rfl (Nat.le_of_ble_eq_true rfl) ?_
  have L : ∀ m, m ≤ 2 ^ rN (tS T) → ∀ v8 : Option Value, (((isP T p ∧ 0 ≤ w ∧ w < ((8 : Nat) : Int)) ∧ 0 ≤ x ∧ x ≤ 10) ∧ 0 ≤ part ∧ part < ((2 : Nat) : Int)) → V (g, mX7_away, 5, false, h.length, VP (a_away T p w x part) h) (0, 0) 50 [some (.ref c), some (.int (iI p)), some (.int (iI w)), some (.int (iI x)), some (.int (iI part)), some (.int (nI ((awF (tS T) p.toNat w.toNat x.toNat m).2))), some (.int (nI ((awF (tS T) p.toNat w.toNat x.toNat m).1))), some (.int (nI m)), v8] [] h := by
    refine vloop (2 ^ rN (tS T)) (fun m ih hi => ?_)
    intro v8 hcd
    have hdl : ∀ m w9, draftM (tS T) p.toNat m = some w9 → w9 < 1000 := fun m w9 z => by have := wayF_lt z; omega
    refine V.iload dX7_away_50 rfl ?_
    refine V.iconst (v := nI 1) dX7_away_52 (by decide) ?_
    refine V.aload_n dX7_away_53 rfl ?_
    refine V.get fX7_26 dX7_away_54 hc0 rfl ?_
    refine V.get fX7_94 dX7_away_57 ho rfl ?_
    refine V.ishlN dX7_away_60 (p2_lt (by omega)) (by omega) ?_
    refine V.re (y := nI (2 ^ rN (tS T))) (by rw [Nat.one_mul]) ?_
    refine V.icmp_geN 120 dX7_away_61 (by decide) (by omega) (by omega) (fun hc1 => ?_) (fun hc1 => ?_)
    · skip
      have haw := aw_le hB (p := p.toNat) (w := w.toNat) (x := x.toNat) (by omega) m
      have hgl := gcd_lt (a := (awF (tS T) p.toNat w.toNat x.toNat m).2) (b := (awF (tS T) p.toNat w.toNat x.toNat m).1) (by omega) (by omega)
      refine V.iload dX7_away_120 rfl ?_
      refine V.iload dX7_away_122 rfl ?_
      refine V.callSp cX7_236 (e_greatestShared g h _ _ (by omega) (by omega)) dX7_away_124 (Nat.le_of_ble_eq_true rfl) rfl rfl (Nat.le_of_ble_eq_true rfl) ?_
      refine V.istore dX7_away_127 rfl rfl ?_
      dsimp only [List.set]
      refine V.iload dX7_away_129 rfl ?_
      refine V.iconst (v := nI 1) dX7_away_131 (by decide) ?_
      refine V.icmp_geN 138 dX7_away_132 (by decide) (by omega) (by omega) (fun hc2 => ?_) (fun hc2 => ?_)
      · skip
        refine V.iload dX7_away_138 rfl ?_
        refine V.if_neZ 148 dX7_away_140 (by decide) (by omega) (fun hc3 => ?_) (fun hc3 => ?_)
        · skip
          refine V.iload dX7_away_148 rfl ?_
          refine V.iload dX7_away_150 rfl ?_
          refine V.idivN dX7_away_152 (by omega) (by omega) (by omega) ?_
          obtain rfl : m = 2 ^ rN (tS T) := (by omega)
          exact V.iret dX7_away_153 rfl ⟨by unfold a_away; rw [if_pos hcd]; dsimp only; rw [if_neg (by omega)]; first | (rw [if_pos (by omega)]; done) | (rw [if_neg (by omega)]; done), rfl⟩
        · skip
          refine V.iload dX7_away_143 rfl ?_
          refine V.goto 150 dX7_away_145 (by decide) ?_
          refine V.iload dX7_away_150 rfl ?_
          refine V.idivN dX7_away_152 (by omega) (by omega) (by omega) ?_
          obtain rfl : m = 2 ^ rN (tS T) := (by omega)
          exact V.iret dX7_away_153 rfl ⟨by unfold a_away; rw [if_pos hcd]; dsimp only; rw [if_neg (by omega)]; first | (rw [if_pos (by omega)]; done) | (rw [if_neg (by omega)]; done), rfl⟩
      · skip
        refine V.bipush (v := iI (-4)) dX7_away_135 (by decide) ?_
        obtain rfl : m = 2 ^ rN (tS T) := (by omega)
        exact V.iret dX7_away_137 rfl ⟨by unfold a_away; rw [if_pos hcd]; dsimp only; rw [if_pos (by omega)], rfl⟩
    · skip
      have hwg := wg_6 (p := p.toNat) (x := x.toNat) (m := m) (by omega) hB.1
      refine V.iload dX7_away_64 rfl ?_
      refine V.iload_n dX7_away_66 rfl ?_
      refine V.re (iI_toN (n := p.toNat) (by omega)) ?_
      refine V.ishrN dX7_away_67 (by omega) (by omega) ?_
      refine V.iconst (v := nI 1) dX7_away_68 (by decide) ?_
      refine V.iand1N dX7_away_69 (Nat.lt_of_le_of_lt (Nat.div_le_self _ _) (by omega)) ?_
      refine V.if_neN 76 dX7_away_70 (by decide) (by omega) (fun hc4 => ?_) (fun hc4 => ?_)
      · skip
        refine V.aload_n dX7_away_76 rfl ?_
        refine V.iload dX7_away_77 rfl ?_
        refine V.iload_n dX7_away_79 rfl ?_
        refine V.re (iI_toN (n := p.toNat) (by omega)) ?_
        refine V.iload_n dX7_away_80 rfl ?_
        refine V.re (iI_toN (n := x.toNat) (by omega)) ?_
        refine V.callVp (ci := 7) cX7_229 (e_weightOf g h c T hC hO m p.toNat x.toNat (by omega) (by omega) (by omega)) dX7_away_81 (Nat.le_of_ble_eq_true rfl) rfl hc0 rfl rfl (Nat.le_of_ble_eq_true rfl) ?_
        refine V.istore dX7_away_84 rfl rfl ?_
        dsimp only [List.set]
        refine V.iload dX7_away_86 rfl ?_
        refine V.iload dX7_away_88 rfl ?_
        refine V.iaddN dX7_away_90 ?_
        refine V.istore dX7_away_91 rfl rfl ?_
        dsimp only [List.set]
        refine V.aload_n dX7_away_93 rfl ?_
        refine V.get fX7_26 dX7_away_94 hc0 rfl ?_
        refine V.iload_n dX7_away_97 rfl ?_
        refine V.re (iI_toN (n := p.toNat) (by omega)) ?_
        refine V.iload dX7_away_98 rfl ?_
        refine V.callVp (ci := 3) cX7_233 (e_draftAmong g h (c + 5) (tS T) hR hB p.toNat m (by omega) (by omega)) dX7_away_100 (Nat.le_of_ble_eq_true rfl) rfl ho rfl rfl (Nat.le_of_ble_eq_true rfl) ?_
        refine V.iload_n dX7_away_103 rfl ?_
        refine V.re (iI_toN (n := w.toNat) (by omega)) ?_
        refine V.icmp_ne 114 dX7_away_104 (by decide) (fun hc5 => ?_) (fun hc5 => ?_)
        · skip
          have hdd : ¬ draftM (tS T) p.toNat m = some w.toNat := fun z => hc5 ((eO_some (hdl m) (by omega)).mpr z)
          refine V.iincN (n := 1) dX7_away_114 rfl rfl rfl ?_
          dsimp only [List.set]
          refine V.goto 50 dX7_away_117 (by decide) ?_
          have z := fun u => ih (m + 1) (by omega) (by omega) u hcd
          first | (rw [aw_skip (by omega)] at z; exact z _) | (rw [aw_in (by omega) hdd] at z; exact z _) | (rw [aw_out (by omega) hdd] at z; exact z _)
        · skip
          have hdd : draftM (tS T) p.toNat m = some w.toNat := (eO_some (hdl m) (by omega)).mp hc5
          refine V.iload dX7_away_107 rfl ?_
          refine V.iload dX7_away_109 rfl ?_
          refine V.iaddN dX7_away_111 ?_
          refine V.istore dX7_away_112 rfl rfl ?_
          dsimp only [List.set]
          refine V.iincN (n := 1) dX7_away_114 rfl rfl rfl ?_
          dsimp only [List.set]
          refine V.goto 50 dX7_away_117 (by decide) ?_
          have z := fun u => ih (m + 1) (by omega) (by omega) u hcd
          first | (rw [aw_skip (by omega)] at z; exact z _) | (rw [aw_in (by omega) hdd] at z; exact z _) | (rw [aw_out (by omega) hdd] at z; exact z _)
      · skip
        refine V.goto 114 dX7_away_73 (by decide) ?_
        refine V.iincN (n := 1) dX7_away_114 rfl rfl rfl ?_
        dsimp only [List.set]
        refine V.goto 50 dX7_away_117 (by decide) ?_
        have z := fun u => ih (m + 1) (by omega) (by omega) u hcd
        first | (rw [aw_skip (by omega)] at z; exact z _) | (rw [aw_in (by omega) hdd] at z; exact z _) | (rw [aw_out (by omega) hdd] at z; exact z _)
  show V _ _ 0 [some (.ref c), some (.int (iI p)), some (.int (iI w)), some (.int (iI x)), some (.int (iI part)), none, none, none, none] [] h
  refine V.aload_n dX7_away_0 rfl ?_
  refine V.get fX7_26 dX7_away_1 hc0 rfl ?_
  refine V.iload_n dX7_away_4 rfl ?_
  refine V.callVp (ci := 3) cX7_103 (e_has g h (c + 5) (tS T) hR hB p (by omega)) dX7_away_5 (Nat.le_of_ble_eq_true rfl) rfl ho rfl rfl (Nat.le_of_ble_eq_true rfl) ?_
  refine V.if_eqB 39 dX7_away_8 (by decide) (fun hc1 => ?_) (fun hc1 => ?_)
  · skip
    refine V.iconst (v := iI (-1)) dX7_away_39 (by decide) ?_
    exact V.iret dX7_away_40 rfl ⟨by unfold a_away; rw [if_neg (by omega)], rfl⟩
  · skip
    refine V.iload_n dX7_away_11 rfl ?_
    refine V.bipush (v := nI 8) dX7_away_12 (by decide) ?_
    refine V.toZ1 ?_
    refine V.callSp cX7_153 (e_isBelow g h _ _ (by omega) (by omega)) dX7_away_14 (Nat.le_of_ble_eq_true rfl) rfl rfl (Nat.le_of_ble_eq_true rfl) ?_
    refine V.if_eqB 39 dX7_away_17 (by decide) (fun hc2 => ?_) (fun hc2 => ?_)
    · skip
      refine V.iconst (v := iI (-1)) dX7_away_39 (by decide) ?_
      exact V.iret dX7_away_40 rfl ⟨by unfold a_away; rw [if_neg (by omega)], rfl⟩
    · skip
      refine V.iload_n dX7_away_20 rfl ?_
      refine V.if_ltZ 39 dX7_away_21 (by decide) (by omega) (fun hc3 => ?_) (fun hc3 => ?_)
      · skip
        refine V.iconst (v := iI (-1)) dX7_away_39 (by decide) ?_
        exact V.iret dX7_away_40 rfl ⟨by unfold a_away; rw [if_neg (by omega)], rfl⟩
      · skip
        refine V.iload_n dX7_away_24 rfl ?_
        refine V.bipush (v := nI 10) dX7_away_25 (by decide) ?_
        refine V.toZ1 ?_
        refine V.icmp_gtZ 39 dX7_away_27 (by decide) (by omega) (by omega) (fun hc4 => ?_) (fun hc4 => ?_)
        · skip
          refine V.iconst (v := iI (-1)) dX7_away_39 (by decide) ?_
          exact V.iret dX7_away_40 rfl ⟨by unfold a_away; rw [if_neg (by omega)], rfl⟩
        · skip
          refine V.iload dX7_away_30 rfl ?_
          refine V.iconst (v := nI 2) dX7_away_32 (by decide) ?_
          refine V.toZ1 ?_
          refine V.callSp cX7_153 (e_isBelow g h _ _ (by omega) (by omega)) dX7_away_33 (Nat.le_of_ble_eq_true rfl) rfl rfl (Nat.le_of_ble_eq_true rfl) ?_
          refine V.if_neB 41 dX7_away_36 (by decide) (fun hc5 => ?_) (fun hc5 => ?_)
          · skip
            refine V.iconst (v := nI 0) dX7_away_41 (by decide) ?_
            refine V.istore dX7_away_42 rfl rfl ?_
            dsimp only [List.set]
            refine V.iconst (v := nI 0) dX7_away_44 (by decide) ?_
            refine V.istore dX7_away_45 rfl rfl ?_
            dsimp only [List.set]
            refine V.iconst (v := nI 0) dX7_away_47 (by decide) ?_
            refine V.istore dX7_away_48 rfl rfl ?_
            dsimp only [List.set]
            exact L 0 (Nat.zero_le _) none (by omega)
          · skip
            refine V.iconst (v := iI (-1)) dX7_away_39 (by decide) ?_
            exact V.iret dX7_away_40 rfl ⟨by unfold a_away; rw [if_neg (by omega)], rfl⟩
