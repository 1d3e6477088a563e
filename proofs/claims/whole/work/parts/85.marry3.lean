def CpAt (h : VHp) (q : Nat) (M : Mt) : Prop := h[q]? = some (.inr (.inr (0, [.ref (q + 1)]))) ∧ MtAt h (q + 1) M
theorem CpAt.at {h : VHp} {q : Nat} {M : Mt} (w : CpAt h q M) : CouplesAt h q := by
  obtain ⟨h0, ml, h1, h2, -⟩ := w
  exact ⟨ml, h0, h1, h2⟩
def FdPost (q : Nat) (S : Rm) (h : VHp) : VPost := fun v h' => v = some (.int (vB ((pairF S (rN S) (fun _ => none)).isSome = true))) ∧ CpAt h' q ((pairF S (rN S) (fun _ => none)).getD (fun _ => none)) ∧ VFr q (q + 2) h h'
theorem try_MtB {f : Mt → Option Mt} {S : Rm} {M R : Mt} {p : Nat} (hf : ∀ M R, MtB S M → f M = some R → MtB S R) (hM : MtB S M) (hp : p < rN S) : ∀ e, e < rN S → tryG f S M p e = some R → MtB S R
  | 0, _, h => hf M R hM h
  | e + 1, he, h => by
    have ih := try_MtB (R := R) hf hM hp e (by omega)
    simp only [tryG] at h
    split at h
    · cases hq : f (setM M p (rN S - (e + 1))) with
      | none => rw [hq] at h; exact ih h
      | some R' => rw [hq] at h; cases h; exact hf _ _ (hM.set hp (by omega)) hq
    · exact ih h
theorem pair_MtB {S : Rm} : ∀ d, d ≤ rN S → ∀ M R, MtB S M → pairF S d M = some R → MtB S R
  | 0, _, M, R, hM, h => by
    simp only [pairF] at h
    split at h
    · cases h; exact hM
    · cases h
  | d + 1, hd, M, R, hM, h => by
    have ih := pair_MtB (S := S) d (by omega)
    simp only [pairF] at h
    split at h
    · exact try_MtB ih hM (by omega) d (by omega) h
    · exact ih M R hM h

set_option maxHeartbeats 1000000 in
theorem e_find (g : VG) (h : VHp) (q r : Nat) (S : Rm) (hR : RoomAt h r S) (hB : RmB S) (hQ : CouplesAt h q) (hd : q + 2 ≤ r ∨ r + 6 ≤ q) : VE g mX0_find 10 false (0, 0) [.ref q, .ref r] h (FdPost q S h) := by
  refine VE.of (by decide) rfl (Nat.le_of_ble_eq_true rfl) ?_
  obtain ⟨ml0, hq0, hq1, hq2⟩ := id hQ
  have bn := hB.1
  have L : ∀ i, i ≤ 6 → ∀ (h1 : VHp) (ml : List Int32), h1[q]? = some (.inr (.inr (0, [.ref (q + 1)]))) → h1[q + 1]? = some (.inl ml) → ml.length = 6 → (∀ j, j < i → ml[j]? = some (iI (-4))) → VFr q (q + 2) h h1 → V (g, mX0_find, 10, false, h.length, FdPost q S h) (0, 0) 2 [some (.ref q), some (.ref r), some (.int (nI i))] [] h1 := by
    refine vloop 6 (fun i ih hi => ?_)
    intro h1 ml hqo hqa hql hqe hf1
    have hR1 := hR.keep hf1 (by omega)
    refine V.iload_n dX0_find_2 rfl ?_
    refine V.bipush (v := nI 6) dX0_find_3 (by decide) ?_
    refine V.icmp_geN 22 dX0_find_5 (by decide) (by omega) (by omega) (fun hc1 => ?_) (fun hc1 => ?_)
    · skip
      refine V.aload_n dX0_find_22 rfl ?_
      refine V.aload_n dX0_find_23 rfl ?_
      refine V.get fX0_9 dX0_find_24 hqo rfl ?_
      refine V.iconst (v := nI 0) dX0_find_27 (by decide) ?_
      refine V.callS cX0_15 (e_pairFrom g (rN S) h1 r (q + 1) S (fun _ => none) 0 hR1 hB ⟨ml, hqa, hql, fun j hj => hqe j (by omega)⟩ (fun a b z => by cases z) (by omega) (by omega)) dX0_find_28 (show rN S + 3 + 1 ≤ 10 by omega) rfl rfl (Nat.le_of_ble_eq_true rfl) (fun v_ h_ hp_ => ?_)
      obtain ⟨rfl, hMt2, hf2⟩ := hp_
      dsimp only [Option.toList, List.cons_append, List.nil_append]
      exact V.zret dX0_find_31 rfl vB_01 ⟨rfl, ⟨(hf2.2 q (by omega)).trans hqo, hMt2⟩, hf1.tr (hf2.wide (by omega) (by omega))⟩
    · skip
      refine V.aload_n dX0_find_8 rfl ?_
      refine V.get fX0_9 dX0_find_9 hqo rfl ?_
      refine V.iload_n dX0_find_12 rfl ?_
      refine V.bipush (v := iI (-4)) dX0_find_13 (by decide) ?_
      refine V.iast dX0_find_15 hqa rfl (by omega) (by omega) ?_
      refine V.iincN (n := 1) dX0_find_16 rfl rfl rfl ?_
      dsimp only [List.set]
      refine V.goto 2 dX0_find_19 (by decide) ?_
      exact ih (i + 1) (by omega) (by omega) _ (ml.set i (iI (-4))) (vset_ne hqo (by omega)) (vset_eq hqa) (by rw [List.length_set]; exact hql) (fun j hj => by
        by_cases e : j = i
        · rw [e, List.getElem?_set_self (by omega)]
        · rw [List.getElem?_set_ne (by omega)]; exact hqe j (by omega)) (hf1.tr (VFr.set (by omega) (by omega)))
  show V _ _ 0 [some (.ref q), some (.ref r), none] [] h
  refine V.iconst (v := nI 0) dX0_find_0 (by decide) ?_
  refine V.istore_n (i := 2) dX0_find_1 rfl rfl rfl ?_
  dsimp only [List.set]
  exact L 0 (by omega) h ml0 hq0 hq1 hq2 (fun j hj => absurd hj (Nat.not_lt_zero _)) VFr.rf

set_option maxHeartbeats 1000000 in
theorem e_together (g : VG) (h : VHp) (q r : Nat) (S : Rm) (hR : RoomAt h r S) (hB : RmB S) (M : Mt) (hQ : CpAt h q M) (hMb : MtB S M) : VE g mX0_together 0 false (0, 0) [.ref q, .ref r] h (VP (nI (cntP (fun a => M a ≠ none) (rN S))) h) := by
  obtain ⟨hq0, ml, hma, hml, hme⟩ := id hQ
  obtain ⟨kd, xs, ys, vs, ll, ho, hk, hx, hy, hv, hl, lk, lx, ly, lv, lL, ek, ex, ey, ev, eL⟩ := id hR
  obtain ⟨bn, bW, bH, bP, bL⟩ := id hB
  have hmn := mt_none hMb bn
  refine VE.of (by decide) rfl (Nat.le_of_ble_eq_true rfl) ?_
  have L : ∀ p, p ≤ rN S → V (g, mX0_together, 0, false, h.length, VP (nI (cntP (fun a => M a ≠ none) (rN S))) h) (0, 0) 4 [some (.ref q), some (.ref r), some (.int (nI (cntP (fun a => M a ≠ none) p))), some (.int (nI p))] [] h := by
    refine vloop (rN S) (fun p ih hi => ?_)
    refine V.iload_n dX0_together_4 rfl ?_
    refine V.aload_n dX0_together_5 rfl ?_
    refine V.get fX0_19 dX0_together_6 ho rfl ?_
    refine V.icmp_geN 32 dX0_together_9 (by decide) (by omega) (by omega) (fun hc1 => ?_) (fun hc1 => ?_)
    · skip
      refine V.iload_n dX0_together_32 rfl ?_
      exact V.iret dX0_together_33 rfl ⟨by first | (exfalso; omega) | (obtain rfl : p = rN S := (by omega); rfl), rfl⟩
    · skip
      refine V.aload_n dX0_together_12 rfl ?_
      refine V.get fX0_9 dX0_together_13 hq0 rfl ?_
      refine V.iload_n dX0_together_16 rfl ?_
      refine V.iald dX0_together_17 hma rfl (by omega) (hme _ (by omega)) ?_
      refine V.bipush (v := iI (-4)) dX0_together_18 (by decide) ?_
      refine V.icmp_eq 26 dX0_together_20 (by decide) (fun hc2 => ?_) (fun hc2 => ?_)
      · skip
        have hz : ¬ M p ≠ none := fun z => z ((eO_none (hmn p)).mp hc2)
        refine V.iincN (n := 1) dX0_together_26 rfl rfl rfl ?_
        dsimp only [List.set]
        refine V.goto 4 dX0_together_29 (by decide) ?_
        have z := ih (p + 1) (by omega) (by omega)
        first | (rw [cntP_pos (P := fun a => M a ≠ none) (n := p) hz] at z; exact z) | (rw [cntP_neg (P := fun a => M a ≠ none) (n := p) hz] at z; exact z)
      · skip
        have hz : M p ≠ none := fun z => hc2 ((eO_none (hmn p)).mpr z)
        refine V.iincN (n := 1) dX0_together_23 rfl rfl rfl ?_
        dsimp only [List.set]
        refine V.iincN (n := 1) dX0_together_26 rfl rfl rfl ?_
        dsimp only [List.set]
        refine V.goto 4 dX0_together_29 (by decide) ?_
        have z := ih (p + 1) (by omega) (by omega)
        first | (rw [cntP_pos (P := fun a => M a ≠ none) (n := p) hz] at z; exact z) | (rw [cntP_neg (P := fun a => M a ≠ none) (n := p) hz] at z; exact z)
  show V _ _ 0 [some (.ref q), some (.ref r), none, none] [] h
  refine V.iconst (v := nI 0) dX0_together_0 (by decide) ?_
  refine V.istore_n (i := 2) dX0_together_1 rfl rfl rfl ?_
  dsimp only [List.set]
  refine V.iconst (v := nI 0) dX0_together_2 (by decide) ?_
  refine V.istore_n (i := 3) dX0_together_3 rfl rfl rfl ?_
  dsimp only [List.set]
  exact L 0 (by omega)

set_option maxHeartbeats 1000000 in
theorem c_marry (g : VG) (h : VHp) (c : Nat) (T : Sy) (hC : CAt h c T) (hO : SyOk T) (p : Int) (hp : -2147483648 ≤ p ∧ p < 2147483648) : VE g mX7_marry 11 false (0, 0) [.ref c, .int (iI p)] h (CP c (a_marry T p) T h) := by
  obtain ⟨hc0, hT, ⟨nm, hQ⟩, hR, ⟨Q, hQr⟩, hP, hN, hSe, hCo, hKe⟩ := id hC
  obtain ⟨hOt, hOs, hOn, hOp, hOk, hOns, hOpk, hOkk⟩ := id hO
  have hB := hOs.1
  obtain ⟨lt, hto, hta, htl, htn, hte⟩ := id hT
  obtain ⟨nx, hnx, hpl, hpo, hpa, hp4, hp5⟩ := id hP
  obtain ⟨hka, hkl, hk2, hk3⟩ := id hKe
  obtain ⟨kd, xs, ys, vs, ll, ho, hk, hx, hy, hv, hl, lk, lx, ly, lv, lL, ek, ex, ey, ev, eL⟩ := id hR
  obtain ⟨bn, bW, bH, bP, bL⟩ := id hB
  obtain ⟨mlc, hco0, -⟩ := id hCo
  refine VE.of (by decide) rfl (Nat.le_of_ble_eq_true rfl) ?_
  show V _ _ 0 [some (.ref c), some (.int (iI p))] [] h
  refine V.iload_n dX7_marry_0 rfl ?_
  refine V.iconst (v := iI (-1)) dX7_marry_1 (by decide) ?_
  refine V.icmp_eqZ 18 dX7_marry_2 (by decide) (by omega) (by omega) (fun hc1 => ?_) (fun hc1 => ?_)
  · skip
    refine V.aload_n dX7_marry_18 rfl ?_
    refine V.get fX7_57 dX7_marry_19 hc0 rfl ?_
    refine V.aload_n dX7_marry_22 rfl ?_
    refine V.get fX7_26 dX7_marry_23 hc0 rfl ?_
    refine V.callV (ci := 0) cX7_207 (e_find g h (c + 77) (c + 5) (tS T) hR hB hCo (by omega)) dX7_marry_26 (Nat.le_of_ble_eq_true rfl) rfl hco0 rfl rfl (Nat.le_of_ble_eq_true rfl) (fun v_ h_ hp_ => ?_)
    obtain ⟨rfl, hQ2, hf2⟩ := hp_
    dsimp only [Option.toList, List.cons_append, List.nil_append]
    generalize h_ = h2 at hQ2 hf2 ⊢
    have hC2 := hC.couples hf2 hQ2.at
    have hc2 := hC2.1
    have hR2 : RoomAt h2 (c + 5) (tS T) := hC2.2.2.2.1
    have hf3 := hf2.wide (lo' := c) (hi' := c + 92) (by omega) (by omega)
    rcases hr : pairF (tS T) (rN (tS T)) (fun _ => none) with _ | R9
    · skip
      change V _ _ _ _ (Value.int (nI 0) :: _) _
      refine V.if_neN 35 dX7_marry_29 (by decide) (by omega) (fun hc2 => ?_) (fun hc2 => ?_)
      · exact absurd rfl hc2
      · skip
        refine V.bipush (v := iI (-4)) dX7_marry_32 (by decide) ?_
        exact V.iret dX7_marry_34 rfl ⟨by unfold a_marry a_marryO; rw [if_pos (by omega), hr], hC2, hf3⟩
    · skip
      rw [hr] at hQ2
      change CpAt h2 (c + 77) R9 at hQ2
      have hMb := pair_MtB (rN (tS T)) (Nat.le_refl _) _ R9 (fun a b z => by cases z) hr
      obtain ⟨hq0, ml, hma, hml, hme⟩ := id hQ2
      change V _ _ _ _ (Value.int (nI 1) :: _) _
      refine V.if_neN 35 dX7_marry_29 (by decide) (by omega) (fun hc3 => ?_) (fun hc3 => ?_)
      · skip
        refine V.iload_n dX7_marry_35 rfl ?_
        refine V.iconst (v := iI (-1)) dX7_marry_36 (by decide) ?_
        refine V.icmp_neZ 54 dX7_marry_37 (by decide) (by omega) (by omega) (fun hc4 => ?_) (fun hc4 => ?_)
        · skip
          have hpp : isP T p := by omega
          refine V.aload_n dX7_marry_54 rfl ?_
          refine V.get fX7_57 dX7_marry_55 hc2 rfl ?_
          refine V.getr fX7_215 dX7_marry_58 hq0 rfl ?_
          refine V.iload_n dX7_marry_61 rfl ?_
          refine V.re (iI_toN (n := p.toNat) (by omega)) ?_
          refine V.iald dX7_marry_62 hma rfl (by omega) (hme _ (by omega)) ?_
          exact V.iret dX7_marry_63 rfl ⟨by first | (exfalso; omega) | (unfold a_marry a_marryO; rw [if_pos (by omega), hr]; dsimp only; first | (rw [if_pos (by omega)]; done) | (rw [if_neg (by omega)]; done)), hC2, hf3⟩
        · skip
          refine V.aload_n dX7_marry_40 rfl ?_
          refine V.get fX7_57 dX7_marry_41 hc2 rfl ?_
          refine V.aload_n dX7_marry_44 rfl ?_
          refine V.get fX7_26 dX7_marry_45 hc2 rfl ?_
          refine V.callVp (ci := 0) cX7_211 (e_together g h2 (c + 77) (c + 5) (tS T) hR2 hB R9 hQ2 hMb) dX7_marry_48 (Nat.le_of_ble_eq_true rfl) rfl hq0 rfl rfl (Nat.le_of_ble_eq_true rfl) ?_
          refine V.goto 63 dX7_marry_51 (by decide) ?_
          exact V.iret dX7_marry_63 rfl ⟨by first | (exfalso; omega) | (unfold a_marry a_marryO; rw [if_pos (by omega), hr]; dsimp only; first | (rw [if_pos (by omega)]; done) | (rw [if_neg (by omega)]; done)), hC2, hf3⟩
      · exact absurd hc3 (by omega)
  · skip
    refine V.aload_n dX7_marry_5 rfl ?_
    refine V.get fX7_26 dX7_marry_6 hc0 rfl ?_
    refine V.iload_n dX7_marry_9 rfl ?_
    refine V.callVp (ci := 3) cX7_103 (e_has g h (c + 5) (tS T) hR hB p (by omega)) dX7_marry_10 (Nat.le_of_ble_eq_true rfl) rfl ho rfl rfl (Nat.le_of_ble_eq_true rfl) ?_
    refine V.if_neB 18 dX7_marry_13 (by decide) (fun hc5 => ?_) (fun hc5 => ?_)
    · skip
      refine V.aload_n dX7_marry_18 rfl ?_
      refine V.get fX7_57 dX7_marry_19 hc0 rfl ?_
      refine V.aload_n dX7_marry_22 rfl ?_
      refine V.get fX7_26 dX7_marry_23 hc0 rfl ?_
      refine V.callV (ci := 0) cX7_207 (e_find g h (c + 77) (c + 5) (tS T) hR hB hCo (by omega)) dX7_marry_26 (Nat.le_of_ble_eq_true rfl) rfl hco0 rfl rfl (Nat.le_of_ble_eq_true rfl) (fun v_ h_ hp_ => ?_)
      obtain ⟨rfl, hQ2, hf2⟩ := hp_
      dsimp only [Option.toList, List.cons_append, List.nil_append]
      generalize h_ = h2 at hQ2 hf2 ⊢
      have hC2 := hC.couples hf2 hQ2.at
      have hc2 := hC2.1
      have hR2 : RoomAt h2 (c + 5) (tS T) := hC2.2.2.2.1
      have hf3 := hf2.wide (lo' := c) (hi' := c + 92) (by omega) (by omega)
      rcases hr : pairF (tS T) (rN (tS T)) (fun _ => none) with _ | R9
      · skip
        change V _ _ _ _ (Value.int (nI 0) :: _) _
        refine V.if_neN 35 dX7_marry_29 (by decide) (by omega) (fun hc6 => ?_) (fun hc6 => ?_)
        · exact absurd rfl hc6
        · skip
          refine V.bipush (v := iI (-4)) dX7_marry_32 (by decide) ?_
          exact V.iret dX7_marry_34 rfl ⟨by unfold a_marry a_marryO; rw [if_pos (by omega), hr], hC2, hf3⟩
      · skip
        rw [hr] at hQ2
        change CpAt h2 (c + 77) R9 at hQ2
        have hMb := pair_MtB (rN (tS T)) (Nat.le_refl _) _ R9 (fun a b z => by cases z) hr
        obtain ⟨hq0, ml, hma, hml, hme⟩ := id hQ2
        change V _ _ _ _ (Value.int (nI 1) :: _) _
        refine V.if_neN 35 dX7_marry_29 (by decide) (by omega) (fun hc7 => ?_) (fun hc7 => ?_)
        · skip
          refine V.iload_n dX7_marry_35 rfl ?_
          refine V.iconst (v := iI (-1)) dX7_marry_36 (by decide) ?_
          refine V.icmp_neZ 54 dX7_marry_37 (by decide) (by omega) (by omega) (fun hc8 => ?_) (fun hc8 => ?_)
          · skip
            have hpp : isP T p := by omega
            refine V.aload_n dX7_marry_54 rfl ?_
            refine V.get fX7_57 dX7_marry_55 hc2 rfl ?_
            refine V.getr fX7_215 dX7_marry_58 hq0 rfl ?_
            refine V.iload_n dX7_marry_61 rfl ?_
            refine V.re (iI_toN (n := p.toNat) (by omega)) ?_
            refine V.iald dX7_marry_62 hma rfl (by omega) (hme _ (by omega)) ?_
            exact V.iret dX7_marry_63 rfl ⟨by first | (exfalso; omega) | (unfold a_marry a_marryO; rw [if_pos (by omega), hr]; dsimp only; first | (rw [if_pos (by omega)]; done) | (rw [if_neg (by omega)]; done)), hC2, hf3⟩
          · skip
            refine V.aload_n dX7_marry_40 rfl ?_
            refine V.get fX7_57 dX7_marry_41 hc2 rfl ?_
            refine V.aload_n dX7_marry_44 rfl ?_
            refine V.get fX7_26 dX7_marry_45 hc2 rfl ?_
            refine V.callVp (ci := 0) cX7_211 (e_together g h2 (c + 77) (c + 5) (tS T) hR2 hB R9 hQ2 hMb) dX7_marry_48 (Nat.le_of_ble_eq_true rfl) rfl hq0 rfl rfl (Nat.le_of_ble_eq_true rfl) ?_
            refine V.goto 63 dX7_marry_51 (by decide) ?_
            exact V.iret dX7_marry_63 rfl ⟨by first | (exfalso; omega) | (unfold a_marry a_marryO; rw [if_pos (by omega), hr]; dsimp only; first | (rw [if_pos (by omega)]; done) | (rw [if_neg (by omega)]; done)), hC2, hf3⟩
        · exact absurd hc7 (by omega)
    · skip
      refine V.iconst (v := iI (-1)) dX7_marry_16 (by decide) ?_
      exact V.iret dX7_marry_17 rfl ⟨by unfold a_marry; rw [if_neg (by omega)], hC, VFr.rf⟩
