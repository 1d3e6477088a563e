set_option maxHeartbeats 1000000 in
theorem c_lay (g : VG) (h : VHp) (c : Nat) (T : Sy) (hC : CAt h c T) (hO : SyOk T) : VE g mX7_lay 6 false (0, 0) [.ref c] h (CP c (a_lay T) (n_lay T) h) := by
  obtain ⟨hc0, hT, ⟨nm, hQ⟩, hR, ⟨Q, hQr⟩, hP, hN, hSe, hCo, hKe⟩ := id hC
  obtain ⟨hOt, hOs, hOn, hOp, hOk, hOns, hOpk, hOkk⟩ := id hO
  have hB := hOs.1
  obtain ⟨lt, hto, hta, htl, htn, hte⟩ := id hT
  obtain ⟨nx, hnx, hpl, hpo, hpa, hp4, hp5⟩ := id hP
  obtain ⟨hka, hkl, hk2, hk3⟩ := id hKe
  obtain ⟨kd, xs, ys, vs, ll, ho, hk, hx, hy, hv, hl, lk, lx, ly, lv, lL, ek, ex, ey, ev, eL⟩ := id hR
  obtain ⟨bn, bW, bH, bP, bL⟩ := id hB
  obtain ⟨hro, hrl⟩ := read_res hOt
  have hrb := hro.1.1
  refine VE.of (by decide) rfl (Nat.le_of_ble_eq_true rfl) ?_
  show V _ _ 0 [some (.ref c)] [] h
  refine V.aload_n dX7_lay_0 rfl ?_
  refine V.get fX7_19 dX7_lay_1 hc0 rfl ?_
  refine V.aload_n dX7_lay_4 rfl ?_
  refine V.get fX7_30 dX7_lay_5 hc0 rfl ?_
  refine V.aload_n dX7_lay_8 rfl ?_
  refine V.get fX7_12 dX7_lay_9 hc0 rfl ?_
  refine V.callV (ci := 2) cX7_85 (e_readInto g h (c + 3) (c + 11) (c + 1) Q (tT T) nm hQ hQr hT hOt (by omega) (by omega) (by omega)) dX7_lay_12 (Nat.le_of_ble_eq_true rfl) rfl hQ.1 rfl rfl (Nat.le_of_ble_eq_true rfl) (fun v_ h_ hp_ => ?_)
  obtain ⟨hf2, hQ2, rfl, hR2⟩ := hp_
  replace hR2 : RoomAt h_ (c + 11) (readF (tT T)).2 := hR2
  have hC2 := hC.read hf2 hR2 hQ2
  have hf3 : VFr c (c + 92) h h_ := ⟨hf2.1, fun q hq => hf2.2 q (by omega) (by omega)⟩
  refine V.eqst (st' := [.int (eO (readF (tT T)).1)]) rfl ?_
  replace hc0 := hC2.1
  refine V.bipush (v := iI (-4)) dX7_lay_15 (by decide) ?_
  refine V.icmp_ne 31 dX7_lay_17 (by decide) (fun hc1 => ?_) (fun hc1 => ?_)
  · skip
    have hr1 : ¬ (readF (tT T)).1 = none := fun z => hc1 ((eO_none hrl).mpr z)
    refine V.bipush (v := iI (-2)) dX7_lay_31 (by decide) ?_
    exact V.iret dX7_lay_33 rfl ⟨by unfold a_lay; rw [if_neg (by first | exact fun z => hr1 z.1 | (intro z; omega))], by unfold n_lay; rw [if_neg (by first | exact fun z => hr1 z.1 | (intro z; omega))]; exact hC2, hf3⟩
  · skip
    have hr1 : (readF (tT T)).1 = none := (eO_none hrl).mp hc1
    refine V.aload_n dX7_lay_20 rfl ?_
    refine V.get fX7_30 dX7_lay_21 hc0 rfl ?_
    refine V.get fX7_94 dX7_lay_24 (RoomAt.obj hR2) rfl ?_
    refine V.iconst (v := nI 1) dX7_lay_27 (by decide) ?_
    refine V.icmp_geN 34 dX7_lay_28 (by decide) (by omega) (by omega) (fun hc2 => ?_) (fun hc2 => ?_)
    · skip
      refine V.aload_n dX7_lay_34 rfl ?_
      refine V.get fX7_26 dX7_lay_35 hc0 rfl ?_
      refine V.aload_n dX7_lay_38 rfl ?_
      refine V.get fX7_30 dX7_lay_39 hc0 rfl ?_
      refine V.callV (ci := 3) cX7_97 (e_copyFrom g h_ (c + 5) (c + 11) (tS T) (readF (tT T)).2 hC2.2.2.2.1 hR2 (by omega)) dX7_lay_42 (Nat.le_of_ble_eq_true rfl) rfl (RoomAt.obj hC2.2.2.2.1) rfl rfl (Nat.le_of_ble_eq_true rfl) (fun v_ h_ hp_ => ?_)
      obtain ⟨rfl, hR3, hf4⟩ := hp_
      dsimp only [Option.toList, List.nil_append]
      have hC3 := hC2.room hf4 hR3
      have hf5 := hf3.tr (hf4.wide (by omega) (by omega))
      replace hc0 := hC3.1
      have hP3 := hC3.2.2.2.2.2.1
      obtain ⟨nx, -, -, hpo, -⟩ := id hP3
      refine V.aload_n dX7_lay_45 rfl ?_
      refine V.get fX7_36 dX7_lay_46 hc0 rfl ?_
      refine V.callV (ci := 1) cX7_101 (e_pastClear g _ (c + 17) (tP T) hP3) dX7_lay_49 (Nat.le_of_ble_eq_true rfl) rfl hpo rfl rfl (Nat.le_of_ble_eq_true rfl) (fun v_ h_ hp_ => ?_)
      obtain ⟨rfl, hP4, hf6⟩ := hp_
      dsimp only [Option.toList, List.nil_append]
      have hC4 := hC3.past hf6 hP4
      have hf7 := hf5.tr (hf6.wide (by omega) (by omega))
      replace hc0 := hC4.1
      have hN4 := hC4.2.2.2.2.2.2.1
      obtain ⟨wh4, hb4, wy4, hno, -⟩ := id hN4
      refine V.aload_n dX7_lay_52 rfl ?_
      refine V.get fX7_43 dX7_lay_53 hc0 rfl ?_
      refine V.callV (ci := 5) cX7_102 (e_sightsClear g _ (c + 67) (tN T) hN4) dX7_lay_56 (Nat.le_of_ble_eq_true rfl) rfl hno rfl rfl (Nat.le_of_ble_eq_true rfl) (fun v_ h_ hp_ => ?_)
      obtain ⟨rfl, hN5, hf8⟩ := hp_
      dsimp only [Option.toList, List.nil_append]
      have hC5 := hC4.sights hf8 hN5
      have hf9 := hf7.tr (hf8.wide (by omega) (by omega))
      replace hc0 := hC5.1
      refine V.aload_n dX7_lay_59 rfl ?_
      refine V.iconst (v := nI 0) dX7_lay_60 (by decide) ?_
      refine V.puti fX7_65 dX7_lay_61 hc0 (Nat.le_of_ble_eq_true rfl) ?_
      dsimp only [List.set]
      have hC6 := hC5.count (ks := []) (Nat.zero_le _) (fun i hi => absurd hi (Nat.not_lt_zero _))
      have hf10 := hf9.tr (VFr.set (lo := c) (hi := c + 92) (a := c) (c := Sum.inr (Sum.inr (7, [Value.ref (c + 1), Value.ref (c + 3), Value.ref (c + 5), Value.ref (c + 11), Value.ref (c + 17), Value.ref (c + 67), Value.ref (c + 71), Value.ref (c + 77), Value.ref (c + 79), Value.int (nI (0))]))) (by omega) (by omega))
      replace hc0 := hC6.1
      refine V.aload_n dX7_lay_64 rfl ?_
      refine V.get fX7_26 dX7_lay_65 hc0 rfl ?_
      refine V.get fX7_94 dX7_lay_68 (RoomAt.obj hC6.2.2.2.1) rfl ?_
      exact V.iret dX7_lay_71 rfl ⟨by unfold a_lay; rw [if_pos ⟨hr1, by omega⟩], by unfold n_lay; rw [if_pos ⟨hr1, by omega⟩]; exact hC6, hf10⟩
    · skip
      refine V.bipush (v := iI (-2)) dX7_lay_31 (by decide) ?_
      exact V.iret dX7_lay_33 rfl ⟨by unfold a_lay; rw [if_neg (by first | exact fun z => hr1 z.1 | (intro z; omega))], by unfold n_lay; rw [if_neg (by first | exact fun z => hr1 z.1 | (intro z; omega))]; exact hC2, hf3⟩

set_option maxHeartbeats 1000000 in
theorem c_lean (g : VG) (h : VHp) (c : Nat) (T : Sy) (hC : CAt h c T) (hO : SyOk T) (a b l : Int) (ha : -2147483648 ≤ a ∧ a < 2147483648) (hb : -2147483648 ≤ b ∧ b < 2147483648) (hl0 : -2147483648 ≤ l ∧ l < 2147483648) : VE g mX7_lean 3 false (0, 0) [.ref c, .int (iI a), .int (iI b), .int (iI l)] h (CP c (a_lean T a b l) (n_lean T a b l) h) := by
  obtain ⟨hc0, hT, ⟨nm, hQ⟩, hR, ⟨Q, hQr⟩, hP, hN, hSe, hCo, hKe⟩ := id hC
  obtain ⟨hOt, hOs, hOn, hOp, hOk, hOns, hOpk, hOkk⟩ := id hO
  have hB := hOs.1
  obtain ⟨lt, hto, hta, htl, htn, hte⟩ := id hT
  obtain ⟨nx, hnx, hpl, hpo, hpa, hp4, hp5⟩ := id hP
  obtain ⟨hka, hkl, hk2, hk3⟩ := id hKe
  obtain ⟨kd, xs, ys, vs, ll, ho, hk, hx, hy, hv, hl, lk, lx, ly, lv, lL, ek, ex, ey, ev, eL⟩ := id hR
  obtain ⟨bn, bW, bH, bP, bL⟩ := id hB
  refine VE.of (by decide) rfl (Nat.le_of_ble_eq_true rfl) ?_
  show V _ _ 0 [some (.ref c), some (.int (iI a)), some (.int (iI b)), some (.int (iI l)), none] [] h
  refine V.aload_n dX7_lean_0 rfl ?_
  refine V.get fX7_26 dX7_lean_1 hc0 rfl ?_
  refine V.iload_n dX7_lean_4 rfl ?_
  refine V.iload_n dX7_lean_5 rfl ?_
  refine V.callVp (ci := 3) cX7_131 (e_hasTwo g h (c + 5) (tS T) hR hB a b (by omega) (by omega)) dX7_lean_6 (Nat.le_of_ble_eq_true rfl) rfl ho rfl rfl (Nat.le_of_ble_eq_true rfl) ?_
  refine V.if_eqB 24 dX7_lean_9 (by decide) (fun hc1 => ?_) (fun hc1 => ?_)
  · skip
    refine V.iconst (v := iI (-1)) dX7_lean_24 (by decide) ?_
    exact V.iret dX7_lean_25 rfl ⟨by first | (exfalso; omega) | (unfold a_lean; (repeat first | rw [if_pos (by first | omega | assumption)] | rw [if_neg (by first | omega | assumption)]); try rfl), by first | (exfalso; omega) | (unfold n_lean; (repeat first | rw [if_pos (by first | omega | assumption)] | rw [if_neg (by first | omega | assumption)]); exact hC), VFr.rf⟩
  · skip
    refine V.iload_n dX7_lean_12 rfl ?_
    refine V.bipush (v := iI (-20)) dX7_lean_13 (by decide) ?_
    refine V.icmp_ltZ 24 dX7_lean_15 (by decide) (by omega) (by omega) (fun hc2 => ?_) (fun hc2 => ?_)
    · skip
      refine V.iconst (v := iI (-1)) dX7_lean_24 (by decide) ?_
      exact V.iret dX7_lean_25 rfl ⟨by first | (exfalso; omega) | (unfold a_lean; (repeat first | rw [if_pos (by first | omega | assumption)] | rw [if_neg (by first | omega | assumption)]); try rfl), by first | (exfalso; omega) | (unfold n_lean; (repeat first | rw [if_pos (by first | omega | assumption)] | rw [if_neg (by first | omega | assumption)]); exact hC), VFr.rf⟩
    · skip
      refine V.iload_n dX7_lean_18 rfl ?_
      refine V.bipush (v := nI 20) dX7_lean_19 (by decide) ?_
      refine V.toZ1 ?_
      refine V.icmp_leZ 26 dX7_lean_21 (by decide) (by omega) (by omega) (fun hc3 => ?_) (fun hc3 => ?_)
      · skip
        refine V.aload_n dX7_lean_26 rfl ?_
        refine V.get fX7_36 dX7_lean_27 hc0 rfl ?_
        refine V.aload_n dX7_lean_30 rfl ?_
        refine V.get fX7_26 dX7_lean_31 hc0 rfl ?_
        refine V.callV (ci := 1) cX7_144 (e_remember g h (c + 17) (c + 5) (tP T) (tS T) hP hR (by omega)) dX7_lean_34 (Nat.le_of_ble_eq_true rfl) rfl hpo rfl rfl (Nat.le_of_ble_eq_true rfl) (fun v_ h_ hp_ => ?_)
        obtain ⟨rfl, hP2, hf2⟩ := hp_
        dsimp only [Option.toList, List.nil_append]
        have hC2 : CAt h_ c (tT T, tS T, rem T, T.2.2.2) := hC.past hf2 hP2
        replace hc0 := hC2.1
        have hR2 : RoomAt h_ (c + 5) (tS T) := hC2.2.2.2.1
        have hf3 : VFr c (c + 92) h h_ := hf2.wide (by omega) (by omega)
        refine V.aload_n dX7_lean_37 rfl ?_
        refine V.get fX7_26 dX7_lean_38 hc0 rfl ?_
        refine V.iload_n dX7_lean_41 rfl ?_
        refine V.re (iI_toN (n := a.toNat) (by omega)) ?_
        refine V.iload_n dX7_lean_42 rfl ?_
        refine V.re (iI_toN (n := b.toNat) (by omega)) ?_
        refine V.callVp (ci := 3) cX7_135 (e_leaningOf g h_ (c + 5) (tS T) hR2 hB a.toNat b.toNat (by omega) (by omega)) dX7_lean_43 (Nat.le_of_ble_eq_true rfl) rfl (RoomAt.obj hR2) rfl rfl (Nat.le_of_ble_eq_true rfl) ?_
        refine V.istore dX7_lean_46 rfl rfl ?_
        dsimp only [List.set]
        refine V.aload_n dX7_lean_48 rfl ?_
        refine V.get fX7_26 dX7_lean_49 hc0 rfl ?_
        refine V.iload_n dX7_lean_52 rfl ?_
        refine V.re (iI_toN (n := a.toNat) (by omega)) ?_
        refine V.iload_n dX7_lean_53 rfl ?_
        refine V.re (iI_toN (n := b.toNat) (by omega)) ?_
        refine V.iload_n dX7_lean_54 rfl ?_
        refine V.callV (ci := 3) cX7_166 (e_setLeaning g h_ (c + 5) (tS T) hR2 hB a.toNat b.toNat l (by omega) (by omega)) dX7_lean_55 (Nat.le_of_ble_eq_true rfl) rfl (RoomAt.obj hR2) rfl rfl (Nat.le_of_ble_eq_true rfl) (fun v_ h_ hp_ => ?_)
        obtain ⟨rfl, hR3, hf4⟩ := hp_
        dsimp only [Option.toList, List.nil_append]
        have hC3 := hC2.room hf4 hR3
        refine V.iload dX7_lean_58 rfl ?_
        refine V.bipush (v := nI 20) dX7_lean_60 (by decide) ?_
        refine V.toZ1 ?_
        refine V.iaddZ dX7_lean_62 ?_
        exact V.iret dX7_lean_63 rfl ⟨by first | (exfalso; omega) | (unfold a_lean; (repeat first | rw [if_pos (by first | omega | assumption)] | rw [if_neg (by first | omega | assumption)]); try rfl), by first | (exfalso; omega) | (unfold n_lean; (repeat first | rw [if_pos (by first | omega | assumption)] | rw [if_neg (by first | omega | assumption)]); exact hC3), hf3.tr (hf4.wide (by omega) (by omega))⟩
      · skip
        refine V.iconst (v := iI (-1)) dX7_lean_24 (by decide) ?_
        exact V.iret dX7_lean_25 rfl ⟨by first | (exfalso; omega) | (unfold a_lean; (repeat first | rw [if_pos (by first | omega | assumption)] | rw [if_neg (by first | omega | assumption)]); try rfl), by first | (exfalso; omega) | (unfold n_lean; (repeat first | rw [if_pos (by first | omega | assumption)] | rw [if_neg (by first | omega | assumption)]); exact hC), VFr.rf⟩

set_option maxHeartbeats 1000000 in
theorem c_walk (g : VG) (h : VHp) (c : Nat) (T : Sy) (hC : CAt h c T) (hO : SyOk T) (p s : Int) (hp : -2147483648 ≤ p ∧ p < 2147483648) (hs0 : -2147483648 ≤ s ∧ s < 2147483648) : VE g mX7_walk 3 false (0, 0) [.ref c, .int (iI p), .int (iI s)] h (CP c (a_walk T p s) (n_walk T p s) h) := by
  obtain ⟨hc0, hT, ⟨nm, hQ⟩, hR, ⟨Q, hQr⟩, hP, hN, hSe, hCo, hKe⟩ := id hC
  obtain ⟨hOt, hOs, hOn, hOp, hOk, hOns, hOpk, hOkk⟩ := id hO
  have hB := hOs.1
  obtain ⟨lt, hto, hta, htl, htn, hte⟩ := id hT
  obtain ⟨nx, hnx, hpl, hpo, hpa, hp4, hp5⟩ := id hP
  obtain ⟨hka, hkl, hk2, hk3⟩ := id hKe
  obtain ⟨kd, xs, ys, vs, ll, ho, hk, hx, hy, hv, hl, lk, lx, ly, lv, lL, ek, ex, ey, ev, eL⟩ := id hR
  obtain ⟨bn, bW, bH, bP, bL⟩ := id hB
  refine VE.of (by decide) rfl (Nat.le_of_ble_eq_true rfl) ?_
  show V _ _ 0 [some (.ref c), some (.int (iI p)), some (.int (iI s))] [] h
  refine V.aload_n dX7_walk_0 rfl ?_
  refine V.get fX7_26 dX7_walk_1 hc0 rfl ?_
  refine V.iload_n dX7_walk_4 rfl ?_
  refine V.callVp (ci := 3) cX7_103 (e_has g h (c + 5) (tS T) hR hB p (by omega)) dX7_walk_5 (Nat.le_of_ble_eq_true rfl) rfl ho rfl rfl (Nat.le_of_ble_eq_true rfl) ?_
  refine V.if_eqB 19 dX7_walk_8 (by decide) (fun hc1 => ?_) (fun hc1 => ?_)
  · skip
    refine V.iconst (v := iI (-1)) dX7_walk_19 (by decide) ?_
    exact V.iret dX7_walk_20 rfl ⟨by first | (exfalso; omega) | (unfold a_walk; (repeat first | rw [if_pos (by first | omega | assumption)] | rw [if_neg (by first | omega | assumption)]); try rfl), by first | (exfalso; omega) | (unfold n_walk; (repeat first | rw [if_pos (by first | omega | assumption)] | rw [if_neg (by first | omega | assumption)]); exact hC), VFr.rf⟩
  · skip
    refine V.iload_n dX7_walk_11 rfl ?_
    refine V.iconst (v := nI 4) dX7_walk_12 (by decide) ?_
    refine V.toZ1 ?_
    refine V.callSp cX7_153 (e_isBelow g h _ _ (by omega) (by omega)) dX7_walk_13 (Nat.le_of_ble_eq_true rfl) rfl rfl (Nat.le_of_ble_eq_true rfl) ?_
    refine V.if_neB 21 dX7_walk_16 (by decide) (fun hc2 => ?_) (fun hc2 => ?_)
    · skip
      refine V.aload_n dX7_walk_21 rfl ?_
      refine V.get fX7_26 dX7_walk_22 hc0 rfl ?_
      refine V.iload_n dX7_walk_25 rfl ?_
      refine V.re (iI_toN (n := p.toNat) (by omega)) ?_
      refine V.iload_n dX7_walk_26 rfl ?_
      refine V.re (iI_toN (n := s.toNat) (by omega)) ?_
      refine V.callVp (ci := 3) cX7_156 (e_canStep g h (c + 5) (tS T) hR hB p.toNat s.toNat (by omega) (by omega)) dX7_walk_27 (Nat.le_of_ble_eq_true rfl) rfl ho rfl rfl (Nat.le_of_ble_eq_true rfl) ?_
      refine V.if_neB 36 dX7_walk_30 (by decide) (fun hc3 => ?_) (fun hc3 => ?_)
      · skip
        have hcs := hc3
        have hcy : (isP T p ∧ 0 ≤ s ∧ s < ((4 : Nat) : Int)) ∧ canF (tS T) p.toNat s.toNat := ⟨⟨by first | assumption | omega, by omega, by omega⟩, hcs⟩
        refine V.aload_n dX7_walk_36 rfl ?_
        refine V.get fX7_36 dX7_walk_37 hc0 rfl ?_
        refine V.aload_n dX7_walk_40 rfl ?_
        refine V.get fX7_26 dX7_walk_41 hc0 rfl ?_
        refine V.callV (ci := 1) cX7_144 (e_remember g h (c + 17) (c + 5) (tP T) (tS T) hP hR (by omega)) dX7_walk_44 (Nat.le_of_ble_eq_true rfl) rfl hpo rfl rfl (Nat.le_of_ble_eq_true rfl) (fun v_ h_ hp_ => ?_)
        obtain ⟨rfl, hP2, hf2⟩ := hp_
        dsimp only [Option.toList, List.nil_append]
        have hC2 : CAt h_ c (tT T, tS T, rem T, T.2.2.2) := hC.past hf2 hP2
        replace hc0 := hC2.1
        have hR2 : RoomAt h_ (c + 5) (tS T) := hC2.2.2.2.1
        have hf3 : VFr c (c + 92) h h_ := hf2.wide (by omega) (by omega)
        refine V.aload_n dX7_walk_47 rfl ?_
        refine V.get fX7_26 dX7_walk_48 hc0 rfl ?_
        refine V.iload_n dX7_walk_51 rfl ?_
        refine V.re (iI_toN (n := p.toNat) (by omega)) ?_
        refine V.iload_n dX7_walk_52 rfl ?_
        refine V.re (iI_toN (n := s.toNat) (by omega)) ?_
        refine V.callV (ci := 3) cX7_159 (e_step g h_ (c + 5) (tS T) hR2 hB p.toNat s.toNat (by omega) (by omega) hcs.1) dX7_walk_53 (Nat.le_of_ble_eq_true rfl) rfl (RoomAt.obj hR2) rfl rfl (Nat.le_of_ble_eq_true rfl) (fun v_ h_ hp_ => ?_)
        obtain ⟨rfl, hR3, hf4⟩ := hp_
        dsimp only [Option.toList, List.nil_append]
        have hC3 := hC2.room hf4 hR3
        replace hc0 := hC3.1
        obtain ⟨kd, xs, ys, vs, ll, ho, hk, hx, hy, hv, hl, lk, lx, ly, lv, lL, ek, ex, ey, ev, eL⟩ := id hR3
        replace ex : xs[p.toNat]? = some (nI (sxF (tS T) p.toNat s.toNat).toNat) := by rw [ex _ (by show _ < rN (tS T); omega)]; show some (nI (up1 _ _ _ _)) = _; unfold up1; rw [if_pos rfl]
        replace ey : ys[p.toNat]? = some (nI (syF (tS T) p.toNat s.toNat).toNat) := by rw [ey _ (by show _ < rN (tS T); omega)]; show some (nI (up1 _ _ _ _)) = _; unfold up1; rw [if_pos rfl]
        refine V.aload_n dX7_walk_56 rfl ?_
        refine V.get fX7_26 dX7_walk_57 hc0 rfl ?_
        refine V.getr fX7_111 dX7_walk_60 ho rfl ?_
        refine V.iload_n dX7_walk_63 rfl ?_
        refine V.re (iI_toN (n := p.toNat) (by omega)) ?_
        refine V.iald dX7_walk_64 hx rfl (by omega) ex ?_
        refine V.aload_n dX7_walk_65 rfl ?_
        refine V.get fX7_26 dX7_walk_66 hc0 rfl ?_
        refine V.getr fX7_114 dX7_walk_69 ho rfl ?_
        refine V.iload_n dX7_walk_72 rfl ?_
        refine V.re (iI_toN (n := p.toNat) (by omega)) ?_
        refine V.iald dX7_walk_73 hy rfl (by omega) ey ?_
        refine V.callSp cX7_163 (e_placeNumber g _ _ _) dX7_walk_74 (Nat.le_of_ble_eq_true rfl) rfl rfl (Nat.le_of_ble_eq_true rfl) ?_
        exact V.iret dX7_walk_77 rfl ⟨by first | (exfalso; omega) | (unfold a_walk; (repeat first | rw [if_pos (by first | omega | assumption)] | rw [if_neg (by first | omega | assumption)]); try rfl), by first | (exfalso; omega) | (unfold n_walk; (repeat first | rw [if_pos (by first | omega | assumption)] | rw [if_neg (by first | omega | assumption)]); exact hC3), hf3.tr (hf4.wide (by omega) (by omega))⟩
      · skip
        have hcs := hc3
        have hcn : ¬ ((isP T p ∧ 0 ≤ s ∧ s < ((4 : Nat) : Int)) ∧ canF (tS T) p.toNat s.toNat) := fun z => hcs z.2
        refine V.bipush (v := iI (-2)) dX7_walk_33 (by decide) ?_
        exact V.iret dX7_walk_35 rfl ⟨by first | (exfalso; omega) | (unfold a_walk; (repeat first | rw [if_pos (by first | omega | assumption)] | rw [if_neg (by first | omega | assumption)]); try rfl), by first | (exfalso; omega) | (unfold n_walk; (repeat first | rw [if_pos (by first | omega | assumption)] | rw [if_neg (by first | omega | assumption)]); exact hC), VFr.rf⟩
    · skip
      refine V.iconst (v := iI (-1)) dX7_walk_19 (by decide) ?_
      exact V.iret dX7_walk_20 rfl ⟨by first | (exfalso; omega) | (unfold a_walk; (repeat first | rw [if_pos (by first | omega | assumption)] | rw [if_neg (by first | omega | assumption)]); try rfl), by first | (exfalso; omega) | (unfold n_walk; (repeat first | rw [if_pos (by first | omega | assumption)] | rw [if_neg (by first | omega | assumption)]); exact hC), VFr.rf⟩

set_option maxHeartbeats 1000000 in
theorem c_undo (g : VG) (h : VHp) (c : Nat) (T : Sy) (hC : CAt h c T) (hO : SyOk T) : VE g mX7_undo 3 false (0, 0) [.ref c] h (CP c (a_undo T) (n_undo T) h) := by
  obtain ⟨hc0, hT, ⟨nm, hQ⟩, hR, ⟨Q, hQr⟩, hP, hN, hSe, hCo, hKe⟩ := id hC
  obtain ⟨hOt, hOs, hOn, hOp, hOk, hOns, hOpk, hOkk⟩ := id hO
  have hB := hOs.1
  obtain ⟨lt, hto, hta, htl, htn, hte⟩ := id hT
  obtain ⟨nx, hnx, hpl, hpo, hpa, hp4, hp5⟩ := id hP
  obtain ⟨hka, hkl, hk2, hk3⟩ := id hKe
  obtain ⟨kd, xs, ys, vs, ll, ho, hk, hx, hy, hv, hl, lk, lx, ly, lv, lL, ek, ex, ey, ev, eL⟩ := id hR
  obtain ⟨bn, bW, bH, bP, bL⟩ := id hB
  refine VE.of (by decide) rfl (Nat.le_of_ble_eq_true rfl) ?_
  show V _ _ 0 [some (.ref c)] [] h
  refine V.aload_n dX7_undo_0 rfl ?_
  refine V.get fX7_36 dX7_undo_1 hc0 rfl ?_
  refine V.get fX7_170 dX7_undo_4 hpo rfl ?_
  refine V.iconst (v := nI 1) dX7_undo_7 (by decide) ?_
  refine V.icmp_geN 14 dX7_undo_8 (by decide) (by omega) (by omega) (fun hc1 => ?_) (fun hc1 => ?_)
  · skip
    refine V.aload_n dX7_undo_14 rfl ?_
    refine V.get fX7_36 dX7_undo_15 hc0 rfl ?_
    refine V.aload_n dX7_undo_18 rfl ?_
    refine V.get fX7_26 dX7_undo_19 hc0 rfl ?_
    refine V.callV (ci := 1) cX7_173 (e_restoreLatest g h (c + 17) (c + 5) (tP T) (tS T) hP hR (by omega) (by omega)) dX7_undo_22 (Nat.le_of_ble_eq_true rfl) rfl hpo rfl rfl (Nat.le_of_ble_eq_true rfl) (fun v_ h_ hp_ => ?_)
    obtain ⟨rfl, hR2, hP2, hf2⟩ := hp_
    dsimp only [Option.toList, List.nil_append]
    have hC2 := hC.undo hf2 hR2 hP2
    have hf3 : VFr c (c + 92) h h_ := ⟨hf2.1, fun q hq => hf2.2 q (by omega) (by omega)⟩
    replace hc0 := hC2.1
    obtain ⟨nx, -, -, hpo, -⟩ := id hP2
    refine V.aload_n dX7_undo_25 rfl ?_
    refine V.get fX7_36 dX7_undo_26 hc0 rfl ?_
    refine V.get fX7_170 dX7_undo_29 hpo rfl ?_
    exact V.iret dX7_undo_32 rfl ⟨by first | (exfalso; omega) | (unfold a_undo; (repeat first | rw [if_pos (by first | omega | assumption)] | rw [if_neg (by first | omega | assumption)]); rw [List.length_tail]; try rfl), by first | (exfalso; omega) | (unfold n_undo; (repeat first | rw [if_pos (by first | omega | assumption)] | rw [if_neg (by first | omega | assumption)]); exact hC2), hf3⟩
  · skip
    refine V.bipush (v := iI (-2)) dX7_undo_11 (by decide) ?_
    exact V.iret dX7_undo_13 rfl ⟨by first | (exfalso; omega) | (unfold a_undo; (repeat first | rw [if_pos (by first | omega | assumption)] | rw [if_neg (by first | omega | assumption)]); try rfl), by first | (exfalso; omega) | (unfold n_undo; (repeat first | rw [if_pos (by first | omega | assumption)] | rw [if_neg (by first | omega | assumption)]); exact hC), VFr.rf⟩
