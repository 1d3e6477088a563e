set_option maxHeartbeats 1000000 in
theorem c_write (g : VG) (h : VHp) (c : Nat) (T : Sy) (hC : CAt h c T) (hO : SyOk T) (z : Int) (hz : -2147483648 ≤ z ∧ z < 2147483648) : VE g mX7_write 1 false (0, 0) [.ref c, .int (iI z)] h (CP c (a_write T z) (n_write T z) h) := by
  obtain ⟨hc0, hT, ⟨nm, hQ⟩, hR, ⟨Q, hQr⟩, hP, hN, hSe, hCo, hKe⟩ := id hC
  obtain ⟨hOt, hOs, hOn, hOp, hOk, hOns, hOpk, hOkk⟩ := id hO
  have hB := hOs.1
  obtain ⟨lt, hto, hta, htl, htn, hte⟩ := id hT
  obtain ⟨nx, hnx, hpl, hpo, hpa, hp4, hp5⟩ := id hP
  obtain ⟨hka, hkl, hk2, hk3⟩ := id hKe
  obtain ⟨kd, xs, ys, vs, ll, ho, hk, hx, hy, hv, hl, lk, lx, ly, lv, lL, ek, ex, ey, ev, eL⟩ := id hR
  obtain ⟨bn, bW, bH, bP, bL⟩ := id hB
  refine VE.of (by decide) rfl (Nat.le_of_ble_eq_true rfl) ?_
  show V _ _ 0 [some (.ref c), some (.int (iI z))] [] h
  refine V.iload_n dX7_write_0 rfl ?_
  refine V.bipush (v := nI 32) dX7_write_1 (by decide) ?_
  refine V.toZ1 ?_
  refine V.icmp_ltZ 12 dX7_write_3 (by decide) (by omega) (by omega) (fun hc1 => ?_) (fun hc1 => ?_)
  · skip
    refine V.iconst (v := iI (-1)) dX7_write_12 (by decide) ?_
    exact V.iret dX7_write_13 rfl ⟨by first | (exfalso; omega) | (unfold a_write; (repeat first | rw [if_pos (by first | omega | assumption)] | rw [if_neg (by first | omega | assumption)]); try rfl), by first | (exfalso; omega) | (unfold n_write; (repeat first | rw [if_pos (by first | omega | assumption)] | rw [if_neg (by first | omega | assumption)]); exact hC), VFr.rf⟩
  · skip
    refine V.iload_n dX7_write_6 rfl ?_
    refine V.bipush (v := nI 126) dX7_write_7 (by decide) ?_
    refine V.toZ1 ?_
    refine V.icmp_leZ 14 dX7_write_9 (by decide) (by omega) (by omega) (fun hc2 => ?_) (fun hc2 => ?_)
    · skip
      refine V.aload_n dX7_write_14 rfl ?_
      refine V.get fX7_12 dX7_write_15 hc0 rfl ?_
      refine V.get fX7_92 dX7_write_18 hto rfl ?_
      refine V.sipush (v := nI 200) dX7_write_21 (by decide) ?_
      refine V.icmp_ltN 30 dX7_write_24 (by decide) (by omega) (by omega) (fun hc3 => ?_) (fun hc3 => ?_)
      · skip
        refine V.aload_n dX7_write_30 rfl ?_
        refine V.get fX7_12 dX7_write_31 hc0 rfl ?_
        refine V.iload_n dX7_write_34 rfl ?_
        refine V.re (iI_toN (n := z.toNat) (by omega)) ?_
        refine V.callV (ci := 6) cX7_81 (e_append g h (c + 1) (tT T) hT z.toNat (by omega)) dX7_write_35 (Nat.le_of_ble_eq_true rfl) rfl hto rfl rfl (Nat.le_of_ble_eq_true rfl) (fun v_ h_ hp_ => ?_)
        obtain ⟨rfl, hT2, hf2⟩ := hp_
        dsimp only [Option.toList, List.nil_append]
        have hC2 := hC.text hf2 hT2
        replace hc0 := hC2.1
        obtain ⟨lt2, hto, -⟩ := id hT2
        refine V.aload_n dX7_write_38 rfl ?_
        refine V.get fX7_12 dX7_write_39 hc0 rfl ?_
        refine V.get fX7_92 dX7_write_42 hto rfl ?_
        exact V.iret dX7_write_45 rfl ⟨by first | (exfalso; omega) | (unfold a_write; (repeat first | rw [if_pos (by first | omega | assumption)] | rw [if_neg (by first | omega | assumption)]); rw [List.length_append]; try rfl), by first | (exfalso; omega) | (unfold n_write; (repeat first | rw [if_pos (by first | omega | assumption)] | rw [if_neg (by first | omega | assumption)]); exact hC2), hf2.wide (by omega) (by omega)⟩
      · skip
        refine V.bipush (v := iI (-3)) dX7_write_27 (by decide) ?_
        exact V.iret dX7_write_29 rfl ⟨by first | (exfalso; omega) | (unfold a_write; (repeat first | rw [if_pos (by first | omega | assumption)] | rw [if_neg (by first | omega | assumption)]); try rfl), by first | (exfalso; omega) | (unfold n_write; (repeat first | rw [if_pos (by first | omega | assumption)] | rw [if_neg (by first | omega | assumption)]); exact hC), VFr.rf⟩
    · skip
      refine V.iconst (v := iI (-1)) dX7_write_12 (by decide) ?_
      exact V.iret dX7_write_13 rfl ⟨by first | (exfalso; omega) | (unfold a_write; (repeat first | rw [if_pos (by first | omega | assumption)] | rw [if_neg (by first | omega | assumption)]); try rfl), by first | (exfalso; omega) | (unfold n_write; (repeat first | rw [if_pos (by first | omega | assumption)] | rw [if_neg (by first | omega | assumption)]); exact hC), VFr.rf⟩

set_option maxHeartbeats 1000000 in
theorem c_wipe (g : VG) (h : VHp) (c : Nat) (T : Sy) (hC : CAt h c T) (hO : SyOk T) : VE g mX7_wipe 1 false (0, 0) [.ref c] h (CP c (nI (tT T).length) ([], T.2) h) := by
  obtain ⟨hc0, hT, ⟨nm, hQ⟩, hR, ⟨Q, hQr⟩, hP, hN, hSe, hCo, hKe⟩ := id hC
  obtain ⟨hOt, hOs, hOn, hOp, hOk, hOns, hOpk, hOkk⟩ := id hO
  have hB := hOs.1
  obtain ⟨lt, hto, hta, htl, htn, hte⟩ := id hT
  obtain ⟨nx, hnx, hpl, hpo, hpa, hp4, hp5⟩ := id hP
  obtain ⟨hka, hkl, hk2, hk3⟩ := id hKe
  obtain ⟨kd, xs, ys, vs, ll, ho, hk, hx, hy, hv, hl, lk, lx, ly, lv, lL, ek, ex, ey, ev, eL⟩ := id hR
  obtain ⟨bn, bW, bH, bP, bL⟩ := id hB
  refine VE.of (by decide) rfl (Nat.le_of_ble_eq_true rfl) ?_
  show V _ _ 0 [some (.ref c), none] [] h
  refine V.aload_n dX7_wipe_0 rfl ?_
  refine V.get fX7_12 dX7_wipe_1 hc0 rfl ?_
  refine V.get fX7_92 dX7_wipe_4 hto rfl ?_
  refine V.istore_n (i := 1) dX7_wipe_7 rfl rfl rfl ?_
  dsimp only [List.set]
  refine V.aload_n dX7_wipe_8 rfl ?_
  refine V.get fX7_12 dX7_wipe_9 hc0 rfl ?_
  refine V.callV (ci := 6) cX7_89 (e_textClear g h (c + 1) (tT T) hT) dX7_wipe_12 (Nat.le_of_ble_eq_true rfl) rfl hto rfl rfl (Nat.le_of_ble_eq_true rfl) (fun v_ h_ hp_ => ?_)
  obtain ⟨rfl, hT2, hf2⟩ := hp_
  dsimp only [Option.toList, List.nil_append]
  have hC2 := hC.text hf2 hT2
  refine V.iload_n dX7_wipe_15 rfl ?_
  exact V.iret dX7_wipe_16 rfl ⟨rfl, hC2, hf2.wide (by omega) (by omega)⟩

set_option maxHeartbeats 1000000 in
theorem c_fault (g : VG) (h : VHp) (c : Nat) (T : Sy) (hC : CAt h c T) (hO : SyOk T) : VE g mX7_fault 6 false (0, 0) [.ref c] h (CP c (eO (readF (tT T)).1) T h) := by
  obtain ⟨hc0, hT, ⟨nm, hQ⟩, hR, ⟨Q, hQr⟩, hP, hN, hSe, hCo, hKe⟩ := id hC
  obtain ⟨hOt, hOs, hOn, hOp, hOk, hOns, hOpk, hOkk⟩ := id hO
  have hB := hOs.1
  obtain ⟨lt, hto, hta, htl, htn, hte⟩ := id hT
  obtain ⟨nx, hnx, hpl, hpo, hpa, hp4, hp5⟩ := id hP
  obtain ⟨hka, hkl, hk2, hk3⟩ := id hKe
  obtain ⟨kd, xs, ys, vs, ll, ho, hk, hx, hy, hv, hl, lk, lx, ly, lv, lL, ek, ex, ey, ev, eL⟩ := id hR
  obtain ⟨bn, bW, bH, bP, bL⟩ := id hB
  refine VE.of (by decide) rfl (Nat.le_of_ble_eq_true rfl) ?_
  show V _ _ 0 [some (.ref c)] [] h
  refine V.aload_n dX7_fault_0 rfl ?_
  refine V.get fX7_19 dX7_fault_1 hc0 rfl ?_
  refine V.aload_n dX7_fault_4 rfl ?_
  refine V.get fX7_30 dX7_fault_5 hc0 rfl ?_
  refine V.aload_n dX7_fault_8 rfl ?_
  refine V.get fX7_12 dX7_fault_9 hc0 rfl ?_
  refine V.callV (ci := 2) cX7_85 (e_readInto g h (c + 3) (c + 11) (c + 1) Q (tT T) nm hQ hQr hT hOt (by omega) (by omega) (by omega)) dX7_fault_12 (Nat.le_of_ble_eq_true rfl) rfl hQ.1 rfl rfl (Nat.le_of_ble_eq_true rfl) (fun v_ h_ hp_ => ?_)
  obtain ⟨hf2, hQ2, rfl, hR2⟩ := hp_
  replace hR2 : RoomAt h_ (c + 11) (readF (tT T)).2 := hR2
  have hC2 := hC.read hf2 hR2 hQ2
  have hf3 : VFr c (c + 92) h h_ := ⟨hf2.1, fun q hq => hf2.2 q (by omega) (by omega)⟩
  refine V.eqst (st' := [.int (eO (readF (tT T)).1)]) rfl ?_
  replace hc0 := hC2.1
  exact V.iret dX7_fault_15 rfl ⟨rfl, hC2, hf3⟩

set_option maxHeartbeats 1000000 in
theorem c_person (g : VG) (h : VHp) (c : Nat) (T : Sy) (hC : CAt h c T) (hO : SyOk T) (p w : Int) (hp : -2147483648 ≤ p ∧ p < 2147483648) (hw : -2147483648 ≤ w ∧ w < 2147483648) : VE g mX7_person 5 false (0, 0) [.ref c, .int (iI p), .int (iI w)] h (VP (a_person T p w) h) := by
  obtain ⟨hc0, hT, ⟨nm, hQ⟩, hR, ⟨Q, hQr⟩, hP, hN, hSe, hCo, hKe⟩ := id hC
  obtain ⟨hOt, hOs, hOn, hOp, hOk, hOns, hOpk, hOkk⟩ := id hO
  have hB := hOs.1
  obtain ⟨lt, hto, hta, htl, htn, hte⟩ := id hT
  obtain ⟨nx, hnx, hpl, hpo, hpa, hp4, hp5⟩ := id hP
  obtain ⟨hka, hkl, hk2, hk3⟩ := id hKe
  obtain ⟨kd, xs, ys, vs, ll, ho, hk, hx, hy, hv, hl, lk, lx, ly, lv, lL, ek, ex, ey, ev, eL⟩ := id hR
  obtain ⟨bn, bW, bH, bP, bL⟩ := id hB
  refine VE.of (by decide) rfl (Nat.le_of_ble_eq_true rfl) ?_
  show V _ _ 0 [some (.ref c), some (.int (iI p)), some (.int (iI w))] [] h
  refine V.aload_n dX7_person_0 rfl ?_
  refine V.get fX7_26 dX7_person_1 hc0 rfl ?_
  refine V.iload_n dX7_person_4 rfl ?_
  refine V.callVp (ci := 3) cX7_103 (e_has g h (c + 5) (tS T) hR hB p (by omega)) dX7_person_5 (Nat.le_of_ble_eq_true rfl) rfl ho rfl rfl (Nat.le_of_ble_eq_true rfl) ?_
  refine V.if_neB 13 dX7_person_8 (by decide) (fun hc1 => ?_) (fun hc1 => ?_)
  · skip
    have hpp := hc1
    refine V.iload_n dX7_person_13 rfl ?_
    rcases (show w = 0 ∨ w = 1 ∨ w = 2 ∨ w = 3 ∨ w = 4 ∨ w = 5 ∨ w = 6 ∨ (w < 0 ∨ 6 < w) by omega) with hq | hq | hq | hq | hq | hq | hq | hq
    · skip
      subst hq
      refine V.tabIn (off := 42) 56 dX7_person_14 (by decide) (by decide) (by decide) (by decide) ?_
      refine V.aload_n dX7_person_56 rfl ?_
      refine V.get fX7_26 dX7_person_57 hc0 rfl ?_
      refine V.getr fX7_107 dX7_person_60 ho rfl ?_
      refine V.iload_n dX7_person_63 rfl ?_
      refine V.re (iI_toN (n := p.toNat) (by omega)) ?_
      refine V.iald dX7_person_64 hk rfl (by omega) (ek _ (by omega)) ?_
      exact V.iret dX7_person_65 rfl ⟨by unfold a_person; first | (rw [if_neg hpp]; done) | (rw [if_neg hpp]; rfl) | (rw [if_pos hpp]; rfl) | (rw [if_pos hpp]; (repeat first | rw [if_pos (by first | omega | assumption)] | rw [if_neg (by first | omega | assumption)]); rfl) | (rw [if_pos hpp]; (repeat first | rw [if_pos (by first | omega | assumption)] | rw [if_neg (by first | omega | assumption)]); done), rfl⟩
    · skip
      subst hq
      refine V.tabIn (off := 52) 66 dX7_person_14 (by decide) (by decide) (by decide) (by decide) ?_
      refine V.aload_n dX7_person_66 rfl ?_
      refine V.get fX7_26 dX7_person_67 hc0 rfl ?_
      refine V.getr fX7_111 dX7_person_70 ho rfl ?_
      refine V.iload_n dX7_person_73 rfl ?_
      refine V.re (iI_toN (n := p.toNat) (by omega)) ?_
      refine V.iald dX7_person_74 hx rfl (by omega) (ex _ (by omega)) ?_
      exact V.iret dX7_person_75 rfl ⟨by unfold a_person; first | (rw [if_neg hpp]; done) | (rw [if_neg hpp]; rfl) | (rw [if_pos hpp]; rfl) | (rw [if_pos hpp]; (repeat first | rw [if_pos (by first | omega | assumption)] | rw [if_neg (by first | omega | assumption)]); rfl) | (rw [if_pos hpp]; (repeat first | rw [if_pos (by first | omega | assumption)] | rw [if_neg (by first | omega | assumption)]); done), rfl⟩
    · skip
      subst hq
      refine V.tabIn (off := 62) 76 dX7_person_14 (by decide) (by decide) (by decide) (by decide) ?_
      refine V.aload_n dX7_person_76 rfl ?_
      refine V.get fX7_26 dX7_person_77 hc0 rfl ?_
      refine V.getr fX7_114 dX7_person_80 ho rfl ?_
      refine V.iload_n dX7_person_83 rfl ?_
      refine V.re (iI_toN (n := p.toNat) (by omega)) ?_
      refine V.iald dX7_person_84 hy rfl (by omega) (ey _ (by omega)) ?_
      exact V.iret dX7_person_85 rfl ⟨by unfold a_person; first | (rw [if_neg hpp]; done) | (rw [if_neg hpp]; rfl) | (rw [if_pos hpp]; rfl) | (rw [if_pos hpp]; (repeat first | rw [if_pos (by first | omega | assumption)] | rw [if_neg (by first | omega | assumption)]); rfl) | (rw [if_pos hpp]; (repeat first | rw [if_pos (by first | omega | assumption)] | rw [if_neg (by first | omega | assumption)]); done), rfl⟩
    · skip
      subst hq
      refine V.tabIn (off := 72) 86 dX7_person_14 (by decide) (by decide) (by decide) (by decide) ?_
      refine V.aload_n dX7_person_86 rfl ?_
      refine V.get fX7_26 dX7_person_87 hc0 rfl ?_
      refine V.getr fX7_117 dX7_person_90 ho rfl ?_
      refine V.iload_n dX7_person_93 rfl ?_
      refine V.re (iI_toN (n := p.toNat) (by omega)) ?_
      refine V.iald dX7_person_94 hv rfl (by omega) (ev _ (by omega)) ?_
      exact V.iret dX7_person_95 rfl ⟨by unfold a_person; first | (rw [if_neg hpp]; done) | (rw [if_neg hpp]; rfl) | (rw [if_pos hpp]; rfl) | (rw [if_pos hpp]; (repeat first | rw [if_pos (by first | omega | assumption)] | rw [if_neg (by first | omega | assumption)]); rfl) | (rw [if_pos hpp]; (repeat first | rw [if_pos (by first | omega | assumption)] | rw [if_neg (by first | omega | assumption)]); done), rfl⟩
    · skip
      subst hq
      refine V.tabIn (off := 82) 96 dX7_person_14 (by decide) (by decide) (by decide) (by decide) ?_
      refine V.aload_n dX7_person_96 rfl ?_
      refine V.get fX7_26 dX7_person_97 hc0 rfl ?_
      refine V.iload_n dX7_person_100 rfl ?_
      refine V.re (iI_toN (n := p.toNat) (by omega)) ?_
      refine V.callVp (ci := 3) cX7_120 (e_draft g h (c + 5) (tS T) hR hB p.toNat (by omega)) dX7_person_101 (Nat.le_of_ble_eq_true rfl) rfl ho rfl rfl (Nat.le_of_ble_eq_true rfl) ?_
      exact V.iret dX7_person_104 rfl ⟨by unfold a_person; first | (rw [if_neg hpp]; done) | (rw [if_neg hpp]; rfl) | (rw [if_pos hpp]; rfl) | (rw [if_pos hpp]; (repeat first | rw [if_pos (by first | omega | assumption)] | rw [if_neg (by first | omega | assumption)]); rfl) | (rw [if_pos hpp]; (repeat first | rw [if_pos (by first | omega | assumption)] | rw [if_neg (by first | omega | assumption)]); done), rfl⟩
    · skip
      subst hq
      refine V.tabIn (off := 91) 105 dX7_person_14 (by decide) (by decide) (by decide) (by decide) ?_
      refine V.aload_n dX7_person_105 rfl ?_
      refine V.get fX7_26 dX7_person_106 hc0 rfl ?_
      refine V.iload_n dX7_person_109 rfl ?_
      refine V.re (iI_toN (n := p.toNat) (by omega)) ?_
      refine V.bipush (v := nI 63) dX7_person_110 (by decide) ?_
      refine V.callVp (ci := 3) cX7_124 (e_feltEast g h (c + 5) (tS T) hR hB p.toNat 63 (by omega) (by omega)) dX7_person_112 (Nat.le_of_ble_eq_true rfl) rfl ho rfl rfl (Nat.le_of_ble_eq_true rfl) ?_
      refine V.sipush (v := nI 10000) dX7_person_115 (by decide) ?_
      refine V.toZ1 ?_
      refine V.iaddZ dX7_person_118 ?_
      exact V.iret dX7_person_119 rfl ⟨by unfold a_person; first | (rw [if_neg hpp]; done) | (rw [if_neg hpp]; rfl) | (rw [if_pos hpp]; rfl) | (rw [if_pos hpp]; (repeat first | rw [if_pos (by first | omega | assumption)] | rw [if_neg (by first | omega | assumption)]); rfl) | (rw [if_pos hpp]; (repeat first | rw [if_pos (by first | omega | assumption)] | rw [if_neg (by first | omega | assumption)]); done), rfl⟩
    · skip
      subst hq
      refine V.tabIn (off := 106) 120 dX7_person_14 (by decide) (by decide) (by decide) (by decide) ?_
      refine V.aload_n dX7_person_120 rfl ?_
      refine V.get fX7_26 dX7_person_121 hc0 rfl ?_
      refine V.iload_n dX7_person_124 rfl ?_
      refine V.re (iI_toN (n := p.toNat) (by omega)) ?_
      refine V.bipush (v := nI 63) dX7_person_125 (by decide) ?_
      refine V.callVp (ci := 3) cX7_128 (e_feltSouth g h (c + 5) (tS T) hR hB p.toNat 63 (by omega) (by omega)) dX7_person_127 (Nat.le_of_ble_eq_true rfl) rfl ho rfl rfl (Nat.le_of_ble_eq_true rfl) ?_
      refine V.sipush (v := nI 10000) dX7_person_130 (by decide) ?_
      refine V.toZ1 ?_
      refine V.iaddZ dX7_person_133 ?_
      exact V.iret dX7_person_134 rfl ⟨by unfold a_person; first | (rw [if_neg hpp]; done) | (rw [if_neg hpp]; rfl) | (rw [if_pos hpp]; rfl) | (rw [if_pos hpp]; (repeat first | rw [if_pos (by first | omega | assumption)] | rw [if_neg (by first | omega | assumption)]); rfl) | (rw [if_pos hpp]; (repeat first | rw [if_pos (by first | omega | assumption)] | rw [if_neg (by first | omega | assumption)]); done), rfl⟩
    · skip
      refine V.tabOut 135 dX7_person_14 (by rw [iI_toInt (by omega) (by omega)]; omega) (by decide) ?_
      refine V.iconst (v := iI (-1)) dX7_person_135 (by decide) ?_
      exact V.iret dX7_person_136 rfl ⟨by unfold a_person; first | (rw [if_neg hpp]; done) | (rw [if_neg hpp]; rfl) | (rw [if_pos hpp]; rfl) | (rw [if_pos hpp]; (repeat first | rw [if_pos (by first | omega | assumption)] | rw [if_neg (by first | omega | assumption)]); rfl) | (rw [if_pos hpp]; (repeat first | rw [if_pos (by first | omega | assumption)] | rw [if_neg (by first | omega | assumption)]); done), rfl⟩
  · skip
    have hpp := hc1
    refine V.iconst (v := iI (-1)) dX7_person_11 (by decide) ?_
    exact V.iret dX7_person_12 rfl ⟨by unfold a_person; first | (rw [if_neg hpp]; done) | (rw [if_neg hpp]; rfl) | (rw [if_pos hpp]; rfl) | (rw [if_pos hpp]; (repeat first | rw [if_pos (by first | omega | assumption)] | rw [if_neg (by first | omega | assumption)]); rfl) | (rw [if_pos hpp]; (repeat first | rw [if_pos (by first | omega | assumption)] | rw [if_neg (by first | omega | assumption)]); done), rfl⟩

set_option maxHeartbeats 1000000 in
theorem c_leaning (g : VG) (h : VHp) (c : Nat) (T : Sy) (hC : CAt h c T) (hO : SyOk T) (a b : Int) (ha : -2147483648 ≤ a ∧ a < 2147483648) (hb : -2147483648 ≤ b ∧ b < 2147483648) : VE g mX7_leaning 3 false (0, 0) [.ref c, .int (iI a), .int (iI b)] h (VP (a_leaning T a b) h) := by
  obtain ⟨hc0, hT, ⟨nm, hQ⟩, hR, ⟨Q, hQr⟩, hP, hN, hSe, hCo, hKe⟩ := id hC
  obtain ⟨hOt, hOs, hOn, hOp, hOk, hOns, hOpk, hOkk⟩ := id hO
  have hB := hOs.1
  obtain ⟨lt, hto, hta, htl, htn, hte⟩ := id hT
  obtain ⟨nx, hnx, hpl, hpo, hpa, hp4, hp5⟩ := id hP
  obtain ⟨hka, hkl, hk2, hk3⟩ := id hKe
  obtain ⟨kd, xs, ys, vs, ll, ho, hk, hx, hy, hv, hl, lk, lx, ly, lv, lL, ek, ex, ey, ev, eL⟩ := id hR
  obtain ⟨bn, bW, bH, bP, bL⟩ := id hB
  refine VE.of (by decide) rfl (Nat.le_of_ble_eq_true rfl) ?_
  show V _ _ 0 [some (.ref c), some (.int (iI a)), some (.int (iI b))] [] h
  refine V.aload_n dX7_leaning_0 rfl ?_
  refine V.get fX7_26 dX7_leaning_1 hc0 rfl ?_
  refine V.iload_n dX7_leaning_4 rfl ?_
  refine V.iload_n dX7_leaning_5 rfl ?_
  refine V.callVp (ci := 3) cX7_131 (e_hasTwo g h (c + 5) (tS T) hR hB a b (by omega) (by omega)) dX7_leaning_6 (Nat.le_of_ble_eq_true rfl) rfl ho rfl rfl (Nat.le_of_ble_eq_true rfl) ?_
  refine V.if_neB 14 dX7_leaning_9 (by decide) (fun hc1 => ?_) (fun hc1 => ?_)
  · skip
    refine V.aload_n dX7_leaning_14 rfl ?_
    refine V.get fX7_26 dX7_leaning_15 hc0 rfl ?_
    refine V.iload_n dX7_leaning_18 rfl ?_
    refine V.re (iI_toN (n := a.toNat) (by omega)) ?_
    refine V.iload_n dX7_leaning_19 rfl ?_
    refine V.re (iI_toN (n := b.toNat) (by omega)) ?_
    refine V.callVp (ci := 3) cX7_135 (e_leaningOf g h (c + 5) (tS T) hR hB a.toNat b.toNat (by omega) (by omega)) dX7_leaning_20 (Nat.le_of_ble_eq_true rfl) rfl ho rfl rfl (Nat.le_of_ble_eq_true rfl) ?_
    refine V.bipush (v := nI 20) dX7_leaning_23 (by decide) ?_
    refine V.toZ1 ?_
    refine V.iaddZ dX7_leaning_25 ?_
    exact V.iret dX7_leaning_26 rfl ⟨by first | (exfalso; omega) | (unfold a_leaning; (repeat first | rw [if_pos (by first | omega | assumption)] | rw [if_neg (by first | omega | assumption)]); try rfl), rfl⟩
  · skip
    refine V.iconst (v := iI (-1)) dX7_leaning_12 (by decide) ?_
    exact V.iret dX7_leaning_13 rfl ⟨by first | (exfalso; omega) | (unfold a_leaning; (repeat first | rw [if_pos (by first | omega | assumption)] | rw [if_neg (by first | omega | assumption)]); try rfl), rfl⟩

set_option maxHeartbeats 1000000 in
theorem c_place (g : VG) (h : VHp) (c : Nat) (T : Sy) (hC : CAt h c T) (hO : SyOk T) (x y : Int) (hx0 : -2147483648 ≤ x ∧ x < 2147483648) (hy0 : -2147483648 ≤ y ∧ y < 2147483648) : VE g mX7_place 2 false (0, 0) [.ref c, .int (iI x), .int (iI y)] h (VP (a_place T x y) h) := by
  obtain ⟨hc0, hT, ⟨nm, hQ⟩, hR, ⟨Q, hQr⟩, hP, hN, hSe, hCo, hKe⟩ := id hC
  obtain ⟨hOt, hOs, hOn, hOp, hOk, hOns, hOpk, hOkk⟩ := id hO
  have hB := hOs.1
  obtain ⟨lt, hto, hta, htl, htn, hte⟩ := id hT
  obtain ⟨nx, hnx, hpl, hpo, hpa, hp4, hp5⟩ := id hP
  obtain ⟨hka, hkl, hk2, hk3⟩ := id hKe
  obtain ⟨kd, xs, ys, vs, ll, ho, hk, hx, hy, hv, hl, lk, lx, ly, lv, lL, ek, ex, ey, ev, eL⟩ := id hR
  obtain ⟨bn, bW, bH, bP, bL⟩ := id hB
  refine VE.of (by decide) rfl (Nat.le_of_ble_eq_true rfl) ?_
  show V _ _ 0 [some (.ref c), some (.int (iI x)), some (.int (iI y))] [] h
  refine V.aload_n dX7_place_0 rfl ?_
  refine V.get fX7_26 dX7_place_1 hc0 rfl ?_
  refine V.iload_n dX7_place_4 rfl ?_
  refine V.iload_n dX7_place_5 rfl ?_
  refine V.callVp (ci := 3) cX7_138 (e_reaches g h (c + 5) (tS T) hR hB x y (by omega) (by omega)) dX7_place_6 (Nat.le_of_ble_eq_true rfl) rfl ho rfl rfl (Nat.le_of_ble_eq_true rfl) ?_
  refine V.if_neB 14 dX7_place_9 (by decide) (fun hc1 => ?_) (fun hc1 => ?_)
  · skip
    refine V.aload_n dX7_place_14 rfl ?_
    refine V.get fX7_26 dX7_place_15 hc0 rfl ?_
    refine V.iload_n dX7_place_18 rfl ?_
    refine V.re (iI_toN (n := x.toNat) (by omega)) ?_
    refine V.iload_n dX7_place_19 rfl ?_
    refine V.re (iI_toN (n := y.toNat) (by omega)) ?_
    refine V.callVp (ci := 3) cX7_141 (e_whoIsAt g h (c + 5) (tS T) hR hB x.toNat y.toNat (by omega) (by omega)) dX7_place_20 (Nat.le_of_ble_eq_true rfl) rfl ho rfl rfl (Nat.le_of_ble_eq_true rfl) ?_
    exact V.iret dX7_place_23 rfl ⟨by first | (exfalso; omega) | (unfold a_place; (repeat first | rw [if_pos (by first | omega | assumption)] | rw [if_neg (by first | omega | assumption)]); try rfl), rfl⟩
  · skip
    refine V.iconst (v := iI (-1)) dX7_place_12 (by decide) ?_
    exact V.iret dX7_place_13 rfl ⟨by first | (exfalso; omega) | (unfold a_place; (repeat first | rw [if_pos (by first | omega | assumption)] | rw [if_neg (by first | omega | assumption)]); try rfl), rfl⟩
