def resL (tx : List Nat) (i : Nat) (S : Rm) : Option (Rm × Nat) := bq (nuZ tx i ((0 : Nat) : Int) (((rN S : Nat) : Int) - ((1 : Nat) : Int)) 44) (fun a j1 => bq (nuZ tx j1 ((0 : Nat) : Int) (((rN S : Nat) : Int) - ((1 : Nat) : Int)) 44) (fun b j2 => bq (nuZ tx j2 ((0 : Nat) : Int) ((1 : Nat) : Int) 44) (fun s j3 => bq (nuZ tx j3 ((0 : Nat) : Int) ((20 : Nat) : Int) 59) (fun l j4 => if a = b then none else some (rLean S a.toNat b.toNat (if s = 1 then -l else l), j4)))))

set_option maxHeartbeats 1000000 in
theorem m_readsLeaning (g : VG) (h : VHp) (m : Nat) (F : MF) (A : MA) (tx : List Nat) (S : Rm) (hT : MTx h m F A tx) (hD : MDr h m F A S) (hB : RmB S) (i : Nat) (hF4 : F 4 = nI i) (hi : i < 300) : VE g mX8_readsLeaning 3 false (0, 0) [.ref m] h (MRd m F A S (resL tx i S) h) := by
  obtain ⟨hw, ⟨et0, et1, et2, ek⟩, ⟨es0, ev, ex, ey, eL⟩, hz0⟩ := id hD
  obtain ⟨ho, hA⟩ := id hw
  obtain ⟨bn, bW, bH, bP, bL⟩ := id hB
  have hl3 : (A 3).length = 9 := (hA 3 (by omega) (by omega)).2
  have hl4 : (A 4).length = 55 := (hA 4 (by omega) (by omega)).2
  refine VE.of (by decide) rfl (Nat.le_of_ble_eq_true rfl) ?_
  show V _ _ 0 [some (.ref m), none, none, none, none] [] h
  refine V.aload_n dX8_readsLeaning_0 rfl ?_
  refine V.iconst (v := nI 0) dX8_readsLeaning_1 (by decide) ?_
  refine V.aload_n dX8_readsLeaning_2 rfl ?_
  refine V.get fX8_16 dX8_readsLeaning_3 ho rfl ?_
  refine V.iconst (v := nI 2) dX8_readsLeaning_6 (by decide) ?_
  refine V.iald dX8_readsLeaning_7 (hA 3 (by omega) (by omega)).1 rfl (by omega) et2 ?_
  refine V.iconst (v := nI 1) dX8_readsLeaning_8 (by decide) ?_
  refine V.toZ1 ?_
  refine V.toZ2 ?_
  refine V.isubZ dX8_readsLeaning_9 ?_
  refine V.bipush (v := nI 44) dX8_readsLeaning_10 (by decide) ?_
  refine V.toZ3 ?_
  refine V.callV (ci := 8) cX8_72 (m_number g h m F A tx hT i hF4 (by omega) (((0 : Nat) : Int)) (((rN S : Nat) : Int) - ((1 : Nat) : Int)) 44 (by omega) (by omega) (by omega)) dX8_readsLeaning_12 (Nat.le_of_ble_eq_true rfl) rfl ho rfl rfl (Nat.le_of_ble_eq_true rfl) (fun v_ h_ hp_ => ?_)
  obtain ⟨rfl, hw1, hf1⟩ := hp_
  dsimp only [Option.toList, List.cons_append, List.nil_append]
  have hqb1 := nuZ_bd (tx := tx) (a := i) (lo := ((0 : Nat) : Int)) (hi := ((rN S : Nat) : Int) - ((1 : Nat) : Int)) (e := 44) hT.2.2.2.2
  obtain ⟨q1, eq1⟩ : ∃ q, q = nuZ tx i (((0 : Nat) : Int)) (((rN S : Nat) : Int) - ((1 : Nat) : Int)) 44 := ⟨_, rfl⟩
  rw [← eq1] at hw1 hqb1 ⊢
  generalize h_ = h1 at hw1 hf1 ⊢
  have hT1 := hT.at4 hw1
  have hD1 := hD.at4 hw1
  have hfj1 : ∀ j, j ≠ 4 → upF F 4 (nI q1.2) j = F j := fun j hj => upF_n hj
  have hF41 : upF F 4 (nI q1.2) 4 = nI q1.2 := upF_s
  generalize upF F 4 (nI q1.2) = F1 at hw1 hT1 hD1 hfj1 hF41
  have hfr1 := (hf1.wide (lo' := m) (hi' := m + 12) (by omega) (by omega))
  obtain ⟨ho1, hA1⟩ := id hw1
  refine V.istore_n (i := 1) dX8_readsLeaning_15 rfl rfl rfl ?_
  dsimp only [List.set]
  refine V.iload_n dX8_readsLeaning_16 rfl ?_
  refine V.if_geZ 24 dX8_readsLeaning_17 (by decide) (by omega) (fun hc1 => ?_) (fun hc1 => ?_)
  · skip
    refine V.aload_n dX8_readsLeaning_24 rfl ?_
    refine V.iconst (v := nI 0) dX8_readsLeaning_25 (by decide) ?_
    refine V.aload_n dX8_readsLeaning_26 rfl ?_
    refine V.get fX8_16 dX8_readsLeaning_27 ho1 rfl ?_
    refine V.iconst (v := nI 2) dX8_readsLeaning_30 (by decide) ?_
    refine V.iald dX8_readsLeaning_31 (hA1 3 (by omega) (by omega)).1 rfl (by omega) et2 ?_
    refine V.iconst (v := nI 1) dX8_readsLeaning_32 (by decide) ?_
    refine V.toZ1 ?_
    refine V.toZ2 ?_
    refine V.isubZ dX8_readsLeaning_33 ?_
    refine V.bipush (v := nI 44) dX8_readsLeaning_34 (by decide) ?_
    refine V.toZ3 ?_
    refine V.callV (ci := 8) cX8_72 (m_number g h1 m F1 A tx hT1 q1.2 hF41 (by omega) (((0 : Nat) : Int)) (((rN S : Nat) : Int) - ((1 : Nat) : Int)) 44 (by omega) (by omega) (by omega)) dX8_readsLeaning_36 (Nat.le_of_ble_eq_true rfl) rfl ho1 rfl rfl (Nat.le_of_ble_eq_true rfl) (fun v_ h_ hp_ => ?_)
    obtain ⟨rfl, hw2, hf2⟩ := hp_
    dsimp only [Option.toList, List.cons_append, List.nil_append]
    have hqb2 := nuZ_bd (tx := tx) (a := q1.2) (lo := ((0 : Nat) : Int)) (hi := ((rN S : Nat) : Int) - ((1 : Nat) : Int)) (e := 44) hT1.2.2.2.2
    obtain ⟨q2, eq2⟩ : ∃ q, q = nuZ tx q1.2 (((0 : Nat) : Int)) (((rN S : Nat) : Int) - ((1 : Nat) : Int)) 44 := ⟨_, rfl⟩
    rw [← eq2] at hw2 hqb2 ⊢
    generalize h_ = h2 at hw2 hf2 ⊢
    have hT2 := hT1.at4 hw2
    have hD2 := hD1.at4 hw2
    have hfj2 : ∀ j, j ≠ 4 → upF F1 4 (nI q2.2) j = F j := fun j hj => (upF_n hj).trans (hfj1 j hj)
    have hF42 : upF F1 4 (nI q2.2) 4 = nI q2.2 := upF_s
    generalize upF F1 4 (nI q2.2) = F2 at hw2 hT2 hD2 hfj2 hF42
    have hfr2 := hfr1.tr (hf2.wide (lo' := m) (hi' := m + 12) (by omega) (by omega))
    obtain ⟨ho2, hA2⟩ := id hw2
    refine V.istore_n (i := 2) dX8_readsLeaning_39 rfl rfl rfl ?_
    dsimp only [List.set]
    refine V.iload_n dX8_readsLeaning_40 rfl ?_
    refine V.if_geZ 48 dX8_readsLeaning_41 (by decide) (by omega) (fun hc2 => ?_) (fun hc2 => ?_)
    · skip
      refine V.aload_n dX8_readsLeaning_48 rfl ?_
      refine V.iconst (v := nI 0) dX8_readsLeaning_49 (by decide) ?_
      refine V.iconst (v := nI 1) dX8_readsLeaning_50 (by decide) ?_
      refine V.bipush (v := nI 44) dX8_readsLeaning_51 (by decide) ?_
      refine V.toZ2 ?_
      refine V.toZ3 ?_
      refine V.callV (ci := 8) cX8_72 (m_number g h2 m F2 A tx hT2 q2.2 hF42 (by omega) (((0 : Nat) : Int)) (((1 : Nat) : Int)) 44 (by omega) (by omega) (by omega)) dX8_readsLeaning_53 (Nat.le_of_ble_eq_true rfl) rfl ho2 rfl rfl (Nat.le_of_ble_eq_true rfl) (fun v_ h_ hp_ => ?_)
      obtain ⟨rfl, hw3, hf3⟩ := hp_
      dsimp only [Option.toList, List.cons_append, List.nil_append]
      have hqb3 := nuZ_bd (tx := tx) (a := q2.2) (lo := ((0 : Nat) : Int)) (hi := ((1 : Nat) : Int)) (e := 44) hT2.2.2.2.2
      obtain ⟨q3, eq3⟩ : ∃ q, q = nuZ tx q2.2 (((0 : Nat) : Int)) (((1 : Nat) : Int)) 44 := ⟨_, rfl⟩
      rw [← eq3] at hw3 hqb3 ⊢
      generalize h_ = h3 at hw3 hf3 ⊢
      have hT3 := hT2.at4 hw3
      have hD3 := hD2.at4 hw3
      have hfj3 : ∀ j, j ≠ 4 → upF F2 4 (nI q3.2) j = F j := fun j hj => (upF_n hj).trans (hfj2 j hj)
      have hF43 : upF F2 4 (nI q3.2) 4 = nI q3.2 := upF_s
      generalize upF F2 4 (nI q3.2) = F3 at hw3 hT3 hD3 hfj3 hF43
      have hfr3 := hfr2.tr (hf3.wide (lo' := m) (hi' := m + 12) (by omega) (by omega))
      obtain ⟨ho3, hA3⟩ := id hw3
      refine V.istore_n (i := 3) dX8_readsLeaning_56 rfl rfl rfl ?_
      dsimp only [List.set]
      refine V.iload_n dX8_readsLeaning_57 rfl ?_
      refine V.if_geZ 65 dX8_readsLeaning_58 (by decide) (by omega) (fun hc3 => ?_) (fun hc3 => ?_)
      · skip
        refine V.aload_n dX8_readsLeaning_65 rfl ?_
        refine V.iconst (v := nI 0) dX8_readsLeaning_66 (by decide) ?_
        refine V.bipush (v := nI 20) dX8_readsLeaning_67 (by decide) ?_
        refine V.bipush (v := nI 59) dX8_readsLeaning_69 (by decide) ?_
        refine V.toZ2 ?_
        refine V.toZ3 ?_
        refine V.callV (ci := 8) cX8_72 (m_number g h3 m F3 A tx hT3 q3.2 hF43 (by omega) (((0 : Nat) : Int)) (((20 : Nat) : Int)) 59 (by omega) (by omega) (by omega)) dX8_readsLeaning_71 (Nat.le_of_ble_eq_true rfl) rfl ho3 rfl rfl (Nat.le_of_ble_eq_true rfl) (fun v_ h_ hp_ => ?_)
        obtain ⟨rfl, hw4, hf4⟩ := hp_
        dsimp only [Option.toList, List.cons_append, List.nil_append]
        have hqb4 := nuZ_bd (tx := tx) (a := q3.2) (lo := ((0 : Nat) : Int)) (hi := ((20 : Nat) : Int)) (e := 59) hT3.2.2.2.2
        obtain ⟨q4, eq4⟩ : ∃ q, q = nuZ tx q3.2 (((0 : Nat) : Int)) (((20 : Nat) : Int)) 59 := ⟨_, rfl⟩
        rw [← eq4] at hw4 hqb4 ⊢
        generalize h_ = h4 at hw4 hf4 ⊢
        have hT4 := hT3.at4 hw4
        have hD4 := hD3.at4 hw4
        have hfj4 : ∀ j, j ≠ 4 → upF F3 4 (nI q4.2) j = F j := fun j hj => (upF_n hj).trans (hfj3 j hj)
        have hF44 : upF F3 4 (nI q4.2) 4 = nI q4.2 := upF_s
        generalize upF F3 4 (nI q4.2) = F4 at hw4 hT4 hD4 hfj4 hF44
        have hfr4 := hfr3.tr (hf4.wide (lo' := m) (hi' := m + 12) (by omega) (by omega))
        obtain ⟨ho4, hA4⟩ := id hw4
        refine V.istore dX8_readsLeaning_74 rfl rfl ?_
        dsimp only [List.set]
        refine V.iload dX8_readsLeaning_76 rfl ?_
        refine V.if_ltZ 86 dX8_readsLeaning_78 (by decide) (by omega) (fun hc4 => ?_) (fun hc4 => ?_)
        · skip
          refine V.iconst (v := nI 0) dX8_readsLeaning_86 (by decide) ?_
          have hres : resL tx i S = none := by
            unfold resL
            rw [← eq1]
            first | rw [bq_neg (by omega)] | rw [bq_pos (by omega)]
            rw [← eq2]
            first | rw [bq_neg (by omega)] | rw [bq_pos (by omega)]
            rw [← eq3]
            first | rw [bq_neg (by omega)] | rw [bq_pos (by omega)]
            rw [← eq4]
            first | rw [bq_neg (by omega)] | rw [bq_pos (by omega)]
            all_goals (repeat first | rw [if_pos (by first | omega | assumption)] | rw [if_neg (by first | omega | assumption)])
          have hpo : MRd m F A S (resL tx i S) h (some (.int (nI 0))) h4 := by
            rw [hres]
            exact ⟨rfl, ⟨F4, A 3, A 4, by rw [upA_id, upA_id]; exact hD4, hfj4, fun w hw => by cases hw⟩, hfr4⟩
          exact V.zret dX8_readsLeaning_87 rfl (Or.inl rfl) hpo
        · skip
          refine V.iload_n dX8_readsLeaning_81 rfl ?_
          refine V.re (iI_toN (n := q1.1.toNat) (by omega)) ?_
          refine V.iload_n dX8_readsLeaning_82 rfl ?_
          refine V.re (iI_toN (n := q2.1.toNat) (by omega)) ?_
          refine V.icmp_neN 88 dX8_readsLeaning_83 (by decide) (by omega) (by omega) (fun hc5 => ?_) (fun hc5 => ?_)
          · skip
            refine V.aload_n dX8_readsLeaning_88 rfl ?_
            refine V.get fX8_19 dX8_readsLeaning_89 ho4 rfl ?_
            refine V.bipush (v := nI 19) dX8_readsLeaning_92 (by decide) ?_
            refine V.bipush (v := nI 6) dX8_readsLeaning_94 (by decide) ?_
            refine V.iload_n dX8_readsLeaning_96 rfl ?_
            refine V.re (iI_toN (n := q1.1.toNat) (by omega)) ?_
            refine V.imulN dX8_readsLeaning_97 ?_
            refine V.iaddN dX8_readsLeaning_98 ?_
            refine V.iload_n dX8_readsLeaning_99 rfl ?_
            refine V.re (iI_toN (n := q2.1.toNat) (by omega)) ?_
            refine V.iaddN dX8_readsLeaning_100 ?_
            refine V.iload_n dX8_readsLeaning_101 rfl ?_
            refine V.iconst (v := nI 1) dX8_readsLeaning_102 (by decide) ?_
            refine V.toZ1 ?_
            refine V.icmp_neZ 112 dX8_readsLeaning_103 (by decide) (by omega) (by omega) (fun hc6 => ?_) (fun hc6 => ?_)
            · skip
              refine V.iload dX8_readsLeaning_112 rfl ?_
              refine V.iast dX8_readsLeaning_114 (hA4 4 (by omega) (by omega)).1 rfl (by omega) (by rw [(hA4 4 (by omega) (by omega)).2]; show _ < 55; omega) ?_
              refine V.iconst (v := nI 1) dX8_readsLeaning_115 (by decide) ?_
              have hres : resL tx i S = some (rLean S q1.1.toNat q2.1.toNat (if q3.1 = 1 then -q4.1 else q4.1), q4.2) := by
                unfold resL
                rw [← eq1]
                first | rw [bq_neg (by omega)] | rw [bq_pos (by omega)]
                rw [← eq2]
                first | rw [bq_neg (by omega)] | rw [bq_pos (by omega)]
                rw [← eq3]
                first | rw [bq_neg (by omega)] | rw [bq_pos (by omega)]
                rw [← eq4]
                first | rw [bq_neg (by omega)] | rw [bq_pos (by omega)]
                rw [if_neg (by omega)]
              have eq9 : (if q3.1 = 1 then -q4.1 else q4.1) = q4.1 := by (repeat first | rw [if_pos (by first | omega | assumption)] | rw [if_neg (by first | omega | assumption)])
              rw [eq9] at hres
              have hw5 := MRaw.set hw4 4 (by omega) (by omega) ((A 4).set (19 + 6 * q1.1.toNat + q2.1.toNat) (iI (q4.1))) (by rw [List.length_set]; exact hl4)
              have hpo : MRd m F A S (resL tx i S) h (some (.int (nI 1))) (h4.set (m + 4) (Sum.inl ((A 4).set (19 + 6 * q1.1.toNat + q2.1.toNat) (iI (q4.1))))) := by
                rw [hres]
                refine ⟨rfl, ⟨F4, A 3, (A 4).set (19 + 6 * q1.1.toNat + q2.1.toNat) (iI (q4.1)), ⟨by rw [upA_id]; exact hw5, ?_, ?_, ?_⟩, hfj4, fun w hw => by cases hw; exact hF44⟩, hfr4.tr (VFr.set (by omega) (by omega))⟩
                · rw [upA_id, upA_n (by omega)]; exact ⟨et0, et1, et2, ek⟩
                · rw [upA_s]; exact RowS.l (A := fun _ => A 4) hD.2.2.1 hl4 bn (by omega) (by omega)
                · intro j hj
                  rw [upA_s, List.getElem?_set_ne (by omega)]; exact hz0 j hj
              exact V.zret dX8_readsLeaning_116 rfl (Or.inr rfl) hpo
            · skip
              refine V.iload dX8_readsLeaning_106 rfl ?_
              refine V.inegZ dX8_readsLeaning_108 ?_
              refine V.goto 114 dX8_readsLeaning_109 (by decide) ?_
              refine V.iast dX8_readsLeaning_114 (hA4 4 (by omega) (by omega)).1 rfl (by omega) (by rw [(hA4 4 (by omega) (by omega)).2]; show _ < 55; omega) ?_
              refine V.iconst (v := nI 1) dX8_readsLeaning_115 (by decide) ?_
              have hres : resL tx i S = some (rLean S q1.1.toNat q2.1.toNat (if q3.1 = 1 then -q4.1 else q4.1), q4.2) := by
                unfold resL
                rw [← eq1]
                first | rw [bq_neg (by omega)] | rw [bq_pos (by omega)]
                rw [← eq2]
                first | rw [bq_neg (by omega)] | rw [bq_pos (by omega)]
                rw [← eq3]
                first | rw [bq_neg (by omega)] | rw [bq_pos (by omega)]
                rw [← eq4]
                first | rw [bq_neg (by omega)] | rw [bq_pos (by omega)]
                rw [if_neg (by omega)]
              have eq9 : (if q3.1 = 1 then -q4.1 else q4.1) = -q4.1 := by (repeat first | rw [if_pos (by first | omega | assumption)] | rw [if_neg (by first | omega | assumption)])
              rw [eq9] at hres
              have hw5 := MRaw.set hw4 4 (by omega) (by omega) ((A 4).set (19 + 6 * q1.1.toNat + q2.1.toNat) (iI (-q4.1))) (by rw [List.length_set]; exact hl4)
              have hpo : MRd m F A S (resL tx i S) h (some (.int (nI 1))) (h4.set (m + 4) (Sum.inl ((A 4).set (19 + 6 * q1.1.toNat + q2.1.toNat) (iI (-q4.1))))) := by
                rw [hres]
                refine ⟨rfl, ⟨F4, A 3, (A 4).set (19 + 6 * q1.1.toNat + q2.1.toNat) (iI (-q4.1)), ⟨by rw [upA_id]; exact hw5, ?_, ?_, ?_⟩, hfj4, fun w hw => by cases hw; exact hF44⟩, hfr4.tr (VFr.set (by omega) (by omega))⟩
                · rw [upA_id, upA_n (by omega)]; exact ⟨et0, et1, et2, ek⟩
                · rw [upA_s]; exact RowS.l (A := fun _ => A 4) hD.2.2.1 hl4 bn (by omega) (by omega)
                · intro j hj
                  rw [upA_s, List.getElem?_set_ne (by omega)]; exact hz0 j hj
              exact V.zret dX8_readsLeaning_116 rfl (Or.inr rfl) hpo
          · skip
            refine V.iconst (v := nI 0) dX8_readsLeaning_86 (by decide) ?_
            have hres : resL tx i S = none := by
              unfold resL
              rw [← eq1]
              first | rw [bq_neg (by omega)] | rw [bq_pos (by omega)]
              rw [← eq2]
              first | rw [bq_neg (by omega)] | rw [bq_pos (by omega)]
              rw [← eq3]
              first | rw [bq_neg (by omega)] | rw [bq_pos (by omega)]
              rw [← eq4]
              first | rw [bq_neg (by omega)] | rw [bq_pos (by omega)]
              all_goals (repeat first | rw [if_pos (by first | omega | assumption)] | rw [if_neg (by first | omega | assumption)])
            have hpo : MRd m F A S (resL tx i S) h (some (.int (nI 0))) h4 := by
              rw [hres]
              exact ⟨rfl, ⟨F4, A 3, A 4, by rw [upA_id, upA_id]; exact hD4, hfj4, fun w hw => by cases hw⟩, hfr4⟩
            exact V.zret dX8_readsLeaning_87 rfl (Or.inl rfl) hpo
      · skip
        refine V.iconst (v := iI (-1)) dX8_readsLeaning_61 (by decide) ?_
        refine V.goto 74 dX8_readsLeaning_62 (by decide) ?_
        refine V.istore dX8_readsLeaning_74 rfl rfl ?_
        dsimp only [List.set]
        refine V.iload dX8_readsLeaning_76 rfl ?_
        refine V.if_ltZ 86 dX8_readsLeaning_78 (by decide) (by omega) (fun hc7 => ?_) (fun hc7 => ?_)
        · skip
          refine V.iconst (v := nI 0) dX8_readsLeaning_86 (by decide) ?_
          have hres : resL tx i S = none := by
            unfold resL
            rw [← eq1]
            first | rw [bq_neg (by omega)] | rw [bq_pos (by omega)]
            rw [← eq2]
            first | rw [bq_neg (by omega)] | rw [bq_pos (by omega)]
            rw [← eq3]
            first | rw [bq_neg (by omega)] | rw [bq_pos (by omega)]
            all_goals (repeat first | rw [if_pos (by first | omega | assumption)] | rw [if_neg (by first | omega | assumption)])
          have hpo : MRd m F A S (resL tx i S) h (some (.int (nI 0))) h3 := by
            rw [hres]
            exact ⟨rfl, ⟨F3, A 3, A 4, by rw [upA_id, upA_id]; exact hD3, hfj3, fun w hw => by cases hw⟩, hfr3⟩
          exact V.zret dX8_readsLeaning_87 rfl (Or.inl rfl) hpo
        · exact absurd hc7 (by omega)
    · skip
      refine V.iconst (v := iI (-1)) dX8_readsLeaning_44 (by decide) ?_
      refine V.goto 56 dX8_readsLeaning_45 (by decide) ?_
      refine V.istore_n (i := 3) dX8_readsLeaning_56 rfl rfl rfl ?_
      dsimp only [List.set]
      refine V.iload_n dX8_readsLeaning_57 rfl ?_
      refine V.if_geZ 65 dX8_readsLeaning_58 (by decide) (by omega) (fun hc8 => ?_) (fun hc8 => ?_)
      · exact absurd hc8 (by omega)
      · skip
        refine V.iconst (v := iI (-1)) dX8_readsLeaning_61 (by decide) ?_
        refine V.goto 74 dX8_readsLeaning_62 (by decide) ?_
        refine V.istore dX8_readsLeaning_74 rfl rfl ?_
        dsimp only [List.set]
        refine V.iload dX8_readsLeaning_76 rfl ?_
        refine V.if_ltZ 86 dX8_readsLeaning_78 (by decide) (by omega) (fun hc9 => ?_) (fun hc9 => ?_)
        · skip
          refine V.iconst (v := nI 0) dX8_readsLeaning_86 (by decide) ?_
          have hres : resL tx i S = none := by
            unfold resL
            rw [← eq1]
            first | rw [bq_neg (by omega)] | rw [bq_pos (by omega)]
            rw [← eq2]
            first | rw [bq_neg (by omega)] | rw [bq_pos (by omega)]
            all_goals (repeat first | rw [if_pos (by first | omega | assumption)] | rw [if_neg (by first | omega | assumption)])
          have hpo : MRd m F A S (resL tx i S) h (some (.int (nI 0))) h2 := by
            rw [hres]
            exact ⟨rfl, ⟨F2, A 3, A 4, by rw [upA_id, upA_id]; exact hD2, hfj2, fun w hw => by cases hw⟩, hfr2⟩
          exact V.zret dX8_readsLeaning_87 rfl (Or.inl rfl) hpo
        · exact absurd hc9 (by omega)
  · skip
    refine V.iconst (v := iI (-1)) dX8_readsLeaning_20 (by decide) ?_
    refine V.goto 39 dX8_readsLeaning_21 (by decide) ?_
    refine V.istore_n (i := 2) dX8_readsLeaning_39 rfl rfl rfl ?_
    dsimp only [List.set]
    refine V.iload_n dX8_readsLeaning_40 rfl ?_
    refine V.if_geZ 48 dX8_readsLeaning_41 (by decide) (by omega) (fun hc10 => ?_) (fun hc10 => ?_)
    · exact absurd hc10 (by omega)
    · skip
      refine V.iconst (v := iI (-1)) dX8_readsLeaning_44 (by decide) ?_
      refine V.goto 56 dX8_readsLeaning_45 (by decide) ?_
      refine V.istore_n (i := 3) dX8_readsLeaning_56 rfl rfl rfl ?_
      dsimp only [List.set]
      refine V.iload_n dX8_readsLeaning_57 rfl ?_
      refine V.if_geZ 65 dX8_readsLeaning_58 (by decide) (by omega) (fun hc11 => ?_) (fun hc11 => ?_)
      · exact absurd hc11 (by omega)
      · skip
        refine V.iconst (v := iI (-1)) dX8_readsLeaning_61 (by decide) ?_
        refine V.goto 74 dX8_readsLeaning_62 (by decide) ?_
        refine V.istore dX8_readsLeaning_74 rfl rfl ?_
        dsimp only [List.set]
        refine V.iload dX8_readsLeaning_76 rfl ?_
        refine V.if_ltZ 86 dX8_readsLeaning_78 (by decide) (by omega) (fun hc12 => ?_) (fun hc12 => ?_)
        · skip
          refine V.iconst (v := nI 0) dX8_readsLeaning_86 (by decide) ?_
          have hres : resL tx i S = none := by
            unfold resL
            rw [← eq1]
            first | rw [bq_neg (by omega)] | rw [bq_pos (by omega)]
            all_goals (repeat first | rw [if_pos (by first | omega | assumption)] | rw [if_neg (by first | omega | assumption)])
          have hpo : MRd m F A S (resL tx i S) h (some (.int (nI 0))) h1 := by
            rw [hres]
            exact ⟨rfl, ⟨F1, A 3, A 4, by rw [upA_id, upA_id]; exact hD1, hfj1, fun w hw => by cases hw⟩, hfr1⟩
          exact V.zret dX8_readsLeaning_87 rfl (Or.inl rfl) hpo
        · exact absurd hc12 (by omega)
