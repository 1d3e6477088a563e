/-- nobody below n at this place -/
abbrev clrI (S : Rm) (x y : Int) (n : Nat) : Prop := ∀ j, j < n → ¬ (((rX S j : Nat) : Int) = x ∧ ((rY S j : Nat) : Int) = y)
theorem clr_pos {S : Rm} {x y : Int} {n : Nat} {Q : Prop} (h : Q ∧ clrI S x y n) (hn : ¬ (((rX S n : Nat) : Int) = x ∧ ((rY S n : Nat) : Int) = y)) : Q ∧ clrI S x y (n + 1) := ⟨h.1, fun j hj => by
  by_cases e : j = n
  · rw [e]; exact hn
  · exact h.2 j (by omega)⟩
theorem clr_neg {S : Rm} {x y : Int} {n : Nat} {Q : Prop} (h1 : ((rX S n : Nat) : Int) = x) (h2 : ((rY S n : Nat) : Int) = y) : ¬ (Q ∧ clrI S x y (n + 1)) := fun h => h.2 n (Nat.lt_succ_self n) ⟨h1, h2⟩
theorem clr_down {S : Rm} {x y : Int} {n : Nat} {Q : Prop} (h : ¬ (Q ∧ clrI S x y n)) : ¬ (Q ∧ clrI S x y (n + 1)) := fun u => h ⟨u.1, fun j hj => u.2 j (by omega)⟩
def resP (tx : List Nat) (i : Nat) (S : Rm) : Option (Rm × Nat) := bq (nuZ tx i ((0 : Nat) : Int) ((3 : Nat) : Int) 44) (fun k j1 => bq (nuZ tx j1 ((0 : Nat) : Int) (((rW S : Nat) : Int) - ((1 : Nat) : Int)) 44) (fun x j2 => bq (nuZ tx j2 ((0 : Nat) : Int) (((rH S : Nat) : Int) - ((1 : Nat) : Int)) 59) (fun y j3 => if (0 ≤ y ∧ rN S < 6) ∧ clrI S x y (rN S) then some (rAdd S k.toNat x.toNat y.toNat, j3) else none)))

set_option maxHeartbeats 1000000 in
theorem m_readsPerson (g : VG) (h : VHp) (m : Nat) (F : MF) (A : MA) (tx : List Nat) (S : Rm) (hT : MTx h m F A tx) (hD : MDr h m F A S) (hB : RmB S) (i : Nat) (hF4 : F 4 = nI i) (hi : i < 300) : VE g mX8_readsPerson 3 false (0, 0) [.ref m] h (MRd m F A S (resP tx i S) h) := by
  obtain ⟨hw, ⟨et0, et1, et2, ek⟩, ⟨es0, ev, ex, ey, eL⟩, hz0⟩ := id hD
  obtain ⟨ho, hA⟩ := id hw
  obtain ⟨bn, bW, bH, bP, bL⟩ := id hB
  have hl3 : (A 3).length = 9 := (hA 3 (by omega) (by omega)).2
  have hl4 : (A 4).length = 55 := (hA 4 (by omega) (by omega)).2
  refine VE.of (by decide) rfl (Nat.le_of_ble_eq_true rfl) ?_
  have L : ∀ (kz xz yz : Int) (jz : Nat) (h1 : VHp) (F1 : MF), ((-1 ≤ kz ∧ kz < 100) ∧ (-1 ≤ xz ∧ xz < 100) ∧ -1 ≤ yz ∧ yz < 100) → (0 ≤ yz → 0 ≤ kz ∧ 0 ≤ xz) → MDr h1 m F1 A S → (∀ j, j ≠ 4 → F1 j = F j) → (0 ≤ yz → F1 4 = nI jz) → VFr m (m + 12) h h1 → resP tx i S = (if (0 ≤ yz ∧ rN S < 6) ∧ clrI S xz yz (rN S) then some (rAdd S kz.toNat xz.toNat yz.toNat, jz) else none) → ∀ p, p ≤ rN S → V (g, mX8_readsPerson, 3, false, h.length, MRd m F A S (resP tx i S) h) (0, 0) 82 [some (.ref m), some (.int (iI kz)), some (.int (iI xz)), some (.int (iI yz)), some (.int (vB ((0 ≤ yz ∧ rN S < 6) ∧ clrI S xz yz p))), some (.int (nI p))] [] h1 := by
    intro kz xz yz jz h1 F1 hbd hnn hD1 hfj1 hF41 hfr1 hres
    refine vloop (rN S) (fun p ih hi => ?_)
    obtain ⟨ho1, hA1⟩ := id hD1.1
    refine V.iload dX8_readsPerson_82 rfl ?_
    refine V.aload_n dX8_readsPerson_84 rfl ?_
    refine V.get fX8_16 dX8_readsPerson_85 ho1 rfl ?_
    refine V.iconst (v := nI 2) dX8_readsPerson_88 (by decide) ?_
    refine V.iald dX8_readsPerson_89 (hA1 3 (by omega) (by omega)).1 rfl (by omega) et2 ?_
    refine V.icmp_geN 139 dX8_readsPerson_90 (by decide) (by omega) (by omega) (fun hc1 => ?_) (fun hc1 => ?_)
    · skip
      refine V.iload dX8_readsPerson_139 rfl ?_
      refine V.if_eqB 151 dX8_readsPerson_141 (by decide) (fun hc2 => ?_) (fun hc2 => ?_)
      · skip
        have hok := hc2
        refine V.iload dX8_readsPerson_151 rfl ?_
        obtain rfl : p = rN S := (by omega)
        rw [if_neg hok] at hres
        have hpo : MRd m F A S (resP tx i S) h (some (.int (vB ((0 ≤ yz ∧ rN S < 6) ∧ clrI S xz yz (rN S))))) h1 := by
          rw [hres, vB_f hok]
          exact ⟨rfl, ⟨F1, A 3, A 4, by rw [upA_id, upA_id]; exact hD1, hfj1, fun w hw => by cases hw⟩, hfr1⟩
        exact V.zret dX8_readsPerson_153 rfl vB_01 hpo
      · skip
        have hok := hc2
        have hn9 := hnn hok.1.1
        have hn8 := hok.1.1
        refine V.aload_n dX8_readsPerson_144 rfl ?_
        refine V.iload_n dX8_readsPerson_145 rfl ?_
        refine V.re (iI_toN (n := kz.toNat) (by omega)) ?_
        refine V.iload_n dX8_readsPerson_146 rfl ?_
        refine V.re (iI_toN (n := xz.toNat) (by omega)) ?_
        refine V.iload_n dX8_readsPerson_147 rfl ?_
        refine V.re (iI_toN (n := yz.toNat) (by omega)) ?_
        refine V.callV (ci := 8) cX8_46 (m_stands g h1 m F1 A S hD1 hB hok.1.2 kz.toNat xz.toNat yz.toNat) dX8_readsPerson_148 (Nat.le_of_ble_eq_true rfl) rfl ho1 rfl rfl (Nat.le_of_ble_eq_true rfl) (fun v_ h_ hp_ => ?_)
        obtain ⟨rfl, ⟨d9, b9, hD9⟩, hf9⟩ := hp_
        dsimp only [Option.toList, List.nil_append]
        refine V.iload dX8_readsPerson_151 rfl ?_
        obtain rfl : p = rN S := (by omega)
        rw [if_pos hok] at hres
        have hpo : MRd m F A S (resP tx i S) h (some (.int (vB ((0 ≤ yz ∧ rN S < 6) ∧ clrI S xz yz (rN S))))) h_ := by
          rw [hres, vB_t hok]
          exact ⟨rfl, ⟨F1, d9, b9, hD9, hfj1, fun w hw => by cases hw; exact hF41 hok.1.1⟩, hfr1.tr (hf9.wide (by omega) (by omega))⟩
        exact V.zret dX8_readsPerson_153 rfl vB_01 hpo
    · skip
      have bp := bP p hc1
      refine V.iload dX8_readsPerson_93 rfl ?_
      refine V.if_eqB 130 dX8_readsPerson_95 (by decide) (fun hc3 => ?_) (fun hc3 => ?_)
      · skip
        refine V.iconst (v := nI 0) dX8_readsPerson_130 (by decide) ?_
        refine V.istore dX8_readsPerson_131 rfl rfl ?_
        dsimp only [List.set]
        refine V.iincN (n := 1) dX8_readsPerson_133 rfl rfl rfl ?_
        dsimp only [List.set]
        refine V.goto 82 dX8_readsPerson_136 (by decide) ?_
        have z := ih (p + 1) (by omega) (by omega)
        first | rw [vB_f (clr_down (by assumption))] at z | rw [vB_f (clr_neg (by omega) (by omega))] at z
        exact z
      · skip
        refine V.aload_n dX8_readsPerson_98 rfl ?_
        refine V.get fX8_19 dX8_readsPerson_99 ho1 rfl ?_
        refine V.bipush (v := nI 7) dX8_readsPerson_102 (by decide) ?_
        refine V.iload dX8_readsPerson_104 rfl ?_
        refine V.iaddN dX8_readsPerson_106 ?_
        refine V.iald dX8_readsPerson_107 (hA1 4 (by omega) (by omega)).1 rfl (by omega) (ex _ (by omega)) ?_
        refine V.iload_n dX8_readsPerson_108 rfl ?_
        refine V.toZ2 ?_
        refine V.icmp_neZ 126 dX8_readsPerson_109 (by decide) (by omega) (by omega) (fun hc4 => ?_) (fun hc4 => ?_)
        · skip
          refine V.iconst (v := nI 1) dX8_readsPerson_126 (by decide) ?_
          refine V.goto 131 dX8_readsPerson_127 (by decide) ?_
          refine V.istore dX8_readsPerson_131 rfl rfl ?_
          dsimp only [List.set]
          refine V.iincN (n := 1) dX8_readsPerson_133 rfl rfl rfl ?_
          dsimp only [List.set]
          refine V.goto 82 dX8_readsPerson_136 (by decide) ?_
          have z := ih (p + 1) (by omega) (by omega)
          rw [vB_t (clr_pos (by assumption) (by omega))] at z
          exact z
        · skip
          refine V.aload_n dX8_readsPerson_112 rfl ?_
          refine V.get fX8_19 dX8_readsPerson_113 ho1 rfl ?_
          refine V.bipush (v := nI 13) dX8_readsPerson_116 (by decide) ?_
          refine V.iload dX8_readsPerson_118 rfl ?_
          refine V.iaddN dX8_readsPerson_120 ?_
          refine V.iald dX8_readsPerson_121 (hA1 4 (by omega) (by omega)).1 rfl (by omega) (ey _ (by omega)) ?_
          refine V.iload_n dX8_readsPerson_122 rfl ?_
          refine V.toZ2 ?_
          refine V.icmp_eqZ 130 dX8_readsPerson_123 (by decide) (by omega) (by omega) (fun hc5 => ?_) (fun hc5 => ?_)
          · skip
            refine V.iconst (v := nI 0) dX8_readsPerson_130 (by decide) ?_
            refine V.istore dX8_readsPerson_131 rfl rfl ?_
            dsimp only [List.set]
            refine V.iincN (n := 1) dX8_readsPerson_133 rfl rfl rfl ?_
            dsimp only [List.set]
            refine V.goto 82 dX8_readsPerson_136 (by decide) ?_
            have z := ih (p + 1) (by omega) (by omega)
            first | rw [vB_f (clr_down (by assumption))] at z | rw [vB_f (clr_neg (by omega) (by omega))] at z
            exact z
          · skip
            refine V.iconst (v := nI 1) dX8_readsPerson_126 (by decide) ?_
            refine V.goto 131 dX8_readsPerson_127 (by decide) ?_
            refine V.istore dX8_readsPerson_131 rfl rfl ?_
            dsimp only [List.set]
            refine V.iincN (n := 1) dX8_readsPerson_133 rfl rfl rfl ?_
            dsimp only [List.set]
            refine V.goto 82 dX8_readsPerson_136 (by decide) ?_
            have z := ih (p + 1) (by omega) (by omega)
            rw [vB_t (clr_pos (by assumption) (by omega))] at z
            exact z
  show V _ _ 0 [some (.ref m), none, none, none, none, none] [] h
  refine V.aload_n dX8_readsPerson_0 rfl ?_
  refine V.iconst (v := nI 0) dX8_readsPerson_1 (by decide) ?_
  refine V.iconst (v := nI 3) dX8_readsPerson_2 (by decide) ?_
  refine V.bipush (v := nI 44) dX8_readsPerson_3 (by decide) ?_
  refine V.toZ2 ?_
  refine V.toZ3 ?_
  refine V.callV (ci := 8) cX8_72 (m_number g h m F A tx hT i hF4 (by omega) (((0 : Nat) : Int)) (((3 : Nat) : Int)) 44 (by omega) (by omega) (by omega)) dX8_readsPerson_5 (Nat.le_of_ble_eq_true rfl) rfl ho rfl rfl (Nat.le_of_ble_eq_true rfl) (fun v_ h_ hp_ => ?_)
  obtain ⟨rfl, hw1, hf1⟩ := hp_
  dsimp only [Option.toList, List.cons_append, List.nil_append]
  have hqb1 := nuZ_bd (tx := tx) (a := i) (lo := ((0 : Nat) : Int)) (hi := ((3 : Nat) : Int)) (e := 44) hT.2.2.2.2
  obtain ⟨q1, eq1⟩ : ∃ q, q = nuZ tx i (((0 : Nat) : Int)) (((3 : Nat) : Int)) 44 := ⟨_, rfl⟩
  rw [← eq1] at hw1 hqb1 ⊢
  generalize h_ = h1 at hw1 hf1 ⊢
  have hT1 := hT.at4 hw1
  have hD1 := hD.at4 hw1
  have hfj1 : ∀ j, j ≠ 4 → upF F 4 (nI q1.2) j = F j := fun j hj => upF_n hj
  have hF41 : upF F 4 (nI q1.2) 4 = nI q1.2 := upF_s
  generalize upF F 4 (nI q1.2) = F1 at hw1 hT1 hD1 hfj1 hF41
  have hfr1 := (hf1.wide (lo' := m) (hi' := m + 12) (by omega) (by omega))
  obtain ⟨ho1, hA1⟩ := id hw1
  refine V.istore_n (i := 1) dX8_readsPerson_8 rfl rfl rfl ?_
  dsimp only [List.set]
  refine V.iload_n dX8_readsPerson_9 rfl ?_
  refine V.if_geZ 17 dX8_readsPerson_10 (by decide) (by omega) (fun hc1 => ?_) (fun hc1 => ?_)
  · skip
    refine V.aload_n dX8_readsPerson_17 rfl ?_
    refine V.iconst (v := nI 0) dX8_readsPerson_18 (by decide) ?_
    refine V.aload_n dX8_readsPerson_19 rfl ?_
    refine V.get fX8_16 dX8_readsPerson_20 ho1 rfl ?_
    refine V.iconst (v := nI 0) dX8_readsPerson_23 (by decide) ?_
    refine V.iald dX8_readsPerson_24 (hA1 3 (by omega) (by omega)).1 rfl (by omega) et0 ?_
    refine V.iconst (v := nI 1) dX8_readsPerson_25 (by decide) ?_
    refine V.toZ1 ?_
    refine V.toZ2 ?_
    refine V.isubZ dX8_readsPerson_26 ?_
    refine V.bipush (v := nI 44) dX8_readsPerson_27 (by decide) ?_
    refine V.toZ3 ?_
    refine V.callV (ci := 8) cX8_72 (m_number g h1 m F1 A tx hT1 q1.2 hF41 (by omega) (((0 : Nat) : Int)) (((rW S : Nat) : Int) - ((1 : Nat) : Int)) 44 (by omega) (by omega) (by omega)) dX8_readsPerson_29 (Nat.le_of_ble_eq_true rfl) rfl ho1 rfl rfl (Nat.le_of_ble_eq_true rfl) (fun v_ h_ hp_ => ?_)
    obtain ⟨rfl, hw2, hf2⟩ := hp_
    dsimp only [Option.toList, List.cons_append, List.nil_append]
    have hqb2 := nuZ_bd (tx := tx) (a := q1.2) (lo := ((0 : Nat) : Int)) (hi := ((rW S : Nat) : Int) - ((1 : Nat) : Int)) (e := 44) hT1.2.2.2.2
    obtain ⟨q2, eq2⟩ : ∃ q, q = nuZ tx q1.2 (((0 : Nat) : Int)) (((rW S : Nat) : Int) - ((1 : Nat) : Int)) 44 := ⟨_, rfl⟩
    rw [← eq2] at hw2 hqb2 ⊢
    generalize h_ = h2 at hw2 hf2 ⊢
    have hT2 := hT1.at4 hw2
    have hD2 := hD1.at4 hw2
    have hfj2 : ∀ j, j ≠ 4 → upF F1 4 (nI q2.2) j = F j := fun j hj => (upF_n hj).trans (hfj1 j hj)
    have hF42 : upF F1 4 (nI q2.2) 4 = nI q2.2 := upF_s
    generalize upF F1 4 (nI q2.2) = F2 at hw2 hT2 hD2 hfj2 hF42
    have hfr2 := hfr1.tr (hf2.wide (lo' := m) (hi' := m + 12) (by omega) (by omega))
    obtain ⟨ho2, hA2⟩ := id hw2
    refine V.istore_n (i := 2) dX8_readsPerson_32 rfl rfl rfl ?_
    dsimp only [List.set]
    refine V.iload_n dX8_readsPerson_33 rfl ?_
    refine V.if_geZ 41 dX8_readsPerson_34 (by decide) (by omega) (fun hc2 => ?_) (fun hc2 => ?_)
    · skip
      refine V.aload_n dX8_readsPerson_41 rfl ?_
      refine V.iconst (v := nI 0) dX8_readsPerson_42 (by decide) ?_
      refine V.aload_n dX8_readsPerson_43 rfl ?_
      refine V.get fX8_16 dX8_readsPerson_44 ho2 rfl ?_
      refine V.iconst (v := nI 1) dX8_readsPerson_47 (by decide) ?_
      refine V.iald dX8_readsPerson_48 (hA2 3 (by omega) (by omega)).1 rfl (by omega) et1 ?_
      refine V.iconst (v := nI 1) dX8_readsPerson_49 (by decide) ?_
      refine V.toZ1 ?_
      refine V.toZ2 ?_
      refine V.isubZ dX8_readsPerson_50 ?_
      refine V.bipush (v := nI 59) dX8_readsPerson_51 (by decide) ?_
      refine V.toZ3 ?_
      refine V.callV (ci := 8) cX8_72 (m_number g h2 m F2 A tx hT2 q2.2 hF42 (by omega) (((0 : Nat) : Int)) (((rH S : Nat) : Int) - ((1 : Nat) : Int)) 59 (by omega) (by omega) (by omega)) dX8_readsPerson_53 (Nat.le_of_ble_eq_true rfl) rfl ho2 rfl rfl (Nat.le_of_ble_eq_true rfl) (fun v_ h_ hp_ => ?_)
      obtain ⟨rfl, hw3, hf3⟩ := hp_
      dsimp only [Option.toList, List.cons_append, List.nil_append]
      have hqb3 := nuZ_bd (tx := tx) (a := q2.2) (lo := ((0 : Nat) : Int)) (hi := ((rH S : Nat) : Int) - ((1 : Nat) : Int)) (e := 59) hT2.2.2.2.2
      obtain ⟨q3, eq3⟩ : ∃ q, q = nuZ tx q2.2 (((0 : Nat) : Int)) (((rH S : Nat) : Int) - ((1 : Nat) : Int)) 59 := ⟨_, rfl⟩
      rw [← eq3] at hw3 hqb3 ⊢
      generalize h_ = h3 at hw3 hf3 ⊢
      have hT3 := hT2.at4 hw3
      have hD3 := hD2.at4 hw3
      have hfj3 : ∀ j, j ≠ 4 → upF F2 4 (nI q3.2) j = F j := fun j hj => (upF_n hj).trans (hfj2 j hj)
      have hF43 : upF F2 4 (nI q3.2) 4 = nI q3.2 := upF_s
      generalize upF F2 4 (nI q3.2) = F3 at hw3 hT3 hD3 hfj3 hF43
      have hfr3 := hfr2.tr (hf3.wide (lo' := m) (hi' := m + 12) (by omega) (by omega))
      obtain ⟨ho3, hA3⟩ := id hw3
      refine V.istore_n (i := 3) dX8_readsPerson_56 rfl rfl rfl ?_
      dsimp only [List.set]
      refine V.iload_n dX8_readsPerson_57 rfl ?_
      refine V.if_ltZ 76 dX8_readsPerson_58 (by decide) (by omega) (fun hc3 => ?_) (fun hc3 => ?_)
      · skip
        refine V.iconst (v := nI 0) dX8_readsPerson_76 (by decide) ?_
        refine V.istore dX8_readsPerson_77 rfl rfl ?_
        dsimp only [List.set]
        refine V.iconst (v := nI 0) dX8_readsPerson_79 (by decide) ?_
        refine V.istore dX8_readsPerson_80 rfl rfl ?_
        dsimp only [List.set]
        have hr9 : resP tx i S = (if (0 ≤ q3.1 ∧ rN S < 6) ∧ clrI S (q2.1) (q3.1) (rN S) then some (rAdd S (q1.1).toNat (q2.1).toNat (q3.1).toNat, q3.2) else none) := by
          unfold resP
          rw [← eq1]
          first | rw [bq_neg (by omega)] | rw [bq_pos (by omega)]
          rw [← eq2]
          first | rw [bq_neg (by omega)] | rw [bq_pos (by omega)]
          rw [← eq3]
          first | rw [bq_neg (by omega)] | rw [bq_pos (by omega)]
          all_goals rw [if_neg (fun u => absurd u.1.1 (by omega))]
        have z := L (q1.1) (q2.1) (q3.1) (q3.2) h3 F3 ⟨⟨by omega, by omega⟩, ⟨by omega, by omega⟩, by omega, by omega⟩ (fun u => ⟨by omega, by omega⟩) hD3 hfj3 (fun _ => hF43) hfr3 hr9 0 (by omega)
        rw [vB_f (fun u => absurd u.1 (by omega))] at z
        exact z
      · skip
        refine V.aload_n dX8_readsPerson_61 rfl ?_
        refine V.get fX8_16 dX8_readsPerson_62 ho3 rfl ?_
        refine V.iconst (v := nI 2) dX8_readsPerson_65 (by decide) ?_
        refine V.iald dX8_readsPerson_66 (hA3 3 (by omega) (by omega)).1 rfl (by omega) et2 ?_
        refine V.bipush (v := nI 6) dX8_readsPerson_67 (by decide) ?_
        refine V.icmp_geN 76 dX8_readsPerson_69 (by decide) (by omega) (by omega) (fun hc4 => ?_) (fun hc4 => ?_)
        · skip
          refine V.iconst (v := nI 0) dX8_readsPerson_76 (by decide) ?_
          refine V.istore dX8_readsPerson_77 rfl rfl ?_
          dsimp only [List.set]
          refine V.iconst (v := nI 0) dX8_readsPerson_79 (by decide) ?_
          refine V.istore dX8_readsPerson_80 rfl rfl ?_
          dsimp only [List.set]
          have hr9 : resP tx i S = (if (0 ≤ q3.1 ∧ rN S < 6) ∧ clrI S (q2.1) (q3.1) (rN S) then some (rAdd S (q1.1).toNat (q2.1).toNat (q3.1).toNat, q3.2) else none) := by
            unfold resP
            rw [← eq1]
            first | rw [bq_neg (by omega)] | rw [bq_pos (by omega)]
            rw [← eq2]
            first | rw [bq_neg (by omega)] | rw [bq_pos (by omega)]
            rw [← eq3]
            first | rw [bq_neg (by omega)] | rw [bq_pos (by omega)]
            all_goals rw [if_neg (fun u => absurd u.1.1 (by omega))]
          have z := L (q1.1) (q2.1) (q3.1) (q3.2) h3 F3 ⟨⟨by omega, by omega⟩, ⟨by omega, by omega⟩, by omega, by omega⟩ (fun u => ⟨by omega, by omega⟩) hD3 hfj3 (fun _ => hF43) hfr3 hr9 0 (by omega)
          rw [vB_f (fun u => absurd u.1 (by omega))] at z
          exact z
        · skip
          refine V.iconst (v := nI 1) dX8_readsPerson_72 (by decide) ?_
          refine V.goto 77 dX8_readsPerson_73 (by decide) ?_
          refine V.istore dX8_readsPerson_77 rfl rfl ?_
          dsimp only [List.set]
          refine V.iconst (v := nI 0) dX8_readsPerson_79 (by decide) ?_
          refine V.istore dX8_readsPerson_80 rfl rfl ?_
          dsimp only [List.set]
          have hr9 : resP tx i S = (if (0 ≤ q3.1 ∧ rN S < 6) ∧ clrI S (q2.1) (q3.1) (rN S) then some (rAdd S (q1.1).toNat (q2.1).toNat (q3.1).toNat, q3.2) else none) := by
            unfold resP
            rw [← eq1]
            first | rw [bq_neg (by omega)] | rw [bq_pos (by omega)]
            rw [← eq2]
            first | rw [bq_neg (by omega)] | rw [bq_pos (by omega)]
            rw [← eq3]
            first | rw [bq_neg (by omega)] | rw [bq_pos (by omega)]
            all_goals rw [if_neg (fun u => absurd u.1.1 (by omega))]
          have z := L (q1.1) (q2.1) (q3.1) (q3.2) h3 F3 ⟨⟨by omega, by omega⟩, ⟨by omega, by omega⟩, by omega, by omega⟩ (fun u => ⟨by omega, by omega⟩) hD3 hfj3 (fun _ => hF43) hfr3 hr9 0 (by omega)
          rw [vB_t ⟨⟨by omega, by omega⟩, fun j hj => absurd hj (Nat.not_lt_zero _)⟩] at z
          exact z
    · skip
      refine V.iconst (v := iI (-1)) dX8_readsPerson_37 (by decide) ?_
      refine V.goto 56 dX8_readsPerson_38 (by decide) ?_
      refine V.istore_n (i := 3) dX8_readsPerson_56 rfl rfl rfl ?_
      dsimp only [List.set]
      refine V.iload_n dX8_readsPerson_57 rfl ?_
      refine V.if_ltZ 76 dX8_readsPerson_58 (by decide) (by omega) (fun hc5 => ?_) (fun hc5 => ?_)
      · skip
        refine V.iconst (v := nI 0) dX8_readsPerson_76 (by decide) ?_
        refine V.istore dX8_readsPerson_77 rfl rfl ?_
        dsimp only [List.set]
        refine V.iconst (v := nI 0) dX8_readsPerson_79 (by decide) ?_
        refine V.istore dX8_readsPerson_80 rfl rfl ?_
        dsimp only [List.set]
        have hr9 : resP tx i S = (if (0 ≤ -1 ∧ rN S < 6) ∧ clrI S (q2.1) (-1) (rN S) then some (rAdd S (q1.1).toNat (q2.1).toNat (-1).toNat, q2.2) else none) := by
          unfold resP
          rw [← eq1]
          first | rw [bq_neg (by omega)] | rw [bq_pos (by omega)]
          rw [← eq2]
          first | rw [bq_neg (by omega)] | rw [bq_pos (by omega)]
          all_goals rw [if_neg (fun u => absurd u.1.1 (by omega))]
        have z := L (q1.1) (q2.1) (-1) (q2.2) h2 F2 ⟨⟨by omega, by omega⟩, ⟨by omega, by omega⟩, by omega, by omega⟩ (fun u => ⟨by omega, by omega⟩) hD2 hfj2 (fun u => absurd u (by omega)) hfr2 hr9 0 (by omega)
        rw [vB_f (fun u => absurd u.1 (by omega))] at z
        exact z
      · exact absurd hc5 (by omega)
  · skip
    refine V.iconst (v := iI (-1)) dX8_readsPerson_13 (by decide) ?_
    refine V.goto 32 dX8_readsPerson_14 (by decide) ?_
    refine V.istore_n (i := 2) dX8_readsPerson_32 rfl rfl rfl ?_
    dsimp only [List.set]
    refine V.iload_n dX8_readsPerson_33 rfl ?_
    refine V.if_geZ 41 dX8_readsPerson_34 (by decide) (by omega) (fun hc6 => ?_) (fun hc6 => ?_)
    · exact absurd hc6 (by omega)
    · skip
      refine V.iconst (v := iI (-1)) dX8_readsPerson_37 (by decide) ?_
      refine V.goto 56 dX8_readsPerson_38 (by decide) ?_
      refine V.istore_n (i := 3) dX8_readsPerson_56 rfl rfl rfl ?_
      dsimp only [List.set]
      refine V.iload_n dX8_readsPerson_57 rfl ?_
      refine V.if_ltZ 76 dX8_readsPerson_58 (by decide) (by omega) (fun hc7 => ?_) (fun hc7 => ?_)
      · skip
        refine V.iconst (v := nI 0) dX8_readsPerson_76 (by decide) ?_
        refine V.istore dX8_readsPerson_77 rfl rfl ?_
        dsimp only [List.set]
        refine V.iconst (v := nI 0) dX8_readsPerson_79 (by decide) ?_
        refine V.istore dX8_readsPerson_80 rfl rfl ?_
        dsimp only [List.set]
        have hr9 : resP tx i S = (if (0 ≤ -1 ∧ rN S < 6) ∧ clrI S (-1) (-1) (rN S) then some (rAdd S (q1.1).toNat (-1).toNat (-1).toNat, q1.2) else none) := by
          unfold resP
          rw [← eq1]
          first | rw [bq_neg (by omega)] | rw [bq_pos (by omega)]
          all_goals rw [if_neg (fun u => absurd u.1.1 (by omega))]
        have z := L (q1.1) (-1) (-1) (q1.2) h1 F1 ⟨⟨by omega, by omega⟩, ⟨by omega, by omega⟩, by omega, by omega⟩ (fun u => ⟨by omega, by omega⟩) hD1 hfj1 (fun u => absurd u (by omega)) hfr1 hr9 0 (by omega)
        rw [vB_f (fun u => absurd u.1 (by omega))] at z
        exact z
      · exact absurd hc7 (by omega)
