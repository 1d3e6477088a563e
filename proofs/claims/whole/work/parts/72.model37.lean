def MAl (m : Nat) (F : MF) (A : MA) (tx : List Nat) (h : VHp) : VPost := fun v h' => v = some (.int (eO (readF tx).1)) ∧ (∃ F' A', MDr h' m F' A' (readF tx).2 ∧ (∀ j, j ≠ 4 → F' j = F j) ∧ ∀ j, j ≠ 3 → j ≠ 4 → A' j = A j) ∧ VFr m (m + 12) h h'
theorem MTx.go {h h' : VHp} {m : Nat} {F F' : MF} {A A' : MA} {tx : List Nat} (w : MTx h m F A tx) (hw : MRaw h' m F' A') (h1 : ∀ j, j ≠ 4 → F' j = F j) (h2 : ∀ j, j ≠ 3 → j ≠ 4 → A' j = A j) : MTx h' m F' A' tx := ⟨hw, (h1 0 (by omega)).trans w.2.1, w.2.2.1, by rw [h2 1 (by omega) (by omega)]; exact w.2.2.2.1, w.2.2.2.2⟩
theorem upA_34 {A A1 : MA} {d b : List Int32} (h : ∀ j, j ≠ 3 → j ≠ 4 → A1 j = A j) : ∀ j, j ≠ 3 → j ≠ 4 → upA (upA A1 3 d) 4 b j = A j := fun j h1 h2 => by rw [upA_n h2, upA_n h1]; exact h j h1 h2

set_option maxHeartbeats 1000000 in
theorem m_readsAll (g : VG) (h : VHp) (m : Nat) (F : MF) (A : MA) (tx : List Nat) (hT : MTx h m F A tx) (hK : TxOk tx) : VE g mX8_readsAll 4 false (0, 0) [.ref m] h (MAl m F A tx h) := by
  obtain ⟨hw, hF0, hl, hTx, hlt⟩ := id hT
  refine VE.of (by decide) rfl (Nat.le_of_ble_eq_true rfl) ?_
  have L : ∀ (f i : Nat) (S : Rm) (ro : Bool) (h1 : VHp) (F1 : MF) (A1 : MA) (v2 v3 v4 : Option Value), 200 ≤ i + f → i ≤ 220 → MDr h1 m F1 A1 S → (∀ j, j ≠ 4 → F1 j = F j) → (∀ j, j ≠ 3 → j ≠ 4 → A1 j = A j) → F1 4 = nI i → RmOk S → (ro = true → rN S = 0) → readF tx = parseF tx f i S ro → VFr m (m + 12) h h1 → V (g, mX8_readsAll, 4, false, h.length, MAl m F A tx h) (0, 0) 11 [some (.ref m), some (.int (vB (ro = true))), v2, v3, v4] [] h1 := by
    intro f
    induction f with
    | zero =>
      intro i S ro h1 F1 A1 v2 v3 v4 hfu hi hD1 hfj1 hA1e hF41 hO hro hpa hfr1
      obtain ⟨ho1, hA1⟩ := id hD1.1
      have hF0 := (hfj1 0 (by omega)).trans hF0
      refine V.aload_n dX8_readsAll_11 rfl ?_
      refine V.get fX8_61 dX8_readsAll_12 ho1 rfl ?_
      refine V.re hF41 ?_
      refine V.aload_n dX8_readsAll_15 rfl ?_
      refine V.get fX8_57 dX8_readsAll_16 ho1 rfl ?_
      refine V.re hF0 ?_
      refine V.icmp_geN 128 dX8_readsAll_19 (by decide) (by omega) (by omega) (fun hc1 => ?_) (fun hc1 => ?_)
      · skip
        refine V.bipush (v := iI (-4)) dX8_readsAll_128 (by decide) ?_
        have hpo : MAl m F A tx h (some (.int (iI (-4)))) h1 := by
          refine ⟨?_, ⟨F1, A1, ?_, hfj1, hA1e⟩, hfr1⟩
          · rw [hpa, parse_end (by omega)]; rfl
          · rw [hpa, parse_end (by omega)]; exact hD1
        exact V.iret dX8_readsAll_130 rfl hpo
      · exact absurd hc1 (by omega)
    | succ f ihf =>
      intro i S ro h1 F1 A1 v2 v3 v4 hfu hi hD1 hfj1 hA1e hF41 hO hro hpa hfr1
      obtain ⟨ho1, hA1⟩ := id hD1.1
      have hF0 := (hfj1 0 (by omega)).trans hF0
      refine V.aload_n dX8_readsAll_11 rfl ?_
      refine V.get fX8_61 dX8_readsAll_12 ho1 rfl ?_
      refine V.re hF41 ?_
      refine V.aload_n dX8_readsAll_15 rfl ?_
      refine V.get fX8_57 dX8_readsAll_16 ho1 rfl ?_
      refine V.re hF0 ?_
      refine V.icmp_geN 128 dX8_readsAll_19 (by decide) (by omega) (by omega) (fun hc1 => ?_) (fun hc1 => ?_)
      · skip
        refine V.bipush (v := iI (-4)) dX8_readsAll_128 (by decide) ?_
        have hpo : MAl m F A tx h (some (.int (iI (-4)))) h1 := by
          refine ⟨?_, ⟨F1, A1, ?_, hfj1, hA1e⟩, hfr1⟩
          · rw [hpa, parse_end (by omega)]; rfl
          · rw [hpa, parse_end (by omega)]; exact hD1
        exact V.iret dX8_readsAll_130 rfl hpo
      · skip
        have hci := hK.2 i hc1
        refine V.aload_n dX8_readsAll_22 rfl ?_
        refine V.get fX8_61 dX8_readsAll_23 ho1 rfl ?_
        refine V.re hF41 ?_
        refine V.istore_n (i := 2) dX8_readsAll_26 rfl rfl rfl ?_
        dsimp only [List.set]
        refine V.aload_n dX8_readsAll_27 rfl ?_
        refine V.get fX8_7 dX8_readsAll_28 ho1 rfl ?_
        refine V.iload_n dX8_readsAll_31 rfl ?_
        refine V.iald dX8_readsAll_32 (hA1 1 (by omega) (by omega)).1 rfl (by omega) (by rw [hA1e 1 (by omega) (by omega)]; exact hTx _ (by omega)) ?_
        refine V.istore_n (i := 3) dX8_readsAll_33 rfl rfl rfl ?_
        dsimp only [List.set]
        refine V.aload_n dX8_readsAll_34 rfl ?_
        refine V.dup dX8_readsAll_35 rfl ?_
        refine V.get fX8_61 dX8_readsAll_36 ho1 rfl ?_
        refine V.re hF41 ?_
        refine V.iconst (v := nI 1) dX8_readsAll_39 (by decide) ?_
        refine V.iaddN dX8_readsAll_40 ?_
        refine V.puti fX8_61 dX8_readsAll_41 ho1 (Nat.le_of_ble_eq_true rfl) ?_
        dsimp only [List.set]
        have hw2 := MRaw.f4 hD1.1 (nI (i + 1))
        have hf2 := hfr1.tr (VFr.set (h := h1) (lo := m) (hi := m + 12) (a := m) (c := Sum.inr (Sum.inr (8, [Value.ref (m + 1), Value.int (F1 0), Value.ref (m + 2), Value.ref (m + 3), Value.ref (m + 4), Value.ref (m + 5), Value.ref (m + 6), Value.int (F1 1), Value.ref (m + 7), Value.int (F1 2), Value.ref (m + 8), Value.int (F1 3), Value.int (nI (i + 1)), Value.ref (m + 9), Value.ref (m + 10), Value.ref (m + 11)]))) (by omega) (by omega))
        generalize List.set h1 m (Sum.inr (Sum.inr (8, [Value.ref (m + 1), Value.int (F1 0), Value.ref (m + 2), Value.ref (m + 3), Value.ref (m + 4), Value.ref (m + 5), Value.ref (m + 6), Value.int (F1 1), Value.ref (m + 7), Value.int (F1 2), Value.ref (m + 8), Value.int (F1 3), Value.int (nI (i + 1)), Value.ref (m + 9), Value.ref (m + 10), Value.ref (m + 11)]))) = h2 at hw2 hf2 ⊢
        have hfj2 : ∀ j, j ≠ 4 → upF F1 4 (nI (i + 1)) j = F j := fun j hj => (upF_n hj).trans (hfj1 j hj)
        have hF42 : upF F1 4 (nI (i + 1)) 4 = nI (i + 1) := upF_s
        generalize upF F1 4 (nI (i + 1)) = F2 at hw2 hfj2 hF42
        have ho2 := hw2.1
        have hD2 : MDr h2 m F2 A1 S := ⟨hw2, hD1.2⟩
        have hT2 := hT.go hw2 hfj2 hA1e
        refine V.iload_n dX8_readsAll_44 rfl ?_
        refine V.bipush (v := nI 114) dX8_readsAll_45 (by decide) ?_
        refine V.icmp_neN 69 dX8_readsAll_47 (by decide) (by omega) (by omega) (fun hc2 => ?_) (fun hc2 => ?_)
        · skip
          refine V.iload_n dX8_readsAll_69 rfl ?_
          refine V.bipush (v := nI 112) dX8_readsAll_70 (by decide) ?_
          refine V.icmp_neN 82 dX8_readsAll_72 (by decide) (by omega) (by omega) (fun hc3 => ?_) (fun hc3 => ?_)
          · skip
            refine V.iload_n dX8_readsAll_82 rfl ?_
            refine V.bipush (v := nI 108) dX8_readsAll_83 (by decide) ?_
            refine V.icmp_neN 99 dX8_readsAll_85 (by decide) (by omega) (by omega) (fun hc4 => ?_) (fun hc4 => ?_)
            · skip
              refine V.iconst (v := nI 0) dX8_readsAll_99 (by decide) ?_
              refine V.istore dX8_readsAll_100 rfl rfl ?_
              dsimp only [List.set]
              refine V.iload_n dX8_readsAll_102 rfl ?_
              refine V.if_eqB 116 dX8_readsAll_103 (by decide) (fun hc5 => ?_) (fun hc5 => ?_)
              · skip
                refine V.iconst (v := nI 0) dX8_readsAll_116 (by decide) ?_
                refine V.istore_n (i := 1) dX8_readsAll_117 rfl rfl rfl ?_
                dsimp only [List.set]
                refine V.iload dX8_readsAll_118 rfl ?_
                refine V.if_neN 125 dX8_readsAll_120 (by decide) (by omega) (fun hc6 => ?_) (fun hc6 => ?_)
                · exact absurd rfl hc6
                · skip
                  refine V.iload_n dX8_readsAll_123 rfl ?_
                  first
                    | (have hpb : readF tx = (some i, S) := hpa.trans (parse_bad (by omega) (Or.inr hit))
                       have hpo : MAl m F A tx h (some (.int (nI i))) h_ := by
                         rw [MAl, hpb]
                         exact ⟨rfl, ⟨F3, _, hD3, hfj9, upA_34 hA1e⟩, hf9⟩
                       exact V.iret dX8_readsAll_124 rfl hpo)
                    | (have hpb : readF tx = (some i, S) := hpa.trans (parse_bad (by omega) (by first | exact Or.inl ⟨by omega, by simpa using hnr⟩ | exact Or.inr (item_none (by omega) (by omega) (by omega))))
                       have hpo : MAl m F A tx h (some (.int (nI i))) h2 := by
                         rw [MAl, hpb]
                         exact ⟨rfl, ⟨F2, _, hD2, hfj2, hA1e⟩, hf2⟩
                       exact V.iret dX8_readsAll_124 rfl hpo)
              · skip
                refine V.iload_n dX8_readsAll_106 rfl ?_
                refine V.bipush (v := nI 114) dX8_readsAll_107 (by decide) ?_
                refine V.icmp_neN 116 dX8_readsAll_109 (by decide) (by omega) (by omega) (fun hc7 => ?_) (fun hc7 => ?_)
                · skip
                  refine V.iconst (v := nI 0) dX8_readsAll_116 (by decide) ?_
                  refine V.istore_n (i := 1) dX8_readsAll_117 rfl rfl rfl ?_
                  dsimp only [List.set]
                  refine V.iload dX8_readsAll_118 rfl ?_
                  refine V.if_neN 125 dX8_readsAll_120 (by decide) (by omega) (fun hc8 => ?_) (fun hc8 => ?_)
                  · exact absurd rfl hc8
                  · skip
                    refine V.iload_n dX8_readsAll_123 rfl ?_
                    first
                      | (have hpb : readF tx = (some i, S) := hpa.trans (parse_bad (by omega) (Or.inr hit))
                         have hpo : MAl m F A tx h (some (.int (nI i))) h_ := by
                           rw [MAl, hpb]
                           exact ⟨rfl, ⟨F3, _, hD3, hfj9, upA_34 hA1e⟩, hf9⟩
                         exact V.iret dX8_readsAll_124 rfl hpo)
                      | (have hpb : readF tx = (some i, S) := hpa.trans (parse_bad (by omega) (by first | exact Or.inl ⟨by omega, by simpa using hnr⟩ | exact Or.inr (item_none (by omega) (by omega) (by omega))))
                         have hpo : MAl m F A tx h (some (.int (nI i))) h2 := by
                           rw [MAl, hpb]
                           exact ⟨rfl, ⟨F2, _, hD2, hfj2, hA1e⟩, hf2⟩
                         exact V.iret dX8_readsAll_124 rfl hpo)
                · skip
                  refine V.iconst (v := nI 1) dX8_readsAll_112 (by decide) ?_
                  refine V.goto 117 dX8_readsAll_113 (by decide) ?_
                  refine V.istore_n (i := 1) dX8_readsAll_117 rfl rfl rfl ?_
                  dsimp only [List.set]
                  refine V.iload dX8_readsAll_118 rfl ?_
                  refine V.if_neN 125 dX8_readsAll_120 (by decide) (by omega) (fun hc9 => ?_) (fun hc9 => ?_)
                  · exact absurd rfl hc9
                  · skip
                    refine V.iload_n dX8_readsAll_123 rfl ?_
                    first
                      | (have hpb : readF tx = (some i, S) := hpa.trans (parse_bad (by omega) (Or.inr hit))
                         have hpo : MAl m F A tx h (some (.int (nI i))) h_ := by
                           rw [MAl, hpb]
                           exact ⟨rfl, ⟨F3, _, hD3, hfj9, upA_34 hA1e⟩, hf9⟩
                         exact V.iret dX8_readsAll_124 rfl hpo)
                      | (have hpb : readF tx = (some i, S) := hpa.trans (parse_bad (by omega) (by first | exact Or.inl ⟨by omega, by simpa using hnr⟩ | exact Or.inr (item_none (by omega) (by omega) (by omega))))
                         have hpo : MAl m F A tx h (some (.int (nI i))) h2 := by
                           rw [MAl, hpb]
                           exact ⟨rfl, ⟨F2, _, hD2, hfj2, hA1e⟩, hf2⟩
                         exact V.iret dX8_readsAll_124 rfl hpo)
            · skip
              refine V.aload_n dX8_readsAll_88 rfl ?_
              refine V.callV (ci := 8) cX8_83 (m_readsLeaning g h2 m F2 A1 tx S hT2 hD2 hO.1 (i + 1) hF42 (by omega)) dX8_readsAll_89 (Nat.le_of_ble_eq_true rfl) rfl ho2 rfl rfl (Nat.le_of_ble_eq_true rfl) (fun v_ h_ hp_ => ?_)
              obtain ⟨rfl, ⟨F3, d3, b3, hD3, hfj3, hF43⟩, hf3⟩ := hp_
              dsimp only [Option.toList, List.cons_append, List.nil_append]
              have hit : itemF tx (tx.getD i 0) (i + 1) S = resL tx (i + 1) S := by rw [show tx.getD i 0 = 108 by omega]; exact resL_eq hlt
              have hf9 := hf2.tr hf3
              have hfj9 : ∀ j, j ≠ 4 → F3 j = F j := fun j hj => (hfj3 j hj).trans (hfj2 j hj)
              have ho3 := hD3.1.1
              rcases hr : resL tx (i + 1) S with _ | w3
              · skip
                rw [hr] at hD3 hF43 hit
                change MDr h_ m F3 _ S at hD3
                change V _ _ _ _ (Value.int (nI 0) :: _) _
                refine V.if_eqN 99 dX8_readsAll_92 (by decide) (by omega) (fun hc10 => ?_) (fun hc10 => ?_)
                · skip
                  refine V.iconst (v := nI 0) dX8_readsAll_99 (by decide) ?_
                  refine V.istore dX8_readsAll_100 rfl rfl ?_
                  dsimp only [List.set]
                  refine V.iload_n dX8_readsAll_102 rfl ?_
                  refine V.if_eqB 116 dX8_readsAll_103 (by decide) (fun hc11 => ?_) (fun hc11 => ?_)
                  · skip
                    refine V.iconst (v := nI 0) dX8_readsAll_116 (by decide) ?_
                    refine V.istore_n (i := 1) dX8_readsAll_117 rfl rfl rfl ?_
                    dsimp only [List.set]
                    refine V.iload dX8_readsAll_118 rfl ?_
                    refine V.if_neN 125 dX8_readsAll_120 (by decide) (by omega) (fun hc12 => ?_) (fun hc12 => ?_)
                    · exact absurd rfl hc12
                    · skip
                      refine V.iload_n dX8_readsAll_123 rfl ?_
                      first
                        | (have hpb : readF tx = (some i, S) := hpa.trans (parse_bad (by omega) (Or.inr hit))
                           have hpo : MAl m F A tx h (some (.int (nI i))) h_ := by
                             rw [MAl, hpb]
                             exact ⟨rfl, ⟨F3, _, hD3, hfj9, upA_34 hA1e⟩, hf9⟩
                           exact V.iret dX8_readsAll_124 rfl hpo)
                        | (have hpb : readF tx = (some i, S) := hpa.trans (parse_bad (by omega) (by first | exact Or.inl ⟨by omega, by simpa using hnr⟩ | exact Or.inr (item_none (by omega) (by omega) (by omega))))
                           have hpo : MAl m F A tx h (some (.int (nI i))) h2 := by
                             rw [MAl, hpb]
                             exact ⟨rfl, ⟨F2, _, hD2, hfj2, hA1e⟩, hf2⟩
                           exact V.iret dX8_readsAll_124 rfl hpo)
                  · skip
                    refine V.iload_n dX8_readsAll_106 rfl ?_
                    refine V.bipush (v := nI 114) dX8_readsAll_107 (by decide) ?_
                    refine V.icmp_neN 116 dX8_readsAll_109 (by decide) (by omega) (by omega) (fun hc13 => ?_) (fun hc13 => ?_)
                    · skip
                      refine V.iconst (v := nI 0) dX8_readsAll_116 (by decide) ?_
                      refine V.istore_n (i := 1) dX8_readsAll_117 rfl rfl rfl ?_
                      dsimp only [List.set]
                      refine V.iload dX8_readsAll_118 rfl ?_
                      refine V.if_neN 125 dX8_readsAll_120 (by decide) (by omega) (fun hc14 => ?_) (fun hc14 => ?_)
                      · exact absurd rfl hc14
                      · skip
                        refine V.iload_n dX8_readsAll_123 rfl ?_
                        first
                          | (have hpb : readF tx = (some i, S) := hpa.trans (parse_bad (by omega) (Or.inr hit))
                             have hpo : MAl m F A tx h (some (.int (nI i))) h_ := by
                               rw [MAl, hpb]
                               exact ⟨rfl, ⟨F3, _, hD3, hfj9, upA_34 hA1e⟩, hf9⟩
                             exact V.iret dX8_readsAll_124 rfl hpo)
                          | (have hpb : readF tx = (some i, S) := hpa.trans (parse_bad (by omega) (by first | exact Or.inl ⟨by omega, by simpa using hnr⟩ | exact Or.inr (item_none (by omega) (by omega) (by omega))))
                             have hpo : MAl m F A tx h (some (.int (nI i))) h2 := by
                               rw [MAl, hpb]
                               exact ⟨rfl, ⟨F2, _, hD2, hfj2, hA1e⟩, hf2⟩
                             exact V.iret dX8_readsAll_124 rfl hpo)
                    · skip
                      refine V.iconst (v := nI 1) dX8_readsAll_112 (by decide) ?_
                      refine V.goto 117 dX8_readsAll_113 (by decide) ?_
                      refine V.istore_n (i := 1) dX8_readsAll_117 rfl rfl rfl ?_
                      dsimp only [List.set]
                      refine V.iload dX8_readsAll_118 rfl ?_
                      refine V.if_neN 125 dX8_readsAll_120 (by decide) (by omega) (fun hc15 => ?_) (fun hc15 => ?_)
                      · exact absurd rfl hc15
                      · skip
                        refine V.iload_n dX8_readsAll_123 rfl ?_
                        first
                          | (have hpb : readF tx = (some i, S) := hpa.trans (parse_bad (by omega) (Or.inr hit))
                             have hpo : MAl m F A tx h (some (.int (nI i))) h_ := by
                               rw [MAl, hpb]
                               exact ⟨rfl, ⟨F3, _, hD3, hfj9, upA_34 hA1e⟩, hf9⟩
                             exact V.iret dX8_readsAll_124 rfl hpo)
                          | (have hpb : readF tx = (some i, S) := hpa.trans (parse_bad (by omega) (by first | exact Or.inl ⟨by omega, by simpa using hnr⟩ | exact Or.inr (item_none (by omega) (by omega) (by omega))))
                             have hpo : MAl m F A tx h (some (.int (nI i))) h2 := by
                               rw [MAl, hpb]
                               exact ⟨rfl, ⟨F2, _, hD2, hfj2, hA1e⟩, hf2⟩
                             exact V.iret dX8_readsAll_124 rfl hpo)
                · exact absurd rfl hc10
              · skip
                rw [hr] at hD3 hF43 hit
                change MDr h_ m F3 _ w3.1 at hD3
                replace hF43 := hF43 w3 rfl
                change V _ _ _ _ (Value.int (nI 1) :: _) _
                refine V.if_eqN 99 dX8_readsAll_92 (by decide) (by omega) (fun hc16 => ?_) (fun hc16 => ?_)
                · exact absurd hc16 (by omega)
                · skip
                  refine V.iconst (v := nI 1) dX8_readsAll_95 (by decide) ?_
                  refine V.goto 100 dX8_readsAll_96 (by decide) ?_
                  refine V.istore dX8_readsAll_100 rfl rfl ?_
                  dsimp only [List.set]
                  refine V.iload_n dX8_readsAll_102 rfl ?_
                  refine V.if_eqB 116 dX8_readsAll_103 (by decide) (fun hc17 => ?_) (fun hc17 => ?_)
                  · skip
                    refine V.iconst (v := nI 0) dX8_readsAll_116 (by decide) ?_
                    refine V.istore_n (i := 1) dX8_readsAll_117 rfl rfl rfl ?_
                    dsimp only [List.set]
                    refine V.iload dX8_readsAll_118 rfl ?_
                    refine V.if_neN 125 dX8_readsAll_120 (by decide) (by omega) (fun hc18 => ?_) (fun hc18 => ?_)
                    · skip
                      refine V.goto 11 dX8_readsAll_125 (by decide) ?_
                      have hg := parse_good (f := f) (ro := ro) hK hO (by omega) (by first | (intro u; omega) | (intro u; exact absurd u.2 (by simpa using hrt))) hro hit
                      have hq : decide (tx.getD i 0 = 114) = false := by first | exact decide_eq_true (by omega) | exact decide_eq_false (by omega)
                      rw [hq] at hg
                      have z := ihf w3.2 w3.1 false h_ F3 _ (some (.int (nI i))) (some (.int (nI (tx.getD i 0)))) (some (.int (nI 1))) (by omega) (by omega) hD3 hfj9 (upA_34 hA1e) hF43 hg.2.1 hg.2.2.1 (hpa.trans hg.1) hf9
                      exact z
                    · exact absurd hc18 (by omega)
                  · skip
                    refine V.iload_n dX8_readsAll_106 rfl ?_
                    refine V.bipush (v := nI 114) dX8_readsAll_107 (by decide) ?_
                    refine V.icmp_neN 116 dX8_readsAll_109 (by decide) (by omega) (by omega) (fun hc19 => ?_) (fun hc19 => ?_)
                    · skip
                      refine V.iconst (v := nI 0) dX8_readsAll_116 (by decide) ?_
                      refine V.istore_n (i := 1) dX8_readsAll_117 rfl rfl rfl ?_
                      dsimp only [List.set]
                      refine V.iload dX8_readsAll_118 rfl ?_
                      refine V.if_neN 125 dX8_readsAll_120 (by decide) (by omega) (fun hc20 => ?_) (fun hc20 => ?_)
                      · skip
                        refine V.goto 11 dX8_readsAll_125 (by decide) ?_
                        have hg := parse_good (f := f) (ro := ro) hK hO (by omega) (by first | (intro u; omega) | (intro u; exact absurd u.2 (by simpa using hrt))) hro hit
                        have hq : decide (tx.getD i 0 = 114) = false := by first | exact decide_eq_true (by omega) | exact decide_eq_false (by omega)
                        rw [hq] at hg
                        have z := ihf w3.2 w3.1 false h_ F3 _ (some (.int (nI i))) (some (.int (nI (tx.getD i 0)))) (some (.int (nI 1))) (by omega) (by omega) hD3 hfj9 (upA_34 hA1e) hF43 hg.2.1 hg.2.2.1 (hpa.trans hg.1) hf9
                        exact z
                      · exact absurd hc20 (by omega)
                    · skip
                      refine V.iconst (v := nI 1) dX8_readsAll_112 (by decide) ?_
                      refine V.goto 117 dX8_readsAll_113 (by decide) ?_
                      refine V.istore_n (i := 1) dX8_readsAll_117 rfl rfl rfl ?_
                      dsimp only [List.set]
                      refine V.iload dX8_readsAll_118 rfl ?_
                      refine V.if_neN 125 dX8_readsAll_120 (by decide) (by omega) (fun hc21 => ?_) (fun hc21 => ?_)
                      · skip
                        refine V.goto 11 dX8_readsAll_125 (by decide) ?_
                        have hg := parse_good (f := f) (ro := ro) hK hO (by omega) (by first | (intro u; omega) | (intro u; exact absurd u.2 (by simpa using hrt))) hro hit
                        have hq : decide (tx.getD i 0 = 114) = true := by first | exact decide_eq_true (by omega) | exact decide_eq_false (by omega)
                        rw [hq] at hg
                        have z := ihf w3.2 w3.1 true h_ F3 _ (some (.int (nI i))) (some (.int (nI (tx.getD i 0)))) (some (.int (nI 1))) (by omega) (by omega) hD3 hfj9 (upA_34 hA1e) hF43 hg.2.1 hg.2.2.1 (hpa.trans hg.1) hf9
                        exact z
                      · exact absurd hc21 (by omega)
          · skip
            refine V.aload_n dX8_readsAll_75 rfl ?_
            refine V.callV (ci := 8) cX8_80 (m_readsPerson g h2 m F2 A1 tx S hT2 hD2 hO.1 (i + 1) hF42 (by omega)) dX8_readsAll_76 (Nat.le_of_ble_eq_true rfl) rfl ho2 rfl rfl (Nat.le_of_ble_eq_true rfl) (fun v_ h_ hp_ => ?_)
            obtain ⟨rfl, ⟨F3, d3, b3, hD3, hfj3, hF43⟩, hf3⟩ := hp_
            dsimp only [Option.toList, List.cons_append, List.nil_append]
            have hit : itemF tx (tx.getD i 0) (i + 1) S = resP tx (i + 1) S := by rw [show tx.getD i 0 = 112 by omega]; exact resP_eq hlt
            have hf9 := hf2.tr hf3
            have hfj9 : ∀ j, j ≠ 4 → F3 j = F j := fun j hj => (hfj3 j hj).trans (hfj2 j hj)
            have ho3 := hD3.1.1
            rcases hr : resP tx (i + 1) S with _ | w3
            · skip
              rw [hr] at hD3 hF43 hit
              change MDr h_ m F3 _ S at hD3
              change V _ _ _ _ (Value.int (nI 0) :: _) _
              refine V.goto 100 dX8_readsAll_79 (by decide) ?_
              refine V.istore dX8_readsAll_100 rfl rfl ?_
              dsimp only [List.set]
              refine V.iload_n dX8_readsAll_102 rfl ?_
              refine V.if_eqB 116 dX8_readsAll_103 (by decide) (fun hc22 => ?_) (fun hc22 => ?_)
              · skip
                refine V.iconst (v := nI 0) dX8_readsAll_116 (by decide) ?_
                refine V.istore_n (i := 1) dX8_readsAll_117 rfl rfl rfl ?_
                dsimp only [List.set]
                refine V.iload dX8_readsAll_118 rfl ?_
                refine V.if_neN 125 dX8_readsAll_120 (by decide) (by omega) (fun hc23 => ?_) (fun hc23 => ?_)
                · exact absurd rfl hc23
                · skip
                  refine V.iload_n dX8_readsAll_123 rfl ?_
                  first
                    | (have hpb : readF tx = (some i, S) := hpa.trans (parse_bad (by omega) (Or.inr hit))
                       have hpo : MAl m F A tx h (some (.int (nI i))) h_ := by
                         rw [MAl, hpb]
                         exact ⟨rfl, ⟨F3, _, hD3, hfj9, upA_34 hA1e⟩, hf9⟩
                       exact V.iret dX8_readsAll_124 rfl hpo)
                    | (have hpb : readF tx = (some i, S) := hpa.trans (parse_bad (by omega) (by first | exact Or.inl ⟨by omega, by simpa using hnr⟩ | exact Or.inr (item_none (by omega) (by omega) (by omega))))
                       have hpo : MAl m F A tx h (some (.int (nI i))) h2 := by
                         rw [MAl, hpb]
                         exact ⟨rfl, ⟨F2, _, hD2, hfj2, hA1e⟩, hf2⟩
                       exact V.iret dX8_readsAll_124 rfl hpo)
              · skip
                refine V.iload_n dX8_readsAll_106 rfl ?_
                refine V.bipush (v := nI 114) dX8_readsAll_107 (by decide) ?_
                refine V.icmp_neN 116 dX8_readsAll_109 (by decide) (by omega) (by omega) (fun hc24 => ?_) (fun hc24 => ?_)
                · skip
                  refine V.iconst (v := nI 0) dX8_readsAll_116 (by decide) ?_
                  refine V.istore_n (i := 1) dX8_readsAll_117 rfl rfl rfl ?_
                  dsimp only [List.set]
                  refine V.iload dX8_readsAll_118 rfl ?_
                  refine V.if_neN 125 dX8_readsAll_120 (by decide) (by omega) (fun hc25 => ?_) (fun hc25 => ?_)
                  · exact absurd rfl hc25
                  · skip
                    refine V.iload_n dX8_readsAll_123 rfl ?_
                    first
                      | (have hpb : readF tx = (some i, S) := hpa.trans (parse_bad (by omega) (Or.inr hit))
                         have hpo : MAl m F A tx h (some (.int (nI i))) h_ := by
                           rw [MAl, hpb]
                           exact ⟨rfl, ⟨F3, _, hD3, hfj9, upA_34 hA1e⟩, hf9⟩
                         exact V.iret dX8_readsAll_124 rfl hpo)
                      | (have hpb : readF tx = (some i, S) := hpa.trans (parse_bad (by omega) (by first | exact Or.inl ⟨by omega, by simpa using hnr⟩ | exact Or.inr (item_none (by omega) (by omega) (by omega))))
                         have hpo : MAl m F A tx h (some (.int (nI i))) h2 := by
                           rw [MAl, hpb]
                           exact ⟨rfl, ⟨F2, _, hD2, hfj2, hA1e⟩, hf2⟩
                         exact V.iret dX8_readsAll_124 rfl hpo)
                · skip
                  refine V.iconst (v := nI 1) dX8_readsAll_112 (by decide) ?_
                  refine V.goto 117 dX8_readsAll_113 (by decide) ?_
                  refine V.istore_n (i := 1) dX8_readsAll_117 rfl rfl rfl ?_
                  dsimp only [List.set]
                  refine V.iload dX8_readsAll_118 rfl ?_
                  refine V.if_neN 125 dX8_readsAll_120 (by decide) (by omega) (fun hc26 => ?_) (fun hc26 => ?_)
                  · exact absurd rfl hc26
                  · skip
                    refine V.iload_n dX8_readsAll_123 rfl ?_
                    first
                      | (have hpb : readF tx = (some i, S) := hpa.trans (parse_bad (by omega) (Or.inr hit))
                         have hpo : MAl m F A tx h (some (.int (nI i))) h_ := by
                           rw [MAl, hpb]
                           exact ⟨rfl, ⟨F3, _, hD3, hfj9, upA_34 hA1e⟩, hf9⟩
                         exact V.iret dX8_readsAll_124 rfl hpo)
                      | (have hpb : readF tx = (some i, S) := hpa.trans (parse_bad (by omega) (by first | exact Or.inl ⟨by omega, by simpa using hnr⟩ | exact Or.inr (item_none (by omega) (by omega) (by omega))))
                         have hpo : MAl m F A tx h (some (.int (nI i))) h2 := by
                           rw [MAl, hpb]
                           exact ⟨rfl, ⟨F2, _, hD2, hfj2, hA1e⟩, hf2⟩
                         exact V.iret dX8_readsAll_124 rfl hpo)
            · skip
              rw [hr] at hD3 hF43 hit
              change MDr h_ m F3 _ w3.1 at hD3
              replace hF43 := hF43 w3 rfl
              change V _ _ _ _ (Value.int (nI 1) :: _) _
              refine V.goto 100 dX8_readsAll_79 (by decide) ?_
              refine V.istore dX8_readsAll_100 rfl rfl ?_
              dsimp only [List.set]
              refine V.iload_n dX8_readsAll_102 rfl ?_
              refine V.if_eqB 116 dX8_readsAll_103 (by decide) (fun hc27 => ?_) (fun hc27 => ?_)
              · skip
                refine V.iconst (v := nI 0) dX8_readsAll_116 (by decide) ?_
                refine V.istore_n (i := 1) dX8_readsAll_117 rfl rfl rfl ?_
                dsimp only [List.set]
                refine V.iload dX8_readsAll_118 rfl ?_
                refine V.if_neN 125 dX8_readsAll_120 (by decide) (by omega) (fun hc28 => ?_) (fun hc28 => ?_)
                · skip
                  refine V.goto 11 dX8_readsAll_125 (by decide) ?_
                  have hg := parse_good (f := f) (ro := ro) hK hO (by omega) (by first | (intro u; omega) | (intro u; exact absurd u.2 (by simpa using hrt))) hro hit
                  have hq : decide (tx.getD i 0 = 114) = false := by first | exact decide_eq_true (by omega) | exact decide_eq_false (by omega)
                  rw [hq] at hg
                  have z := ihf w3.2 w3.1 false h_ F3 _ (some (.int (nI i))) (some (.int (nI (tx.getD i 0)))) (some (.int (nI 1))) (by omega) (by omega) hD3 hfj9 (upA_34 hA1e) hF43 hg.2.1 hg.2.2.1 (hpa.trans hg.1) hf9
                  exact z
                · exact absurd hc28 (by omega)
              · skip
                refine V.iload_n dX8_readsAll_106 rfl ?_
                refine V.bipush (v := nI 114) dX8_readsAll_107 (by decide) ?_
                refine V.icmp_neN 116 dX8_readsAll_109 (by decide) (by omega) (by omega) (fun hc29 => ?_) (fun hc29 => ?_)
                · skip
                  refine V.iconst (v := nI 0) dX8_readsAll_116 (by decide) ?_
                  refine V.istore_n (i := 1) dX8_readsAll_117 rfl rfl rfl ?_
                  dsimp only [List.set]
                  refine V.iload dX8_readsAll_118 rfl ?_
                  refine V.if_neN 125 dX8_readsAll_120 (by decide) (by omega) (fun hc30 => ?_) (fun hc30 => ?_)
                  · skip
                    refine V.goto 11 dX8_readsAll_125 (by decide) ?_
                    have hg := parse_good (f := f) (ro := ro) hK hO (by omega) (by first | (intro u; omega) | (intro u; exact absurd u.2 (by simpa using hrt))) hro hit
                    have hq : decide (tx.getD i 0 = 114) = false := by first | exact decide_eq_true (by omega) | exact decide_eq_false (by omega)
                    rw [hq] at hg
                    have z := ihf w3.2 w3.1 false h_ F3 _ (some (.int (nI i))) (some (.int (nI (tx.getD i 0)))) (some (.int (nI 1))) (by omega) (by omega) hD3 hfj9 (upA_34 hA1e) hF43 hg.2.1 hg.2.2.1 (hpa.trans hg.1) hf9
                    exact z
                  · exact absurd hc30 (by omega)
                · skip
                  refine V.iconst (v := nI 1) dX8_readsAll_112 (by decide) ?_
                  refine V.goto 117 dX8_readsAll_113 (by decide) ?_
                  refine V.istore_n (i := 1) dX8_readsAll_117 rfl rfl rfl ?_
                  dsimp only [List.set]
                  refine V.iload dX8_readsAll_118 rfl ?_
                  refine V.if_neN 125 dX8_readsAll_120 (by decide) (by omega) (fun hc31 => ?_) (fun hc31 => ?_)
                  · skip
                    refine V.goto 11 dX8_readsAll_125 (by decide) ?_
                    have hg := parse_good (f := f) (ro := ro) hK hO (by omega) (by first | (intro u; omega) | (intro u; exact absurd u.2 (by simpa using hrt))) hro hit
                    have hq : decide (tx.getD i 0 = 114) = true := by first | exact decide_eq_true (by omega) | exact decide_eq_false (by omega)
                    rw [hq] at hg
                    have z := ihf w3.2 w3.1 true h_ F3 _ (some (.int (nI i))) (some (.int (nI (tx.getD i 0)))) (some (.int (nI 1))) (by omega) (by omega) hD3 hfj9 (upA_34 hA1e) hF43 hg.2.1 hg.2.2.1 (hpa.trans hg.1) hf9
                    exact z
                  · exact absurd hc31 (by omega)
        · skip
          refine V.iload_n dX8_readsAll_50 rfl ?_
          refine V.if_eqB 65 dX8_readsAll_51 (by decide) (fun hc32 => ?_) (fun hc32 => ?_)
          · skip
            have hnr := hc32
            refine V.iconst (v := nI 0) dX8_readsAll_65 (by decide) ?_
            refine V.goto 100 dX8_readsAll_66 (by decide) ?_
            refine V.istore dX8_readsAll_100 rfl rfl ?_
            dsimp only [List.set]
            refine V.iload_n dX8_readsAll_102 rfl ?_
            refine V.if_eqB 116 dX8_readsAll_103 (by decide) (fun hc33 => ?_) (fun hc33 => ?_)
            · skip
              refine V.iconst (v := nI 0) dX8_readsAll_116 (by decide) ?_
              refine V.istore_n (i := 1) dX8_readsAll_117 rfl rfl rfl ?_
              dsimp only [List.set]
              refine V.iload dX8_readsAll_118 rfl ?_
              refine V.if_neN 125 dX8_readsAll_120 (by decide) (by omega) (fun hc34 => ?_) (fun hc34 => ?_)
              · exact absurd rfl hc34
              · skip
                refine V.iload_n dX8_readsAll_123 rfl ?_
                first
                  | (have hpb : readF tx = (some i, S) := hpa.trans (parse_bad (by omega) (Or.inr hit))
                     have hpo : MAl m F A tx h (some (.int (nI i))) h_ := by
                       rw [MAl, hpb]
                       exact ⟨rfl, ⟨F3, _, hD3, hfj9, upA_34 hA1e⟩, hf9⟩
                     exact V.iret dX8_readsAll_124 rfl hpo)
                  | (have hpb : readF tx = (some i, S) := hpa.trans (parse_bad (by omega) (by first | exact Or.inl ⟨by omega, by simpa using hnr⟩ | exact Or.inr (item_none (by omega) (by omega) (by omega))))
                     have hpo : MAl m F A tx h (some (.int (nI i))) h2 := by
                       rw [MAl, hpb]
                       exact ⟨rfl, ⟨F2, _, hD2, hfj2, hA1e⟩, hf2⟩
                     exact V.iret dX8_readsAll_124 rfl hpo)
            · exact absurd hc33 hnr
          · skip
            have hrt := hc32
            refine V.aload_n dX8_readsAll_54 rfl ?_
            refine V.callV (ci := 8) cX8_76 (m_readsRoom g h2 m F2 A1 tx S hT2 hD2 hO.1 (i + 1) hF42 (by omega)) dX8_readsAll_55 (Nat.le_of_ble_eq_true rfl) rfl ho2 rfl rfl (Nat.le_of_ble_eq_true rfl) (fun v_ h_ hp_ => ?_)
            obtain ⟨rfl, ⟨F3, d3, b3, hD3, hfj3, hF43⟩, hf3⟩ := hp_
            dsimp only [Option.toList, List.cons_append, List.nil_append]
            have hit : itemF tx (tx.getD i 0) (i + 1) S = resW tx (i + 1) S := by rw [show tx.getD i 0 = 114 by omega]; exact resW_eq hlt
            have hf9 := hf2.tr hf3
            have hfj9 : ∀ j, j ≠ 4 → F3 j = F j := fun j hj => (hfj3 j hj).trans (hfj2 j hj)
            have ho3 := hD3.1.1
            rcases hr : resW tx (i + 1) S with _ | w3
            · skip
              rw [hr] at hD3 hF43 hit
              change MDr h_ m F3 _ S at hD3
              change V _ _ _ _ (Value.int (nI 0) :: _) _
              refine V.if_eqN 65 dX8_readsAll_58 (by decide) (by omega) (fun hc35 => ?_) (fun hc35 => ?_)
              · skip
                refine V.iconst (v := nI 0) dX8_readsAll_65 (by decide) ?_
                refine V.goto 100 dX8_readsAll_66 (by decide) ?_
                refine V.istore dX8_readsAll_100 rfl rfl ?_
                dsimp only [List.set]
                refine V.iload_n dX8_readsAll_102 rfl ?_
                refine V.if_eqB 116 dX8_readsAll_103 (by decide) (fun hc36 => ?_) (fun hc36 => ?_)
                · exact absurd hrt hc36
                · skip
                  refine V.iload_n dX8_readsAll_106 rfl ?_
                  refine V.bipush (v := nI 114) dX8_readsAll_107 (by decide) ?_
                  refine V.icmp_neN 116 dX8_readsAll_109 (by decide) (by omega) (by omega) (fun hc37 => ?_) (fun hc37 => ?_)
                  · skip
                    refine V.iconst (v := nI 0) dX8_readsAll_116 (by decide) ?_
                    refine V.istore_n (i := 1) dX8_readsAll_117 rfl rfl rfl ?_
                    dsimp only [List.set]
                    refine V.iload dX8_readsAll_118 rfl ?_
                    refine V.if_neN 125 dX8_readsAll_120 (by decide) (by omega) (fun hc38 => ?_) (fun hc38 => ?_)
                    · exact absurd rfl hc38
                    · skip
                      refine V.iload_n dX8_readsAll_123 rfl ?_
                      first
                        | (have hpb : readF tx = (some i, S) := hpa.trans (parse_bad (by omega) (Or.inr hit))
                           have hpo : MAl m F A tx h (some (.int (nI i))) h_ := by
                             rw [MAl, hpb]
                             exact ⟨rfl, ⟨F3, _, hD3, hfj9, upA_34 hA1e⟩, hf9⟩
                           exact V.iret dX8_readsAll_124 rfl hpo)
                        | (have hpb : readF tx = (some i, S) := hpa.trans (parse_bad (by omega) (by first | exact Or.inl ⟨by omega, by simpa using hnr⟩ | exact Or.inr (item_none (by omega) (by omega) (by omega))))
                           have hpo : MAl m F A tx h (some (.int (nI i))) h2 := by
                             rw [MAl, hpb]
                             exact ⟨rfl, ⟨F2, _, hD2, hfj2, hA1e⟩, hf2⟩
                           exact V.iret dX8_readsAll_124 rfl hpo)
                  · skip
                    refine V.iconst (v := nI 1) dX8_readsAll_112 (by decide) ?_
                    refine V.goto 117 dX8_readsAll_113 (by decide) ?_
                    refine V.istore_n (i := 1) dX8_readsAll_117 rfl rfl rfl ?_
                    dsimp only [List.set]
                    refine V.iload dX8_readsAll_118 rfl ?_
                    refine V.if_neN 125 dX8_readsAll_120 (by decide) (by omega) (fun hc39 => ?_) (fun hc39 => ?_)
                    · exact absurd rfl hc39
                    · skip
                      refine V.iload_n dX8_readsAll_123 rfl ?_
                      first
                        | (have hpb : readF tx = (some i, S) := hpa.trans (parse_bad (by omega) (Or.inr hit))
                           have hpo : MAl m F A tx h (some (.int (nI i))) h_ := by
                             rw [MAl, hpb]
                             exact ⟨rfl, ⟨F3, _, hD3, hfj9, upA_34 hA1e⟩, hf9⟩
                           exact V.iret dX8_readsAll_124 rfl hpo)
                        | (have hpb : readF tx = (some i, S) := hpa.trans (parse_bad (by omega) (by first | exact Or.inl ⟨by omega, by simpa using hnr⟩ | exact Or.inr (item_none (by omega) (by omega) (by omega))))
                           have hpo : MAl m F A tx h (some (.int (nI i))) h2 := by
                             rw [MAl, hpb]
                             exact ⟨rfl, ⟨F2, _, hD2, hfj2, hA1e⟩, hf2⟩
                           exact V.iret dX8_readsAll_124 rfl hpo)
              · exact absurd rfl hc35
            · skip
              rw [hr] at hD3 hF43 hit
              change MDr h_ m F3 _ w3.1 at hD3
              replace hF43 := hF43 w3 rfl
              change V _ _ _ _ (Value.int (nI 1) :: _) _
              refine V.if_eqN 65 dX8_readsAll_58 (by decide) (by omega) (fun hc40 => ?_) (fun hc40 => ?_)
              · exact absurd hc40 (by omega)
              · skip
                refine V.iconst (v := nI 1) dX8_readsAll_61 (by decide) ?_
                refine V.goto 100 dX8_readsAll_62 (by decide) ?_
                refine V.istore dX8_readsAll_100 rfl rfl ?_
                dsimp only [List.set]
                refine V.iload_n dX8_readsAll_102 rfl ?_
                refine V.if_eqB 116 dX8_readsAll_103 (by decide) (fun hc41 => ?_) (fun hc41 => ?_)
                · exact absurd hrt hc41
                · skip
                  refine V.iload_n dX8_readsAll_106 rfl ?_
                  refine V.bipush (v := nI 114) dX8_readsAll_107 (by decide) ?_
                  refine V.icmp_neN 116 dX8_readsAll_109 (by decide) (by omega) (by omega) (fun hc42 => ?_) (fun hc42 => ?_)
                  · skip
                    refine V.iconst (v := nI 0) dX8_readsAll_116 (by decide) ?_
                    refine V.istore_n (i := 1) dX8_readsAll_117 rfl rfl rfl ?_
                    dsimp only [List.set]
                    refine V.iload dX8_readsAll_118 rfl ?_
                    refine V.if_neN 125 dX8_readsAll_120 (by decide) (by omega) (fun hc43 => ?_) (fun hc43 => ?_)
                    · skip
                      refine V.goto 11 dX8_readsAll_125 (by decide) ?_
                      have hg := parse_good (f := f) (ro := ro) hK hO (by omega) (by first | (intro u; omega) | (intro u; exact absurd u.2 (by simpa using hrt))) hro hit
                      have hq : decide (tx.getD i 0 = 114) = false := by first | exact decide_eq_true (by omega) | exact decide_eq_false (by omega)
                      rw [hq] at hg
                      have z := ihf w3.2 w3.1 false h_ F3 _ (some (.int (nI i))) (some (.int (nI (tx.getD i 0)))) (some (.int (nI 1))) (by omega) (by omega) hD3 hfj9 (upA_34 hA1e) hF43 hg.2.1 hg.2.2.1 (hpa.trans hg.1) hf9
                      exact z
                    · exact absurd hc43 (by omega)
                  · skip
                    refine V.iconst (v := nI 1) dX8_readsAll_112 (by decide) ?_
                    refine V.goto 117 dX8_readsAll_113 (by decide) ?_
                    refine V.istore_n (i := 1) dX8_readsAll_117 rfl rfl rfl ?_
                    dsimp only [List.set]
                    refine V.iload dX8_readsAll_118 rfl ?_
                    refine V.if_neN 125 dX8_readsAll_120 (by decide) (by omega) (fun hc44 => ?_) (fun hc44 => ?_)
                    · skip
                      refine V.goto 11 dX8_readsAll_125 (by decide) ?_
                      have hg := parse_good (f := f) (ro := ro) hK hO (by omega) (by first | (intro u; omega) | (intro u; exact absurd u.2 (by simpa using hrt))) hro hit
                      have hq : decide (tx.getD i 0 = 114) = true := by first | exact decide_eq_true (by omega) | exact decide_eq_false (by omega)
                      rw [hq] at hg
                      have z := ihf w3.2 w3.1 true h_ F3 _ (some (.int (nI i))) (some (.int (nI (tx.getD i 0)))) (some (.int (nI 1))) (by omega) (by omega) hD3 hfj9 (upA_34 hA1e) hF43 hg.2.1 hg.2.2.1 (hpa.trans hg.1) hf9
                      exact z
                    · exact absurd hc44 (by omega)
  show V _ _ 0 [some (.ref m), none, none, none, none] [] h
  refine V.aload_n dX8_readsAll_0 rfl ?_
  refine V.callV (ci := 8) cX8_43 (m_begins g h m F A hw) dX8_readsAll_1 (Nat.le_of_ble_eq_true rfl) rfl hw.1 rfl rfl (Nat.le_of_ble_eq_true rfl) (fun v_ h_ hp_ => ?_)
  obtain ⟨rfl, ⟨d1, b1, hw1, ht1, hs1, hz1⟩, hf1⟩ := hp_
  dsimp only [Option.toList, List.nil_append]
  have ho1 := hw1.1
  refine V.aload_n dX8_readsAll_4 rfl ?_
  refine V.iconst (v := nI 0) dX8_readsAll_5 (by decide) ?_
  refine V.puti fX8_61 dX8_readsAll_6 ho1 (Nat.le_of_ble_eq_true rfl) ?_
  dsimp only [List.set]
  refine V.iconst (v := nI 1) dX8_readsAll_9 (by decide) ?_
  refine V.istore_n (i := 1) dX8_readsAll_10 rfl rfl rfl ?_
  dsimp only [List.set]
  have hw2 := MRaw.f4 hw1 (nI 0)
  have z := L 200 0 rClear true _ _ _ none none none (by omega) (by omega) ⟨hw2, by rw [upA_n (by omega), upA_s]; exact ht1, by rw [upA_s]; exact hs1, by rw [upA_s]; exact hz1⟩ (fun j hj => upF_n hj) (upA_34 (fun _ _ _ => rfl)) upF_s clear_Ok (fun _ => rfl) rfl ((hf1.wide (by omega) (by omega)).tr (VFr.set (by omega) (by omega)))
  exact z

set_option maxHeartbeats 1000000 in
theorem r_fault (g : VG) (h : VHp) (m : Nat) (T : Sy) (hC : MAt h m T) (hO : SyOk T) : VE g mX8_fault 5 false (0, 0) [.ref m] h (MPo m (eO (readF (tT T)).1) T h) := by
  obtain ⟨F, A, hM, hAll⟩ := id hC
  obtain ⟨hF0, hTx, hF1, hPa, hF2, hKe, hF3, hNo⟩ := id hAll
  obtain ⟨hOt, hOs, hOn, hOp, hOk, hOns, hOpk, hOkk⟩ := id hO
  have hB := hOs.1
  have hD := hOs.2.1
  have hnl := hOns.1
  have htl := hOt.1
  obtain ⟨hw, ⟨et0, et1, et2, ek⟩, es0, ev, ex, ey, eL⟩ := id hM
  obtain ⟨ho, hA⟩ := id hw
  obtain ⟨bn, bW, bH, bP, bL⟩ := id hB
  refine VE.of (by decide) rfl (Nat.le_of_ble_eq_true rfl) ?_
  show V _ _ 0 [some (.ref m)] [] h
  refine V.aload_n dX8_fault_0 rfl ?_
  refine V.callV (ci := 8) cX8_86 (m_readsAll g h m F A (tT T) ⟨hM.1, hF0, hOt.1, hTx, fun i hi => by have := hOt.2 i hi; omega⟩ hOt) dX8_fault_1 (Nat.le_of_ble_eq_true rfl) rfl ho rfl rfl (Nat.le_of_ble_eq_true rfl) (fun v_ h_ hp_ => ?_)
  obtain ⟨rfl, ⟨F1, A1, hD1, hfj1, hA1e⟩, hf1⟩ := hp_
  dsimp only [Option.toList, List.cons_append, List.nil_append]
  have ho1 := hD1.1.1
  have hA1 := hD1.1.2
  have hC1 : MAt h_ m T := ⟨F1, A1, ⟨hD1.1, by rw [hA1e 2 (by omega) (by omega)]; exact hM.2.1, by rw [hA1e 5 (by omega) (by omega)]; exact hM.2.2⟩, (hfj1 0 (by omega)).trans hF0, by rw [hA1e 1 (by omega) (by omega)]; exact hTx, (hfj1 1 (by omega)).trans hF1, by rw [hA1e 6 (by omega) (by omega)]; exact hPa, (hfj1 2 (by omega)).trans hF2, by rw [hA1e 7 (by omega) (by omega)]; exact hKe, (hfj1 3 (by omega)).trans hF3, by rw [hA1e 8 (by omega) (by omega)]; exact hNo⟩
  have hrr := read_res hOt
  have hrb : rN (readF (tT T)).2 ≤ 6 := hrr.1.1.1
  exact V.iret dX8_fault_4 rfl ⟨rfl, hC1, hf1⟩

set_option maxHeartbeats 1000000 in
theorem r_lay (g : VG) (h : VHp) (m : Nat) (T : Sy) (hC : MAt h m T) (hO : SyOk T) : VE g mX8_lay 5 false (0, 0) [.ref m] h (MPo m (a_lay T) (n_lay T) h) := by
  obtain ⟨F, A, hM, hAll⟩ := id hC
  obtain ⟨hF0, hTx, hF1, hPa, hF2, hKe, hF3, hNo⟩ := id hAll
  obtain ⟨hOt, hOs, hOn, hOp, hOk, hOns, hOpk, hOkk⟩ := id hO
  have hB := hOs.1
  have hD := hOs.2.1
  have hnl := hOns.1
  have htl := hOt.1
  obtain ⟨hw, ⟨et0, et1, et2, ek⟩, es0, ev, ex, ey, eL⟩ := id hM
  obtain ⟨ho, hA⟩ := id hw
  obtain ⟨bn, bW, bH, bP, bL⟩ := id hB
  refine VE.of (by decide) rfl (Nat.le_of_ble_eq_true rfl) ?_
  show V _ _ 0 [some (.ref m)] [] h
  refine V.aload_n dX8_lay_0 rfl ?_
  refine V.callV (ci := 8) cX8_86 (m_readsAll g h m F A (tT T) ⟨hM.1, hF0, hOt.1, hTx, fun i hi => by have := hOt.2 i hi; omega⟩ hOt) dX8_lay_1 (Nat.le_of_ble_eq_true rfl) rfl ho rfl rfl (Nat.le_of_ble_eq_true rfl) (fun v_ h_ hp_ => ?_)
  obtain ⟨rfl, ⟨F1, A1, hD1, hfj1, hA1e⟩, hf1⟩ := hp_
  dsimp only [Option.toList, List.cons_append, List.nil_append]
  have ho1 := hD1.1.1
  have hA1 := hD1.1.2
  have hC1 : MAt h_ m T := ⟨F1, A1, ⟨hD1.1, by rw [hA1e 2 (by omega) (by omega)]; exact hM.2.1, by rw [hA1e 5 (by omega) (by omega)]; exact hM.2.2⟩, (hfj1 0 (by omega)).trans hF0, by rw [hA1e 1 (by omega) (by omega)]; exact hTx, (hfj1 1 (by omega)).trans hF1, by rw [hA1e 6 (by omega) (by omega)]; exact hPa, (hfj1 2 (by omega)).trans hF2, by rw [hA1e 7 (by omega) (by omega)]; exact hKe, (hfj1 3 (by omega)).trans hF3, by rw [hA1e 8 (by omega) (by omega)]; exact hNo⟩
  have hrr := read_res hOt
  have hrb : rN (readF (tT T)).2 ≤ 6 := hrr.1.1.1
  refine V.bipush (v := iI (-4)) dX8_lay_4 (by decide) ?_
  refine V.icmp_ne 18 dX8_lay_6 (by decide) (fun hc1 => ?_) (fun hc1 => ?_)
  · skip
    have hz9 := hc1
    refine V.bipush (v := iI (-2)) dX8_lay_18 (by decide) ?_
    have hno : ¬ ((readF (tT T)).1 = none ∧ 1 ≤ rN (readF (tT T)).2) := fun u => by first | omega | exact hz9 ((eO_none hrr.2).mpr u.1)
    exact V.iret dX8_lay_20 rfl ⟨by unfold a_lay; rw [if_neg hno], by unfold n_lay; rw [if_neg hno]; exact hC1, hf1⟩
  · skip
    have hz9 := hc1
    refine V.aload_n dX8_lay_9 rfl ?_
    refine V.get fX8_16 dX8_lay_10 ho1 rfl ?_
    refine V.iconst (v := nI 2) dX8_lay_13 (by decide) ?_
    refine V.iald dX8_lay_14 (hA1 3 (by omega) (by omega)).1 rfl (by omega) hD1.2.1.2.2.1 ?_
    refine V.if_neN 21 dX8_lay_15 (by decide) (by omega) (fun hc2 => ?_) (fun hc2 => ?_)
    · skip
      refine V.aload_n dX8_lay_21 rfl ?_
      refine V.callV (ci := 8) cX8_50 (m_lays g _ m F1 A1 hD1.1) dX8_lay_22 (Nat.le_of_ble_eq_true rfl) rfl ho1 rfl rfl (Nat.le_of_ble_eq_true rfl) (fun v_ h_ hp_ => ?_)
      obtain ⟨rfl, hw2, hf2⟩ := hp_
      dsimp only [Option.toList, List.nil_append]
      have ho2 := hw2.1
      have r2 := (hw2.2 2 (by omega) (by omega)).1
      rw [upA_n (by omega), upA_s] at r2
      refine V.aload_n dX8_lay_25 rfl ?_
      refine V.get fX8_13 dX8_lay_26 ho2 rfl ?_
      refine V.iconst (v := nI 2) dX8_lay_29 (by decide) ?_
      refine V.iald dX8_lay_30 r2 rfl (by omega) hD1.2.1.2.2.1 ?_
      have hyes : (readF (tT T)).1 = none ∧ 1 ≤ rN (readF (tT T)).2 := ⟨(eO_none hrr.2).mp hz9, by omega⟩
      refine V.iret dX8_lay_31 rfl ⟨by unfold a_lay; rw [if_pos hyes], ?_, hf1.tr hf2⟩
      unfold n_lay
      rw [if_pos hyes]
      refine ⟨_, _, ⟨hw2, ?_, ?_⟩, ?_, ?_, ?_, fun j hj => absurd hj (Nat.not_lt_zero _), ?_, fun j hj => absurd hj (Nat.not_lt_zero _), ?_, fun j hj => absurd hj (Nat.not_lt_zero _)⟩
      · rw [upA_n (by omega), upA_s]; exact hD1.2.1
      · rw [upA_s]; exact hD1.2.2.1
      · rw [upF_n (by omega), upF_n (by omega), upF_n (by omega), hfj1 0 (by omega)]; exact hF0
      · rw [upA_n (by omega), upA_n (by omega), hA1e 1 (by omega) (by omega)]; exact hTx
      · rw [upF_n (by omega), upF_n (by omega), upF_s]; rfl
      · rw [upF_n (by omega), upF_s]; rfl
      · rw [upF_s]; rfl
    · skip
      refine V.bipush (v := iI (-2)) dX8_lay_18 (by decide) ?_
      have hno : ¬ ((readF (tT T)).1 = none ∧ 1 ≤ rN (readF (tT T)).2) := fun u => by first | omega | exact hz9 ((eO_none hrr.2).mpr u.1)
      exact V.iret dX8_lay_20 rfl ⟨by unfold a_lay; rw [if_neg hno], by unfold n_lay; rw [if_neg hno]; exact hC1, hf1⟩
