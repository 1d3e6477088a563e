theorem upF_upF {F : MF} {i : Nat} {x y : Int32} : upF (upF F i x) i y = upF F i y := by
  funext j; unfold upF; split <;> rfl
theorem lzF_bd {tx : List Nat} (hlt : ∀ i, i < tx.length → tx.getD i 0 < 100000) (k : Nat) : -1 ≤ lzF tx k ∧ lzF tx k < 100000 := by
  unfold lzF
  split
  · next q => have := hlt k q; omega
  · omega
theorem MTx.f4 {h : VHp} {m : Nat} {F : MF} {A : MA} {tx : List Nat} (w : MTx h m F A tx) (z : Int32) : MTx (h.set m (Sum.inr (Sum.inr (8, [Value.ref (m + 1), Value.int (F 0), Value.ref (m + 2), Value.ref (m + 3), Value.ref (m + 4), Value.ref (m + 5), Value.ref (m + 6), Value.int (F 1), Value.ref (m + 7), Value.int (F 2), Value.ref (m + 8), Value.int (F 3), Value.int (z), Value.ref (m + 9), Value.ref (m + 10), Value.ref (m + 11)])))) m (upF F 4 z) A tx :=
  ⟨MRaw.f4 w.1 z, (upF_n (by omega)).trans w.2.1, w.2.2⟩
abbrev figZ (v : Int) : Prop := ((48 : Nat) : Int) ≤ v ∧ v ≤ ((57 : Nat) : Int)
/-- a number as the reference reads it: its worth or -1, and where it then is -/
def nuZ (tx : List Nat) (a : Nat) (lo hi : Int) (e : Nat) : Int × Nat :=
  if figZ (lzF tx a) then
    (if figZ (lzF tx (a + 1)) then
      (if (lo ≤ 10 * (lzF tx a - 48) + lzF tx (a + 1) - 48 ∧ 10 * (lzF tx a - 48) + lzF tx (a + 1) - 48 ≤ hi) ∧ lzF tx (a + 2) = (e : Int) then 10 * (lzF tx a - 48) + lzF tx (a + 1) - 48 else -1, a + 3)
    else (if (lo ≤ lzF tx a - 48 ∧ lzF tx a - 48 ≤ hi) ∧ lzF tx (a + 1) = (e : Int) then lzF tx a - 48 else -1, a + 2))
  else (-1, a)
def MNm (m : Nat) (F : MF) (A : MA) (r : Int × Nat) (h : VHp) : VPost := fun v h' => v = some (.int (iI r.1)) ∧ MRaw h' m (upF F 4 (nI r.2)) A ∧ VFr m (m + 1) h h'

theorem upF_id {F : MF} {i : Nat} : upF F i (F i) = F := by
  funext j; unfold upF; split
  · next q => rw [q]
  · rfl

set_option maxHeartbeats 1000000 in
theorem m_number (g : VG) (h : VHp) (m : Nat) (F : MF) (A : MA) (tx : List Nat) (hT : MTx h m F A tx) (a : Nat) (hF4 : F 4 = nI a) (ha : a < 900) (lo hi : Int) (e : Nat) (hlo : -1000 ≤ lo ∧ lo ≤ 1000) (hhi : -1000 ≤ hi ∧ hi ≤ 1000) (he : e < 1000) : VE g mX8_number 2 false (0, 0) [.ref m, .int (iI lo), .int (iI hi), .int (nI e)] h (MNm m F A (nuZ tx a lo hi e) h) := by
  obtain ⟨hw, hF0, hl, hTx, hlt⟩ := id hT
  obtain ⟨ho, hA⟩ := id hw
  have hz0 := lzF_bd hlt a
  have hz1 := lzF_bd hlt (a + 1)
  have hz2 := lzF_bd hlt (a + 2)
  refine VE.of (by decide) rfl (Nat.le_of_ble_eq_true rfl) ?_
  show V _ _ 0 [some (.ref m), some (.int (iI lo)), some (.int (iI hi)), some (.int (nI e)), none, none] [] h
  refine V.aload_n dX8_number_0 rfl ?_
  refine V.aload_n dX8_number_1 rfl ?_
  refine V.get fX8_61 dX8_number_2 ho rfl ?_
  refine V.re hF4 ?_
  refine V.callVp (ci := 8) cX8_64 (m_letterAt g _ m _ A tx hT a (by omega)) dX8_number_5 (Nat.le_of_ble_eq_true rfl) rfl ho rfl rfl (Nat.le_of_ble_eq_true rfl) ?_
  refine V.callSp cX8_68 (m_isFigure g _ _ (by omega)) dX8_number_8 (Nat.le_of_ble_eq_true rfl) rfl rfl (Nat.le_of_ble_eq_true rfl) ?_
  refine V.if_neB 16 dX8_number_11 (by decide) (fun hc1 => ?_) (fun hc1 => ?_)
  · skip
    refine V.aload_n dX8_number_16 rfl ?_
    refine V.aload_n dX8_number_17 rfl ?_
    refine V.get fX8_61 dX8_number_18 ho rfl ?_
    refine V.re hF4 ?_
    refine V.callVp (ci := 8) cX8_64 (m_letterAt g _ m _ A tx hT a (by omega)) dX8_number_21 (Nat.le_of_ble_eq_true rfl) rfl ho rfl rfl (Nat.le_of_ble_eq_true rfl) ?_
    refine V.bipush (v := nI 48) dX8_number_24 (by decide) ?_
    refine V.toZ1 ?_
    refine V.isubZ dX8_number_26 ?_
    refine V.istore dX8_number_27 rfl rfl ?_
    dsimp only [List.set]
    refine V.aload_n dX8_number_29 rfl ?_
    refine V.dup dX8_number_30 rfl ?_
    refine V.get fX8_61 dX8_number_31 ho rfl ?_
    refine V.re hF4 ?_
    refine V.iconst (v := nI 1) dX8_number_34 (by decide) ?_
    refine V.iaddN dX8_number_35 ?_
    refine V.re (y := nI (a + 1)) rfl ?_
    refine V.puti fX8_61 dX8_number_36 ho (Nat.le_of_ble_eq_true rfl) ?_
    dsimp only [List.set]
    have hT1 := MTx.f4 hT (nI (a + 1))
    have hfr1 := (VFr.set (h := h) (lo := m) (hi := m + 1) (a := m) (c := Sum.inr (Sum.inr (8, [Value.ref (m + 1), Value.int (F 0), Value.ref (m + 2), Value.ref (m + 3), Value.ref (m + 4), Value.ref (m + 5), Value.ref (m + 6), Value.int (F 1), Value.ref (m + 7), Value.int (F 2), Value.ref (m + 8), Value.int (F 3), Value.int (nI (a + 1)), Value.ref (m + 9), Value.ref (m + 10), Value.ref (m + 11)]))) (by omega) (by omega))
    generalize List.set h m (Sum.inr (Sum.inr (8, [Value.ref (m + 1), Value.int (F 0), Value.ref (m + 2), Value.ref (m + 3), Value.ref (m + 4), Value.ref (m + 5), Value.ref (m + 6), Value.int (F 1), Value.ref (m + 7), Value.int (F 2), Value.ref (m + 8), Value.int (F 3), Value.int (nI (a + 1)), Value.ref (m + 9), Value.ref (m + 10), Value.ref (m + 11)]))) = h1 at hT1 hfr1 ⊢
    have hF41 : upF F 4 (nI (a + 1)) 4 = nI (a + 1) := upF_s
    obtain ⟨F1, eF1⟩ : ∃ F', F' = upF F 4 (nI (a + 1)) := ⟨_, rfl⟩
    rw [← eF1] at hT1 hF41
    
    have ho1 := hT1.1.1
    refine V.aload_n dX8_number_39 rfl ?_
    refine V.aload_n dX8_number_40 rfl ?_
    refine V.get fX8_61 dX8_number_41 ho1 rfl ?_
    refine V.re hF41 ?_
    refine V.callVp (ci := 8) cX8_64 (m_letterAt g _ m _ A tx hT1 (a + 1) (by omega)) dX8_number_44 (Nat.le_of_ble_eq_true rfl) rfl ho1 rfl rfl (Nat.le_of_ble_eq_true rfl) ?_
    refine V.callSp cX8_68 (m_isFigure g _ _ (by omega)) dX8_number_47 (Nat.le_of_ble_eq_true rfl) rfl rfl (Nat.le_of_ble_eq_true rfl) ?_
    refine V.if_eqB 82 dX8_number_50 (by decide) (fun hc2 => ?_) (fun hc2 => ?_)
    · skip
      refine V.iload dX8_number_82 rfl ?_
      refine V.iload_n dX8_number_84 rfl ?_
      refine V.iload_n dX8_number_85 rfl ?_
      refine V.callSp cX8_53 (m_in g _ _ _ _ (by omega) (by omega) (by omega)) dX8_number_86 (Nat.le_of_ble_eq_true rfl) rfl rfl (Nat.le_of_ble_eq_true rfl) ?_
      refine V.if_eqB 108 dX8_number_89 (by decide) (fun hc3 => ?_) (fun hc3 => ?_)
      · skip
        refine V.iconst (v := nI 0) dX8_number_108 (by decide) ?_
        refine V.istore dX8_number_109 rfl rfl ?_
        dsimp only [List.set]
        refine V.aload_n dX8_number_111 rfl ?_
        refine V.dup dX8_number_112 rfl ?_
        refine V.get fX8_61 dX8_number_113 ho1 rfl ?_
        refine V.re hF41 ?_
        refine V.iconst (v := nI 1) dX8_number_116 (by decide) ?_
        refine V.iaddN dX8_number_117 ?_
        refine V.re (y := nI (a + 2)) rfl ?_
        refine V.puti fX8_61 dX8_number_118 ho1 (Nat.le_of_ble_eq_true rfl) ?_
        dsimp only [List.set]
        have hT2 := MTx.f4 hT1 (nI (a + 2))
        have hfr2 := hfr1.tr (VFr.set (h := h1) (lo := m) (hi := m + 1) (a := m) (c := Sum.inr (Sum.inr (8, [Value.ref (m + 1), Value.int (F1 0), Value.ref (m + 2), Value.ref (m + 3), Value.ref (m + 4), Value.ref (m + 5), Value.ref (m + 6), Value.int (F1 1), Value.ref (m + 7), Value.int (F1 2), Value.ref (m + 8), Value.int (F1 3), Value.int (nI (a + 2)), Value.ref (m + 9), Value.ref (m + 10), Value.ref (m + 11)]))) (by omega) (by omega))
        generalize List.set h1 m (Sum.inr (Sum.inr (8, [Value.ref (m + 1), Value.int (F1 0), Value.ref (m + 2), Value.ref (m + 3), Value.ref (m + 4), Value.ref (m + 5), Value.ref (m + 6), Value.int (F1 1), Value.ref (m + 7), Value.int (F1 2), Value.ref (m + 8), Value.int (F1 3), Value.int (nI (a + 2)), Value.ref (m + 9), Value.ref (m + 10), Value.ref (m + 11)]))) = h2 at hT2 hfr2 ⊢
        have hF42 : upF F1 4 (nI (a + 2)) 4 = nI (a + 2) := upF_s
        obtain ⟨F2, eF2⟩ : ∃ F', F' = upF F1 4 (nI (a + 2)) := ⟨_, rfl⟩
        rw [← eF2] at hT2 hF42
        rw [eF1, upF_upF] at eF2
        have ho2 := hT2.1.1
        refine V.iload dX8_number_121 rfl ?_
        refine V.if_eqN 131 dX8_number_123 (by decide) (by omega) (fun hc4 => ?_) (fun hc4 => ?_)
        · skip
          refine V.iconst (v := iI (-1)) dX8_number_131 (by decide) ?_
          exact V.iret dX8_number_132 rfl ⟨by unfold nuZ; (repeat first | rw [if_pos (by first | omega | assumption)] | rw [if_neg (by first | omega | assumption)]); try rfl, by unfold nuZ; (repeat first | rw [if_pos (by first | omega | assumption)] | rw [if_neg (by first | omega | assumption)]); show MRaw _ m (upF F 4 (nI (a + 2))) A; rw [← eF2]; exact hT2.1, hfr2⟩
        · exact absurd hc4 (by omega)
      · skip
        refine V.aload_n dX8_number_92 rfl ?_
        refine V.aload_n dX8_number_93 rfl ?_
        refine V.get fX8_61 dX8_number_94 ho1 rfl ?_
        refine V.re hF41 ?_
        refine V.callVp (ci := 8) cX8_64 (m_letterAt g _ m _ A tx hT1 (a + 1) (by omega)) dX8_number_97 (Nat.le_of_ble_eq_true rfl) rfl ho1 rfl rfl (Nat.le_of_ble_eq_true rfl) ?_
        refine V.iload_n dX8_number_100 rfl ?_
        refine V.toZ1 ?_
        refine V.icmp_neZ 108 dX8_number_101 (by decide) (by omega) (by omega) (fun hc5 => ?_) (fun hc5 => ?_)
        · skip
          refine V.iconst (v := nI 0) dX8_number_108 (by decide) ?_
          refine V.istore dX8_number_109 rfl rfl ?_
          dsimp only [List.set]
          refine V.aload_n dX8_number_111 rfl ?_
          refine V.dup dX8_number_112 rfl ?_
          refine V.get fX8_61 dX8_number_113 ho1 rfl ?_
          refine V.re hF41 ?_
          refine V.iconst (v := nI 1) dX8_number_116 (by decide) ?_
          refine V.iaddN dX8_number_117 ?_
          refine V.re (y := nI (a + 2)) rfl ?_
          refine V.puti fX8_61 dX8_number_118 ho1 (Nat.le_of_ble_eq_true rfl) ?_
          dsimp only [List.set]
          have hT2 := MTx.f4 hT1 (nI (a + 2))
          have hfr2 := hfr1.tr (VFr.set (h := h1) (lo := m) (hi := m + 1) (a := m) (c := Sum.inr (Sum.inr (8, [Value.ref (m + 1), Value.int (F1 0), Value.ref (m + 2), Value.ref (m + 3), Value.ref (m + 4), Value.ref (m + 5), Value.ref (m + 6), Value.int (F1 1), Value.ref (m + 7), Value.int (F1 2), Value.ref (m + 8), Value.int (F1 3), Value.int (nI (a + 2)), Value.ref (m + 9), Value.ref (m + 10), Value.ref (m + 11)]))) (by omega) (by omega))
          generalize List.set h1 m (Sum.inr (Sum.inr (8, [Value.ref (m + 1), Value.int (F1 0), Value.ref (m + 2), Value.ref (m + 3), Value.ref (m + 4), Value.ref (m + 5), Value.ref (m + 6), Value.int (F1 1), Value.ref (m + 7), Value.int (F1 2), Value.ref (m + 8), Value.int (F1 3), Value.int (nI (a + 2)), Value.ref (m + 9), Value.ref (m + 10), Value.ref (m + 11)]))) = h2 at hT2 hfr2 ⊢
          have hF42 : upF F1 4 (nI (a + 2)) 4 = nI (a + 2) := upF_s
          obtain ⟨F2, eF2⟩ : ∃ F', F' = upF F1 4 (nI (a + 2)) := ⟨_, rfl⟩
          rw [← eF2] at hT2 hF42
          rw [eF1, upF_upF] at eF2
          have ho2 := hT2.1.1
          refine V.iload dX8_number_121 rfl ?_
          refine V.if_eqN 131 dX8_number_123 (by decide) (by omega) (fun hc6 => ?_) (fun hc6 => ?_)
          · skip
            refine V.iconst (v := iI (-1)) dX8_number_131 (by decide) ?_
            exact V.iret dX8_number_132 rfl ⟨by unfold nuZ; (repeat first | rw [if_pos (by first | omega | assumption)] | rw [if_neg (by first | omega | assumption)]); try rfl, by unfold nuZ; (repeat first | rw [if_pos (by first | omega | assumption)] | rw [if_neg (by first | omega | assumption)]); show MRaw _ m (upF F 4 (nI (a + 2))) A; rw [← eF2]; exact hT2.1, hfr2⟩
          · exact absurd hc6 (by omega)
        · skip
          refine V.iconst (v := nI 1) dX8_number_104 (by decide) ?_
          refine V.goto 109 dX8_number_105 (by decide) ?_
          refine V.istore dX8_number_109 rfl rfl ?_
          dsimp only [List.set]
          refine V.aload_n dX8_number_111 rfl ?_
          refine V.dup dX8_number_112 rfl ?_
          refine V.get fX8_61 dX8_number_113 ho1 rfl ?_
          refine V.re hF41 ?_
          refine V.iconst (v := nI 1) dX8_number_116 (by decide) ?_
          refine V.iaddN dX8_number_117 ?_
          refine V.re (y := nI (a + 2)) rfl ?_
          refine V.puti fX8_61 dX8_number_118 ho1 (Nat.le_of_ble_eq_true rfl) ?_
          dsimp only [List.set]
          have hT2 := MTx.f4 hT1 (nI (a + 2))
          have hfr2 := hfr1.tr (VFr.set (h := h1) (lo := m) (hi := m + 1) (a := m) (c := Sum.inr (Sum.inr (8, [Value.ref (m + 1), Value.int (F1 0), Value.ref (m + 2), Value.ref (m + 3), Value.ref (m + 4), Value.ref (m + 5), Value.ref (m + 6), Value.int (F1 1), Value.ref (m + 7), Value.int (F1 2), Value.ref (m + 8), Value.int (F1 3), Value.int (nI (a + 2)), Value.ref (m + 9), Value.ref (m + 10), Value.ref (m + 11)]))) (by omega) (by omega))
          generalize List.set h1 m (Sum.inr (Sum.inr (8, [Value.ref (m + 1), Value.int (F1 0), Value.ref (m + 2), Value.ref (m + 3), Value.ref (m + 4), Value.ref (m + 5), Value.ref (m + 6), Value.int (F1 1), Value.ref (m + 7), Value.int (F1 2), Value.ref (m + 8), Value.int (F1 3), Value.int (nI (a + 2)), Value.ref (m + 9), Value.ref (m + 10), Value.ref (m + 11)]))) = h2 at hT2 hfr2 ⊢
          have hF42 : upF F1 4 (nI (a + 2)) 4 = nI (a + 2) := upF_s
          obtain ⟨F2, eF2⟩ : ∃ F', F' = upF F1 4 (nI (a + 2)) := ⟨_, rfl⟩
          rw [← eF2] at hT2 hF42
          rw [eF1, upF_upF] at eF2
          have ho2 := hT2.1.1
          refine V.iload dX8_number_121 rfl ?_
          refine V.if_eqN 131 dX8_number_123 (by decide) (by omega) (fun hc7 => ?_) (fun hc7 => ?_)
          · exact absurd hc7 (by omega)
          · skip
            refine V.iload dX8_number_126 rfl ?_
            refine V.goto 132 dX8_number_128 (by decide) ?_
            exact V.iret dX8_number_132 rfl ⟨by unfold nuZ; (repeat first | rw [if_pos (by first | omega | assumption)] | rw [if_neg (by first | omega | assumption)]); try rfl, by unfold nuZ; (repeat first | rw [if_pos (by first | omega | assumption)] | rw [if_neg (by first | omega | assumption)]); show MRaw _ m (upF F 4 (nI (a + 2))) A; rw [← eF2]; exact hT2.1, hfr2⟩
    · skip
      refine V.bipush (v := nI 10) dX8_number_53 (by decide) ?_
      refine V.iload dX8_number_55 rfl ?_
      refine V.toZ2 ?_
      refine V.imulZ dX8_number_57 ?_
      refine V.aload_n dX8_number_58 rfl ?_
      refine V.aload_n dX8_number_59 rfl ?_
      refine V.get fX8_61 dX8_number_60 ho1 rfl ?_
      refine V.re hF41 ?_
      refine V.callVp (ci := 8) cX8_64 (m_letterAt g _ m _ A tx hT1 (a + 1) (by omega)) dX8_number_63 (Nat.le_of_ble_eq_true rfl) rfl ho1 rfl rfl (Nat.le_of_ble_eq_true rfl) ?_
      refine V.iaddZ dX8_number_66 ?_
      refine V.bipush (v := nI 48) dX8_number_67 (by decide) ?_
      refine V.toZ1 ?_
      refine V.isubZ dX8_number_69 ?_
      refine V.istore dX8_number_70 rfl rfl ?_
      dsimp only [List.set]
      refine V.aload_n dX8_number_72 rfl ?_
      refine V.dup dX8_number_73 rfl ?_
      refine V.get fX8_61 dX8_number_74 ho1 rfl ?_
      refine V.re hF41 ?_
      refine V.iconst (v := nI 1) dX8_number_77 (by decide) ?_
      refine V.iaddN dX8_number_78 ?_
      refine V.re (y := nI (a + 2)) rfl ?_
      refine V.puti fX8_61 dX8_number_79 ho1 (Nat.le_of_ble_eq_true rfl) ?_
      dsimp only [List.set]
      have hT2 := MTx.f4 hT1 (nI (a + 2))
      have hfr2 := hfr1.tr (VFr.set (h := h1) (lo := m) (hi := m + 1) (a := m) (c := Sum.inr (Sum.inr (8, [Value.ref (m + 1), Value.int (F1 0), Value.ref (m + 2), Value.ref (m + 3), Value.ref (m + 4), Value.ref (m + 5), Value.ref (m + 6), Value.int (F1 1), Value.ref (m + 7), Value.int (F1 2), Value.ref (m + 8), Value.int (F1 3), Value.int (nI (a + 2)), Value.ref (m + 9), Value.ref (m + 10), Value.ref (m + 11)]))) (by omega) (by omega))
      generalize List.set h1 m (Sum.inr (Sum.inr (8, [Value.ref (m + 1), Value.int (F1 0), Value.ref (m + 2), Value.ref (m + 3), Value.ref (m + 4), Value.ref (m + 5), Value.ref (m + 6), Value.int (F1 1), Value.ref (m + 7), Value.int (F1 2), Value.ref (m + 8), Value.int (F1 3), Value.int (nI (a + 2)), Value.ref (m + 9), Value.ref (m + 10), Value.ref (m + 11)]))) = h2 at hT2 hfr2 ⊢
      have hF42 : upF F1 4 (nI (a + 2)) 4 = nI (a + 2) := upF_s
      obtain ⟨F2, eF2⟩ : ∃ F', F' = upF F1 4 (nI (a + 2)) := ⟨_, rfl⟩
      rw [← eF2] at hT2 hF42
      rw [eF1, upF_upF] at eF2
      have ho2 := hT2.1.1
      refine V.iload dX8_number_82 rfl ?_
      refine V.iload_n dX8_number_84 rfl ?_
      refine V.iload_n dX8_number_85 rfl ?_
      refine V.callSp cX8_53 (m_in g _ _ _ _ (by omega) (by omega) (by omega)) dX8_number_86 (Nat.le_of_ble_eq_true rfl) rfl rfl (Nat.le_of_ble_eq_true rfl) ?_
      refine V.if_eqB 108 dX8_number_89 (by decide) (fun hc8 => ?_) (fun hc8 => ?_)
      · skip
        refine V.iconst (v := nI 0) dX8_number_108 (by decide) ?_
        refine V.istore dX8_number_109 rfl rfl ?_
        dsimp only [List.set]
        refine V.aload_n dX8_number_111 rfl ?_
        refine V.dup dX8_number_112 rfl ?_
        refine V.get fX8_61 dX8_number_113 ho2 rfl ?_
        refine V.re hF42 ?_
        refine V.iconst (v := nI 1) dX8_number_116 (by decide) ?_
        refine V.iaddN dX8_number_117 ?_
        refine V.re (y := nI (a + 3)) rfl ?_
        refine V.puti fX8_61 dX8_number_118 ho2 (Nat.le_of_ble_eq_true rfl) ?_
        dsimp only [List.set]
        have hT3 := MTx.f4 hT2 (nI (a + 3))
        have hfr3 := hfr2.tr (VFr.set (h := h2) (lo := m) (hi := m + 1) (a := m) (c := Sum.inr (Sum.inr (8, [Value.ref (m + 1), Value.int (F2 0), Value.ref (m + 2), Value.ref (m + 3), Value.ref (m + 4), Value.ref (m + 5), Value.ref (m + 6), Value.int (F2 1), Value.ref (m + 7), Value.int (F2 2), Value.ref (m + 8), Value.int (F2 3), Value.int (nI (a + 3)), Value.ref (m + 9), Value.ref (m + 10), Value.ref (m + 11)]))) (by omega) (by omega))
        generalize List.set h2 m (Sum.inr (Sum.inr (8, [Value.ref (m + 1), Value.int (F2 0), Value.ref (m + 2), Value.ref (m + 3), Value.ref (m + 4), Value.ref (m + 5), Value.ref (m + 6), Value.int (F2 1), Value.ref (m + 7), Value.int (F2 2), Value.ref (m + 8), Value.int (F2 3), Value.int (nI (a + 3)), Value.ref (m + 9), Value.ref (m + 10), Value.ref (m + 11)]))) = h3 at hT3 hfr3 ⊢
        have hF43 : upF F2 4 (nI (a + 3)) 4 = nI (a + 3) := upF_s
        obtain ⟨F3, eF3⟩ : ∃ F', F' = upF F2 4 (nI (a + 3)) := ⟨_, rfl⟩
        rw [← eF3] at hT3 hF43
        rw [eF2, upF_upF] at eF3
        have ho3 := hT3.1.1
        refine V.iload dX8_number_121 rfl ?_
        refine V.if_eqN 131 dX8_number_123 (by decide) (by omega) (fun hc9 => ?_) (fun hc9 => ?_)
        · skip
          refine V.iconst (v := iI (-1)) dX8_number_131 (by decide) ?_
          exact V.iret dX8_number_132 rfl ⟨by unfold nuZ; (repeat first | rw [if_pos (by first | omega | assumption)] | rw [if_neg (by first | omega | assumption)]); try rfl, by unfold nuZ; (repeat first | rw [if_pos (by first | omega | assumption)] | rw [if_neg (by first | omega | assumption)]); show MRaw _ m (upF F 4 (nI (a + 3))) A; rw [← eF3]; exact hT3.1, hfr3⟩
        · exact absurd hc9 (by omega)
      · skip
        refine V.aload_n dX8_number_92 rfl ?_
        refine V.aload_n dX8_number_93 rfl ?_
        refine V.get fX8_61 dX8_number_94 ho2 rfl ?_
        refine V.re hF42 ?_
        refine V.callVp (ci := 8) cX8_64 (m_letterAt g _ m _ A tx hT2 (a + 2) (by omega)) dX8_number_97 (Nat.le_of_ble_eq_true rfl) rfl ho2 rfl rfl (Nat.le_of_ble_eq_true rfl) ?_
        refine V.iload_n dX8_number_100 rfl ?_
        refine V.toZ1 ?_
        refine V.icmp_neZ 108 dX8_number_101 (by decide) (by omega) (by omega) (fun hc10 => ?_) (fun hc10 => ?_)
        · skip
          refine V.iconst (v := nI 0) dX8_number_108 (by decide) ?_
          refine V.istore dX8_number_109 rfl rfl ?_
          dsimp only [List.set]
          refine V.aload_n dX8_number_111 rfl ?_
          refine V.dup dX8_number_112 rfl ?_
          refine V.get fX8_61 dX8_number_113 ho2 rfl ?_
          refine V.re hF42 ?_
          refine V.iconst (v := nI 1) dX8_number_116 (by decide) ?_
          refine V.iaddN dX8_number_117 ?_
          refine V.re (y := nI (a + 3)) rfl ?_
          refine V.puti fX8_61 dX8_number_118 ho2 (Nat.le_of_ble_eq_true rfl) ?_
          dsimp only [List.set]
          have hT3 := MTx.f4 hT2 (nI (a + 3))
          have hfr3 := hfr2.tr (VFr.set (h := h2) (lo := m) (hi := m + 1) (a := m) (c := Sum.inr (Sum.inr (8, [Value.ref (m + 1), Value.int (F2 0), Value.ref (m + 2), Value.ref (m + 3), Value.ref (m + 4), Value.ref (m + 5), Value.ref (m + 6), Value.int (F2 1), Value.ref (m + 7), Value.int (F2 2), Value.ref (m + 8), Value.int (F2 3), Value.int (nI (a + 3)), Value.ref (m + 9), Value.ref (m + 10), Value.ref (m + 11)]))) (by omega) (by omega))
          generalize List.set h2 m (Sum.inr (Sum.inr (8, [Value.ref (m + 1), Value.int (F2 0), Value.ref (m + 2), Value.ref (m + 3), Value.ref (m + 4), Value.ref (m + 5), Value.ref (m + 6), Value.int (F2 1), Value.ref (m + 7), Value.int (F2 2), Value.ref (m + 8), Value.int (F2 3), Value.int (nI (a + 3)), Value.ref (m + 9), Value.ref (m + 10), Value.ref (m + 11)]))) = h3 at hT3 hfr3 ⊢
          have hF43 : upF F2 4 (nI (a + 3)) 4 = nI (a + 3) := upF_s
          obtain ⟨F3, eF3⟩ : ∃ F', F' = upF F2 4 (nI (a + 3)) := ⟨_, rfl⟩
          rw [← eF3] at hT3 hF43
          rw [eF2, upF_upF] at eF3
          have ho3 := hT3.1.1
          refine V.iload dX8_number_121 rfl ?_
          refine V.if_eqN 131 dX8_number_123 (by decide) (by omega) (fun hc11 => ?_) (fun hc11 => ?_)
          · skip
            refine V.iconst (v := iI (-1)) dX8_number_131 (by decide) ?_
            exact V.iret dX8_number_132 rfl ⟨by unfold nuZ; (repeat first | rw [if_pos (by first | omega | assumption)] | rw [if_neg (by first | omega | assumption)]); try rfl, by unfold nuZ; (repeat first | rw [if_pos (by first | omega | assumption)] | rw [if_neg (by first | omega | assumption)]); show MRaw _ m (upF F 4 (nI (a + 3))) A; rw [← eF3]; exact hT3.1, hfr3⟩
          · exact absurd hc11 (by omega)
        · skip
          refine V.iconst (v := nI 1) dX8_number_104 (by decide) ?_
          refine V.goto 109 dX8_number_105 (by decide) ?_
          refine V.istore dX8_number_109 rfl rfl ?_
          dsimp only [List.set]
          refine V.aload_n dX8_number_111 rfl ?_
          refine V.dup dX8_number_112 rfl ?_
          refine V.get fX8_61 dX8_number_113 ho2 rfl ?_
          refine V.re hF42 ?_
          refine V.iconst (v := nI 1) dX8_number_116 (by decide) ?_
          refine V.iaddN dX8_number_117 ?_
          refine V.re (y := nI (a + 3)) rfl ?_
          refine V.puti fX8_61 dX8_number_118 ho2 (Nat.le_of_ble_eq_true rfl) ?_
          dsimp only [List.set]
          have hT3 := MTx.f4 hT2 (nI (a + 3))
          have hfr3 := hfr2.tr (VFr.set (h := h2) (lo := m) (hi := m + 1) (a := m) (c := Sum.inr (Sum.inr (8, [Value.ref (m + 1), Value.int (F2 0), Value.ref (m + 2), Value.ref (m + 3), Value.ref (m + 4), Value.ref (m + 5), Value.ref (m + 6), Value.int (F2 1), Value.ref (m + 7), Value.int (F2 2), Value.ref (m + 8), Value.int (F2 3), Value.int (nI (a + 3)), Value.ref (m + 9), Value.ref (m + 10), Value.ref (m + 11)]))) (by omega) (by omega))
          generalize List.set h2 m (Sum.inr (Sum.inr (8, [Value.ref (m + 1), Value.int (F2 0), Value.ref (m + 2), Value.ref (m + 3), Value.ref (m + 4), Value.ref (m + 5), Value.ref (m + 6), Value.int (F2 1), Value.ref (m + 7), Value.int (F2 2), Value.ref (m + 8), Value.int (F2 3), Value.int (nI (a + 3)), Value.ref (m + 9), Value.ref (m + 10), Value.ref (m + 11)]))) = h3 at hT3 hfr3 ⊢
          have hF43 : upF F2 4 (nI (a + 3)) 4 = nI (a + 3) := upF_s
          obtain ⟨F3, eF3⟩ : ∃ F', F' = upF F2 4 (nI (a + 3)) := ⟨_, rfl⟩
          rw [← eF3] at hT3 hF43
          rw [eF2, upF_upF] at eF3
          have ho3 := hT3.1.1
          refine V.iload dX8_number_121 rfl ?_
          refine V.if_eqN 131 dX8_number_123 (by decide) (by omega) (fun hc12 => ?_) (fun hc12 => ?_)
          · exact absurd hc12 (by omega)
          · skip
            refine V.iload dX8_number_126 rfl ?_
            refine V.goto 132 dX8_number_128 (by decide) ?_
            exact V.iret dX8_number_132 rfl ⟨by unfold nuZ; (repeat first | rw [if_pos (by first | omega | assumption)] | rw [if_neg (by first | omega | assumption)]); try rfl, by unfold nuZ; (repeat first | rw [if_pos (by first | omega | assumption)] | rw [if_neg (by first | omega | assumption)]); show MRaw _ m (upF F 4 (nI (a + 3))) A; rw [← eF3]; exact hT3.1, hfr3⟩
  · skip
    refine V.iconst (v := iI (-1)) dX8_number_14 (by decide) ?_
    exact V.iret dX8_number_15 rfl ⟨by unfold nuZ; (repeat first | rw [if_pos (by first | omega | assumption)] | rw [if_neg (by first | omega | assumption)]), by unfold nuZ; (repeat first | rw [if_pos (by first | omega | assumption)] | rw [if_neg (by first | omega | assumption)]); show MRaw _ m (upF F 4 (nI a)) A; rw [← hF4, upF_id]; exact hw, VFr.rf⟩
