theorem cntP_zero {P : Nat → Prop} [DecidablePred P] {a : Nat} : ∀ b, (∀ i, a ≤ i → i < a + b → ¬ P i) → cntP P (a + b) = cntP P a
  | 0, _ => rfl
  | b + 1, hz => by rw [show a + (b + 1) = (a + b) + 1 from rfl, cntP_neg (hz (a + b) (by omega) (by omega))]; exact cntP_zero b (fun i h1 h2 => hz i h1 (by omega))
theorem cntP_zero' {P : Nat → Prop} [DecidablePred P] {a b : Nat} (hab : a ≤ b) (hz : ∀ i, a ≤ i → i < b → ¬ P i) : cntP P b = cntP P a := by
  obtain ⟨d, rfl⟩ : ∃ d, b = a + d := ⟨b - a, by omega⟩
  exact cntP_zero d hz

set_option maxHeartbeats 1000000 in
theorem r_count (g : VG) (h : VHp) (m : Nat) (T : Sy) (hC : MAt h m T) (hO : SyOk T) (w : Int) (hw0 : -2147483648 ≤ w ∧ w < 2147483648) : VE g mX8_count 4 false (0, 0) [.ref m, .int (iI w)] h (VP (a_count T w) h) := by
  obtain ⟨F, A, hM, hAll⟩ := id hC
  obtain ⟨hF0, hTx, hF1, hPa, hF2, hKe, hF3, hNo⟩ := id hAll
  obtain ⟨hOt, hOs, hOn, hOp, hOk, hOns, hOpk, hOkk⟩ := id hO
  have hB := hOs.1
  have hD := hOs.2.1
  have hnl := hOns.1
  have htl := hOt.1
  obtain ⟨hw, ⟨et0, et1, et2, ek⟩, es0, ev, ex, ey, eL⟩ := id hM
  obtain ⟨ho, hA⟩ := id hw
  obtain ⟨bn, bW, bH, bP, bL⟩ := id hB
  refine VE.of (by decide) rfl (Nat.le_of_ble_eq_true rfl) ?_
  have hZ := hOs.2.2
  have hnn : rN (tS T) ≤ 6 := hB.1
  have hdl : ∀ i w, draftF (tS T) i = some w → w < 1000 := fun i w z => by have := draftF_lt z; omega
  have L : ∀ p, p ≤ rN (tS T) → ∀ v5 : Option Value, V (g, mX8_count, 4, false, h.length, VP (a_count T w) h) (0, 0) 7 [some (.ref m), some (.int (iI w)), some (.int (nI (cntP (fun i => draftF (tS T) i ≠ none) p))), some (.int (nI (cntP (fun i => rL (tS T) (i / 6) (i % 6) ≠ 0) (6 * p)))), some (.int (nI p)), v5] [] h := by
    refine vloop (rN (tS T)) (fun p ih hi => ?_)
    intro v5
    have hb1 := cntP_le (P := (fun i => draftF (tS T) i ≠ none)) p
    have hb2 := cntP_le (P := (fun i => rL (tS T) (i / 6) (i % 6) ≠ 0)) (6 * p)
    have LI : p < rN (tS T) → ∀ q, q ≤ rN (tS T) → V (g, mX8_count, 4, false, h.length, VP (a_count T w) h) (0, 0) 40 [some (.ref m), some (.int (iI w)), some (.int (nI (cntP (fun i => draftF (tS T) i ≠ none) (p + 1)))), some (.int (nI (cntP (fun i => rL (tS T) (i / 6) (i % 6) ≠ 0) (6 * p + q)))), some (.int (nI p)), some (.int (nI q))] [] h := by
      intro hpn
      refine vloop (rN (tS T)) (fun q ih2 hj => ?_)
      have hb3 := cntP_le (P := (fun i => rL (tS T) (i / 6) (i % 6) ≠ 0)) (6 * p + q)
      have hd6 : q < 6 → (6 * p + q) / 6 = p ∧ (6 * p + q) % 6 = q := fun _ => ⟨by omega, by omega⟩
      have bl := bL p q
      refine V.iload dX8_count_40 rfl ?_
      refine V.aload_n dX8_count_42 rfl ?_
      refine V.get fX8_13 dX8_count_43 ho rfl ?_
      refine V.iconst (v := nI 2) dX8_count_46 (by decide) ?_
      refine V.iald dX8_count_47 (hA 2 (by omega) (by omega)).1 rfl (by omega) et2 ?_
      refine V.icmp_geN 84 dX8_count_48 (by decide) (by omega) (by omega) (fun hc1 => ?_) (fun hc1 => ?_)
      · skip
        refine V.iincN (n := 1) dX8_count_84 rfl rfl rfl ?_
        dsimp only [List.set]
        refine V.goto 7 dX8_count_87 (by decide) ?_
        obtain rfl : q = rN (tS T) := (by omega)
        have z := fun a => ih (p + 1) (by omega) (by omega) a
        rw [cntP_zero' (P := (fun i => rL (tS T) (i / 6) (i % 6) ≠ 0)) (a := 6 * p + rN (tS T)) (b := 6 * (p + 1)) (by omega) (fun i h1 h2 z => z (hZ _ _ (by omega)))] at z
        exact z _
      · skip
        refine V.iload_n dX8_count_51 rfl ?_
        refine V.aload_n dX8_count_52 rfl ?_
        refine V.get fX8_22 dX8_count_53 ho rfl ?_
        refine V.bipush (v := nI 19) dX8_count_56 (by decide) ?_
        refine V.bipush (v := nI 6) dX8_count_58 (by decide) ?_
        refine V.iload dX8_count_60 rfl ?_
        refine V.imulN dX8_count_62 ?_
        refine V.iaddN dX8_count_63 ?_
        refine V.iload dX8_count_64 rfl ?_
        refine V.iaddN dX8_count_66 ?_
        refine V.iald dX8_count_67 (hA 5 (by omega) (by omega)).1 rfl (by omega) (eL _ _ (by omega) (by omega)) ?_
        refine V.if_neZ 75 dX8_count_68 (by decide) (by omega) (fun hc2 => ?_) (fun hc2 => ?_)
        · skip
          refine V.iconst (v := nI 1) dX8_count_75 (by decide) ?_
          refine V.iaddN dX8_count_76 ?_
          refine V.istore_n (i := 3) dX8_count_77 rfl rfl rfl ?_
          dsimp only [List.set]
          refine V.iincN (n := 1) dX8_count_78 rfl rfl rfl ?_
          dsimp only [List.set]
          refine V.goto 40 dX8_count_81 (by decide) ?_
          have z := ih2 (q + 1) (by omega) (by omega)
          obtain ⟨hd1, hd2⟩ := hd6 (by omega)
          first | (rw [show 6 * p + (q + 1) = (6 * p + q) + 1 from rfl, cntP_pos (P := (fun i => rL (tS T) (i / 6) (i % 6) ≠ 0)) (n := 6 * p + q) (by show rL (tS T) ((6 * p + q) / 6) ((6 * p + q) % 6) ≠ 0; rw [hd1, hd2]; omega)] at z; exact z) | (rw [show 6 * p + (q + 1) = (6 * p + q) + 1 from rfl, cntP_neg (P := (fun i => rL (tS T) (i / 6) (i % 6) ≠ 0)) (n := 6 * p + q) (by show ¬ (rL (tS T) ((6 * p + q) / 6) ((6 * p + q) % 6) ≠ 0); rw [hd1, hd2]; omega)] at z; exact z)
        · skip
          refine V.iconst (v := nI 0) dX8_count_71 (by decide) ?_
          refine V.goto 76 dX8_count_72 (by decide) ?_
          refine V.iaddN dX8_count_76 ?_
          refine V.istore_n (i := 3) dX8_count_77 rfl rfl rfl ?_
          dsimp only [List.set]
          refine V.iincN (n := 1) dX8_count_78 rfl rfl rfl ?_
          dsimp only [List.set]
          refine V.goto 40 dX8_count_81 (by decide) ?_
          have z := ih2 (q + 1) (by omega) (by omega)
          obtain ⟨hd1, hd2⟩ := hd6 (by omega)
          first | (rw [show 6 * p + (q + 1) = (6 * p + q) + 1 from rfl, cntP_pos (P := (fun i => rL (tS T) (i / 6) (i % 6) ≠ 0)) (n := 6 * p + q) (by show rL (tS T) ((6 * p + q) / 6) ((6 * p + q) % 6) ≠ 0; rw [hd1, hd2]; omega)] at z; exact z) | (rw [show 6 * p + (q + 1) = (6 * p + q) + 1 from rfl, cntP_neg (P := (fun i => rL (tS T) (i / 6) (i % 6) ≠ 0)) (n := 6 * p + q) (by show ¬ (rL (tS T) ((6 * p + q) / 6) ((6 * p + q) % 6) ≠ 0); rw [hd1, hd2]; omega)] at z; exact z)
    refine V.iload dX8_count_7 rfl ?_
    refine V.aload_n dX8_count_9 rfl ?_
    refine V.get fX8_13 dX8_count_10 ho rfl ?_
    refine V.iconst (v := nI 2) dX8_count_13 (by decide) ?_
    refine V.iald dX8_count_14 (hA 2 (by omega) (by omega)).1 rfl (by omega) et2 ?_
    refine V.icmp_geN 90 dX8_count_15 (by decide) (by omega) (by omega) (fun hc1 => ?_) (fun hc1 => ?_)
    · skip
      obtain rfl : p = rN (tS T) := (by omega)
      rw [← cntP_zero' (P := (fun i => rL (tS T) (i / 6) (i % 6) ≠ 0)) (a := 6 * rN (tS T)) (b := 36) (by omega) (fun i h1 h2 z => z (hZ _ _ (by omega)))]
      have hb4 := cntP_le (P := (fun i => rL (tS T) (i / 6) (i % 6) ≠ 0)) 36
      refine V.iload_n dX8_count_90 rfl ?_
      rcases (show w = 0 ∨ w = 1 ∨ w = 2 ∨ w = 3 ∨ w = 4 ∨ w = 5 ∨ w = 6 ∨ w = 7 ∨ w = 8 ∨ w = 9 ∨ (w < 0 ∨ 9 < w) by omega) with hq | hq | hq | hq | hq | hq | hq | hq | hq | hq | hq
      · skip
        subst hq
        refine V.tabIn (off := 53) 144 dX8_count_91 (by decide) (by decide) (by decide) (by decide) ?_
        refine V.aload_n dX8_count_144 rfl ?_
        refine V.get fX8_13 dX8_count_145 ho rfl ?_
        refine V.iconst (v := nI 0) dX8_count_148 (by decide) ?_
        refine V.iald dX8_count_149 (hA 2 (by omega) (by omega)).1 rfl (by omega) et0 ?_
        exact V.iret dX8_count_150 rfl ⟨by unfold a_count; first | rfl | ((repeat first | rw [if_pos (by first | omega | assumption)] | rw [if_neg (by first | omega | assumption)]); first | done | rfl | assumption), rfl⟩
      · skip
        subst hq
        refine V.tabIn (off := 60) 151 dX8_count_91 (by decide) (by decide) (by decide) (by decide) ?_
        refine V.aload_n dX8_count_151 rfl ?_
        refine V.get fX8_13 dX8_count_152 ho rfl ?_
        refine V.iconst (v := nI 1) dX8_count_155 (by decide) ?_
        refine V.iald dX8_count_156 (hA 2 (by omega) (by omega)).1 rfl (by omega) et1 ?_
        exact V.iret dX8_count_157 rfl ⟨by unfold a_count; first | rfl | ((repeat first | rw [if_pos (by first | omega | assumption)] | rw [if_neg (by first | omega | assumption)]); first | done | rfl | assumption), rfl⟩
      · skip
        subst hq
        refine V.tabIn (off := 67) 158 dX8_count_91 (by decide) (by decide) (by decide) (by decide) ?_
        refine V.aload_n dX8_count_158 rfl ?_
        refine V.get fX8_13 dX8_count_159 ho rfl ?_
        refine V.iconst (v := nI 2) dX8_count_162 (by decide) ?_
        refine V.iald dX8_count_163 (hA 2 (by omega) (by omega)).1 rfl (by omega) et2 ?_
        exact V.iret dX8_count_164 rfl ⟨by unfold a_count; first | rfl | ((repeat first | rw [if_pos (by first | omega | assumption)] | rw [if_neg (by first | omega | assumption)]); first | done | rfl | assumption), rfl⟩
      · skip
        subst hq
        refine V.tabIn (off := 74) 165 dX8_count_91 (by decide) (by decide) (by decide) (by decide) ?_
        refine V.aload_n dX8_count_165 rfl ?_
        refine V.get fX8_22 dX8_count_166 ho rfl ?_
        refine V.iconst (v := nI 0) dX8_count_169 (by decide) ?_
        refine V.iald dX8_count_170 (hA 5 (by omega) (by omega)).1 rfl (by omega) es0 ?_
        exact V.iret dX8_count_171 rfl ⟨by unfold a_count; first | rfl | ((repeat first | rw [if_pos (by first | omega | assumption)] | rw [if_neg (by first | omega | assumption)]); first | done | rfl | assumption), rfl⟩
      · skip
        subst hq
        refine V.tabIn (off := 81) 172 dX8_count_91 (by decide) (by decide) (by decide) (by decide) ?_
        refine V.iload_n dX8_count_172 rfl ?_
        exact V.iret dX8_count_173 rfl ⟨by unfold a_count; first | rfl | ((repeat first | rw [if_pos (by first | omega | assumption)] | rw [if_neg (by first | omega | assumption)]); first | done | rfl | assumption), rfl⟩
      · skip
        subst hq
        refine V.tabIn (off := 83) 174 dX8_count_91 (by decide) (by decide) (by decide) (by decide) ?_
        refine V.iload_n dX8_count_174 rfl ?_
        exact V.iret dX8_count_175 rfl ⟨by unfold a_count; first | rfl | ((repeat first | rw [if_pos (by first | omega | assumption)] | rw [if_neg (by first | omega | assumption)]); first | done | rfl | assumption), rfl⟩
      · skip
        subst hq
        refine V.tabIn (off := 85) 176 dX8_count_91 (by decide) (by decide) (by decide) (by decide) ?_
        refine V.aload_n dX8_count_176 rfl ?_
        refine V.get fX8_96 dX8_count_177 ho rfl ?_
        refine V.re hF3 ?_
        exact V.iret dX8_count_180 rfl ⟨by unfold a_count; first | rfl | ((repeat first | rw [if_pos (by first | omega | assumption)] | rw [if_neg (by first | omega | assumption)]); first | done | rfl | assumption), rfl⟩
      · skip
        subst hq
        refine V.tabIn (off := 90) 181 dX8_count_91 (by decide) (by decide) (by decide) (by decide) ?_
        refine V.aload_n dX8_count_181 rfl ?_
        refine V.get fX8_90 dX8_count_182 ho rfl ?_
        refine V.re hF1 ?_
        exact V.iret dX8_count_185 rfl ⟨by unfold a_count; first | rfl | ((repeat first | rw [if_pos (by first | omega | assumption)] | rw [if_neg (by first | omega | assumption)]); first | done | rfl | assumption), rfl⟩
      · skip
        subst hq
        refine V.tabIn (off := 95) 186 dX8_count_91 (by decide) (by decide) (by decide) (by decide) ?_
        refine V.aload_n dX8_count_186 rfl ?_
        refine V.get fX8_93 dX8_count_187 ho rfl ?_
        refine V.re hF2 ?_
        exact V.iret dX8_count_190 rfl ⟨by unfold a_count; first | rfl | ((repeat first | rw [if_pos (by first | omega | assumption)] | rw [if_neg (by first | omega | assumption)]); first | done | rfl | assumption), rfl⟩
      · skip
        subst hq
        refine V.tabIn (off := 100) 191 dX8_count_91 (by decide) (by decide) (by decide) (by decide) ?_
        refine V.aload_n dX8_count_191 rfl ?_
        refine V.get fX8_57 dX8_count_192 ho rfl ?_
        refine V.re hF0 ?_
        exact V.iret dX8_count_195 rfl ⟨by unfold a_count; first | rfl | ((repeat first | rw [if_pos (by first | omega | assumption)] | rw [if_neg (by first | omega | assumption)]); first | done | rfl | assumption), rfl⟩
      · skip
        refine V.tabOut 196 dX8_count_91 (by rw [iI_toInt (by omega) (by omega)]; omega) (by decide) ?_
        refine V.iconst (v := iI (-1)) dX8_count_196 (by decide) ?_
        exact V.iret dX8_count_197 rfl ⟨by unfold a_count; first | rfl | ((repeat first | rw [if_pos (by first | omega | assumption)] | rw [if_neg (by first | omega | assumption)]); first | done | rfl | assumption), rfl⟩
    · skip
      refine V.iload_n dX8_count_18 rfl ?_
      refine V.aload_n dX8_count_19 rfl ?_
      refine V.iload dX8_count_20 rfl ?_
      refine V.callVp (ci := 8) cX8_119 (m_draftOf g h m F A (tS T) hM hB p (by omega)) dX8_count_22 (Nat.le_of_ble_eq_true rfl) rfl ho rfl rfl (Nat.le_of_ble_eq_true rfl) ?_
      refine V.bipush (v := iI (-4)) dX8_count_25 (by decide) ?_
      refine V.icmp_ne 34 dX8_count_27 (by decide) (fun hc2 => ?_) (fun hc2 => ?_)
      · skip
        first | (replace hc2 : ¬ (draftF (tS T) p ≠ none) := fun z => z ((eO_none (hdl p)).mp hc2)) | (replace hc2 : draftF (tS T) p ≠ none := fun z => hc2 ((eO_none (hdl p)).mpr z))
        refine V.iconst (v := nI 1) dX8_count_34 (by decide) ?_
        refine V.iaddN dX8_count_35 ?_
        refine V.istore_n (i := 2) dX8_count_36 rfl rfl rfl ?_
        dsimp only [List.set]
        refine V.iconst (v := nI 0) dX8_count_37 (by decide) ?_
        refine V.istore dX8_count_38 rfl rfl ?_
        dsimp only [List.set]
        have z := LI (by omega) 0 (by omega)
        first | (rw [cntP_pos (P := (fun i => draftF (tS T) i ≠ none)) (n := p) (by assumption)] at z; exact z) | (rw [cntP_neg (P := (fun i => draftF (tS T) i ≠ none)) (n := p) (by assumption)] at z; exact z)
      · skip
        first | (replace hc2 : ¬ (draftF (tS T) p ≠ none) := fun z => z ((eO_none (hdl p)).mp hc2)) | (replace hc2 : draftF (tS T) p ≠ none := fun z => hc2 ((eO_none (hdl p)).mpr z))
        refine V.iconst (v := nI 0) dX8_count_30 (by decide) ?_
        refine V.goto 35 dX8_count_31 (by decide) ?_
        refine V.iaddN dX8_count_35 ?_
        refine V.istore_n (i := 2) dX8_count_36 rfl rfl rfl ?_
        dsimp only [List.set]
        refine V.iconst (v := nI 0) dX8_count_37 (by decide) ?_
        refine V.istore dX8_count_38 rfl rfl ?_
        dsimp only [List.set]
        have z := LI (by omega) 0 (by omega)
        first | (rw [cntP_pos (P := (fun i => draftF (tS T) i ≠ none)) (n := p) (by assumption)] at z; exact z) | (rw [cntP_neg (P := (fun i => draftF (tS T) i ≠ none)) (n := p) (by assumption)] at z; exact z)
  show V _ _ 0 [some (.ref m), some (.int (iI w)), none, none, none, none] [] h
  refine V.iconst (v := nI 0) dX8_count_0 (by decide) ?_
  refine V.istore_n (i := 2) dX8_count_1 rfl rfl rfl ?_
  dsimp only [List.set]
  refine V.iconst (v := nI 0) dX8_count_2 (by decide) ?_
  refine V.istore_n (i := 3) dX8_count_3 rfl rfl rfl ?_
  dsimp only [List.set]
  refine V.iconst (v := nI 0) dX8_count_4 (by decide) ?_
  refine V.istore dX8_count_5 rfl rfl ?_
  dsimp only [List.set]
  exact L 0 (by omega) none
