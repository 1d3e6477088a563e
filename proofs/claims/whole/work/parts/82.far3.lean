set_option maxHeartbeats 1000000 in
theorem r_steps (g : VG) (h : VHp) (m : Nat) (T : Sy) (hC : MAt h m T) (hO : SyOk T) (p w k : Int) (hp0 : -2147483648 ≤ p ∧ p < 2147483648) (hw0 : -2147483648 ≤ w ∧ w < 2147483648) (hk0 : -2147483648 ≤ k ∧ k < 2147483648) (o : Option Nat) (hmo : MinG (stpF (tS T) p.toNat) (rX (tS T) p.toNat * 9 + rY (tS T) p.toNat) (golF (tS T) p.toNat w.toNat) o) : VE g mX8_steps 5 false (0, 0) [.ref m, .int (iI p), .int (iI w), .int (iI k)] h (MPo m (a_steps T p w k o) T h) := by
  obtain ⟨F, A, hM, hAll⟩ := id hC
  obtain ⟨hF0, hTx, hF1, hPa, hF2, hKe, hF3, hNo⟩ := id hAll
  obtain ⟨hOt, hOs, hOn, hOp, hOk, hOns, hOpk, hOkk⟩ := id hO
  have hB := hOs.1
  have hD := hOs.2.1
  have hnl := hOns.1
  have htl := hOt.1
  obtain ⟨hw, ⟨et0, et1, et2, ek⟩, es0, ev, ex, ey, eL⟩ := id hM
  obtain ⟨ho, hA⟩ := id hw
  obtain ⟨bn, bW, bH, bP, bL⟩ := id hB
  refine VE.of (by decide) rfl (Nat.le_of_ble_eq_true rfl) ?_
  have L : ((isP T p ∧ 0 ≤ w ∧ w < ((8 : Nat) : Int)) ∧ -1 ≤ k) → ∀ (h1 : VHp) (A1 : MA) (fv : Nat → Int) (N : Nat), MRaw h1 m F A1 → (∀ k, k < 81 → (A1 10)[k]? = some (iI (fv k))) → FarI (tS T) p.toNat w.toNat fv → FarG (stpF (tS T) p.toNat) (rX (tS T) p.toNat * 9 + rY (tS T) p.toNat) (golF (tS T) p.toNat w.toNat) (fun c => c < 81 ∧ accF (tS T) p.toNat c) (fun c => (fv c).toNat) → MAt h1 m T → VFr m (m + 12) h h1 → o = some N → 0 ≤ k → k < fv (rX (tS T) p.toNat * 9 + rY (tS T) p.toNat) → fv (rX (tS T) p.toNat * 9 + rY (tS T) p.toNat) < 999 → ∀ t, t ≤ k.toNat + 1 → ∀ g9 c sd, GrdG (stpF (tS T) p.toNat) (rX (tS T) p.toNat * 9 + rY (tS T) p.toNat) (fun c => (fv c).toNat) t g9 c → (1 ≤ t → sd = g9 % 4) → sd < 4 → V (g, mX8_steps, 5, false, h.length, MPo m (a_steps T p w k o) T h) (0, 0) 111 [some (.ref m), some (.int (iI p)), some (.int (iI w)), some (.int (iI k)), some (.int (nI c)), some (.int (nI sd)), some (.int (nI t))] [] h1 := by
    intro hcd h1 A1 fv N hw1 hrw hI hG hC1 hf1 hoN hk1 hk2 hk3
    refine vloop (k.toNat + 1) (fun t ih hi => ?_)
    intro g9 c sd hgr hsd hs4
    obtain ⟨ho1, hA1⟩ := id hw1
    have hac := far_ac hG _ _ hgr.1
    have hc81 := hac.1
    have hbc := far_bd hI hc81
    have hpc := ((hI.1 c hc81).1 hac.2).1
    have hb0 := far_small hG (c := (rX (tS T) p.toNat * 9 + rY (tS T) p.toNat)) hG.1 (by show (fv (rX (tS T) p.toNat * 9 + rY (tS T) p.toNat)).toNat < 999; omega)
    replace hb0 : (fv (rX (tS T) p.toNat * 9 + rY (tS T) p.toNat)).toNat ≤ 80 := hb0
    have hFc : (fv c).toNat + t = (fv (rX (tS T) p.toNat * 9 + rY (tS T) p.toNat)).toNat := hgr.2.2.1
    have LI : t < k.toNat + 1 → ∀ sd, sd ≤ 4 → (∀ s e, s < sd → stpF (tS T) p.toNat c s = some e → (fv e).toNat + 1 ≠ (fv c).toNat) → V (g, mX8_steps, 5, false, h.length, MPo m (a_steps T p w k o) T h) (0, 0) 120 [some (.ref m), some (.int (iI p)), some (.int (iI w)), some (.int (iI k)), some (.int (nI c)), some (.int (nI sd)), some (.int (nI t))] [] h1 := by
      intro htk
      refine vloop 4 (fun sd ih2 hi2 => ?_)
      intro hno
      have hs3 : sd < 4 := by
        obtain ⟨s, e, q1, q2, q3⟩ := hG.2.2.1 c hac (by show 0 < (fv c).toNat; omega) (by show (fv c).toNat < 999; omega)
        rcases Nat.lt_or_ge s sd with z | z
        · exact absurd q3 (hno s e z q2)
        · omega
      refine V.aload_n dX8_steps_120 rfl ?_
      refine V.iload dX8_steps_121 rfl ?_
      refine V.iload dX8_steps_123 rfl ?_
      refine V.callVp (ci := 8) cX8_166 (m_beside g h1 m F A1 hw1 (tS T) hB hD p.toNat w.toNat fv hrw hI c sd hc81 hs3) dX8_steps_125 (Nat.le_of_ble_eq_true rfl) rfl ho1 rfl rfl (Nat.le_of_ble_eq_true rfl) ?_
      rcases hr : stpF (tS T) p.toNat c sd with _ | c9
      · skip
        change V _ _ _ _ (Value.int (iI (-4)) :: _) _
        refine V.if_ltZ 156 dX8_steps_128 (by decide) (by omega) (fun hc1 => ?_) (fun hc1 => ?_)
        · skip
          refine V.iincN (n := 1) dX8_steps_156 rfl rfl rfl ?_
          dsimp only [List.set]
          refine V.goto 120 dX8_steps_159 (by decide) ?_
          exact ih2 (sd + 1) (by omega) (by omega) (fun s e hs he => by
            by_cases q : s = sd
            · rw [q, hr] at he; first | (cases he; done) | (cases he; omega)
            · exact hno s e (by omega) he)
        · exact absurd hc1 (by omega)
      · skip
        have h9 := stp_acc hB hD hs3 hr
        have h981 := h9.1
        have hb9 := far_bd hI h981
        have hp9 := ((hI.1 c9 h981).1 h9.2).1
        change V _ _ _ _ (Value.int (nI c9) :: _) _
        refine V.if_ltN 156 dX8_steps_128 (by decide) (by omega) (fun hc2 => ?_) (fun hc2 => ?_)
        · exact absurd hc2 (by omega)
        · skip
          refine V.aload_n dX8_steps_131 rfl ?_
          refine V.get fX8_37 dX8_steps_132 ho1 rfl ?_
          refine V.aload_n dX8_steps_135 rfl ?_
          refine V.iload dX8_steps_136 rfl ?_
          refine V.iload dX8_steps_138 rfl ?_
          refine V.callVp (ci := 8) cX8_166 (m_beside g h1 m F A1 hw1 (tS T) hB hD p.toNat w.toNat fv hrw hI c sd hc81 hs3) dX8_steps_140 (Nat.le_of_ble_eq_true rfl) rfl ho1 rfl rfl (Nat.le_of_ble_eq_true rfl) ?_
          refine V.re (y := nI c9) (by rw [hr]; rfl) ?_
          refine V.iald dX8_steps_143 (hA1 10 (by omega) (by omega)).1 rfl (by omega) (hrw _ (by omega)) ?_
          refine V.aload_n dX8_steps_144 rfl ?_
          refine V.get fX8_37 dX8_steps_145 ho1 rfl ?_
          refine V.iload dX8_steps_148 rfl ?_
          refine V.iald dX8_steps_150 (hA1 10 (by omega) (by omega)).1 rfl (by omega) (hrw _ (by omega)) ?_
          refine V.iconst (v := nI 1) dX8_steps_151 (by decide) ?_
          refine V.toZ1 ?_
          refine V.isubZ dX8_steps_152 ?_
          refine V.icmp_eqZ 162 dX8_steps_153 (by decide) (by omega) (by omega) (fun hc3 => ?_) (fun hc3 => ?_)
          · skip
            refine V.aload_n dX8_steps_162 rfl ?_
            refine V.iload dX8_steps_163 rfl ?_
            refine V.iload dX8_steps_165 rfl ?_
            refine V.callVp (ci := 8) cX8_166 (m_beside g h1 m F A1 hw1 (tS T) hB hD p.toNat w.toNat fv hrw hI c sd hc81 hs3) dX8_steps_167 (Nat.le_of_ble_eq_true rfl) rfl ho1 rfl rfl (Nat.le_of_ble_eq_true rfl) ?_
            refine V.re (y := nI c9) (by rw [hr]; rfl) ?_
            refine V.istore dX8_steps_170 rfl rfl ?_
            dsimp only [List.set]
            refine V.iincN (n := 1) dX8_steps_172 rfl rfl rfl ?_
            dsimp only [List.set]
            refine V.goto 111 dX8_steps_175 (by decide) ?_
            exact ih (t + 1) (by omega) (by omega) (4 * g9 + sd) c9 sd (grd_step hG hgr hs3 hr (by show (fv c9).toNat + 1 = (fv c).toNat; omega) hno) (fun _ => by omega) hs3
          · skip
            refine V.iincN (n := 1) dX8_steps_156 rfl rfl rfl ?_
            dsimp only [List.set]
            refine V.goto 120 dX8_steps_159 (by decide) ?_
            exact ih2 (sd + 1) (by omega) (by omega) (fun s e hs he => by
              by_cases q : s = sd
              · rw [q, hr] at he; first | (cases he; done) | (cases he; omega)
              · exact hno s e (by omega) he)
    refine V.iload dX8_steps_111 rfl ?_
    refine V.iload_n dX8_steps_113 rfl ?_
    refine V.toZ2 ?_
    refine V.icmp_gtZ 178 dX8_steps_114 (by decide) (by omega) (by omega) (fun hc1 => ?_) (fun hc1 => ?_)
    · skip
      refine V.iload dX8_steps_178 rfl ?_
      obtain rfl : t = k.toNat + 1 := (by omega)
      have hml := min_len hG (by show (fv (rX (tS T) p.toNat * 9 + rY (tS T) p.toNat)).toNat < 999; omega) (by rw [← hoN]; exact hmo)
      replace hml : lnG N = (fv (rX (tS T) p.toNat * 9 + rY (tS T) p.toNat)).toNat := hml
      have hge := grd_eq hG (by show (fv (rX (tS T) p.toNat * 9 + rY (tS T) p.toNat)).toNat < 999; omega) (by rw [← hoN]; exact hmo) (by show k.toNat + 1 ≤ (fv (rX (tS T) p.toNat * 9 + rY (tS T) p.toNat)).toNat; omega) hgr
      replace hge : g9 = N / 4 ^ ((fv (rX (tS T) p.toNat * 9 + rY (tS T) p.toNat)).toNat - (k.toNat + 1)) := hge
      refine V.iret dX8_steps_180 rfl ⟨?_, hC1, hf1⟩
      unfold a_steps
      rw [if_pos hcd, hoN]
      unfold a_stepsO
      dsimp only
      rw [if_neg (by omega), if_pos (by omega), hml, show (fv (rX (tS T) p.toNat * 9 + rY (tS T) p.toNat)).toNat - 1 - k.toNat = (fv (rX (tS T) p.toNat * 9 + rY (tS T) p.toNat)).toNat - (k.toNat + 1) by omega, ← hge, hsd (by omega)]
    · skip
      refine V.iconst (v := nI 0) dX8_steps_117 (by decide) ?_
      refine V.istore dX8_steps_118 rfl rfl ?_
      dsimp only [List.set]
      exact LI (by omega) 0 (by omega) (fun s e hs => absurd hs (Nat.not_lt_zero _))
  show V _ _ 0 [some (.ref m), some (.int (iI p)), some (.int (iI w)), some (.int (iI k)), none, none, none] [] h
  refine V.aload_n dX8_steps_0 rfl ?_
  refine V.iload_n dX8_steps_1 rfl ?_
  refine V.callVp (ci := 8) cX8_116 (m_isOne g h m F A (tS T) hM hB p (by omega)) dX8_steps_2 (Nat.le_of_ble_eq_true rfl) rfl ho rfl rfl (Nat.le_of_ble_eq_true rfl) ?_
  refine V.if_eqB 23 dX8_steps_5 (by decide) (fun hc1 => ?_) (fun hc1 => ?_)
  · skip
    refine V.iconst (v := iI (-1)) dX8_steps_23 (by decide) ?_
    exact V.iret dX8_steps_24 rfl ⟨by unfold a_steps; rw [if_neg (by omega)], hC, VFr.rf⟩
  · skip
    refine V.iload_n dX8_steps_8 rfl ?_
    refine V.iconst (v := nI 0) dX8_steps_9 (by decide) ?_
    refine V.bipush (v := nI 7) dX8_steps_10 (by decide) ?_
    refine V.toZ1 ?_
    refine V.toZ2 ?_
    refine V.callSp cX8_53 (m_in g h _ _ _ (by omega) (by omega) (by omega)) dX8_steps_12 (Nat.le_of_ble_eq_true rfl) rfl rfl (Nat.le_of_ble_eq_true rfl) ?_
    refine V.if_eqB 23 dX8_steps_15 (by decide) (fun hc2 => ?_) (fun hc2 => ?_)
    · skip
      refine V.iconst (v := iI (-1)) dX8_steps_23 (by decide) ?_
      exact V.iret dX8_steps_24 rfl ⟨by unfold a_steps; rw [if_neg (by omega)], hC, VFr.rf⟩
    · skip
      refine V.iload_n dX8_steps_18 rfl ?_
      refine V.iconst (v := iI (-1)) dX8_steps_19 (by decide) ?_
      refine V.icmp_geZ 25 dX8_steps_20 (by decide) (by omega) (by omega) (fun hc3 => ?_) (fun hc3 => ?_)
      · skip
        refine V.aload_n dX8_steps_25 rfl ?_
        refine V.iload_n dX8_steps_26 rfl ?_
        refine V.re (iI_toN (n := p.toNat) (by omega)) ?_
        refine V.iload_n dX8_steps_27 rfl ?_
        refine V.re (iI_toN (n := w.toNat) (by omega)) ?_
        refine V.callV (ci := 8) cX8_169 (m_measures g h m F A (tS T) hM hB hD p.toNat w.toNat (by omega) (by omega)) dX8_steps_28 (Nat.le_of_ble_eq_true rfl) rfl ho rfl rfl (Nat.le_of_ble_eq_true rfl) (fun v_ h_ hp_ => ?_)
        obtain ⟨rfl, ⟨A1, fv, hw1, hAe, hrw, hI, hX⟩, hf1⟩ := hp_
        dsimp only [Option.toList, List.nil_append]
        generalize h_ = h1 at hw1 hf1 ⊢
        have bp := bP p.toNat (by omega)
        have hc81 : (rX (tS T) p.toNat * 9 + rY (tS T) p.toNat) < 81 := by omega
        have hac : accF (tS T) p.toNat (rX (tS T) p.toNat * 9 + rY (tS T) p.toNat) := by
          have e1 : (rX (tS T) p.toNat * 9 + rY (tS T) p.toNat) / 9 = rX (tS T) p.toNat := by omega
          have e2 : (rX (tS T) p.toNat * 9 + rY (tS T) p.toNat) % 9 = rY (tS T) p.toNat := by omega
          rw [accF, e1, e2]
          exact ⟨⟨⟨by omega, by omega⟩, by omega, by omega⟩, (who_or hD).mpr (fun q hq hne z => hne (hD q p.toNat hq (by omega) z.1 z.2))⟩
        have hG := far_G hB hD hI hX hc81 hac
        have hC1 : MAt h1 m T := ⟨F, A1, ⟨hw1, by rw [hAe 2 (by omega) (by omega)]; exact hM.2.1, by rw [hAe 5 (by omega) (by omega)]; exact hM.2.2⟩, hF0, by rw [hAe 1 (by omega) (by omega)]; exact hTx, hF1, by rw [hAe 6 (by omega) (by omega)]; exact hPa, hF2, by rw [hAe 7 (by omega) (by omega)]; exact hKe, hF3, by rw [hAe 8 (by omega) (by omega)]; exact hNo⟩
        obtain ⟨ho1, hA1⟩ := id hw1
        have h51 := (hA1 5 (by omega) (by omega)).1
        rw [hAe 5 (by omega) (by omega)] at h51
        have hbc := far_bd hI hc81
        have hpc := ((hI.1 (rX (tS T) p.toNat * 9 + rY (tS T) p.toNat) hc81).1 hac).1
        refine V.bipush (v := nI 9) dX8_steps_31 (by decide) ?_
        refine V.aload_n dX8_steps_33 rfl ?_
        refine V.get fX8_22 dX8_steps_34 ho1 rfl ?_
        refine V.bipush (v := nI 7) dX8_steps_37 (by decide) ?_
        refine V.iload_n dX8_steps_39 rfl ?_
        refine V.re (iI_toN (n := p.toNat) (by omega)) ?_
        refine V.iaddN dX8_steps_40 ?_
        refine V.iald dX8_steps_41 h51 rfl (by omega) (ex _ (by omega)) ?_
        refine V.imulN dX8_steps_42 ?_
        refine V.aload_n dX8_steps_43 rfl ?_
        refine V.get fX8_22 dX8_steps_44 ho1 rfl ?_
        refine V.bipush (v := nI 13) dX8_steps_47 (by decide) ?_
        refine V.iload_n dX8_steps_49 rfl ?_
        refine V.re (iI_toN (n := p.toNat) (by omega)) ?_
        refine V.iaddN dX8_steps_50 ?_
        refine V.iald dX8_steps_51 h51 rfl (by omega) (ey _ (by omega)) ?_
        refine V.iaddN dX8_steps_52 ?_
        refine V.re (y := nI (rX (tS T) p.toNat * 9 + rY (tS T) p.toNat)) (by rw [Nat.mul_comm 9]) ?_
        refine V.istore dX8_steps_53 rfl rfl ?_
        dsimp only [List.set]
        refine V.aload_n dX8_steps_55 rfl ?_
        refine V.get fX8_37 dX8_steps_56 ho1 rfl ?_
        refine V.iload dX8_steps_59 rfl ?_
        refine V.iald dX8_steps_61 (hA1 10 (by omega) (by omega)).1 rfl (by omega) (hrw _ (by omega)) ?_
        refine V.sipush (v := nI 999) dX8_steps_62 (by decide) ?_
        refine V.toZ1 ?_
        refine V.icmp_neZ 71 dX8_steps_65 (by decide) (by omega) (by omega) (fun hc4 => ?_) (fun hc4 => ?_)
        · skip
          refine V.iload_n dX8_steps_71 rfl ?_
          refine V.iconst (v := iI (-1)) dX8_steps_72 (by decide) ?_
          refine V.icmp_eqZ 87 dX8_steps_73 (by decide) (by omega) (by omega) (fun hc5 => ?_) (fun hc5 => ?_)
          · skip
            refine V.iload_n dX8_steps_87 rfl ?_
            refine V.iconst (v := iI (-1)) dX8_steps_88 (by decide) ?_
            refine V.icmp_neZ 102 dX8_steps_89 (by decide) (by omega) (by omega) (fun hc6 => ?_) (fun hc6 => ?_)
            · skip
              refine V.bipush (v := iI (-4)) dX8_steps_102 (by decide) ?_
              obtain ⟨N, hoN⟩ := min_some hG (by show (fv (rX (tS T) p.toNat * 9 + rY (tS T) p.toNat)).toNat < 999; omega) hmo
              have hml := min_len hG (by show (fv (rX (tS T) p.toNat * 9 + rY (tS T) p.toNat)).toNat < 999; omega) (by rw [← hoN]; exact hmo)
              replace hml : lnG N = (fv (rX (tS T) p.toNat * 9 + rY (tS T) p.toNat)).toNat := hml
              refine V.iret dX8_steps_104 rfl ⟨?_, hC1, hf1⟩
              first
                | (exfalso; omega)
                | (unfold a_steps; rw [if_pos (by omega), hoN]; unfold a_stepsO; dsimp only; rw [if_pos (by omega), hml, iI_toN (n := (fv (rX (tS T) p.toNat * 9 + rY (tS T) p.toNat)).toNat) (by omega)]; done)
                | (unfold a_steps; rw [if_pos (by omega), hoN]; unfold a_stepsO; dsimp only; rw [if_neg (by omega), if_neg (by omega)]; done)
            · skip
              refine V.aload_n dX8_steps_92 rfl ?_
              refine V.get fX8_37 dX8_steps_93 ho1 rfl ?_
              refine V.iload dX8_steps_96 rfl ?_
              refine V.iald dX8_steps_98 (hA1 10 (by omega) (by omega)).1 rfl (by omega) (hrw _ (by omega)) ?_
              refine V.goto 104 dX8_steps_99 (by decide) ?_
              obtain ⟨N, hoN⟩ := min_some hG (by show (fv (rX (tS T) p.toNat * 9 + rY (tS T) p.toNat)).toNat < 999; omega) hmo
              have hml := min_len hG (by show (fv (rX (tS T) p.toNat * 9 + rY (tS T) p.toNat)).toNat < 999; omega) (by rw [← hoN]; exact hmo)
              replace hml : lnG N = (fv (rX (tS T) p.toNat * 9 + rY (tS T) p.toNat)).toNat := hml
              refine V.iret dX8_steps_104 rfl ⟨?_, hC1, hf1⟩
              first
                | (exfalso; omega)
                | (unfold a_steps; rw [if_pos (by omega), hoN]; unfold a_stepsO; dsimp only; rw [if_pos (by omega), hml, iI_toN (n := (fv (rX (tS T) p.toNat * 9 + rY (tS T) p.toNat)).toNat) (by omega)]; done)
                | (unfold a_steps; rw [if_pos (by omega), hoN]; unfold a_stepsO; dsimp only; rw [if_neg (by omega), if_neg (by omega)]; done)
          · skip
            refine V.iload_n dX8_steps_76 rfl ?_
            refine V.aload_n dX8_steps_77 rfl ?_
            refine V.get fX8_37 dX8_steps_78 ho1 rfl ?_
            refine V.iload dX8_steps_81 rfl ?_
            refine V.iald dX8_steps_83 (hA1 10 (by omega) (by omega)).1 rfl (by omega) (hrw _ (by omega)) ?_
            refine V.icmp_ltZ 105 dX8_steps_84 (by decide) (by omega) (by omega) (fun hc7 => ?_) (fun hc7 => ?_)
            · skip
              refine V.iconst (v := nI 0) dX8_steps_105 (by decide) ?_
              refine V.istore dX8_steps_106 rfl rfl ?_
              dsimp only [List.set]
              refine V.iconst (v := nI 0) dX8_steps_108 (by decide) ?_
              refine V.istore dX8_steps_109 rfl rfl ?_
              dsimp only [List.set]
              obtain ⟨N, hoN⟩ := min_some hG (by show (fv (rX (tS T) p.toNat * 9 + rY (tS T) p.toNat)).toNat < 999; omega) hmo
              exact L (by omega) h1 A1 fv N hw1 hrw hI hG hC1 hf1 hoN (by omega) (by omega) (by omega) 0 (by omega) 1 (rX (tS T) p.toNat * 9 + rY (tS T) p.toNat) 0 grd_0 (fun z => absurd z (by omega)) (by omega)
            · skip
              refine V.iload_n dX8_steps_87 rfl ?_
              refine V.iconst (v := iI (-1)) dX8_steps_88 (by decide) ?_
              refine V.icmp_neZ 102 dX8_steps_89 (by decide) (by omega) (by omega) (fun hc8 => ?_) (fun hc8 => ?_)
              · skip
                refine V.bipush (v := iI (-4)) dX8_steps_102 (by decide) ?_
                obtain ⟨N, hoN⟩ := min_some hG (by show (fv (rX (tS T) p.toNat * 9 + rY (tS T) p.toNat)).toNat < 999; omega) hmo
                have hml := min_len hG (by show (fv (rX (tS T) p.toNat * 9 + rY (tS T) p.toNat)).toNat < 999; omega) (by rw [← hoN]; exact hmo)
                replace hml : lnG N = (fv (rX (tS T) p.toNat * 9 + rY (tS T) p.toNat)).toNat := hml
                refine V.iret dX8_steps_104 rfl ⟨?_, hC1, hf1⟩
                first
                  | (exfalso; omega)
                  | (unfold a_steps; rw [if_pos (by omega), hoN]; unfold a_stepsO; dsimp only; rw [if_pos (by omega), hml, iI_toN (n := (fv (rX (tS T) p.toNat * 9 + rY (tS T) p.toNat)).toNat) (by omega)]; done)
                  | (unfold a_steps; rw [if_pos (by omega), hoN]; unfold a_stepsO; dsimp only; rw [if_neg (by omega), if_neg (by omega)]; done)
              · skip
                refine V.aload_n dX8_steps_92 rfl ?_
                refine V.get fX8_37 dX8_steps_93 ho1 rfl ?_
                refine V.iload dX8_steps_96 rfl ?_
                refine V.iald dX8_steps_98 (hA1 10 (by omega) (by omega)).1 rfl (by omega) (hrw _ (by omega)) ?_
                refine V.goto 104 dX8_steps_99 (by decide) ?_
                obtain ⟨N, hoN⟩ := min_some hG (by show (fv (rX (tS T) p.toNat * 9 + rY (tS T) p.toNat)).toNat < 999; omega) hmo
                have hml := min_len hG (by show (fv (rX (tS T) p.toNat * 9 + rY (tS T) p.toNat)).toNat < 999; omega) (by rw [← hoN]; exact hmo)
                replace hml : lnG N = (fv (rX (tS T) p.toNat * 9 + rY (tS T) p.toNat)).toNat := hml
                refine V.iret dX8_steps_104 rfl ⟨?_, hC1, hf1⟩
                first
                  | (exfalso; omega)
                  | (unfold a_steps; rw [if_pos (by omega), hoN]; unfold a_stepsO; dsimp only; rw [if_pos (by omega), hml, iI_toN (n := (fv (rX (tS T) p.toNat * 9 + rY (tS T) p.toNat)).toNat) (by omega)]; done)
                  | (unfold a_steps; rw [if_pos (by omega), hoN]; unfold a_stepsO; dsimp only; rw [if_neg (by omega), if_neg (by omega)]; done)
        · skip
          refine V.bipush (v := iI (-4)) dX8_steps_68 (by decide) ?_
          have hon := min_uniq hmo (far_none hG (by show (fv (rX (tS T) p.toNat * 9 + rY (tS T) p.toNat)).toNat = 999; omega))
          exact V.iret dX8_steps_70 rfl ⟨by unfold a_steps; rw [if_pos (by omega), hon]; rfl, hC1, hf1⟩
      · skip
        refine V.iconst (v := iI (-1)) dX8_steps_23 (by decide) ?_
        exact V.iret dX8_steps_24 rfl ⟨by unfold a_steps; rw [if_neg (by omega)], hC, VFr.rf⟩
