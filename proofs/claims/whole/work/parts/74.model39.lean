set_option maxHeartbeats 1000000 in
theorem r_away (g : VG) (h : VHp) (m : Nat) (T : Sy) (hC : MAt h m T) (hO : SyOk T) (p w x part : Int) (hp0 : -2147483648 ≤ p ∧ p < 2147483648) (hw0 : -2147483648 ≤ w ∧ w < 2147483648) (hx0 : -2147483648 ≤ x ∧ x < 2147483648) (hpt : -2147483648 ≤ part ∧ part < 2147483648) : VE g mX8_away 3 false (0, 0) [.ref m, .int (iI p), .int (iI w), .int (iI x), .int (iI part)] h (VP (a_away T p w x part) h) := by
  obtain ⟨F, A, hM, hAll⟩ := id hC
  obtain ⟨hF0, hTx, hF1, hPa, hF2, hKe, hF3, hNo⟩ := id hAll
  obtain ⟨hOt, hOs, hOn, hOp, hOk, hOns, hOpk, hOkk⟩ := id hO
  have hB := hOs.1
  have hD := hOs.2.1
  have hnl := hOns.1
  have htl := hOt.1
  obtain ⟨hw, ⟨et0, et1, et2, ek⟩, es0, ev, ex, ey, eL⟩ := id hM
  obtain ⟨ho, hA⟩ := id hw
  obtain ⟨bn, bW, bH, bP, bL⟩ := id hB
  refine VE.of (by decide) rfl (Nat.le_of_ble_eq_true rfl) ?_
  have h64 := p2_64 bn
  have ht6 := ten_le (n := rN (tS T) - 1) (by omega)
  have hdl : ∀ q w9, draftM (tS T) p.toNat q = some w9 → w9 < 1000 := fun q w9 z => by have := wayF_lt z; omega
  have L4 : (((isP T p ∧ 0 ≤ w ∧ w < ((8 : Nat) : Int)) ∧ 0 ≤ x ∧ x ≤ 10) ∧ 0 ≤ part ∧ part < ((2 : Nat) : Int)) → ∀ B9 a b : Nat, b ≤ B9 → ∀ v9 : Option Value, Nat.gcd a b = Nat.gcd (sB (awT (tS T) p.toNat w.toNat x.toNat) p.toNat 0 (2 ^ rN (tS T))) (10 ^ (rN (tS T) - 1)) → a < 1000000000 → b < 1000000000 → V (g, mX8_away, 3, false, h.length, VP (a_away T p w x part) h) (0, 0) 191 [some (.ref m), some (.int (iI p)), some (.int (iI w)), some (.int (iI x)), some (.int (iI part)), some (.int (nI (sB (awT (tS T) p.toNat w.toNat x.toNat) p.toNat 0 (2 ^ rN (tS T))))), some (.int (nI (10 ^ (rN (tS T) - 1)))), some (.int (nI a)), some (.int (nI b)), v9] [] h := by
    intro hcd
    have e1 := aw_1 (S := tS T) (p := p.toNat) (w := w.toNat) (x := x.toNat) bn (by omega) (by omega)
    have e2 := aw_2 (S := tS T) (p := p.toNat) (w := w.toNat) (x := x.toNat) bn (by omega)
    have hle := (aw_le hB (p := p.toNat) (w := w.toNat) (x := x.toNat) (by omega) (2 ^ rN (tS T))).2
    rw [e1, e2] at hle
    intro B9
    induction B9 with
    | zero =>
      intro a b hb9 v9 hg ha hb
      refine V.iload dX8_away_191 rfl ?_
      refine V.if_leN 214 dX8_away_193 (by decide) (by omega) (fun hc1 => ?_) (fun hc1 => ?_)
      · skip
        have ha0 : 0 < a := by
          have hb0 : b = 0 := by omega
          rw [hb0, Nat.gcd_zero_right] at hg
          rw [hg]; exact Nat.gcd_pos_of_pos_right _ (by omega)
        refine V.iload dX8_away_214 rfl ?_
        refine V.if_neZ 227 dX8_away_216 (by decide) (by omega) (fun hc2 => ?_) (fun hc2 => ?_)
        · skip
          refine V.iload dX8_away_227 rfl ?_
          refine V.iload dX8_away_229 rfl ?_
          refine V.idivN dX8_away_231 (by omega) (by omega) (by omega) ?_
          have hb0 : b = 0 := (by omega)
          subst hb0
          rw [Nat.gcd_zero_right] at hg
          have hgp : 1 ≤ Nat.gcd (sB (awT (tS T) p.toNat w.toNat x.toNat) p.toNat 0 (2 ^ rN (tS T))) (10 ^ (rN (tS T) - 1)) := Nat.gcd_pos_of_pos_right _ (by omega)
          exact V.iret dX8_away_232 rfl ⟨by unfold a_away; rw [if_pos hcd]; dsimp only; rw [e1, e2, if_neg (by omega), hg]; first | (rw [if_pos (by omega)]; done) | (rw [if_neg (by omega)]; done), rfl⟩
        · skip
          refine V.iload dX8_away_219 rfl ?_
          refine V.iload dX8_away_221 rfl ?_
          refine V.idivN dX8_away_223 (by omega) (by omega) (by omega) ?_
          refine V.goto 232 dX8_away_224 (by decide) ?_
          have hb0 : b = 0 := (by omega)
          subst hb0
          rw [Nat.gcd_zero_right] at hg
          have hgp : 1 ≤ Nat.gcd (sB (awT (tS T) p.toNat w.toNat x.toNat) p.toNat 0 (2 ^ rN (tS T))) (10 ^ (rN (tS T) - 1)) := Nat.gcd_pos_of_pos_right _ (by omega)
          exact V.iret dX8_away_232 rfl ⟨by unfold a_away; rw [if_pos hcd]; dsimp only; rw [e1, e2, if_neg (by omega), hg]; first | (rw [if_pos (by omega)]; done) | (rw [if_neg (by omega)]; done), rfl⟩
      · exact absurd hc1 (by omega)
    | succ B9 ih9 =>
      intro a b hb9 v9 hg ha hb
      refine V.iload dX8_away_191 rfl ?_
      refine V.if_leN 214 dX8_away_193 (by decide) (by omega) (fun hc1 => ?_) (fun hc1 => ?_)
      · skip
        have ha0 : 0 < a := by
          have hb0 : b = 0 := by omega
          rw [hb0, Nat.gcd_zero_right] at hg
          rw [hg]; exact Nat.gcd_pos_of_pos_right _ (by omega)
        refine V.iload dX8_away_214 rfl ?_
        refine V.if_neZ 227 dX8_away_216 (by decide) (by omega) (fun hc2 => ?_) (fun hc2 => ?_)
        · skip
          refine V.iload dX8_away_227 rfl ?_
          refine V.iload dX8_away_229 rfl ?_
          refine V.idivN dX8_away_231 (by omega) (by omega) (by omega) ?_
          have hb0 : b = 0 := (by omega)
          subst hb0
          rw [Nat.gcd_zero_right] at hg
          have hgp : 1 ≤ Nat.gcd (sB (awT (tS T) p.toNat w.toNat x.toNat) p.toNat 0 (2 ^ rN (tS T))) (10 ^ (rN (tS T) - 1)) := Nat.gcd_pos_of_pos_right _ (by omega)
          exact V.iret dX8_away_232 rfl ⟨by unfold a_away; rw [if_pos hcd]; dsimp only; rw [e1, e2, if_neg (by omega), hg]; first | (rw [if_pos (by omega)]; done) | (rw [if_neg (by omega)]; done), rfl⟩
        · skip
          refine V.iload dX8_away_219 rfl ?_
          refine V.iload dX8_away_221 rfl ?_
          refine V.idivN dX8_away_223 (by omega) (by omega) (by omega) ?_
          refine V.goto 232 dX8_away_224 (by decide) ?_
          have hb0 : b = 0 := (by omega)
          subst hb0
          rw [Nat.gcd_zero_right] at hg
          have hgp : 1 ≤ Nat.gcd (sB (awT (tS T) p.toNat w.toNat x.toNat) p.toNat 0 (2 ^ rN (tS T))) (10 ^ (rN (tS T) - 1)) := Nat.gcd_pos_of_pos_right _ (by omega)
          exact V.iret dX8_away_232 rfl ⟨by unfold a_away; rw [if_pos hcd]; dsimp only; rw [e1, e2, if_neg (by omega), hg]; first | (rw [if_pos (by omega)]; done) | (rw [if_neg (by omega)]; done), rfl⟩
      · skip
        refine V.iload dX8_away_196 rfl ?_
        refine V.iload dX8_away_198 rfl ?_
        refine V.iremN dX8_away_200 (by omega) (by omega) (by omega) ?_
        refine V.istore dX8_away_201 rfl rfl ?_
        dsimp only [List.set]
        refine V.iload dX8_away_203 rfl ?_
        refine V.istore dX8_away_205 rfl rfl ?_
        dsimp only [List.set]
        refine V.iload dX8_away_207 rfl ?_
        refine V.istore dX8_away_209 rfl rfl ?_
        dsimp only [List.set]
        refine V.goto 191 dX8_away_211 (by decide) ?_
        have hm9 := Nat.mod_lt a (show 0 < b by omega)
        exact ih9 b (a % b) (by omega) _ (by rw [← hg, Nat.gcd_comm b, ← Nat.gcd_rec, Nat.gcd_comm]) (by omega) (by omega)
  have L2 : (((isP T p ∧ 0 ≤ w ∧ w < ((8 : Nat) : Int)) ∧ 0 ≤ x ∧ x ≤ 10) ∧ 0 ≤ part ∧ part < ((2 : Nat) : Int)) → ∀ s, s ≤ 2 ^ rN (tS T) → ∀ v8 v9 : Option Value, V (g, mX8_away, 3, false, h.length, VP (a_away T p w x part) h) (0, 0) 76 [some (.ref m), some (.int (iI p)), some (.int (iI w)), some (.int (iI x)), some (.int (iI part)), some (.int (nI (sB (awT (tS T) p.toNat w.toNat x.toNat) p.toNat 0 s))), some (.int (nI (10 ^ (rN (tS T) - 1)))), some (.int (nI s)), v8, v9] [] h := by
    intro hcd
    refine vloop (2 ^ rN (tS T)) (fun s ih hi => ?_)
    intro v8 v9
    have hsl := sB_le (f := (awT (tS T) p.toNat w.toNat x.toNat)) (p := p.toNat) (b := 0) (C := 1000000) (fun q => awT_le hB (by omega)) s
    have L3 : s < 2 ^ rN (tS T) → ∀ q, q ≤ rN (tS T) → V (g, mX8_away, 3, false, h.length, VP (a_away T p w x part) h) (0, 0) 95 [some (.ref m), some (.int (iI p)), some (.int (iI w)), some (.int (iI x)), some (.int (iI part)), some (.int (nI (sB (awT (tS T) p.toNat w.toNat x.toNat) p.toNat 0 s))), some (.int (nI (10 ^ (rN (tS T) - 1)))), some (.int (nI s)), some (.int (nI (wgF p.toNat x.toNat s q))), some (.int (nI q))] [] h := by
      intro hs9
      refine vloop (rN (tS T)) (fun q ih2 hj => ?_)
      have hwg := wg_6 (p := p.toNat) (x := x.toNat) (m := s) (q := q) (by omega) (by omega)
      refine V.iload dX8_away_95 rfl ?_
      refine V.aload_n dX8_away_97 rfl ?_
      refine V.get fX8_13 dX8_away_98 ho rfl ?_
      refine V.iconst (v := nI 2) dX8_away_101 (by decide) ?_
      refine V.iald dX8_away_102 (hA 2 (by omega) (by omega)).1 rfl (by omega) et2 ?_
      refine V.icmp_geN 146 dX8_away_103 (by decide) (by omega) (by omega) (fun hc1 => ?_) (fun hc1 => ?_)
      · skip
        refine V.iload dX8_away_146 rfl ?_
        refine V.iload dX8_away_148 rfl ?_
        refine V.iload_n dX8_away_150 rfl ?_
        refine V.re (iI_toN (n := p.toNat) (by omega)) ?_
        refine V.ishrN dX8_away_151 (by omega) (by omega) ?_
        refine V.iconst (v := nI 1) dX8_away_152 (by decide) ?_
        refine V.iand1N dX8_away_153 (Nat.lt_of_le_of_lt (Nat.div_le_self _ _) (by omega)) ?_
        refine V.if_neN 173 dX8_away_154 (by decide) (by omega) (fun hc2 => ?_) (fun hc2 => ?_)
        · skip
          refine V.iconst (v := nI 0) dX8_away_173 (by decide) ?_
          refine V.iaddN dX8_away_174 ?_
          refine V.istore dX8_away_175 rfl rfl ?_
          dsimp only [List.set]
          refine V.iincN (n := 1) dX8_away_177 rfl rfl rfl ?_
          dsimp only [List.set]
          refine V.goto 76 dX8_away_180 (by decide) ?_
          obtain rfl : q = rN (tS T) := (by omega)
          have z := ih (s + 1) (by omega) (by omega)
          simp only [sB] at z
          first | (rw [if_neg (by omega)] at z; exact z _ _) | (rw [if_pos (by omega)] at z; unfold awT at z; first | (rw [if_pos hdd] at z; exact z _ _) | (rw [if_neg hdd] at z; exact z _ _))
        · skip
          refine V.aload_n dX8_away_157 rfl ?_
          refine V.iload_n dX8_away_158 rfl ?_
          refine V.re (iI_toN (n := p.toNat) (by omega)) ?_
          refine V.iload dX8_away_159 rfl ?_
          refine V.callVp (ci := 8) cX8_113 (m_draftBy g h m F A (tS T) hM hB p.toNat s (by omega) (by omega)) dX8_away_161 (Nat.le_of_ble_eq_true rfl) rfl ho rfl rfl (Nat.le_of_ble_eq_true rfl) ?_
          refine V.iload_n dX8_away_164 rfl ?_
          refine V.re (iI_toN (n := w.toNat) (by omega)) ?_
          refine V.icmp_ne 173 dX8_away_165 (by decide) (fun hc3 => ?_) (fun hc3 => ?_)
          · skip
            have hdd : ¬ draftM (tS T) p.toNat s = some w.toNat := fun z => hc3 ((eO_some (hdl s) (by omega)).mpr z)
            refine V.iconst (v := nI 0) dX8_away_173 (by decide) ?_
            refine V.iaddN dX8_away_174 ?_
            refine V.istore dX8_away_175 rfl rfl ?_
            dsimp only [List.set]
            refine V.iincN (n := 1) dX8_away_177 rfl rfl rfl ?_
            dsimp only [List.set]
            refine V.goto 76 dX8_away_180 (by decide) ?_
            obtain rfl : q = rN (tS T) := (by omega)
            have z := ih (s + 1) (by omega) (by omega)
            simp only [sB] at z
            first | (rw [if_neg (by omega)] at z; exact z _ _) | (rw [if_pos (by omega)] at z; unfold awT at z; first | (rw [if_pos hdd] at z; exact z _ _) | (rw [if_neg hdd] at z; exact z _ _))
          · skip
            have hdd : draftM (tS T) p.toNat s = some w.toNat := (eO_some (hdl s) (by omega)).mp hc3
            refine V.iload dX8_away_168 rfl ?_
            refine V.goto 174 dX8_away_170 (by decide) ?_
            refine V.iaddN dX8_away_174 ?_
            refine V.istore dX8_away_175 rfl rfl ?_
            dsimp only [List.set]
            refine V.iincN (n := 1) dX8_away_177 rfl rfl rfl ?_
            dsimp only [List.set]
            refine V.goto 76 dX8_away_180 (by decide) ?_
            obtain rfl : q = rN (tS T) := (by omega)
            have z := ih (s + 1) (by omega) (by omega)
            simp only [sB] at z
            first | (rw [if_neg (by omega)] at z; exact z _ _) | (rw [if_pos (by omega)] at z; unfold awT at z; first | (rw [if_pos hdd] at z; exact z _ _) | (rw [if_neg hdd] at z; exact z _ _))
      · skip
        refine V.iload dX8_away_106 rfl ?_
        refine V.iload dX8_away_108 rfl ?_
        refine V.iload_n dX8_away_110 rfl ?_
        refine V.re (iI_toN (n := p.toNat) (by omega)) ?_
        refine V.icmp_neN 118 dX8_away_111 (by decide) (by omega) (by omega) (fun hc4 => ?_) (fun hc4 => ?_)
        · skip
          refine V.iload dX8_away_118 rfl ?_
          refine V.iload dX8_away_120 rfl ?_
          refine V.ishrN dX8_away_122 (by omega) (by omega) ?_
          refine V.iconst (v := nI 1) dX8_away_123 (by decide) ?_
          refine V.iand1N dX8_away_124 (Nat.lt_of_le_of_lt (Nat.div_le_self _ _) (by omega)) ?_
          refine V.iconst (v := nI 1) dX8_away_125 (by decide) ?_
          refine V.icmp_neN 136 dX8_away_126 (by decide) (by omega) (by omega) (fun hc5 => ?_) (fun hc5 => ?_)
          · skip
            refine V.iload_n dX8_away_136 rfl ?_
            refine V.re (iI_toN (n := x.toNat) (by omega)) ?_
            refine V.imulN dX8_away_137 ?_
            refine V.istore dX8_away_138 rfl rfl ?_
            dsimp only [List.set]
            refine V.iincN (n := 1) dX8_away_140 rfl rfl rfl ?_
            dsimp only [List.set]
            refine V.goto 95 dX8_away_143 (by decide) ?_
            have z := ih2 (q + 1) (by omega) (by omega)
            simp only [wgF] at z
            first | (rw [if_pos (by omega), if_pos (by omega)] at z; exact z) | (rw [if_pos (by omega), if_neg (by omega)] at z; exact z) | (rw [if_neg (by omega)] at z; rw [Nat.mul_one]; exact z)
          · skip
            refine V.bipush (v := nI 10) dX8_away_129 (by decide) ?_
            refine V.iload_n dX8_away_131 rfl ?_
            refine V.re (iI_toN (n := x.toNat) (by omega)) ?_
            refine V.isubN dX8_away_132 (by omega) ?_
            refine V.goto 137 dX8_away_133 (by decide) ?_
            refine V.imulN dX8_away_137 ?_
            refine V.istore dX8_away_138 rfl rfl ?_
            dsimp only [List.set]
            refine V.iincN (n := 1) dX8_away_140 rfl rfl rfl ?_
            dsimp only [List.set]
            refine V.goto 95 dX8_away_143 (by decide) ?_
            have z := ih2 (q + 1) (by omega) (by omega)
            simp only [wgF] at z
            first | (rw [if_pos (by omega), if_pos (by omega)] at z; exact z) | (rw [if_pos (by omega), if_neg (by omega)] at z; exact z) | (rw [if_neg (by omega)] at z; rw [Nat.mul_one]; exact z)
        · skip
          refine V.iconst (v := nI 1) dX8_away_114 (by decide) ?_
          refine V.goto 137 dX8_away_115 (by decide) ?_
          refine V.imulN dX8_away_137 ?_
          refine V.istore dX8_away_138 rfl rfl ?_
          dsimp only [List.set]
          refine V.iincN (n := 1) dX8_away_140 rfl rfl rfl ?_
          dsimp only [List.set]
          refine V.goto 95 dX8_away_143 (by decide) ?_
          have z := ih2 (q + 1) (by omega) (by omega)
          simp only [wgF] at z
          first | (rw [if_pos (by omega), if_pos (by omega)] at z; exact z) | (rw [if_pos (by omega), if_neg (by omega)] at z; exact z) | (rw [if_neg (by omega)] at z; rw [Nat.mul_one]; exact z)
    refine V.iload dX8_away_76 rfl ?_
    refine V.iconst (v := nI 1) dX8_away_78 (by decide) ?_
    refine V.aload_n dX8_away_79 rfl ?_
    refine V.get fX8_13 dX8_away_80 ho rfl ?_
    refine V.iconst (v := nI 2) dX8_away_83 (by decide) ?_
    refine V.iald dX8_away_84 (hA 2 (by omega) (by omega)).1 rfl (by omega) et2 ?_
    refine V.ishlN dX8_away_85 (p2_lt (by omega)) (by omega) ?_
    refine V.re (y := nI (2 ^ rN (tS T))) (by rw [Nat.one_mul]) ?_
    refine V.icmp_geN 183 dX8_away_86 (by decide) (by omega) (by omega) (fun hc1 => ?_) (fun hc1 => ?_)
    · skip
      refine V.iload dX8_away_183 rfl ?_
      refine V.istore dX8_away_185 rfl rfl ?_
      dsimp only [List.set]
      refine V.iload dX8_away_187 rfl ?_
      refine V.istore dX8_away_189 rfl rfl ?_
      dsimp only [List.set]
      obtain rfl : s = 2 ^ rN (tS T) := (by omega)
      exact L4 hcd _ _ _ (Nat.le_refl _) _ rfl (by omega) (by omega)
    · skip
      refine V.iconst (v := nI 1) dX8_away_89 (by decide) ?_
      refine V.istore dX8_away_90 rfl rfl ?_
      dsimp only [List.set]
      refine V.iconst (v := nI 0) dX8_away_92 (by decide) ?_
      refine V.istore dX8_away_93 rfl rfl ?_
      dsimp only [List.set]
      exact L3 (by omega) 0 (by omega)
  have L1 : (((isP T p ∧ 0 ≤ w ∧ w < ((8 : Nat) : Int)) ∧ 0 ≤ x ∧ x ≤ 10) ∧ 0 ≤ part ∧ part < ((2 : Nat) : Int)) → ∀ k, k ≤ rN (tS T) → 1 ≤ k → V (g, mX8_away, 3, false, h.length, VP (a_away T p w x part) h) (0, 0) 49 [some (.ref m), some (.int (iI p)), some (.int (iI w)), some (.int (iI x)), some (.int (iI part)), some (.int (nI 0)), some (.int (nI (10 ^ (k - 1)))), some (.int (nI k)), none, none] [] h := by
    intro hcd
    refine vloop (rN (tS T)) (fun k ih hi => ?_)
    intro hk1
    refine V.iload dX8_away_49 rfl ?_
    refine V.aload_n dX8_away_51 rfl ?_
    refine V.get fX8_13 dX8_away_52 ho rfl ?_
    refine V.iconst (v := nI 2) dX8_away_55 (by decide) ?_
    refine V.iald dX8_away_56 (hA 2 (by omega) (by omega)).1 rfl (by omega) et2 ?_
    refine V.icmp_geN 73 dX8_away_57 (by decide) (by omega) (by omega) (fun hc1 => ?_) (fun hc1 => ?_)
    · skip
      refine V.iconst (v := nI 0) dX8_away_73 (by decide) ?_
      refine V.istore dX8_away_74 rfl rfl ?_
      dsimp only [List.set]
      obtain rfl : k = rN (tS T) := (by omega)
      exact L2 hcd 0 (Nat.zero_le _) none none
    · skip
      refine V.iload dX8_away_60 rfl ?_
      refine V.bipush (v := nI 10) dX8_away_62 (by decide) ?_
      refine V.imulN dX8_away_64 ?_
      refine V.istore dX8_away_65 rfl rfl ?_
      dsimp only [List.set]
      refine V.iincN (n := 1) dX8_away_67 rfl rfl rfl ?_
      dsimp only [List.set]
      refine V.goto 49 dX8_away_70 (by decide) ?_
      have z := ih (k + 1) (by omega) (by omega) (by omega)
      rw [show 10 ^ (k + 1 - 1) = 10 ^ (k - 1) * 10 by rw [show k + 1 - 1 = (k - 1) + 1 by omega, Nat.pow_succ]] at z
      exact z
  show V _ _ 0 [some (.ref m), some (.int (iI p)), some (.int (iI w)), some (.int (iI x)), some (.int (iI part)), none, none, none, none, none] [] h
  refine V.aload_n dX8_away_0 rfl ?_
  refine V.iload_n dX8_away_1 rfl ?_
  refine V.callVp (ci := 8) cX8_116 (m_isOne g h m F A (tS T) hM hB p (by omega)) dX8_away_2 (Nat.le_of_ble_eq_true rfl) rfl ho rfl rfl (Nat.le_of_ble_eq_true rfl) ?_
  refine V.if_eqB 38 dX8_away_5 (by decide) (fun hc1 => ?_) (fun hc1 => ?_)
  · skip
    refine V.iconst (v := iI (-1)) dX8_away_38 (by decide) ?_
    exact V.iret dX8_away_39 rfl ⟨by unfold a_away; rw [if_neg (by omega)], rfl⟩
  · skip
    refine V.iload_n dX8_away_8 rfl ?_
    refine V.iconst (v := nI 0) dX8_away_9 (by decide) ?_
    refine V.bipush (v := nI 7) dX8_away_10 (by decide) ?_
    refine V.toZ1 ?_
    refine V.toZ2 ?_
    refine V.callSp cX8_53 (m_in g h _ _ _ (by omega) (by omega) (by omega)) dX8_away_12 (Nat.le_of_ble_eq_true rfl) rfl rfl (Nat.le_of_ble_eq_true rfl) ?_
    refine V.if_eqB 38 dX8_away_15 (by decide) (fun hc2 => ?_) (fun hc2 => ?_)
    · skip
      refine V.iconst (v := iI (-1)) dX8_away_38 (by decide) ?_
      exact V.iret dX8_away_39 rfl ⟨by unfold a_away; rw [if_neg (by omega)], rfl⟩
    · skip
      refine V.iload_n dX8_away_18 rfl ?_
      refine V.iconst (v := nI 0) dX8_away_19 (by decide) ?_
      refine V.bipush (v := nI 10) dX8_away_20 (by decide) ?_
      refine V.toZ1 ?_
      refine V.toZ2 ?_
      refine V.callSp cX8_53 (m_in g h _ _ _ (by omega) (by omega) (by omega)) dX8_away_22 (Nat.le_of_ble_eq_true rfl) rfl rfl (Nat.le_of_ble_eq_true rfl) ?_
      refine V.if_eqB 38 dX8_away_25 (by decide) (fun hc3 => ?_) (fun hc3 => ?_)
      · skip
        refine V.iconst (v := iI (-1)) dX8_away_38 (by decide) ?_
        exact V.iret dX8_away_39 rfl ⟨by unfold a_away; rw [if_neg (by omega)], rfl⟩
      · skip
        refine V.iload dX8_away_28 rfl ?_
        refine V.iconst (v := nI 0) dX8_away_30 (by decide) ?_
        refine V.iconst (v := nI 1) dX8_away_31 (by decide) ?_
        refine V.toZ1 ?_
        refine V.toZ2 ?_
        refine V.callSp cX8_53 (m_in g h _ _ _ (by omega) (by omega) (by omega)) dX8_away_32 (Nat.le_of_ble_eq_true rfl) rfl rfl (Nat.le_of_ble_eq_true rfl) ?_
        refine V.if_neB 40 dX8_away_35 (by decide) (fun hc4 => ?_) (fun hc4 => ?_)
        · skip
          refine V.iconst (v := nI 0) dX8_away_40 (by decide) ?_
          refine V.istore dX8_away_41 rfl rfl ?_
          dsimp only [List.set]
          refine V.iconst (v := nI 1) dX8_away_43 (by decide) ?_
          refine V.istore dX8_away_44 rfl rfl ?_
          dsimp only [List.set]
          refine V.iconst (v := nI 1) dX8_away_46 (by decide) ?_
          refine V.istore dX8_away_47 rfl rfl ?_
          dsimp only [List.set]
          exact L1 (by omega) 1 (by omega) (by omega)
        · skip
          refine V.iconst (v := iI (-1)) dX8_away_38 (by decide) ?_
          exact V.iret dX8_away_39 rfl ⟨by unfold a_away; rw [if_neg (by omega)], rfl⟩
