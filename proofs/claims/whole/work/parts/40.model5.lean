set_option maxHeartbeats 1000000 in
theorem m_leans (g : VG) (h : VHp) (m : Nat) (F : MF) (A : MA) (S : Rm) (hM : MRm h m F A S) (hB : RmB S) (a b : Nat) (ha : a < rN S) (hb : b ≤ rN S) : VE g mX8_leans 0 false (0, 0) [.ref m, .int (nI a), .int (nI b)] h (VP (iI (if b = rN S then 0 else rL S a b)) h) := by
  obtain ⟨hw, ⟨et0, et1, et2, ek⟩, es0, ev, ex, ey, eL⟩ := id hM
  obtain ⟨ho, hA⟩ := id hw
  obtain ⟨bn, bW, bH, bP, bL⟩ := id hB
  refine VE.of (by decide) rfl (Nat.le_of_ble_eq_true rfl) ?_
  show V _ _ 0 [some (.ref m), some (.int (nI a)), some (.int (nI b))] [] h
  refine V.iload_n dX8_leans_0 rfl ?_
  refine V.aload_n dX8_leans_1 rfl ?_
  refine V.get fX8_13 dX8_leans_2 ho rfl ?_
  refine V.iconst (v := nI 2) dX8_leans_5 (by decide) ?_
  refine V.iald dX8_leans_6 (hA 2 (by omega) (by omega)).1 rfl (by omega) et2 ?_
  refine V.icmp_neN 14 dX8_leans_7 (by decide) (by omega) (by omega) (fun hc1 => ?_) (fun hc1 => ?_)
  · skip
    refine V.aload_n dX8_leans_14 rfl ?_
    refine V.get fX8_22 dX8_leans_15 ho rfl ?_
    refine V.bipush (v := nI 19) dX8_leans_18 (by decide) ?_
    refine V.bipush (v := nI 6) dX8_leans_20 (by decide) ?_
    refine V.iload_n dX8_leans_22 rfl ?_
    refine V.imulN dX8_leans_23 ?_
    refine V.iaddN dX8_leans_24 ?_
    refine V.iload_n dX8_leans_25 rfl ?_
    refine V.iaddN dX8_leans_26 ?_
    refine V.iald dX8_leans_27 (hA 5 (by omega) (by omega)).1 rfl (by omega) (eL _ _ (by omega) (by omega)) ?_
    exact V.iret dX8_leans_28 rfl ⟨by first | (exfalso; omega) | (first | (rw [if_pos (by omega)]; exact congrArg _ (congrArg _ (iI_nat 0).symm)) | (rw [if_neg (by omega)])), rfl⟩
  · skip
    refine V.iconst (v := nI 0) dX8_leans_10 (by decide) ?_
    refine V.goto 28 dX8_leans_11 (by decide) ?_
    exact V.iret dX8_leans_28 rfl ⟨by first | (exfalso; omega) | (first | (rw [if_pos (by omega)]; exact congrArg _ (congrArg _ (iI_nat 0).symm)) | (rw [if_neg (by omega)])), rfl⟩

set_option maxHeartbeats 1000000 in
theorem m_towardOf (g : VG) (h : VHp) (m : Nat) (F : MF) (A : MA) (S : Rm) (hM : MRm h m F A S) (hB : RmB S) (p : Nat) (hp : p < rN S) : VE g mX8_towardOf 2 false (0, 0) [.ref m, .int (nI p)] h (VP (nI (bitsF (fun q => tellF S p q) (rN S))) h) := by
  obtain ⟨hw, ⟨et0, et1, et2, ek⟩, es0, ev, ex, ey, eL⟩ := id hM
  obtain ⟨ho, hA⟩ := id hw
  obtain ⟨bn, bW, bH, bP, bL⟩ := id hB
  have bp := bP p hp
  have hlt : ∀ q i, wayF ((rX S q : Int) - rX S p) ((rY S q : Int) - rY S p) = some i → i < 1000 := fun q i z => by have := wayF_lt z; omega
  refine VE.of (by decide) rfl (Nat.le_of_ble_eq_true rfl) ?_
  have L : ∀ q, q ≤ rN S → ∀ v4 : Option Value, V (g, mX8_towardOf, 2, false, h.length, VP (nI (bitsF (fun q => tellF S p q) (rN S))) h) (0, 0) 4 [some (.ref m), some (.int (nI p)), some (.int (nI (bitsF (fun q => tellF S p q) q))), some (.int (nI q)), v4] [] h := by
    refine vloop (rN S) (fun q ih hi => ?_)
    intro v4
    refine V.iload_n dX8_towardOf_4 rfl ?_
    refine V.aload_n dX8_towardOf_5 rfl ?_
    refine V.get fX8_13 dX8_towardOf_6 ho rfl ?_
    refine V.iconst (v := nI 2) dX8_towardOf_9 (by decide) ?_
    refine V.iald dX8_towardOf_10 (hA 2 (by omega) (by omega)).1 rfl (by omega) et2 ?_
    refine V.icmp_geN 99 dX8_towardOf_11 (by decide) (by omega) (by omega) (fun hc1 => ?_) (fun hc1 => ?_)
    · skip
      refine V.iload_n dX8_towardOf_99 rfl ?_
      exact V.iret dX8_towardOf_100 rfl ⟨by first | (exfalso; omega) | (obtain rfl : q = rN S := (by omega); rfl), rfl⟩
    · skip
      have bq := bP q hc1
      refine V.iload_n dX8_towardOf_14 rfl ?_
      refine V.iload_n dX8_towardOf_15 rfl ?_
      refine V.icmp_eqN 75 dX8_towardOf_16 (by decide) (by omega) (by omega) (fun hc2 => ?_) (fun hc2 => ?_)
      · skip
        have hno : ¬ tellF S p q := fun z => z.1 (by omega)
        refine V.iconst (v := nI 0) dX8_towardOf_75 (by decide) ?_
        refine V.istore dX8_towardOf_76 rfl rfl ?_
        dsimp only [List.set]
        refine V.iload_n dX8_towardOf_78 rfl ?_
        refine V.iload dX8_towardOf_79 rfl ?_
        refine V.if_eqN 90 dX8_towardOf_81 (by decide) (by omega) (fun hc3 => ?_) (fun hc3 => ?_)
        · skip
          refine V.iconst (v := nI 0) dX8_towardOf_90 (by decide) ?_
          refine V.iorN dX8_towardOf_91 ?_
          refine V.istore_n (i := 2) dX8_towardOf_92 rfl rfl rfl ?_
          dsimp only [List.set]
          refine V.iincN (n := 1) dX8_towardOf_93 rfl rfl rfl ?_
          dsimp only [List.set]
          refine V.goto 4 dX8_towardOf_96 (by decide) ?_
          have z := fun u => ih (q + 1) (by omega) (by omega) u
          first | (rw [bits_pos (P := fun q => tellF S p q) (n := q) hyes] at z; exact z _) | (rw [bits_neg (P := fun q => tellF S p q) (n := q) hno] at z; rw [Nat.or_zero]; exact z _)
        · exact absurd rfl hc3
      · skip
        refine V.aload_n dX8_towardOf_19 rfl ?_
        refine V.get fX8_22 dX8_towardOf_20 ho rfl ?_
        refine V.bipush (v := nI 7) dX8_towardOf_23 (by decide) ?_
        refine V.iload_n dX8_towardOf_25 rfl ?_
        refine V.iaddN dX8_towardOf_26 ?_
        refine V.iald dX8_towardOf_27 (hA 5 (by omega) (by omega)).1 rfl (by omega) (ex _ (by omega)) ?_
        refine V.aload_n dX8_towardOf_28 rfl ?_
        refine V.get fX8_22 dX8_towardOf_29 ho rfl ?_
        refine V.bipush (v := nI 7) dX8_towardOf_32 (by decide) ?_
        refine V.iload_n dX8_towardOf_34 rfl ?_
        refine V.iaddN dX8_towardOf_35 ?_
        refine V.iald dX8_towardOf_36 (hA 5 (by omega) (by omega)).1 rfl (by omega) (ex _ (by omega)) ?_
        refine V.toZ1 ?_
        refine V.toZ2 ?_
        refine V.isubZ dX8_towardOf_37 ?_
        refine V.aload_n dX8_towardOf_38 rfl ?_
        refine V.get fX8_22 dX8_towardOf_39 ho rfl ?_
        refine V.bipush (v := nI 13) dX8_towardOf_42 (by decide) ?_
        refine V.iload_n dX8_towardOf_44 rfl ?_
        refine V.iaddN dX8_towardOf_45 ?_
        refine V.iald dX8_towardOf_46 (hA 5 (by omega) (by omega)).1 rfl (by omega) (ey _ (by omega)) ?_
        refine V.aload_n dX8_towardOf_47 rfl ?_
        refine V.get fX8_22 dX8_towardOf_48 ho rfl ?_
        refine V.bipush (v := nI 13) dX8_towardOf_51 (by decide) ?_
        refine V.iload_n dX8_towardOf_53 rfl ?_
        refine V.iaddN dX8_towardOf_54 ?_
        refine V.iald dX8_towardOf_55 (hA 5 (by omega) (by omega)).1 rfl (by omega) (ey _ (by omega)) ?_
        refine V.toZ1 ?_
        refine V.toZ2 ?_
        refine V.isubZ dX8_towardOf_56 ?_
        refine V.callSp cX8_106 (m_way g h _ _ (by omega) (by omega)) dX8_towardOf_57 (Nat.le_of_ble_eq_true rfl) rfl rfl (Nat.le_of_ble_eq_true rfl) ?_
        refine V.aload_n dX8_towardOf_60 rfl ?_
        refine V.get fX8_22 dX8_towardOf_61 ho rfl ?_
        refine V.iconst (v := nI 1) dX8_towardOf_64 (by decide) ?_
        refine V.iload_n dX8_towardOf_65 rfl ?_
        refine V.iaddN dX8_towardOf_66 ?_
        refine V.iald dX8_towardOf_67 (hA 5 (by omega) (by omega)).1 rfl (by omega) (ev _ (by omega)) ?_
        refine V.icmp_ne 75 dX8_towardOf_68 (by decide) (fun hc4 => ?_) (fun hc4 => ?_)
        · skip
          have hno : ¬ tellF S p q := fun z => hc4 ((eO_some (hlt q) (by omega)).mpr z.2)
          refine V.iconst (v := nI 0) dX8_towardOf_75 (by decide) ?_
          refine V.istore dX8_towardOf_76 rfl rfl ?_
          dsimp only [List.set]
          refine V.iload_n dX8_towardOf_78 rfl ?_
          refine V.iload dX8_towardOf_79 rfl ?_
          refine V.if_eqN 90 dX8_towardOf_81 (by decide) (by omega) (fun hc5 => ?_) (fun hc5 => ?_)
          · skip
            refine V.iconst (v := nI 0) dX8_towardOf_90 (by decide) ?_
            refine V.iorN dX8_towardOf_91 ?_
            refine V.istore_n (i := 2) dX8_towardOf_92 rfl rfl rfl ?_
            dsimp only [List.set]
            refine V.iincN (n := 1) dX8_towardOf_93 rfl rfl rfl ?_
            dsimp only [List.set]
            refine V.goto 4 dX8_towardOf_96 (by decide) ?_
            have z := fun u => ih (q + 1) (by omega) (by omega) u
            first | (rw [bits_pos (P := fun q => tellF S p q) (n := q) hyes] at z; exact z _) | (rw [bits_neg (P := fun q => tellF S p q) (n := q) hno] at z; rw [Nat.or_zero]; exact z _)
          · exact absurd rfl hc5
        · skip
          have hyes : tellF S p q := ⟨by omega, (eO_some (hlt q) (by omega)).mp hc4⟩
          refine V.iconst (v := nI 1) dX8_towardOf_71 (by decide) ?_
          refine V.goto 76 dX8_towardOf_72 (by decide) ?_
          refine V.istore dX8_towardOf_76 rfl rfl ?_
          dsimp only [List.set]
          refine V.iload_n dX8_towardOf_78 rfl ?_
          refine V.iload dX8_towardOf_79 rfl ?_
          refine V.if_eqN 90 dX8_towardOf_81 (by decide) (by omega) (fun hc6 => ?_) (fun hc6 => ?_)
          · exact absurd hc6 (by omega)
          · skip
            refine V.iconst (v := nI 1) dX8_towardOf_84 (by decide) ?_
            refine V.iload_n dX8_towardOf_85 rfl ?_
            refine V.ishlN dX8_towardOf_86 (p2_lt (by omega)) (by omega) ?_
            refine V.goto 91 dX8_towardOf_87 (by decide) ?_
            refine V.iorN dX8_towardOf_91 ?_
            refine V.istore_n (i := 2) dX8_towardOf_92 rfl rfl rfl ?_
            dsimp only [List.set]
            refine V.iincN (n := 1) dX8_towardOf_93 rfl rfl rfl ?_
            dsimp only [List.set]
            refine V.goto 4 dX8_towardOf_96 (by decide) ?_
            have z := fun u => ih (q + 1) (by omega) (by omega) u
            first | (rw [bits_pos (P := fun q => tellF S p q) (n := q) hyes] at z; exact z _) | (rw [bits_neg (P := fun q => tellF S p q) (n := q) hno] at z; rw [Nat.or_zero]; exact z _)
  show V _ _ 0 [some (.ref m), some (.int (nI p)), none, none, none] [] h
  refine V.iconst (v := nI 0) dX8_towardOf_0 (by decide) ?_
  refine V.istore_n (i := 2) dX8_towardOf_1 rfl rfl rfl ?_
  dsimp only [List.set]
  refine V.iconst (v := nI 0) dX8_towardOf_2 (by decide) ?_
  refine V.istore_n (i := 3) dX8_towardOf_3 rfl rfl rfl ?_
  dsimp only [List.set]
  exact L 0 (by omega) none

set_option maxHeartbeats 1000000 in
theorem m_holds (g : VG) (h : VHp) (m : Nat) (F : MF) (A : MA) (hM : MRaw h m F A) : VE g mX8_holds 0 false (0, 0) [.ref m] h (MQr m F A 9 (A 5) h none) := by
  refine VE.of (by decide) rfl (Nat.le_of_ble_eq_true rfl) ?_
  have L : ∀ k, k ≤ 55 → ∀ (h1 : VHp) (z : List Int32), MRaw h1 m F (upA A 9 z) → z.length = 55 → (∀ j, j < k → z[j]? = (A 5)[j]?) → VFr (m + 9) (m + 9 + 1) h h1 → V (g, mX8_holds, 0, false, h.length, MQr m F A 9 (A 5) h none) (0, 0) 2 [some (.ref m), some (.int (nI k))] [] h1 := by
    refine vloop 55 (fun k ih hi => ?_)
    intro h1 z hM1 hz hcp hf
    obtain ⟨ho, hA⟩ := id hM1
    have hsl : (A 5).length = 55 := (hM.2 5 (by omega) (by omega)).2
    have hds := (hA 9 (by omega) (by omega)).1
    rw [upA_s] at hds
    have hsr := (hA 5 (by omega) (by omega)).1
    rw [upA_n (by omega)] at hsr
    refine V.iload_n dX8_holds_2 rfl ?_
    refine V.bipush (v := nI 55) dX8_holds_3 (by decide) ?_
    refine V.icmp_geN 26 dX8_holds_5 (by decide) (by omega) (by omega) (fun hc1 => ?_) (fun hc1 => ?_)
    · skip
      obtain rfl : k = 55 := (by omega)
      have ez := cp_end hcp hz hsl
      subst ez
      exact V.vret dX8_holds_26 rfl ⟨rfl, hM1, hf⟩
    · skip
      refine V.aload_n dX8_holds_8 rfl ?_
      refine V.get fX8_34 dX8_holds_9 ho rfl ?_
      refine V.iload_n dX8_holds_12 rfl ?_
      refine V.aload_n dX8_holds_13 rfl ?_
      refine V.get fX8_22 dX8_holds_14 ho rfl ?_
      refine V.iload_n dX8_holds_17 rfl ?_
      refine V.iald dX8_holds_18 hsr rfl (by omega) (getD_some (by omega)) ?_
      refine V.iast dX8_holds_19 hds rfl (by omega) (by omega) ?_
      refine V.iincN (n := 1) dX8_holds_20 rfl rfl rfl ?_
      dsimp only [List.set]
      refine V.goto 2 dX8_holds_23 (by decide) ?_
      exact ih (k + 1) (by omega) (by omega) _ (z.set k ((A 5).getD k 0)) (by have q := MRaw.set hM1 9 (by omega) (by omega) (z.set k ((A 5).getD k 0)) (by rw [List.length_set, hz]; rfl); rw [upA_upA] at q; exact q) (by rw [List.length_set]; exact hz) (cp_step hcp (by omega) (by omega)) (hf.tr (VFr.set (by omega) (by omega)))
  show V _ _ 0 [some (.ref m), none] [] h
  refine V.iconst (v := nI 0) dX8_holds_0 (by decide) ?_
  refine V.istore_n (i := 1) dX8_holds_1 rfl rfl rfl ?_
  dsimp only [List.set]
  exact L 0 (by omega) h (A 9) (by rw [upA_id]; exact hM) (hM.2 9 (by omega) (by omega)).2 (fun j hj => absurd hj (Nat.not_lt_zero _)) VFr.rf

set_option maxHeartbeats 1000000 in
theorem m_lets (g : VG) (h : VHp) (m : Nat) (F : MF) (A : MA) (hM : MRaw h m F A) : VE g mX8_lets 0 false (0, 0) [.ref m] h (MQr m F A 5 (A 9) h none) := by
  refine VE.of (by decide) rfl (Nat.le_of_ble_eq_true rfl) ?_
  have L : ∀ k, k ≤ 55 → ∀ (h1 : VHp) (z : List Int32), MRaw h1 m F (upA A 5 z) → z.length = 55 → (∀ j, j < k → z[j]? = (A 9)[j]?) → VFr (m + 5) (m + 5 + 1) h h1 → V (g, mX8_lets, 0, false, h.length, MQr m F A 5 (A 9) h none) (0, 0) 2 [some (.ref m), some (.int (nI k))] [] h1 := by
    refine vloop 55 (fun k ih hi => ?_)
    intro h1 z hM1 hz hcp hf
    obtain ⟨ho, hA⟩ := id hM1
    have hsl : (A 9).length = 55 := (hM.2 9 (by omega) (by omega)).2
    have hds := (hA 5 (by omega) (by omega)).1
    rw [upA_s] at hds
    have hsr := (hA 9 (by omega) (by omega)).1
    rw [upA_n (by omega)] at hsr
    refine V.iload_n dX8_lets_2 rfl ?_
    refine V.bipush (v := nI 55) dX8_lets_3 (by decide) ?_
    refine V.icmp_geN 26 dX8_lets_5 (by decide) (by omega) (by omega) (fun hc1 => ?_) (fun hc1 => ?_)
    · skip
      obtain rfl : k = 55 := (by omega)
      have ez := cp_end hcp hz hsl
      subst ez
      exact V.vret dX8_lets_26 rfl ⟨rfl, hM1, hf⟩
    · skip
      refine V.aload_n dX8_lets_8 rfl ?_
      refine V.get fX8_22 dX8_lets_9 ho rfl ?_
      refine V.iload_n dX8_lets_12 rfl ?_
      refine V.aload_n dX8_lets_13 rfl ?_
      refine V.get fX8_34 dX8_lets_14 ho rfl ?_
      refine V.iload_n dX8_lets_17 rfl ?_
      refine V.iald dX8_lets_18 hsr rfl (by omega) (getD_some (by omega)) ?_
      refine V.iast dX8_lets_19 hds rfl (by omega) (by omega) ?_
      refine V.iincN (n := 1) dX8_lets_20 rfl rfl rfl ?_
      dsimp only [List.set]
      refine V.goto 2 dX8_lets_23 (by decide) ?_
      exact ih (k + 1) (by omega) (by omega) _ (z.set k ((A 9).getD k 0)) (by have q := MRaw.set hM1 5 (by omega) (by omega) (z.set k ((A 9).getD k 0)) (by rw [List.length_set, hz]; rfl); rw [upA_upA] at q; exact q) (by rw [List.length_set]; exact hz) (cp_step hcp (by omega) (by omega)) (hf.tr (VFr.set (by omega) (by omega)))
  show V _ _ 0 [some (.ref m), none] [] h
  refine V.iconst (v := nI 0) dX8_lets_0 (by decide) ?_
  refine V.istore_n (i := 1) dX8_lets_1 rfl rfl rfl ?_
  dsimp only [List.set]
  exact L 0 (by omega) h (A 5) (by rw [upA_id]; exact hM) (hM.2 5 (by omega) (by omega)).2 (fun j hj => absurd hj (Nat.not_lt_zero _)) VFr.rf

set_option maxHeartbeats 1000000 in
theorem m_passes (g : VG) (h : VHp) (m : Nat) (F : MF) (A : MA) (S : Rm) (hM : MRm h m F A S) (hB : RmB S) : VE g mX8_passes 4 false (0, 0) [.ref m] h (MQ5 m F A (hourF S) h (some (.int (nI (turnsF S))))) := by
  refine VE.of (by decide) rfl (Nat.le_of_ble_eq_true rfl) ?_
  have L : ∀ p, p ≤ rN S → ∀ (h1 : VHp) (s1 : List Int32) (v3 : Option Value), MRm h1 m F (upA A 5 s1) (rSetV S (mixV S p) (rT S)) → VFr (m + 5) (m + 6) h h1 → V (g, mX8_passes, 4, false, h.length, MQ5 m F A (hourF S) h (some (.int (nI (turnsF S))))) (0, 0) 4 [some (.ref m), some (.int (nI (cntP (fun p => vaneF S p ≠ rV S p) p))), some (.int (nI p)), v3] [] h1 := by
    refine vloop (rN S) (fun p ih hi => ?_)
    intro h1 s1 v3 hM1 hf
    obtain ⟨hw, ⟨et0, et1, et2, ek⟩, es0, ev, ex, ey, eL⟩ := id hM1
    obtain ⟨ho, hA⟩ := id hw
    obtain ⟨bn, bW, bH, bP, bL⟩ := id hB
    have et2 : (upA A 5 s1 2)[2]? = some (nI (rN S)) := et2
    have ev : ∀ i, i < rN S → (upA A 5 s1 5)[1 + i]? = some (nI (mixV S p i)) := ev
    have es0 : (upA A 5 s1 5)[0]? = some (nI (rT S)) := es0
    have hl5 := hM1.len
    have hcb := cntP_le (P := fun p => vaneF S p ≠ rV S p) p
    refine V.iload_n dX8_passes_4 rfl ?_
    refine V.aload_n dX8_passes_5 rfl ?_
    refine V.get fX8_13 dX8_passes_6 ho rfl ?_
    refine V.iconst (v := nI 2) dX8_passes_9 (by decide) ?_
    refine V.iald dX8_passes_10 (hA 2 (by omega) (by omega)).1 rfl (by omega) et2 ?_
    refine V.icmp_geN 60 dX8_passes_11 (by decide) (by omega) (by omega) (fun hc1 => ?_) (fun hc1 => ?_)
    · skip
      refine V.aload_n dX8_passes_60 rfl ?_
      refine V.get fX8_22 dX8_passes_61 ho rfl ?_
      refine V.iconst (v := nI 0) dX8_passes_64 (by decide) ?_
      refine V.dup2 dX8_passes_65 rfl rfl ?_
      refine V.iald dX8_passes_66 (hA 5 (by omega) (by omega)).1 rfl (by omega) es0 ?_
      refine V.iconst (v := nI 1) dX8_passes_67 (by decide) ?_
      refine V.iaddN dX8_passes_68 ?_
      refine V.iast dX8_passes_69 (hA 5 (by omega) (by omega)).1 rfl (by omega) (by omega) ?_
      refine V.iload_n dX8_passes_70 rfl ?_
      obtain rfl : p = rN S := (by omega)
      have hM2 := MRm.w5 (S' := hourF S) hM1 ((upA A 5 s1 5).set 0 (nI (rT S + 1))) (by rw [List.length_set]; exact hl5) (hour_row (RowS.t (A := upA A 5 s1) (t := rT S + 1) hM1.2.2 hl5 bn)) rfl rfl rfl rfl
      rw [upA_upA] at hM2
      exact V.iret dX8_passes_71 rfl ⟨rfl, _, hM2, hf.tr (VFr.set (by omega) (by omega))⟩
    · skip
      have hp9 : p < rN (rSetV S (mixV S p) (rT S)) := hc1
      have bp := bP p hc1
      have bv := vaneF_lt hB hc1
      have hBT : RmB (rSetV S (mixV S p) (rT S)) := mix_B hB p
      refine V.aload_n dX8_passes_14 rfl ?_
      refine V.iload_n dX8_passes_15 rfl ?_
      refine V.aload_n dX8_passes_16 rfl ?_
      refine V.iload_n dX8_passes_17 rfl ?_
      refine V.callVp (ci := 8) cX8_119 (m_draftOf g h1 m F _ (rSetV S (mixV S p) (rT S)) hM1 hBT p (by show _ < rN S; omega)) dX8_passes_18 (Nat.le_of_ble_eq_true rfl) rfl ho rfl rfl (Nat.le_of_ble_eq_true rfl) ?_
      refine V.re (y := eO (draftF S p)) (congrArg eO draft_setV) ?_
      refine V.callVp (ci := 8) cX8_129 (m_next g h1 m F _ (rSetV S (mixV S p) (rT S)) hM1 hBT p (draftF S p) (by show _ < rN S; omega) (fun _ z => draftF_lt z)) dX8_passes_21 (Nat.le_of_ble_eq_true rfl) rfl ho rfl rfl (Nat.le_of_ble_eq_true rfl) ?_
      refine V.re (y := nI (vaneF S p)) (by show nI (nextF (rK S p) (mixV S p p) (draftF S p)) = _; rw [show mixV S p p = rV S p from if_neg (Nat.lt_irrefl p)]; rfl) ?_
      refine V.istore_n (i := 3) dX8_passes_24 rfl rfl rfl ?_
      dsimp only [List.set]
      refine V.iload_n dX8_passes_25 rfl ?_
      refine V.iload_n dX8_passes_26 rfl ?_
      refine V.aload_n dX8_passes_27 rfl ?_
      refine V.get fX8_22 dX8_passes_28 ho rfl ?_
      refine V.iconst (v := nI 1) dX8_passes_31 (by decide) ?_
      refine V.iload_n dX8_passes_32 rfl ?_
      refine V.iaddN dX8_passes_33 ?_
      refine V.iald dX8_passes_34 (hA 5 (by omega) (by omega)).1 rfl (by omega) (ev _ (by omega)) ?_
      refine V.re (y := nI (rV S p)) (congrArg nI (if_neg (Nat.lt_irrefl p))) ?_
      refine V.icmp_neN 42 dX8_passes_35 (by decide) (by omega) (by omega) (fun hc2 => ?_) (fun hc2 => ?_)
      · skip
        refine V.iconst (v := nI 1) dX8_passes_42 (by decide) ?_
        refine V.iaddN dX8_passes_43 ?_
        refine V.istore_n (i := 1) dX8_passes_44 rfl rfl rfl ?_
        dsimp only [List.set]
        refine V.aload_n dX8_passes_45 rfl ?_
        refine V.get fX8_22 dX8_passes_46 ho rfl ?_
        refine V.iconst (v := nI 1) dX8_passes_49 (by decide) ?_
        refine V.iload_n dX8_passes_50 rfl ?_
        refine V.iaddN dX8_passes_51 ?_
        refine V.iload_n dX8_passes_52 rfl ?_
        refine V.iast dX8_passes_53 (hA 5 (by omega) (by omega)).1 rfl (by omega) (by omega) ?_
        refine V.iincN (n := 1) dX8_passes_54 rfl rfl rfl ?_
        dsimp only [List.set]
        refine V.goto 4 dX8_passes_57 (by decide) ?_
        have hM2 : MRm _ m F (upA (upA A 5 s1) 5 ((upA A 5 s1 5).set (1 + p) (nI (vaneF S p)))) (rSetV S (mixV S (p + 1)) (rT S)) := MRm.w5 hM1 _ (by rw [List.length_set]; exact hl5) (RowS.v (A := upA A 5 s1) (V := mixV S (p + 1)) hM1.2.2 hl5 bn hp9 (fun i hi => mix_up hi)) rfl rfl rfl rfl
        rw [upA_upA] at hM2
        have z := fun u => ih (p + 1) (by omega) (by omega) _ _ u hM2 (hf.tr (VFr.set (by omega) (by omega)))
        first | (rw [cntP_pos (P := fun p => vaneF S p ≠ rV S p) (n := p) (by omega)] at z; exact z _) | (rw [cntP_neg (P := fun p => vaneF S p ≠ rV S p) (n := p) (by omega)] at z; rw [Nat.add_zero]; exact z _)
      · skip
        refine V.iconst (v := nI 0) dX8_passes_38 (by decide) ?_
        refine V.goto 43 dX8_passes_39 (by decide) ?_
        refine V.iaddN dX8_passes_43 ?_
        refine V.istore_n (i := 1) dX8_passes_44 rfl rfl rfl ?_
        dsimp only [List.set]
        refine V.aload_n dX8_passes_45 rfl ?_
        refine V.get fX8_22 dX8_passes_46 ho rfl ?_
        refine V.iconst (v := nI 1) dX8_passes_49 (by decide) ?_
        refine V.iload_n dX8_passes_50 rfl ?_
        refine V.iaddN dX8_passes_51 ?_
        refine V.iload_n dX8_passes_52 rfl ?_
        refine V.iast dX8_passes_53 (hA 5 (by omega) (by omega)).1 rfl (by omega) (by omega) ?_
        refine V.iincN (n := 1) dX8_passes_54 rfl rfl rfl ?_
        dsimp only [List.set]
        refine V.goto 4 dX8_passes_57 (by decide) ?_
        have hM2 : MRm _ m F (upA (upA A 5 s1) 5 ((upA A 5 s1 5).set (1 + p) (nI (vaneF S p)))) (rSetV S (mixV S (p + 1)) (rT S)) := MRm.w5 hM1 _ (by rw [List.length_set]; exact hl5) (RowS.v (A := upA A 5 s1) (V := mixV S (p + 1)) hM1.2.2 hl5 bn hp9 (fun i hi => mix_up hi)) rfl rfl rfl rfl
        rw [upA_upA] at hM2
        have z := fun u => ih (p + 1) (by omega) (by omega) _ _ u hM2 (hf.tr (VFr.set (by omega) (by omega)))
        first | (rw [cntP_pos (P := fun p => vaneF S p ≠ rV S p) (n := p) (by omega)] at z; exact z _) | (rw [cntP_neg (P := fun p => vaneF S p ≠ rV S p) (n := p) (by omega)] at z; rw [Nat.add_zero]; exact z _)
  show V _ _ 0 [some (.ref m), none, none, none] [] h
  refine V.iconst (v := nI 0) dX8_passes_0 (by decide) ?_
  refine V.istore_n (i := 1) dX8_passes_1 rfl rfl rfl ?_
  dsimp only [List.set]
  refine V.iconst (v := nI 0) dX8_passes_2 (by decide) ?_
  refine V.istore_n (i := 2) dX8_passes_3 rfl rfl rfl ?_
  dsimp only [List.set]
  exact L 0 (by omega) h (A 5) none (by rw [mix_zero, upA_id]; exact hM) VFr.rf
