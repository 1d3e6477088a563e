set_option maxHeartbeats 1000000 in
theorem m_in (g : VG) (h : VHp) (v a b : Int) (hv : -2147483648 ≤ v ∧ v < 2147483648) (ha : -2147483648 ≤ a ∧ a < 2147483648) (hb : -2147483648 ≤ b ∧ b < 2147483648) : VE g mX8_in 0 false (0, 0) [.int (iI v), .int (iI a), .int (iI b)] h (VP (vB (a ≤ v ∧ v ≤ b)) h) := by
  refine VE.of (by decide) rfl (Nat.le_of_ble_eq_true rfl) ?_
  show V _ _ 0 [some (.int (iI v)), some (.int (iI a)), some (.int (iI b))] [] h
  refine V.iload_n dX8_in_0 rfl ?_
  refine V.iload_n dX8_in_1 rfl ?_
  refine V.icmp_ltZ 14 dX8_in_2 (by decide) (by omega) (by omega) (fun hc1 => ?_) (fun hc1 => ?_)
  · skip
    refine V.iconst (v := nI 0) dX8_in_14 (by decide) ?_
    exact V.zret dX8_in_15 rfl (by first | exact vB_01 | decide) ⟨by first | (exfalso; omega) | (first | (rw [vB_t (by omega)]; rfl) | (rw [vB_f (by omega)]; rfl)), rfl⟩
  · skip
    refine V.iload_n dX8_in_5 rfl ?_
    refine V.iload_n dX8_in_6 rfl ?_
    refine V.icmp_gtZ 14 dX8_in_7 (by decide) (by omega) (by omega) (fun hc2 => ?_) (fun hc2 => ?_)
    · skip
      refine V.iconst (v := nI 0) dX8_in_14 (by decide) ?_
      exact V.zret dX8_in_15 rfl (by first | exact vB_01 | decide) ⟨by first | (exfalso; omega) | (first | (rw [vB_t (by omega)]; rfl) | (rw [vB_f (by omega)]; rfl)), rfl⟩
    · skip
      refine V.iconst (v := nI 1) dX8_in_10 (by decide) ?_
      refine V.goto 15 dX8_in_11 (by decide) ?_
      exact V.zret dX8_in_15 rfl (by first | exact vB_01 | decide) ⟨by first | (exfalso; omega) | (first | (rw [vB_t (by omega)]; rfl) | (rw [vB_f (by omega)]; rfl)), rfl⟩

set_option maxHeartbeats 1000000 in
theorem m_abs (g : VG) (h : VHp) (v : Int) (hv : -2147483648 < v ∧ v < 2147483648) : VE g mX8_abs 0 false (0, 0) [.int (iI v)] h (VP (iI ((v.natAbs : Nat) : Int)) h) := by
  refine VE.of (by decide) rfl (Nat.le_of_ble_eq_true rfl) ?_
  show V _ _ 0 [some (.int (iI v))] [] h
  refine V.iload_n dX8_abs_0 rfl ?_
  refine V.if_geZ 9 dX8_abs_1 (by decide) (by omega) (fun hc1 => ?_) (fun hc1 => ?_)
  · skip
    refine V.iload_n dX8_abs_9 rfl ?_
    exact V.iret dX8_abs_10 rfl ⟨by first | (exfalso; omega) | (exact congrArg _ (congrArg _ (congrArg iI (by omega)))), rfl⟩
  · skip
    refine V.iload_n dX8_abs_4 rfl ?_
    refine V.inegZ dX8_abs_5 ?_
    refine V.goto 10 dX8_abs_6 (by decide) ?_
    exact V.iret dX8_abs_10 rfl ⟨by first | (exfalso; omega) | (exact congrArg _ (congrArg _ (congrArg iI (by omega)))), rfl⟩

set_option maxHeartbeats 1000000 in
theorem m_isOne (g : VG) (h : VHp) (m : Nat) (F : MF) (A : MA) (S : Rm) (hM : MRm h m F A S) (hB : RmB S) (p : Int) (hp : -2147483648 ≤ p ∧ p < 2147483648) : VE g mX8_isOne 1 false (0, 0) [.ref m, .int (iI p)] h (VP (vB (0 ≤ p ∧ p < ((rN S : Nat) : Int))) h) := by
  obtain ⟨hw, ⟨et0, et1, et2, ek⟩, es0, ev, ex, ey, eL⟩ := id hM
  obtain ⟨ho, hA⟩ := id hw
  obtain ⟨bn, bW, bH, bP, bL⟩ := id hB
  refine VE.of (by decide) rfl (Nat.le_of_ble_eq_true rfl) ?_
  show V _ _ 0 [some (.ref m), some (.int (iI p))] [] h
  refine V.iload_n dX8_isOne_0 rfl ?_
  refine V.iconst (v := nI 0) dX8_isOne_1 (by decide) ?_
  refine V.aload_n dX8_isOne_2 rfl ?_
  refine V.get fX8_13 dX8_isOne_3 ho rfl ?_
  refine V.iconst (v := nI 2) dX8_isOne_6 (by decide) ?_
  refine V.iald dX8_isOne_7 (hA 2 (by omega) (by omega)).1 rfl (by omega) et2 ?_
  refine V.iconst (v := nI 1) dX8_isOne_8 (by decide) ?_
  refine V.toZ1 ?_
  refine V.toZ2 ?_
  refine V.isubZ dX8_isOne_9 ?_
  refine V.toZ2 ?_
  refine V.callSp cX8_53 (m_in g h _ _ _ (by omega) (by omega) (by omega)) dX8_isOne_10 (Nat.le_of_ble_eq_true rfl) rfl rfl (Nat.le_of_ble_eq_true rfl) ?_
  exact V.zret dX8_isOne_13 rfl (by first | exact vB_01 | decide) ⟨by first | (exfalso; omega) | (rw [vB_congr (show _ ↔ (0 ≤ p ∧ p < ((rN S : Nat) : Int)) from by omega)]), rfl⟩

set_option maxHeartbeats 1000000 in
theorem m_way (g : VG) (h : VHp) (e s : Int) (he : -500000000 < e ∧ e < 500000000) (hs : -500000000 < s ∧ s < 500000000) : VE g mX8_way 1 false (0, 0) [.int (iI e), .int (iI s)] h (VP (eO (wayF e s)) h) := by
  refine VE.of (by decide) rfl (Nat.le_of_ble_eq_true rfl) ?_
  show V _ _ 0 [some (.int (iI e)), some (.int (iI s))] [] h
  refine V.iload_n dX8_way_0 rfl ?_
  refine V.if_neZ 11 dX8_way_1 (by decide) (by omega) (fun hc1 => ?_) (fun hc1 => ?_)
  · skip
    refine V.iload_n dX8_way_11 rfl ?_
    refine V.callSp cX8_99 (m_abs g h _ (by omega)) dX8_way_12 (Nat.le_of_ble_eq_true rfl) rfl rfl (Nat.le_of_ble_eq_true rfl) ?_
    refine V.iconst (v := nI 2) dX8_way_15 (by decide) ?_
    refine V.iload_n dX8_way_16 rfl ?_
    refine V.callSp cX8_99 (m_abs g h _ (by omega)) dX8_way_17 (Nat.le_of_ble_eq_true rfl) rfl rfl (Nat.le_of_ble_eq_true rfl) ?_
    refine V.toZ2 ?_
    refine V.imulZ dX8_way_20 ?_
    refine V.icmp_leZ 35 dX8_way_21 (by decide) (by omega) (by omega) (fun hc2 => ?_) (fun hc2 => ?_)
    · skip
      refine V.iload_n dX8_way_35 rfl ?_
      refine V.callSp cX8_99 (m_abs g h _ (by omega)) dX8_way_36 (Nat.le_of_ble_eq_true rfl) rfl rfl (Nat.le_of_ble_eq_true rfl) ?_
      refine V.iconst (v := nI 2) dX8_way_39 (by decide) ?_
      refine V.iload_n dX8_way_40 rfl ?_
      refine V.callSp cX8_99 (m_abs g h _ (by omega)) dX8_way_41 (Nat.le_of_ble_eq_true rfl) rfl rfl (Nat.le_of_ble_eq_true rfl) ?_
      refine V.toZ2 ?_
      refine V.imulZ dX8_way_44 ?_
      refine V.icmp_leZ 58 dX8_way_45 (by decide) (by omega) (by omega) (fun hc3 => ?_) (fun hc3 => ?_)
      · skip
        refine V.iload_n dX8_way_58 rfl ?_
        refine V.if_leZ 74 dX8_way_59 (by decide) (by omega) (fun hc4 => ?_) (fun hc4 => ?_)
        · skip
          refine V.iload_n dX8_way_74 rfl ?_
          refine V.if_leZ 82 dX8_way_75 (by decide) (by omega) (fun hc5 => ?_) (fun hc5 => ?_)
          · skip
            refine V.bipush (v := nI 7) dX8_way_82 (by decide) ?_
            exact V.iret dX8_way_84 rfl ⟨by first | (exfalso; omega) | ((try simp only [wayF]); (repeat rw [if_neg (by omega)]); (repeat first | rw [if_pos (by omega)] | rw [if_neg (by omega)]); rfl), rfl⟩
          · skip
            refine V.iconst (v := nI 5) dX8_way_78 (by decide) ?_
            refine V.goto 84 dX8_way_79 (by decide) ?_
            exact V.iret dX8_way_84 rfl ⟨by first | (exfalso; omega) | ((try simp only [wayF]); (repeat rw [if_neg (by omega)]); (repeat first | rw [if_pos (by omega)] | rw [if_neg (by omega)]); rfl), rfl⟩
        · skip
          refine V.iload_n dX8_way_62 rfl ?_
          refine V.if_leZ 70 dX8_way_63 (by decide) (by omega) (fun hc6 => ?_) (fun hc6 => ?_)
          · skip
            refine V.iconst (v := nI 1) dX8_way_70 (by decide) ?_
            refine V.goto 84 dX8_way_71 (by decide) ?_
            exact V.iret dX8_way_84 rfl ⟨by first | (exfalso; omega) | ((try simp only [wayF]); (repeat rw [if_neg (by omega)]); (repeat first | rw [if_pos (by omega)] | rw [if_neg (by omega)]); rfl), rfl⟩
          · skip
            refine V.iconst (v := nI 3) dX8_way_66 (by decide) ?_
            refine V.goto 84 dX8_way_67 (by decide) ?_
            exact V.iret dX8_way_84 rfl ⟨by first | (exfalso; omega) | ((try simp only [wayF]); (repeat rw [if_neg (by omega)]); (repeat first | rw [if_pos (by omega)] | rw [if_neg (by omega)]); rfl), rfl⟩
      · skip
        refine V.iload_n dX8_way_48 rfl ?_
        refine V.if_leZ 56 dX8_way_49 (by decide) (by omega) (fun hc7 => ?_) (fun hc7 => ?_)
        · skip
          refine V.iconst (v := nI 0) dX8_way_56 (by decide) ?_
          exact V.iret dX8_way_57 rfl ⟨by first | (exfalso; omega) | ((try simp only [wayF]); (repeat rw [if_neg (by omega)]); (repeat first | rw [if_pos (by omega)] | rw [if_neg (by omega)]); rfl), rfl⟩
        · skip
          refine V.iconst (v := nI 4) dX8_way_52 (by decide) ?_
          refine V.goto 57 dX8_way_53 (by decide) ?_
          exact V.iret dX8_way_57 rfl ⟨by first | (exfalso; omega) | ((try simp only [wayF]); (repeat rw [if_neg (by omega)]); (repeat first | rw [if_pos (by omega)] | rw [if_neg (by omega)]); rfl), rfl⟩
    · skip
      refine V.iload_n dX8_way_24 rfl ?_
      refine V.if_leZ 32 dX8_way_25 (by decide) (by omega) (fun hc8 => ?_) (fun hc8 => ?_)
      · skip
        refine V.bipush (v := nI 6) dX8_way_32 (by decide) ?_
        exact V.iret dX8_way_34 rfl ⟨by first | (exfalso; omega) | ((try simp only [wayF]); (repeat rw [if_neg (by omega)]); (repeat first | rw [if_pos (by omega)] | rw [if_neg (by omega)]); rfl), rfl⟩
      · skip
        refine V.iconst (v := nI 2) dX8_way_28 (by decide) ?_
        refine V.goto 34 dX8_way_29 (by decide) ?_
        exact V.iret dX8_way_34 rfl ⟨by first | (exfalso; omega) | ((try simp only [wayF]); (repeat rw [if_neg (by omega)]); (repeat first | rw [if_pos (by omega)] | rw [if_neg (by omega)]); rfl), rfl⟩
  · skip
    refine V.iload_n dX8_way_4 rfl ?_
    refine V.if_neZ 11 dX8_way_5 (by decide) (by omega) (fun hc9 => ?_) (fun hc9 => ?_)
    · skip
      refine V.iload_n dX8_way_11 rfl ?_
      refine V.callSp cX8_99 (m_abs g h _ (by omega)) dX8_way_12 (Nat.le_of_ble_eq_true rfl) rfl rfl (Nat.le_of_ble_eq_true rfl) ?_
      refine V.iconst (v := nI 2) dX8_way_15 (by decide) ?_
      refine V.iload_n dX8_way_16 rfl ?_
      refine V.callSp cX8_99 (m_abs g h _ (by omega)) dX8_way_17 (Nat.le_of_ble_eq_true rfl) rfl rfl (Nat.le_of_ble_eq_true rfl) ?_
      refine V.toZ2 ?_
      refine V.imulZ dX8_way_20 ?_
      refine V.icmp_leZ 35 dX8_way_21 (by decide) (by omega) (by omega) (fun hc10 => ?_) (fun hc10 => ?_)
      · skip
        refine V.iload_n dX8_way_35 rfl ?_
        refine V.callSp cX8_99 (m_abs g h _ (by omega)) dX8_way_36 (Nat.le_of_ble_eq_true rfl) rfl rfl (Nat.le_of_ble_eq_true rfl) ?_
        refine V.iconst (v := nI 2) dX8_way_39 (by decide) ?_
        refine V.iload_n dX8_way_40 rfl ?_
        refine V.callSp cX8_99 (m_abs g h _ (by omega)) dX8_way_41 (Nat.le_of_ble_eq_true rfl) rfl rfl (Nat.le_of_ble_eq_true rfl) ?_
        refine V.toZ2 ?_
        refine V.imulZ dX8_way_44 ?_
        refine V.icmp_leZ 58 dX8_way_45 (by decide) (by omega) (by omega) (fun hc11 => ?_) (fun hc11 => ?_)
        · skip
          refine V.iload_n dX8_way_58 rfl ?_
          refine V.if_leZ 74 dX8_way_59 (by decide) (by omega) (fun hc12 => ?_) (fun hc12 => ?_)
          · skip
            refine V.iload_n dX8_way_74 rfl ?_
            refine V.if_leZ 82 dX8_way_75 (by decide) (by omega) (fun hc13 => ?_) (fun hc13 => ?_)
            · skip
              refine V.bipush (v := nI 7) dX8_way_82 (by decide) ?_
              exact V.iret dX8_way_84 rfl ⟨by first | (exfalso; omega) | ((try simp only [wayF]); (repeat rw [if_neg (by omega)]); (repeat first | rw [if_pos (by omega)] | rw [if_neg (by omega)]); rfl), rfl⟩
            · skip
              refine V.iconst (v := nI 5) dX8_way_78 (by decide) ?_
              refine V.goto 84 dX8_way_79 (by decide) ?_
              exact V.iret dX8_way_84 rfl ⟨by first | (exfalso; omega) | ((try simp only [wayF]); (repeat rw [if_neg (by omega)]); (repeat first | rw [if_pos (by omega)] | rw [if_neg (by omega)]); rfl), rfl⟩
          · skip
            refine V.iload_n dX8_way_62 rfl ?_
            refine V.if_leZ 70 dX8_way_63 (by decide) (by omega) (fun hc14 => ?_) (fun hc14 => ?_)
            · skip
              refine V.iconst (v := nI 1) dX8_way_70 (by decide) ?_
              refine V.goto 84 dX8_way_71 (by decide) ?_
              exact V.iret dX8_way_84 rfl ⟨by first | (exfalso; omega) | ((try simp only [wayF]); (repeat rw [if_neg (by omega)]); (repeat first | rw [if_pos (by omega)] | rw [if_neg (by omega)]); rfl), rfl⟩
            · skip
              refine V.iconst (v := nI 3) dX8_way_66 (by decide) ?_
              refine V.goto 84 dX8_way_67 (by decide) ?_
              exact V.iret dX8_way_84 rfl ⟨by first | (exfalso; omega) | ((try simp only [wayF]); (repeat rw [if_neg (by omega)]); (repeat first | rw [if_pos (by omega)] | rw [if_neg (by omega)]); rfl), rfl⟩
        · skip
          refine V.iload_n dX8_way_48 rfl ?_
          refine V.if_leZ 56 dX8_way_49 (by decide) (by omega) (fun hc15 => ?_) (fun hc15 => ?_)
          · skip
            refine V.iconst (v := nI 0) dX8_way_56 (by decide) ?_
            exact V.iret dX8_way_57 rfl ⟨by first | (exfalso; omega) | ((try simp only [wayF]); (repeat rw [if_neg (by omega)]); (repeat first | rw [if_pos (by omega)] | rw [if_neg (by omega)]); rfl), rfl⟩
          · skip
            refine V.iconst (v := nI 4) dX8_way_52 (by decide) ?_
            refine V.goto 57 dX8_way_53 (by decide) ?_
            exact V.iret dX8_way_57 rfl ⟨by first | (exfalso; omega) | ((try simp only [wayF]); (repeat rw [if_neg (by omega)]); (repeat first | rw [if_pos (by omega)] | rw [if_neg (by omega)]); rfl), rfl⟩
      · skip
        refine V.iload_n dX8_way_24 rfl ?_
        refine V.if_leZ 32 dX8_way_25 (by decide) (by omega) (fun hc16 => ?_) (fun hc16 => ?_)
        · skip
          refine V.bipush (v := nI 6) dX8_way_32 (by decide) ?_
          exact V.iret dX8_way_34 rfl ⟨by first | (exfalso; omega) | ((try simp only [wayF]); (repeat rw [if_neg (by omega)]); (repeat first | rw [if_pos (by omega)] | rw [if_neg (by omega)]); rfl), rfl⟩
        · skip
          refine V.iconst (v := nI 2) dX8_way_28 (by decide) ?_
          refine V.goto 34 dX8_way_29 (by decide) ?_
          exact V.iret dX8_way_34 rfl ⟨by first | (exfalso; omega) | ((try simp only [wayF]); (repeat rw [if_neg (by omega)]); (repeat first | rw [if_pos (by omega)] | rw [if_neg (by omega)]); rfl), rfl⟩
    · skip
      refine V.bipush (v := iI (-4)) dX8_way_8 (by decide) ?_
      exact V.iret dX8_way_10 rfl ⟨by first | (exfalso; omega) | ((try simp only [wayF]); (repeat rw [if_neg (by omega)]); (repeat first | rw [if_pos (by omega)] | rw [if_neg (by omega)]); rfl), rfl⟩

set_option maxHeartbeats 1000000 in
theorem m_feelsE (g : VG) (h : VHp) (m : Nat) (F : MF) (A : MA) (S : Rm) (hM : MRm h m F A S) (hB : RmB S) (p ms : Nat) (hp : p < rN S) (hms : ms < 64) : VE g mX8_feels 1 false (0, 0) [.ref m, .int (nI p), .int (nI ms), .int (nI 1)] h (VP (iI (feltE S p ms (rN S))) h) := by
  obtain ⟨hw, ⟨et0, et1, et2, ek⟩, es0, ev, ex, ey, eL⟩ := id hM
  obtain ⟨ho, hA⟩ := id hw
  obtain ⟨bn, bW, bH, bP, bL⟩ := id hB
  have bp := bP p hp
  refine VE.of (by decide) rfl (Nat.le_of_ble_eq_true rfl) ?_
  have L : ∀ q, q ≤ rN S → ∀ v6 v7 v8 v9 : Option Value, V (g, mX8_feels, 1, false, h.length, VP (iI (feltE S p ms (rN S))) h) (0, 0) 6 [some (.ref m), some (.int (nI p)), some (.int (nI ms)), some (.int (nI 1)), some (.int (iI (feltE S p ms q))), some (.int (nI q)), v6, v7, v8, v9] [] h := by
    refine vloop (rN S) (fun q ih hi => ?_)
    intro v6 v7 v8 v9
    refine V.iload dX8_feels_6 rfl ?_
    refine V.aload_n dX8_feels_8 rfl ?_
    refine V.get fX8_13 dX8_feels_9 ho rfl ?_
    refine V.iconst (v := nI 2) dX8_feels_12 (by decide) ?_
    refine V.iald dX8_feels_13 (hA 2 (by omega) (by omega)).1 rfl (by omega) et2 ?_
    refine V.icmp_geN 150 dX8_feels_14 (by decide) (by omega) (by omega) (fun hc1 => ?_) (fun hc1 => ?_)
    · skip
      refine V.iload dX8_feels_150 rfl ?_
      exact V.iret dX8_feels_152 rfl ⟨by first | (exfalso; omega) | (obtain rfl : q = rN S := (by omega); rfl), rfl⟩
    · skip
      have bq := bP q hc1
      have bl := bL p q
      refine V.aload_n dX8_feels_17 rfl ?_
      refine V.get fX8_22 dX8_feels_18 ho rfl ?_
      refine V.bipush (v := nI 7) dX8_feels_21 (by decide) ?_
      refine V.iload dX8_feels_23 rfl ?_
      refine V.iaddN dX8_feels_25 ?_
      refine V.iald dX8_feels_26 (hA 5 (by omega) (by omega)).1 rfl (by omega) (ex _ (by omega)) ?_
      refine V.aload_n dX8_feels_27 rfl ?_
      refine V.get fX8_22 dX8_feels_28 ho rfl ?_
      refine V.bipush (v := nI 7) dX8_feels_31 (by decide) ?_
      refine V.iload_n dX8_feels_33 rfl ?_
      refine V.iaddN dX8_feels_34 ?_
      refine V.iald dX8_feels_35 (hA 5 (by omega) (by omega)).1 rfl (by omega) (ex _ (by omega)) ?_
      refine V.toZ1 ?_
      refine V.toZ2 ?_
      refine V.isubZ dX8_feels_36 ?_
      refine V.nmZ (fun dx hdx => ?_)
      refine V.istore dX8_feels_37 rfl rfl ?_
      dsimp only [List.set]
      refine V.aload_n dX8_feels_39 rfl ?_
      refine V.get fX8_22 dX8_feels_40 ho rfl ?_
      refine V.bipush (v := nI 13) dX8_feels_43 (by decide) ?_
      refine V.iload dX8_feels_45 rfl ?_
      refine V.iaddN dX8_feels_47 ?_
      refine V.iald dX8_feels_48 (hA 5 (by omega) (by omega)).1 rfl (by omega) (ey _ (by omega)) ?_
      refine V.aload_n dX8_feels_49 rfl ?_
      refine V.get fX8_22 dX8_feels_50 ho rfl ?_
      refine V.bipush (v := nI 13) dX8_feels_53 (by decide) ?_
      refine V.iload_n dX8_feels_55 rfl ?_
      refine V.iaddN dX8_feels_56 ?_
      refine V.iald dX8_feels_57 (hA 5 (by omega) (by omega)).1 rfl (by omega) (ey _ (by omega)) ?_
      refine V.toZ1 ?_
      refine V.toZ2 ?_
      refine V.isubZ dX8_feels_58 ?_
      refine V.nmZ (fun dy hdy => ?_)
      refine V.istore dX8_feels_59 rfl rfl ?_
      dsimp only [List.set]
      refine V.bipush (v := nI 12) dX8_feels_61 (by decide) ?_
      refine V.iload dX8_feels_63 rfl ?_
      refine V.callSp cX8_99 (m_abs g h _ (by omega)) dX8_feels_65 (Nat.le_of_ble_eq_true rfl) rfl rfl (Nat.le_of_ble_eq_true rfl) ?_
      refine V.toZ2 ?_
      refine V.isubZ dX8_feels_68 ?_
      refine V.iload dX8_feels_69 rfl ?_
      refine V.callSp cX8_99 (m_abs g h _ (by omega)) dX8_feels_71 (Nat.le_of_ble_eq_true rfl) rfl rfl (Nat.le_of_ble_eq_true rfl) ?_
      refine V.isubZ dX8_feels_74 ?_
      refine V.nmZ (fun nr hnr => ?_)
      refine V.istore dX8_feels_75 rfl rfl ?_
      dsimp only [List.set]
      refine V.aload_n dX8_feels_77 rfl ?_
      refine V.get fX8_22 dX8_feels_78 ho rfl ?_
      refine V.bipush (v := nI 19) dX8_feels_81 (by decide) ?_
      refine V.bipush (v := nI 6) dX8_feels_83 (by decide) ?_
      refine V.iload_n dX8_feels_85 rfl ?_
      refine V.imulN dX8_feels_86 ?_
      refine V.iaddN dX8_feels_87 ?_
      refine V.iload dX8_feels_88 rfl ?_
      refine V.iaddN dX8_feels_90 ?_
      refine V.iald dX8_feels_91 (hA 5 (by omega) (by omega)).1 rfl (by omega) (eL _ _ (by omega) (by omega)) ?_
      refine V.iload dX8_feels_92 rfl ?_
      refine V.if_geZ 101 dX8_feels_94 (by decide) (by omega) (fun hc2 => ?_) (fun hc2 => ?_)
      · skip
        have hpl : pullF S p q = rL S p q * nr := by unfold pullF; congr 1; omega
        refine V.iload dX8_feels_101 rfl ?_
        refine V.imulZ dX8_feels_103 ?_
        refine V.istore dX8_feels_104 rfl rfl ?_
        dsimp only [List.set]
        refine V.iload dX8_feels_106 rfl ?_
        refine V.iload_n dX8_feels_108 rfl ?_
        refine V.iload dX8_feels_109 rfl ?_
        refine V.ishrN dX8_feels_111 (by omega) (by omega) ?_
        refine V.iconst (v := nI 1) dX8_feels_112 (by decide) ?_
        refine V.iand1N dX8_feels_113 (Nat.lt_of_le_of_lt (Nat.div_le_self _ _) (by omega)) ?_
        refine V.if_eqN 123 dX8_feels_114 (by decide) (by omega) (fun hc3 => ?_) (fun hc3 => ?_)
        · skip
          refine V.iconst (v := nI 0) dX8_feels_123 (by decide) ?_
          refine V.goto 141 dX8_feels_124 (by decide) ?_
          refine V.toZ1 ?_
          refine V.iaddZ dX8_feels_141 ?_
          refine V.istore dX8_feels_142 rfl rfl ?_
          dsimp only [List.set]
          refine V.iincN (n := 1) dX8_feels_144 rfl rfl rfl ?_
          dsimp only [List.set]
          refine V.goto 6 dX8_feels_147 (by decide) ?_
          have z := fun a b c d => ih (q + 1) (by omega) (by omega) a b c d
          simp only [feltE] at z
          first | (rw [if_neg (by omega)] at z; exact z _ _ _ _) | (rw [if_pos (by omega), hpl, ← hdx] at z; exact z _ _ _ _)
        · skip
          refine V.iload dX8_feels_117 rfl ?_
          refine V.iload_n dX8_feels_119 rfl ?_
          refine V.icmp_neN 127 dX8_feels_120 (by decide) (by omega) (by omega) (fun hc4 => ?_) (fun hc4 => ?_)
          · skip
            refine V.iload dX8_feels_127 rfl ?_
            refine V.iload_n dX8_feels_129 rfl ?_
            refine V.if_eqN 138 dX8_feels_130 (by decide) (by omega) (fun hc5 => ?_) (fun hc5 => ?_)
            · exact absurd hc5 (by omega)
            · skip
              refine V.iload dX8_feels_133 rfl ?_
              refine V.goto 140 dX8_feels_135 (by decide) ?_
              refine V.imulZ dX8_feels_140 ?_
              refine V.iaddZ dX8_feels_141 ?_
              refine V.istore dX8_feels_142 rfl rfl ?_
              dsimp only [List.set]
              refine V.iincN (n := 1) dX8_feels_144 rfl rfl rfl ?_
              dsimp only [List.set]
              refine V.goto 6 dX8_feels_147 (by decide) ?_
              have z := fun a b c d => ih (q + 1) (by omega) (by omega) a b c d
              simp only [feltE] at z
              first | (rw [if_neg (by omega)] at z; exact z _ _ _ _) | (rw [if_pos (by omega), hpl, ← hdx] at z; exact z _ _ _ _)
          · skip
            refine V.iconst (v := nI 0) dX8_feels_123 (by decide) ?_
            refine V.goto 141 dX8_feels_124 (by decide) ?_
            refine V.toZ1 ?_
            refine V.iaddZ dX8_feels_141 ?_
            refine V.istore dX8_feels_142 rfl rfl ?_
            dsimp only [List.set]
            refine V.iincN (n := 1) dX8_feels_144 rfl rfl rfl ?_
            dsimp only [List.set]
            refine V.goto 6 dX8_feels_147 (by decide) ?_
            have z := fun a b c d => ih (q + 1) (by omega) (by omega) a b c d
            simp only [feltE] at z
            first | (rw [if_neg (by omega)] at z; exact z _ _ _ _) | (rw [if_pos (by omega), hpl, ← hdx] at z; exact z _ _ _ _)
      · skip
        have hpl : pullF S p q = rL S p q * ((0 : Nat) : Int) := by unfold pullF; congr 1; omega
        refine V.iconst (v := nI 0) dX8_feels_97 (by decide) ?_
        refine V.goto 103 dX8_feels_98 (by decide) ?_
        refine V.toZ1 ?_
        refine V.imulZ dX8_feels_103 ?_
        refine V.istore dX8_feels_104 rfl rfl ?_
        dsimp only [List.set]
        refine V.iload dX8_feels_106 rfl ?_
        refine V.iload_n dX8_feels_108 rfl ?_
        refine V.iload dX8_feels_109 rfl ?_
        refine V.ishrN dX8_feels_111 (by omega) (by omega) ?_
        refine V.iconst (v := nI 1) dX8_feels_112 (by decide) ?_
        refine V.iand1N dX8_feels_113 (Nat.lt_of_le_of_lt (Nat.div_le_self _ _) (by omega)) ?_
        refine V.if_eqN 123 dX8_feels_114 (by decide) (by omega) (fun hc6 => ?_) (fun hc6 => ?_)
        · skip
          refine V.iconst (v := nI 0) dX8_feels_123 (by decide) ?_
          refine V.goto 141 dX8_feels_124 (by decide) ?_
          refine V.toZ1 ?_
          refine V.iaddZ dX8_feels_141 ?_
          refine V.istore dX8_feels_142 rfl rfl ?_
          dsimp only [List.set]
          refine V.iincN (n := 1) dX8_feels_144 rfl rfl rfl ?_
          dsimp only [List.set]
          refine V.goto 6 dX8_feels_147 (by decide) ?_
          have z := fun a b c d => ih (q + 1) (by omega) (by omega) a b c d
          simp only [feltE] at z
          first | (rw [if_neg (by omega)] at z; exact z _ _ _ _) | (rw [if_pos (by omega), hpl, ← hdx] at z; exact z _ _ _ _)
        · skip
          refine V.iload dX8_feels_117 rfl ?_
          refine V.iload_n dX8_feels_119 rfl ?_
          refine V.icmp_neN 127 dX8_feels_120 (by decide) (by omega) (by omega) (fun hc7 => ?_) (fun hc7 => ?_)
          · skip
            refine V.iload dX8_feels_127 rfl ?_
            refine V.iload_n dX8_feels_129 rfl ?_
            refine V.if_eqN 138 dX8_feels_130 (by decide) (by omega) (fun hc8 => ?_) (fun hc8 => ?_)
            · exact absurd hc8 (by omega)
            · skip
              refine V.iload dX8_feels_133 rfl ?_
              refine V.goto 140 dX8_feels_135 (by decide) ?_
              refine V.imulZ dX8_feels_140 ?_
              refine V.iaddZ dX8_feels_141 ?_
              refine V.istore dX8_feels_142 rfl rfl ?_
              dsimp only [List.set]
              refine V.iincN (n := 1) dX8_feels_144 rfl rfl rfl ?_
              dsimp only [List.set]
              refine V.goto 6 dX8_feels_147 (by decide) ?_
              have z := fun a b c d => ih (q + 1) (by omega) (by omega) a b c d
              simp only [feltE] at z
              first | (rw [if_neg (by omega)] at z; exact z _ _ _ _) | (rw [if_pos (by omega), hpl, ← hdx] at z; exact z _ _ _ _)
          · skip
            refine V.iconst (v := nI 0) dX8_feels_123 (by decide) ?_
            refine V.goto 141 dX8_feels_124 (by decide) ?_
            refine V.toZ1 ?_
            refine V.iaddZ dX8_feels_141 ?_
            refine V.istore dX8_feels_142 rfl rfl ?_
            dsimp only [List.set]
            refine V.iincN (n := 1) dX8_feels_144 rfl rfl rfl ?_
            dsimp only [List.set]
            refine V.goto 6 dX8_feels_147 (by decide) ?_
            have z := fun a b c d => ih (q + 1) (by omega) (by omega) a b c d
            simp only [feltE] at z
            first | (rw [if_neg (by omega)] at z; exact z _ _ _ _) | (rw [if_pos (by omega), hpl, ← hdx] at z; exact z _ _ _ _)
  show V _ _ 0 [some (.ref m), some (.int (nI p)), some (.int (nI ms)), some (.int (nI 1)), none, none, none, none, none, none] [] h
  refine V.iconst (v := nI 0) dX8_feels_0 (by decide) ?_
  refine V.istore dX8_feels_1 rfl rfl ?_
  dsimp only [List.set]
  refine V.iconst (v := nI 0) dX8_feels_3 (by decide) ?_
  refine V.istore dX8_feels_4 rfl rfl ?_
  dsimp only [List.set]
  exact L 0 (by omega) none none none none

set_option maxHeartbeats 1000000 in
theorem m_feelsS (g : VG) (h : VHp) (m : Nat) (F : MF) (A : MA) (S : Rm) (hM : MRm h m F A S) (hB : RmB S) (p ms : Nat) (hp : p < rN S) (hms : ms < 64) : VE g mX8_feels 1 false (0, 0) [.ref m, .int (nI p), .int (nI ms), .int (nI 0)] h (VP (iI (feltS S p ms (rN S))) h) := by
  obtain ⟨hw, ⟨et0, et1, et2, ek⟩, es0, ev, ex, ey, eL⟩ := id hM
  obtain ⟨ho, hA⟩ := id hw
  obtain ⟨bn, bW, bH, bP, bL⟩ := id hB
  have bp := bP p hp
  refine VE.of (by decide) rfl (Nat.le_of_ble_eq_true rfl) ?_
  have L : ∀ q, q ≤ rN S → ∀ v6 v7 v8 v9 : Option Value, V (g, mX8_feels, 1, false, h.length, VP (iI (feltS S p ms (rN S))) h) (0, 0) 6 [some (.ref m), some (.int (nI p)), some (.int (nI ms)), some (.int (nI 0)), some (.int (iI (feltS S p ms q))), some (.int (nI q)), v6, v7, v8, v9] [] h := by
    refine vloop (rN S) (fun q ih hi => ?_)
    intro v6 v7 v8 v9
    refine V.iload dX8_feels_6 rfl ?_
    refine V.aload_n dX8_feels_8 rfl ?_
    refine V.get fX8_13 dX8_feels_9 ho rfl ?_
    refine V.iconst (v := nI 2) dX8_feels_12 (by decide) ?_
    refine V.iald dX8_feels_13 (hA 2 (by omega) (by omega)).1 rfl (by omega) et2 ?_
    refine V.icmp_geN 150 dX8_feels_14 (by decide) (by omega) (by omega) (fun hc1 => ?_) (fun hc1 => ?_)
    · skip
      refine V.iload dX8_feels_150 rfl ?_
      exact V.iret dX8_feels_152 rfl ⟨by first | (exfalso; omega) | (obtain rfl : q = rN S := (by omega); rfl), rfl⟩
    · skip
      have bq := bP q hc1
      have bl := bL p q
      refine V.aload_n dX8_feels_17 rfl ?_
      refine V.get fX8_22 dX8_feels_18 ho rfl ?_
      refine V.bipush (v := nI 7) dX8_feels_21 (by decide) ?_
      refine V.iload dX8_feels_23 rfl ?_
      refine V.iaddN dX8_feels_25 ?_
      refine V.iald dX8_feels_26 (hA 5 (by omega) (by omega)).1 rfl (by omega) (ex _ (by omega)) ?_
      refine V.aload_n dX8_feels_27 rfl ?_
      refine V.get fX8_22 dX8_feels_28 ho rfl ?_
      refine V.bipush (v := nI 7) dX8_feels_31 (by decide) ?_
      refine V.iload_n dX8_feels_33 rfl ?_
      refine V.iaddN dX8_feels_34 ?_
      refine V.iald dX8_feels_35 (hA 5 (by omega) (by omega)).1 rfl (by omega) (ex _ (by omega)) ?_
      refine V.toZ1 ?_
      refine V.toZ2 ?_
      refine V.isubZ dX8_feels_36 ?_
      refine V.nmZ (fun dx hdx => ?_)
      refine V.istore dX8_feels_37 rfl rfl ?_
      dsimp only [List.set]
      refine V.aload_n dX8_feels_39 rfl ?_
      refine V.get fX8_22 dX8_feels_40 ho rfl ?_
      refine V.bipush (v := nI 13) dX8_feels_43 (by decide) ?_
      refine V.iload dX8_feels_45 rfl ?_
      refine V.iaddN dX8_feels_47 ?_
      refine V.iald dX8_feels_48 (hA 5 (by omega) (by omega)).1 rfl (by omega) (ey _ (by omega)) ?_
      refine V.aload_n dX8_feels_49 rfl ?_
      refine V.get fX8_22 dX8_feels_50 ho rfl ?_
      refine V.bipush (v := nI 13) dX8_feels_53 (by decide) ?_
      refine V.iload_n dX8_feels_55 rfl ?_
      refine V.iaddN dX8_feels_56 ?_
      refine V.iald dX8_feels_57 (hA 5 (by omega) (by omega)).1 rfl (by omega) (ey _ (by omega)) ?_
      refine V.toZ1 ?_
      refine V.toZ2 ?_
      refine V.isubZ dX8_feels_58 ?_
      refine V.nmZ (fun dy hdy => ?_)
      refine V.istore dX8_feels_59 rfl rfl ?_
      dsimp only [List.set]
      refine V.bipush (v := nI 12) dX8_feels_61 (by decide) ?_
      refine V.iload dX8_feels_63 rfl ?_
      refine V.callSp cX8_99 (m_abs g h _ (by omega)) dX8_feels_65 (Nat.le_of_ble_eq_true rfl) rfl rfl (Nat.le_of_ble_eq_true rfl) ?_
      refine V.toZ2 ?_
      refine V.isubZ dX8_feels_68 ?_
      refine V.iload dX8_feels_69 rfl ?_
      refine V.callSp cX8_99 (m_abs g h _ (by omega)) dX8_feels_71 (Nat.le_of_ble_eq_true rfl) rfl rfl (Nat.le_of_ble_eq_true rfl) ?_
      refine V.isubZ dX8_feels_74 ?_
      refine V.nmZ (fun nr hnr => ?_)
      refine V.istore dX8_feels_75 rfl rfl ?_
      dsimp only [List.set]
      refine V.aload_n dX8_feels_77 rfl ?_
      refine V.get fX8_22 dX8_feels_78 ho rfl ?_
      refine V.bipush (v := nI 19) dX8_feels_81 (by decide) ?_
      refine V.bipush (v := nI 6) dX8_feels_83 (by decide) ?_
      refine V.iload_n dX8_feels_85 rfl ?_
      refine V.imulN dX8_feels_86 ?_
      refine V.iaddN dX8_feels_87 ?_
      refine V.iload dX8_feels_88 rfl ?_
      refine V.iaddN dX8_feels_90 ?_
      refine V.iald dX8_feels_91 (hA 5 (by omega) (by omega)).1 rfl (by omega) (eL _ _ (by omega) (by omega)) ?_
      refine V.iload dX8_feels_92 rfl ?_
      refine V.if_geZ 101 dX8_feels_94 (by decide) (by omega) (fun hc2 => ?_) (fun hc2 => ?_)
      · skip
        have hpl : pullF S p q = rL S p q * nr := by unfold pullF; congr 1; omega
        refine V.iload dX8_feels_101 rfl ?_
        refine V.imulZ dX8_feels_103 ?_
        refine V.istore dX8_feels_104 rfl rfl ?_
        dsimp only [List.set]
        refine V.iload dX8_feels_106 rfl ?_
        refine V.iload_n dX8_feels_108 rfl ?_
        refine V.iload dX8_feels_109 rfl ?_
        refine V.ishrN dX8_feels_111 (by omega) (by omega) ?_
        refine V.iconst (v := nI 1) dX8_feels_112 (by decide) ?_
        refine V.iand1N dX8_feels_113 (Nat.lt_of_le_of_lt (Nat.div_le_self _ _) (by omega)) ?_
        refine V.if_eqN 123 dX8_feels_114 (by decide) (by omega) (fun hc3 => ?_) (fun hc3 => ?_)
        · skip
          refine V.iconst (v := nI 0) dX8_feels_123 (by decide) ?_
          refine V.goto 141 dX8_feels_124 (by decide) ?_
          refine V.toZ1 ?_
          refine V.iaddZ dX8_feels_141 ?_
          refine V.istore dX8_feels_142 rfl rfl ?_
          dsimp only [List.set]
          refine V.iincN (n := 1) dX8_feels_144 rfl rfl rfl ?_
          dsimp only [List.set]
          refine V.goto 6 dX8_feels_147 (by decide) ?_
          have z := fun a b c d => ih (q + 1) (by omega) (by omega) a b c d
          simp only [feltS] at z
          first | (rw [if_neg (by omega)] at z; exact z _ _ _ _) | (rw [if_pos (by omega), hpl, ← hdy] at z; exact z _ _ _ _)
        · skip
          refine V.iload dX8_feels_117 rfl ?_
          refine V.iload_n dX8_feels_119 rfl ?_
          refine V.icmp_neN 127 dX8_feels_120 (by decide) (by omega) (by omega) (fun hc4 => ?_) (fun hc4 => ?_)
          · skip
            refine V.iload dX8_feels_127 rfl ?_
            refine V.iload_n dX8_feels_129 rfl ?_
            refine V.if_eqN 138 dX8_feels_130 (by decide) (by omega) (fun hc5 => ?_) (fun hc5 => ?_)
            · skip
              refine V.iload dX8_feels_138 rfl ?_
              refine V.imulZ dX8_feels_140 ?_
              refine V.iaddZ dX8_feels_141 ?_
              refine V.istore dX8_feels_142 rfl rfl ?_
              dsimp only [List.set]
              refine V.iincN (n := 1) dX8_feels_144 rfl rfl rfl ?_
              dsimp only [List.set]
              refine V.goto 6 dX8_feels_147 (by decide) ?_
              have z := fun a b c d => ih (q + 1) (by omega) (by omega) a b c d
              simp only [feltS] at z
              first | (rw [if_neg (by omega)] at z; exact z _ _ _ _) | (rw [if_pos (by omega), hpl, ← hdy] at z; exact z _ _ _ _)
            · exact absurd rfl hc5
          · skip
            refine V.iconst (v := nI 0) dX8_feels_123 (by decide) ?_
            refine V.goto 141 dX8_feels_124 (by decide) ?_
            refine V.toZ1 ?_
            refine V.iaddZ dX8_feels_141 ?_
            refine V.istore dX8_feels_142 rfl rfl ?_
            dsimp only [List.set]
            refine V.iincN (n := 1) dX8_feels_144 rfl rfl rfl ?_
            dsimp only [List.set]
            refine V.goto 6 dX8_feels_147 (by decide) ?_
            have z := fun a b c d => ih (q + 1) (by omega) (by omega) a b c d
            simp only [feltS] at z
            first | (rw [if_neg (by omega)] at z; exact z _ _ _ _) | (rw [if_pos (by omega), hpl, ← hdy] at z; exact z _ _ _ _)
      · skip
        have hpl : pullF S p q = rL S p q * ((0 : Nat) : Int) := by unfold pullF; congr 1; omega
        refine V.iconst (v := nI 0) dX8_feels_97 (by decide) ?_
        refine V.goto 103 dX8_feels_98 (by decide) ?_
        refine V.toZ1 ?_
        refine V.imulZ dX8_feels_103 ?_
        refine V.istore dX8_feels_104 rfl rfl ?_
        dsimp only [List.set]
        refine V.iload dX8_feels_106 rfl ?_
        refine V.iload_n dX8_feels_108 rfl ?_
        refine V.iload dX8_feels_109 rfl ?_
        refine V.ishrN dX8_feels_111 (by omega) (by omega) ?_
        refine V.iconst (v := nI 1) dX8_feels_112 (by decide) ?_
        refine V.iand1N dX8_feels_113 (Nat.lt_of_le_of_lt (Nat.div_le_self _ _) (by omega)) ?_
        refine V.if_eqN 123 dX8_feels_114 (by decide) (by omega) (fun hc6 => ?_) (fun hc6 => ?_)
        · skip
          refine V.iconst (v := nI 0) dX8_feels_123 (by decide) ?_
          refine V.goto 141 dX8_feels_124 (by decide) ?_
          refine V.toZ1 ?_
          refine V.iaddZ dX8_feels_141 ?_
          refine V.istore dX8_feels_142 rfl rfl ?_
          dsimp only [List.set]
          refine V.iincN (n := 1) dX8_feels_144 rfl rfl rfl ?_
          dsimp only [List.set]
          refine V.goto 6 dX8_feels_147 (by decide) ?_
          have z := fun a b c d => ih (q + 1) (by omega) (by omega) a b c d
          simp only [feltS] at z
          first | (rw [if_neg (by omega)] at z; exact z _ _ _ _) | (rw [if_pos (by omega), hpl, ← hdy] at z; exact z _ _ _ _)
        · skip
          refine V.iload dX8_feels_117 rfl ?_
          refine V.iload_n dX8_feels_119 rfl ?_
          refine V.icmp_neN 127 dX8_feels_120 (by decide) (by omega) (by omega) (fun hc7 => ?_) (fun hc7 => ?_)
          · skip
            refine V.iload dX8_feels_127 rfl ?_
            refine V.iload_n dX8_feels_129 rfl ?_
            refine V.if_eqN 138 dX8_feels_130 (by decide) (by omega) (fun hc8 => ?_) (fun hc8 => ?_)
            · skip
              refine V.iload dX8_feels_138 rfl ?_
              refine V.imulZ dX8_feels_140 ?_
              refine V.iaddZ dX8_feels_141 ?_
              refine V.istore dX8_feels_142 rfl rfl ?_
              dsimp only [List.set]
              refine V.iincN (n := 1) dX8_feels_144 rfl rfl rfl ?_
              dsimp only [List.set]
              refine V.goto 6 dX8_feels_147 (by decide) ?_
              have z := fun a b c d => ih (q + 1) (by omega) (by omega) a b c d
              simp only [feltS] at z
              first | (rw [if_neg (by omega)] at z; exact z _ _ _ _) | (rw [if_pos (by omega), hpl, ← hdy] at z; exact z _ _ _ _)
            · exact absurd rfl hc8
          · skip
            refine V.iconst (v := nI 0) dX8_feels_123 (by decide) ?_
            refine V.goto 141 dX8_feels_124 (by decide) ?_
            refine V.toZ1 ?_
            refine V.iaddZ dX8_feels_141 ?_
            refine V.istore dX8_feels_142 rfl rfl ?_
            dsimp only [List.set]
            refine V.iincN (n := 1) dX8_feels_144 rfl rfl rfl ?_
            dsimp only [List.set]
            refine V.goto 6 dX8_feels_147 (by decide) ?_
            have z := fun a b c d => ih (q + 1) (by omega) (by omega) a b c d
            simp only [feltS] at z
            first | (rw [if_neg (by omega)] at z; exact z _ _ _ _) | (rw [if_pos (by omega), hpl, ← hdy] at z; exact z _ _ _ _)
  show V _ _ 0 [some (.ref m), some (.int (nI p)), some (.int (nI ms)), some (.int (nI 0)), none, none, none, none, none, none] [] h
  refine V.iconst (v := nI 0) dX8_feels_0 (by decide) ?_
  refine V.istore dX8_feels_1 rfl rfl ?_
  dsimp only [List.set]
  refine V.iconst (v := nI 0) dX8_feels_3 (by decide) ?_
  refine V.istore dX8_feels_4 rfl rfl ?_
  dsimp only [List.set]
  exact L 0 (by omega) none none none none

set_option maxHeartbeats 1000000 in
theorem m_all (g : VG) (h : VHp)  : VE g mX8_all 0 false (0, 0) [] h (VP (nI 63) h) := by
  refine VE.of (by decide) rfl (Nat.le_of_ble_eq_true rfl) ?_
  show V _ _ 0 [] [] h
  refine V.bipush (v := nI 63) dX8_all_0 (by decide) ?_
  exact V.iret dX8_all_2 rfl ⟨by first | (exfalso; omega) | (rfl), rfl⟩

set_option maxHeartbeats 1000000 in
theorem m_draftBy (g : VG) (h : VHp) (m : Nat) (F : MF) (A : MA) (S : Rm) (hM : MRm h m F A S) (hB : RmB S) (p ms : Nat) (hp : p < rN S) (hms : ms < 64) : VE g mX8_draftBy 2 false (0, 0) [.ref m, .int (nI p), .int (nI ms)] h (VP (eO (draftM S p ms)) h) := by
  obtain ⟨hw, ⟨et0, et1, et2, ek⟩, es0, ev, ex, ey, eL⟩ := id hM
  obtain ⟨ho, hA⟩ := id hw
  obtain ⟨bn, bW, bH, bP, bL⟩ := id hB
  have bf := felt_bd hB (m := ms) hp (rN S) (Nat.le_refl _)
  refine VE.of (by decide) rfl (Nat.le_of_ble_eq_true rfl) ?_
  show V _ _ 0 [some (.ref m), some (.int (nI p)), some (.int (nI ms))] [] h
  refine V.aload_n dX8_draftBy_0 rfl ?_
  refine V.iload_n dX8_draftBy_1 rfl ?_
  refine V.iload_n dX8_draftBy_2 rfl ?_
  refine V.iconst (v := nI 1) dX8_draftBy_3 (by decide) ?_
  refine V.callVp (ci := 8) cX8_102 (m_feelsE g h m F A S hM hB p ms hp hms) dX8_draftBy_4 (Nat.le_of_ble_eq_true rfl) rfl ho rfl rfl (Nat.le_of_ble_eq_true rfl) ?_
  refine V.aload_n dX8_draftBy_7 rfl ?_
  refine V.iload_n dX8_draftBy_8 rfl ?_
  refine V.iload_n dX8_draftBy_9 rfl ?_
  refine V.iconst (v := nI 0) dX8_draftBy_10 (by decide) ?_
  refine V.callVp (ci := 8) cX8_102 (m_feelsS g h m F A S hM hB p ms hp hms) dX8_draftBy_11 (Nat.le_of_ble_eq_true rfl) rfl ho rfl rfl (Nat.le_of_ble_eq_true rfl) ?_
  refine V.callSp cX8_106 (m_way g h _ _ (by omega) (by omega)) dX8_draftBy_14 (Nat.le_of_ble_eq_true rfl) rfl rfl (Nat.le_of_ble_eq_true rfl) ?_
  exact V.iret dX8_draftBy_17 rfl ⟨by first | (exfalso; omega) | (rfl), rfl⟩

set_option maxHeartbeats 1000000 in
theorem m_draftOf (g : VG) (h : VHp) (m : Nat) (F : MF) (A : MA) (S : Rm) (hM : MRm h m F A S) (hB : RmB S) (p : Nat) (hp : p < rN S) : VE g mX8_draftOf 3 false (0, 0) [.ref m, .int (nI p)] h (VP (eO (draftF S p)) h) := by
  obtain ⟨hw, ⟨et0, et1, et2, ek⟩, es0, ev, ex, ey, eL⟩ := id hM
  obtain ⟨ho, hA⟩ := id hw
  obtain ⟨bn, bW, bH, bP, bL⟩ := id hB
  refine VE.of (by decide) rfl (Nat.le_of_ble_eq_true rfl) ?_
  show V _ _ 0 [some (.ref m), some (.int (nI p))] [] h
  refine V.aload_n dX8_draftOf_0 rfl ?_
  refine V.iload_n dX8_draftOf_1 rfl ?_
  refine V.callSp cX8_110 (m_all g h) dX8_draftOf_2 (Nat.le_of_ble_eq_true rfl) rfl rfl (Nat.le_of_ble_eq_true rfl) ?_
  refine V.callVp (ci := 8) cX8_113 (m_draftBy g h m F A S hM hB p 63 hp (by omega)) dX8_draftOf_5 (Nat.le_of_ble_eq_true rfl) rfl ho rfl rfl (Nat.le_of_ble_eq_true rfl) ?_
  exact V.iret dX8_draftOf_8 rfl ⟨by first | (exfalso; omega) | (rfl), rfl⟩

set_option maxHeartbeats 1000000 in
theorem m_isPlace (g : VG) (h : VHp) (m : Nat) (F : MF) (A : MA) (S : Rm) (hM : MRm h m F A S) (hB : RmB S) (x y : Int) (hx0 : -2147483648 ≤ x ∧ x < 2147483648) (hy0 : -2147483648 ≤ y ∧ y < 2147483648) : VE g mX8_isPlace 1 false (0, 0) [.ref m, .int (iI x), .int (iI y)] h (VP (vB (inF S x y)) h) := by
  obtain ⟨hw, ⟨et0, et1, et2, ek⟩, es0, ev, ex, ey, eL⟩ := id hM
  obtain ⟨ho, hA⟩ := id hw
  obtain ⟨bn, bW, bH, bP, bL⟩ := id hB
  refine VE.of (by decide) rfl (Nat.le_of_ble_eq_true rfl) ?_
  show V _ _ 0 [some (.ref m), some (.int (iI x)), some (.int (iI y))] [] h
  refine V.iload_n dX8_isPlace_0 rfl ?_
  refine V.iconst (v := nI 0) dX8_isPlace_1 (by decide) ?_
  refine V.aload_n dX8_isPlace_2 rfl ?_
  refine V.get fX8_13 dX8_isPlace_3 ho rfl ?_
  refine V.iconst (v := nI 0) dX8_isPlace_6 (by decide) ?_
  refine V.iald dX8_isPlace_7 (hA 2 (by omega) (by omega)).1 rfl (by omega) et0 ?_
  refine V.iconst (v := nI 1) dX8_isPlace_8 (by decide) ?_
  refine V.toZ1 ?_
  refine V.toZ2 ?_
  refine V.isubZ dX8_isPlace_9 ?_
  refine V.toZ2 ?_
  refine V.callSp cX8_53 (m_in g h _ _ _ (by omega) (by omega) (by omega)) dX8_isPlace_10 (Nat.le_of_ble_eq_true rfl) rfl rfl (Nat.le_of_ble_eq_true rfl) ?_
  refine V.if_eqB 36 dX8_isPlace_13 (by decide) (fun hc1 => ?_) (fun hc1 => ?_)
  · skip
    refine V.iconst (v := nI 0) dX8_isPlace_36 (by decide) ?_
    exact V.zret dX8_isPlace_37 rfl (by first | exact vB_01 | decide) ⟨by first | (exfalso; omega) | (first | (rw [vB_t (by omega)]; rfl) | (rw [vB_f (by omega)]; rfl)), rfl⟩
  · skip
    refine V.iload_n dX8_isPlace_16 rfl ?_
    refine V.iconst (v := nI 0) dX8_isPlace_17 (by decide) ?_
    refine V.aload_n dX8_isPlace_18 rfl ?_
    refine V.get fX8_13 dX8_isPlace_19 ho rfl ?_
    refine V.iconst (v := nI 1) dX8_isPlace_22 (by decide) ?_
    refine V.iald dX8_isPlace_23 (hA 2 (by omega) (by omega)).1 rfl (by omega) et1 ?_
    refine V.iconst (v := nI 1) dX8_isPlace_24 (by decide) ?_
    refine V.toZ1 ?_
    refine V.toZ2 ?_
    refine V.isubZ dX8_isPlace_25 ?_
    refine V.toZ2 ?_
    refine V.callSp cX8_53 (m_in g h _ _ _ (by omega) (by omega) (by omega)) dX8_isPlace_26 (Nat.le_of_ble_eq_true rfl) rfl rfl (Nat.le_of_ble_eq_true rfl) ?_
    refine V.if_eqB 36 dX8_isPlace_29 (by decide) (fun hc2 => ?_) (fun hc2 => ?_)
    · skip
      refine V.iconst (v := nI 0) dX8_isPlace_36 (by decide) ?_
      exact V.zret dX8_isPlace_37 rfl (by first | exact vB_01 | decide) ⟨by first | (exfalso; omega) | (first | (rw [vB_t (by omega)]; rfl) | (rw [vB_f (by omega)]; rfl)), rfl⟩
    · skip
      refine V.iconst (v := nI 1) dX8_isPlace_32 (by decide) ?_
      refine V.goto 37 dX8_isPlace_33 (by decide) ?_
      exact V.zret dX8_isPlace_37 rfl (by first | exact vB_01 | decide) ⟨by first | (exfalso; omega) | (first | (rw [vB_t (by omega)]; rfl) | (rw [vB_f (by omega)]; rfl)), rfl⟩

set_option maxHeartbeats 1000000 in
theorem m_whoAt (g : VG) (h : VHp) (m : Nat) (F : MF) (A : MA) (S : Rm) (hM : MRm h m F A S) (hB : RmB S) (hD : RmD S) (x y : Nat) (hx0 : x < 100) (hy0 : y < 100) : VE g mX8_whoAt 0 false (0, 0) [.ref m, .int (nI x), .int (nI y)] h (VP (eO (whoF S x y (rN S))) h) := by
  obtain ⟨hw, ⟨et0, et1, et2, ek⟩, es0, ev, ex, ey, eL⟩ := id hM
  obtain ⟨ho, hA⟩ := id hw
  obtain ⟨bn, bW, bH, bP, bL⟩ := id hB
  refine VE.of (by decide) rfl (Nat.le_of_ble_eq_true rfl) ?_
  have L : ∀ i, i ≤ rN S → V (g, mX8_whoAt, 0, false, h.length, VP (eO (whoF S x y (rN S))) h) (0, 0) 6 [some (.ref m), some (.int (nI x)), some (.int (nI y)), some (.int (eO (whoF S x y i))), some (.int (nI i))] [] h := by
    refine vloop (rN S) (fun i ih hi => ?_)
    refine V.iload dX8_whoAt_6 rfl ?_
    refine V.aload_n dX8_whoAt_8 rfl ?_
    refine V.get fX8_13 dX8_whoAt_9 ho rfl ?_
    refine V.iconst (v := nI 2) dX8_whoAt_12 (by decide) ?_
    refine V.iald dX8_whoAt_13 (hA 2 (by omega) (by omega)).1 rfl (by omega) et2 ?_
    refine V.icmp_geN 58 dX8_whoAt_14 (by decide) (by omega) (by omega) (fun hc1 => ?_) (fun hc1 => ?_)
    · skip
      refine V.iload_n dX8_whoAt_58 rfl ?_
      exact V.iret dX8_whoAt_59 rfl ⟨by first | (exfalso; omega) | (obtain rfl : i = rN S := (by omega); rfl), rfl⟩
    · skip
      have bi := bP i hc1
      refine V.aload_n dX8_whoAt_17 rfl ?_
      refine V.get fX8_22 dX8_whoAt_18 ho rfl ?_
      refine V.bipush (v := nI 7) dX8_whoAt_21 (by decide) ?_
      refine V.iload dX8_whoAt_23 rfl ?_
      refine V.iaddN dX8_whoAt_25 ?_
      refine V.iald dX8_whoAt_26 (hA 5 (by omega) (by omega)).1 rfl (by omega) (ex _ (by omega)) ?_
      refine V.iload_n dX8_whoAt_27 rfl ?_
      refine V.icmp_neN 50 dX8_whoAt_28 (by decide) (by omega) (by omega) (fun hc2 => ?_) (fun hc2 => ?_)
      · skip
        refine V.iload_n dX8_whoAt_50 rfl ?_
        refine V.istore_n (i := 3) dX8_whoAt_51 rfl rfl rfl ?_
        dsimp only [List.set]
        refine V.iincN (n := 1) dX8_whoAt_52 rfl rfl rfl ?_
        dsimp only [List.set]
        refine V.goto 6 dX8_whoAt_55 (by decide) ?_
        have z := ih (i + 1) (by omega) (by omega)
        first | (rw [whoF_skip (by omega)] at z; exact z) | (rw [whoF_step (whoF_last hD (by omega) (by omega)) (by omega)] at z; exact z)
      · skip
        refine V.aload_n dX8_whoAt_31 rfl ?_
        refine V.get fX8_22 dX8_whoAt_32 ho rfl ?_
        refine V.bipush (v := nI 13) dX8_whoAt_35 (by decide) ?_
        refine V.iload dX8_whoAt_37 rfl ?_
        refine V.iaddN dX8_whoAt_39 ?_
        refine V.iald dX8_whoAt_40 (hA 5 (by omega) (by omega)).1 rfl (by omega) (ey _ (by omega)) ?_
        refine V.iload_n dX8_whoAt_41 rfl ?_
        refine V.icmp_neN 50 dX8_whoAt_42 (by decide) (by omega) (by omega) (fun hc3 => ?_) (fun hc3 => ?_)
        · skip
          refine V.iload_n dX8_whoAt_50 rfl ?_
          refine V.istore_n (i := 3) dX8_whoAt_51 rfl rfl rfl ?_
          dsimp only [List.set]
          refine V.iincN (n := 1) dX8_whoAt_52 rfl rfl rfl ?_
          dsimp only [List.set]
          refine V.goto 6 dX8_whoAt_55 (by decide) ?_
          have z := ih (i + 1) (by omega) (by omega)
          first | (rw [whoF_skip (by omega)] at z; exact z) | (rw [whoF_step (whoF_last hD (by omega) (by omega)) (by omega)] at z; exact z)
        · skip
          refine V.iload dX8_whoAt_45 rfl ?_
          refine V.goto 51 dX8_whoAt_47 (by decide) ?_
          refine V.istore_n (i := 3) dX8_whoAt_51 rfl rfl rfl ?_
          dsimp only [List.set]
          refine V.iincN (n := 1) dX8_whoAt_52 rfl rfl rfl ?_
          dsimp only [List.set]
          refine V.goto 6 dX8_whoAt_55 (by decide) ?_
          have z := ih (i + 1) (by omega) (by omega)
          first | (rw [whoF_skip (by omega)] at z; exact z) | (rw [whoF_step (whoF_last hD (by omega) (by omega)) (by omega)] at z; exact z)
  show V _ _ 0 [some (.ref m), some (.int (nI x)), some (.int (nI y)), none, none] [] h
  refine V.bipush (v := iI (-4)) dX8_whoAt_0 (by decide) ?_
  refine V.istore_n (i := 3) dX8_whoAt_2 rfl rfl rfl ?_
  dsimp only [List.set]
  refine V.iconst (v := nI 0) dX8_whoAt_3 (by decide) ?_
  refine V.istore dX8_whoAt_4 rfl rfl ?_
  dsimp only [List.set]
  exact L 0 (by omega)

set_option maxHeartbeats 1000000 in
theorem m_eastBy (g : VG) (h : VHp) (sd : Nat) (hs : sd < 4) : VE g mX8_eastBy 0 false (0, 0) [.int (nI sd)] h (VP (iI (dxF sd)) h) := by
  refine VE.of (by decide) rfl (Nat.le_of_ble_eq_true rfl) ?_
  show V _ _ 0 [some (.int (nI sd))] [] h
  refine V.iload_n dX8_eastBy_0 rfl ?_
  refine V.iconst (v := nI 1) dX8_eastBy_1 (by decide) ?_
  refine V.icmp_neN 9 dX8_eastBy_2 (by decide) (by omega) (by omega) (fun hc1 => ?_) (fun hc1 => ?_)
  · skip
    refine V.iload_n dX8_eastBy_9 rfl ?_
    refine V.iconst (v := nI 3) dX8_eastBy_10 (by decide) ?_
    refine V.icmp_neN 18 dX8_eastBy_11 (by decide) (by omega) (by omega) (fun hc2 => ?_) (fun hc2 => ?_)
    · skip
      refine V.iconst (v := nI 0) dX8_eastBy_18 (by decide) ?_
      exact V.iret dX8_eastBy_19 rfl ⟨by first | (exfalso; omega) | (unfold dxF; (repeat first | rw [if_pos (by omega)] | rw [if_neg (by omega)]); first | done | rfl | exact congrArg _ (congrArg _ (iI_nat _).symm)), rfl⟩
    · skip
      refine V.iconst (v := iI (-1)) dX8_eastBy_14 (by decide) ?_
      refine V.goto 19 dX8_eastBy_15 (by decide) ?_
      exact V.iret dX8_eastBy_19 rfl ⟨by first | (exfalso; omega) | (unfold dxF; (repeat first | rw [if_pos (by omega)] | rw [if_neg (by omega)]); first | done | rfl | exact congrArg _ (congrArg _ (iI_nat _).symm)), rfl⟩
  · skip
    refine V.iconst (v := nI 1) dX8_eastBy_5 (by decide) ?_
    refine V.goto 19 dX8_eastBy_6 (by decide) ?_
    exact V.iret dX8_eastBy_19 rfl ⟨by first | (exfalso; omega) | (unfold dxF; (repeat first | rw [if_pos (by omega)] | rw [if_neg (by omega)]); first | done | rfl | exact congrArg _ (congrArg _ (iI_nat _).symm)), rfl⟩

set_option maxHeartbeats 1000000 in
theorem m_southBy (g : VG) (h : VHp) (sd : Nat) (hs : sd < 4) : VE g mX8_southBy 0 false (0, 0) [.int (nI sd)] h (VP (iI (dyF sd)) h) := by
  refine VE.of (by decide) rfl (Nat.le_of_ble_eq_true rfl) ?_
  show V _ _ 0 [some (.int (nI sd))] [] h
  refine V.iload_n dX8_southBy_0 rfl ?_
  refine V.if_neN 8 dX8_southBy_1 (by decide) (by omega) (fun hc1 => ?_) (fun hc1 => ?_)
  · skip
    refine V.iload_n dX8_southBy_8 rfl ?_
    refine V.iconst (v := nI 2) dX8_southBy_9 (by decide) ?_
    refine V.icmp_neN 17 dX8_southBy_10 (by decide) (by omega) (by omega) (fun hc2 => ?_) (fun hc2 => ?_)
    · skip
      refine V.iconst (v := nI 0) dX8_southBy_17 (by decide) ?_
      exact V.iret dX8_southBy_18 rfl ⟨by first | (exfalso; omega) | (unfold dyF; (repeat first | rw [if_pos (by omega)] | rw [if_neg (by omega)]); first | done | rfl | exact congrArg _ (congrArg _ (iI_nat _).symm)), rfl⟩
    · skip
      refine V.iconst (v := nI 1) dX8_southBy_13 (by decide) ?_
      refine V.goto 18 dX8_southBy_14 (by decide) ?_
      exact V.iret dX8_southBy_18 rfl ⟨by first | (exfalso; omega) | (unfold dyF; (repeat first | rw [if_pos (by omega)] | rw [if_neg (by omega)]); first | done | rfl | exact congrArg _ (congrArg _ (iI_nat _).symm)), rfl⟩
  · skip
    refine V.iconst (v := iI (-1)) dX8_southBy_4 (by decide) ?_
    refine V.goto 18 dX8_southBy_5 (by decide) ?_
    exact V.iret dX8_southBy_18 rfl ⟨by first | (exfalso; omega) | (unfold dyF; (repeat first | rw [if_pos (by omega)] | rw [if_neg (by omega)]); first | done | rfl | exact congrArg _ (congrArg _ (iI_nat _).symm)), rfl⟩
