set_option maxHeartbeats 1000000 in
theorem e_readInto (g : VG) (h : VHp) (q r t : Nat) (Q : Rm) (tx : List Nat) (nm : List Int32) (hQ : ReaderAt h q nm) (hR : RoomAt h r Q) (hT : TextAt h t tx) (hK : TxOk tx) (hqr : q + 2 ≤ r ∨ r + 6 ≤ q) (hqt : q + 2 ≤ t ∨ t + 2 ≤ q) (hrt : r + 6 ≤ t ∨ t + 2 ≤ r) : VE g mX2_readInto 5 false (0, 0) [.ref q, .ref r, .ref t] h (RiPost q r (parseF tx 200 0 rClear true) h) := by
  refine VE.of (by decide) rfl (Nat.le_of_ble_eq_true rfl) ?_
  have L : ∀ i, i ≤ 200 → ∀ (h1 : VHp) (a : Nat) (S : Rm) (ro : Bool) (nm : List Int32) (v6 v7 : Option Value), ReaderAt h1 q nm → RoomAt h1 r S → RmOk S → (ro = true → rN S = 0) → a ≤ 213 → parseF tx 200 0 rClear true = parseF tx (200 - i) a S ro → VFr2 q (q + 2) r (r + 6) h h1 → V (g, mX2_readInto, 5, false, h.length, RiPost q r (parseF tx 200 0 rClear true) h) (0, 0) 12 [some (.ref q), some (.ref r), some (.ref t), some (.int (nI ro.toNat)), some (.int (nI a)), some (.int (nI i)), v6, v7] [] h1 := by
    refine vloop 200 (fun i ih hi => ?_)
    intro h1 a S ro nm v6 v7 hQ hR hO hro ha he hf
    have hT1 : TextAt h1 t tx := hT.keep2 hf (by omega) (by omega)
    obtain ⟨lt, hto, hta, -, hln, -⟩ := id hT1
    obtain ⟨hqo, hn1, hn2⟩ := id hQ
    have hB := hO.1
    have hro1 := ro.toNat_le
    refine V.iload dX2_readInto_12 rfl ?_
    refine V.sipush (v := nI 200) dX2_readInto_14 (by decide) ?_
    refine V.icmp_geN 107 dX2_readInto_17 (by decide) (by omega) (by omega) (fun hc1 => ?_) (fun hc1 => ?_)
    · skip
      refine V.bipush (v := iI (-4)) dX2_readInto_107 (by decide) ?_
      have hz : parseF tx 200 0 rClear true = (none, S) := by
        rw [he]
        first | exact parse_end (by omega) | (rw [show 200 - i = 0 by omega]; rfl)
      refine V.iret dX2_readInto_109 rfl ⟨hf, ⟨nm, hQ⟩, ?_, ?_⟩
      · rw [hz]; rfl
      · rw [hz]; exact hR
    · skip
      refine V.iload dX2_readInto_20 rfl ?_
      refine V.aload_n dX2_readInto_22 rfl ?_
      refine V.get fX2_20 dX2_readInto_23 hto rfl ?_
      refine V.icmp_geN 107 dX2_readInto_26 (by decide) (by omega) (by omega) (fun hc2 => ?_) (fun hc2 => ?_)
      · skip
        refine V.bipush (v := iI (-4)) dX2_readInto_107 (by decide) ?_
        have hz : parseF tx 200 0 rClear true = (none, S) := by
          rw [he]
          first | exact parse_end (by omega) | (rw [show 200 - i = 0 by omega]; rfl)
        refine V.iret dX2_readInto_109 rfl ⟨hf, ⟨nm, hQ⟩, ?_, ?_⟩
        · rw [hz]; rfl
        · rw [hz]; exact hR
      · skip
        have hlen := hc2
        have hcb := hK.2 a hc2
        refine V.aload_n dX2_readInto_29 rfl ?_
        refine V.iload dX2_readInto_30 rfl ?_
        refine V.callVp (ci := 6) cX2_26 (e_letterAt g h1 t tx hT1 a (by omega)) dX2_readInto_32 (Nat.le_of_ble_eq_true rfl) rfl hto rfl rfl (Nat.le_of_ble_eq_true rfl) ?_
        refine V.re (y := nI (tx.getD a 0)) (by rw [chF, if_pos hlen]; rfl) ?_
        refine V.istore dX2_readInto_35 rfl rfl ?_
        dsimp only [List.set]
        refine V.aload_n dX2_readInto_37 rfl ?_
        refine V.aload_n dX2_readInto_38 rfl ?_
        refine V.iload dX2_readInto_39 rfl ?_
        refine V.iconst (v := nI 1) dX2_readInto_41 (by decide) ?_
        refine V.iaddN dX2_readInto_42 ?_
        refine V.iload dX2_readInto_43 rfl ?_
        refine V.callSp cX2_30 (e_numbersOf g h1 (tx.getD a 0) (by omega)) dX2_readInto_45 (Nat.le_of_ble_eq_true rfl) rfl rfl (Nat.le_of_ble_eq_true rfl) ?_
        refine V.callV (ci := 2) cX2_33 (e_readNumbers g h1 q t tx nm hQ hT1 hK hqt (a + 1) (nOf (tx.getD a 0)) (by omega) (nOf_le _)) dX2_readInto_48 (Nat.le_of_ble_eq_true rfl) rfl hqo rfl rfl (Nat.le_of_ble_eq_true rfl) (fun v_ h_ hp_ => ?_)
        obtain ⟨hf2, nm2, hQ2, hres⟩ := hp_
        have hR2 : RoomAt h_ r S := hR.keep hf2 (by omega)
        have hf3 := hf.tr (VFr.to2l (lo' := r) (hi' := r + 6) hf2)
        replace hqo := hQ2.1
        rcases hn : (if nOf (tx.getD a 0) = 0 then none else numsF tx (nOf (tx.getD a 0)) (a + 1)) with _ | w
        · skip
          rw [hn] at hres
          obtain rfl := hres
          dsimp only [Option.toList, List.cons_append, List.nil_append]
          refine V.istore dX2_readInto_51 rfl rfl ?_
          dsimp only [List.set]
          refine V.iload dX2_readInto_53 rfl ?_
          refine V.bipush (v := iI (-4)) dX2_readInto_55 (by decide) ?_
          refine V.icmp_eqZ 81 dX2_readInto_57 (by decide) (by omega) (by omega) (fun hc3 => ?_) (fun hc3 => ?_)
          · skip
            refine V.iload dX2_readInto_81 rfl ?_
            have hz : parseF tx 200 0 rClear true = (some a, S) := by
              rw [he, show 200 - i = (200 - i - 1) + 1 by omega]
              first | exact parse_no1 hlen hn | exact parse_no2 hlen hn hr0 | exact parse_no3 hlen hn htk
            first | (refine V.iret dX2_readInto_83 rfl ⟨hf3.tr (VFr.to2r hf4), ⟨nm2, hQ2.keep hf4 (by omega)⟩, by rw [hz]; rfl, by rw [hz]; exact hR5⟩) | (refine V.iret dX2_readInto_83 rfl ⟨hf3, ⟨nm2, hQ2⟩, by rw [hz]; rfl, by rw [hz]; exact hR2⟩)
          · exact absurd rfl hc3
        · skip
          rw [hn] at hres
          obtain ⟨rfl, hvs⟩ := hres
          have hbd := numsW_bd hK hn
          dsimp only [Option.toList, List.cons_append, List.nil_append]
          refine V.istore dX2_readInto_51 rfl rfl ?_
          dsimp only [List.set]
          refine V.iload dX2_readInto_53 rfl ?_
          refine V.bipush (v := iI (-4)) dX2_readInto_55 (by decide) ?_
          refine V.toZ2 ?_
          refine V.icmp_eqZ 81 dX2_readInto_57 (by decide) (by omega) (by omega) (fun hc4 => ?_) (fun hc4 => ?_)
          · exact absurd hc4 (by omega)
          · skip
            refine V.iload dX2_readInto_60 rfl ?_
            refine V.bipush (v := nI 114) dX2_readInto_62 (by decide) ?_
            refine V.icmp_neN 71 dX2_readInto_64 (by decide) (by omega) (by omega) (fun hc5 => ?_) (fun hc5 => ?_)
            · skip
              refine V.aload_n dX2_readInto_71 rfl ?_
              refine V.aload_n dX2_readInto_72 rfl ?_
              refine V.iload dX2_readInto_73 rfl ?_
              refine V.callV (ci := 2) cX2_37 (e_take g h_ (tx.getD a 0) (by omega) q r S nm2 w.1 hQ2 hR2 hB hqr hvs hbd.2.2.1) dX2_readInto_75 (Nat.le_of_ble_eq_true rfl) rfl hqo rfl rfl (Nat.le_of_ble_eq_true rfl) (fun v_ h_ hp_ => ?_)
              obtain ⟨hf4, rfl, hR4⟩ := hp_
              have htl := tk_le (takeF S (tx.getD a 0) w.1)
              dsimp only [Option.toList, List.cons_append, List.nil_append]
              refine V.if_neN 84 dX2_readInto_78 (by decide) (by omega) (fun hc6 => ?_) (fun hc6 => ?_)
              · skip
                obtain ⟨S9, hS9⟩ := tk_ne hc6
                have hR5 : RoomAt h_ r S9 := by rw [hS9] at hR4; exact hR4
                refine V.iload dX2_readInto_84 rfl ?_
                refine V.bipush (v := nI 114) dX2_readInto_86 (by decide) ?_
                refine V.icmp_neN 95 dX2_readInto_88 (by decide) (by omega) (by omega) (fun hc7 => ?_) (fun hc7 => ?_)
                · skip
                  refine V.iconst (v := nI 0) dX2_readInto_95 (by decide) ?_
                  refine V.istore_n (i := 3) dX2_readInto_96 rfl rfl rfl ?_
                  dsimp only [List.set]
                  refine V.iload dX2_readInto_97 rfl ?_
                  refine V.istore dX2_readInto_99 rfl rfl ?_
                  dsimp only [List.set]
                  refine V.iincN (n := 1) dX2_readInto_101 rfl rfl rfl ?_
                  dsimp only [List.set]
                  refine V.goto 12 dX2_readInto_104 (by decide) ?_
                  have hpk := parse_ok (f := 200 - i - 1) (ro := ro) hlen hn (by first | exact fun z => absurd z.1 (by omega) | exact fun z => hr0 z.2) hS9
                  rw [← show 200 - i = (200 - i - 1) + 1 by omega, ← he, show 200 - i - 1 = 200 - (i + 1) by omega] at hpk
                  obtain ⟨k1, k2⟩ := take_Ok hO (fun z => hro (by first | exact absurd z (by omega) | (cases ro with
                    | true => rfl
                    | false => exact absurd rfl hr0))) hS9
                  have z := ih (i + 1) (by omega) (by omega) _ w.2 S9 (decide (tx.getD a 0 = 114)) nm2 (some (.int (nI (tx.getD a 0)))) (some (.int (nI w.2))) (hQ2.keep hf4 (by omega)) hR5 k1 (fun z => k2 (of_decide_eq_true z)) (by omega) hpk (hf3.tr (VFr.to2r hf4))
                  first | (rw [show (decide (tx.getD a 0 = 114)).toNat = 1 from by rw [decide_eq_true (by omega)]; rfl] at z; exact z) | (rw [show (decide (tx.getD a 0 = 114)).toNat = 0 from by rw [decide_eq_false (by omega)]; rfl] at z; exact z)
                · skip
                  refine V.iconst (v := nI 1) dX2_readInto_91 (by decide) ?_
                  refine V.goto 96 dX2_readInto_92 (by decide) ?_
                  refine V.istore_n (i := 3) dX2_readInto_96 rfl rfl rfl ?_
                  dsimp only [List.set]
                  refine V.iload dX2_readInto_97 rfl ?_
                  refine V.istore dX2_readInto_99 rfl rfl ?_
                  dsimp only [List.set]
                  refine V.iincN (n := 1) dX2_readInto_101 rfl rfl rfl ?_
                  dsimp only [List.set]
                  refine V.goto 12 dX2_readInto_104 (by decide) ?_
                  have hpk := parse_ok (f := 200 - i - 1) (ro := ro) hlen hn (by first | exact fun z => absurd z.1 (by omega) | exact fun z => hr0 z.2) hS9
                  rw [← show 200 - i = (200 - i - 1) + 1 by omega, ← he, show 200 - i - 1 = 200 - (i + 1) by omega] at hpk
                  obtain ⟨k1, k2⟩ := take_Ok hO (fun z => hro (by first | exact absurd z (by omega) | (cases ro with
                    | true => rfl
                    | false => exact absurd rfl hr0))) hS9
                  have z := ih (i + 1) (by omega) (by omega) _ w.2 S9 (decide (tx.getD a 0 = 114)) nm2 (some (.int (nI (tx.getD a 0)))) (some (.int (nI w.2))) (hQ2.keep hf4 (by omega)) hR5 k1 (fun z => k2 (of_decide_eq_true z)) (by omega) hpk (hf3.tr (VFr.to2r hf4))
                  first | (rw [show (decide (tx.getD a 0 = 114)).toNat = 1 from by rw [decide_eq_true (by omega)]; rfl] at z; exact z) | (rw [show (decide (tx.getD a 0 = 114)).toNat = 0 from by rw [decide_eq_false (by omega)]; rfl] at z; exact z)
              · skip
                have htk := tk_eq hc6
                have hR5 : RoomAt h_ r S := by rw [htk] at hR4; exact hR4
                refine V.iload dX2_readInto_81 rfl ?_
                have hz : parseF tx 200 0 rClear true = (some a, S) := by
                  rw [he, show 200 - i = (200 - i - 1) + 1 by omega]
                  first | exact parse_no1 hlen hn | exact parse_no2 hlen hn hr0 | exact parse_no3 hlen hn htk
                first | (refine V.iret dX2_readInto_83 rfl ⟨hf3.tr (VFr.to2r hf4), ⟨nm2, hQ2.keep hf4 (by omega)⟩, by rw [hz]; rfl, by rw [hz]; exact hR5⟩) | (refine V.iret dX2_readInto_83 rfl ⟨hf3, ⟨nm2, hQ2⟩, by rw [hz]; rfl, by rw [hz]; exact hR2⟩)
            · skip
              refine V.iload_n dX2_readInto_67 rfl ?_
              refine V.if_eqN 81 dX2_readInto_68 (by decide) (by omega) (fun hc8 => ?_) (fun hc8 => ?_)
              · skip
                have hr0 : tx.getD a 0 = 114 ∧ ro = false := ⟨by omega, by cases ro with
                                                              | true => exact absurd hc8 (by decide)
                                                              | false => rfl⟩
                refine V.iload dX2_readInto_81 rfl ?_
                have hz : parseF tx 200 0 rClear true = (some a, S) := by
                  rw [he, show 200 - i = (200 - i - 1) + 1 by omega]
                  first | exact parse_no1 hlen hn | exact parse_no2 hlen hn hr0 | exact parse_no3 hlen hn htk
                first | (refine V.iret dX2_readInto_83 rfl ⟨hf3.tr (VFr.to2r hf4), ⟨nm2, hQ2.keep hf4 (by omega)⟩, by rw [hz]; rfl, by rw [hz]; exact hR5⟩) | (refine V.iret dX2_readInto_83 rfl ⟨hf3, ⟨nm2, hQ2⟩, by rw [hz]; rfl, by rw [hz]; exact hR2⟩)
              · skip
                have hr0 : ¬ ro = false := fun z => hc8 (by rw [z]; rfl)
                refine V.aload_n dX2_readInto_71 rfl ?_
                refine V.aload_n dX2_readInto_72 rfl ?_
                refine V.iload dX2_readInto_73 rfl ?_
                refine V.callV (ci := 2) cX2_37 (e_take g h_ (tx.getD a 0) (by omega) q r S nm2 w.1 hQ2 hR2 hB hqr hvs hbd.2.2.1) dX2_readInto_75 (Nat.le_of_ble_eq_true rfl) rfl hqo rfl rfl (Nat.le_of_ble_eq_true rfl) (fun v_ h_ hp_ => ?_)
                obtain ⟨hf4, rfl, hR4⟩ := hp_
                have htl := tk_le (takeF S (tx.getD a 0) w.1)
                dsimp only [Option.toList, List.cons_append, List.nil_append]
                refine V.if_neN 84 dX2_readInto_78 (by decide) (by omega) (fun hc9 => ?_) (fun hc9 => ?_)
                · skip
                  obtain ⟨S9, hS9⟩ := tk_ne hc9
                  have hR5 : RoomAt h_ r S9 := by rw [hS9] at hR4; exact hR4
                  refine V.iload dX2_readInto_84 rfl ?_
                  refine V.bipush (v := nI 114) dX2_readInto_86 (by decide) ?_
                  refine V.icmp_neN 95 dX2_readInto_88 (by decide) (by omega) (by omega) (fun hc10 => ?_) (fun hc10 => ?_)
                  · skip
                    refine V.iconst (v := nI 0) dX2_readInto_95 (by decide) ?_
                    refine V.istore_n (i := 3) dX2_readInto_96 rfl rfl rfl ?_
                    dsimp only [List.set]
                    refine V.iload dX2_readInto_97 rfl ?_
                    refine V.istore dX2_readInto_99 rfl rfl ?_
                    dsimp only [List.set]
                    refine V.iincN (n := 1) dX2_readInto_101 rfl rfl rfl ?_
                    dsimp only [List.set]
                    refine V.goto 12 dX2_readInto_104 (by decide) ?_
                    have hpk := parse_ok (f := 200 - i - 1) (ro := ro) hlen hn (by first | exact fun z => absurd z.1 (by omega) | exact fun z => hr0 z.2) hS9
                    rw [← show 200 - i = (200 - i - 1) + 1 by omega, ← he, show 200 - i - 1 = 200 - (i + 1) by omega] at hpk
                    obtain ⟨k1, k2⟩ := take_Ok hO (fun z => hro (by first | exact absurd z (by omega) | (cases ro with
                      | true => rfl
                      | false => exact absurd rfl hr0))) hS9
                    have z := ih (i + 1) (by omega) (by omega) _ w.2 S9 (decide (tx.getD a 0 = 114)) nm2 (some (.int (nI (tx.getD a 0)))) (some (.int (nI w.2))) (hQ2.keep hf4 (by omega)) hR5 k1 (fun z => k2 (of_decide_eq_true z)) (by omega) hpk (hf3.tr (VFr.to2r hf4))
                    first | (rw [show (decide (tx.getD a 0 = 114)).toNat = 1 from by rw [decide_eq_true (by omega)]; rfl] at z; exact z) | (rw [show (decide (tx.getD a 0 = 114)).toNat = 0 from by rw [decide_eq_false (by omega)]; rfl] at z; exact z)
                  · skip
                    refine V.iconst (v := nI 1) dX2_readInto_91 (by decide) ?_
                    refine V.goto 96 dX2_readInto_92 (by decide) ?_
                    refine V.istore_n (i := 3) dX2_readInto_96 rfl rfl rfl ?_
                    dsimp only [List.set]
                    refine V.iload dX2_readInto_97 rfl ?_
                    refine V.istore dX2_readInto_99 rfl rfl ?_
                    dsimp only [List.set]
                    refine V.iincN (n := 1) dX2_readInto_101 rfl rfl rfl ?_
                    dsimp only [List.set]
                    refine V.goto 12 dX2_readInto_104 (by decide) ?_
                    have hpk := parse_ok (f := 200 - i - 1) (ro := ro) hlen hn (by first | exact fun z => absurd z.1 (by omega) | exact fun z => hr0 z.2) hS9
                    rw [← show 200 - i = (200 - i - 1) + 1 by omega, ← he, show 200 - i - 1 = 200 - (i + 1) by omega] at hpk
                    obtain ⟨k1, k2⟩ := take_Ok hO (fun z => hro (by first | exact absurd z (by omega) | (cases ro with
                      | true => rfl
                      | false => exact absurd rfl hr0))) hS9
                    have z := ih (i + 1) (by omega) (by omega) _ w.2 S9 (decide (tx.getD a 0 = 114)) nm2 (some (.int (nI (tx.getD a 0)))) (some (.int (nI w.2))) (hQ2.keep hf4 (by omega)) hR5 k1 (fun z => k2 (of_decide_eq_true z)) (by omega) hpk (hf3.tr (VFr.to2r hf4))
                    first | (rw [show (decide (tx.getD a 0 = 114)).toNat = 1 from by rw [decide_eq_true (by omega)]; rfl] at z; exact z) | (rw [show (decide (tx.getD a 0 = 114)).toNat = 0 from by rw [decide_eq_false (by omega)]; rfl] at z; exact z)
                · skip
                  have htk := tk_eq hc9
                  have hR5 : RoomAt h_ r S := by rw [htk] at hR4; exact hR4
                  refine V.iload dX2_readInto_81 rfl ?_
                  have hz : parseF tx 200 0 rClear true = (some a, S) := by
                    rw [he, show 200 - i = (200 - i - 1) + 1 by omega]
                    first | exact parse_no1 hlen hn | exact parse_no2 hlen hn hr0 | exact parse_no3 hlen hn htk
                  first | (refine V.iret dX2_readInto_83 rfl ⟨hf3.tr (VFr.to2r hf4), ⟨nm2, hQ2.keep hf4 (by omega)⟩, by rw [hz]; rfl, by rw [hz]; exact hR5⟩) | (refine V.iret dX2_readInto_83 rfl ⟨hf3, ⟨nm2, hQ2⟩, by rw [hz]; rfl, by rw [hz]; exact hR2⟩)
  show V _ _ 0 [some (.ref q), some (.ref r), some (.ref t), none, none, none, none, none] [] h
  refine V.aload_n dX2_readInto_0 rfl ?_
  refine V.callV (ci := 3) cX2_15 (e_clear g h r Q hR) dX2_readInto_1 (Nat.le_of_ble_eq_true rfl) rfl (RoomAt.obj hR) rfl rfl (Nat.le_of_ble_eq_true rfl) (fun v_ h_ hp_ => ?_)
  obtain ⟨rfl, hR1, hf1⟩ := hp_
  dsimp only [Option.toList, List.nil_append]
  refine V.iconst (v := nI 1) dX2_readInto_4 (by decide) ?_
  refine V.istore_n (i := 3) dX2_readInto_5 rfl rfl rfl ?_
  dsimp only [List.set]
  refine V.iconst (v := nI 0) dX2_readInto_6 (by decide) ?_
  refine V.istore dX2_readInto_7 rfl rfl ?_
  dsimp only [List.set]
  refine V.iconst (v := nI 0) dX2_readInto_9 (by decide) ?_
  refine V.istore dX2_readInto_10 rfl rfl ?_
  dsimp only [List.set]
  exact L 0 (by omega) _ 0 rClear true nm none none (hQ.keep hf1 (by omega)) hR1 clear_Ok (fun _ => rfl) (by omega) rfl (VFr.to2r hf1)
