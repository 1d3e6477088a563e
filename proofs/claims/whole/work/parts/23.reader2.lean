set_option maxHeartbeats 1000000 in
theorem e_takeWalls (g : VG) (h : VHp) (q r : Nat) (S : Rm) (nm : List Int32) (vs : List Nat) (hQ : ReaderAt h q nm) (hR : RoomAt h r S) (hB : RmB S) (hd : q + 2 ≤ r ∨ r + 6 ≤ q) (hv0 : ∀ i, i < 2 → nm[i]? = some (nI (vs.getD i 0))) (hb0 : ∀ i, i < 2 → vs.getD i 0 ≤ 99) : VE g mX2_takeWalls 0 false (0, 0) [.ref q, .ref r] h (TkPost r S (takeW S vs) h) := by
  obtain ⟨kd, xs, ys, vs9, ll, hw, ek, ex, ey, ev, eL⟩ := hR.raw
  obtain ⟨ho, hk, hx, hy, hv, hl, lk, lx, ly, lv, lL⟩ := id hw
  obtain ⟨bn, bW, bH, bP, bL⟩ := id hB
  have hf : VFr r (r + 6) h h := VFr.rf
  obtain ⟨hqo, hn1, hn2⟩ := id hQ
  have hbq0 := hb0 0 (by omega)
  have hbq1 := hb0 1 (by omega)
  refine VE.of (by decide) rfl (Nat.le_of_ble_eq_true rfl) ?_
  show V _ _ 0 [some (.ref q), some (.ref r)] [] h
  refine V.aload_n dX2_takeWalls_0 rfl ?_
  refine V.get fX2_11 dX2_takeWalls_1 hqo rfl ?_
  refine V.iconst (v := nI 0) dX2_takeWalls_4 (by decide) ?_
  refine V.iald dX2_takeWalls_5 hn1 rfl (by omega) (hv0 0 (by omega)) ?_
  refine V.iconst (v := nI 1) dX2_takeWalls_6 (by decide) ?_
  refine V.icmp_ltN 42 dX2_takeWalls_7 (by decide) (by omega) (by omega) (fun hc1 => ?_) (fun hc1 => ?_)
  · skip
    refine V.iconst (v := nI 0) dX2_takeWalls_42 (by decide) ?_
    exact V.zret dX2_takeWalls_43 rfl (by decide) (TkPost.no hR (if_neg (by omega)))
  · skip
    refine V.aload_n dX2_takeWalls_10 rfl ?_
    refine V.get fX2_11 dX2_takeWalls_11 hqo rfl ?_
    refine V.iconst (v := nI 0) dX2_takeWalls_14 (by decide) ?_
    refine V.iald dX2_takeWalls_15 hn1 rfl (by omega) (hv0 0 (by omega)) ?_
    refine V.bipush (v := nI 9) dX2_takeWalls_16 (by decide) ?_
    refine V.icmp_gtN 42 dX2_takeWalls_18 (by decide) (by omega) (by omega) (fun hc2 => ?_) (fun hc2 => ?_)
    · skip
      refine V.iconst (v := nI 0) dX2_takeWalls_42 (by decide) ?_
      exact V.zret dX2_takeWalls_43 rfl (by decide) (TkPost.no hR (if_neg (by omega)))
    · skip
      refine V.aload_n dX2_takeWalls_21 rfl ?_
      refine V.get fX2_11 dX2_takeWalls_22 hqo rfl ?_
      refine V.iconst (v := nI 1) dX2_takeWalls_25 (by decide) ?_
      refine V.iald dX2_takeWalls_26 hn1 rfl (by omega) (hv0 1 (by omega)) ?_
      refine V.iconst (v := nI 1) dX2_takeWalls_27 (by decide) ?_
      refine V.icmp_ltN 42 dX2_takeWalls_28 (by decide) (by omega) (by omega) (fun hc3 => ?_) (fun hc3 => ?_)
      · skip
        refine V.iconst (v := nI 0) dX2_takeWalls_42 (by decide) ?_
        exact V.zret dX2_takeWalls_43 rfl (by decide) (TkPost.no hR (if_neg (by omega)))
      · skip
        refine V.aload_n dX2_takeWalls_31 rfl ?_
        refine V.get fX2_11 dX2_takeWalls_32 hqo rfl ?_
        refine V.iconst (v := nI 1) dX2_takeWalls_35 (by decide) ?_
        refine V.iald dX2_takeWalls_36 hn1 rfl (by omega) (hv0 1 (by omega)) ?_
        refine V.bipush (v := nI 9) dX2_takeWalls_37 (by decide) ?_
        refine V.icmp_leN 44 dX2_takeWalls_39 (by decide) (by omega) (by omega) (fun hc4 => ?_) (fun hc4 => ?_)
        · skip
          refine V.aload_n dX2_takeWalls_44 rfl ?_
          refine V.aload_n dX2_takeWalls_45 rfl ?_
          refine V.get fX2_11 dX2_takeWalls_46 hqo rfl ?_
          refine V.iconst (v := nI 0) dX2_takeWalls_49 (by decide) ?_
          refine V.iald dX2_takeWalls_50 hn1 rfl (by omega) (hv0 0 (by omega)) ?_
          refine V.puti fX2_55 dX2_takeWalls_51 ho (Nat.le_of_ble_eq_true rfl) ?_
          dsimp only [List.set]
          have hw := RawAt.w0 hw (vs.getD 0 0) (rH S) (rN S) (rT S)
          have hg := VFr.set (h := h) (lo := r) (hi := r + 6) (a := r) (c := Sum.inr (Sum.inr (3, [Value.ref (r + 1), Value.ref (r + 2), Value.ref (r + 3), Value.ref (r + 4), Value.ref (r + 5), Value.int (nI (vs.getD 0 0)), Value.int (nI (rH S)), Value.int (nI (rN S)), Value.int (nI (rT S))]))) (by omega) (by omega)
          have hQ := hQ.keep hg (by omega)
          have hf := hf.tr hg
          generalize h.set r (Sum.inr (Sum.inr (3, [Value.ref (r + 1), Value.ref (r + 2), Value.ref (r + 3), Value.ref (r + 4), Value.ref (r + 5), Value.int (nI (vs.getD 0 0)), Value.int (nI (rH S)), Value.int (nI (rN S)), Value.int (nI (rT S))]))) = h at hw hf hQ ⊢
          obtain ⟨hqo, hn1, hn2⟩ := id hQ
          obtain ⟨ho, hk, hx, hy, hv, hl, lk, lx, ly, lv, lL⟩ := id hw
          refine V.aload_n dX2_takeWalls_54 rfl ?_
          refine V.aload_n dX2_takeWalls_55 rfl ?_
          refine V.get fX2_11 dX2_takeWalls_56 hqo rfl ?_
          refine V.iconst (v := nI 1) dX2_takeWalls_59 (by decide) ?_
          refine V.iald dX2_takeWalls_60 hn1 rfl (by omega) (hv0 1 (by omega)) ?_
          refine V.puti fX2_58 dX2_takeWalls_61 ho (Nat.le_of_ble_eq_true rfl) ?_
          dsimp only [List.set]
          have hw := RawAt.w0 hw (vs.getD 0 0) (vs.getD 1 0) (rN S) (rT S)
          have hg := VFr.set (h := h) (lo := r) (hi := r + 6) (a := r) (c := Sum.inr (Sum.inr (3, [Value.ref (r + 1), Value.ref (r + 2), Value.ref (r + 3), Value.ref (r + 4), Value.ref (r + 5), Value.int (nI (vs.getD 0 0)), Value.int (nI (vs.getD 1 0)), Value.int (nI (rN S)), Value.int (nI (rT S))]))) (by omega) (by omega)
          have hQ := hQ.keep hg (by omega)
          have hf := hf.tr hg
          generalize h.set r (Sum.inr (Sum.inr (3, [Value.ref (r + 1), Value.ref (r + 2), Value.ref (r + 3), Value.ref (r + 4), Value.ref (r + 5), Value.int (nI (vs.getD 0 0)), Value.int (nI (vs.getD 1 0)), Value.int (nI (rN S)), Value.int (nI (rT S))]))) = h at hw hf hQ ⊢
          obtain ⟨hqo, hn1, hn2⟩ := id hQ
          obtain ⟨ho, hk, hx, hy, hv, hl, lk, lx, ly, lv, lL⟩ := id hw
          refine V.iconst (v := nI 1) dX2_takeWalls_64 (by decide) ?_
          exact V.zret dX2_takeWalls_65 rfl (by decide) (TkPost.yes (hw.room (S := (vs.getD 0 0, vs.getD 1 0, S.2.2)) ⟨ek, ex, ey, ev, eL⟩ rfl rfl rfl rfl) (if_pos (by omega)) hf)
        · skip
          refine V.iconst (v := nI 0) dX2_takeWalls_42 (by decide) ?_
          exact V.zret dX2_takeWalls_43 rfl (by decide) (TkPost.no hR (if_neg (by omega)))

set_option maxHeartbeats 1000000 in
theorem e_takePerson (g : VG) (h : VHp) (q r : Nat) (S : Rm) (nm : List Int32) (vs : List Nat) (hQ : ReaderAt h q nm) (hR : RoomAt h r S) (hB : RmB S) (hd : q + 2 ≤ r ∨ r + 6 ≤ q) (hv0 : ∀ i, i < 3 → nm[i]? = some (nI (vs.getD i 0))) (hb0 : ∀ i, i < 3 → vs.getD i 0 ≤ 99) : VE g mX2_takePerson 2 false (0, 0) [.ref q, .ref r] h (TkPost r S (takeP S vs) h) := by
  obtain ⟨kd, xs, ys, vs9, ll, ho, hk, hx, hy, hv, hl, lk, lx, ly, lv, lL, ek, ex, ey, ev, eL⟩ := id hR
  obtain ⟨bn, bW, bH, bP, bL⟩ := id hB
  obtain ⟨hqo, hn1, hn2⟩ := id hQ
  have hbq0 := hb0 0 (by omega)
  have hbq1 := hb0 1 (by omega)
  have hbq2 := hb0 2 (by omega)
  have hlt : ∀ i, whoF S (vs.getD 1 0) (vs.getD 2 0) (rN S) = some i → i < 1000 := fun i z => by have := (whoF_lt z).1; omega
  refine VE.of (by decide) rfl (Nat.le_of_ble_eq_true rfl) ?_
  show V _ _ 0 [some (.ref q), some (.ref r)] [] h
  refine V.aload_n dX2_takePerson_0 rfl ?_
  refine V.get fX2_61 dX2_takePerson_1 ho rfl ?_
  refine V.bipush (v := nI 6) dX2_takePerson_4 (by decide) ?_
  refine V.icmp_geN 38 dX2_takePerson_6 (by decide) (by omega) (by omega) (fun hc1 => ?_) (fun hc1 => ?_)
  · skip
    refine V.iconst (v := nI 0) dX2_takePerson_38 (by decide) ?_
    exact V.zret dX2_takePerson_39 rfl (by decide) (TkPost.no hR (if_neg (by first | omega | exact fun z => hno z.2.2.2.2)))
  · skip
    refine V.aload_n dX2_takePerson_9 rfl ?_
    refine V.get fX2_11 dX2_takePerson_10 hqo rfl ?_
    refine V.iconst (v := nI 0) dX2_takePerson_13 (by decide) ?_
    refine V.iald dX2_takePerson_14 hn1 rfl (by omega) (hv0 0 (by omega)) ?_
    refine V.iconst (v := nI 4) dX2_takePerson_15 (by decide) ?_
    refine V.icmp_geN 38 dX2_takePerson_16 (by decide) (by omega) (by omega) (fun hc2 => ?_) (fun hc2 => ?_)
    · skip
      refine V.iconst (v := nI 0) dX2_takePerson_38 (by decide) ?_
      exact V.zret dX2_takePerson_39 rfl (by decide) (TkPost.no hR (if_neg (by first | omega | exact fun z => hno z.2.2.2.2)))
    · skip
      refine V.aload_n dX2_takePerson_19 rfl ?_
      refine V.aload_n dX2_takePerson_20 rfl ?_
      refine V.get fX2_11 dX2_takePerson_21 hqo rfl ?_
      refine V.iconst (v := nI 1) dX2_takePerson_24 (by decide) ?_
      refine V.iald dX2_takePerson_25 hn1 rfl (by omega) (hv0 1 (by omega)) ?_
      refine V.aload_n dX2_takePerson_26 rfl ?_
      refine V.get fX2_11 dX2_takePerson_27 hqo rfl ?_
      refine V.iconst (v := nI 2) dX2_takePerson_30 (by decide) ?_
      refine V.iald dX2_takePerson_31 hn1 rfl (by omega) (hv0 2 (by omega)) ?_
      refine V.toZ1 ?_
      refine V.toZ2 ?_
      refine V.callVp (ci := 3) cX2_64 (e_reaches g h r S hR hB _ _ (by omega) (by omega)) dX2_takePerson_32 (Nat.le_of_ble_eq_true rfl) rfl ho rfl rfl (Nat.le_of_ble_eq_true rfl) ?_
      refine V.if_neB 40 dX2_takePerson_35 (by decide) (fun hc3 => ?_) (fun hc3 => ?_)
      · skip
        refine V.aload_n dX2_takePerson_40 rfl ?_
        refine V.aload_n dX2_takePerson_41 rfl ?_
        refine V.get fX2_11 dX2_takePerson_42 hqo rfl ?_
        refine V.iconst (v := nI 1) dX2_takePerson_45 (by decide) ?_
        refine V.iald dX2_takePerson_46 hn1 rfl (by omega) (hv0 1 (by omega)) ?_
        refine V.aload_n dX2_takePerson_47 rfl ?_
        refine V.get fX2_11 dX2_takePerson_48 hqo rfl ?_
        refine V.iconst (v := nI 2) dX2_takePerson_51 (by decide) ?_
        refine V.iald dX2_takePerson_52 hn1 rfl (by omega) (hv0 2 (by omega)) ?_
        refine V.callVp (ci := 3) cX2_68 (e_whoIsAt g h r S hR hB (vs.getD 1 0) (vs.getD 2 0) (by omega) (by omega)) dX2_takePerson_53 (Nat.le_of_ble_eq_true rfl) rfl ho rfl rfl (Nat.le_of_ble_eq_true rfl) ?_
        refine V.bipush (v := iI (-4)) dX2_takePerson_56 (by decide) ?_
        refine V.icmp_eq 63 dX2_takePerson_58 (by decide) (fun hc4 => ?_) (fun hc4 => ?_)
        · skip
          have hyes := (eO_none hlt).mp hc4
          refine V.aload_n dX2_takePerson_63 rfl ?_
          refine V.aload_n dX2_takePerson_64 rfl ?_
          refine V.get fX2_11 dX2_takePerson_65 hqo rfl ?_
          refine V.iconst (v := nI 0) dX2_takePerson_68 (by decide) ?_
          refine V.iald dX2_takePerson_69 hn1 rfl (by omega) (hv0 0 (by omega)) ?_
          refine V.aload_n dX2_takePerson_70 rfl ?_
          refine V.get fX2_11 dX2_takePerson_71 hqo rfl ?_
          refine V.iconst (v := nI 1) dX2_takePerson_74 (by decide) ?_
          refine V.iald dX2_takePerson_75 hn1 rfl (by omega) (hv0 1 (by omega)) ?_
          refine V.aload_n dX2_takePerson_76 rfl ?_
          refine V.get fX2_11 dX2_takePerson_77 hqo rfl ?_
          refine V.iconst (v := nI 2) dX2_takePerson_80 (by decide) ?_
          refine V.iald dX2_takePerson_81 hn1 rfl (by omega) (hv0 2 (by omega)) ?_
          refine V.callV (ci := 3) cX2_72 (e_add g h r S hR hB (vs.getD 0 0) (vs.getD 1 0) (vs.getD 2 0) (by omega)) dX2_takePerson_82 (Nat.le_of_ble_eq_true rfl) rfl ho rfl rfl (Nat.le_of_ble_eq_true rfl) (fun v_ h_ hp_ => ?_)
          obtain ⟨rfl, hR2, hf2⟩ := hp_
          dsimp only [Option.toList, List.nil_append]
          refine V.iconst (v := nI 1) dX2_takePerson_85 (by decide) ?_
          exact V.zret dX2_takePerson_86 rfl (by decide) (TkPost.yes hR2 (if_pos ⟨by omega, by omega, by omega, by omega, hyes⟩) hf2)
        · skip
          have hno : ¬ whoF S (vs.getD 1 0) (vs.getD 2 0) (rN S) = none := fun z => hc4 ((eO_none hlt).mpr z)
          refine V.iconst (v := nI 0) dX2_takePerson_61 (by decide) ?_
          exact V.zret dX2_takePerson_62 rfl (by decide) (TkPost.no hR (if_neg (by first | omega | exact fun z => hno z.2.2.2.2)))
      · skip
        refine V.iconst (v := nI 0) dX2_takePerson_38 (by decide) ?_
        exact V.zret dX2_takePerson_39 rfl (by decide) (TkPost.no hR (if_neg (by first | omega | exact fun z => hno z.2.2.2.2)))

set_option maxHeartbeats 1000000 in
theorem e_takeLeaning (g : VG) (h : VHp) (q r : Nat) (S : Rm) (nm : List Int32) (vs : List Nat) (hQ : ReaderAt h q nm) (hR : RoomAt h r S) (hB : RmB S) (hd : q + 2 ≤ r ∨ r + 6 ≤ q) (hv0 : ∀ i, i < 4 → nm[i]? = some (nI (vs.getD i 0))) (hb0 : ∀ i, i < 4 → vs.getD i 0 ≤ 99) : VE g mX2_takeLeaning 3 false (0, 0) [.ref q, .ref r] h (TkPost r S (takeL S vs) h) := by
  obtain ⟨kd, xs, ys, vs9, ll, ho, hk, hx, hy, hv, hl, lk, lx, ly, lv, lL, ek, ex, ey, ev, eL⟩ := id hR
  obtain ⟨bn, bW, bH, bP, bL⟩ := id hB
  obtain ⟨hqo, hn1, hn2⟩ := id hQ
  have hbq0 := hb0 0 (by omega)
  have hbq1 := hb0 1 (by omega)
  have hbq2 := hb0 2 (by omega)
  have hbq3 := hb0 3 (by omega)
  refine VE.of (by decide) rfl (Nat.le_of_ble_eq_true rfl) ?_
  show V _ _ 0 [some (.ref q), some (.ref r)] [] h
  refine V.aload_n dX2_takeLeaning_0 rfl ?_
  refine V.aload_n dX2_takeLeaning_1 rfl ?_
  refine V.get fX2_11 dX2_takeLeaning_2 hqo rfl ?_
  refine V.iconst (v := nI 0) dX2_takeLeaning_5 (by decide) ?_
  refine V.iald dX2_takeLeaning_6 hn1 rfl (by omega) (hv0 0 (by omega)) ?_
  refine V.aload_n dX2_takeLeaning_7 rfl ?_
  refine V.get fX2_11 dX2_takeLeaning_8 hqo rfl ?_
  refine V.iconst (v := nI 1) dX2_takeLeaning_11 (by decide) ?_
  refine V.iald dX2_takeLeaning_12 hn1 rfl (by omega) (hv0 1 (by omega)) ?_
  refine V.toZ1 ?_
  refine V.toZ2 ?_
  refine V.callVp (ci := 3) cX2_76 (e_hasTwo g h r S hR hB _ _ (by omega) (by omega)) dX2_takeLeaning_13 (Nat.le_of_ble_eq_true rfl) rfl ho rfl rfl (Nat.le_of_ble_eq_true rfl) ?_
  refine V.if_eqB 40 dX2_takeLeaning_16 (by decide) (fun hc1 => ?_) (fun hc1 => ?_)
  · skip
    refine V.iconst (v := nI 0) dX2_takeLeaning_40 (by decide) ?_
    exact V.zret dX2_takeLeaning_41 rfl (by decide) (TkPost.no hR (if_neg (by omega)))
  · skip
    refine V.aload_n dX2_takeLeaning_19 rfl ?_
    refine V.get fX2_11 dX2_takeLeaning_20 hqo rfl ?_
    refine V.iconst (v := nI 2) dX2_takeLeaning_23 (by decide) ?_
    refine V.iald dX2_takeLeaning_24 hn1 rfl (by omega) (hv0 2 (by omega)) ?_
    refine V.iconst (v := nI 1) dX2_takeLeaning_25 (by decide) ?_
    refine V.icmp_gtN 40 dX2_takeLeaning_26 (by decide) (by omega) (by omega) (fun hc2 => ?_) (fun hc2 => ?_)
    · skip
      refine V.iconst (v := nI 0) dX2_takeLeaning_40 (by decide) ?_
      exact V.zret dX2_takeLeaning_41 rfl (by decide) (TkPost.no hR (if_neg (by omega)))
    · skip
      refine V.aload_n dX2_takeLeaning_29 rfl ?_
      refine V.get fX2_11 dX2_takeLeaning_30 hqo rfl ?_
      refine V.iconst (v := nI 3) dX2_takeLeaning_33 (by decide) ?_
      refine V.iald dX2_takeLeaning_34 hn1 rfl (by omega) (hv0 3 (by omega)) ?_
      refine V.bipush (v := nI 20) dX2_takeLeaning_35 (by decide) ?_
      refine V.icmp_leN 42 dX2_takeLeaning_37 (by decide) (by omega) (by omega) (fun hc3 => ?_) (fun hc3 => ?_)
      · skip
        refine V.aload_n dX2_takeLeaning_42 rfl ?_
        refine V.aload_n dX2_takeLeaning_43 rfl ?_
        refine V.get fX2_11 dX2_takeLeaning_44 hqo rfl ?_
        refine V.iconst (v := nI 0) dX2_takeLeaning_47 (by decide) ?_
        refine V.iald dX2_takeLeaning_48 hn1 rfl (by omega) (hv0 0 (by omega)) ?_
        refine V.aload_n dX2_takeLeaning_49 rfl ?_
        refine V.get fX2_11 dX2_takeLeaning_50 hqo rfl ?_
        refine V.iconst (v := nI 1) dX2_takeLeaning_53 (by decide) ?_
        refine V.iald dX2_takeLeaning_54 hn1 rfl (by omega) (hv0 1 (by omega)) ?_
        refine V.aload_n dX2_takeLeaning_55 rfl ?_
        refine V.get fX2_11 dX2_takeLeaning_56 hqo rfl ?_
        refine V.iconst (v := nI 2) dX2_takeLeaning_59 (by decide) ?_
        refine V.iald dX2_takeLeaning_60 hn1 rfl (by omega) (hv0 2 (by omega)) ?_
        refine V.if_neN 73 dX2_takeLeaning_61 (by decide) (by omega) (fun hc4 => ?_) (fun hc4 => ?_)
        · skip
          refine V.aload_n dX2_takeLeaning_73 rfl ?_
          refine V.get fX2_11 dX2_takeLeaning_74 hqo rfl ?_
          refine V.iconst (v := nI 3) dX2_takeLeaning_77 (by decide) ?_
          refine V.iald dX2_takeLeaning_78 hn1 rfl (by omega) (hv0 3 (by omega)) ?_
          refine V.toZ1 ?_
          refine V.inegZ dX2_takeLeaning_79 ?_
          refine V.callV (ci := 3) cX2_79 (e_setLeaning g h r S hR hB (vs.getD 0 0) (vs.getD 1 0) (-(((vs.getD 3 0) : Nat) : Int)) (by omega) (by omega)) dX2_takeLeaning_80 (Nat.le_of_ble_eq_true rfl) rfl ho rfl rfl (Nat.le_of_ble_eq_true rfl) (fun v_ h_ hp_ => ?_)
          obtain ⟨rfl, hR2, hf2⟩ := hp_
          have ez : takeL S vs = some (rLean S (vs.getD 0 0) (vs.getD 1 0) (-(((vs.getD 3 0) : Nat) : Int))) := by unfold takeL; rw [if_pos (by omega)]; first | rw [if_pos (by omega)] | rw [if_neg (by omega)]
          dsimp only [Option.toList, List.nil_append]
          refine V.iconst (v := nI 1) dX2_takeLeaning_83 (by decide) ?_
          exact V.zret dX2_takeLeaning_84 rfl (by decide) (TkPost.yes hR2 ez hf2)
        · skip
          refine V.aload_n dX2_takeLeaning_64 rfl ?_
          refine V.get fX2_11 dX2_takeLeaning_65 hqo rfl ?_
          refine V.iconst (v := nI 3) dX2_takeLeaning_68 (by decide) ?_
          refine V.iald dX2_takeLeaning_69 hn1 rfl (by omega) (hv0 3 (by omega)) ?_
          refine V.goto 80 dX2_takeLeaning_70 (by decide) ?_
          refine V.toZ1 ?_
          refine V.callV (ci := 3) cX2_79 (e_setLeaning g h r S hR hB (vs.getD 0 0) (vs.getD 1 0) (((vs.getD 3 0) : Nat) : Int) (by omega) (by omega)) dX2_takeLeaning_80 (Nat.le_of_ble_eq_true rfl) rfl ho rfl rfl (Nat.le_of_ble_eq_true rfl) (fun v_ h_ hp_ => ?_)
          obtain ⟨rfl, hR2, hf2⟩ := hp_
          have ez : takeL S vs = some (rLean S (vs.getD 0 0) (vs.getD 1 0) (((vs.getD 3 0) : Nat) : Int)) := by unfold takeL; rw [if_pos (by omega)]; first | rw [if_pos (by omega)] | rw [if_neg (by omega)]
          dsimp only [Option.toList, List.nil_append]
          refine V.iconst (v := nI 1) dX2_takeLeaning_83 (by decide) ?_
          exact V.zret dX2_takeLeaning_84 rfl (by decide) (TkPost.yes hR2 ez hf2)
      · skip
        refine V.iconst (v := nI 0) dX2_takeLeaning_40 (by decide) ?_
        exact V.zret dX2_takeLeaning_41 rfl (by decide) (TkPost.no hR (if_neg (by omega)))

set_option maxHeartbeats 1000000 in
theorem e_take (g : VG) (h : VHp) (c : Nat) (hc : c < 1000) (q r : Nat) (S : Rm) (nm : List Int32) (vs : List Nat) (hQ : ReaderAt h q nm) (hR : RoomAt h r S) (hB : RmB S) (hd : q + 2 ≤ r ∨ r + 6 ≤ q) (hv0 : ∀ i, i < nOf c → nm[i]? = some (nI (vs.getD i 0))) (hb0 : ∀ i, i < nOf c → vs.getD i 0 ≤ 99) : VE g mX2_take 4 false (0, 0) [.ref q, .ref r, .int (nI c)] h (TkPost r S (takeF S c vs) h) := by
  obtain ⟨hqo, hn1, hn2⟩ := id hQ
  refine VE.of (by decide) rfl (Nat.le_of_ble_eq_true rfl) ?_
  show V _ _ 0 [some (.ref q), some (.ref r), some (.int (nI c))] [] h
  refine V.iload_n dX2_take_0 rfl ?_
  rcases (show c = 114 ∨ c = 112 ∨ c = 108 ∨ (c ≠ 114 ∧ c ≠ 112 ∧ c ≠ 108) by omega) with hq | hq | hq | hq
  · skip
    subst hq
    refine V.lookup (off := 35) 36 dX2_take_1 (by decide) (by decide) (by decide) ?_
    refine V.aload_n dX2_take_36 rfl ?_
    refine V.aload_n dX2_take_37 rfl ?_
    refine V.callV (ci := 2) cX2_45 (e_takeWalls g h q r S nm vs hQ hR hB hd (fun i hi => hv0 i (show i < nOf _ from hi)) (fun i hi => hb0 i (show i < nOf _ from hi))) dX2_take_38 (Nat.le_of_ble_eq_true rfl) rfl hqo rfl rfl (Nat.le_of_ble_eq_true rfl) (fun v_ h_ hp_ => ?_)
    obtain ⟨hf2, rfl, hR2⟩ := hp_
    dsimp only [Option.toList, List.cons_append, List.nil_append]
    exact V.zret dX2_take_41 rfl (tk_01 _) ⟨hf2, rfl, hR2⟩
  · skip
    subst hq
    refine V.lookup (off := 41) 42 dX2_take_1 (by decide) (by decide) (by decide) ?_
    refine V.aload_n dX2_take_42 rfl ?_
    refine V.aload_n dX2_take_43 rfl ?_
    refine V.callV (ci := 2) cX2_49 (e_takePerson g h q r S nm vs hQ hR hB hd (fun i hi => hv0 i (show i < nOf _ from hi)) (fun i hi => hb0 i (show i < nOf _ from hi))) dX2_take_44 (Nat.le_of_ble_eq_true rfl) rfl hqo rfl rfl (Nat.le_of_ble_eq_true rfl) (fun v_ h_ hp_ => ?_)
    obtain ⟨hf2, rfl, hR2⟩ := hp_
    dsimp only [Option.toList, List.cons_append, List.nil_append]
    exact V.zret dX2_take_47 rfl (tk_01 _) ⟨hf2, rfl, hR2⟩
  · skip
    subst hq
    refine V.lookup (off := 47) 48 dX2_take_1 (by decide) (by decide) (by decide) ?_
    refine V.aload_n dX2_take_48 rfl ?_
    refine V.aload_n dX2_take_49 rfl ?_
    refine V.callV (ci := 2) cX2_52 (e_takeLeaning g h q r S nm vs hQ hR hB hd (fun i hi => hv0 i (show i < nOf _ from hi)) (fun i hi => hb0 i (show i < nOf _ from hi))) dX2_take_50 (Nat.le_of_ble_eq_true rfl) rfl hqo rfl rfl (Nat.le_of_ble_eq_true rfl) (fun v_ h_ hp_ => ?_)
    obtain ⟨hf2, rfl, hR2⟩ := hp_
    dsimp only [Option.toList, List.cons_append, List.nil_append]
    exact V.zret dX2_take_53 rfl (tk_01 _) ⟨hf2, rfl, hR2⟩
  · skip
    have hx : (nI c).toInt = (c : Int) := nI_toInt (by omega)
    refine V.lookup (off := 53) 54 dX2_take_1 (by decide) (look_no hx (by omega) (by omega) (by omega)) (by decide) ?_
    refine V.iconst (v := nI 0) dX2_take_54 (by decide) ?_
    exact V.zret dX2_take_55 rfl (by decide) (TkPost.no hR (by unfold takeF; rw [if_neg (by omega), if_neg (by omega), if_neg (by omega)]))
