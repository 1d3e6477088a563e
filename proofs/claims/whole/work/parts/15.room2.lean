set_option maxHeartbeats 1000000 in
theorem e_lookersAt (g : VG) (h : VHp) (r : Nat) (S : Rm) (hR : RoomAt h r S) (hB : RmB S) (q : Nat) (hq : q < rN S) : VE g mX3_lookersAt 3 false (0, 0) [.ref r, .int (nI q)] h (VP (nI (cntP (fun i => tellF S i q) (rN S))) h) := by
  obtain ⟨kd, xs, ys, vs, ll, ho, hk, hx, hy, hv, hl, lk, lx, ly, lv, lL, ek, ex, ey, ev, eL⟩ := id hR
  obtain ⟨bn, bW, bH, bP, bL⟩ := id hB
  refine VE.of (by decide) rfl (Nat.le_of_ble_eq_true rfl) ?_
  have L : ∀ i, i ≤ rN S → V (g, mX3_lookersAt, 3, false, h.length, VP (nI (cntP (fun i => tellF S i q) (rN S))) h) (0, 0) 4 [some (.ref r), some (.int (nI q)), some (.int (nI (cntP (fun i => tellF S i q) i))), some (.int (nI i))] [] h := by
    refine vloop (rN S) (fun i ih hi => ?_)
    refine V.iload_n dX3_lookersAt_4 rfl ?_
    refine V.aload_n dX3_lookersAt_5 rfl ?_
    refine V.get fX3_34 dX3_lookersAt_6 ho rfl ?_
    refine V.icmp_geN 30 dX3_lookersAt_9 (by decide) (by omega) (by omega) (fun hc1 => ?_) (fun hc1 => ?_)
    · skip
      refine V.iload_n dX3_lookersAt_30 rfl ?_
      exact V.iret dX3_lookersAt_31 rfl ⟨by first | (exfalso; omega) | (obtain rfl : i = rN S := (by omega); rfl), rfl⟩
    · skip
      refine V.aload_n dX3_lookersAt_12 rfl ?_
      refine V.iload_n dX3_lookersAt_13 rfl ?_
      refine V.iload_n dX3_lookersAt_14 rfl ?_
      refine V.callVp (ci := 3) cX3_112 (e_tellsToward g h r S hR hB i q (by omega) hq) dX3_lookersAt_15 (Nat.le_of_ble_eq_true rfl) rfl ho rfl rfl (Nat.le_of_ble_eq_true rfl) ?_
      refine V.if_eqB 24 dX3_lookersAt_18 (by decide) (fun hc2 => ?_) (fun hc2 => ?_)
      · skip
        refine V.iincN (n := 1) dX3_lookersAt_24 rfl rfl rfl ?_
        dsimp only [List.set]
        refine V.goto 4 dX3_lookersAt_27 (by decide) ?_
        have z := ih (i + 1) (by omega) (by omega)
        first | (rw [cntP_pos (P := fun i => tellF S i q) (n := i) (by first | assumption | omega)] at z; exact z) | (rw [cntP_neg (P := fun i => tellF S i q) (n := i) (by first | assumption | omega)] at z; exact z)
      · skip
        refine V.iincN (n := 1) dX3_lookersAt_21 rfl rfl rfl ?_
        dsimp only [List.set]
        refine V.iincN (n := 1) dX3_lookersAt_24 rfl rfl rfl ?_
        dsimp only [List.set]
        refine V.goto 4 dX3_lookersAt_27 (by decide) ?_
        have z := ih (i + 1) (by omega) (by omega)
        first | (rw [cntP_pos (P := fun i => tellF S i q) (n := i) (by first | assumption | omega)] at z; exact z) | (rw [cntP_neg (P := fun i => tellF S i q) (n := i) (by first | assumption | omega)] at z; exact z)
  show V _ _ 0 [some (.ref r), some (.int (nI q)), none, none] [] h
  refine V.iconst (v := nI 0) dX3_lookersAt_0 (by decide) ?_
  refine V.istore_n (i := 2) dX3_lookersAt_1 rfl rfl rfl ?_
  dsimp only [List.set]
  refine V.iconst (v := nI 0) dX3_lookersAt_2 (by decide) ?_
  refine V.istore_n (i := 3) dX3_lookersAt_3 rfl rfl rfl ?_
  dsimp only [List.set]
  exact L 0 (by omega)

set_option maxHeartbeats 1000000 in
theorem e_howManyFeelADraft (g : VG) (h : VHp) (r : Nat) (S : Rm) (hR : RoomAt h r S) (hB : RmB S)  : VE g mX3_howManyFeelADraft 5 false (0, 0) [.ref r] h (VP (nI (cntP (fun i => draftF S i ≠ none) (rN S))) h) := by
  obtain ⟨kd, xs, ys, vs, ll, ho, hk, hx, hy, hv, hl, lk, lx, ly, lv, lL, ek, ex, ey, ev, eL⟩ := id hR
  obtain ⟨bn, bW, bH, bP, bL⟩ := id hB
  have hdl : ∀ i w, draftF S i = some w → w < 1000 := fun i w z => by have := draftF_lt z; omega
  refine VE.of (by decide) rfl (Nat.le_of_ble_eq_true rfl) ?_
  have L : ∀ i, i ≤ rN S → V (g, mX3_howManyFeelADraft, 5, false, h.length, VP (nI (cntP (fun i => draftF S i ≠ none) (rN S))) h) (0, 0) 4 [some (.ref r), some (.int (nI (cntP (fun i => draftF S i ≠ none) i))), some (.int (nI i))] [] h := by
    refine vloop (rN S) (fun i ih hi => ?_)
    refine V.iload_n dX3_howManyFeelADraft_4 rfl ?_
    refine V.aload_n dX3_howManyFeelADraft_5 rfl ?_
    refine V.get fX3_34 dX3_howManyFeelADraft_6 ho rfl ?_
    refine V.icmp_geN 31 dX3_howManyFeelADraft_9 (by decide) (by omega) (by omega) (fun hc1 => ?_) (fun hc1 => ?_)
    · skip
      refine V.iload_n dX3_howManyFeelADraft_31 rfl ?_
      exact V.iret dX3_howManyFeelADraft_32 rfl ⟨by first | (exfalso; omega) | (obtain rfl : i = rN S := (by omega); rfl), rfl⟩
    · skip
      refine V.aload_n dX3_howManyFeelADraft_12 rfl ?_
      refine V.iload_n dX3_howManyFeelADraft_13 rfl ?_
      refine V.callVp (ci := 3) cX3_98 (e_draft g h r S hR hB i (by omega)) dX3_howManyFeelADraft_14 (Nat.le_of_ble_eq_true rfl) rfl ho rfl rfl (Nat.le_of_ble_eq_true rfl) ?_
      refine V.bipush (v := iI (-4)) dX3_howManyFeelADraft_17 (by decide) ?_
      refine V.icmp_eq 25 dX3_howManyFeelADraft_19 (by decide) (fun hc2 => ?_) (fun hc2 => ?_)
      · skip
        replace hc2 : ¬ (draftF S i ≠ none) := fun z => z ((eO_none (hdl i)).mp hc2)
        refine V.iincN (n := 1) dX3_howManyFeelADraft_25 rfl rfl rfl ?_
        dsimp only [List.set]
        refine V.goto 4 dX3_howManyFeelADraft_28 (by decide) ?_
        have z := ih (i + 1) (by omega) (by omega)
        first | (rw [cntP_pos (P := fun i => draftF S i ≠ none) (n := i) (by first | assumption | omega)] at z; exact z) | (rw [cntP_neg (P := fun i => draftF S i ≠ none) (n := i) (by first | assumption | omega)] at z; exact z)
      · skip
        replace hc2 : draftF S i ≠ none := fun z => hc2 ((eO_none (hdl i)).mpr z)
        refine V.iincN (n := 1) dX3_howManyFeelADraft_22 rfl rfl rfl ?_
        dsimp only [List.set]
        refine V.iincN (n := 1) dX3_howManyFeelADraft_25 rfl rfl rfl ?_
        dsimp only [List.set]
        refine V.goto 4 dX3_howManyFeelADraft_28 (by decide) ?_
        have z := ih (i + 1) (by omega) (by omega)
        first | (rw [cntP_pos (P := fun i => draftF S i ≠ none) (n := i) (by first | assumption | omega)] at z; exact z) | (rw [cntP_neg (P := fun i => draftF S i ≠ none) (n := i) (by first | assumption | omega)] at z; exact z)
  show V _ _ 0 [some (.ref r), none, none] [] h
  refine V.iconst (v := nI 0) dX3_howManyFeelADraft_0 (by decide) ?_
  refine V.istore_n (i := 1) dX3_howManyFeelADraft_1 rfl rfl rfl ?_
  dsimp only [List.set]
  refine V.iconst (v := nI 0) dX3_howManyFeelADraft_2 (by decide) ?_
  refine V.istore_n (i := 2) dX3_howManyFeelADraft_3 rfl rfl rfl ?_
  dsimp only [List.set]
  exact L 0 (by omega)

set_option maxHeartbeats 1000000 in
theorem e_howManyLeanings (g : VG) (h : VHp) (r : Nat) (S : Rm) (hR : RoomAt h r S) (hB : RmB S)  : VE g mX3_howManyLeanings 0 false (0, 0) [.ref r] h (VP (nI (cntP (fun i => rL S (i / 6) (i % 6) ≠ 0) (36))) h) := by
  obtain ⟨kd, xs, ys, vs, ll, ho, hk, hx, hy, hv, hl, lk, lx, ly, lv, lL, ek, ex, ey, ev, eL⟩ := id hR
  obtain ⟨bn, bW, bH, bP, bL⟩ := id hB
  refine VE.of (by decide) rfl (Nat.le_of_ble_eq_true rfl) ?_
  have L : ∀ i, i ≤ 36 → V (g, mX3_howManyLeanings, 0, false, h.length, VP (nI (cntP (fun i => rL S (i / 6) (i % 6) ≠ 0) (36))) h) (0, 0) 4 [some (.ref r), some (.int (nI (cntP (fun i => rL S (i / 6) (i % 6) ≠ 0) i))), some (.int (nI i))] [] h := by
    refine vloop (36) (fun i ih hi => ?_)
    refine V.iload_n dX3_howManyLeanings_4 rfl ?_
    refine V.aload_n dX3_howManyLeanings_5 rfl ?_
    refine V.get fX3_24 dX3_howManyLeanings_6 ho rfl ?_
    refine V.alen (v := nI 36) dX3_howManyLeanings_9 hl (by rw [lL]) ?_
    refine V.icmp_geN 31 dX3_howManyLeanings_10 (by decide) (by omega) (by omega) (fun hc1 => ?_) (fun hc1 => ?_)
    · skip
      refine V.iload_n dX3_howManyLeanings_31 rfl ?_
      exact V.iret dX3_howManyLeanings_32 rfl ⟨by first | (exfalso; omega) | (obtain rfl : i = 36 := (by omega); rfl), rfl⟩
    · skip
      have bl := bL (i / 6) (i % 6)
      refine V.aload_n dX3_howManyLeanings_13 rfl ?_
      refine V.get fX3_24 dX3_howManyLeanings_14 ho rfl ?_
      refine V.iload_n dX3_howManyLeanings_17 rfl ?_
      refine V.iald dX3_howManyLeanings_18 hl rfl (by omega) (lean_all eL _ (by omega)) ?_
      refine V.if_eqZ 25 dX3_howManyLeanings_19 (by decide) (by omega) (fun hc2 => ?_) (fun hc2 => ?_)
      · skip
        refine V.iincN (n := 1) dX3_howManyLeanings_25 rfl rfl rfl ?_
        dsimp only [List.set]
        refine V.goto 4 dX3_howManyLeanings_28 (by decide) ?_
        have z := ih (i + 1) (by omega) (by omega)
        first | (rw [cntP_pos (P := fun i => rL S (i / 6) (i % 6) ≠ 0) (n := i) (by first | assumption | omega)] at z; exact z) | (rw [cntP_neg (P := fun i => rL S (i / 6) (i % 6) ≠ 0) (n := i) (by first | assumption | omega)] at z; exact z)
      · skip
        refine V.iincN (n := 1) dX3_howManyLeanings_22 rfl rfl rfl ?_
        dsimp only [List.set]
        refine V.iincN (n := 1) dX3_howManyLeanings_25 rfl rfl rfl ?_
        dsimp only [List.set]
        refine V.goto 4 dX3_howManyLeanings_28 (by decide) ?_
        have z := ih (i + 1) (by omega) (by omega)
        first | (rw [cntP_pos (P := fun i => rL S (i / 6) (i % 6) ≠ 0) (n := i) (by first | assumption | omega)] at z; exact z) | (rw [cntP_neg (P := fun i => rL S (i / 6) (i % 6) ≠ 0) (n := i) (by first | assumption | omega)] at z; exact z)
  show V _ _ 0 [some (.ref r), none, none] [] h
  refine V.iconst (v := nI 0) dX3_howManyLeanings_0 (by decide) ?_
  refine V.istore_n (i := 1) dX3_howManyLeanings_1 rfl rfl rfl ?_
  dsimp only [List.set]
  refine V.iconst (v := nI 0) dX3_howManyLeanings_2 (by decide) ?_
  refine V.istore_n (i := 2) dX3_howManyLeanings_3 rfl rfl rfl ?_
  dsimp only [List.set]
  exact L 0 (by omega)

set_option maxHeartbeats 1000000 in
theorem e_sumOfVanes (g : VG) (h : VHp) (r : Nat) (S : Rm) (hR : RoomAt h r S) (hB : RmB S) : VE g mX3_sumOfVanes 0 false (0, 0) [.ref r] h (VP (nI (sumV S (rN S))) h) := by
  obtain ⟨kd, xs, ys, vs, ll, ho, hk, hx, hy, hv, hl, lk, lx, ly, lv, lL, ek, ex, ey, ev, eL⟩ := id hR
  obtain ⟨bn, bW, bH, bP, bL⟩ := id hB
  refine VE.of (by decide) rfl (Nat.le_of_ble_eq_true rfl) ?_
  have L : ∀ i, i ≤ rN S → V (g, mX3_sumOfVanes, 0, false, h.length, VP (nI (sumV S (rN S))) h) (0, 0) 4 [some (.ref r), some (.int (nI (sumV S i))), some (.int (nI i))] [] h := by
    refine vloop (rN S) (fun i ih hi => ?_)
    refine V.iload_n dX3_sumOfVanes_4 rfl ?_
    refine V.aload_n dX3_sumOfVanes_5 rfl ?_
    refine V.get fX3_34 dX3_sumOfVanes_6 ho rfl ?_
    refine V.icmp_geN 27 dX3_sumOfVanes_9 (by decide) (by omega) (by omega) (fun hc1 => ?_) (fun hc1 => ?_)
    · skip
      refine V.iload_n dX3_sumOfVanes_27 rfl ?_
      exact V.iret dX3_sumOfVanes_28 rfl ⟨by first | (exfalso; omega) | (obtain rfl : i = rN S := (by omega); rfl), rfl⟩
    · skip
      refine V.iload_n dX3_sumOfVanes_12 rfl ?_
      refine V.aload_n dX3_sumOfVanes_13 rfl ?_
      refine V.get fX3_21 dX3_sumOfVanes_14 ho rfl ?_
      refine V.iload_n dX3_sumOfVanes_17 rfl ?_
      refine V.iald dX3_sumOfVanes_18 hv rfl (by omega) (ev _ (by omega)) ?_
      refine V.iaddN dX3_sumOfVanes_19 ?_
      refine V.istore_n (i := 1) dX3_sumOfVanes_20 rfl rfl rfl ?_
      dsimp only [List.set]
      refine V.iincN (n := 1) dX3_sumOfVanes_21 rfl rfl rfl ?_
      dsimp only [List.set]
      refine V.goto 4 dX3_sumOfVanes_24 (by decide) ?_
      exact ih (i + 1) (by omega) (by omega)
  show V _ _ 0 [some (.ref r), none, none] [] h
  refine V.iconst (v := nI 0) dX3_sumOfVanes_0 (by decide) ?_
  refine V.istore_n (i := 1) dX3_sumOfVanes_1 rfl rfl rfl ?_
  dsimp only [List.set]
  refine V.iconst (v := nI 0) dX3_sumOfVanes_2 (by decide) ?_
  refine V.istore_n (i := 2) dX3_sumOfVanes_3 rfl rfl rfl ?_
  dsimp only [List.set]
  exact L 0 (by omega)

set_option maxHeartbeats 1000000 in
theorem e_drawFor (g : VG) (h : VHp) (z k : Nat) (hz : z ≤ 9999) (hk : k ≤ 60) : VE g mX7_drawFor 0 false (0, 0) [.int (nI z), .int (nI k)] h (VP (nI (drawF z k)) h) := by
  refine VE.of (by decide) rfl (Nat.le_of_ble_eq_true rfl) ?_
  show V _ _ 0 [some (.int (nI z)), some (.int (nI k)), none, none] [] h
  refine V.ldc2 (v := 7919) dX7_drawFor_0 lX7_254 ?_
  refine V.iload_n dX7_drawFor_3 rfl ?_
  refine V.i2l dX7_drawFor_4 ?_
  refine V.lmul dX7_drawFor_5 ?_
  refine V.ldc2 (v := 6151) dX7_drawFor_6 lX7_256 ?_
  refine V.iload_n dX7_drawFor_9 rfl ?_
  refine V.i2l dX7_drawFor_10 ?_
  refine V.lmul dX7_drawFor_11 ?_
  refine V.ladd dX7_drawFor_12 ?_
  refine V.lconst (v := 1) dX7_drawFor_13 (by decide) ?_
  refine V.ladd dX7_drawFor_14 ?_
  refine V.lstore_n (i := 2) dX7_drawFor_15 rfl rfl rfl ?_
  dsimp only [List.set]
  refine V.lload_n dX7_drawFor_16 rfl ?_
  refine V.lload_n dX7_drawFor_17 rfl ?_
  refine V.lmul dX7_drawFor_18 ?_
  refine V.ldc2 (v := 65521) dX7_drawFor_19 lX7_258 ?_
  refine V.lrem dX7_drawFor_22 (by decide) ?_
  refine V.l2i dX7_drawFor_23 ?_
  exact V.iret dX7_drawFor_24 rfl ⟨congrArg _ (congrArg _ (draw_eq hz hk)), rfl⟩

set_option maxHeartbeats 1000000 in
theorem e_passHour (g : VG) (h : VHp) (r : Nat) (S : Rm) (hR : RoomAt h r S) (hB : RmB S) : VE g mX3_passHour 5 false (0, 0) [.ref r] h (VRm r (hourF S) h (some (.int (nI (turnsF S))))) := by
  refine VE.of (by decide) rfl (Nat.le_of_ble_eq_true rfl) ?_
  have L : ∀ p, p ≤ rN S → ∀ (v3 : Option Value) (h1 : VHp), vlk [some (.ref r), some (.int (nI (cntP (fun p => vaneF S p ≠ rV S p) p))), some (.int (nI p)), v3] 3 = true → RoomAt h1 r (rSetV S (mixV S p) (rT S)) → VFr r (r + 6) h h1 → V (g, mX3_passHour, 5, false, h.length, VRm r (hourF S) h (some (.int (nI (turnsF S))))) (0, 0) 4 [some (.ref r), some (.int (nI (cntP (fun p => vaneF S p ≠ rV S p) p))), some (.int (nI p)), v3] [] h1 := by
    refine vloop (rN S) (fun p ih hi => ?_)
    intro v3 h1 hv3 hR1 hf
    obtain ⟨kd, xs, ys, vs, ll, hw, ek, ex, ey, ev, eL⟩ := hR1.raw
    have hw : RawAt h1 r (rW S) (rH S) (rN S) (rT S) kd xs ys vs ll := hw
    have ek : ∀ i, i < rN S → kd[i]? = some (nI (rK S i)) := ek
    have ex : ∀ i, i < rN S → xs[i]? = some (nI (rX S i)) := ex
    have ey : ∀ i, i < rN S → ys[i]? = some (nI (rY S i)) := ey
    have ev : ∀ i, i < rN S → vs[i]? = some (nI (mixV S p i)) := ev
    obtain ⟨ho, hk, hx, hy, hv, hl, lk, lx, ly, lv, lL⟩ := id hw
    obtain ⟨bn, bW, bH, bP, bL⟩ := id hB
    refine V.iload_n dX3_passHour_4 rfl ?_
    refine V.aload_n dX3_passHour_5 rfl ?_
    refine V.get fX3_34 dX3_passHour_6 ho rfl ?_
    refine V.icmp_geN 59 dX3_passHour_9 (by decide) (by omega) (by omega) (fun hc1 => ?_) (fun hc1 => ?_)
    · skip
      refine V.aload_n dX3_passHour_59 rfl ?_
      refine V.dup dX3_passHour_60 rfl ?_
      refine V.get fX3_37 dX3_passHour_61 ho rfl ?_
      refine V.iconst (v := nI 1) dX3_passHour_64 (by decide) ?_
      refine V.iaddN dX3_passHour_65 ?_
      refine V.puti fX3_37 dX3_passHour_66 ho (Nat.le_of_ble_eq_true rfl) ?_
      dsimp only [List.set]
      refine V.iload_n dX3_passHour_69 rfl ?_
      have hw2 := RawAt.w0 hw (rW S) (rH S) (rN S) (rT S + 1)
      have hf2 := hf.tr (VFr.set (lo := r) (hi := r + 6) (a := r) (c := .inr (.inr (3, [.ref (r + 1), .ref (r + 2), .ref (r + 3), .ref (r + 4), .ref (r + 5), .int (nI (rW S)), .int (nI (rH S)), .int (nI (rN S)), .int (nI (rT S + 1))]))) (by omega) (by omega))
      obtain rfl : p = rN S := (by omega)
      exact V.iret dX3_passHour_70 rfl ⟨rfl, hw2.room (S := hourF S) ⟨ek, ex, ey, mix_end ev, eL⟩ rfl rfl rfl rfl, hf2⟩
    · skip
      have bp := bP p hc1
      have bv := vaneF_lt hB hc1
      have hBT : RmB (rSetV S (mixV S p) (rT S)) := mix_B hB p
      refine V.aload_n dX3_passHour_12 rfl ?_
      refine V.get fX3_9 dX3_passHour_13 ho rfl ?_
      refine V.iload_n dX3_passHour_16 rfl ?_
      refine V.iald dX3_passHour_17 hk rfl (by omega) (ek _ (by omega)) ?_
      refine V.aload_n dX3_passHour_18 rfl ?_
      refine V.get fX3_21 dX3_passHour_19 ho rfl ?_
      refine V.iload_n dX3_passHour_22 rfl ?_
      refine V.iald dX3_passHour_23 hv rfl (by omega) (ev _ (by omega)) ?_
      refine V.re (y := nI (rV S p)) (congrArg nI (if_neg (Nat.lt_irrefl p))) ?_
      refine V.aload_n dX3_passHour_24 rfl ?_
      refine V.iload_n dX3_passHour_25 rfl ?_
      refine V.callVp (ci := 3) cX3_98 (e_draft g h1 r (rSetV S (mixV S p) (rT S)) hR1 hBT p (by show _ < rN S; omega)) dX3_passHour_26 (Nat.le_of_ble_eq_true rfl) rfl ho rfl rfl (Nat.le_of_ble_eq_true rfl) ?_
      refine V.re (y := eO (draftF S p)) (congrArg eO draft_setV) ?_
      refine V.callSp cX3_101 (e_toldNext g h1 (rK S p) (rV S p) (draftF S p) (by omega) (by omega) (fun _ z => draftF_lt z)) dX3_passHour_29 (Nat.le_of_ble_eq_true rfl) rfl rfl (Nat.le_of_ble_eq_true rfl) ?_
      refine V.re (y := nI (vaneF S p)) rfl ?_
      refine V.istore_n (i := 3) dX3_passHour_32 rfl rfl rfl ?_
      dsimp only [List.set]
      refine V.iload_n dX3_passHour_33 rfl ?_
      refine V.aload_n dX3_passHour_34 rfl ?_
      refine V.get fX3_21 dX3_passHour_35 ho rfl ?_
      refine V.iload_n dX3_passHour_38 rfl ?_
      refine V.iald dX3_passHour_39 hv rfl (by omega) (ev _ (by omega)) ?_
      refine V.re (y := nI (rV S p)) (congrArg nI (if_neg (Nat.lt_irrefl p))) ?_
      refine V.icmp_eqN 46 dX3_passHour_40 (by decide) (by omega) (by omega) (fun hc2 => ?_) (fun hc2 => ?_)
      · skip
        refine V.aload_n dX3_passHour_46 rfl ?_
        refine V.get fX3_21 dX3_passHour_47 ho rfl ?_
        refine V.iload_n dX3_passHour_50 rfl ?_
        refine V.iload_n dX3_passHour_51 rfl ?_
        refine V.iast dX3_passHour_52 hv rfl (by omega) (by rw [lv]; omega) ?_
        have hw := RawAt.w4 hw (vs.set p (nI (vaneF S p))) (by rw [List.length_set]; exact lv)
        have hf := hf.tr (VFr.set (lo := r) (hi := r + 6) (a := r + 4) (c := .inl (vs.set p (nI (vaneF S p)))) (by omega) (by omega))
        have hR2 : RoomAt _ r (rSetV S (mixV S (p + 1)) (rT S)) := hw.room ⟨ek, ex, ey, mix_row ev (by rw [lv]; omega), eL⟩ rfl rfl rfl rfl
        refine V.iincN (n := 1) dX3_passHour_53 rfl rfl rfl ?_
        dsimp only [List.set]
        refine V.goto 4 dX3_passHour_56 (by decide) ?_
        have z := fun u => ih (p + 1) (by omega) (by omega) (some (.int (nI (vaneF S p)))) _ u hR2 hf
        first | (rw [cntP_pos (P := fun p => vaneF S p ≠ rV S p) (n := p) (by omega)] at z; exact z rfl) | (rw [cntP_neg (P := fun p => vaneF S p ≠ rV S p) (n := p) (by omega)] at z; exact z rfl)
      · skip
        refine V.iincN (n := 1) dX3_passHour_43 rfl rfl rfl ?_
        dsimp only [List.set]
        refine V.aload_n dX3_passHour_46 rfl ?_
        refine V.get fX3_21 dX3_passHour_47 ho rfl ?_
        refine V.iload_n dX3_passHour_50 rfl ?_
        refine V.iload_n dX3_passHour_51 rfl ?_
        refine V.iast dX3_passHour_52 hv rfl (by omega) (by rw [lv]; omega) ?_
        have hw := RawAt.w4 hw (vs.set p (nI (vaneF S p))) (by rw [List.length_set]; exact lv)
        have hf := hf.tr (VFr.set (lo := r) (hi := r + 6) (a := r + 4) (c := .inl (vs.set p (nI (vaneF S p)))) (by omega) (by omega))
        have hR2 : RoomAt _ r (rSetV S (mixV S (p + 1)) (rT S)) := hw.room ⟨ek, ex, ey, mix_row ev (by rw [lv]; omega), eL⟩ rfl rfl rfl rfl
        refine V.iincN (n := 1) dX3_passHour_53 rfl rfl rfl ?_
        dsimp only [List.set]
        refine V.goto 4 dX3_passHour_56 (by decide) ?_
        have z := fun u => ih (p + 1) (by omega) (by omega) (some (.int (nI (vaneF S p)))) _ u hR2 hf
        first | (rw [cntP_pos (P := fun p => vaneF S p ≠ rV S p) (n := p) (by omega)] at z; exact z rfl) | (rw [cntP_neg (P := fun p => vaneF S p ≠ rV S p) (n := p) (by omega)] at z; exact z rfl)
  show V _ _ 0 [some (.ref r), none, none, none] [] h
  refine V.iconst (v := nI 0) dX3_passHour_0 (by decide) ?_
  refine V.istore_n (i := 1) dX3_passHour_1 rfl rfl rfl ?_
  dsimp only [List.set]
  refine V.iconst (v := nI 0) dX3_passHour_2 (by decide) ?_
  refine V.istore_n (i := 2) dX3_passHour_3 rfl rfl rfl ?_
  dsimp only [List.set]
  exact L 0 (by omega) none h rfl (by rw [mix_zero]; exact hR) VFr.rf
