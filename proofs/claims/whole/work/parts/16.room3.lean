set_option maxHeartbeats 1000000 in
theorem e_clear (g : VG) (h : VHp) (r : Nat) (S : Rm) (hR : RoomAt h r S) : VE g mX3_clear 0 false (0, 0) [.ref r] h (VRm r rClear h none) := by
  refine VE.of (by decide) rfl (Nat.le_of_ble_eq_true rfl) ?_
  have L : ∀ i, i ≤ 36 → ∀ (h1 : VHp) (kd xs ys vs ll : List Int32), RawAt h1 r 6 6 0 0 kd xs ys vs ll → (∀ j, j < i → ll[j]? = some (nI 0)) → VFr r (r + 6) h h1 → V (g, mX3_clear, 0, false, h.length, VRm r rClear h none) (0, 0) 24 [some (.ref r), some (.int (nI i))] [] h1 := by
    refine vloop 36 (fun i ih hi => ?_)
    intro h1 kd xs ys vs ll hw hz hf
    obtain ⟨ho, hk, hx, hy, hv, hl, lk, lx, ly, lv, lL⟩ := id hw
    refine V.iload_n dX3_clear_24 rfl ?_
    refine V.aload_n dX3_clear_25 rfl ?_
    refine V.get fX3_24 dX3_clear_26 ho rfl ?_
    refine V.alen (v := nI 36) dX3_clear_29 hl (by rw [lL]) ?_
    refine V.icmp_geN 46 dX3_clear_30 (by decide) (by omega) (by omega) (fun hc1 => ?_) (fun hc1 => ?_)
    · skip
      exact V.vret dX3_clear_46 rfl ⟨rfl, hw.room (S := rClear) ⟨fun j hj => absurd hj (Nat.not_lt_zero _), fun j hj => absurd hj (Nat.not_lt_zero _), fun j hj => absurd hj (Nat.not_lt_zero _), fun j hj => absurd hj (Nat.not_lt_zero _), fun a c ha hc => hz _ (by omega)⟩ rfl rfl rfl rfl, hf⟩
    · skip
      refine V.aload_n dX3_clear_33 rfl ?_
      refine V.get fX3_24 dX3_clear_34 ho rfl ?_
      refine V.iload_n dX3_clear_37 rfl ?_
      refine V.iconst (v := nI 0) dX3_clear_38 (by decide) ?_
      refine V.iast dX3_clear_39 hl rfl (by omega) (by rw [lL]; omega) ?_
      refine V.iincN (n := 1) dX3_clear_40 rfl rfl rfl ?_
      dsimp only [List.set]
      refine V.goto 24 dX3_clear_43 (by decide) ?_
      exact ih (i + 1) (by omega) (by omega) _ _ _ _ _ _ (RawAt.w5 hw _ (by rw [List.length_set]; exact lL)) (zero_set hz (by rw [lL]; omega)) (hf.tr (VFr.set (by omega) (by omega)))
  obtain ⟨kd, xs, ys, vs, ll, hw, -⟩ := hR.raw
  obtain ⟨ho, hk, hx, hy, hv, hl, lk, lx, ly, lv, lL⟩ := id hw
  have hf : VFr r (r + 6) h h := VFr.rf
  show V _ _ 0 [some (.ref r), none] [] h
  refine V.aload_n dX3_clear_0 rfl ?_
  refine V.bipush (v := nI 6) dX3_clear_1 (by decide) ?_
  refine V.puti fX3_27 dX3_clear_3 ho (Nat.le_of_ble_eq_true rfl) ?_
  dsimp only [List.set]
  have hw := RawAt.w0 hw (6) (rH S) (rN S) (rT S)
  have hf := hf.tr (VFr.set (lo := r) (hi := r + 6) (a := r) (c := Sum.inr (Sum.inr (3, [Value.ref (r + 1), Value.ref (r + 2), Value.ref (r + 3), Value.ref (r + 4), Value.ref (r + 5), Value.int (nI (6)), Value.int (nI (rH S)), Value.int (nI (rN S)), Value.int (nI (rT S))]))) (by omega) (by omega))
  generalize h.set r (Sum.inr (Sum.inr (3, [Value.ref (r + 1), Value.ref (r + 2), Value.ref (r + 3), Value.ref (r + 4), Value.ref (r + 5), Value.int (nI (6)), Value.int (nI (rH S)), Value.int (nI (rN S)), Value.int (nI (rT S))]))) = h at hw hf ⊢
  obtain ⟨ho, hk, hx, hy, hv, hl, lk, lx, ly, lv, lL⟩ := id hw
  refine V.aload_n dX3_clear_6 rfl ?_
  refine V.bipush (v := nI 6) dX3_clear_7 (by decide) ?_
  refine V.puti fX3_31 dX3_clear_9 ho (Nat.le_of_ble_eq_true rfl) ?_
  dsimp only [List.set]
  have hw := RawAt.w0 hw (6) (6) (rN S) (rT S)
  have hf := hf.tr (VFr.set (lo := r) (hi := r + 6) (a := r) (c := Sum.inr (Sum.inr (3, [Value.ref (r + 1), Value.ref (r + 2), Value.ref (r + 3), Value.ref (r + 4), Value.ref (r + 5), Value.int (nI (6)), Value.int (nI (6)), Value.int (nI (rN S)), Value.int (nI (rT S))]))) (by omega) (by omega))
  generalize h.set r (Sum.inr (Sum.inr (3, [Value.ref (r + 1), Value.ref (r + 2), Value.ref (r + 3), Value.ref (r + 4), Value.ref (r + 5), Value.int (nI (6)), Value.int (nI (6)), Value.int (nI (rN S)), Value.int (nI (rT S))]))) = h at hw hf ⊢
  obtain ⟨ho, hk, hx, hy, hv, hl, lk, lx, ly, lv, lL⟩ := id hw
  refine V.aload_n dX3_clear_12 rfl ?_
  refine V.iconst (v := nI 0) dX3_clear_13 (by decide) ?_
  refine V.puti fX3_34 dX3_clear_14 ho (Nat.le_of_ble_eq_true rfl) ?_
  dsimp only [List.set]
  have hw := RawAt.w0 hw (6) (6) (0) (rT S)
  have hf := hf.tr (VFr.set (lo := r) (hi := r + 6) (a := r) (c := Sum.inr (Sum.inr (3, [Value.ref (r + 1), Value.ref (r + 2), Value.ref (r + 3), Value.ref (r + 4), Value.ref (r + 5), Value.int (nI (6)), Value.int (nI (6)), Value.int (nI (0)), Value.int (nI (rT S))]))) (by omega) (by omega))
  generalize h.set r (Sum.inr (Sum.inr (3, [Value.ref (r + 1), Value.ref (r + 2), Value.ref (r + 3), Value.ref (r + 4), Value.ref (r + 5), Value.int (nI (6)), Value.int (nI (6)), Value.int (nI (0)), Value.int (nI (rT S))]))) = h at hw hf ⊢
  obtain ⟨ho, hk, hx, hy, hv, hl, lk, lx, ly, lv, lL⟩ := id hw
  refine V.aload_n dX3_clear_17 rfl ?_
  refine V.iconst (v := nI 0) dX3_clear_18 (by decide) ?_
  refine V.puti fX3_37 dX3_clear_19 ho (Nat.le_of_ble_eq_true rfl) ?_
  dsimp only [List.set]
  have hw := RawAt.w0 hw (6) (6) (0) (0)
  have hf := hf.tr (VFr.set (lo := r) (hi := r + 6) (a := r) (c := Sum.inr (Sum.inr (3, [Value.ref (r + 1), Value.ref (r + 2), Value.ref (r + 3), Value.ref (r + 4), Value.ref (r + 5), Value.int (nI (6)), Value.int (nI (6)), Value.int (nI (0)), Value.int (nI (0))]))) (by omega) (by omega))
  generalize h.set r (Sum.inr (Sum.inr (3, [Value.ref (r + 1), Value.ref (r + 2), Value.ref (r + 3), Value.ref (r + 4), Value.ref (r + 5), Value.int (nI (6)), Value.int (nI (6)), Value.int (nI (0)), Value.int (nI (0))]))) = h at hw hf ⊢
  obtain ⟨ho, hk, hx, hy, hv, hl, lk, lx, ly, lv, lL⟩ := id hw
  refine V.iconst (v := nI 0) dX3_clear_22 (by decide) ?_
  refine V.istore_n (i := 1) dX3_clear_23 rfl rfl rfl ?_
  dsimp only [List.set]
  exact L 0 (by omega) _ _ _ _ _ _ hw (fun j hj => absurd hj (Nat.not_lt_zero _)) hf

set_option maxHeartbeats 1000000 in
theorem e_add (g : VG) (h : VHp) (r : Nat) (S : Rm) (hR : RoomAt h r S) (hB : RmB S) (k x y : Nat) (hn : rN S < 6) : VE g mX3_add 0 false (0, 0) [.ref r, .int (nI k), .int (nI x), .int (nI y)] h (VRm r (rAdd S k x y) h none) := by
  obtain ⟨kd, xs, ys, vs, ll, hw, ek, ex, ey, ev, eL⟩ := hR.raw
  obtain ⟨ho, hk, hx, hy, hv, hl, lk, lx, ly, lv, lL⟩ := id hw
  obtain ⟨bn, bW, bH, bP, bL⟩ := id hB
  have hf : VFr r (r + 6) h h := VFr.rf
  have lko := lk
  have lxo := lx
  have lyo := ly
  have lvo := lv
  refine VE.of (by decide) rfl (Nat.le_of_ble_eq_true rfl) ?_
  show V _ _ 0 [some (.ref r), some (.int (nI k)), some (.int (nI x)), some (.int (nI y))] [] h
  refine V.aload_n dX3_add_0 rfl ?_
  refine V.get fX3_34 dX3_add_1 ho rfl ?_
  refine V.bipush (v := nI 6) dX3_add_4 (by decide) ?_
  refine V.icmp_ltN 10 dX3_add_6 (by decide) (by omega) (by omega) (fun hc1 => ?_) (fun hc1 => ?_)
  · skip
    refine V.aload_n dX3_add_10 rfl ?_
    refine V.get fX3_9 dX3_add_11 ho rfl ?_
    refine V.aload_n dX3_add_14 rfl ?_
    refine V.get fX3_34 dX3_add_15 ho rfl ?_
    refine V.iload_n dX3_add_18 rfl ?_
    refine V.iast dX3_add_19 hk rfl (by omega) (by rw [lk]; omega) ?_
    have hw := RawAt.w1 hw (kd.set (rN S) (nI k)) (by rw [List.length_set]; exact lk)
    have hf := hf.tr (VFr.set (lo := r) (hi := r + 6) (a := r + 1) (c := Sum.inl (kd.set (rN S) (nI k))) (by omega) (by omega))
    generalize h.set (r + 1) (Sum.inl (kd.set (rN S) (nI k))) = h at hw hf ⊢
    obtain ⟨ho, hk, hx, hy, hv, hl, lk, lx, ly, lv, lL⟩ := id hw
    refine V.aload_n dX3_add_20 rfl ?_
    refine V.get fX3_21 dX3_add_21 ho rfl ?_
    refine V.aload_n dX3_add_24 rfl ?_
    refine V.get fX3_34 dX3_add_25 ho rfl ?_
    refine V.iconst (v := nI 0) dX3_add_28 (by decide) ?_
    refine V.iast dX3_add_29 hv rfl (by omega) (by rw [lv]; omega) ?_
    have hw := RawAt.w4 hw (vs.set (rN S) (nI 0)) (by rw [List.length_set]; exact lv)
    have hf := hf.tr (VFr.set (lo := r) (hi := r + 6) (a := r + 4) (c := Sum.inl (vs.set (rN S) (nI 0))) (by omega) (by omega))
    generalize h.set (r + 4) (Sum.inl (vs.set (rN S) (nI 0))) = h at hw hf ⊢
    obtain ⟨ho, hk, hx, hy, hv, hl, lk, lx, ly, lv, lL⟩ := id hw
    refine V.aload_n dX3_add_30 rfl ?_
    refine V.get fX3_15 dX3_add_31 ho rfl ?_
    refine V.aload_n dX3_add_34 rfl ?_
    refine V.get fX3_34 dX3_add_35 ho rfl ?_
    refine V.iload_n dX3_add_38 rfl ?_
    refine V.iast dX3_add_39 hx rfl (by omega) (by rw [lx]; omega) ?_
    have hw := RawAt.w2 hw (xs.set (rN S) (nI x)) (by rw [List.length_set]; exact lx)
    have hf := hf.tr (VFr.set (lo := r) (hi := r + 6) (a := r + 2) (c := Sum.inl (xs.set (rN S) (nI x))) (by omega) (by omega))
    generalize h.set (r + 2) (Sum.inl (xs.set (rN S) (nI x))) = h at hw hf ⊢
    obtain ⟨ho, hk, hx, hy, hv, hl, lk, lx, ly, lv, lL⟩ := id hw
    refine V.aload_n dX3_add_40 rfl ?_
    refine V.get fX3_18 dX3_add_41 ho rfl ?_
    refine V.aload_n dX3_add_44 rfl ?_
    refine V.get fX3_34 dX3_add_45 ho rfl ?_
    refine V.iload_n dX3_add_48 rfl ?_
    refine V.iast dX3_add_49 hy rfl (by omega) (by rw [ly]; omega) ?_
    have hw := RawAt.w3 hw (ys.set (rN S) (nI y)) (by rw [List.length_set]; exact ly)
    have hf := hf.tr (VFr.set (lo := r) (hi := r + 6) (a := r + 3) (c := Sum.inl (ys.set (rN S) (nI y))) (by omega) (by omega))
    generalize h.set (r + 3) (Sum.inl (ys.set (rN S) (nI y))) = h at hw hf ⊢
    obtain ⟨ho, hk, hx, hy, hv, hl, lk, lx, ly, lv, lL⟩ := id hw
    refine V.aload_n dX3_add_50 rfl ?_
    refine V.dup dX3_add_51 rfl ?_
    refine V.get fX3_34 dX3_add_52 ho rfl ?_
    refine V.iconst (v := nI 1) dX3_add_55 (by decide) ?_
    refine V.iaddN dX3_add_56 ?_
    refine V.puti fX3_34 dX3_add_57 ho (Nat.le_of_ble_eq_true rfl) ?_
    dsimp only [List.set]
    have hw := RawAt.w0 hw (rW S) (rH S) (rN S + 1) (rT S)
    have hf := hf.tr (VFr.set (lo := r) (hi := r + 6) (a := r) (c := Sum.inr (Sum.inr (3, [Value.ref (r + 1), Value.ref (r + 2), Value.ref (r + 3), Value.ref (r + 4), Value.ref (r + 5), Value.int (nI (rW S)), Value.int (nI (rH S)), Value.int (nI (rN S + 1)), Value.int (nI (rT S))]))) (by omega) (by omega))
    generalize h.set r (Sum.inr (Sum.inr (3, [Value.ref (r + 1), Value.ref (r + 2), Value.ref (r + 3), Value.ref (r + 4), Value.ref (r + 5), Value.int (nI (rW S)), Value.int (nI (rH S)), Value.int (nI (rN S + 1)), Value.int (nI (rT S))]))) = h at hw hf ⊢
    obtain ⟨ho, hk, hx, hy, hv, hl, lk, lx, ly, lv, lL⟩ := id hw
    exact V.vret dX3_add_60 rfl ⟨rfl, hw.room (S := rAdd S k x y) ⟨row_grow ek (by omega), row_grow ex (by omega), row_grow ey (by omega), row_grow ev (by omega), eL⟩ rfl rfl rfl rfl, hf⟩
  · exact absurd hc1 (by omega)

set_option maxHeartbeats 1000000 in
theorem e_copyFrom (g : VG) (h : VHp) (r o : Nat) (Q S : Rm) (hR : RoomAt h r Q) (hO : RoomAt h o S) (hd : o + 6 ≤ r ∨ r + 6 ≤ o) : VE g mX3_copyFrom 1 false (0, 0) [.ref r, .ref o] h (VRm r S h none) := by
  obtain ⟨kd, xs, ys, vs, ll, hw, -⟩ := hR.raw
  obtain ⟨ho, hk, hx, hy, hv, hl, lk, lx, ly, lv, lL⟩ := id hw
  have hf : VFr r (r + 6) h h := VFr.rf
  obtain ⟨kdo, xso, yso, vso, llo, hwo, eko, exo, eyo, evo, eLo⟩ := hO.raw
  obtain ⟨hoo, hko, hxo, hyo, hvo, hlo, lko, lxo, lyo, lvo, lLo⟩ := id hwo
  refine VE.of (by decide) rfl (Nat.le_of_ble_eq_true rfl) ?_
  show V _ _ 0 [some (.ref r), some (.ref o)] [] h
  refine V.aload_n dX3_copyFrom_0 rfl ?_
  refine V.aload_n dX3_copyFrom_1 rfl ?_
  refine V.get fX3_27 dX3_copyFrom_2 hoo rfl ?_
  refine V.puti fX3_27 dX3_copyFrom_5 ho (Nat.le_of_ble_eq_true rfl) ?_
  dsimp only [List.set]
  have hw := RawAt.w0 hw (rW S) (rH Q) (rN Q) (rT Q)
  have hf := hf.tr (VFr.set (lo := r) (hi := r + 6) (a := r) (c := Sum.inr (Sum.inr (3, [Value.ref (r + 1), Value.ref (r + 2), Value.ref (r + 3), Value.ref (r + 4), Value.ref (r + 5), Value.int (nI (rW S)), Value.int (nI (rH Q)), Value.int (nI (rN Q)), Value.int (nI (rT Q))]))) (by omega) (by omega))
  have hwo := RawAt.keep hwo (VFr.set (lo := r) (hi := r + 6) (a := r) (c := Sum.inr (Sum.inr (3, [Value.ref (r + 1), Value.ref (r + 2), Value.ref (r + 3), Value.ref (r + 4), Value.ref (r + 5), Value.int (nI (rW S)), Value.int (nI (rH Q)), Value.int (nI (rN Q)), Value.int (nI (rT Q))]))) (by omega) (by omega)) hd
  generalize h.set r (Sum.inr (Sum.inr (3, [Value.ref (r + 1), Value.ref (r + 2), Value.ref (r + 3), Value.ref (r + 4), Value.ref (r + 5), Value.int (nI (rW S)), Value.int (nI (rH Q)), Value.int (nI (rN Q)), Value.int (nI (rT Q))]))) = h at hw hf hwo ⊢
  obtain ⟨ho, hk, hx, hy, hv, hl, lk, lx, ly, lv, lL⟩ := id hw
  obtain ⟨hoo, hko, hxo, hyo, hvo, hlo, lko, lxo, lyo, lvo, lLo⟩ := id hwo
  refine V.aload_n dX3_copyFrom_8 rfl ?_
  refine V.aload_n dX3_copyFrom_9 rfl ?_
  refine V.get fX3_31 dX3_copyFrom_10 hoo rfl ?_
  refine V.puti fX3_31 dX3_copyFrom_13 ho (Nat.le_of_ble_eq_true rfl) ?_
  dsimp only [List.set]
  have hw := RawAt.w0 hw (rW S) (rH S) (rN Q) (rT Q)
  have hf := hf.tr (VFr.set (lo := r) (hi := r + 6) (a := r) (c := Sum.inr (Sum.inr (3, [Value.ref (r + 1), Value.ref (r + 2), Value.ref (r + 3), Value.ref (r + 4), Value.ref (r + 5), Value.int (nI (rW S)), Value.int (nI (rH S)), Value.int (nI (rN Q)), Value.int (nI (rT Q))]))) (by omega) (by omega))
  have hwo := RawAt.keep hwo (VFr.set (lo := r) (hi := r + 6) (a := r) (c := Sum.inr (Sum.inr (3, [Value.ref (r + 1), Value.ref (r + 2), Value.ref (r + 3), Value.ref (r + 4), Value.ref (r + 5), Value.int (nI (rW S)), Value.int (nI (rH S)), Value.int (nI (rN Q)), Value.int (nI (rT Q))]))) (by omega) (by omega)) hd
  generalize h.set r (Sum.inr (Sum.inr (3, [Value.ref (r + 1), Value.ref (r + 2), Value.ref (r + 3), Value.ref (r + 4), Value.ref (r + 5), Value.int (nI (rW S)), Value.int (nI (rH S)), Value.int (nI (rN Q)), Value.int (nI (rT Q))]))) = h at hw hf hwo ⊢
  obtain ⟨ho, hk, hx, hy, hv, hl, lk, lx, ly, lv, lL⟩ := id hw
  obtain ⟨hoo, hko, hxo, hyo, hvo, hlo, lko, lxo, lyo, lvo, lLo⟩ := id hwo
  refine V.aload_n dX3_copyFrom_16 rfl ?_
  refine V.aload_n dX3_copyFrom_17 rfl ?_
  refine V.get fX3_34 dX3_copyFrom_18 hoo rfl ?_
  refine V.puti fX3_34 dX3_copyFrom_21 ho (Nat.le_of_ble_eq_true rfl) ?_
  dsimp only [List.set]
  have hw := RawAt.w0 hw (rW S) (rH S) (rN S) (rT Q)
  have hf := hf.tr (VFr.set (lo := r) (hi := r + 6) (a := r) (c := Sum.inr (Sum.inr (3, [Value.ref (r + 1), Value.ref (r + 2), Value.ref (r + 3), Value.ref (r + 4), Value.ref (r + 5), Value.int (nI (rW S)), Value.int (nI (rH S)), Value.int (nI (rN S)), Value.int (nI (rT Q))]))) (by omega) (by omega))
  have hwo := RawAt.keep hwo (VFr.set (lo := r) (hi := r + 6) (a := r) (c := Sum.inr (Sum.inr (3, [Value.ref (r + 1), Value.ref (r + 2), Value.ref (r + 3), Value.ref (r + 4), Value.ref (r + 5), Value.int (nI (rW S)), Value.int (nI (rH S)), Value.int (nI (rN S)), Value.int (nI (rT Q))]))) (by omega) (by omega)) hd
  generalize h.set r (Sum.inr (Sum.inr (3, [Value.ref (r + 1), Value.ref (r + 2), Value.ref (r + 3), Value.ref (r + 4), Value.ref (r + 5), Value.int (nI (rW S)), Value.int (nI (rH S)), Value.int (nI (rN S)), Value.int (nI (rT Q))]))) = h at hw hf hwo ⊢
  obtain ⟨ho, hk, hx, hy, hv, hl, lk, lx, ly, lv, lL⟩ := id hw
  obtain ⟨hoo, hko, hxo, hyo, hvo, hlo, lko, lxo, lyo, lvo, lLo⟩ := id hwo
  refine V.aload_n dX3_copyFrom_24 rfl ?_
  refine V.aload_n dX3_copyFrom_25 rfl ?_
  refine V.get fX3_37 dX3_copyFrom_26 hoo rfl ?_
  refine V.puti fX3_37 dX3_copyFrom_29 ho (Nat.le_of_ble_eq_true rfl) ?_
  dsimp only [List.set]
  have hw := RawAt.w0 hw (rW S) (rH S) (rN S) (rT S)
  have hf := hf.tr (VFr.set (lo := r) (hi := r + 6) (a := r) (c := Sum.inr (Sum.inr (3, [Value.ref (r + 1), Value.ref (r + 2), Value.ref (r + 3), Value.ref (r + 4), Value.ref (r + 5), Value.int (nI (rW S)), Value.int (nI (rH S)), Value.int (nI (rN S)), Value.int (nI (rT S))]))) (by omega) (by omega))
  have hwo := RawAt.keep hwo (VFr.set (lo := r) (hi := r + 6) (a := r) (c := Sum.inr (Sum.inr (3, [Value.ref (r + 1), Value.ref (r + 2), Value.ref (r + 3), Value.ref (r + 4), Value.ref (r + 5), Value.int (nI (rW S)), Value.int (nI (rH S)), Value.int (nI (rN S)), Value.int (nI (rT S))]))) (by omega) (by omega)) hd
  generalize h.set r (Sum.inr (Sum.inr (3, [Value.ref (r + 1), Value.ref (r + 2), Value.ref (r + 3), Value.ref (r + 4), Value.ref (r + 5), Value.int (nI (rW S)), Value.int (nI (rH S)), Value.int (nI (rN S)), Value.int (nI (rT S))]))) = h at hw hf hwo ⊢
  obtain ⟨ho, hk, hx, hy, hv, hl, lk, lx, ly, lv, lL⟩ := id hw
  obtain ⟨hoo, hko, hxo, hyo, hvo, hlo, lko, lxo, lyo, lvo, lLo⟩ := id hwo
  refine V.aload_n dX3_copyFrom_32 rfl ?_
  refine V.get fX3_9 dX3_copyFrom_33 hoo rfl ?_
  refine V.iconst (v := nI 0) dX3_copyFrom_36 (by decide) ?_
  refine V.aload_n dX3_copyFrom_37 rfl ?_
  refine V.get fX3_9 dX3_copyFrom_38 ho rfl ?_
  refine V.iconst (v := nI 0) dX3_copyFrom_41 (by decide) ?_
  refine V.bipush (v := nI 6) dX3_copyFrom_42 (by decide) ?_
  refine V.copy jX3_40 dX3_copyFrom_44 (Nat.le_of_ble_eq_true rfl) (Nat.le_of_ble_eq_true rfl) hko hk lko lk rfl (by omega) ?_
  have hw := RawAt.w1 hw (kdo) (lko)
  have hf := hf.tr (VFr.set (lo := r) (hi := r + 6) (a := r + 1) (c := Sum.inl (kdo)) (by omega) (by omega))
  have hwo := RawAt.keep hwo (VFr.set (lo := r) (hi := r + 6) (a := r + 1) (c := Sum.inl (kdo)) (by omega) (by omega)) hd
  generalize h.set (r + 1) (Sum.inl (kdo)) = h at hw hf hwo ⊢
  obtain ⟨ho, hk, hx, hy, hv, hl, lk, lx, ly, lv, lL⟩ := id hw
  obtain ⟨hoo, hko, hxo, hyo, hvo, hlo, lko, lxo, lyo, lvo, lLo⟩ := id hwo
  refine V.aload_n dX3_copyFrom_47 rfl ?_
  refine V.get fX3_15 dX3_copyFrom_48 hoo rfl ?_
  refine V.iconst (v := nI 0) dX3_copyFrom_51 (by decide) ?_
  refine V.aload_n dX3_copyFrom_52 rfl ?_
  refine V.get fX3_15 dX3_copyFrom_53 ho rfl ?_
  refine V.iconst (v := nI 0) dX3_copyFrom_56 (by decide) ?_
  refine V.bipush (v := nI 6) dX3_copyFrom_57 (by decide) ?_
  refine V.copy jX3_40 dX3_copyFrom_59 (Nat.le_of_ble_eq_true rfl) (Nat.le_of_ble_eq_true rfl) hxo hx lxo lx rfl (by omega) ?_
  have hw := RawAt.w2 hw (xso) (lxo)
  have hf := hf.tr (VFr.set (lo := r) (hi := r + 6) (a := r + 2) (c := Sum.inl (xso)) (by omega) (by omega))
  have hwo := RawAt.keep hwo (VFr.set (lo := r) (hi := r + 6) (a := r + 2) (c := Sum.inl (xso)) (by omega) (by omega)) hd
  generalize h.set (r + 2) (Sum.inl (xso)) = h at hw hf hwo ⊢
  obtain ⟨ho, hk, hx, hy, hv, hl, lk, lx, ly, lv, lL⟩ := id hw
  obtain ⟨hoo, hko, hxo, hyo, hvo, hlo, lko, lxo, lyo, lvo, lLo⟩ := id hwo
  refine V.aload_n dX3_copyFrom_62 rfl ?_
  refine V.get fX3_18 dX3_copyFrom_63 hoo rfl ?_
  refine V.iconst (v := nI 0) dX3_copyFrom_66 (by decide) ?_
  refine V.aload_n dX3_copyFrom_67 rfl ?_
  refine V.get fX3_18 dX3_copyFrom_68 ho rfl ?_
  refine V.iconst (v := nI 0) dX3_copyFrom_71 (by decide) ?_
  refine V.bipush (v := nI 6) dX3_copyFrom_72 (by decide) ?_
  refine V.copy jX3_40 dX3_copyFrom_74 (Nat.le_of_ble_eq_true rfl) (Nat.le_of_ble_eq_true rfl) hyo hy lyo ly rfl (by omega) ?_
  have hw := RawAt.w3 hw (yso) (lyo)
  have hf := hf.tr (VFr.set (lo := r) (hi := r + 6) (a := r + 3) (c := Sum.inl (yso)) (by omega) (by omega))
  have hwo := RawAt.keep hwo (VFr.set (lo := r) (hi := r + 6) (a := r + 3) (c := Sum.inl (yso)) (by omega) (by omega)) hd
  generalize h.set (r + 3) (Sum.inl (yso)) = h at hw hf hwo ⊢
  obtain ⟨ho, hk, hx, hy, hv, hl, lk, lx, ly, lv, lL⟩ := id hw
  obtain ⟨hoo, hko, hxo, hyo, hvo, hlo, lko, lxo, lyo, lvo, lLo⟩ := id hwo
  refine V.aload_n dX3_copyFrom_77 rfl ?_
  refine V.get fX3_21 dX3_copyFrom_78 hoo rfl ?_
  refine V.iconst (v := nI 0) dX3_copyFrom_81 (by decide) ?_
  refine V.aload_n dX3_copyFrom_82 rfl ?_
  refine V.get fX3_21 dX3_copyFrom_83 ho rfl ?_
  refine V.iconst (v := nI 0) dX3_copyFrom_86 (by decide) ?_
  refine V.bipush (v := nI 6) dX3_copyFrom_87 (by decide) ?_
  refine V.copy jX3_40 dX3_copyFrom_89 (Nat.le_of_ble_eq_true rfl) (Nat.le_of_ble_eq_true rfl) hvo hv lvo lv rfl (by omega) ?_
  have hw := RawAt.w4 hw (vso) (lvo)
  have hf := hf.tr (VFr.set (lo := r) (hi := r + 6) (a := r + 4) (c := Sum.inl (vso)) (by omega) (by omega))
  have hwo := RawAt.keep hwo (VFr.set (lo := r) (hi := r + 6) (a := r + 4) (c := Sum.inl (vso)) (by omega) (by omega)) hd
  generalize h.set (r + 4) (Sum.inl (vso)) = h at hw hf hwo ⊢
  obtain ⟨ho, hk, hx, hy, hv, hl, lk, lx, ly, lv, lL⟩ := id hw
  obtain ⟨hoo, hko, hxo, hyo, hvo, hlo, lko, lxo, lyo, lvo, lLo⟩ := id hwo
  refine V.aload_n dX3_copyFrom_92 rfl ?_
  refine V.get fX3_24 dX3_copyFrom_93 hoo rfl ?_
  refine V.iconst (v := nI 0) dX3_copyFrom_96 (by decide) ?_
  refine V.aload_n dX3_copyFrom_97 rfl ?_
  refine V.get fX3_24 dX3_copyFrom_98 ho rfl ?_
  refine V.iconst (v := nI 0) dX3_copyFrom_101 (by decide) ?_
  refine V.bipush (v := nI 36) dX3_copyFrom_102 (by decide) ?_
  refine V.copy jX3_40 dX3_copyFrom_104 (Nat.le_of_ble_eq_true rfl) (Nat.le_of_ble_eq_true rfl) hlo hl lLo lL rfl (by omega) ?_
  have hw := RawAt.w5 hw (llo) (lLo)
  have hf := hf.tr (VFr.set (lo := r) (hi := r + 6) (a := r + 5) (c := Sum.inl (llo)) (by omega) (by omega))
  have hwo := RawAt.keep hwo (VFr.set (lo := r) (hi := r + 6) (a := r + 5) (c := Sum.inl (llo)) (by omega) (by omega)) hd
  generalize h.set (r + 5) (Sum.inl (llo)) = h at hw hf hwo ⊢
  obtain ⟨ho, hk, hx, hy, hv, hl, lk, lx, ly, lv, lL⟩ := id hw
  obtain ⟨hoo, hko, hxo, hyo, hvo, hlo, lko, lxo, lyo, lvo, lLo⟩ := id hwo
  exact V.vret dX3_copyFrom_107 rfl ⟨rfl, hw.room (S := S) ⟨eko, exo, eyo, evo, eLo⟩ rfl rfl rfl rfl, hf⟩

set_option maxHeartbeats 1000000 in
theorem e_leanTowardAlone (g : VG) (h : VHp) (r : Nat) (S : Rm) (hR : RoomAt h r S) (hB : RmB S) (p q : Nat) (hp : p < rN S) (hq : q < rN S) : VE g mX3_leanTowardAlone 1 false (0, 0) [.ref r, .int (nI p), .int (nI q)] h (VRm r (rAlone S p q (rN S)) h none) := by
  refine VE.of (by decide) rfl (Nat.le_of_ble_eq_true rfl) ?_
  have L : ∀ i, i ≤ rN S → ∀ (h1 : VHp), RoomAt h1 r (rAlone S p q i) → VFr r (r + 6) h h1 → V (g, mX3_leanTowardAlone, 1, false, h.length, VRm r (rAlone S p q (rN S)) h none) (0, 0) 2 [some (.ref r), some (.int (nI p)), some (.int (nI q)), some (.int (nI i))] [] h1 := by
    refine vloop (rN S) (fun i ih hi => ?_)
    intro h1 hR1 hf
    obtain ⟨kd, xs, ys, vs, ll, hw, -⟩ := hR1.raw
    have hw : RawAt h1 r (rW S) (rH S) (rN S) (rT S) kd xs ys vs ll := hw
    obtain ⟨bn, bW, bH, bP, bL⟩ := id hB
    obtain ⟨ho, hk, hx, hy, hv, hl, lk, lx, ly, lv, lL⟩ := id hw
    refine V.iload_n dX3_leanTowardAlone_2 rfl ?_
    refine V.aload_n dX3_leanTowardAlone_3 rfl ?_
    refine V.get fX3_34 dX3_leanTowardAlone_4 ho rfl ?_
    refine V.icmp_geN 32 dX3_leanTowardAlone_7 (by decide) (by omega) (by omega) (fun hc1 => ?_) (fun hc1 => ?_)
    · skip
      obtain rfl : i = rN S := (by omega)
      exact V.vret dX3_leanTowardAlone_32 rfl ⟨rfl, hR1, hf⟩
    · skip
      refine V.aload_n dX3_leanTowardAlone_10 rfl ?_
      refine V.iload_n dX3_leanTowardAlone_11 rfl ?_
      refine V.iload_n dX3_leanTowardAlone_12 rfl ?_
      refine V.iload_n dX3_leanTowardAlone_13 rfl ?_
      refine V.iload_n dX3_leanTowardAlone_14 rfl ?_
      refine V.icmp_neN 22 dX3_leanTowardAlone_15 (by decide) (by omega) (by omega) (fun hc2 => ?_) (fun hc2 => ?_)
      · skip
        refine V.iconst (v := nI 0) dX3_leanTowardAlone_22 (by decide) ?_
        refine V.toZ1 ?_
        refine V.callV (ci := 3) cX3_71 (e_setLeaning g h1 r (rAlone S p q i) hR1 (alone_B hB) p i ((0 : Nat) : Int) (by omega) (by omega)) dX3_leanTowardAlone_23 (Nat.le_of_ble_eq_true rfl) rfl ho rfl rfl (Nat.le_of_ble_eq_true rfl) (fun v_ h_ hp_ => ?_)
        obtain ⟨rfl, hR2, hf2⟩ := hp_
        rw [alone_step (show ((0 : Nat) : Int) = if i = q then 1 else 0 from by first | (rw [if_pos (by omega)]; rfl) | (rw [if_neg (by omega)]; rfl))] at hR2
        dsimp only [Option.toList, List.nil_append]
        refine V.iincN (n := 1) dX3_leanTowardAlone_26 rfl rfl rfl ?_
        dsimp only [List.set]
        refine V.goto 2 dX3_leanTowardAlone_29 (by decide) ?_
        exact ih (i + 1) (by omega) (by omega) _ hR2 (hf.tr hf2)
      · skip
        refine V.iconst (v := nI 1) dX3_leanTowardAlone_18 (by decide) ?_
        refine V.goto 23 dX3_leanTowardAlone_19 (by decide) ?_
        refine V.toZ1 ?_
        refine V.callV (ci := 3) cX3_71 (e_setLeaning g h1 r (rAlone S p q i) hR1 (alone_B hB) p i ((1 : Nat) : Int) (by omega) (by omega)) dX3_leanTowardAlone_23 (Nat.le_of_ble_eq_true rfl) rfl ho rfl rfl (Nat.le_of_ble_eq_true rfl) (fun v_ h_ hp_ => ?_)
        obtain ⟨rfl, hR2, hf2⟩ := hp_
        rw [alone_step (show ((1 : Nat) : Int) = if i = q then 1 else 0 from by first | (rw [if_pos (by omega)]; rfl) | (rw [if_neg (by omega)]; rfl))] at hR2
        dsimp only [Option.toList, List.nil_append]
        refine V.iincN (n := 1) dX3_leanTowardAlone_26 rfl rfl rfl ?_
        dsimp only [List.set]
        refine V.goto 2 dX3_leanTowardAlone_29 (by decide) ?_
        exact ih (i + 1) (by omega) (by omega) _ hR2 (hf.tr hf2)
  show V _ _ 0 [some (.ref r), some (.int (nI p)), some (.int (nI q)), none] [] h
  refine V.iconst (v := nI 0) dX3_leanTowardAlone_0 (by decide) ?_
  refine V.istore_n (i := 3) dX3_leanTowardAlone_1 rfl rfl rfl ?_
  dsimp only [List.set]
  exact L 0 (by omega) h (by rw [alone_zero]; exact hR) VFr.rf

set_option maxHeartbeats 1000000 in
theorem e_actBy (g : VG) (h : VHp) (r : Nat) (S : Rm) (hR : RoomAt h r S) (hB : RmB S) (d : Nat) (hn : 1 ≤ rN S) (hd : d < 65521) : VE g mX3_actBy 3 false (0, 0) [.ref r, .int (nI d)] h (VRm r (actF S d) h none) := by
  obtain ⟨kd, xs, ys, vs, ll, ho, hk, hx, hy, hv, hl, lk, lx, ly, lv, lL, ek, ex, ey, ev, eL⟩ := id hR
  obtain ⟨bn, bW, bH, bP, bL⟩ := id hB
  have hpn : d / 8 % rN S < rN S := Nat.mod_lt _ (by omega)
  have hqn : d / 64 % rN S < rN S := Nat.mod_lt _ (by omega)
  refine VE.of (by decide) rfl (Nat.le_of_ble_eq_true rfl) ?_
  show V _ _ 0 [some (.ref r), some (.int (nI d)), none, none, none] [] h
  refine V.aload_n dX3_actBy_0 rfl ?_
  refine V.get fX3_34 dX3_actBy_1 ho rfl ?_
  refine V.iconst (v := nI 1) dX3_actBy_4 (by decide) ?_
  refine V.icmp_geN 9 dX3_actBy_5 (by decide) (by omega) (by omega) (fun hc1 => ?_) (fun hc1 => ?_)
  · skip
    refine V.iload_n dX3_actBy_9 rfl ?_
    refine V.bipush (v := nI 8) dX3_actBy_10 (by decide) ?_
    refine V.idivN dX3_actBy_12 (by omega) (by omega) (by omega) ?_
    refine V.aload_n dX3_actBy_13 rfl ?_
    refine V.get fX3_34 dX3_actBy_14 ho rfl ?_
    refine V.iremN dX3_actBy_17 (by omega) (by omega) (by omega) ?_
    refine V.istore_n (i := 2) dX3_actBy_18 rfl rfl rfl ?_
    dsimp only [List.set]
    refine V.iload_n dX3_actBy_19 rfl ?_
    refine V.bipush (v := nI 8) dX3_actBy_20 (by decide) ?_
    refine V.iremN dX3_actBy_22 (by omega) (by omega) (by omega) ?_
    refine V.istore_n (i := 3) dX3_actBy_23 rfl rfl rfl ?_
    dsimp only [List.set]
    refine V.iload_n dX3_actBy_24 rfl ?_
    refine V.iconst (v := nI 4) dX3_actBy_25 (by decide) ?_
    refine V.icmp_geN 57 dX3_actBy_26 (by decide) (by omega) (by omega) (fun hc2 => ?_) (fun hc2 => ?_)
    · skip
      refine V.iload_n dX3_actBy_57 rfl ?_
      refine V.iconst (v := nI 4) dX3_actBy_58 (by decide) ?_
      refine V.icmp_neN 97 dX3_actBy_59 (by decide) (by omega) (by omega) (fun hc3 => ?_) (fun hc3 => ?_)
      · skip
        first | exact V.vret dX3_actBy_97 rfl ⟨rfl, by first | (have e : actF S d = rStep S (d / 8 % rN S) (d / 64 % 4) := by (unfold actF; rw [if_pos (by omega), if_pos hcs])); (rw [e]; exact hR2) | (have e : actF S d = rLean S (d / 8 % rN S) (d / 64 % rN S) (actL S d) := by (unfold actF; rw [if_neg (by omega), if_pos (by omega)])); (rw [e]; exact hR2), hf2⟩ | exact V.vret dX3_actBy_97 rfl ⟨rfl, by first | (have e : actF S d = S := by (unfold actF; rw [if_pos (by omega), if_neg hcs])); (rw [e]; exact hR) | (have e : actF S d = S := by (unfold actF; rw [if_neg (by omega), if_neg (by omega)])); (rw [e]; exact hR), VFr.rf⟩
      · skip
        refine V.iload_n dX3_actBy_62 rfl ?_
        refine V.bipush (v := nI 64) dX3_actBy_63 (by decide) ?_
        refine V.idivN dX3_actBy_65 (by omega) (by omega) (by omega) ?_
        refine V.aload_n dX3_actBy_66 rfl ?_
        refine V.get fX3_34 dX3_actBy_67 ho rfl ?_
        refine V.iremN dX3_actBy_70 (by omega) (by omega) (by omega) ?_
        refine V.istore dX3_actBy_71 rfl rfl ?_
        dsimp only [List.set]
        refine V.iload dX3_actBy_73 rfl ?_
        refine V.iload_n dX3_actBy_75 rfl ?_
        refine V.icmp_eqN 97 dX3_actBy_76 (by decide) (by omega) (by omega) (fun hc4 => ?_) (fun hc4 => ?_)
        · skip
          first | exact V.vret dX3_actBy_97 rfl ⟨rfl, by first | (have e : actF S d = rStep S (d / 8 % rN S) (d / 64 % 4) := by (unfold actF; rw [if_pos (by omega), if_pos hcs])); (rw [e]; exact hR2) | (have e : actF S d = rLean S (d / 8 % rN S) (d / 64 % rN S) (actL S d) := by (unfold actF; rw [if_neg (by omega), if_pos (by omega)])); (rw [e]; exact hR2), hf2⟩ | exact V.vret dX3_actBy_97 rfl ⟨rfl, by first | (have e : actF S d = S := by (unfold actF; rw [if_pos (by omega), if_neg hcs])); (rw [e]; exact hR) | (have e : actF S d = S := by (unfold actF; rw [if_neg (by omega), if_neg (by omega)])); (rw [e]; exact hR), VFr.rf⟩
        · skip
          refine V.aload_n dX3_actBy_79 rfl ?_
          refine V.iload_n dX3_actBy_80 rfl ?_
          refine V.iload dX3_actBy_81 rfl ?_
          refine V.iload_n dX3_actBy_83 rfl ?_
          refine V.sipush (v := nI 512) dX3_actBy_84 (by decide) ?_
          refine V.idivN dX3_actBy_87 (by omega) (by omega) (by omega) ?_
          refine V.bipush (v := nI 41) dX3_actBy_88 (by decide) ?_
          refine V.iremN dX3_actBy_90 (by omega) (by omega) (by omega) ?_
          refine V.bipush (v := nI 20) dX3_actBy_91 (by decide) ?_
          refine V.toZ1 ?_
          refine V.toZ2 ?_
          refine V.isubZ dX3_actBy_93 ?_
          refine V.callV (ci := 3) cX3_71 (e_setLeaning g h r S hR hB (d / 8 % rN S) (d / 64 % rN S) (actL S d) (by omega) (by omega)) dX3_actBy_94 (Nat.le_of_ble_eq_true rfl) rfl ho rfl rfl (Nat.le_of_ble_eq_true rfl) (fun v_ h_ hp_ => ?_)
          obtain ⟨rfl, hR2, hf2⟩ := hp_
          dsimp only [Option.toList, List.nil_append]
          first | exact V.vret dX3_actBy_97 rfl ⟨rfl, by first | (have e : actF S d = rStep S (d / 8 % rN S) (d / 64 % 4) := by (unfold actF; rw [if_pos (by omega), if_pos hcs])); (rw [e]; exact hR2) | (have e : actF S d = rLean S (d / 8 % rN S) (d / 64 % rN S) (actL S d) := by (unfold actF; rw [if_neg (by omega), if_pos (by omega)])); (rw [e]; exact hR2), hf2⟩ | exact V.vret dX3_actBy_97 rfl ⟨rfl, by first | (have e : actF S d = S := by (unfold actF; rw [if_pos (by omega), if_neg hcs])); (rw [e]; exact hR) | (have e : actF S d = S := by (unfold actF; rw [if_neg (by omega), if_neg (by omega)])); (rw [e]; exact hR), VFr.rf⟩
    · skip
      refine V.iload_n dX3_actBy_29 rfl ?_
      refine V.bipush (v := nI 64) dX3_actBy_30 (by decide) ?_
      refine V.idivN dX3_actBy_32 (by omega) (by omega) (by omega) ?_
      refine V.iconst (v := nI 4) dX3_actBy_33 (by decide) ?_
      refine V.iremN dX3_actBy_34 (by omega) (by omega) (by omega) ?_
      refine V.istore dX3_actBy_35 rfl rfl ?_
      dsimp only [List.set]
      refine V.aload_n dX3_actBy_37 rfl ?_
      refine V.iload_n dX3_actBy_38 rfl ?_
      refine V.iload dX3_actBy_39 rfl ?_
      refine V.callVp (ci := 3) cX3_105 (e_canStep g h r S hR hB (d / 8 % rN S) (d / 64 % 4) hpn (by omega)) dX3_actBy_41 (Nat.le_of_ble_eq_true rfl) rfl ho rfl rfl (Nat.le_of_ble_eq_true rfl) ?_
      refine V.if_eqB 54 dX3_actBy_44 (by decide) (fun hc5 => ?_) (fun hc5 => ?_)
      · skip
        have hcs := hc5
        refine V.goto 97 dX3_actBy_54 (by decide) ?_
        first | exact V.vret dX3_actBy_97 rfl ⟨rfl, by first | (have e : actF S d = rStep S (d / 8 % rN S) (d / 64 % 4) := by (unfold actF; rw [if_pos (by omega), if_pos hcs])); (rw [e]; exact hR2) | (have e : actF S d = rLean S (d / 8 % rN S) (d / 64 % rN S) (actL S d) := by (unfold actF; rw [if_neg (by omega), if_pos (by omega)])); (rw [e]; exact hR2), hf2⟩ | exact V.vret dX3_actBy_97 rfl ⟨rfl, by first | (have e : actF S d = S := by (unfold actF; rw [if_pos (by omega), if_neg hcs])); (rw [e]; exact hR) | (have e : actF S d = S := by (unfold actF; rw [if_neg (by omega), if_neg (by omega)])); (rw [e]; exact hR), VFr.rf⟩
      · skip
        have hcs := hc5
        refine V.aload_n dX3_actBy_47 rfl ?_
        refine V.iload_n dX3_actBy_48 rfl ?_
        refine V.iload dX3_actBy_49 rfl ?_
        refine V.callV (ci := 3) cX3_108 (e_step g h r S hR hB (d / 8 % rN S) (d / 64 % 4) hpn (by omega) hcs.1) dX3_actBy_51 (Nat.le_of_ble_eq_true rfl) rfl ho rfl rfl (Nat.le_of_ble_eq_true rfl) (fun v_ h_ hp_ => ?_)
        obtain ⟨rfl, hR2, hf2⟩ := hp_
        dsimp only [Option.toList, List.nil_append]
        refine V.goto 97 dX3_actBy_54 (by decide) ?_
        first | exact V.vret dX3_actBy_97 rfl ⟨rfl, by first | (have e : actF S d = rStep S (d / 8 % rN S) (d / 64 % 4) := by (unfold actF; rw [if_pos (by omega), if_pos hcs])); (rw [e]; exact hR2) | (have e : actF S d = rLean S (d / 8 % rN S) (d / 64 % rN S) (actL S d) := by (unfold actF; rw [if_neg (by omega), if_pos (by omega)])); (rw [e]; exact hR2), hf2⟩ | exact V.vret dX3_actBy_97 rfl ⟨rfl, by first | (have e : actF S d = S := by (unfold actF; rw [if_pos (by omega), if_neg hcs])); (rw [e]; exact hR) | (have e : actF S d = S := by (unfold actF; rw [if_neg (by omega), if_neg (by omega)])); (rw [e]; exact hR), VFr.rf⟩
  · exact absurd hc1 (by omega)
