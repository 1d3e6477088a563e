set_option maxHeartbeats 1000000 in
theorem e_has (g : VG) (h : VHp) (r : Nat) (S : Rm) (hR : RoomAt h r S) (hB : RmB S) (p : Int) (hp : -2147483648 ≤ p ∧ p < 2147483648) : VE g mX3_has 1 false (0, 0) [.ref r, .int (iI p)] h (VP (vB (0 ≤ p ∧ p < ((rN S : Nat) : Int))) h) := by
  obtain ⟨kd, xs, ys, vs, ll, ho, hk, hx, hy, hv, hl, lk, lx, ly, lv, lL, ek, ex, ey, ev, eL⟩ := id hR
  obtain ⟨bn, bW, bH, bP, bL⟩ := id hB
  refine VE.of (by decide) rfl (Nat.le_of_ble_eq_true rfl) ?_
  show V _ _ 0 [some (.ref r), some (.int (iI p))] [] h
  refine V.iload_n dX3_has_0 rfl ?_
  refine V.aload_n dX3_has_1 rfl ?_
  refine V.get fX3_34 dX3_has_2 ho rfl ?_
  refine V.toZ1 ?_
  refine V.callSp cX3_46 (e_isBelow g h _ _ (by omega) (by omega)) dX3_has_5 (Nat.le_of_ble_eq_true rfl) rfl rfl (Nat.le_of_ble_eq_true rfl) ?_
  exact V.zret dX3_has_8 rfl (by first | exact vB_01 | decide) ⟨by first | (exfalso; omega) | (rfl), rfl⟩

set_option maxHeartbeats 1000000 in
theorem e_hasTwo (g : VG) (h : VHp) (r : Nat) (S : Rm) (hR : RoomAt h r S) (hB : RmB S) (a b : Int) (ha : -2147483648 ≤ a ∧ a < 2147483648) (hb : -2147483648 ≤ b ∧ b < 2147483648) : VE g mX3_hasTwo 2 false (0, 0) [.ref r, .int (iI a), .int (iI b)] h (VP (vB ((0 ≤ a ∧ a < ((rN S : Nat) : Int)) ∧ (0 ≤ b ∧ b < ((rN S : Nat) : Int)) ∧ a ≠ b)) h) := by
  obtain ⟨kd, xs, ys, vs, ll, ho, hk, hx, hy, hv, hl, lk, lx, ly, lv, lL, ek, ex, ey, ev, eL⟩ := id hR
  obtain ⟨bn, bW, bH, bP, bL⟩ := id hB
  refine VE.of (by decide) rfl (Nat.le_of_ble_eq_true rfl) ?_
  show V _ _ 0 [some (.ref r), some (.int (iI a)), some (.int (iI b))] [] h
  refine V.aload_n dX3_hasTwo_0 rfl ?_
  refine V.iload_n dX3_hasTwo_1 rfl ?_
  refine V.callVp (ci := 3) cX3_50 (e_has g h r S hR hB a (by omega)) dX3_hasTwo_2 (Nat.le_of_ble_eq_true rfl) rfl ho rfl rfl (Nat.le_of_ble_eq_true rfl) ?_
  refine V.if_eqB 25 dX3_hasTwo_5 (by decide) (fun hc1 => ?_) (fun hc1 => ?_)
  · skip
    refine V.iconst (v := nI 0) dX3_hasTwo_25 (by decide) ?_
    exact V.zret dX3_hasTwo_26 rfl (by first | exact vB_01 | decide) ⟨by first | (exfalso; omega) | (first | (rw [vB_t (by omega)]; rfl) | (rw [vB_f (by omega)]; rfl)), rfl⟩
  · skip
    refine V.aload_n dX3_hasTwo_8 rfl ?_
    refine V.iload_n dX3_hasTwo_9 rfl ?_
    refine V.callVp (ci := 3) cX3_50 (e_has g h r S hR hB b (by omega)) dX3_hasTwo_10 (Nat.le_of_ble_eq_true rfl) rfl ho rfl rfl (Nat.le_of_ble_eq_true rfl) ?_
    refine V.if_eqB 25 dX3_hasTwo_13 (by decide) (fun hc2 => ?_) (fun hc2 => ?_)
    · skip
      refine V.iconst (v := nI 0) dX3_hasTwo_25 (by decide) ?_
      exact V.zret dX3_hasTwo_26 rfl (by first | exact vB_01 | decide) ⟨by first | (exfalso; omega) | (first | (rw [vB_t (by omega)]; rfl) | (rw [vB_f (by omega)]; rfl)), rfl⟩
    · skip
      refine V.iload_n dX3_hasTwo_16 rfl ?_
      refine V.iload_n dX3_hasTwo_17 rfl ?_
      refine V.icmp_eqZ 25 dX3_hasTwo_18 (by decide) (by omega) (by omega) (fun hc3 => ?_) (fun hc3 => ?_)
      · skip
        refine V.iconst (v := nI 0) dX3_hasTwo_25 (by decide) ?_
        exact V.zret dX3_hasTwo_26 rfl (by first | exact vB_01 | decide) ⟨by first | (exfalso; omega) | (first | (rw [vB_t (by omega)]; rfl) | (rw [vB_f (by omega)]; rfl)), rfl⟩
      · skip
        refine V.iconst (v := nI 1) dX3_hasTwo_21 (by decide) ?_
        refine V.goto 26 dX3_hasTwo_22 (by decide) ?_
        exact V.zret dX3_hasTwo_26 rfl (by first | exact vB_01 | decide) ⟨by first | (exfalso; omega) | (first | (rw [vB_t (by omega)]; rfl) | (rw [vB_f (by omega)]; rfl)), rfl⟩

set_option maxHeartbeats 1000000 in
theorem e_reaches (g : VG) (h : VHp) (r : Nat) (S : Rm) (hR : RoomAt h r S) (hB : RmB S) (x y : Int) (hx0 : -2147483648 ≤ x ∧ x < 2147483648) (hy0 : -2147483648 ≤ y ∧ y < 2147483648) : VE g mX3_reaches 1 false (0, 0) [.ref r, .int (iI x), .int (iI y)] h (VP (vB (inF S x y)) h) := by
  obtain ⟨kd, xs, ys, vs, ll, ho, hk, hx, hy, hv, hl, lk, lx, ly, lv, lL, ek, ex, ey, ev, eL⟩ := id hR
  obtain ⟨bn, bW, bH, bP, bL⟩ := id hB
  refine VE.of (by decide) rfl (Nat.le_of_ble_eq_true rfl) ?_
  show V _ _ 0 [some (.ref r), some (.int (iI x)), some (.int (iI y))] [] h
  refine V.iload_n dX3_reaches_0 rfl ?_
  refine V.aload_n dX3_reaches_1 rfl ?_
  refine V.get fX3_27 dX3_reaches_2 ho rfl ?_
  refine V.toZ1 ?_
  refine V.callSp cX3_46 (e_isBelow g h _ _ (by omega) (by omega)) dX3_reaches_5 (Nat.le_of_ble_eq_true rfl) rfl rfl (Nat.le_of_ble_eq_true rfl) ?_
  refine V.if_eqB 26 dX3_reaches_8 (by decide) (fun hc1 => ?_) (fun hc1 => ?_)
  · skip
    refine V.iconst (v := nI 0) dX3_reaches_26 (by decide) ?_
    exact V.zret dX3_reaches_27 rfl (by first | exact vB_01 | decide) ⟨by first | (exfalso; omega) | (first | (rw [vB_t (by omega)]; rfl) | (rw [vB_f (by omega)]; rfl)), rfl⟩
  · skip
    refine V.iload_n dX3_reaches_11 rfl ?_
    refine V.aload_n dX3_reaches_12 rfl ?_
    refine V.get fX3_31 dX3_reaches_13 ho rfl ?_
    refine V.toZ1 ?_
    refine V.callSp cX3_46 (e_isBelow g h _ _ (by omega) (by omega)) dX3_reaches_16 (Nat.le_of_ble_eq_true rfl) rfl rfl (Nat.le_of_ble_eq_true rfl) ?_
    refine V.if_eqB 26 dX3_reaches_19 (by decide) (fun hc2 => ?_) (fun hc2 => ?_)
    · skip
      refine V.iconst (v := nI 0) dX3_reaches_26 (by decide) ?_
      exact V.zret dX3_reaches_27 rfl (by first | exact vB_01 | decide) ⟨by first | (exfalso; omega) | (first | (rw [vB_t (by omega)]; rfl) | (rw [vB_f (by omega)]; rfl)), rfl⟩
    · skip
      refine V.iconst (v := nI 1) dX3_reaches_22 (by decide) ?_
      refine V.goto 27 dX3_reaches_23 (by decide) ?_
      exact V.zret dX3_reaches_27 rfl (by first | exact vB_01 | decide) ⟨by first | (exfalso; omega) | (first | (rw [vB_t (by omega)]; rfl) | (rw [vB_f (by omega)]; rfl)), rfl⟩

set_option maxHeartbeats 1000000 in
theorem e_isFreeFor (g : VG) (h : VHp) (r : Nat) (S : Rm) (hR : RoomAt h r S) (hB : RmB S) (p x y : Nat) (hp : p < rN S) (hx0 : x < 100) (hy0 : y < 100) : VE g mX3_isFreeFor 1 false (0, 0) [.ref r, .int (nI p), .int (nI x), .int (nI y)] h (VP (vB (whoF S x y (rN S) = none ∨ whoF S x y (rN S) = some p)) h) := by
  obtain ⟨kd, xs, ys, vs, ll, ho, hk, hx, hy, hv, hl, lk, lx, ly, lv, lL, ek, ex, ey, ev, eL⟩ := id hR
  obtain ⟨bn, bW, bH, bP, bL⟩ := id hB
  have hlt : ∀ i, whoF S x y (rN S) = some i → i < 1000 := fun i q => by have := (whoF_lt q).1; omega
  refine VE.of (by decide) rfl (Nat.le_of_ble_eq_true rfl) ?_
  show V _ _ 0 [some (.ref r), some (.int (nI p)), some (.int (nI x)), some (.int (nI y)), none] [] h
  refine V.aload_n dX3_isFreeFor_0 rfl ?_
  refine V.iload_n dX3_isFreeFor_1 rfl ?_
  refine V.iload_n dX3_isFreeFor_2 rfl ?_
  refine V.callVp (ci := 3) cX3_54 (e_whoIsAt g h r S hR hB x y (by omega) (by omega)) dX3_isFreeFor_3 (Nat.le_of_ble_eq_true rfl) rfl ho rfl rfl (Nat.le_of_ble_eq_true rfl) ?_
  refine V.istore dX3_isFreeFor_6 rfl rfl ?_
  dsimp only [List.set]
  refine V.iload dX3_isFreeFor_8 rfl ?_
  refine V.bipush (v := iI (-4)) dX3_isFreeFor_10 (by decide) ?_
  refine V.icmp_eq 21 dX3_isFreeFor_12 (by decide) (fun hc1 => ?_) (fun hc1 => ?_)
  · skip
    refine V.iconst (v := nI 1) dX3_isFreeFor_21 (by decide) ?_
    refine V.goto 26 dX3_isFreeFor_22 (by decide) ?_
    exact V.zret dX3_isFreeFor_26 rfl (by first | exact vB_01 | decide) ⟨by first | (exfalso; omega) | (first | (rw [vB_t (by first | exact Or.inl ((eO_none hlt).mp (by assumption)) | exact Or.inr ((eO_some hlt (by omega)).mp (by assumption)))]; rfl) | (rw [vB_f (fun q => q.elim (fun q => (by assumption : ¬ eO (whoF S x y (rN S)) = iI (-4)) ((eO_none hlt).mpr q)) (fun q => (by assumption : ¬ eO (whoF S x y (rN S)) = nI p) ((eO_some hlt (by omega)).mpr q)))]; rfl)), rfl⟩
  · skip
    refine V.iload dX3_isFreeFor_15 rfl ?_
    refine V.iload_n dX3_isFreeFor_17 rfl ?_
    refine V.icmp_ne 25 dX3_isFreeFor_18 (by decide) (fun hc2 => ?_) (fun hc2 => ?_)
    · skip
      refine V.iconst (v := nI 0) dX3_isFreeFor_25 (by decide) ?_
      exact V.zret dX3_isFreeFor_26 rfl (by first | exact vB_01 | decide) ⟨by first | (exfalso; omega) | (first | (rw [vB_t (by first | exact Or.inl ((eO_none hlt).mp (by assumption)) | exact Or.inr ((eO_some hlt (by omega)).mp (by assumption)))]; rfl) | (rw [vB_f (fun q => q.elim (fun q => (by assumption : ¬ eO (whoF S x y (rN S)) = iI (-4)) ((eO_none hlt).mpr q)) (fun q => (by assumption : ¬ eO (whoF S x y (rN S)) = nI p) ((eO_some hlt (by omega)).mpr q)))]; rfl)), rfl⟩
    · skip
      refine V.iconst (v := nI 1) dX3_isFreeFor_21 (by decide) ?_
      refine V.goto 26 dX3_isFreeFor_22 (by decide) ?_
      exact V.zret dX3_isFreeFor_26 rfl (by first | exact vB_01 | decide) ⟨by first | (exfalso; omega) | (first | (rw [vB_t (by first | exact Or.inl ((eO_none hlt).mp (by assumption)) | exact Or.inr ((eO_some hlt (by omega)).mp (by assumption)))]; rfl) | (rw [vB_f (fun q => q.elim (fun q => (by assumption : ¬ eO (whoF S x y (rN S)) = iI (-4)) ((eO_none hlt).mpr q)) (fun q => (by assumption : ¬ eO (whoF S x y (rN S)) = nI p) ((eO_some hlt (by omega)).mpr q)))]; rfl)), rfl⟩

set_option maxHeartbeats 1000000 in
theorem e_canStep (g : VG) (h : VHp) (r : Nat) (S : Rm) (hR : RoomAt h r S) (hB : RmB S) (p side : Nat) (hp : p < rN S) (hs : side < 4) : VE g mX3_canStep 2 false (0, 0) [.ref r, .int (nI p), .int (nI side)] h (VP (vB (canF S p side)) h) := by
  obtain ⟨kd, xs, ys, vs, ll, ho, hk, hx, hy, hv, hl, lk, lx, ly, lv, lL, ek, ex, ey, ev, eL⟩ := id hR
  obtain ⟨bn, bW, bH, bP, bL⟩ := id hB
  have es : sxF S p side = (rX S p : Int) + dxF side := rfl
  have et : syF S p side = (rY S p : Int) + dyF side := rfl
  have b1 := dx_bd side
  have b2 := dy_bd side
  have bp := bP p hp
  have hlt : ∀ i, whoF S (sxF S p side).toNat (syF S p side).toNat (rN S) = some i → i < 1000 := fun i q => by have := (whoF_lt q).1; omega
  refine VE.of (by decide) rfl (Nat.le_of_ble_eq_true rfl) ?_
  show V _ _ 0 [some (.ref r), some (.int (nI p)), some (.int (nI side)), none, none] [] h
  refine V.aload_n dX3_canStep_0 rfl ?_
  refine V.get fX3_15 dX3_canStep_1 ho rfl ?_
  refine V.iload_n dX3_canStep_4 rfl ?_
  refine V.iald dX3_canStep_5 hx rfl (by omega) (ex _ (by omega)) ?_
  refine V.gets1 (Or.inr ⟨"HeartVanes", w9_485⟩) dX3_canStep_6 ?_
  refine V.iload_n dX3_canStep_9 rfl ?_
  refine V.ald1 dX3_canStep_10 rfl (by omega) ?_
  refine V.re (vea_d _ (by omega)) ?_
  refine V.toZ2 ?_
  refine V.iaddZ dX3_canStep_11 ?_
  refine V.re (y := iI (sxF S p side)) rfl ?_
  refine V.istore_n (i := 3) dX3_canStep_12 rfl rfl rfl ?_
  dsimp only [List.set]
  refine V.aload_n dX3_canStep_13 rfl ?_
  refine V.get fX3_18 dX3_canStep_14 ho rfl ?_
  refine V.iload_n dX3_canStep_17 rfl ?_
  refine V.iald dX3_canStep_18 hy rfl (by omega) (ey _ (by omega)) ?_
  refine V.gets2 (Or.inr ⟨"HeartVanes", w9_487⟩) dX3_canStep_19 ?_
  refine V.iload_n dX3_canStep_22 rfl ?_
  refine V.ald2 dX3_canStep_23 rfl (by omega) ?_
  refine V.re (vso_d _ (by omega)) ?_
  refine V.toZ2 ?_
  refine V.iaddZ dX3_canStep_24 ?_
  refine V.re (y := iI (syF S p side)) rfl ?_
  refine V.istore dX3_canStep_25 rfl rfl ?_
  dsimp only [List.set]
  refine V.aload_n dX3_canStep_27 rfl ?_
  refine V.iload_n dX3_canStep_28 rfl ?_
  refine V.iload dX3_canStep_29 rfl ?_
  refine V.callVp (ci := 3) cX3_64 (e_reaches g h r S hR hB (sxF S p side) (syF S p side) (by omega) (by omega)) dX3_canStep_31 (Nat.le_of_ble_eq_true rfl) rfl ho rfl rfl (Nat.le_of_ble_eq_true rfl) ?_
  refine V.if_eqB 53 dX3_canStep_34 (by decide) (fun hc1 => ?_) (fun hc1 => ?_)
  · skip
    refine V.iconst (v := nI 0) dX3_canStep_53 (by decide) ?_
    exact V.zret dX3_canStep_54 rfl (by first | exact vB_01 | decide) ⟨by first | (exfalso; omega) | (first | (rw [vB_t ⟨by assumption, (eO_none hlt).mp (by assumption)⟩]; rfl) | (rw [vB_f (fun q => absurd q.1 (by assumption))]; rfl) | (rw [vB_f (fun q => absurd ((eO_none hlt).mpr q.2) (by assumption))]; rfl)), rfl⟩
  · skip
    refine V.aload_n dX3_canStep_37 rfl ?_
    refine V.iload_n dX3_canStep_38 rfl ?_
    refine V.iload dX3_canStep_39 rfl ?_
    refine V.re (iI_toN (n := (syF S p side).toNat) (by omega)) ?_
    refine V.re2 (iI_toN (n := (sxF S p side).toNat) (by omega)) ?_
    refine V.callVp (ci := 3) cX3_54 (e_whoIsAt g h r S hR hB (sxF S p side).toNat (syF S p side).toNat (by omega) (by omega)) dX3_canStep_41 (Nat.le_of_ble_eq_true rfl) rfl ho rfl rfl (Nat.le_of_ble_eq_true rfl) ?_
    refine V.bipush (v := iI (-4)) dX3_canStep_44 (by decide) ?_
    refine V.icmp_ne 53 dX3_canStep_46 (by decide) (fun hc2 => ?_) (fun hc2 => ?_)
    · skip
      refine V.iconst (v := nI 0) dX3_canStep_53 (by decide) ?_
      exact V.zret dX3_canStep_54 rfl (by first | exact vB_01 | decide) ⟨by first | (exfalso; omega) | (first | (rw [vB_t ⟨by assumption, (eO_none hlt).mp (by assumption)⟩]; rfl) | (rw [vB_f (fun q => absurd q.1 (by assumption))]; rfl) | (rw [vB_f (fun q => absurd ((eO_none hlt).mpr q.2) (by assumption))]; rfl)), rfl⟩
    · skip
      refine V.iconst (v := nI 1) dX3_canStep_49 (by decide) ?_
      refine V.goto 54 dX3_canStep_50 (by decide) ?_
      exact V.zret dX3_canStep_54 rfl (by first | exact vB_01 | decide) ⟨by first | (exfalso; omega) | (first | (rw [vB_t ⟨by assumption, (eO_none hlt).mp (by assumption)⟩]; rfl) | (rw [vB_f (fun q => absurd q.1 (by assumption))]; rfl) | (rw [vB_f (fun q => absurd ((eO_none hlt).mpr q.2) (by assumption))]; rfl)), rfl⟩

set_option maxHeartbeats 1000000 in
theorem e_put (g : VG) (h : VHp) (r : Nat) (S : Rm) (hR : RoomAt h r S) (hB : RmB S) (p x y : Nat) (hp : p < rN S) : VE g mX3_put 0 false (0, 0) [.ref r, .int (nI p), .int (nI x), .int (nI y)] h (VRm r (rPut S p x y) h none) := by
  obtain ⟨kd, xs, ys, vs, ll, hw, ek, ex, ey, ev, eL⟩ := hR.raw
  obtain ⟨ho, hk, hx, hy, hv, hl, lk, lx, ly, lv, lL⟩ := id hw
  obtain ⟨bn, bW, bH, bP, bL⟩ := id hB
  have hf : VFr r (r + 6) h h := VFr.rf
  have lxo := lx
  have lyo := ly
  refine VE.of (by decide) rfl (Nat.le_of_ble_eq_true rfl) ?_
  show V _ _ 0 [some (.ref r), some (.int (nI p)), some (.int (nI x)), some (.int (nI y))] [] h
  refine V.aload_n dX3_put_0 rfl ?_
  refine V.get fX3_15 dX3_put_1 ho rfl ?_
  refine V.iload_n dX3_put_4 rfl ?_
  refine V.iload_n dX3_put_5 rfl ?_
  refine V.iast dX3_put_6 hx rfl (by omega) (by rw [lx]; omega) ?_
  have hw := RawAt.w2 hw (xs.set p (nI x)) (by rw [List.length_set]; exact lx)
  have hf := hf.tr (VFr.set (lo := r) (hi := r + 6) (a := r + 2) (c := .inl (xs.set p (nI x))) (by omega) (by omega))
  generalize h.set (r + 2) (Sum.inl (xs.set p (nI x))) = h at hw hf ⊢
  obtain ⟨ho, hk, hx, hy, hv, hl, lk, lx, ly, lv, lL⟩ := id hw
  refine V.aload_n dX3_put_7 rfl ?_
  refine V.get fX3_18 dX3_put_8 ho rfl ?_
  refine V.iload_n dX3_put_11 rfl ?_
  refine V.iload_n dX3_put_12 rfl ?_
  refine V.iast dX3_put_13 hy rfl (by omega) (by rw [ly]; omega) ?_
  have hw := RawAt.w3 hw (ys.set p (nI y)) (by rw [List.length_set]; exact ly)
  have hf := hf.tr (VFr.set (lo := r) (hi := r + 6) (a := r + 3) (c := .inl (ys.set p (nI y))) (by omega) (by omega))
  generalize h.set (r + 3) (Sum.inl (ys.set p (nI y))) = h at hw hf ⊢
  obtain ⟨ho, hk, hx, hy, hv, hl, lk, lx, ly, lv, lL⟩ := id hw
  exact V.vret dX3_put_14 rfl ⟨rfl, hw.room (S := rPut S p x y) ⟨ek, row_set ex (by rw [lxo]; omega), row_set ey (by rw [lyo]; omega), ev, eL⟩ rfl rfl rfl rfl, hf⟩

set_option maxHeartbeats 1000000 in
theorem e_step (g : VG) (h : VHp) (r : Nat) (S : Rm) (hR : RoomAt h r S) (hB : RmB S) (p side : Nat) (hp : p < rN S) (hs : side < 4) (hc : inF S (sxF S p side) (syF S p side)) : VE g mX3_step 1 false (0, 0) [.ref r, .int (nI p), .int (nI side)] h (VRm r (rStep S p side) h none) := by
  obtain ⟨kd, xs, ys, vs, ll, ho, hk, hx, hy, hv, hl, lk, lx, ly, lv, lL, ek, ex, ey, ev, eL⟩ := id hR
  obtain ⟨bn, bW, bH, bP, bL⟩ := id hB
  have es : sxF S p side = (rX S p : Int) + dxF side := rfl
  have et : syF S p side = (rY S p : Int) + dyF side := rfl
  have b1 := dx_bd side
  have b2 := dy_bd side
  have bp := bP p hp
  refine VE.of (by decide) rfl (Nat.le_of_ble_eq_true rfl) ?_
  show V _ _ 0 [some (.ref r), some (.int (nI p)), some (.int (nI side))] [] h
  refine V.aload_n dX3_step_0 rfl ?_
  refine V.iload_n dX3_step_1 rfl ?_
  refine V.aload_n dX3_step_2 rfl ?_
  refine V.get fX3_15 dX3_step_3 ho rfl ?_
  refine V.iload_n dX3_step_6 rfl ?_
  refine V.iald dX3_step_7 hx rfl (by omega) (ex _ (by omega)) ?_
  refine V.gets1 (Or.inr ⟨"HeartVanes", w9_485⟩) dX3_step_8 ?_
  refine V.iload_n dX3_step_11 rfl ?_
  refine V.ald1 dX3_step_12 rfl (by omega) ?_
  refine V.re (vea_d _ (by omega)) ?_
  refine V.toZ2 ?_
  refine V.iaddZ dX3_step_13 ?_
  refine V.re (y := iI (sxF S p side)) rfl ?_
  refine V.aload_n dX3_step_14 rfl ?_
  refine V.get fX3_18 dX3_step_15 ho rfl ?_
  refine V.iload_n dX3_step_18 rfl ?_
  refine V.iald dX3_step_19 hy rfl (by omega) (ey _ (by omega)) ?_
  refine V.gets2 (Or.inr ⟨"HeartVanes", w9_487⟩) dX3_step_20 ?_
  refine V.iload_n dX3_step_23 rfl ?_
  refine V.ald2 dX3_step_24 rfl (by omega) ?_
  refine V.re (vso_d _ (by omega)) ?_
  refine V.toZ2 ?_
  refine V.iaddZ dX3_step_25 ?_
  refine V.re (y := iI (syF S p side)) rfl ?_
  refine V.re (iI_toN (n := (syF S p side).toNat) (by omega)) ?_
  refine V.re2 (iI_toN (n := (sxF S p side).toNat) (by omega)) ?_
  refine V.callV (ci := 3) cX3_67 (e_put g h r S hR hB p (sxF S p side).toNat (syF S p side).toNat hp) dX3_step_26 (Nat.le_of_ble_eq_true rfl) rfl ho rfl rfl (Nat.le_of_ble_eq_true rfl) (fun v_ h_ hp_ => ?_)
  obtain ⟨rfl, hR1, hf1⟩ := hp_
  dsimp only [Option.toList, List.nil_append]
  exact V.vret dX3_step_29 rfl ⟨rfl, hR1, hf1⟩

set_option maxHeartbeats 1000000 in
theorem e_setLeaning (g : VG) (h : VHp) (r : Nat) (S : Rm) (hR : RoomAt h r S) (hB : RmB S) (a b : Nat) (l : Int) (ha : a < 6) (hb : b < 6) : VE g mX3_setLeaning 0 false (0, 0) [.ref r, .int (nI a), .int (nI b), .int (iI l)] h (VRm r (rLean S a b l) h none) := by
  obtain ⟨kd, xs, ys, vs, ll, hw, ek, ex, ey, ev, eL⟩ := hR.raw
  obtain ⟨ho, hk, hx, hy, hv, hl, lk, lx, ly, lv, lL⟩ := id hw
  obtain ⟨bn, bW, bH, bP, bL⟩ := id hB
  have hf : VFr r (r + 6) h h := VFr.rf
  have lLo := lL
  refine VE.of (by decide) rfl (Nat.le_of_ble_eq_true rfl) ?_
  show V _ _ 0 [some (.ref r), some (.int (nI a)), some (.int (nI b)), some (.int (iI l))] [] h
  refine V.aload_n dX3_setLeaning_0 rfl ?_
  refine V.get fX3_24 dX3_setLeaning_1 ho rfl ?_
  refine V.bipush (v := nI 6) dX3_setLeaning_4 (by decide) ?_
  refine V.iload_n dX3_setLeaning_6 rfl ?_
  refine V.imulN dX3_setLeaning_7 ?_
  refine V.iload_n dX3_setLeaning_8 rfl ?_
  refine V.iaddN dX3_setLeaning_9 ?_
  refine V.iload_n dX3_setLeaning_10 rfl ?_
  refine V.iast dX3_setLeaning_11 hl rfl (by omega) (by rw [lL]; omega) ?_
  have hw := RawAt.w5 hw (ll.set (6 * a + b) (iI l)) (by rw [List.length_set]; exact lL)
  have hf := hf.tr (VFr.set (lo := r) (hi := r + 6) (a := r + 5) (c := .inl (ll.set (6 * a + b) (iI l))) (by omega) (by omega))
  generalize h.set (r + 5) (Sum.inl (ll.set (6 * a + b) (iI l))) = h at hw hf ⊢
  obtain ⟨ho, hk, hx, hy, hv, hl, lk, lx, ly, lv, lL⟩ := id hw
  exact V.vret dX3_setLeaning_12 rfl ⟨rfl, hw.room (S := rLean S a b l) ⟨ek, ex, ey, ev, lean_set eL lLo ha hb⟩ rfl rfl rfl rfl, hf⟩

set_option maxHeartbeats 1000000 in
theorem e_tellsToward (g : VG) (h : VHp) (r : Nat) (S : Rm) (hR : RoomAt h r S) (hB : RmB S) (p q : Nat) (hp : p < rN S) (hq : q < rN S) : VE g mX3_tellsToward 2 false (0, 0) [.ref r, .int (nI p), .int (nI q)] h (VP (vB (tellF S p q)) h) := by
  obtain ⟨kd, xs, ys, vs, ll, ho, hk, hx, hy, hv, hl, lk, lx, ly, lv, lL, ek, ex, ey, ev, eL⟩ := id hR
  obtain ⟨bn, bW, bH, bP, bL⟩ := id hB
  have bp := bP p hp
  have bq := bP q hq
  have hlt : ∀ i, wayF ((rX S q : Int) - rX S p) ((rY S q : Int) - rY S p) = some i → i < 1000 := fun i z => by have := wayF_lt z; omega
  refine VE.of (by decide) rfl (Nat.le_of_ble_eq_true rfl) ?_
  show V _ _ 0 [some (.ref r), some (.int (nI p)), some (.int (nI q))] [] h
  refine V.iload_n dX3_tellsToward_0 rfl ?_
  refine V.iload_n dX3_tellsToward_1 rfl ?_
  refine V.icmp_eqN 47 dX3_tellsToward_2 (by decide) (by omega) (by omega) (fun hc1 => ?_) (fun hc1 => ?_)
  · skip
    refine V.iconst (v := nI 0) dX3_tellsToward_47 (by decide) ?_
    exact V.zret dX3_tellsToward_48 rfl (by first | exact vB_01 | decide) ⟨by first | (exfalso; omega) | (first | (rw [vB_t ⟨by omega, (eO_some hlt (by omega)).mp (by assumption)⟩]; rfl) | (rw [vB_f (fun z => z.1 (by omega))]; rfl) | (rw [vB_f (fun z => absurd ((eO_some hlt (by omega)).mpr z.2) (by assumption))]; rfl)), rfl⟩
  · skip
    refine V.aload_n dX3_tellsToward_5 rfl ?_
    refine V.get fX3_15 dX3_tellsToward_6 ho rfl ?_
    refine V.iload_n dX3_tellsToward_9 rfl ?_
    refine V.iald dX3_tellsToward_10 hx rfl (by omega) (ex _ (by omega)) ?_
    refine V.aload_n dX3_tellsToward_11 rfl ?_
    refine V.get fX3_15 dX3_tellsToward_12 ho rfl ?_
    refine V.iload_n dX3_tellsToward_15 rfl ?_
    refine V.iald dX3_tellsToward_16 hx rfl (by omega) (ex _ (by omega)) ?_
    refine V.toZ1 ?_
    refine V.toZ2 ?_
    refine V.isubZ dX3_tellsToward_17 ?_
    refine V.aload_n dX3_tellsToward_18 rfl ?_
    refine V.get fX3_18 dX3_tellsToward_19 ho rfl ?_
    refine V.iload_n dX3_tellsToward_22 rfl ?_
    refine V.iald dX3_tellsToward_23 hy rfl (by omega) (ey _ (by omega)) ?_
    refine V.aload_n dX3_tellsToward_24 rfl ?_
    refine V.get fX3_18 dX3_tellsToward_25 ho rfl ?_
    refine V.iload_n dX3_tellsToward_28 rfl ?_
    refine V.iald dX3_tellsToward_29 hy rfl (by omega) (ey _ (by omega)) ?_
    refine V.toZ1 ?_
    refine V.toZ2 ?_
    refine V.isubZ dX3_tellsToward_30 ?_
    refine V.callSp cX3_92 (e_wayBy g h _ _ (by omega) (by omega)) dX3_tellsToward_31 (Nat.le_of_ble_eq_true rfl) rfl rfl (Nat.le_of_ble_eq_true rfl) ?_
    refine V.aload_n dX3_tellsToward_34 rfl ?_
    refine V.get fX3_21 dX3_tellsToward_35 ho rfl ?_
    refine V.iload_n dX3_tellsToward_38 rfl ?_
    refine V.iald dX3_tellsToward_39 hv rfl (by omega) (ev _ (by omega)) ?_
    refine V.icmp_ne 47 dX3_tellsToward_40 (by decide) (fun hc2 => ?_) (fun hc2 => ?_)
    · skip
      refine V.iconst (v := nI 0) dX3_tellsToward_47 (by decide) ?_
      exact V.zret dX3_tellsToward_48 rfl (by first | exact vB_01 | decide) ⟨by first | (exfalso; omega) | (first | (rw [vB_t ⟨by omega, (eO_some hlt (by omega)).mp (by assumption)⟩]; rfl) | (rw [vB_f (fun z => z.1 (by omega))]; rfl) | (rw [vB_f (fun z => absurd ((eO_some hlt (by omega)).mpr z.2) (by assumption))]; rfl)), rfl⟩
    · skip
      refine V.iconst (v := nI 1) dX3_tellsToward_43 (by decide) ?_
      refine V.goto 48 dX3_tellsToward_44 (by decide) ?_
      exact V.zret dX3_tellsToward_48 rfl (by first | exact vB_01 | decide) ⟨by first | (exfalso; omega) | (first | (rw [vB_t ⟨by omega, (eO_some hlt (by omega)).mp (by assumption)⟩]; rfl) | (rw [vB_f (fun z => z.1 (by omega))]; rfl) | (rw [vB_f (fun z => absurd ((eO_some hlt (by omega)).mpr z.2) (by assumption))]; rfl)), rfl⟩
