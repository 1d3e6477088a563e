set_option maxHeartbeats 1000000 in
theorem e_pastClear (g : VG) (h : VHp) (b : Nat) (ps : List Rm) (hP : PastAt h b ps) : VE g mX1_clear 0 false (0, 0) [.ref b] h (fun v h' => v = none ∧ PastAt h' b [] ∧ VFr b (b + 50) h h') := by
  obtain ⟨nx, hn, hp, ho, ha, h4, h5⟩ := id hP
  refine VE.of (by decide) rfl (Nat.le_of_ble_eq_true rfl) ?_
  show V _ _ 0 [some (.ref b)] [] h
  refine V.aload_n dX1_clear_0 rfl ?_
  refine V.iconst (v := nI 0) dX1_clear_1 (by decide) ?_
  refine V.puti fX1_21 dX1_clear_2 ho (Nat.le_of_ble_eq_true rfl) ?_
  dsimp only [List.set]
  exact V.vret dX1_clear_5 rfl ⟨rfl, ⟨nx, hn, Nat.zero_le _, vset_eq ho, vset_ne ha (by omega), fun i hi => (h4 i hi).imp (fun Q q => q.keep (VFr.set (lo := b) (hi := b + 1) (Nat.le_refl _) (by omega)) (by omega)), fun j hj => absurd hj (Nat.not_lt_zero _)⟩, VFr.set (by omega) (by omega)⟩

set_option maxHeartbeats 1000000 in
theorem e_remember (g : VG) (h : VHp) (b r : Nat) (ps : List Rm) (S : Rm) (hP : PastAt h b ps) (hR : RoomAt h r S) (hd : r + 6 ≤ b ∨ b + 50 ≤ r) : VE g mX1_remember 2 false (0, 0) [.ref b, .ref r] h (fun v h' => v = none ∧ PastAt h' b ((S :: ps).take 8) ∧ VFr b (b + 50) h h') := by
  obtain ⟨nx, hn, hp, ho, ha, h4, h5⟩ := id hP
  obtain ⟨Q, hQ⟩ := h4 nx hn
  refine VE.of (by decide) rfl (Nat.le_of_ble_eq_true rfl) ?_
  show V _ _ 0 [some (.ref b), some (.ref r)] [] h
  refine V.aload_n dX1_remember_0 rfl ?_
  refine V.get fX1_11 dX1_remember_1 ho rfl ?_
  refine V.aload_n dX1_remember_4 rfl ?_
  refine V.get fX1_17 dX1_remember_5 ho rfl ?_
  refine V.aald dX1_remember_8 ha rfl (by omega) (prefs_at b _ (by omega)) ?_
  refine V.aload_n dX1_remember_9 rfl ?_
  refine V.callV (ci := 3) cX1_25 (e_copyFrom g h (b + 2 + 6 * nx) r Q S hQ hR (by omega)) dX1_remember_10 (Nat.le_of_ble_eq_true rfl) rfl (RoomAt.obj hQ) rfl rfl (Nat.le_of_ble_eq_true rfl) (fun v_ h_ hp_ => ?_)
  obtain ⟨rfl, hR1, hf1⟩ := hp_
  dsimp only [Option.toList, List.nil_append]
  replace ho := (hf1.2 b (by omega)).trans ho
  replace ha := (hf1.2 (b + 1) (by omega)).trans ha
  refine V.aload_n dX1_remember_13 rfl ?_
  refine V.aload_n dX1_remember_14 rfl ?_
  refine V.get fX1_17 dX1_remember_15 ho rfl ?_
  refine V.iconst (v := nI 1) dX1_remember_18 (by decide) ?_
  refine V.iaddN dX1_remember_19 ?_
  refine V.bipush (v := nI 8) dX1_remember_20 (by decide) ?_
  refine V.iremN dX1_remember_22 (by omega) (by omega) (by omega) ?_
  refine V.puti fX1_17 dX1_remember_23 ho (Nat.le_of_ble_eq_true rfl) ?_
  dsimp only [List.set]
  have hg := VFr.set (h := h_) (lo := b) (hi := b + 1) (a := b) (c := Sum.inr (Sum.inr (1, [Value.ref (b + 1), Value.int (nI ((nx + 1) % 8)), Value.int (nI (ps.length))]))) (by omega) (by omega)
  replace ho := vset_eq (c := Sum.inr (Sum.inr (1, [Value.ref (b + 1), Value.int (nI ((nx + 1) % 8)), Value.int (nI (ps.length))]))) ho
  replace ha := vset_ne (a := b) (c := Sum.inr (Sum.inr (1, [Value.ref (b + 1), Value.int (nI ((nx + 1) % 8)), Value.int (nI (ps.length))]))) ha (by omega)
  generalize List.set h_ b (Sum.inr (Sum.inr (1, [Value.ref (b + 1), Value.int (nI ((nx + 1) % 8)), Value.int (nI (ps.length))]))) = h2 at hg ho ha ⊢
  refine V.aload_n dX1_remember_26 rfl ?_
  refine V.aload_n dX1_remember_27 rfl ?_
  refine V.get fX1_21 dX1_remember_28 ho rfl ?_
  refine V.iconst (v := nI 1) dX1_remember_31 (by decide) ?_
  refine V.iaddN dX1_remember_32 ?_
  refine V.bipush (v := nI 8) dX1_remember_33 (by decide) ?_
  refine V.mmin jX1_29 dX1_remember_35 (Nat.le_of_ble_eq_true rfl) (Nat.le_of_ble_eq_true rfl) ?_
  refine V.re (nI_min (by omega) (by omega)) ?_
  refine V.puti fX1_21 dX1_remember_38 ho (Nat.le_of_ble_eq_true rfl) ?_
  dsimp only [List.set]
  have hg2 := VFr.set (h := h2) (lo := b) (hi := b + 1) (a := b) (c := Sum.inr (Sum.inr (1, [Value.ref (b + 1), Value.int (nI ((nx + 1) % 8)), Value.int (nI (min (ps.length + 1) 8))]))) (by omega) (by omega)
  have hg := hg.tr hg2
  obtain ⟨q1, q2⟩ := past_push hn hp h4 h5 hR1 hf1
  refine V.vret dX1_remember_41 rfl ⟨rfl, ⟨(nx + 1) % 8, by omega, by rw [take8_len]; omega, by rw [take8_len]; exact vset_eq ho, vset_ne ha (by omega), fun i hi => (q1 i hi).imp (fun Q q => q.keep hg (by omega)), fun j hj => (q2 j hj).keep hg (by omega)⟩, (hf1.wide (by omega) (by omega)).tr (hg.wide (by omega) (by omega))⟩

set_option maxHeartbeats 1000000 in
theorem e_restoreLatest (g : VG) (h : VHp) (b r : Nat) (ps : List Rm) (Q : Rm) (hP : PastAt h b ps) (hR : RoomAt h r Q) (hd : r + 6 ≤ b ∨ b + 50 ≤ r) (hl : 1 ≤ ps.length) : VE g mX1_restoreLatest 2 false (0, 0) [.ref b, .ref r] h (fun v h' => v = none ∧ RoomAt h' r (ps.getD 0 rClear) ∧ PastAt h' b ps.tail ∧ VFr2 b (b + 50) r (r + 6) h h') := by
  obtain ⟨nx, hn, hp, ho, ha, h4, h5⟩ := id hP
  refine VE.of (by decide) rfl (Nat.le_of_ble_eq_true rfl) ?_
  show V _ _ 0 [some (.ref b), some (.ref r)] [] h
  refine V.aload_n dX1_restoreLatest_0 rfl ?_
  refine V.get fX1_21 dX1_restoreLatest_1 ho rfl ?_
  refine V.iconst (v := nI 1) dX1_restoreLatest_4 (by decide) ?_
  refine V.icmp_geN 9 dX1_restoreLatest_5 (by decide) (by omega) (by omega) (fun hc1 => ?_) (fun hc1 => ?_)
  · skip
    refine V.aload_n dX1_restoreLatest_9 rfl ?_
    refine V.aload_n dX1_restoreLatest_10 rfl ?_
    refine V.get fX1_17 dX1_restoreLatest_11 ho rfl ?_
    refine V.bipush (v := nI 8) dX1_restoreLatest_14 (by decide) ?_
    refine V.iaddN dX1_restoreLatest_16 ?_
    refine V.iconst (v := nI 1) dX1_restoreLatest_17 (by decide) ?_
    refine V.isubN dX1_restoreLatest_18 (by omega) ?_
    refine V.bipush (v := nI 8) dX1_restoreLatest_19 (by decide) ?_
    refine V.iremN dX1_restoreLatest_21 (by omega) (by omega) (by omega) ?_
    refine V.re (y := nI ((nx + 7) % 8)) rfl ?_
    refine V.puti fX1_17 dX1_restoreLatest_22 ho (Nat.le_of_ble_eq_true rfl) ?_
    dsimp only [List.set]
    have hg := VFr.set (h := h) (lo := b) (hi := b + 1) (a := b) (c := Sum.inr (Sum.inr (1, [Value.ref (b + 1), Value.int (nI ((nx + 7) % 8)), Value.int (nI (ps.length))]))) (by omega) (by omega)
    replace ho := vset_eq (c := Sum.inr (Sum.inr (1, [Value.ref (b + 1), Value.int (nI ((nx + 7) % 8)), Value.int (nI (ps.length))]))) ho
    replace ha := vset_ne (a := b) (c := Sum.inr (Sum.inr (1, [Value.ref (b + 1), Value.int (nI ((nx + 7) % 8)), Value.int (nI (ps.length))]))) ha (by omega)
    generalize List.set h b (Sum.inr (Sum.inr (1, [Value.ref (b + 1), Value.int (nI ((nx + 7) % 8)), Value.int (nI (ps.length))]))) = h2 at hg ho ha ⊢
    replace hR := hR.keep hg (by omega)
    have hO : RoomAt h2 (b + 2 + 6 * ((nx + 7) % 8)) (ps.getD 0 rClear) := (h5 0 (by omega)).keep hg (by omega)
    refine V.aload_n dX1_restoreLatest_25 rfl ?_
    refine V.aload_n dX1_restoreLatest_26 rfl ?_
    refine V.get fX1_11 dX1_restoreLatest_27 ho rfl ?_
    refine V.aload_n dX1_restoreLatest_30 rfl ?_
    refine V.get fX1_17 dX1_restoreLatest_31 ho rfl ?_
    refine V.aald dX1_restoreLatest_34 ha rfl (by omega) (prefs_at b _ (by omega)) ?_
    refine V.callV (ci := 3) cX1_25 (e_copyFrom g h2 r (b + 2 + 6 * ((nx + 7) % 8)) Q (ps.getD 0 rClear) hR hO (by omega)) dX1_restoreLatest_35 (Nat.le_of_ble_eq_true rfl) rfl (RoomAt.obj hR) rfl rfl (Nat.le_of_ble_eq_true rfl) (fun v_ h_ hp_ => ?_)
    obtain ⟨rfl, hR1, hf1⟩ := hp_
    dsimp only [Option.toList, List.nil_append]
    replace ho := (hf1.2 b (by omega)).trans ho
    replace ha := (hf1.2 (b + 1) (by omega)).trans ha
    refine V.aload_n dX1_restoreLatest_38 rfl ?_
    refine V.dup dX1_restoreLatest_39 rfl ?_
    refine V.get fX1_21 dX1_restoreLatest_40 ho rfl ?_
    refine V.iconst (v := nI 1) dX1_restoreLatest_43 (by decide) ?_
    refine V.isubN dX1_restoreLatest_44 (by omega) ?_
    refine V.puti fX1_21 dX1_restoreLatest_45 ho (Nat.le_of_ble_eq_true rfl) ?_
    dsimp only [List.set]
    have hg2 := VFr.set (h := h_) (lo := b) (hi := b + 1) (a := b) (c := Sum.inr (Sum.inr (1, [Value.ref (b + 1), Value.int (nI ((nx + 7) % 8)), Value.int (nI (ps.length - 1))]))) (by omega) (by omega)
    have hlen : ps.tail.length = ps.length - 1 := List.length_tail
    refine V.vret dX1_restoreLatest_48 rfl ⟨rfl, hR1.keep hg2 (by omega), ⟨(nx + 7) % 8, by omega, by rw [hlen]; omega, by rw [hlen]; exact vset_eq ho, vset_ne ha (by omega), fun i hi => (h4 i hi).imp (fun Q q => ((q.keep hg (by omega)).keep hf1 (by omega)).keep hg2 (by omega)), fun j hj => (((past_pop hn hp h5 j hj).keep hg (by omega)).keep hf1 (by omega)).keep hg2 (by omega)⟩, hg2.1.trans (hf1.1.trans hg.1), fun q a1 a2 => by rw [hg2.2 q (by omega), hf1.2 q (by omega), hg.2 q (by omega)]⟩
  · exact absurd hc1 (by omega)
