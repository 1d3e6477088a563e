set_option maxHeartbeats 1000000 in
theorem e_append (g : VG) (h : VHp) (t : Nat) (tx : List Nat) (hT : TextAt h t tx) (c : Nat) (hl : tx.length < 200) : VE g mX6_append 0 false (0, 0) [.ref t, .int (nI c)] h (fun v h' => v = none ∧ TextAt h' t (tx ++ [c]) ∧ VFr t (t + 2) h h') := by
  obtain ⟨lt, ho, ha, la, ln, et⟩ := id hT
  refine VE.of (by decide) rfl (Nat.le_of_ble_eq_true rfl) ?_
  show V _ _ 0 [some (.ref t), some (.int (nI c))] [] h
  refine V.aload_n dX6_append_0 rfl ?_
  refine V.get fX6_15 dX6_append_1 ho rfl ?_
  refine V.sipush (v := nI 200) dX6_append_4 (by decide) ?_
  refine V.icmp_geN 30 dX6_append_7 (by decide) (by omega) (by omega) (fun hc1 => ?_) (fun hc1 => ?_)
  · exact absurd hc1 (by omega)
  · skip
    refine V.aload_n dX6_append_10 rfl ?_
    refine V.get fX6_9 dX6_append_11 ho rfl ?_
    refine V.aload_n dX6_append_14 rfl ?_
    refine V.get fX6_15 dX6_append_15 ho rfl ?_
    refine V.iload_n dX6_append_18 rfl ?_
    refine V.iast dX6_append_19 ha rfl (by omega) (by omega) ?_
    generalize eh1 : h.set (t + 1) (Sum.inl (lt.set tx.length (nI c))) = h1
    have ho1 : h1[t]? = some (.inr (.inr (6, [.ref (t + 1), .int (nI tx.length)]))) := by rw [← eh1]; exact vset_ne ho (by omega)
    have ha1 : h1[t + 1]? = some (.inl (lt.set tx.length (nI c))) := by rw [← eh1]; exact vset_eq ha
    have hf1 : VFr t (t + 2) h h1 := by rw [← eh1]; exact VFr.set (by omega) (by omega)
    have ho := ho1
    refine V.aload_n dX6_append_20 rfl ?_
    refine V.dup dX6_append_21 rfl ?_
    refine V.get fX6_15 dX6_append_22 ho rfl ?_
    refine V.iconst (v := nI 1) dX6_append_25 (by decide) ?_
    refine V.iaddN dX6_append_26 ?_
    refine V.puti fX6_15 dX6_append_27 ho (Nat.le_of_ble_eq_true rfl) ?_
    dsimp only [List.set]
    refine V.vret dX6_append_30 rfl ⟨rfl, ⟨lt.set tx.length (nI c), ?_, ?_, by rw [List.length_set]; exact la, by rw [List.length_append]; simp only [List.length_cons, List.length_nil]; omega, text_app et (by omega)⟩, hf1.tr (VFr.set (by omega) (by omega))⟩
    · rw [List.length_append]; exact vset_eq ho1
    · exact vset_ne ha1 (by omega)

set_option maxHeartbeats 1000000 in
theorem e_textClear (g : VG) (h : VHp) (t : Nat) (tx : List Nat) (hT : TextAt h t tx) : VE g mX6_clear 0 false (0, 0) [.ref t] h (fun v h' => v = none ∧ TextAt h' t [] ∧ VFr t (t + 2) h h') := by
  obtain ⟨lt, ho, ha, la, ln, et⟩ := id hT
  refine VE.of (by decide) rfl (Nat.le_of_ble_eq_true rfl) ?_
  show V _ _ 0 [some (.ref t)] [] h
  refine V.aload_n dX6_clear_0 rfl ?_
  refine V.iconst (v := nI 0) dX6_clear_1 (by decide) ?_
  refine V.puti fX6_15 dX6_clear_2 ho (Nat.le_of_ble_eq_true rfl) ?_
  dsimp only [List.set]
  exact V.vret dX6_clear_5 rfl ⟨rfl, ⟨lt, vset_eq ho, vset_ne ha (by omega), la, Nat.zero_le _, fun i hi => absurd hi (Nat.not_lt_zero _)⟩, VFr.set (by omega) (by omega)⟩

set_option maxHeartbeats 1000000 in
theorem e_letterAt (g : VG) (h : VHp) (t : Nat) (tx : List Nat) (hT : TextAt h t tx) (i : Nat) (hi : i < 1000) : VE g mX6_letterAt 1 false (0, 0) [.ref t, .int (nI i)] h (VP (eO (chF tx i)) h) := by
  obtain ⟨lt, ho, ha, la, ln, et⟩ := id hT
  refine VE.of (by decide) rfl (Nat.le_of_ble_eq_true rfl) ?_
  show V _ _ 0 [some (.ref t), some (.int (nI i))] [] h
  refine V.iload_n dX6_letterAt_0 rfl ?_
  refine V.aload_n dX6_letterAt_1 rfl ?_
  refine V.get fX6_15 dX6_letterAt_2 ho rfl ?_
  refine V.toZ1 ?_
  refine V.toZ2 ?_
  refine V.callSp cX6_19 (e_isBelow g h _ _ (by omega) (by omega)) dX6_letterAt_5 (Nat.le_of_ble_eq_true rfl) rfl rfl (Nat.le_of_ble_eq_true rfl) ?_
  refine V.if_eqB 20 dX6_letterAt_8 (by decide) (fun hc1 => ?_) (fun hc1 => ?_)
  · skip
    refine V.bipush (v := iI (-4)) dX6_letterAt_20 (by decide) ?_
    exact V.iret dX6_letterAt_22 rfl ⟨by first | (exfalso; omega) | (first | (rw [show chF tx i = some (tx.getD i 0) from if_pos (by omega)]; rfl) | (rw [show chF tx i = none from if_neg (by omega)]; rfl)), rfl⟩
  · skip
    refine V.aload_n dX6_letterAt_11 rfl ?_
    refine V.get fX6_9 dX6_letterAt_12 ho rfl ?_
    refine V.iload_n dX6_letterAt_15 rfl ?_
    refine V.iald dX6_letterAt_16 ha rfl (by omega) (et _ (by omega)) ?_
    refine V.goto 22 dX6_letterAt_17 (by decide) ?_
    exact V.iret dX6_letterAt_22 rfl ⟨by first | (exfalso; omega) | (first | (rw [show chF tx i = some (tx.getD i 0) from if_pos (by omega)]; rfl) | (rw [show chF tx i = none from if_neg (by omega)]; rfl)), rfl⟩

set_option maxHeartbeats 1000000 in
theorem e_isFigure (g : VG) (h : VHp) (t : Nat) (tx : List Nat) (hT : TextAt h t tx) (hK : TxOk tx) (i : Nat) (hi : i < 1000) : VE g mX6_isFigure 2 false (0, 0) [.ref t, .int (nI i)] h (VP (vB (figF (chF tx i))) h) := by
  obtain ⟨lt, ho, ha, la, ln, et⟩ := id hT
  have hch := e_letterAt g h t tx hT i hi
  have hb := chF_bd hK (i := i)
  refine VE.of (by decide) rfl (Nat.le_of_ble_eq_true rfl) ?_
  generalize chF tx i = o at hch hb ⊢
  cases o with
  | none =>
    show V _ _ 0 [some (.ref t), some (.int (nI i)), none] [] h
    refine V.aload_n dX6_isFigure_0 rfl ?_
    refine V.iload_n dX6_isFigure_1 rfl ?_
    refine V.callVp (ci := 6) cX6_23 (hch) dX6_isFigure_2 (Nat.le_of_ble_eq_true rfl) rfl ho rfl rfl (Nat.le_of_ble_eq_true rfl) ?_
    refine V.istore_n (i := 2) dX6_isFigure_5 rfl rfl rfl ?_
    dsimp only [List.set]
    refine V.iload_n dX6_isFigure_6 rfl ?_
    refine V.bipush (v := nI 48) dX6_isFigure_7 (by decide) ?_
    refine V.toZ1 ?_
    refine V.icmp_ltZ 22 dX6_isFigure_9 (by decide) (by omega) (by omega) (fun hc1 => ?_) (fun hc1 => ?_)
    · skip
      refine V.iconst (v := nI 0) dX6_isFigure_22 (by decide) ?_
      exact V.zret dX6_isFigure_23 rfl (by first | exact vB_01 | decide) ⟨by first | (exfalso; omega) | (rw [vB_f (by simp [figF])]; rfl), rfl⟩
    · skip
      refine V.iload_n dX6_isFigure_12 rfl ?_
      refine V.bipush (v := nI 57) dX6_isFigure_13 (by decide) ?_
      refine V.toZ1 ?_
      refine V.icmp_gtZ 22 dX6_isFigure_15 (by decide) (by omega) (by omega) (fun hc2 => ?_) (fun hc2 => ?_)
      · skip
        refine V.iconst (v := nI 0) dX6_isFigure_22 (by decide) ?_
        exact V.zret dX6_isFigure_23 rfl (by first | exact vB_01 | decide) ⟨by first | (exfalso; omega) | (rw [vB_f (by simp [figF])]; rfl), rfl⟩
      · skip
        refine V.iconst (v := nI 1) dX6_isFigure_18 (by decide) ?_
        refine V.goto 23 dX6_isFigure_19 (by decide) ?_
        exact V.zret dX6_isFigure_23 rfl (by first | exact vB_01 | decide) ⟨by first | (exfalso; omega) | (rw [vB_f (by simp [figF])]; rfl), rfl⟩
  | some c =>
    have hb := hb c rfl
    show V _ _ 0 [some (.ref t), some (.int (nI i)), none] [] h
    refine V.aload_n dX6_isFigure_0 rfl ?_
    refine V.iload_n dX6_isFigure_1 rfl ?_
    refine V.callVp (ci := 6) cX6_23 (hch) dX6_isFigure_2 (Nat.le_of_ble_eq_true rfl) rfl ho rfl rfl (Nat.le_of_ble_eq_true rfl) ?_
    refine V.istore_n (i := 2) dX6_isFigure_5 rfl rfl rfl ?_
    dsimp only [List.set]
    refine V.iload_n dX6_isFigure_6 rfl ?_
    refine V.bipush (v := nI 48) dX6_isFigure_7 (by decide) ?_
    refine V.icmp_ltN 22 dX6_isFigure_9 (by decide) (by omega) (by omega) (fun hc1 => ?_) (fun hc1 => ?_)
    · skip
      refine V.iconst (v := nI 0) dX6_isFigure_22 (by decide) ?_
      exact V.zret dX6_isFigure_23 rfl (by first | exact vB_01 | decide) ⟨by first | (exfalso; omega) | (first | (rw [vB_t (show figF (some c) from (show 48 ≤ c ∧ c ≤ 57 from by omega))]; rfl) | (rw [vB_f (show ¬ figF (some c) from (show ¬ (48 ≤ c ∧ c ≤ 57) from by omega))]; rfl)), rfl⟩
    · skip
      refine V.iload_n dX6_isFigure_12 rfl ?_
      refine V.bipush (v := nI 57) dX6_isFigure_13 (by decide) ?_
      refine V.icmp_gtN 22 dX6_isFigure_15 (by decide) (by omega) (by omega) (fun hc2 => ?_) (fun hc2 => ?_)
      · skip
        refine V.iconst (v := nI 0) dX6_isFigure_22 (by decide) ?_
        exact V.zret dX6_isFigure_23 rfl (by first | exact vB_01 | decide) ⟨by first | (exfalso; omega) | (first | (rw [vB_t (show figF (some c) from (show 48 ≤ c ∧ c ≤ 57 from by omega))]; rfl) | (rw [vB_f (show ¬ figF (some c) from (show ¬ (48 ≤ c ∧ c ≤ 57) from by omega))]; rfl)), rfl⟩
      · skip
        refine V.iconst (v := nI 1) dX6_isFigure_18 (by decide) ?_
        refine V.goto 23 dX6_isFigure_19 (by decide) ?_
        exact V.zret dX6_isFigure_23 rfl (by first | exact vB_01 | decide) ⟨by first | (exfalso; omega) | (first | (rw [vB_t (show figF (some c) from (show 48 ≤ c ∧ c ≤ 57 from by omega))]; rfl) | (rw [vB_f (show ¬ figF (some c) from (show ¬ (48 ≤ c ∧ c ≤ 57) from by omega))]; rfl)), rfl⟩

set_option maxHeartbeats 1000000 in
theorem e_sightsClear (g : VG) (h : VHp) (t : Nat) (ns : List Nt) (hT : SightsAt h t ns) : VE g mX5_clear 0 false (0, 0) [.ref t] h (fun v h' => v = none ∧ SightsAt h' t [] ∧ VFr t (t + 4) h h') := by
  obtain ⟨wh, hb, wy, ho, h1, h2, h3, l1, l2, l3, ln, e1, e2, e3⟩ := id hT
  refine VE.of (by decide) rfl (Nat.le_of_ble_eq_true rfl) ?_
  show V _ _ 0 [some (.ref t)] [] h
  refine V.aload_n dX5_clear_0 rfl ?_
  refine V.iconst (v := nI 0) dX5_clear_1 (by decide) ?_
  refine V.puti fX5_21 dX5_clear_2 ho (Nat.le_of_ble_eq_true rfl) ?_
  dsimp only [List.set]
  exact V.vret dX5_clear_5 rfl ⟨rfl, ⟨wh, hb, wy, vset_eq ho, vset_ne h1 (by omega), vset_ne h2 (by omega), vset_ne h3 (by omega), l1, l2, l3, Nat.zero_le _, fun i hi => absurd hi (Nat.not_lt_zero _), fun i hi => absurd hi (Nat.not_lt_zero _), fun i hi => absurd hi (Nat.not_lt_zero _)⟩, VFr.set (by omega) (by omega)⟩

set_option maxHeartbeats 1000000 in
theorem e_sightsAdd (g : VG) (h : VHp) (t : Nat) (ns : List Nt) (hT : SightsAt h t ns) (p n w : Nat) (hl : ns.length < 6) : VE g mX5_add 0 false (0, 0) [.ref t, .int (nI p), .int (nI n), .int (nI w)] h (fun v h' => v = none ∧ SightsAt h' t (ns ++ [(p, n, w)]) ∧ VFr t (t + 4) h h') := by
  obtain ⟨wh, hb, wy, ho, h1, h2, h3, l1, l2, l3, ln, e1, e2, e3⟩ := id hT
  have hf : VFr t (t + 4) h h := VFr.rf
  refine VE.of (by decide) rfl (Nat.le_of_ble_eq_true rfl) ?_
  show V _ _ 0 [some (.ref t), some (.int (nI p)), some (.int (nI n)), some (.int (nI w))] [] h
  refine V.aload_n dX5_add_0 rfl ?_
  refine V.get fX5_21 dX5_add_1 ho rfl ?_
  refine V.bipush (v := nI 6) dX5_add_4 (by decide) ?_
  refine V.icmp_ltN 10 dX5_add_6 (by decide) (by omega) (by omega) (fun hc1 => ?_) (fun hc1 => ?_)
  · skip
    refine V.aload_n dX5_add_10 rfl ?_
    refine V.get fX5_9 dX5_add_11 ho rfl ?_
    refine V.aload_n dX5_add_14 rfl ?_
    refine V.get fX5_21 dX5_add_15 ho rfl ?_
    refine V.iload_n dX5_add_18 rfl ?_
    refine V.iast dX5_add_19 h1 rfl (by omega) (by omega) ?_
    generalize eh : h.set (t + 1) (Sum.inl (wh.set ns.length (nI p))) = h9
    have hf := hf.tr (show VFr t (t + 4) h h9 from by rw [← eh]; exact VFr.set (by omega) (by omega))
    replace ho : h9[t]? = some (.inr (.inr (5, [.ref (t + 1), .ref (t + 2), .ref (t + 3), .int (nI ns.length)]))) := by rw [← eh]; exact vset_ne ho (by omega)
    replace h1 : h9[t + 1]? = some (.inl (wh.set ns.length (nI p))) := by rw [← eh]; exact vset_eq h1
    replace h2 : h9[t + 2]? = some (.inl hb) := by rw [← eh]; exact vset_ne h2 (by omega)
    replace h3 : h9[t + 3]? = some (.inl wy) := by rw [← eh]; exact vset_ne h3 (by omega)
    clear eh
    obtain ⟨h, rfl⟩ : ∃ z, z = h9 := ⟨_, rfl⟩
    refine V.aload_n dX5_add_20 rfl ?_
    refine V.get fX5_15 dX5_add_21 ho rfl ?_
    refine V.aload_n dX5_add_24 rfl ?_
    refine V.get fX5_21 dX5_add_25 ho rfl ?_
    refine V.iload_n dX5_add_28 rfl ?_
    refine V.iast dX5_add_29 h2 rfl (by omega) (by omega) ?_
    generalize eh : h.set (t + 2) (Sum.inl (hb.set ns.length (nI n))) = h9
    have hf := hf.tr (show VFr t (t + 4) h h9 from by rw [← eh]; exact VFr.set (by omega) (by omega))
    replace ho : h9[t]? = some (.inr (.inr (5, [.ref (t + 1), .ref (t + 2), .ref (t + 3), .int (nI ns.length)]))) := by rw [← eh]; exact vset_ne ho (by omega)
    replace h1 : h9[t + 1]? = some (.inl (wh.set ns.length (nI p))) := by rw [← eh]; exact vset_ne h1 (by omega)
    replace h2 : h9[t + 2]? = some (.inl (hb.set ns.length (nI n))) := by rw [← eh]; exact vset_eq h2
    replace h3 : h9[t + 3]? = some (.inl wy) := by rw [← eh]; exact vset_ne h3 (by omega)
    clear eh
    obtain ⟨h, rfl⟩ : ∃ z, z = h9 := ⟨_, rfl⟩
    refine V.aload_n dX5_add_30 rfl ?_
    refine V.get fX5_18 dX5_add_31 ho rfl ?_
    refine V.aload_n dX5_add_34 rfl ?_
    refine V.get fX5_21 dX5_add_35 ho rfl ?_
    refine V.iload_n dX5_add_38 rfl ?_
    refine V.iast dX5_add_39 h3 rfl (by omega) (by omega) ?_
    generalize eh : h.set (t + 3) (Sum.inl (wy.set ns.length (nI w))) = h9
    have hf := hf.tr (show VFr t (t + 4) h h9 from by rw [← eh]; exact VFr.set (by omega) (by omega))
    replace ho : h9[t]? = some (.inr (.inr (5, [.ref (t + 1), .ref (t + 2), .ref (t + 3), .int (nI ns.length)]))) := by rw [← eh]; exact vset_ne ho (by omega)
    replace h1 : h9[t + 1]? = some (.inl (wh.set ns.length (nI p))) := by rw [← eh]; exact vset_ne h1 (by omega)
    replace h2 : h9[t + 2]? = some (.inl (hb.set ns.length (nI n))) := by rw [← eh]; exact vset_ne h2 (by omega)
    replace h3 : h9[t + 3]? = some (.inl (wy.set ns.length (nI w))) := by rw [← eh]; exact vset_eq h3
    clear eh
    obtain ⟨h, rfl⟩ : ∃ z, z = h9 := ⟨_, rfl⟩
    refine V.aload_n dX5_add_40 rfl ?_
    refine V.dup dX5_add_41 rfl ?_
    refine V.get fX5_21 dX5_add_42 ho rfl ?_
    refine V.iconst (v := nI 1) dX5_add_45 (by decide) ?_
    refine V.iaddN dX5_add_46 ?_
    refine V.puti fX5_21 dX5_add_47 ho (Nat.le_of_ble_eq_true rfl) ?_
    dsimp only [List.set]
    refine V.vret dX5_add_50 rfl ⟨rfl, ⟨wh.set ns.length (nI p), hb.set ns.length (nI n), wy.set ns.length (nI w), ?_, vset_ne h1 (by omega), vset_ne h2 (by omega), vset_ne h3 (by omega), by rw [List.length_set]; exact l1, by rw [List.length_set]; exact l2, by rw [List.length_set]; exact l3, by rw [List.length_append]; simp only [List.length_cons, List.length_nil]; omega, note_app (f := fun c => c.1) (c := (p, n, w)) e1 (by omega), note_app (f := fun c => c.2.1) (c := (p, n, w)) e2 (by omega), note_app (f := fun c => c.2.2) (c := (p, n, w)) e3 (by omega)⟩, hf.tr (VFr.set (by omega) (by omega))⟩
    rw [List.length_append]; exact vset_eq ho
  · exact absurd hc1 (by omega)

set_option maxHeartbeats 1000000 in
theorem e_wouldHold (g : VG) (h : VHp) (t : Nat) (ns : List Nt) (hT : SightsAt h t ns) (p kd told : Nat) (d : Option Nat) (hN : NtOk ns) (hp : p < 6) (hk : kd < 4) (ht : told < 8) (hd : ∀ w, d = some w → w < 8) : VE g mX5_wouldHold 3 false (0, 0) [.ref t, .int (nI p), .int (nI kd), .int (nI told), .int (eO d)] h (VP (vB (holdF ns p kd told d)) h) := by
  obtain ⟨wh, hb, wy, ho, h1, h2, h3, l1, l2, l3, ln, e1, e2, e3⟩ := id hT
  refine VE.of (by decide) rfl (Nat.le_of_ble_eq_true rfl) ?_
  have L : ∀ i, i ≤ ns.length → (∀ j, j < i → (ns.getD j (0, 0, 0)).1 = p → itF kd d told (ns.getD j (0, 0, 0)).2.1 = (ns.getD j (0, 0, 0)).2.2) → V (g, mX5_wouldHold, 3, false, h.length, VP (vB (holdF ns p kd told d)) h) (0, 0) 3 [some (.ref t), some (.int (nI p)), some (.int (nI kd)), some (.int (nI told)), some (.int (eO d)), some (.int (nI i))] [] h := by
    refine vloop (ns.length) (fun i ih hi => ?_)
    intro hall
    refine V.iload dX5_wouldHold_3 rfl ?_
    refine V.aload_n dX5_wouldHold_5 rfl ?_
    refine V.get fX5_21 dX5_wouldHold_6 ho rfl ?_
    refine V.icmp_geN 55 dX5_wouldHold_9 (by decide) (by omega) (by omega) (fun hc1 => ?_) (fun hc1 => ?_)
    · skip
      refine V.iconst (v := nI 1) dX5_wouldHold_55 (by decide) ?_
      exact V.zret dX5_wouldHold_56 rfl (by first | exact vB_01 | decide) ⟨by first | (exfalso; omega) | (first | (rw [vB_t (fun j hj => hall j (by omega))]; rfl) | (rw [vB_f (fun q => absurd (q i (by omega) (by omega)) (by omega))]; rfl)), rfl⟩
    · skip
      have bi := hN.2 i hc1
      have bt := itF_lt (kd := kd) ht hd (ns.getD i (0, 0, 0)).2.1
      refine V.aload_n dX5_wouldHold_12 rfl ?_
      refine V.get fX5_9 dX5_wouldHold_13 ho rfl ?_
      refine V.iload dX5_wouldHold_16 rfl ?_
      refine V.iald dX5_wouldHold_18 h1 rfl (by omega) (e1 _ (by omega)) ?_
      refine V.iload_n dX5_wouldHold_19 rfl ?_
      refine V.icmp_neN 49 dX5_wouldHold_20 (by decide) (by omega) (by omega) (fun hc2 => ?_) (fun hc2 => ?_)
      · skip
        refine V.iincN (n := 1) dX5_wouldHold_49 rfl rfl rfl ?_
        dsimp only [List.set]
        refine V.goto 3 dX5_wouldHold_52 (by decide) ?_
        exact ih (i + 1) (by omega) (by omega) (lt_s hall (fun z => by omega))
      · skip
        refine V.iload_n dX5_wouldHold_23 rfl ?_
        refine V.iload_n dX5_wouldHold_24 rfl ?_
        refine V.iload dX5_wouldHold_25 rfl ?_
        refine V.aload_n dX5_wouldHold_27 rfl ?_
        refine V.get fX5_15 dX5_wouldHold_28 ho rfl ?_
        refine V.iload dX5_wouldHold_31 rfl ?_
        refine V.iald dX5_wouldHold_33 h2 rfl (by omega) (e2 _ (by omega)) ?_
        refine V.callSp cX5_25 (e_toldBehind g h kd told d (ns.getD i (0, 0, 0)).2.1 hk ht hd (by omega)) dX5_wouldHold_34 (Nat.le_of_ble_eq_true rfl) rfl rfl (Nat.le_of_ble_eq_true rfl) ?_
        refine V.aload_n dX5_wouldHold_37 rfl ?_
        refine V.get fX5_18 dX5_wouldHold_38 ho rfl ?_
        refine V.iload dX5_wouldHold_41 rfl ?_
        refine V.iald dX5_wouldHold_43 h3 rfl (by omega) (e3 _ (by omega)) ?_
        refine V.icmp_eqN 49 dX5_wouldHold_44 (by decide) (by omega) (by omega) (fun hc3 => ?_) (fun hc3 => ?_)
        · skip
          refine V.iincN (n := 1) dX5_wouldHold_49 rfl rfl rfl ?_
          dsimp only [List.set]
          refine V.goto 3 dX5_wouldHold_52 (by decide) ?_
          exact ih (i + 1) (by omega) (by omega) (lt_s hall (fun z => by omega))
        · skip
          refine V.iconst (v := nI 0) dX5_wouldHold_47 (by decide) ?_
          exact V.zret dX5_wouldHold_48 rfl (by first | exact vB_01 | decide) ⟨by first | (exfalso; omega) | (first | (rw [vB_t (fun j hj => hall j (by omega))]; rfl) | (rw [vB_f (fun q => absurd (q i (by omega) (by omega)) (by omega))]; rfl)), rfl⟩
  show V _ _ 0 [some (.ref t), some (.int (nI p)), some (.int (nI kd)), some (.int (nI told)), some (.int (eO d)), none] [] h
  refine V.iconst (v := nI 0) dX5_wouldHold_0 (by decide) ?_
  refine V.istore dX5_wouldHold_1 rfl rfl ?_
  dsimp only [List.set]
  exact L 0 (by omega) (fun j hj => absurd hj (Nat.not_lt_zero _))
