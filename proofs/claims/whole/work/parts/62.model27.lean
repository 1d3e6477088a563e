def MLy (m : Nat) (F : MF) (A : MA) (h : VHp) : VPost := fun v h' => v = none ∧ MRaw h' m (upF (upF (upF F 1 (nI 0)) 2 (nI 0)) 3 (nI 0)) (upA (upA A 2 (A 3)) 5 (A 4)) ∧ VFr m (m + 12) h h'

set_option maxHeartbeats 1000000 in
theorem m_lays (g : VG) (h : VHp) (m : Nat) (F : MF) (A : MA) (hM : MRaw h m F A) : VE g mX8_lays 0 false (0, 0) [.ref m] h (MLy m F A h) := by
  refine VE.of (by decide) rfl (Nat.le_of_ble_eq_true rfl) ?_
  have L2 : ∀ k, k ≤ 55 → ∀ (h1 : VHp) (z : List Int32), MRaw h1 m F (upA (upA A 2 (A 3)) 5 z) → z.length = 55 → (∀ j, j < k → z[j]? = (A 4)[j]?) → VFr m (m + 12) h h1 → V (g, mX8_lays, 0, false, h.length, MLy m F A h) (0, 0) 28 [some (.ref m), some (.int (nI k))] [] h1 := by
    refine vloop 55 (fun k ih hi => ?_)
    intro h1 z hM1 hz hcp hf
    obtain ⟨ho, hA⟩ := id hM1
    have hsl : (A 4).length = 55 := (hM.2 4 (by omega) (by omega)).2
    have hds := (hA 5 (by omega) (by omega)).1
    rw [upA_s] at hds
    have hsr := (hA 4 (by omega) (by omega)).1
    rw [upA_n (by omega), upA_n (by omega)] at hsr
    refine V.iload_n dX8_lays_28 rfl ?_
    refine V.bipush (v := nI 55) dX8_lays_29 (by decide) ?_
    refine V.icmp_geN 52 dX8_lays_31 (by decide) (by omega) (by omega) (fun hc1 => ?_) (fun hc1 => ?_)
    · skip
      refine V.aload_n dX8_lays_52 rfl ?_
      refine V.iconst (v := nI 0) dX8_lays_53 (by decide) ?_
      refine V.puti fX8_90 dX8_lays_54 ho (Nat.le_of_ble_eq_true rfl) ?_
      dsimp only [List.set]
      have ho5 := vset_eq (c := Sum.inr (Sum.inr (8, [Value.ref (m + 1), Value.int (F 0), Value.ref (m + 2), Value.ref (m + 3), Value.ref (m + 4), Value.ref (m + 5), Value.ref (m + 6), Value.int (nI 0), Value.ref (m + 7), Value.int (F 2), Value.ref (m + 8), Value.int (F 3), Value.int (F 4), Value.ref (m + 9), Value.ref (m + 10), Value.ref (m + 11)]))) ho
      refine V.aload_n dX8_lays_57 rfl ?_
      refine V.iconst (v := nI 0) dX8_lays_58 (by decide) ?_
      refine V.puti fX8_93 dX8_lays_59 ho5 (Nat.le_of_ble_eq_true rfl) ?_
      dsimp only [List.set]
      have ho6 := vset_eq (c := Sum.inr (Sum.inr (8, [Value.ref (m + 1), Value.int (F 0), Value.ref (m + 2), Value.ref (m + 3), Value.ref (m + 4), Value.ref (m + 5), Value.ref (m + 6), Value.int (nI 0), Value.ref (m + 7), Value.int (nI 0), Value.ref (m + 8), Value.int (F 3), Value.int (F 4), Value.ref (m + 9), Value.ref (m + 10), Value.ref (m + 11)]))) ho5
      refine V.aload_n dX8_lays_62 rfl ?_
      refine V.iconst (v := nI 0) dX8_lays_63 (by decide) ?_
      refine V.puti fX8_96 dX8_lays_64 ho6 (Nat.le_of_ble_eq_true rfl) ?_
      dsimp only [List.set]
      obtain rfl : k = 55 := (by omega)
      have ez := cp_end hcp hz hsl
      subst ez
      exact V.vret dX8_lays_67 rfl ⟨rfl, MRaw.f3 (MRaw.f2 (MRaw.f1 hM1 (nI 0)) (nI 0)) (nI 0), ((hf.tr (VFr.set (by omega) (by omega))).tr (VFr.set (by omega) (by omega))).tr (VFr.set (by omega) (by omega))⟩
    · skip
      refine V.aload_n dX8_lays_34 rfl ?_
      refine V.get fX8_22 dX8_lays_35 ho rfl ?_
      refine V.iload_n dX8_lays_38 rfl ?_
      refine V.aload_n dX8_lays_39 rfl ?_
      refine V.get fX8_19 dX8_lays_40 ho rfl ?_
      refine V.iload_n dX8_lays_43 rfl ?_
      refine V.iald dX8_lays_44 hsr rfl (by omega) (getD_some (by omega)) ?_
      refine V.iast dX8_lays_45 hds rfl (by omega) (by omega) ?_
      refine V.iincN (n := 1) dX8_lays_46 rfl rfl rfl ?_
      dsimp only [List.set]
      refine V.goto 28 dX8_lays_49 (by decide) ?_
      exact ih (k + 1) (by omega) (by omega) _ (z.set k ((A 4).getD k 0)) (by have q := MRaw.set hM1 5 (by omega) (by omega) (z.set k ((A 4).getD k 0)) (by rw [List.length_set, hz]; rfl); rw [upA_upA] at q; exact q) (by rw [List.length_set]; exact hz) (cp_step hcp (by omega) (by omega)) (hf.tr (VFr.set (by omega) (by omega)))
  have L1 : ∀ k, k ≤ 9 → ∀ (h1 : VHp) (z : List Int32), MRaw h1 m F (upA A 2 z) → z.length = 9 → (∀ j, j < k → z[j]? = (A 3)[j]?) → VFr m (m + 12) h h1 → V (g, mX8_lays, 0, false, h.length, MLy m F A h) (0, 0) 2 [some (.ref m), some (.int (nI k))] [] h1 := by
    refine vloop 9 (fun k ih hi => ?_)
    intro h1 z hM1 hz hcp hf
    obtain ⟨ho, hA⟩ := id hM1
    have hsl : (A 3).length = 9 := (hM.2 3 (by omega) (by omega)).2
    have hds := (hA 2 (by omega) (by omega)).1
    rw [upA_s] at hds
    have hsr := (hA 3 (by omega) (by omega)).1
    rw [upA_n (by omega)] at hsr
    refine V.iload_n dX8_lays_2 rfl ?_
    refine V.bipush (v := nI 9) dX8_lays_3 (by decide) ?_
    refine V.icmp_geN 26 dX8_lays_5 (by decide) (by omega) (by omega) (fun hc1 => ?_) (fun hc1 => ?_)
    · skip
      refine V.iconst (v := nI 0) dX8_lays_26 (by decide) ?_
      refine V.istore_n (i := 1) dX8_lays_27 rfl rfl rfl ?_
      dsimp only [List.set]
      obtain rfl : k = 9 := (by omega)
      have ez := cp_end hcp hz hsl
      subst ez
      exact L2 0 (by omega) h1 (upA A 2 (A 3) 5) (by rw [upA_id]; exact hM1) (hA 5 (by omega) (by omega)).2 (fun j hj => absurd hj (Nat.not_lt_zero _)) hf
    · skip
      refine V.aload_n dX8_lays_8 rfl ?_
      refine V.get fX8_13 dX8_lays_9 ho rfl ?_
      refine V.iload_n dX8_lays_12 rfl ?_
      refine V.aload_n dX8_lays_13 rfl ?_
      refine V.get fX8_16 dX8_lays_14 ho rfl ?_
      refine V.iload_n dX8_lays_17 rfl ?_
      refine V.iald dX8_lays_18 hsr rfl (by omega) (getD_some (by omega)) ?_
      refine V.iast dX8_lays_19 hds rfl (by omega) (by omega) ?_
      refine V.iincN (n := 1) dX8_lays_20 rfl rfl rfl ?_
      dsimp only [List.set]
      refine V.goto 2 dX8_lays_23 (by decide) ?_
      exact ih (k + 1) (by omega) (by omega) _ (z.set k ((A 3).getD k 0)) (by have q := MRaw.set hM1 2 (by omega) (by omega) (z.set k ((A 3).getD k 0)) (by rw [List.length_set, hz]; rfl); rw [upA_upA] at q; exact q) (by rw [List.length_set]; exact hz) (cp_step hcp (by omega) (by omega)) (hf.tr (VFr.set (by omega) (by omega)))
  show V _ _ 0 [some (.ref m), none] [] h
  refine V.iconst (v := nI 0) dX8_lays_0 (by decide) ?_
  refine V.istore_n (i := 1) dX8_lays_1 rfl rfl rfl ?_
  dsimp only [List.set]
  exact L1 0 (by omega) h (A 2) (by rw [upA_id]; exact hM) (hM.2 2 (by omega) (by omega)).2 (fun j hj => absurd hj (Nat.not_lt_zero _)) VFr.rf
