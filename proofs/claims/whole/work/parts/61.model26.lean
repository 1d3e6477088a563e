/-- what begins leaves: an empty draft of a room in rows 3 and 4 -/
def MBg (m : Nat) (F : MF) (A : MA) (S : Rm) (h : VHp) : VPost := fun v h' => v = none ∧ (∃ d b, MRaw h' m F (upA (upA A 3 d) 4 b) ∧ RowT S d ∧ RowS S b ∧ ∀ i, i < 6 → b[1 + i]? = some (nI 0)) ∧ VFr (m + 3) (m + 5) h h'
theorem zer_step {z : List Int32} {k : Nat} (hz : ∀ j, j < k → z[j]? = some (nI 0)) (hl : k < z.length) : ∀ j, j < k + 1 → (z.set k (nI 0))[j]? = some (nI 0) := by
  intro j hj
  by_cases e : k = j
  · rw [← e, List.getElem?_set_self hl]
  · rw [List.getElem?_set_ne e]; exact hz j (by omega)

set_option maxHeartbeats 1000000 in
theorem m_begins (g : VG) (h : VHp) (m : Nat) (F : MF) (A : MA) (hM : MRaw h m F A) : VE g mX8_begins 0 false (0, 0) [.ref m] h (MBg m F A rClear h) := by
  refine VE.of (by decide) rfl (Nat.le_of_ble_eq_true rfl) ?_
  have L2 : ∀ d : List Int32, d.length = 9 → (∀ j, j < 9 → d[j]? = some (nI 0)) → ∀ k, k ≤ 55 → ∀ (h1 : VHp) (z : List Int32), MRaw h1 m F (upA (upA A 3 d) 4 z) → z.length = 55 → (∀ j, j < k → z[j]? = some (nI 0)) → VFr (m + 3) (m + 5) h h1 → V (g, mX8_begins, 0, false, h.length, MBg m F A rClear h) (0, 0) 23 [some (.ref m), some (.int (nI k))] [] h1 := by
    intro d hd hdz
    refine vloop 55 (fun k ih hi => ?_)
    intro h1 z hM1 hz hcp hf
    obtain ⟨ho, hA⟩ := id hM1
    have h4 := (hA 4 (by omega) (by omega)).1
    rw [upA_s] at h4
    have h3 := (hA 3 (by omega) (by omega)).1
    rw [upA_n (by omega), upA_s] at h3
    refine V.iload_n dX8_begins_23 rfl ?_
    refine V.bipush (v := nI 55) dX8_begins_24 (by decide) ?_
    refine V.icmp_geN 42 dX8_begins_26 (by decide) (by omega) (by omega) (fun hc1 => ?_) (fun hc1 => ?_)
    · skip
      refine V.aload_n dX8_begins_42 rfl ?_
      refine V.get fX8_16 dX8_begins_43 ho rfl ?_
      refine V.iconst (v := nI 0) dX8_begins_46 (by decide) ?_
      refine V.bipush (v := nI 6) dX8_begins_47 (by decide) ?_
      refine V.iast dX8_begins_49 h3 rfl (by omega) (by omega) ?_
      have hM5 := MRaw.set hM1 3 (by omega) (by omega) (d.set 0 (nI 6)) (by rw [List.length_set, hd]; rfl)
      have hf5 := hf.tr (VFr.set (h := h1) (lo := m + 3) (hi := m + 5) (a := m + 3) (c := Sum.inl (d.set 0 (nI 6))) (by omega) (by omega))
      generalize List.set h1 (m + 3) (Sum.inl (d.set 0 (nI 6))) = h5 at hM5 hf5 ⊢
      obtain ⟨ho5, hA5⟩ := id hM5
      have h35 := (hA5 3 (by omega) (by omega)).1
      rw [upA_s] at h35
      refine V.aload_n dX8_begins_50 rfl ?_
      refine V.get fX8_16 dX8_begins_51 ho5 rfl ?_
      refine V.iconst (v := nI 1) dX8_begins_54 (by decide) ?_
      refine V.bipush (v := nI 6) dX8_begins_55 (by decide) ?_
      refine V.iast dX8_begins_57 h35 rfl (by omega) (by rw [List.length_set]; omega) ?_
      obtain rfl : k = 55 := (by omega)
      have hM6 := MRaw.set hM5 3 (by omega) (by omega) ((d.set 0 (nI 6)).set 1 (nI 6)) (by rw [List.length_set, List.length_set, hd]; rfl)
      rw [upA_upA] at hM6
      have e6 : upA (upA (upA A 3 d) 4 z) 3 ((d.set 0 (nI 6)).set 1 (nI 6)) = upA (upA A 3 ((d.set 0 (nI 6)).set 1 (nI 6))) 4 z := by
        funext j
        unfold upA
        by_cases e3 : j = 3
        · rw [if_pos e3, if_neg (by omega), if_pos e3]
        · rw [if_neg e3, if_neg e3, if_neg e3]
      rw [e6] at hM6
      refine V.vret dX8_begins_58 rfl ⟨rfl, ⟨_, _, hM6, ⟨?_, ?_, ?_, fun i hi => absurd hi (Nat.not_lt_zero _)⟩, ⟨hcp 0 (by omega), fun i hi => absurd hi (Nat.not_lt_zero _), fun i hi => absurd hi (Nat.not_lt_zero _), fun i hi => absurd hi (Nat.not_lt_zero _), fun i j hi hj => hcp _ (by omega)⟩, fun i hi => hcp _ (by omega)⟩, hf5.tr (VFr.set (by omega) (by omega))⟩
      · rw [List.getElem?_set_ne (by omega), List.getElem?_set_self (by omega)]; rfl
      · rw [List.getElem?_set_self (by rw [List.length_set]; omega)]; rfl
      · rw [List.getElem?_set_ne (by omega), List.getElem?_set_ne (by omega)]; exact hdz 2 (by omega)
    · skip
      refine V.aload_n dX8_begins_29 rfl ?_
      refine V.get fX8_19 dX8_begins_30 ho rfl ?_
      refine V.iload_n dX8_begins_33 rfl ?_
      refine V.iconst (v := nI 0) dX8_begins_34 (by decide) ?_
      refine V.iast dX8_begins_35 h4 rfl (by omega) (by omega) ?_
      refine V.iincN (n := 1) dX8_begins_36 rfl rfl rfl ?_
      dsimp only [List.set]
      refine V.goto 23 dX8_begins_39 (by decide) ?_
      exact ih (k + 1) (by omega) (by omega) _ (z.set k (nI 0)) (by have q := MRaw.set hM1 4 (by omega) (by omega) (z.set k (nI 0)) (by rw [List.length_set, hz]; rfl); rw [upA_upA] at q; exact q) (by rw [List.length_set]; exact hz) (zer_step hcp (by omega)) (hf.tr (VFr.set (by omega) (by omega)))
  have L1 : ∀ k, k ≤ 9 → ∀ (h1 : VHp) (z : List Int32), MRaw h1 m F (upA A 3 z) → z.length = 9 → (∀ j, j < k → z[j]? = some (nI 0)) → VFr (m + 3) (m + 5) h h1 → V (g, mX8_begins, 0, false, h.length, MBg m F A rClear h) (0, 0) 2 [some (.ref m), some (.int (nI k))] [] h1 := by
    refine vloop 9 (fun k ih hi => ?_)
    intro h1 z hM1 hz hcp hf
    obtain ⟨ho, hA⟩ := id hM1
    have h3 := (hA 3 (by omega) (by omega)).1
    rw [upA_s] at h3
    refine V.iload_n dX8_begins_2 rfl ?_
    refine V.bipush (v := nI 9) dX8_begins_3 (by decide) ?_
    refine V.icmp_geN 21 dX8_begins_5 (by decide) (by omega) (by omega) (fun hc1 => ?_) (fun hc1 => ?_)
    · skip
      refine V.iconst (v := nI 0) dX8_begins_21 (by decide) ?_
      refine V.istore_n (i := 1) dX8_begins_22 rfl rfl rfl ?_
      dsimp only [List.set]
      obtain rfl : k = 9 := (by omega)
      exact L2 z hz hcp 0 (by omega) h1 (upA A 3 z 4) (by rw [upA_id]; exact hM1) (hA 4 (by omega) (by omega)).2 (fun j hj => absurd hj (Nat.not_lt_zero _)) hf
    · skip
      refine V.aload_n dX8_begins_8 rfl ?_
      refine V.get fX8_16 dX8_begins_9 ho rfl ?_
      refine V.iload_n dX8_begins_12 rfl ?_
      refine V.iconst (v := nI 0) dX8_begins_13 (by decide) ?_
      refine V.iast dX8_begins_14 h3 rfl (by omega) (by omega) ?_
      refine V.iincN (n := 1) dX8_begins_15 rfl rfl rfl ?_
      dsimp only [List.set]
      refine V.goto 2 dX8_begins_18 (by decide) ?_
      exact ih (k + 1) (by omega) (by omega) _ (z.set k (nI 0)) (by have q := MRaw.set hM1 3 (by omega) (by omega) (z.set k (nI 0)) (by rw [List.length_set, hz]; rfl); rw [upA_upA] at q; exact q) (by rw [List.length_set]; exact hz) (zer_step hcp (by omega)) (hf.tr (VFr.set (by omega) (by omega)))
  show V _ _ 0 [some (.ref m), none] [] h
  refine V.iconst (v := nI 0) dX8_begins_0 (by decide) ?_
  refine V.istore_n (i := 1) dX8_begins_1 rfl rfl rfl ?_
  dsimp only [List.set]
  exact L1 0 (by omega) h (A 3) (by rw [upA_id]; exact hM) (hM.2 3 (by omega) (by omega)).2 (fun j hj => absurd hj (Nat.not_lt_zero _)) VFr.rf
