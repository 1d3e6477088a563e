theorem MTx.at4 {h h' : VHp} {m : Nat} {F : MF} {A : MA} {tx : List Nat} {z : Int32} (w : MTx h m F A tx) (hw : MRaw h' m (upF F 4 z) A) : MTx h' m (upF F 4 z) A tx := ⟨hw, (upF_n (by omega)).trans w.2.1, w.2.2⟩
theorem MDr.at4 {h h' : VHp} {m : Nat} {F F' : MF} {A : MA} {S : Rm} (w : MDr h m F A S) (hw : MRaw h' m F' A) : MDr h' m F' A S := ⟨hw, w.2⟩
theorem nuZ_bd {tx : List Nat} {a : Nat} {lo hi : Int} {e : Nat} (hlt : ∀ i, i < tx.length → tx.getD i 0 < 100000) : ((nuZ tx a lo hi e).2 ≤ a + 3 ∧ a ≤ (nuZ tx a lo hi e).2) ∧ -1 ≤ (nuZ tx a lo hi e).1 ∧ (nuZ tx a lo hi e).1 < 100 ∧ (0 ≤ (nuZ tx a lo hi e).1 → lo ≤ (nuZ tx a lo hi e).1 ∧ (nuZ tx a lo hi e).1 ≤ hi) := by
  have h0 := lzF_bd hlt a
  have h1 := lzF_bd hlt (a + 1)
  unfold nuZ
  split
  · next q0 =>
    split
    · next q1 =>
      refine ⟨⟨by show a + 3 ≤ a + 3; omega, by show a ≤ a + 3; omega⟩, ?_⟩
      dsimp only
      split
      · next q2 => omega
      · omega
    · refine ⟨⟨by show a + 2 ≤ a + 3; omega, by show a ≤ a + 2; omega⟩, ?_⟩
      dsimp only
      split
      · next q2 => omega
      · omega
  · exact ⟨⟨by show a ≤ a + 3; omega, Nat.le_refl a⟩, by show (-1 : Int) ≤ -1; omega, by show (-1 : Int) < 100; omega, fun z => absurd z (by show ¬ (0 : Int) ≤ -1; omega)⟩
/-- what reading an item leaves: is it so, the draft, where it then is -/
def MRd (m : Nat) (F : MF) (A : MA) (S : Rm) (res : Option (Rm × Nat)) (h : VHp) : VPost := fun v h' => v = some (.int (vB (res.isSome = true))) ∧ (∃ F' d b, MDr h' m F' (upA (upA A 3 d) 4 b) ((res.map Prod.fst).getD S) ∧ (∀ j, j ≠ 4 → F' j = F j) ∧ ∀ w, res = some w → F' 4 = nI w.2) ∧ VFr m (m + 12) h h'
def bq {X : Type} (q : Int × Nat) (k : Int → Nat → Option X) : Option X := if q.1 < 0 then none else k q.1 q.2
theorem bq_neg {X : Type} {q : Int × Nat} {k : Int → Nat → Option X} (h : q.1 < 0) : bq q k = none := if_pos h
theorem bq_pos {X : Type} {q : Int × Nat} {k : Int → Nat → Option X} (h : ¬ q.1 < 0) : bq q k = k q.1 q.2 := if_neg h
def resW (tx : List Nat) (i : Nat) (S : Rm) : Option (Rm × Nat) := bq (nuZ tx i ((1 : Nat) : Int) ((9 : Nat) : Int) 44) (fun x j1 => bq (nuZ tx j1 ((1 : Nat) : Int) ((9 : Nat) : Int) 59) (fun y j2 => some ((x.toNat, y.toNat, S.2.2), j2)))

set_option maxHeartbeats 1000000 in
theorem m_readsRoom (g : VG) (h : VHp) (m : Nat) (F : MF) (A : MA) (tx : List Nat) (S : Rm) (hT : MTx h m F A tx) (hD : MDr h m F A S) (hB : RmB S) (i : Nat) (hF4 : F 4 = nI i) (hi : i < 300) : VE g mX8_readsRoom 3 false (0, 0) [.ref m] h (MRd m F A S (resW tx i S) h) := by
  obtain ⟨hw, ⟨et0, et1, et2, ek⟩, ⟨es0, ev, ex, ey, eL⟩, hz0⟩ := id hD
  obtain ⟨ho, hA⟩ := id hw
  obtain ⟨bn, bW, bH, bP, bL⟩ := id hB
  have hl3 : (A 3).length = 9 := (hA 3 (by omega) (by omega)).2
  have hl4 : (A 4).length = 55 := (hA 4 (by omega) (by omega)).2
  refine VE.of (by decide) rfl (Nat.le_of_ble_eq_true rfl) ?_
  show V _ _ 0 [some (.ref m), none, none] [] h
  refine V.aload_n dX8_readsRoom_0 rfl ?_
  refine V.iconst (v := nI 1) dX8_readsRoom_1 (by decide) ?_
  refine V.bipush (v := nI 9) dX8_readsRoom_2 (by decide) ?_
  refine V.bipush (v := nI 44) dX8_readsRoom_4 (by decide) ?_
  refine V.toZ2 ?_
  refine V.toZ3 ?_
  refine V.callV (ci := 8) cX8_72 (m_number g h m F A tx hT i hF4 (by omega) (((1 : Nat) : Int)) (((9 : Nat) : Int)) 44 (by omega) (by omega) (by omega)) dX8_readsRoom_6 (Nat.le_of_ble_eq_true rfl) rfl ho rfl rfl (Nat.le_of_ble_eq_true rfl) (fun v_ h_ hp_ => ?_)
  obtain ⟨rfl, hw1, hf1⟩ := hp_
  dsimp only [Option.toList, List.cons_append, List.nil_append]
  have hqb1 := nuZ_bd (tx := tx) (a := i) (lo := ((1 : Nat) : Int)) (hi := ((9 : Nat) : Int)) (e := 44) hT.2.2.2.2
  obtain ⟨q1, eq1⟩ : ∃ q, q = nuZ tx i (((1 : Nat) : Int)) (((9 : Nat) : Int)) 44 := ⟨_, rfl⟩
  rw [← eq1] at hw1 hqb1 ⊢
  generalize h_ = h1 at hw1 hf1 ⊢
  have hT1 := hT.at4 hw1
  have hD1 := hD.at4 hw1
  have hfj1 : ∀ j, j ≠ 4 → upF F 4 (nI q1.2) j = F j := fun j hj => upF_n hj
  have hF41 : upF F 4 (nI q1.2) 4 = nI q1.2 := upF_s
  generalize upF F 4 (nI q1.2) = F1 at hw1 hT1 hD1 hfj1 hF41
  have hfr1 := (hf1.wide (lo' := m) (hi' := m + 12) (by omega) (by omega))
  obtain ⟨ho1, hA1⟩ := id hw1
  refine V.istore_n (i := 1) dX8_readsRoom_9 rfl rfl rfl ?_
  dsimp only [List.set]
  refine V.iload_n dX8_readsRoom_10 rfl ?_
  refine V.if_geZ 18 dX8_readsRoom_11 (by decide) (by omega) (fun hc1 => ?_) (fun hc1 => ?_)
  · skip
    refine V.aload_n dX8_readsRoom_18 rfl ?_
    refine V.iconst (v := nI 1) dX8_readsRoom_19 (by decide) ?_
    refine V.bipush (v := nI 9) dX8_readsRoom_20 (by decide) ?_
    refine V.bipush (v := nI 59) dX8_readsRoom_22 (by decide) ?_
    refine V.toZ2 ?_
    refine V.toZ3 ?_
    refine V.callV (ci := 8) cX8_72 (m_number g h1 m F1 A tx hT1 q1.2 hF41 (by omega) (((1 : Nat) : Int)) (((9 : Nat) : Int)) 59 (by omega) (by omega) (by omega)) dX8_readsRoom_24 (Nat.le_of_ble_eq_true rfl) rfl ho1 rfl rfl (Nat.le_of_ble_eq_true rfl) (fun v_ h_ hp_ => ?_)
    obtain ⟨rfl, hw2, hf2⟩ := hp_
    dsimp only [Option.toList, List.cons_append, List.nil_append]
    have hqb2 := nuZ_bd (tx := tx) (a := q1.2) (lo := ((1 : Nat) : Int)) (hi := ((9 : Nat) : Int)) (e := 59) hT1.2.2.2.2
    obtain ⟨q2, eq2⟩ : ∃ q, q = nuZ tx q1.2 (((1 : Nat) : Int)) (((9 : Nat) : Int)) 59 := ⟨_, rfl⟩
    rw [← eq2] at hw2 hqb2 ⊢
    generalize h_ = h2 at hw2 hf2 ⊢
    have hT2 := hT1.at4 hw2
    have hD2 := hD1.at4 hw2
    have hfj2 : ∀ j, j ≠ 4 → upF F1 4 (nI q2.2) j = F j := fun j hj => (upF_n hj).trans (hfj1 j hj)
    have hF42 : upF F1 4 (nI q2.2) 4 = nI q2.2 := upF_s
    generalize upF F1 4 (nI q2.2) = F2 at hw2 hT2 hD2 hfj2 hF42
    have hfr2 := hfr1.tr (hf2.wide (lo' := m) (hi' := m + 12) (by omega) (by omega))
    obtain ⟨ho2, hA2⟩ := id hw2
    refine V.istore_n (i := 2) dX8_readsRoom_27 rfl rfl rfl ?_
    dsimp only [List.set]
    refine V.iload_n dX8_readsRoom_28 rfl ?_
    refine V.if_geZ 34 dX8_readsRoom_29 (by decide) (by omega) (fun hc2 => ?_) (fun hc2 => ?_)
    · skip
      refine V.aload_n dX8_readsRoom_34 rfl ?_
      refine V.get fX8_16 dX8_readsRoom_35 ho2 rfl ?_
      refine V.iconst (v := nI 0) dX8_readsRoom_38 (by decide) ?_
      refine V.iload_n dX8_readsRoom_39 rfl ?_
      refine V.re (iI_toN (n := q1.1.toNat) (by omega)) ?_
      refine V.iast dX8_readsRoom_40 (hA2 3 (by omega) (by omega)).1 rfl (by omega) (by rw [(hA2 3 (by omega) (by omega)).2]; show _ < 9; omega) ?_
      have hw3 := MRaw.set hw2 3 (by omega) (by omega) ((A 3).set 0 (nI q1.1.toNat)) (by rw [List.length_set]; exact hl3)
      have hf3 := VFr.set (h := h2) (lo := m) (hi := m + 12) (a := m + 3) (c := Sum.inl ((A 3).set 0 (nI q1.1.toNat))) (by omega) (by omega)
      generalize List.set h2 (m + 3) (Sum.inl ((A 3).set 0 (nI q1.1.toNat))) = h3 at hw3 hf3 ⊢
      obtain ⟨ho3, hA3⟩ := id hw3
      have r33 := (hA3 3 (by omega) (by omega)).1
      rw [upA_s] at r33
      refine V.aload_n dX8_readsRoom_41 rfl ?_
      refine V.get fX8_16 dX8_readsRoom_42 ho3 rfl ?_
      refine V.iconst (v := nI 1) dX8_readsRoom_45 (by decide) ?_
      refine V.iload_n dX8_readsRoom_46 rfl ?_
      refine V.re (iI_toN (n := q2.1.toNat) (by omega)) ?_
      refine V.iast dX8_readsRoom_47 r33 rfl (by omega) (by rw [List.length_set]; omega) ?_
      refine V.iconst (v := nI 1) dX8_readsRoom_48 (by decide) ?_
      have hres : resW tx i S = some ((q1.1.toNat, q2.1.toNat, S.2.2), q2.2) := by
        unfold resW
        rw [← eq1]
        first | rw [bq_neg (by omega)] | rw [bq_pos (by omega)]
        rw [← eq2]
        first | rw [bq_neg (by omega)] | rw [bq_pos (by omega)]
      have hw4 := MRaw.set hw3 3 (by omega) (by omega) (((A 3).set 0 (nI q1.1.toNat)).set 1 (nI q2.1.toNat)) (by rw [List.length_set, List.length_set]; exact hl3)
      rw [upA_upA] at hw4
      have hpo : MRd m F A S (resW tx i S) h (some (.int (nI 1))) (h3.set (m + 3) (Sum.inl (((A 3).set 0 (nI q1.1.toNat)).set 1 (nI q2.1.toNat)))) := by
        rw [hres]
        refine ⟨rfl, ⟨F2, ((A 3).set 0 (nI q1.1.toNat)).set 1 (nI q2.1.toNat), A 4, ⟨?_, ?_, ?_, ?_⟩, hfj2, fun w hw => by cases hw; exact hF42⟩, hfr2.tr (hf3.tr (VFr.set (by omega) (by omega)))⟩
        · have e : upA (upA A 3 (((A 3).set 0 (nI q1.1.toNat)).set 1 (nI q2.1.toNat))) 4 (A 4) = upA A 3 (((A 3).set 0 (nI q1.1.toNat)).set 1 (nI q2.1.toNat)) := by
            have e2 := upA_id (A := upA A 3 (((A 3).set 0 (nI q1.1.toNat)).set 1 (nI q2.1.toNat))) (i := 4)
            rwa [show upA A 3 (((A 3).set 0 (nI q1.1.toNat)).set 1 (nI q2.1.toNat)) 4 = A 4 from upA_n (by omega)] at e2
          rw [e]; exact hw4
        · rw [upA_n (by omega), upA_s]
          refine ⟨?_, ?_, ?_, fun j hj => ?_⟩
          · rw [List.getElem?_set_ne (by omega), List.getElem?_set_self (by omega)]; rfl
          · rw [List.getElem?_set_self (by rw [List.length_set]; omega)]; rfl
          · rw [List.getElem?_set_ne (by omega), List.getElem?_set_ne (by omega)]; exact et2
          · rw [List.getElem?_set_ne (by omega), List.getElem?_set_ne (by omega)]; exact ek j hj
        · rw [upA_s]; exact ⟨es0, ev, ex, ey, eL⟩
        · rw [upA_s]; exact hz0
      exact V.zret dX8_readsRoom_49 rfl (Or.inr rfl) hpo
    · skip
      refine V.iconst (v := nI 0) dX8_readsRoom_32 (by decide) ?_
      have hres : resW tx i S = none := by
        unfold resW
        rw [← eq1]
        first | rw [bq_neg (by omega)] | rw [bq_pos (by omega)]
        rw [← eq2]
        first | rw [bq_neg (by omega)] | rw [bq_pos (by omega)]
        all_goals (repeat first | rw [if_pos (by first | omega | assumption)] | rw [if_neg (by first | omega | assumption)])
      have hpo : MRd m F A S (resW tx i S) h (some (.int (nI 0))) h2 := by
        rw [hres]
        exact ⟨rfl, ⟨F2, A 3, A 4, by rw [upA_id, upA_id]; exact hD2, hfj2, fun w hw => by cases hw⟩, hfr2⟩
      exact V.zret dX8_readsRoom_33 rfl (Or.inl rfl) hpo
  · skip
    refine V.iconst (v := iI (-1)) dX8_readsRoom_14 (by decide) ?_
    refine V.goto 27 dX8_readsRoom_15 (by decide) ?_
    refine V.istore_n (i := 2) dX8_readsRoom_27 rfl rfl rfl ?_
    dsimp only [List.set]
    refine V.iload_n dX8_readsRoom_28 rfl ?_
    refine V.if_geZ 34 dX8_readsRoom_29 (by decide) (by omega) (fun hc3 => ?_) (fun hc3 => ?_)
    · exact absurd hc3 (by omega)
    · skip
      refine V.iconst (v := nI 0) dX8_readsRoom_32 (by decide) ?_
      have hres : resW tx i S = none := by
        unfold resW
        rw [← eq1]
        first | rw [bq_neg (by omega)] | rw [bq_pos (by omega)]
        all_goals (repeat first | rw [if_pos (by first | omega | assumption)] | rw [if_neg (by first | omega | assumption)])
      have hpo : MRd m F A S (resW tx i S) h (some (.int (nI 0))) h1 := by
        rw [hres]
        exact ⟨rfl, ⟨F1, A 3, A 4, by rw [upA_id, upA_id]; exact hD1, hfj1, fun w hw => by cases hw⟩, hfr1⟩
      exact V.zret dX8_readsRoom_33 rfl (Or.inl rfl) hpo
