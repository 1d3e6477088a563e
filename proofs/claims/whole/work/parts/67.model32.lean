theorem upA_ov {A : MA} {i j : Nat} {x y z : List Int32} (h : i ≠ j) : upA (upA (upA A i x) j y) i z = upA (upA A i z) j y := by
  funext k
  unfold upA
  by_cases e : k = i
  · rw [if_pos e, if_neg (by omega), if_pos e]
  · rw [if_neg e, if_neg e, if_neg e]

set_option maxHeartbeats 1000000 in
theorem m_stands (g : VG) (h : VHp) (m : Nat) (F : MF) (A : MA) (S : Rm) (hD : MDr h m F A S) (hB : RmB S) (hn : rN S < 6) (k x y : Nat) : VE g mX8_stands 0 false (0, 0) [.ref m, .int (nI k), .int (nI x), .int (nI y)] h (MQd m F A (rAdd S k x y) h none) := by
  obtain ⟨hw, ⟨et0, et1, et2, ek⟩, ⟨es0, ev, ex, ey, eL⟩, hz0⟩ := id hD
  obtain ⟨ho, hA⟩ := id hw
  obtain ⟨bn, bW, bH, bP, bL⟩ := id hB
  have hl3 : (A 3).length = 9 := (hA 3 (by omega) (by omega)).2
  have hl4 : (A 4).length = 55 := (hA 4 (by omega) (by omega)).2
  refine VE.of (by decide) rfl (Nat.le_of_ble_eq_true rfl) ?_
  show V _ _ 0 [some (.ref m), some (.int (nI k)), some (.int (nI x)), some (.int (nI y)), none] [] h
  refine V.aload_n dX8_stands_0 rfl ?_
  refine V.get fX8_16 dX8_stands_1 ho rfl ?_
  refine V.iconst (v := nI 2) dX8_stands_4 (by decide) ?_
  refine V.iald dX8_stands_5 (hA 3 (by omega) (by omega)).1 rfl (by omega) et2 ?_
  refine V.istore dX8_stands_6 rfl rfl ?_
  dsimp only [List.set]
  refine V.aload_n dX8_stands_8 rfl ?_
  refine V.get fX8_16 dX8_stands_9 ho rfl ?_
  refine V.iconst (v := nI 3) dX8_stands_12 (by decide) ?_
  refine V.iload dX8_stands_13 rfl ?_
  refine V.iaddN dX8_stands_15 ?_
  refine V.iload_n dX8_stands_16 rfl ?_
  refine V.iast dX8_stands_17 (hA 3 (by omega) (by omega)).1 rfl (by omega) (by rw [(hA 3 (by omega) (by omega)).2]; show _ < 9; omega) ?_
  have hw1 := MRaw.set hw 3 (by omega) (by omega) ((A 3).set (3 + rN S) (nI k)) (by simp only [List.length_set]; exact hl3)
  
  have hf1 := (VFr.set (h := h) (lo := m + 3) (hi := m + 5) (a := m + 3) (c := Sum.inl ((A 3).set (3 + rN S) (nI k))) (by omega) (by omega))
  generalize List.set h (m + 3) (Sum.inl ((A 3).set (3 + rN S) (nI k))) = h1 at hw1 hf1 ⊢
  obtain ⟨ho1, hA1⟩ := id hw1
  have r31 := (hA1 3 (by omega) (by omega)).1
  have r41 := (hA1 4 (by omega) (by omega)).1
  rw [upA_n (by omega)] at r41
  rw [upA_s] at r31
  refine V.aload_n dX8_stands_18 rfl ?_
  refine V.get fX8_19 dX8_stands_19 ho1 rfl ?_
  refine V.bipush (v := nI 7) dX8_stands_22 (by decide) ?_
  refine V.iload dX8_stands_24 rfl ?_
  refine V.iaddN dX8_stands_26 ?_
  refine V.iload_n dX8_stands_27 rfl ?_
  refine V.iast dX8_stands_28 r41 rfl (by omega) (by (try simp only [List.length_set]); omega) ?_
  have hw2 := MRaw.set hw1 4 (by omega) (by omega) ((A 4).set (7 + rN S) (nI x)) (by simp only [List.length_set]; exact hl4)
  
  have hf2 := hf1.tr (VFr.set (h := h1) (lo := m + 3) (hi := m + 5) (a := m + 4) (c := Sum.inl ((A 4).set (7 + rN S) (nI x))) (by omega) (by omega))
  generalize List.set h1 (m + 4) (Sum.inl ((A 4).set (7 + rN S) (nI x))) = h2 at hw2 hf2 ⊢
  obtain ⟨ho2, hA2⟩ := id hw2
  have r32 := (hA2 3 (by omega) (by omega)).1
  have r42 := (hA2 4 (by omega) (by omega)).1
  rw [upA_s] at r42
  rw [upA_n (by omega), upA_s] at r32
  refine V.aload_n dX8_stands_29 rfl ?_
  refine V.get fX8_19 dX8_stands_30 ho2 rfl ?_
  refine V.bipush (v := nI 13) dX8_stands_33 (by decide) ?_
  refine V.iload dX8_stands_35 rfl ?_
  refine V.iaddN dX8_stands_37 ?_
  refine V.iload_n dX8_stands_38 rfl ?_
  refine V.iast dX8_stands_39 r42 rfl (by omega) (by (try simp only [List.length_set]); omega) ?_
  have hw3 := MRaw.set hw2 4 (by omega) (by omega) (((A 4).set (7 + rN S) (nI x)).set (13 + rN S) (nI y)) (by simp only [List.length_set]; exact hl4)
  rw [upA_upA] at hw3
  have hf3 := hf2.tr (VFr.set (h := h2) (lo := m + 3) (hi := m + 5) (a := m + 4) (c := Sum.inl (((A 4).set (7 + rN S) (nI x)).set (13 + rN S) (nI y))) (by omega) (by omega))
  generalize List.set h2 (m + 4) (Sum.inl (((A 4).set (7 + rN S) (nI x)).set (13 + rN S) (nI y))) = h3 at hw3 hf3 ⊢
  obtain ⟨ho3, hA3⟩ := id hw3
  have r33 := (hA3 3 (by omega) (by omega)).1
  have r43 := (hA3 4 (by omega) (by omega)).1
  rw [upA_s] at r43
  rw [upA_n (by omega), upA_s] at r33
  refine V.aload_n dX8_stands_40 rfl ?_
  refine V.get fX8_16 dX8_stands_41 ho3 rfl ?_
  refine V.iconst (v := nI 2) dX8_stands_44 (by decide) ?_
  refine V.dup2 dX8_stands_45 rfl rfl ?_
  refine V.iald dX8_stands_46 r33 rfl (by omega) (by rw [List.getElem?_set_ne (by omega)]; exact et2) ?_
  refine V.iconst (v := nI 1) dX8_stands_47 (by decide) ?_
  refine V.iaddN dX8_stands_48 ?_
  refine V.iast dX8_stands_49 r33 rfl (by omega) (by (try simp only [List.length_set]); omega) ?_
  have hw4 := MRaw.set hw3 3 (by omega) (by omega) (((A 3).set (3 + rN S) (nI k)).set 2 (nI (rN S + 1))) (by simp only [List.length_set]; exact hl3)
  rw [upA_ov (by omega)] at hw4
  refine V.vret dX8_stands_50 rfl ⟨rfl, ⟨_, _, hw4, ?_, ?_, ?_⟩, hf3.tr (VFr.set (by omega) (by omega))⟩
  · rw [upA_n (by omega), upA_s]
    refine ⟨?_, ?_, ?_, fun j hj => ?_⟩
    · rw [List.getElem?_set_ne (by omega), List.getElem?_set_ne (by omega)]; exact et0
    · rw [List.getElem?_set_ne (by omega), List.getElem?_set_ne (by omega)]; exact et1
    · rw [List.getElem?_set_self (by rw [List.length_set]; omega)]; rfl
    · rw [List.getElem?_set_ne (by omega)]; exact rowD_grow ek (by omega) j hj
  · rw [upA_s]
    refine ⟨?_, fun j hj => ?_, fun j hj => ?_, fun j hj => ?_, fun a b ha hb => ?_⟩
    · rw [List.getElem?_set_ne (by omega), List.getElem?_set_ne (by omega)]; exact es0
    · replace hj : j < rN S + 1 := hj
      rw [List.getElem?_set_ne (by omega), List.getElem?_set_ne (by omega)]
      show _ = some (nI (up1 (rV S) (rN S) 0 j))
      unfold up1
      by_cases e : j = rN S
      · rw [if_pos e]; exact hz0 j (by omega)
      · rw [if_neg e]; exact ev j (by omega)
    · replace hj : j < rN S + 1 := hj
      rw [List.getElem?_set_ne (by omega)]; exact rowD_grow ex (by omega) j hj
    · exact rowD_grow (z := (A 4).set (7 + rN S) (nI x)) (fun q hq => by rw [List.getElem?_set_ne (by omega)]; exact ey q hq) (by rw [List.length_set]; omega) j hj
    · rw [List.getElem?_set_ne (by omega), List.getElem?_set_ne (by omega)]; exact eL a b ha hb
  · intro j hj
    rw [upA_s, List.getElem?_set_ne (by omega), List.getElem?_set_ne (by omega)]; exact hz0 j hj
