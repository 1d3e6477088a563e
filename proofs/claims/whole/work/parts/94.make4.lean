/-! THE REFERENCE'S CONSTRUCTOR -/
theorem ok_rm_0 : RmOk rm_0 := ⟨⟨by decide, by decide, by decide, fun i hi => absurd hi (Nat.not_lt_zero _), fun _ _ => (show (-20 : Int) ≤ 0 ∧ (0 : Int) ≤ 20 from by decide)⟩, fun i j hi => absurd hi (Nat.not_lt_zero _), fun _ _ _ => rfl⟩
theorem ok_rm_1 : RmOk rm_1 := add_Ok ok_rm_0 (by decide +kernel) (by decide) (by decide +kernel) (by decide +kernel) (by decide +kernel)
theorem ok_rm_2 : RmOk rm_2 := add_Ok ok_rm_1 (by decide +kernel) (by decide) (by decide +kernel) (by decide +kernel) (by decide +kernel)
theorem ok_rm_3 : RmOk rm_3 := add_Ok ok_rm_2 (by decide +kernel) (by decide) (by decide +kernel) (by decide +kernel) (by decide +kernel)
theorem ok_rm_4 : RmOk rm_4 := add_Ok ok_rm_3 (by decide +kernel) (by decide) (by decide +kernel) (by decide +kernel) (by decide +kernel)
theorem ok_rm_5 : RmOk rm_5 := add_Ok ok_rm_4 (by decide +kernel) (by decide) (by decide +kernel) (by decide +kernel) (by decide +kernel)
theorem ok_rm_6 : RmOk rm_6 := add_Ok ok_rm_5 (by decide +kernel) (by decide) (by decide +kernel) (by decide +kernel) (by decide +kernel)
theorem ok_rm_7 : RmOk rm_7 := lean_Ok ok_rm_6 (by decide +kernel) (by decide +kernel) (by decide) (by decide)
theorem ok_rm_8 : RmOk rm_8 := lean_Ok ok_rm_7 (by decide +kernel) (by decide +kernel) (by decide) (by decide)
theorem ok_rm_9 : RmOk rm_9 := lean_Ok ok_rm_8 (by decide +kernel) (by decide +kernel) (by decide) (by decide)
theorem ok_rm_10 : RmOk rm_10 := lean_Ok ok_rm_9 (by decide +kernel) (by decide +kernel) (by decide) (by decide)
theorem ok_rm_11 : RmOk rm_11 := lean_Ok ok_rm_10 (by decide +kernel) (by decide +kernel) (by decide) (by decide)
theorem ok_rm_12 : RmOk rm_12 := lean_Ok ok_rm_11 (by decide +kernel) (by decide +kernel) (by decide) (by decide)
theorem ok_rm_13 : RmOk rm_13 := lean_Ok ok_rm_12 (by decide +kernel) (by decide +kernel) (by decide) (by decide)
theorem ok_rm_14 : RmOk rm_14 := lean_Ok ok_rm_13 (by decide +kernel) (by decide +kernel) (by decide) (by decide)
theorem ok_rm_15 : RmOk rm_15 := lean_Ok ok_rm_14 (by decide +kernel) (by decide +kernel) (by decide) (by decide)
theorem ok_rm_16 : RmOk rm_16 := lean_Ok ok_rm_15 (by decide +kernel) (by decide +kernel) (by decide) (by decide)
theorem ok_T0 : SyOk T0 := ⟨⟨Nat.zero_le _, fun i hi => absurd hi (Nat.not_lt_zero _)⟩, ok_rm_16, by decide +kernel, Nat.zero_le _, Nat.zero_le _, ⟨Nat.zero_le _, fun i hi => absurd hi (Nat.not_lt_zero _)⟩, fun P hP => absurd hP List.not_mem_nil, fun P hP => absurd hP List.not_mem_nil⟩
theorem MDr.wide {h : VHp} {m w : Nat} {F : MF} {A : MA} {S : Rm} (d : MDr h m F A S) : MDr (h.set (m + 3) (.inl ((A 3).set 0 (nI w)))) m F (upA A 3 ((A 3).set 0 (nI w))) (w, S.2) := by
  obtain ⟨hw, ⟨a, b, c, e⟩, hs, hz⟩ := d
  have hl : (A 3).length = 9 := (hw.2 3 (by omega) (by omega)).2
  refine ⟨MRaw.set hw 3 (by omega) (by omega) _ (by rw [List.length_set]; exact hl), ?_, by rw [upA_n (by omega)]; exact hs, by rw [upA_n (by omega)]; exact hz⟩
  rw [upA_s]
  exact ⟨List.getElem?_set_self (by omega), by rw [List.getElem?_set_ne (by omega)]; exact b, by rw [List.getElem?_set_ne (by omega)]; exact c, fun i hi => by rw [List.getElem?_set_ne (by omega)]; exact e i hi⟩
theorem MDr.lean {h : VHp} {m a b : Nat} {l : Int} {F : MF} {A : MA} {S : Rm} (d : MDr h m F A S) (hn : rN S ≤ 6) (ha : a < 6) (hb : b < 6) : MDr (h.set (m + 4) (.inl ((A 4).set (19 + 6 * a + b) (iI l)))) m F (upA A 4 ((A 4).set (19 + 6 * a + b) (iI l))) (rLean S a b l) := by
  obtain ⟨hw, ht, hs, hz⟩ := d
  have hl : (A 4).length = 55 := (hw.2 4 (by omega) (by omega)).2
  refine ⟨MRaw.set hw 4 (by omega) (by omega) _ (by rw [List.length_set]; exact hl), by rw [upA_n (by omega)]; exact ht, ?_, fun i hi => ?_⟩
  · rw [upA_s]; exact RowS.l (A := fun _ => A 4) hs hl hn ha hb
  · rw [upA_s, List.getElem?_set_ne (by omega)]; exact hz i hi

set_option maxHeartbeats 4000000 in
theorem k_M (g : VG) (h : VHp) (m : Nat) (hr : h.length = m) (hwf : vwf m h) (hlen : m < 900000) : VE g mX8_init 1 true (11, 1038) [.ref m] (h ++ [.inr (.inr (8, [.null, .int 0, .null, .null, .null, .null, .null, .int 0, .null, .int 0, .null, .int 0, .int 0, .null, .null, .null]))]) (fun v h' => v = none ∧ MAt h' m T0 ∧ ∀ q, q < m → h'[q]? = h[q]?) := by
  refine VE.of (by decide) rfl (Nat.le_of_ble_eq_true rfl) ?_
  show V _ _ 0 [some (.ref m)] [] (h ++ .inr (.inr (8, [.null, .int 0, .null, .null, .null, .null, .null, .int 0, .null, .int 0, .null, .int 0, .int 0, .null, .null, .null])) :: [])
  refine V.aload_n dX8_init_0 rfl ?_
  refine V.objInit jX8_1 dX8_init_1 (Nat.le_of_ble_eq_true rfl) (Nat.le_of_ble_eq_true rfl) ?_
  refine V.aload_n dX8_init_4 rfl ?_
  refine V.sipush (v := nI 200) dX8_init_5 (by decide) ?_
  refine V.newIc (b := (10, 838)) (N := 200) (q := m + 1) (L' := [.inl (List.replicate 200 0)]) w9_79 (by decide) rfl hr rfl rfl hwf (vwc (vfc trivial (vfc trivial (vfc trivial (vfc trivial (vfc trivial (vfc trivial (vfc trivial (vfc trivial (vfc trivial (vfc trivial (vfc trivial (vfc trivial (vfc trivial (vfc trivial (vfc trivial (vfc trivial vfn)))))))))))))))) vwn) ⟨(vlc (vor (by omega)) vln), (vfc (vor (by omega)) vfn)⟩ (by omega) dX8_init_8 ?_
  refine V.putFc hr fX8_7 (fun C T N e => by have e2 : some (RX8, TX8, 16) = some (C, T, N) := e; cases e2; exact w9_704) (fun _ => ⟨rfl, rfl⟩) rfl dX8_init_10 (Nat.le_of_ble_eq_true rfl) ?_
  dsimp only [List.set]
  refine V.aload_n dX8_init_13 rfl ?_
  refine V.bipush (v := nI 9) dX8_init_14 (by decide) ?_
  refine V.newIc (b := (9, 829)) (N := 9) (q := m + 2) (L' := [.inl (List.replicate 200 0), .inl (List.replicate 9 0)]) w9_79 (by decide) rfl hr rfl rfl hwf (vwc (vfc (vor (by omega)) (vfc trivial (vfc trivial (vfc trivial (vfc trivial (vfc trivial (vfc trivial (vfc trivial (vfc trivial (vfc trivial (vfc trivial (vfc trivial (vfc trivial (vfc trivial (vfc trivial (vfc trivial vfn)))))))))))))))) (vwc trivial vwn)) ⟨(vlc (vor (by omega)) vln), (vfc (vor (by omega)) vfn)⟩ (by omega) dX8_init_16 ?_
  refine V.putFc hr fX8_13 (fun C T N e => by have e2 : some (RX8, TX8, 16) = some (C, T, N) := e; cases e2; exact w9_706) (fun _ => ⟨rfl, rfl⟩) rfl dX8_init_18 (Nat.le_of_ble_eq_true rfl) ?_
  dsimp only [List.set]
  refine V.aload_n dX8_init_21 rfl ?_
  refine V.bipush (v := nI 9) dX8_init_22 (by decide) ?_
  refine V.newIc (b := (8, 820)) (N := 9) (q := m + 3) (L' := [.inl (List.replicate 200 0), .inl (List.replicate 9 0), .inl (List.replicate 9 0)]) w9_79 (by decide) rfl hr rfl rfl hwf (vwc (vfc (vor (by omega)) (vfc trivial (vfc (vor (by omega)) (vfc trivial (vfc trivial (vfc trivial (vfc trivial (vfc trivial (vfc trivial (vfc trivial (vfc trivial (vfc trivial (vfc trivial (vfc trivial (vfc trivial (vfc trivial vfn)))))))))))))))) (vwc trivial (vwc trivial vwn))) ⟨(vlc (vor (by omega)) vln), (vfc (vor (by omega)) vfn)⟩ (by omega) dX8_init_24 ?_
  refine V.putFc hr fX8_16 (fun C T N e => by have e2 : some (RX8, TX8, 16) = some (C, T, N) := e; cases e2; exact w9_707) (fun _ => ⟨rfl, rfl⟩) rfl dX8_init_26 (Nat.le_of_ble_eq_true rfl) ?_
  dsimp only [List.set]
  refine V.aload_n dX8_init_29 rfl ?_
  refine V.bipush (v := nI 55) dX8_init_30 (by decide) ?_
  refine V.newIc (b := (7, 765)) (N := 55) (q := m + 4) (L' := [.inl (List.replicate 200 0), .inl (List.replicate 9 0), .inl (List.replicate 9 0), .inl (List.replicate 55 0)]) w9_79 (by decide) rfl hr rfl rfl hwf (vwc (vfc (vor (by omega)) (vfc trivial (vfc (vor (by omega)) (vfc (vor (by omega)) (vfc trivial (vfc trivial (vfc trivial (vfc trivial (vfc trivial (vfc trivial (vfc trivial (vfc trivial (vfc trivial (vfc trivial (vfc trivial (vfc trivial vfn)))))))))))))))) (vwc trivial (vwc trivial (vwc trivial vwn)))) ⟨(vlc (vor (by omega)) vln), (vfc (vor (by omega)) vfn)⟩ (by omega) dX8_init_32 ?_
  refine V.putFc hr fX8_19 (fun C T N e => by have e2 : some (RX8, TX8, 16) = some (C, T, N) := e; cases e2; exact w9_708) (fun _ => ⟨rfl, rfl⟩) rfl dX8_init_34 (Nat.le_of_ble_eq_true rfl) ?_
  dsimp only [List.set]
  refine V.aload_n dX8_init_37 rfl ?_
  refine V.bipush (v := nI 55) dX8_init_38 (by decide) ?_
  refine V.newIc (b := (6, 710)) (N := 55) (q := m + 5) (L' := [.inl (List.replicate 200 0), .inl (List.replicate 9 0), .inl (List.replicate 9 0), .inl (List.replicate 55 0), .inl (List.replicate 55 0)]) w9_79 (by decide) rfl hr rfl rfl hwf (vwc (vfc (vor (by omega)) (vfc trivial (vfc (vor (by omega)) (vfc (vor (by omega)) (vfc (vor (by omega)) (vfc trivial (vfc trivial (vfc trivial (vfc trivial (vfc trivial (vfc trivial (vfc trivial (vfc trivial (vfc trivial (vfc trivial (vfc trivial vfn)))))))))))))))) (vwc trivial (vwc trivial (vwc trivial (vwc trivial vwn))))) ⟨(vlc (vor (by omega)) vln), (vfc (vor (by omega)) vfn)⟩ (by omega) dX8_init_40 ?_
  refine V.putFc hr fX8_22 (fun C T N e => by have e2 : some (RX8, TX8, 16) = some (C, T, N) := e; cases e2; exact w9_709) (fun _ => ⟨rfl, rfl⟩) rfl dX8_init_42 (Nat.le_of_ble_eq_true rfl) ?_
  dsimp only [List.set]
  refine V.aload_n dX8_init_45 rfl ?_
  refine V.sipush (v := nI 440) dX8_init_46 (by decide) ?_
  refine V.newIc (b := (5, 270)) (N := 440) (q := m + 6) (L' := [.inl (List.replicate 200 0), .inl (List.replicate 9 0), .inl (List.replicate 9 0), .inl (List.replicate 55 0), .inl (List.replicate 55 0), .inl (List.replicate 440 0)]) w9_79 (by decide) rfl hr rfl rfl hwf (vwc (vfc (vor (by omega)) (vfc trivial (vfc (vor (by omega)) (vfc (vor (by omega)) (vfc (vor (by omega)) (vfc (vor (by omega)) (vfc trivial (vfc trivial (vfc trivial (vfc trivial (vfc trivial (vfc trivial (vfc trivial (vfc trivial (vfc trivial (vfc trivial vfn)))))))))))))))) (vwc trivial (vwc trivial (vwc trivial (vwc trivial (vwc trivial vwn)))))) ⟨(vlc (vor (by omega)) vln), (vfc (vor (by omega)) vfn)⟩ (by omega) dX8_init_49 ?_
  refine V.putFc hr fX8_25 (fun C T N e => by have e2 : some (RX8, TX8, 16) = some (C, T, N) := e; cases e2; exact w9_710) (fun _ => ⟨rfl, rfl⟩) rfl dX8_init_51 (Nat.le_of_ble_eq_true rfl) ?_
  dsimp only [List.set]
  refine V.aload_n dX8_init_54 rfl ?_
  refine V.bipush (v := nI 110) dX8_init_55 (by decide) ?_
  refine V.newIc (b := (4, 160)) (N := 110) (q := m + 7) (L' := [.inl (List.replicate 200 0), .inl (List.replicate 9 0), .inl (List.replicate 9 0), .inl (List.replicate 55 0), .inl (List.replicate 55 0), .inl (List.replicate 440 0), .inl (List.replicate 110 0)]) w9_79 (by decide) rfl hr rfl rfl hwf (vwc (vfc (vor (by omega)) (vfc trivial (vfc (vor (by omega)) (vfc (vor (by omega)) (vfc (vor (by omega)) (vfc (vor (by omega)) (vfc (vor (by omega)) (vfc trivial (vfc trivial (vfc trivial (vfc trivial (vfc trivial (vfc trivial (vfc trivial (vfc trivial (vfc trivial vfn)))))))))))))))) (vwc trivial (vwc trivial (vwc trivial (vwc trivial (vwc trivial (vwc trivial vwn))))))) ⟨(vlc (vor (by omega)) vln), (vfc (vor (by omega)) vfn)⟩ (by omega) dX8_init_57 ?_
  refine V.putFc hr fX8_28 (fun C T N e => by have e2 : some (RX8, TX8, 16) = some (C, T, N) := e; cases e2; exact w9_712) (fun _ => ⟨rfl, rfl⟩) rfl dX8_init_59 (Nat.le_of_ble_eq_true rfl) ?_
  dsimp only [List.set]
  refine V.aload_n dX8_init_62 rfl ?_
  refine V.bipush (v := nI 18) dX8_init_63 (by decide) ?_
  refine V.newIc (b := (3, 142)) (N := 18) (q := m + 8) (L' := [.inl (List.replicate 200 0), .inl (List.replicate 9 0), .inl (List.replicate 9 0), .inl (List.replicate 55 0), .inl (List.replicate 55 0), .inl (List.replicate 440 0), .inl (List.replicate 110 0), .inl (List.replicate 18 0)]) w9_79 (by decide) rfl hr rfl rfl hwf (vwc (vfc (vor (by omega)) (vfc trivial (vfc (vor (by omega)) (vfc (vor (by omega)) (vfc (vor (by omega)) (vfc (vor (by omega)) (vfc (vor (by omega)) (vfc trivial (vfc (vor (by omega)) (vfc trivial (vfc trivial (vfc trivial (vfc trivial (vfc trivial (vfc trivial (vfc trivial vfn)))))))))))))))) (vwc trivial (vwc trivial (vwc trivial (vwc trivial (vwc trivial (vwc trivial (vwc trivial vwn)))))))) ⟨(vlc (vor (by omega)) vln), (vfc (vor (by omega)) vfn)⟩ (by omega) dX8_init_65 ?_
  refine V.putFc hr fX8_31 (fun C T N e => by have e2 : some (RX8, TX8, 16) = some (C, T, N) := e; cases e2; exact w9_714) (fun _ => ⟨rfl, rfl⟩) rfl dX8_init_67 (Nat.le_of_ble_eq_true rfl) ?_
  dsimp only [List.set]
  refine V.aload_n dX8_init_70 rfl ?_
  refine V.bipush (v := nI 55) dX8_init_71 (by decide) ?_
  refine V.newIc (b := (2, 87)) (N := 55) (q := m + 9) (L' := [.inl (List.replicate 200 0), .inl (List.replicate 9 0), .inl (List.replicate 9 0), .inl (List.replicate 55 0), .inl (List.replicate 55 0), .inl (List.replicate 440 0), .inl (List.replicate 110 0), .inl (List.replicate 18 0), .inl (List.replicate 55 0)]) w9_79 (by decide) rfl hr rfl rfl hwf (vwc (vfc (vor (by omega)) (vfc trivial (vfc (vor (by omega)) (vfc (vor (by omega)) (vfc (vor (by omega)) (vfc (vor (by omega)) (vfc (vor (by omega)) (vfc trivial (vfc (vor (by omega)) (vfc trivial (vfc (vor (by omega)) (vfc trivial (vfc trivial (vfc trivial (vfc trivial (vfc trivial vfn)))))))))))))))) (vwc trivial (vwc trivial (vwc trivial (vwc trivial (vwc trivial (vwc trivial (vwc trivial (vwc trivial vwn))))))))) ⟨(vlc (vor (by omega)) vln), (vfc (vor (by omega)) vfn)⟩ (by omega) dX8_init_73 ?_
  refine V.putFc hr fX8_34 (fun C T N e => by have e2 : some (RX8, TX8, 16) = some (C, T, N) := e; cases e2; exact w9_717) (fun _ => ⟨rfl, rfl⟩) rfl dX8_init_75 (Nat.le_of_ble_eq_true rfl) ?_
  dsimp only [List.set]
  refine V.aload_n dX8_init_78 rfl ?_
  refine V.bipush (v := nI 81) dX8_init_79 (by decide) ?_
  refine V.newIc (b := (1, 6)) (N := 81) (q := m + 10) (L' := [.inl (List.replicate 200 0), .inl (List.replicate 9 0), .inl (List.replicate 9 0), .inl (List.replicate 55 0), .inl (List.replicate 55 0), .inl (List.replicate 440 0), .inl (List.replicate 110 0), .inl (List.replicate 18 0), .inl (List.replicate 55 0), .inl (List.replicate 81 0)]) w9_79 (by decide) rfl hr rfl rfl hwf (vwc (vfc (vor (by omega)) (vfc trivial (vfc (vor (by omega)) (vfc (vor (by omega)) (vfc (vor (by omega)) (vfc (vor (by omega)) (vfc (vor (by omega)) (vfc trivial (vfc (vor (by omega)) (vfc trivial (vfc (vor (by omega)) (vfc trivial (vfc trivial (vfc (vor (by omega)) (vfc trivial (vfc trivial vfn)))))))))))))))) (vwc trivial (vwc trivial (vwc trivial (vwc trivial (vwc trivial (vwc trivial (vwc trivial (vwc trivial (vwc trivial vwn)))))))))) ⟨(vlc (vor (by omega)) vln), (vfc (vor (by omega)) vfn)⟩ (by omega) dX8_init_81 ?_
  refine V.putFc hr fX8_37 (fun C T N e => by have e2 : some (RX8, TX8, 16) = some (C, T, N) := e; cases e2; exact w9_718) (fun _ => ⟨rfl, rfl⟩) rfl dX8_init_83 (Nat.le_of_ble_eq_true rfl) ?_
  dsimp only [List.set]
  refine V.aload_n dX8_init_86 rfl ?_
  refine V.bipush (v := nI 6) dX8_init_87 (by decide) ?_
  refine V.newIc (b := (0, 0)) (N := 6) (q := m + 11) (L' := [.inl (List.replicate 200 0), .inl (List.replicate 9 0), .inl (List.replicate 9 0), .inl (List.replicate 55 0), .inl (List.replicate 55 0), .inl (List.replicate 440 0), .inl (List.replicate 110 0), .inl (List.replicate 18 0), .inl (List.replicate 55 0), .inl (List.replicate 81 0), .inl (List.replicate 6 0)]) w9_79 (by decide) rfl hr rfl rfl hwf (vwc (vfc (vor (by omega)) (vfc trivial (vfc (vor (by omega)) (vfc (vor (by omega)) (vfc (vor (by omega)) (vfc (vor (by omega)) (vfc (vor (by omega)) (vfc trivial (vfc (vor (by omega)) (vfc trivial (vfc (vor (by omega)) (vfc trivial (vfc trivial (vfc (vor (by omega)) (vfc (vor (by omega)) (vfc trivial vfn)))))))))))))))) (vwc trivial (vwc trivial (vwc trivial (vwc trivial (vwc trivial (vwc trivial (vwc trivial (vwc trivial (vwc trivial (vwc trivial vwn))))))))))) ⟨(vlc (vor (by omega)) vln), (vfc (vor (by omega)) vfn)⟩ (by omega) dX8_init_89 ?_
  refine V.putFc hr fX8_40 (fun C T N e => by have e2 : some (RX8, TX8, 16) = some (C, T, N) := e; cases e2; exact w9_719) (fun _ => ⟨rfl, rfl⟩) rfl dX8_init_91 (Nat.le_of_ble_eq_true rfl) ?_
  dsimp only [List.set]
  have hraw : MRaw (h ++ .inr (.inr (8, [.ref (m + 1), .int 0, .ref (m + 2), .ref (m + 3), .ref (m + 4), .ref (m + 5), .ref (m + 6), .int 0, .ref (m + 7), .int 0, .ref (m + 8), .int 0, .int 0, .ref (m + 9), .ref (m + 10), .ref (m + 11)])) :: [.inl (List.replicate 200 0), .inl (List.replicate 9 0), .inl (List.replicate 9 0), .inl (List.replicate 55 0), .inl (List.replicate 55 0), .inl (List.replicate 440 0), .inl (List.replicate 110 0), .inl (List.replicate 18 0), .inl (List.replicate 55 0), .inl (List.replicate 81 0), .inl (List.replicate 6 0)]) m (fun _ => 0) (fun i => List.replicate (mLen i) 0) := by
    subst hr
    refine ⟨mid_get, fun i h1 h2 => ⟨?_, List.length_replicate⟩⟩
    rcases (show i = 1 ∨ i = 2 ∨ i = 3 ∨ i = 4 ∨ i = 5 ∨ i = 6 ∨ i = 7 ∨ i = 8 ∨ i = 9 ∨ i = 10 ∨ i = 11 by omega) with q | q | q | q | q | q | q | q | q | q | q <;> subst q <;> exact mid_at
  have hfr0 : ∀ q, q < m → (h ++ .inr (.inr (8, [.ref (m + 1), .int 0, .ref (m + 2), .ref (m + 3), .ref (m + 4), .ref (m + 5), .ref (m + 6), .int 0, .ref (m + 7), .int 0, .ref (m + 8), .int 0, .int 0, .ref (m + 9), .ref (m + 10), .ref (m + 11)])) :: [.inl (List.replicate 200 0), .inl (List.replicate 9 0), .inl (List.replicate 9 0), .inl (List.replicate 55 0), .inl (List.replicate 55 0), .inl (List.replicate 440 0), .inl (List.replicate 110 0), .inl (List.replicate 18 0), .inl (List.replicate 55 0), .inl (List.replicate 81 0), .inl (List.replicate 6 0)])[q]? = h[q]? := fun q hq => List.getElem?_append_left (by omega)
  generalize (h ++ .inr (.inr (8, [.ref (m + 1), .int 0, .ref (m + 2), .ref (m + 3), .ref (m + 4), .ref (m + 5), .ref (m + 6), .int 0, .ref (m + 7), .int 0, .ref (m + 8), .int 0, .int 0, .ref (m + 9), .ref (m + 10), .ref (m + 11)])) :: [.inl (List.replicate 200 0), .inl (List.replicate 9 0), .inl (List.replicate 9 0), .inl (List.replicate 55 0), .inl (List.replicate 55 0), .inl (List.replicate 440 0), .inl (List.replicate 110 0), .inl (List.replicate 18 0), .inl (List.replicate 55 0), .inl (List.replicate 81 0), .inl (List.replicate 6 0)]) = h0 at hraw hfr0 ⊢
  generalize ((fun i => List.replicate (mLen i) (0 : Int32)) : MA) = A0 at hraw
  have ho0 := hraw.1
  refine V.aload_n dX8_init_94 rfl ?_
  refine V.callV (As := []) (ci := 8) cX8_43 (m_begins g h0 m _ A0 hraw) dX8_init_95 (Nat.le_of_ble_eq_true rfl) rfl ho0 rfl rfl (Nat.le_of_ble_eq_true rfl) (fun v_ h1 hp_ => ?_)
  obtain ⟨rfl, ⟨d1, b1, hw1, ht1, hs1, hz1⟩, hf1⟩ := hp_
  dsimp only [Option.toList, List.nil_append]
  have hD1 : MDr h1 m (fun _ => 0) (upA (upA A0 3 d1) 4 b1) rClear := ⟨hw1, by rw [upA_n (by omega), upA_s]; exact ht1, by rw [upA_s]; exact hs1, by rw [upA_s]; exact hz1⟩
  have hfr1 : ∀ q, q < m → h1[q]? = h[q]? := fun q hq => (hf1.2 q (by omega)).trans (hfr0 q hq)
  generalize upA (upA A0 3 d1) 4 b1 = A1 at hD1
  have ho1 := hD1.1.1
  have hr31 := (hD1.1.2 3 (by omega) (by omega)).1
  refine V.aload_n dX8_init_98 rfl ?_
  refine V.get fX8_16 dX8_init_99 ho1 rfl ?_
  refine V.iconst (v := nI 0) dX8_init_102 (by decide) ?_
  refine V.bipush (v := nI 7) dX8_init_103 (by decide) ?_
  refine V.iast dX8_init_105 hr31 rfl (by decide) (by rw [(hD1.1.2 3 (by omega) (by omega)).2]; decide) ?_
  have hD2 : MDr _ m (fun _ => 0) _ rm_0 := MDr.wide (w := 7) hD1
  have hfr2 : ∀ q, q < m → (h1.set (m + 3) (.inl ((A1 3).set 0 (nI 7))))[q]? = h[q]? := fun q hq => (List.getElem?_set_ne (by omega)).trans (hfr1 q hq)
  generalize List.set h1 (m + 3) (Sum.inl ((A1 3).set 0 (nI 7))) = h2 at hD2 hfr2 ⊢
  generalize upA A1 3 ((A1 3).set 0 (nI 7)) = A2 at hD2
  have ho2 := hD2.1.1
  refine V.aload_n dX8_init_106 rfl ?_
  refine V.iconst (v := nI 0) dX8_init_107 (by decide) ?_
  refine V.iconst (v := nI 0) dX8_init_108 (by decide) ?_
  refine V.iconst (v := nI 0) dX8_init_109 (by decide) ?_
  refine V.callV (As := [.int (nI 0), .int (nI 0), .int (nI 0)]) (ci := 8) cX8_46 (m_stands g h2 m _ A2 rm_0 hD2 ok_rm_0.1 (by decide +kernel) 0 0 0) dX8_init_110 (Nat.le_of_ble_eq_true rfl) rfl ho2 rfl rfl (Nat.le_of_ble_eq_true rfl) (fun v_ h3 hp_ => ?_)
  obtain ⟨rfl, ⟨d3, b3, hD3⟩, hf3⟩ := hp_
  dsimp only [Option.toList, List.nil_append]
  change MDr h3 m _ _ rm_1 at hD3
  have hfr3 : ∀ q, q < m → h3[q]? = h[q]? := fun q hq => (hf3.2 q (by omega)).trans (hfr2 q hq)
  generalize upA (upA A2 3 d3) 4 b3 = A3 at hD3
  have ho3 := hD3.1.1
  refine V.aload_n dX8_init_113 rfl ?_
  refine V.iconst (v := nI 1) dX8_init_114 (by decide) ?_
  refine V.bipush (v := nI 6) dX8_init_115 (by decide) ?_
  refine V.iconst (v := nI 5) dX8_init_117 (by decide) ?_
  refine V.callV (As := [.int (nI 1), .int (nI 6), .int (nI 5)]) (ci := 8) cX8_46 (m_stands g h3 m _ A3 rm_1 hD3 ok_rm_1.1 (by decide +kernel) 1 6 5) dX8_init_118 (Nat.le_of_ble_eq_true rfl) rfl ho3 rfl rfl (Nat.le_of_ble_eq_true rfl) (fun v_ h4 hp_ => ?_)
  obtain ⟨rfl, ⟨d4, b4, hD4⟩, hf4⟩ := hp_
  dsimp only [Option.toList, List.nil_append]
  change MDr h4 m _ _ rm_2 at hD4
  have hfr4 : ∀ q, q < m → h4[q]? = h[q]? := fun q hq => (hf4.2 q (by omega)).trans (hfr3 q hq)
  generalize upA (upA A3 3 d4) 4 b4 = A4 at hD4
  have ho4 := hD4.1.1
  refine V.aload_n dX8_init_121 rfl ?_
  refine V.iconst (v := nI 2) dX8_init_122 (by decide) ?_
  refine V.iconst (v := nI 3) dX8_init_123 (by decide) ?_
  refine V.iconst (v := nI 2) dX8_init_124 (by decide) ?_
  refine V.callV (As := [.int (nI 2), .int (nI 3), .int (nI 2)]) (ci := 8) cX8_46 (m_stands g h4 m _ A4 rm_2 hD4 ok_rm_2.1 (by decide +kernel) 2 3 2) dX8_init_125 (Nat.le_of_ble_eq_true rfl) rfl ho4 rfl rfl (Nat.le_of_ble_eq_true rfl) (fun v_ h5 hp_ => ?_)
  obtain ⟨rfl, ⟨d5, b5, hD5⟩, hf5⟩ := hp_
  dsimp only [Option.toList, List.nil_append]
  change MDr h5 m _ _ rm_3 at hD5
  have hfr5 : ∀ q, q < m → h5[q]? = h[q]? := fun q hq => (hf5.2 q (by omega)).trans (hfr4 q hq)
  generalize upA (upA A4 3 d5) 4 b5 = A5 at hD5
  have ho5 := hD5.1.1
  refine V.aload_n dX8_init_128 rfl ?_
  refine V.iconst (v := nI 3) dX8_init_129 (by decide) ?_
  refine V.iconst (v := nI 5) dX8_init_130 (by decide) ?_
  refine V.iconst (v := nI 1) dX8_init_131 (by decide) ?_
  refine V.callV (As := [.int (nI 3), .int (nI 5), .int (nI 1)]) (ci := 8) cX8_46 (m_stands g h5 m _ A5 rm_3 hD5 ok_rm_3.1 (by decide +kernel) 3 5 1) dX8_init_132 (Nat.le_of_ble_eq_true rfl) rfl ho5 rfl rfl (Nat.le_of_ble_eq_true rfl) (fun v_ h6 hp_ => ?_)
  obtain ⟨rfl, ⟨d6, b6, hD6⟩, hf6⟩ := hp_
  dsimp only [Option.toList, List.nil_append]
  change MDr h6 m _ _ rm_4 at hD6
  have hfr6 : ∀ q, q < m → h6[q]? = h[q]? := fun q hq => (hf6.2 q (by omega)).trans (hfr5 q hq)
  generalize upA (upA A5 3 d6) 4 b6 = A6 at hD6
  have ho6 := hD6.1.1
  refine V.aload_n dX8_init_135 rfl ?_
  refine V.iconst (v := nI 0) dX8_init_136 (by decide) ?_
  refine V.iconst (v := nI 1) dX8_init_137 (by decide) ?_
  refine V.iconst (v := nI 4) dX8_init_138 (by decide) ?_
  refine V.callV (As := [.int (nI 0), .int (nI 1), .int (nI 4)]) (ci := 8) cX8_46 (m_stands g h6 m _ A6 rm_4 hD6 ok_rm_4.1 (by decide +kernel) 0 1 4) dX8_init_139 (Nat.le_of_ble_eq_true rfl) rfl ho6 rfl rfl (Nat.le_of_ble_eq_true rfl) (fun v_ h7 hp_ => ?_)
  obtain ⟨rfl, ⟨d7, b7, hD7⟩, hf7⟩ := hp_
  dsimp only [Option.toList, List.nil_append]
  change MDr h7 m _ _ rm_5 at hD7
  have hfr7 : ∀ q, q < m → h7[q]? = h[q]? := fun q hq => (hf7.2 q (by omega)).trans (hfr6 q hq)
  generalize upA (upA A6 3 d7) 4 b7 = A7 at hD7
  have ho7 := hD7.1.1
  refine V.aload_n dX8_init_142 rfl ?_
  refine V.iconst (v := nI 0) dX8_init_143 (by decide) ?_
  refine V.iconst (v := nI 4) dX8_init_144 (by decide) ?_
  refine V.iconst (v := nI 4) dX8_init_145 (by decide) ?_
  refine V.callV (As := [.int (nI 0), .int (nI 4), .int (nI 4)]) (ci := 8) cX8_46 (m_stands g h7 m _ A7 rm_5 hD7 ok_rm_5.1 (by decide +kernel) 0 4 4) dX8_init_146 (Nat.le_of_ble_eq_true rfl) rfl ho7 rfl rfl (Nat.le_of_ble_eq_true rfl) (fun v_ h8 hp_ => ?_)
  obtain ⟨rfl, ⟨d8, b8, hD8⟩, hf8⟩ := hp_
  dsimp only [Option.toList, List.nil_append]
  change MDr h8 m _ _ rm_6 at hD8
  have hfr8 : ∀ q, q < m → h8[q]? = h[q]? := fun q hq => (hf8.2 q (by omega)).trans (hfr7 q hq)
  generalize upA (upA A7 3 d8) 4 b8 = A8 at hD8
  have ho8 := hD8.1.1
  have hr4_8 := (hD8.1.2 4 (by omega) (by omega)).1
  refine V.aload_n dX8_init_149 rfl ?_
  refine V.get fX8_19 dX8_init_150 ho8 rfl ?_
  refine V.bipush (v := nI 20) dX8_init_153 (by decide) ?_
  refine V.iconst (v := nI 5) dX8_init_155 (by decide) ?_
  refine V.re (y := iI 5) (by decide) ?_
  refine V.iast dX8_init_156 hr4_8 rfl (by decide) (by rw [(hD8.1.2 4 (by omega) (by omega)).2]; decide) ?_
  have hD9 : MDr (h8.set (m + 4) (Sum.inl ((A8 4).set 20 (iI (5))))) m (fun _ => 0) (upA A8 4 ((A8 4).set 20 (iI (5)))) rm_7 := MDr.lean (a := 0) (b := 1) (l := 5) hD8 ok_rm_6.1.1 (by decide) (by decide)
  have hfr9 : ∀ q, q < m → (h8.set (m + 4) (Sum.inl ((A8 4).set 20 (iI (5)))))[q]? = h[q]? := fun q hq => (List.getElem?_set_ne (by omega)).trans (hfr8 q hq)
  generalize List.set h8 (m + 4) (Sum.inl ((A8 4).set 20 (iI (5)))) = h9 at hD9 hfr9 ⊢
  generalize upA A8 4 ((A8 4).set 20 (iI (5))) = A9 at hD9
  have ho9 := hD9.1.1
  have hr4_9 := (hD9.1.2 4 (by omega) (by omega)).1
  refine V.aload_n dX8_init_157 rfl ?_
  refine V.get fX8_19 dX8_init_158 ho9 rfl ?_
  refine V.bipush (v := nI 21) dX8_init_161 (by decide) ?_
  refine V.bipush (v := iI (-2)) dX8_init_163 (by decide) ?_
  refine V.iast dX8_init_165 hr4_9 rfl (by decide) (by rw [(hD9.1.2 4 (by omega) (by omega)).2]; decide) ?_
  have hD10 : MDr (h9.set (m + 4) (Sum.inl ((A9 4).set 21 (iI (-2))))) m (fun _ => 0) (upA A9 4 ((A9 4).set 21 (iI (-2)))) rm_8 := MDr.lean (a := 0) (b := 2) (l := -2) hD9 ok_rm_7.1.1 (by decide) (by decide)
  have hfr10 : ∀ q, q < m → (h9.set (m + 4) (Sum.inl ((A9 4).set 21 (iI (-2)))))[q]? = h[q]? := fun q hq => (List.getElem?_set_ne (by omega)).trans (hfr9 q hq)
  generalize List.set h9 (m + 4) (Sum.inl ((A9 4).set 21 (iI (-2)))) = h10 at hD10 hfr10 ⊢
  generalize upA A9 4 ((A9 4).set 21 (iI (-2))) = A10 at hD10
  have ho10 := hD10.1.1
  have hr4_10 := (hD10.1.2 4 (by omega) (by omega)).1
  refine V.aload_n dX8_init_166 rfl ?_
  refine V.get fX8_19 dX8_init_167 ho10 rfl ?_
  refine V.bipush (v := nI 25) dX8_init_170 (by decide) ?_
  refine V.bipush (v := nI 9) dX8_init_172 (by decide) ?_
  refine V.re (y := iI 9) (by decide) ?_
  refine V.iast dX8_init_174 hr4_10 rfl (by decide) (by rw [(hD10.1.2 4 (by omega) (by omega)).2]; decide) ?_
  have hD11 : MDr (h10.set (m + 4) (Sum.inl ((A10 4).set 25 (iI (9))))) m (fun _ => 0) (upA A10 4 ((A10 4).set 25 (iI (9)))) rm_9 := MDr.lean (a := 1) (b := 0) (l := 9) hD10 ok_rm_8.1.1 (by decide) (by decide)
  have hfr11 : ∀ q, q < m → (h10.set (m + 4) (Sum.inl ((A10 4).set 25 (iI (9)))))[q]? = h[q]? := fun q hq => (List.getElem?_set_ne (by omega)).trans (hfr10 q hq)
  generalize List.set h10 (m + 4) (Sum.inl ((A10 4).set 25 (iI (9)))) = h11 at hD11 hfr11 ⊢
  generalize upA A10 4 ((A10 4).set 25 (iI (9))) = A11 at hD11
  have ho11 := hD11.1.1
  have hr4_11 := (hD11.1.2 4 (by omega) (by omega)).1
  refine V.aload_n dX8_init_175 rfl ?_
  refine V.get fX8_19 dX8_init_176 ho11 rfl ?_
  refine V.bipush (v := nI 29) dX8_init_179 (by decide) ?_
  refine V.iconst (v := nI 3) dX8_init_181 (by decide) ?_
  refine V.re (y := iI 3) (by decide) ?_
  refine V.iast dX8_init_182 hr4_11 rfl (by decide) (by rw [(hD11.1.2 4 (by omega) (by omega)).2]; decide) ?_
  have hD12 : MDr (h11.set (m + 4) (Sum.inl ((A11 4).set 29 (iI (3))))) m (fun _ => 0) (upA A11 4 ((A11 4).set 29 (iI (3)))) rm_10 := MDr.lean (a := 1) (b := 4) (l := 3) hD11 ok_rm_9.1.1 (by decide) (by decide)
  have hfr12 : ∀ q, q < m → (h11.set (m + 4) (Sum.inl ((A11 4).set 29 (iI (3)))))[q]? = h[q]? := fun q hq => (List.getElem?_set_ne (by omega)).trans (hfr11 q hq)
  generalize List.set h11 (m + 4) (Sum.inl ((A11 4).set 29 (iI (3)))) = h12 at hD12 hfr12 ⊢
  generalize upA A11 4 ((A11 4).set 29 (iI (3))) = A12 at hD12
  have ho12 := hD12.1.1
  have hr4_12 := (hD12.1.2 4 (by omega) (by omega)).1
  refine V.aload_n dX8_init_183 rfl ?_
  refine V.get fX8_19 dX8_init_184 ho12 rfl ?_
  refine V.bipush (v := nI 34) dX8_init_187 (by decide) ?_
  refine V.bipush (v := nI 7) dX8_init_189 (by decide) ?_
  refine V.re (y := iI 7) (by decide) ?_
  refine V.iast dX8_init_191 hr4_12 rfl (by decide) (by rw [(hD12.1.2 4 (by omega) (by omega)).2]; decide) ?_
  have hD13 : MDr (h12.set (m + 4) (Sum.inl ((A12 4).set 34 (iI (7))))) m (fun _ => 0) (upA A12 4 ((A12 4).set 34 (iI (7)))) rm_11 := MDr.lean (a := 2) (b := 3) (l := 7) hD12 ok_rm_10.1.1 (by decide) (by decide)
  have hfr13 : ∀ q, q < m → (h12.set (m + 4) (Sum.inl ((A12 4).set 34 (iI (7)))))[q]? = h[q]? := fun q hq => (List.getElem?_set_ne (by omega)).trans (hfr12 q hq)
  generalize List.set h12 (m + 4) (Sum.inl ((A12 4).set 34 (iI (7)))) = h13 at hD13 hfr13 ⊢
  generalize upA A12 4 ((A12 4).set 34 (iI (7))) = A13 at hD13
  have ho13 := hD13.1.1
  have hr4_13 := (hD13.1.2 4 (by omega) (by omega)).1
  refine V.aload_n dX8_init_192 rfl ?_
  refine V.get fX8_19 dX8_init_193 ho13 rfl ?_
  refine V.bipush (v := nI 39) dX8_init_196 (by decide) ?_
  refine V.iconst (v := nI 4) dX8_init_198 (by decide) ?_
  refine V.re (y := iI 4) (by decide) ?_
  refine V.iast dX8_init_199 hr4_13 rfl (by decide) (by rw [(hD13.1.2 4 (by omega) (by omega)).2]; decide) ?_
  have hD14 : MDr (h13.set (m + 4) (Sum.inl ((A13 4).set 39 (iI (4))))) m (fun _ => 0) (upA A13 4 ((A13 4).set 39 (iI (4)))) rm_12 := MDr.lean (a := 3) (b := 2) (l := 4) hD13 ok_rm_11.1.1 (by decide) (by decide)
  have hfr14 : ∀ q, q < m → (h13.set (m + 4) (Sum.inl ((A13 4).set 39 (iI (4)))))[q]? = h[q]? := fun q hq => (List.getElem?_set_ne (by omega)).trans (hfr13 q hq)
  generalize List.set h13 (m + 4) (Sum.inl ((A13 4).set 39 (iI (4)))) = h14 at hD14 hfr14 ⊢
  generalize upA A13 4 ((A13 4).set 39 (iI (4))) = A14 at hD14
  have ho14 := hD14.1.1
  have hr4_14 := (hD14.1.2 4 (by omega) (by omega)).1
  refine V.aload_n dX8_init_200 rfl ?_
  refine V.get fX8_19 dX8_init_201 ho14 rfl ?_
  refine V.bipush (v := nI 42) dX8_init_204 (by decide) ?_
  refine V.bipush (v := iI (-6)) dX8_init_206 (by decide) ?_
  refine V.iast dX8_init_208 hr4_14 rfl (by decide) (by rw [(hD14.1.2 4 (by omega) (by omega)).2]; decide) ?_
  have hD15 : MDr (h14.set (m + 4) (Sum.inl ((A14 4).set 42 (iI (-6))))) m (fun _ => 0) (upA A14 4 ((A14 4).set 42 (iI (-6)))) rm_13 := MDr.lean (a := 3) (b := 5) (l := -6) hD14 ok_rm_12.1.1 (by decide) (by decide)
  have hfr15 : ∀ q, q < m → (h14.set (m + 4) (Sum.inl ((A14 4).set 42 (iI (-6)))))[q]? = h[q]? := fun q hq => (List.getElem?_set_ne (by omega)).trans (hfr14 q hq)
  generalize List.set h14 (m + 4) (Sum.inl ((A14 4).set 42 (iI (-6)))) = h15 at hD15 hfr15 ⊢
  generalize upA A14 4 ((A14 4).set 42 (iI (-6))) = A15 at hD15
  have ho15 := hD15.1.1
  have hr4_15 := (hD15.1.2 4 (by omega) (by omega)).1
  refine V.aload_n dX8_init_209 rfl ?_
  refine V.get fX8_19 dX8_init_210 ho15 rfl ?_
  refine V.bipush (v := nI 48) dX8_init_213 (by decide) ?_
  refine V.bipush (v := nI 8) dX8_init_215 (by decide) ?_
  refine V.re (y := iI 8) (by decide) ?_
  refine V.iast dX8_init_217 hr4_15 rfl (by decide) (by rw [(hD15.1.2 4 (by omega) (by omega)).2]; decide) ?_
  have hD16 : MDr (h15.set (m + 4) (Sum.inl ((A15 4).set 48 (iI (8))))) m (fun _ => 0) (upA A15 4 ((A15 4).set 48 (iI (8)))) rm_14 := MDr.lean (a := 4) (b := 5) (l := 8) hD15 ok_rm_13.1.1 (by decide) (by decide)
  have hfr16 : ∀ q, q < m → (h15.set (m + 4) (Sum.inl ((A15 4).set 48 (iI (8)))))[q]? = h[q]? := fun q hq => (List.getElem?_set_ne (by omega)).trans (hfr15 q hq)
  generalize List.set h15 (m + 4) (Sum.inl ((A15 4).set 48 (iI (8)))) = h16 at hD16 hfr16 ⊢
  generalize upA A15 4 ((A15 4).set 48 (iI (8))) = A16 at hD16
  have ho16 := hD16.1.1
  have hr4_16 := (hD16.1.2 4 (by omega) (by omega)).1
  refine V.aload_n dX8_init_218 rfl ?_
  refine V.get fX8_19 dX8_init_219 ho16 rfl ?_
  refine V.bipush (v := nI 53) dX8_init_222 (by decide) ?_
  refine V.iconst (v := nI 2) dX8_init_224 (by decide) ?_
  refine V.re (y := iI 2) (by decide) ?_
  refine V.iast dX8_init_225 hr4_16 rfl (by decide) (by rw [(hD16.1.2 4 (by omega) (by omega)).2]; decide) ?_
  have hD17 : MDr (h16.set (m + 4) (Sum.inl ((A16 4).set 53 (iI (2))))) m (fun _ => 0) (upA A16 4 ((A16 4).set 53 (iI (2)))) rm_15 := MDr.lean (a := 5) (b := 4) (l := 2) hD16 ok_rm_14.1.1 (by decide) (by decide)
  have hfr17 : ∀ q, q < m → (h16.set (m + 4) (Sum.inl ((A16 4).set 53 (iI (2)))))[q]? = h[q]? := fun q hq => (List.getElem?_set_ne (by omega)).trans (hfr16 q hq)
  generalize List.set h16 (m + 4) (Sum.inl ((A16 4).set 53 (iI (2)))) = h17 at hD17 hfr17 ⊢
  generalize upA A16 4 ((A16 4).set 53 (iI (2))) = A17 at hD17
  have ho17 := hD17.1.1
  have hr4_17 := (hD17.1.2 4 (by omega) (by omega)).1
  refine V.aload_n dX8_init_226 rfl ?_
  refine V.get fX8_19 dX8_init_227 ho17 rfl ?_
  refine V.bipush (v := nI 49) dX8_init_230 (by decide) ?_
  refine V.bipush (v := nI 9) dX8_init_232 (by decide) ?_
  refine V.re (y := iI 9) (by decide) ?_
  refine V.iast dX8_init_234 hr4_17 rfl (by decide) (by rw [(hD17.1.2 4 (by omega) (by omega)).2]; decide) ?_
  have hD18 : MDr (h17.set (m + 4) (Sum.inl ((A17 4).set 49 (iI (9))))) m (fun _ => 0) (upA A17 4 ((A17 4).set 49 (iI (9)))) rm_16 := MDr.lean (a := 5) (b := 0) (l := 9) hD17 ok_rm_15.1.1 (by decide) (by decide)
  have hfr18 : ∀ q, q < m → (h17.set (m + 4) (Sum.inl ((A17 4).set 49 (iI (9)))))[q]? = h[q]? := fun q hq => (List.getElem?_set_ne (by omega)).trans (hfr17 q hq)
  generalize List.set h17 (m + 4) (Sum.inl ((A17 4).set 49 (iI (9)))) = h18 at hD18 hfr18 ⊢
  generalize upA A17 4 ((A17 4).set 49 (iI (9))) = A18 at hD18
  have ho18 := hD18.1.1
  refine V.aload_n dX8_init_235 rfl ?_
  refine V.callV (As := []) (ci := 8) cX8_50 (m_lays g h18 m _ A18 hD18.1) dX8_init_236 (Nat.le_of_ble_eq_true rfl) rfl ho18 rfl rfl (Nat.le_of_ble_eq_true rfl) (fun v_ h99 hp_ => ?_)
  obtain ⟨rfl, hw99, hf99⟩ := hp_
  dsimp only [Option.toList, List.nil_append]
  refine V.vret dX8_init_239 rfl ⟨rfl, ⟨_, _, ⟨hw99, ?_, ?_⟩, ?_, fun j hj => absurd hj (Nat.not_lt_zero _), ?_, fun j hj => absurd hj (Nat.not_lt_zero _), ?_, fun j hj => absurd hj (Nat.not_lt_zero _), ?_, fun j hj => absurd hj (Nat.not_lt_zero _)⟩, fun q hq => (hf99.2 q (by omega)).trans (hfr18 q hq)⟩
  · rw [upA_n (by omega), upA_s]; exact hD18.2.1
  · rw [upA_s]; exact hD18.2.2.1
  · rw [upF_n (by omega), upF_n (by omega), upF_n (by omega)]; rfl
  · rw [upF_n (by omega), upF_n (by omega), upF_s]; rfl
  · rw [upF_n (by omega), upF_s]; rfl
  · rw [upF_s]; rfl
