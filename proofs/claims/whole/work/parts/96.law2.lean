set_option maxHeartbeats 4000000 in
theorem law_V (g : VG) (hL : g.2.2.length ≤ 320) : V (g, mL_law, 20, true, 0, (fun v _ => v = some (.int 1))) (104, 2552) 0 [some (.ref 1000000), none, none, none] [] [] := by
  refine V.mk (h := []) (b := (12, 1054)) (b1 := (91, 1488)) (n := 0) (P := fun h' => CAt h' 0 T0 ∧ h'.length = 92) rfl (ci := 7) (C := RX7) (T := TX7) (ty := tyX7) (fs := [.null, .null, .null, .null, .null, .null, .null, .null, .null, .int 0]) rfl ⟨k9_X7, w9_56, w9_57, w9_41⟩ tyX7_ok (by decide +kernel) (fun _ => rfl) rfl vwn ⟨vlc (vor2 (by decide)) (vl0 (vl0 (vl0 vln))), vfn⟩ (by decide) dL_law_0 dL_law_3 dL_law_4 cL_9 (k_HV g) (Nat.le_of_ble_eq_true rfl) (Nat.le_of_ble_eq_true rfl) (fun h1 hp => ?_)
  obtain ⟨hC, hl⟩ := hp
  refine V.astore_n (i := 1) dL_law_7 rfl rfl rfl ?_
  dsimp only [List.set]
  refine V.mk (h := h1) (b := (0, 0)) (b1 := (11, 1038)) (n := 92) (P := fun h' => MAt h' 92 T0 ∧ ∀ q, q < 92 → h'[q]? = h1[q]?) hl (ci := 8) (C := RX8) (T := TX8) (ty := tyX8) (fs := [.null, .int 0, .null, .null, .null, .null, .null, .int 0, .null, .int 0, .null, .int 0, .int 0, .null, .null, .null]) rfl ⟨k9_X8, w9_686, w9_687, w9_53⟩ tyX8_ok (by decide +kernel) (fun _ => rfl) rfl (hC.wf hl) ⟨vlc (vor2 (by decide)) (vlc (vor (by decide)) (vl0 (vl0 vln))), vfn⟩ (by decide) dL_law_8 dL_law_11 dL_law_12 cL_12 (k_M g h1 92 hl (hC.wf hl) (by decide)) (Nat.le_of_ble_eq_true rfl) (Nat.le_of_ble_eq_true rfl) (fun h2 hp => ?_)
  obtain ⟨hM, hq⟩ := hp
  refine V.astore_n (i := 2) dL_law_15 rfl rfl rfl ?_
  dsimp only [List.set]
  refine V.iconst (v := nI 0) dL_law_16 (by decide) ?_
  refine V.istore_n (i := 3) dL_law_17 rfl rfl rfl ?_
  dsimp only [List.set]
  exact law_loop g hL 0 (by omega) h2 T0 (hC.ext (fun x hx => hq x (by omega))) hM ok_T0
