set_option maxHeartbeats 1000000 in
theorem m_isFigure (g : VG) (h : VHp) (v : Int) (hv0 : -1000000 ≤ v ∧ v < 1000000) : VE g mX8_isFigure 1 false (0, 0) [.int (iI v)] h (VP (vB (((48 : Nat) : Int) ≤ v ∧ v ≤ ((57 : Nat) : Int))) h) := by
  refine VE.of (by decide) rfl (Nat.le_of_ble_eq_true rfl) ?_
  show V _ _ 0 [some (.int (iI v))] [] h
  refine V.iload_n dX8_isFigure_0 rfl ?_
  refine V.bipush (v := nI 48) dX8_isFigure_1 (by decide) ?_
  refine V.bipush (v := nI 57) dX8_isFigure_3 (by decide) ?_
  refine V.toZ1 ?_
  refine V.toZ2 ?_
  refine V.callSp cX8_53 (m_in g h _ _ _ (by omega) (by omega) (by omega)) dX8_isFigure_5 (Nat.le_of_ble_eq_true rfl) rfl rfl (Nat.le_of_ble_eq_true rfl) ?_
  exact V.zret dX8_isFigure_8 rfl (by first | exact vB_01 | decide) ⟨rfl, rfl⟩
