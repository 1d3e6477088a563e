/-- the letter at k, as the reference has it: -1 past the end -/
def lzF (tx : List Nat) (k : Nat) : Int := if k < tx.length then ((tx.getD k 0 : Nat) : Int) else -1
/-- the reference's cells hold this text -/
def MTx (h : VHp) (m : Nat) (F : MF) (A : MA) (tx : List Nat) : Prop := MRaw h m F A ∧ F 0 = nI tx.length ∧ tx.length ≤ 200 ∧ (∀ i, i < tx.length → (A 1)[i]? = some (nI (tx.getD i 0))) ∧ ∀ i, i < tx.length → tx.getD i 0 < 100000

set_option maxHeartbeats 1000000 in
theorem m_letterAt (g : VG) (h : VHp) (m : Nat) (F : MF) (A : MA) (tx : List Nat) (hT : MTx h m F A tx) (k : Nat) (hk : k < 1000) : VE g mX8_letterAt 0 false (0, 0) [.ref m, .int (nI k)] h (VP (iI (lzF tx k)) h) := by
  obtain ⟨hw, hF0, hl, hTx, hlt⟩ := id hT
  obtain ⟨ho, hA⟩ := id hw
  refine VE.of (by decide) rfl (Nat.le_of_ble_eq_true rfl) ?_
  show V _ _ 0 [some (.ref m), some (.int (nI k))] [] h
  refine V.iload_n dX8_letterAt_0 rfl ?_
  refine V.aload_n dX8_letterAt_1 rfl ?_
  refine V.get fX8_57 dX8_letterAt_2 ho rfl ?_
  refine V.re hF0 ?_
  refine V.icmp_geN 17 dX8_letterAt_5 (by decide) (by omega) (by omega) (fun hc1 => ?_) (fun hc1 => ?_)
  · skip
    refine V.iconst (v := iI (-1)) dX8_letterAt_17 (by decide) ?_
    exact V.iret dX8_letterAt_18 rfl ⟨by unfold lzF; first | (rw [if_pos (by omega)]; first | done | rfl | exact congrArg _ (congrArg _ (iI_nat _).symm) | exact congrArg _ (congrArg _ (iI_nat _))) | (rw [if_neg (by omega)]; first | done | rfl), rfl⟩
  · skip
    refine V.aload_n dX8_letterAt_8 rfl ?_
    refine V.get fX8_7 dX8_letterAt_9 ho rfl ?_
    refine V.iload_n dX8_letterAt_12 rfl ?_
    refine V.iald dX8_letterAt_13 (hA 1 (by omega) (by omega)).1 rfl (by omega) (hTx _ (by omega)) ?_
    refine V.goto 18 dX8_letterAt_14 (by decide) ?_
    exact V.iret dX8_letterAt_18 rfl ⟨by unfold lzF; first | (rw [if_pos (by omega)]; first | done | rfl | exact congrArg _ (congrArg _ (iI_nat _).symm) | exact congrArg _ (congrArg _ (iI_nat _))) | (rw [if_neg (by omega)]; first | done | rfl), rfl⟩
