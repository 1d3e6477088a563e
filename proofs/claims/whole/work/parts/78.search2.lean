/-- the row of sides that is noted -/
def SRow (N : Nat) (r : List Int32) (u : Nat) : Prop := ∀ k, u ≤ k → k < lnG N → r[k]? = some (nI (N / 4 ^ (lnG N - 1 - k) % 4))
def NrPost (s N : Nat) (h : VHp) : VPost := fun v h' => v = none ∧ (∃ f c b d r, SRaw h' s (nI (lnG N)) f c b d r ∧ SRow N r 0) ∧ VFr s (s + 6) h h'

set_option maxHeartbeats 1000000 in
theorem e_noteRow (g : VG) (h : VHp) (s e n : Nat) (fs cd cf : Nat → Nat) (x : Int32) (ff cc bb dd rr : List Int32) (hW : SRaw h s x ff cc bb dd rr) (hM : SMn fs cd cf n ff cc bb dd) (he : e < 81) (he0 : cd e ≠ 0) (hl : lnG (cd e) ≤ 80) : VE g mX4_noteRow 0 false (0, 0) [.ref s, .int (nI e)] h (NrPost s (cd e) h) := by
  refine VE.of (by decide) rfl (Nat.le_of_ble_eq_true rfl) ?_
  obtain ⟨hso, hs1, hs2, hs3, hs4, hs5, l1, l2, l3, l4, l5⟩ := id hW
  obtain ⟨m1, m2, m3⟩ := id hM
  have L : ∀ u, u ≤ lnG (cd e) → ∀ (h1 : VHp) (sp : Nat) (z : Int) (rr : List Int32), SRaw h1 s (nI (lnG (cd e))) ff cc bb dd rr → z = ((lnG (cd e) : Nat) : Int) - 1 - ((u : Nat) : Int) → sp < 81 → cd sp = cd e / 4 ^ u → lnG (cd sp) + u = lnG (cd e) → SRow (cd e) rr (lnG (cd e) - u) → VFr s (s + 6) h h1 → V (g, mX4_noteRow, 0, false, h.length, NrPost s (cd e) h) (0, 0) 19 [some (.ref s), some (.int (nI e)), some (.int (nI sp)), some (.int (iI z))] [] h1 := by
    refine vloop (lnG (cd e)) (fun u ih hi => ?_)
    intro h1 sp z rr hW1 hz hsp hcd hln hrow hf1
    obtain ⟨hso, hs1, hs2, hs3, hs4, hs5, l1, l2, l3, l4, l5⟩ := id hW1
    refine V.iload_n dX4_noteRow_19 rfl ?_
    refine V.if_ltZ 48 dX4_noteRow_20 (by decide) (by omega) (fun hc1 => ?_) (fun hc1 => ?_)
    · skip
      exact V.vret dX4_noteRow_48 rfl ⟨rfl, ⟨ff, cc, bb, dd, rr, hW1, fun k k1 k2 => hrow k (by omega) k2⟩, hf1⟩
    · skip
      have h4 : 4 ≤ cd sp := by
        rcases Nat.lt_or_ge (cd sp) 4 with q | q
        · rw [ln_small q] at hln; omega
        · exact q
      have h4b := m3 sp hsp h4
      refine V.aload_n dX4_noteRow_23 rfl ?_
      refine V.get fX4_24 dX4_noteRow_24 hso rfl ?_
      refine V.iload_n dX4_noteRow_27 rfl ?_
      refine V.re (iI_toN (n := z.toNat) (by omega)) ?_
      refine V.aload_n dX4_noteRow_28 rfl ?_
      refine V.get fX4_18 dX4_noteRow_29 hso rfl ?_
      refine V.iload_n dX4_noteRow_32 rfl ?_
      refine V.iald dX4_noteRow_33 hs3 rfl (by omega) h4b.1.1 ?_
      refine V.iast dX4_noteRow_34 hs5 rfl (by omega) (by omega) ?_
      have hW2 := hW1.r (rr.set z.toNat (nI (cd sp % 4))) (by rw [List.length_set]; omega)
      have hf2 := hf1.tr (VFr.set (h := h1) (lo := s) (hi := s + 6) (a := s + 5) (c := Sum.inl (rr.set z.toNat (nI (cd sp % 4)))) (by omega) (by omega))
      generalize List.set h1 (s + 5) (Sum.inl (rr.set z.toNat (nI (cd sp % 4)))) = h2 at hW2 hf2 ⊢
      obtain ⟨hso, hs1, hs2, hs3, hs4, hs5, -⟩ := id hW2
      refine V.aload_n dX4_noteRow_35 rfl ?_
      refine V.get fX4_15 dX4_noteRow_36 hso rfl ?_
      refine V.iload_n dX4_noteRow_39 rfl ?_
      refine V.iald dX4_noteRow_40 hs2 rfl (by omega) h4b.1.2 ?_
      refine V.istore_n (i := 2) dX4_noteRow_41 rfl rfl rfl ?_
      dsimp only [List.set]
      refine V.iinc (v := iI (z + (-1))) dX4_noteRow_42 rfl (iI_add _ _) rfl rfl ?_
      dsimp only [List.set]
      refine V.goto 19 dX4_noteRow_45 (by decide) ?_
      refine ih (u + 1) (by omega) (by omega) _ (cf sp) _ _ hW2 (by omega) h4b.2.1 (by rw [h4b.2.2, hcd, div4]) (by rw [h4b.2.2]; have q := ln_big (n := cd sp) (by omega); omega) (fun k k1 k2 => ?_) hf2
      by_cases q : k = z.toNat
      · rw [q, List.getElem?_set_self (by omega), hcd, show lnG (cd e) - 1 - z.toNat = u by omega]
      · rw [List.getElem?_set_ne (by omega)]; exact hrow k (by omega) k2
  show V _ _ 0 [some (.ref s), some (.int (nI e)), none, none] [] h
  refine V.aload_n dX4_noteRow_0 rfl ?_
  refine V.aload_n dX4_noteRow_1 rfl ?_
  refine V.get fX4_21 dX4_noteRow_2 hso rfl ?_
  refine V.iload_n dX4_noteRow_5 rfl ?_
  refine V.iald dX4_noteRow_6 hs4 rfl (by omega) (m2 _ (by omega)) ?_
  refine V.re (y := nI (lnG (cd e))) (by rw [ds_some he0]; rfl) ?_
  refine V.puti fX4_27 dX4_noteRow_7 hso (Nat.le_of_ble_eq_true rfl) ?_
  dsimp only [List.set]
  have hW2 := hW.x (nI (lnG (cd e)))
  have hf2 := VFr.set (h := h) (lo := s) (hi := s + 6) (a := s) (c := Sum.inr (Sum.inr (4, [Value.ref (s + 1), Value.ref (s + 2), Value.ref (s + 3), Value.ref (s + 4), Value.ref (s + 5), Value.int (nI (lnG (cd e)))]))) (by omega) (by omega)
  generalize List.set h s (Sum.inr (Sum.inr (4, [Value.ref (s + 1), Value.ref (s + 2), Value.ref (s + 3), Value.ref (s + 4), Value.ref (s + 5), Value.int (nI (lnG (cd e)))]))) = h2 at hW2 hf2 ⊢
  have hso2 := hW2.1
  refine V.iload_n dX4_noteRow_10 rfl ?_
  refine V.istore_n (i := 2) dX4_noteRow_11 rfl rfl rfl ?_
  dsimp only [List.set]
  refine V.aload_n dX4_noteRow_12 rfl ?_
  refine V.get fX4_27 dX4_noteRow_13 hso2 rfl ?_
  refine V.iconst (v := nI 1) dX4_noteRow_16 (by decide) ?_
  refine V.toZ1 ?_
  refine V.toZ2 ?_
  refine V.isubZ dX4_noteRow_17 ?_
  refine V.istore_n (i := 3) dX4_noteRow_18 rfl rfl rfl ?_
  dsimp only [List.set]
  exact L 0 (by omega) h2 e _ rr hW2 (by omega) he (by rw [Nat.pow_zero, Nat.div_one]) (by omega) (fun k k1 k2 => absurd k2 (by omega)) hf2

def lenO (o : Option Nat) : Int32 := match o with
  | none => iI (-4)
  | some N => nI (lnG N)
def SRes (h : VHp) (s : Nat) (o : Option Nat) : Prop := ∃ f c b d r, SRaw h s (lenO o) f c b d r ∧ ∀ N, o = some N → SRow N r 0 ∧ lnG N ≤ 80

set_option maxHeartbeats 1000000 in
theorem e_sideAt (g : VG) (h : VHp) (s : Nat) (o : Option Nat) (hS : SRes h s o) (k : Int) (hk : 0 ≤ k ∧ k < 2147483648) : VE g mX4_sideAt 1 false (0, 0) [.ref s, .int (iI k)] h (VP (a_stepsO o k) h) := by
  refine VE.of (by decide) rfl (Nat.le_of_ble_eq_true rfl) ?_
  obtain ⟨ff, cc, bb, dd, rr, hW, hN⟩ := hS
  obtain ⟨hso, hs1, hs2, hs3, hs4, hs5, l1, l2, l3, l4, l5⟩ := id hW
  cases o with
  | none =>
    show V _ _ 0 [some (.ref s), some (.int (iI k))] [] h
    refine V.iload_n dX4_sideAt_0 rfl ?_
    refine V.aload_n dX4_sideAt_1 rfl ?_
    refine V.get fX4_27 dX4_sideAt_2 hso rfl ?_
    refine V.callSp cX4_55 (e_isBelow g h _ _ (by omega) (by omega)) dX4_sideAt_5 (Nat.le_of_ble_eq_true rfl) rfl rfl (Nat.le_of_ble_eq_true rfl) ?_
    refine V.if_eqB 20 dX4_sideAt_8 (by decide) (fun hc1 => ?_) (fun hc1 => ?_)
    · skip
      refine V.bipush (v := iI (-4)) dX4_sideAt_20 (by decide) ?_
      exact V.iret dX4_sideAt_22 rfl ⟨rfl, rfl⟩
    · exact absurd hc1.2 (by omega)
  | some N =>
    obtain ⟨hrow, hl80⟩ := hN N rfl
    show V _ _ 0 [some (.ref s), some (.int (iI k))] [] h
    refine V.iload_n dX4_sideAt_0 rfl ?_
    refine V.aload_n dX4_sideAt_1 rfl ?_
    refine V.get fX4_27 dX4_sideAt_2 hso rfl ?_
    refine V.toZ1 ?_
    refine V.callSp cX4_55 (e_isBelow g h _ _ (by omega) (by omega)) dX4_sideAt_5 (Nat.le_of_ble_eq_true rfl) rfl rfl (Nat.le_of_ble_eq_true rfl) ?_
    refine V.if_eqB 20 dX4_sideAt_8 (by decide) (fun hc1 => ?_) (fun hc1 => ?_)
    · skip
      refine V.bipush (v := iI (-4)) dX4_sideAt_20 (by decide) ?_
      exact V.iret dX4_sideAt_22 rfl ⟨by unfold a_stepsO; dsimp only; rw [if_neg (by omega)]; first | (rw [if_pos (by omega)]; done) | (rw [if_neg (by omega)]; done), rfl⟩
    · skip
      refine V.aload_n dX4_sideAt_11 rfl ?_
      refine V.get fX4_24 dX4_sideAt_12 hso rfl ?_
      refine V.iload_n dX4_sideAt_15 rfl ?_
      refine V.re (iI_toN (n := k.toNat) (by omega)) ?_
      refine V.iald dX4_sideAt_16 hs5 rfl (by omega) (hrow _ (by omega) (by omega)) ?_
      refine V.goto 22 dX4_sideAt_17 (by decide) ?_
      exact V.iret dX4_sideAt_22 rfl ⟨by unfold a_stepsO; dsimp only; rw [if_neg (by omega)]; first | (rw [if_pos (by omega)]; done) | (rw [if_neg (by omega)]; done), rfl⟩
