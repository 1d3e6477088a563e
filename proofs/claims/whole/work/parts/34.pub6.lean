set_option maxHeartbeats 1000000 in
theorem c_stand (g : VG) (h : VHp) (c : Nat) (T : Sy) (hC : CAt h c T) (hO : SyOk T) (p q w what : Int) (hp : -2147483648 ≤ p ∧ p < 2147483648) (hq0 : -2147483648 ≤ q ∧ q < 2147483648) (hw : -2147483648 ≤ w ∧ w < 2147483648) (hwt : -2147483648 ≤ what ∧ what < 2147483648) : VE g mX7_stand 6 false (0, 0) [.ref c, .int (iI p), .int (iI q), .int (iI w), .int (iI what)] h (CP c (a_stand T p q w what) T h) := by
  obtain ⟨hc0, hT, ⟨nm, hQ⟩, hR, ⟨Q, hQr⟩, hP, hN, hSe, hCo, hKe⟩ := id hC
  obtain ⟨hOt, hOs, hOn, hOp, hOk, hOns, hOpk, hOkk⟩ := id hO
  have hB := hOs.1
  obtain ⟨lt, hto, hta, htl, htn, hte⟩ := id hT
  obtain ⟨nx, hnx, hpl, hpo, hpa, hp4, hp5⟩ := id hP
  obtain ⟨hka, hkl, hk2, hk3⟩ := id hKe
  obtain ⟨kd, xs, ys, vs, ll, ho, hk, hx, hy, hv, hl, lk, lx, ly, lv, lL, ek, ex, ey, ev, eL⟩ := id hR
  obtain ⟨bn, bW, bH, bP, bL⟩ := id hB
  refine VE.of (by decide) rfl (Nat.le_of_ble_eq_true rfl) ?_
  have L : ((is2 T p q ∧ 0 ≤ w ∧ w < ((8 : Nat) : Int)) ∧ 0 ≤ what ∧ what < ((2 : Nat) : Int)) → ∀ x, x ≤ rW (tS T) → ∀ (h1 : VHp) (Sx : Rm) (v8 : Option Value), RoomAt h1 (c + 11) Sx → RmB Sx → rN Sx = rN (tS T) → (∀ x y, rPut Sx p.toNat x y = rPut (tS T) p.toNat x y) → CAt h1 c T → VFr c (c + 92) h h1 → V (g, mX7_stand, 6, false, h.length, CP c (a_stand T p q w what) T h) (0, 0) 53 [some (.ref c), some (.int (iI p)), some (.int (iI q)), some (.int (iI w)), some (.int (iI what)), some (.int (nI ((stX (tS T) p.toNat q.toNat w.toNat x).1))), some (.int (eO (stX (tS T) p.toNat q.toNat w.toNat x).2)), some (.int (nI x)), v8] [] h1 := by
    intro hcd
    have hdl : ∀ x y w9, draftF (rPut (tS T) p.toNat x y) q.toNat = some w9 → w9 < 1000 := fun x y w9 z => by have := draftF_lt z; omega
    have hwl : ∀ x y i9, whoF (tS T) x y (rN (tS T)) = some i9 → i9 < 1000 := fun x y i9 z => by have := (whoF_lt z).1; omega
    refine vloop (rW (tS T)) (fun x ih hi => ?_)
    intro h1 Sx v8 hR1 hBx hnx hpx hC1 hf1
    have hcc := hC1.1
    have hxl := stX_le hB (p := p.toNat) (q := q.toNat) (w := w.toNat) x
    have LI : x < rW (tS T) → ∀ y, y ≤ rH (tS T) → ∀ (h1 : VHp) (Sx : Rm), RoomAt h1 (c + 11) Sx → RmB Sx → rN Sx = rN (tS T) → (∀ x y, rPut Sx p.toNat x y = rPut (tS T) p.toNat x y) → CAt h1 c T → VFr c (c + 92) h h1 → V (g, mX7_stand, 6, false, h.length, CP c (a_stand T p q w what) T h) (0, 0) 68 [some (.ref c), some (.int (iI p)), some (.int (iI q)), some (.int (iI w)), some (.int (iI what)), some (.int (nI ((stY (tS T) p.toNat q.toNat w.toNat x (stX (tS T) p.toNat q.toNat w.toNat x) y).1))), some (.int (eO (stY (tS T) p.toNat q.toNat w.toNat x (stX (tS T) p.toNat q.toNat w.toNat x) y).2)), some (.int (nI x)), some (.int (nI y))] [] h1 := by
      intro hxw
      refine vloop (rH (tS T)) (fun y ih2 hj => ?_)
      intro h1 Sx hR1 hBx hnx hpx hC1 hf1
      have hcc := hC1.1
      have hyl := stY_le (S := tS T) (p := p.toNat) (q := q.toNat) (w := w.toNat) (x := x) (a := (stX (tS T) p.toNat q.toNat w.toNat x)) y
      refine V.iload dX7_stand_68 rfl ?_
      refine V.aload_n dX7_stand_70 rfl ?_
      refine V.get fX7_26 dX7_stand_71 hcc rfl ?_
      refine V.get fX7_197 dX7_stand_74 (RoomAt.obj hC1.2.2.2.1) rfl ?_
      refine V.icmp_geN 150 dX7_stand_77 (by decide) (by omega) (by omega) (fun hc1 => ?_) (fun hc1 => ?_)
      · skip
        refine V.iincN (n := 1) dX7_stand_150 rfl rfl rfl ?_
        dsimp only [List.set]
        refine V.goto 53 dX7_stand_153 (by decide) ?_
        obtain rfl : y = rH (tS T) := (by omega)
        exact ih (x + 1) (by omega) (by omega) _ Sx _ hR1 hBx hnx hpx hC1 hf1
      · skip
        refine V.aload_n dX7_stand_80 rfl ?_
        refine V.get fX7_26 dX7_stand_81 hcc rfl ?_
        refine V.iload_n dX7_stand_84 rfl ?_
        refine V.re (iI_toN (n := p.toNat) (by omega)) ?_
        refine V.iload dX7_stand_85 rfl ?_
        refine V.iload dX7_stand_87 rfl ?_
        refine V.callVp (ci := 3) cX7_200 (e_isFreeFor g h1 (c + 5) (tS T) hC1.2.2.2.1 hB p.toNat x y (by omega) (by omega) (by omega)) dX7_stand_89 (Nat.le_of_ble_eq_true rfl) rfl (RoomAt.obj hC1.2.2.2.1) rfl rfl (Nat.le_of_ble_eq_true rfl) ?_
        refine V.if_neB 98 dX7_stand_92 (by decide) (fun hc2 => ?_) (fun hc2 => ?_)
        · skip
          have hfr := hc2
          refine V.aload_n dX7_stand_98 rfl ?_
          refine V.get fX7_30 dX7_stand_99 hcc rfl ?_
          refine V.iload_n dX7_stand_102 rfl ?_
          refine V.re (iI_toN (n := p.toNat) (by omega)) ?_
          refine V.iload dX7_stand_103 rfl ?_
          refine V.iload dX7_stand_105 rfl ?_
          refine V.callV (ci := 3) cX7_204 (e_put g h1 (c + 11) Sx hR1 hBx p.toNat x y (by omega)) dX7_stand_107 (Nat.le_of_ble_eq_true rfl) rfl (RoomAt.obj hR1) rfl rfl (Nat.le_of_ble_eq_true rfl) (fun v_ h_ hp_ => ?_)
          obtain ⟨rfl, hR5, hf5⟩ := hp_
          dsimp only [Option.toList, List.nil_append]
          rw [hpx] at hR5
          have hC5 := hC1.trial hf5 hR5
          replace hcc := hC5.1
          have hf6 := hf1.tr (hf5.wide (by omega) (by omega))
          have hBq : RmB (rPut (tS T) p.toNat x y) := put_B hB (by omega) (by omega)
          refine V.aload_n dX7_stand_110 rfl ?_
          refine V.get fX7_30 dX7_stand_111 hcc rfl ?_
          refine V.iload_n dX7_stand_114 rfl ?_
          refine V.re (iI_toN (n := q.toNat) (by omega)) ?_
          refine V.callVp (ci := 3) cX7_120 (e_draft g _ (c + 11) (rPut (tS T) p.toNat x y) hR5 hBq q.toNat (by show _ < rN (tS T); omega)) dX7_stand_115 (Nat.le_of_ble_eq_true rfl) rfl (RoomAt.obj hR5) rfl rfl (Nat.le_of_ble_eq_true rfl) ?_
          refine V.iload_n dX7_stand_118 rfl ?_
          refine V.re (iI_toN (n := w.toNat) (by omega)) ?_
          refine V.icmp_ne 144 dX7_stand_119 (by decide) (fun hc3 => ?_) (fun hc3 => ?_)
          · skip
            have hno : ¬ stOk (tS T) p.toNat q.toNat w.toNat x y := fun z => hc3 ((eO_some (hdl x y) (by omega)).mpr z.2)
            refine V.iincN (n := 1) dX7_stand_144 rfl rfl rfl ?_
            dsimp only [List.set]
            refine V.goto 68 dX7_stand_147 (by decide) ?_
            first | (have z := ih2 (y + 1) (by omega) (by omega) _ (rPut (tS T) p.toNat x y) hR5 hBq rfl (fun a b => put_put) hC5 hf6; first | (rw [stY_neg hno] at z; exact z) | (rw [stY_pos hyes, if_pos (by omega)] at z; exact z) | (rw [stY_pos hyes, if_neg (by omega)] at z; exact z)) | (have z := ih2 (y + 1) (by omega) (by omega) _ Sx hR1 hBx hnx hpx hC1 hf1; rw [stY_neg hno] at z; exact z)
          · skip
            have hyes : stOk (tS T) p.toNat q.toNat w.toNat x y := ⟨hfr, (eO_some (hdl x y) (by omega)).mp hc3⟩
            refine V.iload dX7_stand_122 rfl ?_
            refine V.if_neN 137 dX7_stand_124 (by decide) (by omega) (fun hc4 => ?_) (fun hc4 => ?_)
            · skip
              refine V.iload dX7_stand_137 rfl ?_
              refine V.istore dX7_stand_139 rfl rfl ?_
              dsimp only [List.set]
              refine V.iincN (n := 1) dX7_stand_141 rfl rfl rfl ?_
              dsimp only [List.set]
              refine V.iincN (n := 1) dX7_stand_144 rfl rfl rfl ?_
              dsimp only [List.set]
              refine V.goto 68 dX7_stand_147 (by decide) ?_
              first | (have z := ih2 (y + 1) (by omega) (by omega) _ (rPut (tS T) p.toNat x y) hR5 hBq rfl (fun a b => put_put) hC5 hf6; first | (rw [stY_neg hno] at z; exact z) | (rw [stY_pos hyes, if_pos (by omega)] at z; exact z) | (rw [stY_pos hyes, if_neg (by omega)] at z; exact z)) | (have z := ih2 (y + 1) (by omega) (by omega) _ Sx hR1 hBx hnx hpx hC1 hf1; rw [stY_neg hno] at z; exact z)
            · skip
              refine V.iload dX7_stand_127 rfl ?_
              refine V.iload dX7_stand_129 rfl ?_
              refine V.callSp cX7_163 (e_placeNumber g _ _ _) dX7_stand_131 (Nat.le_of_ble_eq_true rfl) rfl rfl (Nat.le_of_ble_eq_true rfl) ?_
              refine V.goto 139 dX7_stand_134 (by decide) ?_
              refine V.istore dX7_stand_139 rfl rfl ?_
              dsimp only [List.set]
              refine V.iincN (n := 1) dX7_stand_141 rfl rfl rfl ?_
              dsimp only [List.set]
              refine V.iincN (n := 1) dX7_stand_144 rfl rfl rfl ?_
              dsimp only [List.set]
              refine V.goto 68 dX7_stand_147 (by decide) ?_
              first | (have z := ih2 (y + 1) (by omega) (by omega) _ (rPut (tS T) p.toNat x y) hR5 hBq rfl (fun a b => put_put) hC5 hf6; first | (rw [stY_neg hno] at z; exact z) | (rw [stY_pos hyes, if_pos (by omega)] at z; exact z) | (rw [stY_pos hyes, if_neg (by omega)] at z; exact z)) | (have z := ih2 (y + 1) (by omega) (by omega) _ Sx hR1 hBx hnx hpx hC1 hf1; rw [stY_neg hno] at z; exact z)
        · skip
          have hno : ¬ stOk (tS T) p.toNat q.toNat w.toNat x y := fun z => hc2 z.1
          refine V.goto 144 dX7_stand_95 (by decide) ?_
          refine V.iincN (n := 1) dX7_stand_144 rfl rfl rfl ?_
          dsimp only [List.set]
          refine V.goto 68 dX7_stand_147 (by decide) ?_
          first | (have z := ih2 (y + 1) (by omega) (by omega) _ (rPut (tS T) p.toNat x y) hR5 hBq rfl (fun a b => put_put) hC5 hf6; first | (rw [stY_neg hno] at z; exact z) | (rw [stY_pos hyes, if_pos (by omega)] at z; exact z) | (rw [stY_pos hyes, if_neg (by omega)] at z; exact z)) | (have z := ih2 (y + 1) (by omega) (by omega) _ Sx hR1 hBx hnx hpx hC1 hf1; rw [stY_neg hno] at z; exact z)
    refine V.iload dX7_stand_53 rfl ?_
    refine V.aload_n dX7_stand_55 rfl ?_
    refine V.get fX7_26 dX7_stand_56 hcc rfl ?_
    refine V.get fX7_194 dX7_stand_59 (RoomAt.obj hC1.2.2.2.1) rfl ?_
    refine V.icmp_geN 156 dX7_stand_62 (by decide) (by omega) (by omega) (fun hc1 => ?_) (fun hc1 => ?_)
    · skip
      refine V.iload dX7_stand_156 rfl ?_
      refine V.if_neZ 166 dX7_stand_158 (by decide) (by omega) (fun hc2 => ?_) (fun hc2 => ?_)
      · skip
        refine V.iload dX7_stand_166 rfl ?_
        obtain rfl : x = rW (tS T) := (by omega)
        exact V.iret dX7_stand_168 rfl ⟨by unfold a_stand; rw [if_pos hcd]; first | (rw [if_pos (by omega)]; done) | (rw [if_neg (by omega)]; done), hC1, hf1⟩
      · skip
        refine V.iload dX7_stand_161 rfl ?_
        refine V.goto 168 dX7_stand_163 (by decide) ?_
        obtain rfl : x = rW (tS T) := (by omega)
        exact V.iret dX7_stand_168 rfl ⟨by unfold a_stand; rw [if_pos hcd]; first | (rw [if_pos (by omega)]; done) | (rw [if_neg (by omega)]; done), hC1, hf1⟩
    · skip
      refine V.iconst (v := nI 0) dX7_stand_65 (by decide) ?_
      refine V.istore dX7_stand_66 rfl rfl ?_
      dsimp only [List.set]
      exact LI (by omega) 0 (by omega) h1 Sx hR1 hBx hnx hpx hC1 hf1
  show V _ _ 0 [some (.ref c), some (.int (iI p)), some (.int (iI q)), some (.int (iI w)), some (.int (iI what)), none, none, none, none] [] h
  refine V.aload_n dX7_stand_0 rfl ?_
  refine V.get fX7_26 dX7_stand_1 hc0 rfl ?_
  refine V.iload_n dX7_stand_4 rfl ?_
  refine V.iload_n dX7_stand_5 rfl ?_
  refine V.callVp (ci := 3) cX7_131 (e_hasTwo g h (c + 5) (tS T) hR hB p q (by omega) (by omega)) dX7_stand_6 (Nat.le_of_ble_eq_true rfl) rfl ho rfl rfl (Nat.le_of_ble_eq_true rfl) ?_
  refine V.if_eqB 30 dX7_stand_9 (by decide) (fun hc1 => ?_) (fun hc1 => ?_)
  · skip
    refine V.iconst (v := iI (-1)) dX7_stand_30 (by decide) ?_
    exact V.iret dX7_stand_31 rfl ⟨by unfold a_stand; rw [if_neg (by omega)], hC, VFr.rf⟩
  · skip
    refine V.iload_n dX7_stand_12 rfl ?_
    refine V.bipush (v := nI 8) dX7_stand_13 (by decide) ?_
    refine V.toZ1 ?_
    refine V.callSp cX7_153 (e_isBelow g h _ _ (by omega) (by omega)) dX7_stand_15 (Nat.le_of_ble_eq_true rfl) rfl rfl (Nat.le_of_ble_eq_true rfl) ?_
    refine V.if_eqB 30 dX7_stand_18 (by decide) (fun hc2 => ?_) (fun hc2 => ?_)
    · skip
      refine V.iconst (v := iI (-1)) dX7_stand_30 (by decide) ?_
      exact V.iret dX7_stand_31 rfl ⟨by unfold a_stand; rw [if_neg (by omega)], hC, VFr.rf⟩
    · skip
      refine V.iload dX7_stand_21 rfl ?_
      refine V.iconst (v := nI 2) dX7_stand_23 (by decide) ?_
      refine V.toZ1 ?_
      refine V.callSp cX7_153 (e_isBelow g h _ _ (by omega) (by omega)) dX7_stand_24 (Nat.le_of_ble_eq_true rfl) rfl rfl (Nat.le_of_ble_eq_true rfl) ?_
      refine V.if_neB 32 dX7_stand_27 (by decide) (fun hc3 => ?_) (fun hc3 => ?_)
      · skip
        refine V.iconst (v := nI 0) dX7_stand_32 (by decide) ?_
        refine V.istore dX7_stand_33 rfl rfl ?_
        dsimp only [List.set]
        refine V.bipush (v := iI (-4)) dX7_stand_35 (by decide) ?_
        refine V.istore dX7_stand_37 rfl rfl ?_
        dsimp only [List.set]
        refine V.aload_n dX7_stand_39 rfl ?_
        refine V.get fX7_30 dX7_stand_40 hc0 rfl ?_
        refine V.aload_n dX7_stand_43 rfl ?_
        refine V.get fX7_26 dX7_stand_44 hc0 rfl ?_
        refine V.callV (ci := 3) cX7_97 (e_copyFrom g h (c + 11) (c + 5) Q (tS T) hQr hR (by omega)) dX7_stand_47 (Nat.le_of_ble_eq_true rfl) rfl (RoomAt.obj hQr) rfl rfl (Nat.le_of_ble_eq_true rfl) (fun v_ h_ hp_ => ?_)
        obtain ⟨rfl, hR2, hf2⟩ := hp_
        dsimp only [Option.toList, List.nil_append]
        have hC2 := hC.trial hf2 hR2
        have hf3 : VFr c (c + 92) h h_ := hf2.wide (by omega) (by omega)
        replace hc0 := hC2.1
        refine V.iconst (v := nI 0) dX7_stand_50 (by decide) ?_
        refine V.istore dX7_stand_51 rfl rfl ?_
        dsimp only [List.set]
        exact L (by omega) 0 (by omega) _ (tS T) none hR2 hB rfl (fun a b => rfl) hC2 hf3
      · skip
        refine V.iconst (v := iI (-1)) dX7_stand_30 (by decide) ?_
        exact V.iret dX7_stand_31 rfl ⟨by unfold a_stand; rw [if_neg (by omega)], hC, VFr.rf⟩
