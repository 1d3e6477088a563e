theorem stY_none {S : Rm} {p q w x : Nat} {a : Nat × Option Nat} (ha : a.1 = 0 ↔ a.2 = none) : ∀ y, (stY S p q w x a y).1 = 0 ↔ (stY S p q w x a y).2 = none
  | 0 => ha
  | y + 1 => by
    have z := stY_none (S := S) (p := p) (q := q) (w := w) (x := x) ha y
    by_cases e : stOk S p q w x y
    · rw [stY_pos e]
      show (stY S p q w x a y).1 + 1 = 0 ↔ (if (stY S p q w x a y).1 = 0 then some (10 * x + y) else (stY S p q w x a y).2) = none
      by_cases e2 : (stY S p q w x a y).1 = 0
      · rw [if_pos e2]; exact ⟨fun u => absurd u (by omega), fun u => absurd u (by intro v; cases v)⟩
      · rw [if_neg e2]; exact ⟨fun u => absurd u (by omega), fun u => absurd (z.mpr u) e2⟩
    · rw [stY_neg e]; exact z
theorem stX_none {S : Rm} {p q w : Nat} : ∀ x, (stX S p q w x).1 = 0 ↔ (stX S p q w x).2 = none
  | 0 => ⟨fun _ => rfl, fun _ => rfl⟩
  | x + 1 => stY_none (stX_none x) (rH S)
theorem stY_small {S : Rm} {p q w x : Nat} {a : Nat × Option Nat} (hx : x < 9) (ha : ∀ i, a.2 = some i → i < 1000) : ∀ y, y ≤ 9 → ∀ i, (stY S p q w x a y).2 = some i → i < 1000
  | 0, _ => ha
  | y + 1, hy => by
    have z := stY_small (S := S) (p := p) (q := q) (w := w) hx ha y (by omega)
    by_cases e : stOk S p q w x y
    · rw [stY_pos e]
      intro i (u : (if (stY S p q w x a y).1 = 0 then some (10 * x + y) else (stY S p q w x a y).2) = some i)
      by_cases e2 : (stY S p q w x a y).1 = 0
      · rw [if_pos e2] at u; cases u; omega
      · rw [if_neg e2] at u; exact z i u
    · rw [stY_neg e]; exact z
theorem stX_small {S : Rm} (hB : RmB S) {p q w : Nat} : ∀ x, x ≤ 9 → ∀ i, (stX S p q w x).2 = some i → i < 1000
  | 0, _ => fun i u => by cases u
  | x + 1, hx => stY_small (by omega) (stX_small hB x (by omega)) (rH S) (hB.2.2.1.2)

set_option maxHeartbeats 1000000 in
theorem r_stand (g : VG) (h : VHp) (m : Nat) (T : Sy) (hC : MAt h m T) (hO : SyOk T) (p q w what : Int) (hp0 : -2147483648 ≤ p ∧ p < 2147483648) (hq0 : -2147483648 ≤ q ∧ q < 2147483648) (hw0 : -2147483648 ≤ w ∧ w < 2147483648) (hwt : -2147483648 ≤ what ∧ what < 2147483648) : VE g mX8_stand 4 false (0, 0) [.ref m, .int (iI p), .int (iI q), .int (iI w), .int (iI what)] h (MPo m (a_stand T p q w what) T h) := by
  obtain ⟨F, A, hM, hAll⟩ := id hC
  obtain ⟨hF0, hTx, hF1, hPa, hF2, hKe, hF3, hNo⟩ := id hAll
  obtain ⟨hOt, hOs, hOn, hOp, hOk, hOns, hOpk, hOkk⟩ := id hO
  have hB := hOs.1
  have hD := hOs.2.1
  have hnl := hOns.1
  have htl := hOt.1
  obtain ⟨hw, ⟨et0, et1, et2, ek⟩, es0, ev, ex, ey, eL⟩ := id hM
  obtain ⟨ho, hA⟩ := id hw
  obtain ⟨bn, bW, bH, bP, bL⟩ := id hB
  refine VE.of (by decide) rfl (Nat.le_of_ble_eq_true rfl) ?_
  have L : ((is2 T p q ∧ 0 ≤ w ∧ w < ((8 : Nat) : Int)) ∧ 0 ≤ what ∧ what < ((2 : Nat) : Int)) → ∀ x, x ≤ rW (tS T) → ∀ (h1 : VHp) (v8 v9 : Option Value), MRm h1 m F (upA A 9 (A 5)) (tS T) → VFr m (m + 12) h h1 → V (g, mX8_stand, 4, false, h.length, MPo m (a_stand T p q w what) T h) (0, 0) 57 [some (.ref m), some (.int (iI p)), some (.int (iI q)), some (.int (iI w)), some (.int (iI what)), some (.int (nI ((stX (tS T) p.toNat q.toNat w.toNat x).1))), some (.int (eO (stX (tS T) p.toNat q.toNat w.toNat x).2)), some (.int (nI x)), v8, v9] [] h1 := by
    intro hcd
    have hdl : ∀ x y w9, draftF (rPut (tS T) p.toNat x y) q.toNat = some w9 → w9 < 1000 := fun x y w9 z => by have := draftF_lt z; omega
    have hwl : ∀ x y i9, whoF (tS T) x y (rN (tS T)) = some i9 → i9 < 1000 := fun x y i9 z => by have := (whoF_lt z).1; omega
    have hpn : p.toNat < rN (tS T) := by omega
    have hqn : q.toNat < rN (tS T) := by omega
    refine vloop (rW (tS T)) (fun x ih hi => ?_)
    intro h1 v8 v9 hM1 hf1
    obtain ⟨hw1, ⟨et0, et1, et2, ek⟩, es0, ev, ex, ey, eL⟩ := id hM1
    obtain ⟨ho1, hA1⟩ := id hw1
    have hxl := stX_le hB (p := p.toNat) (q := q.toNat) (w := w.toNat) x
    have hxs := stX_small hB (p := p.toNat) (q := q.toNat) (w := w.toNat) x (by omega)
    have LI : x < rW (tS T) → ∀ y, y ≤ rH (tS T) → ∀ (h1 : VHp) (v9 : Option Value), MRm h1 m F (upA A 9 (A 5)) (tS T) → VFr m (m + 12) h h1 → V (g, mX8_stand, 4, false, h.length, MPo m (a_stand T p q w what) T h) (0, 0) 71 [some (.ref m), some (.int (iI p)), some (.int (iI q)), some (.int (iI w)), some (.int (iI what)), some (.int (nI ((stY (tS T) p.toNat q.toNat w.toNat x (stX (tS T) p.toNat q.toNat w.toNat x) y).1))), some (.int (eO (stY (tS T) p.toNat q.toNat w.toNat x (stX (tS T) p.toNat q.toNat w.toNat x) y).2)), some (.int (nI x)), some (.int (nI y)), v9] [] h1 := by
      intro hxw
      refine vloop (rH (tS T)) (fun y ih2 hj => ?_)
      intro h1 v9 hM1 hf1
      obtain ⟨hw1, ⟨et0, et1, et2, ek⟩, es0, ev, ex, ey, eL⟩ := id hM1
      obtain ⟨ho1, hA1⟩ := id hw1
      have h9 := (hA1 9 (by omega) (by omega)).1
      rw [upA_s] at h9
      have bpp := bP p.toNat hpn
      obtain ⟨hw0_, hT0_, es0_, ev_, ex_, ey_, eL_⟩ := id hM
      have hyl := stY_le (S := tS T) (p := p.toNat) (q := q.toNat) (w := w.toNat) (x := x) (a := (stX (tS T) p.toNat q.toNat w.toNat x)) y
      have hys := stY_small (S := tS T) (p := p.toNat) (q := q.toNat) (w := w.toNat) (x := x) (by omega) hxs y (by omega)
      have hyn := stY_none (S := tS T) (p := p.toNat) (q := q.toNat) (w := w.toNat) (x := x) (a := (stX (tS T) p.toNat q.toNat w.toNat x)) (stX_none x) y
      refine V.iload dX8_stand_71 rfl ?_
      refine V.aload_n dX8_stand_73 rfl ?_
      refine V.get fX8_13 dX8_stand_74 ho1 rfl ?_
      refine V.iconst (v := nI 1) dX8_stand_77 (by decide) ?_
      refine V.iald dX8_stand_78 (hA1 2 (by omega) (by omega)).1 rfl (by omega) et1 ?_
      refine V.icmp_geN 192 dX8_stand_79 (by decide) (by omega) (by omega) (fun hc1 => ?_) (fun hc1 => ?_)
      · skip
        refine V.iincN (n := 1) dX8_stand_192 rfl rfl rfl ?_
        dsimp only [List.set]
        refine V.goto 57 dX8_stand_195 (by decide) ?_
        obtain rfl : y = rH (tS T) := (by omega)
        exact ih (x + 1) (by omega) (by omega) _ _ _ hM1 hf1
      · skip
        refine V.aload_n dX8_stand_82 rfl ?_
        refine V.iload dX8_stand_83 rfl ?_
        refine V.iload dX8_stand_85 rfl ?_
        refine V.callVp (ci := 8) cX8_126 (m_whoAt g h1 m F _ (tS T) hM1 hB hD x y (by omega) (by omega)) dX8_stand_87 (Nat.le_of_ble_eq_true rfl) rfl ho1 rfl rfl (Nat.le_of_ble_eq_true rfl) ?_
        refine V.bipush (v := iI (-4)) dX8_stand_90 (by decide) ?_
        refine V.icmp_eq 123 dX8_stand_92 (by decide) (fun hc2 => ?_) (fun hc2 => ?_)
        · skip
          first | (have hfr : (whoF (tS T) x y (rN (tS T)) = none ∨ whoF (tS T) x y (rN (tS T)) = some p.toNat) := Or.inl ((eO_none (hwl x y)).mp hc2)) | (have hnn : ¬ whoF (tS T) x y (rN (tS T)) = none := fun u => hc2 ((eO_none (hwl x y)).mpr u))
          refine V.iconst (v := nI 1) dX8_stand_123 (by decide) ?_
          refine V.goto 128 dX8_stand_124 (by decide) ?_
          refine V.istore dX8_stand_128 rfl rfl ?_
          dsimp only [List.set]
          refine V.aload_n dX8_stand_130 rfl ?_
          refine V.iload_n dX8_stand_131 rfl ?_
          refine V.re (iI_toN (n := p.toNat) (by omega)) ?_
          refine V.bipush (v := nI 9) dX8_stand_132 (by decide) ?_
          refine V.iload dX8_stand_134 rfl ?_
          refine V.imulN dX8_stand_136 ?_
          refine V.iload dX8_stand_137 rfl ?_
          refine V.iaddN dX8_stand_139 ?_
          refine V.callV (ci := 8) cX8_163 (m_puts g h1 m F (upA A 9 (A 5)) (tS T) hM1 hB p.toNat (9 * x + y) hpn (by omega)) dX8_stand_140 (Nat.le_of_ble_eq_true rfl) rfl ho1 rfl rfl (Nat.le_of_ble_eq_true rfl) (fun v_ h_ hp_ => ?_)
          obtain ⟨rfl, s5, hM5, hf5⟩ := hp_
          dsimp only [Option.toList, List.nil_append]
          rw [show (9 * x + y) / 9 = x by omega, show (9 * x + y) % 9 = y by omega] at hM5
          have hf6 := hf1.tr (hf5.wide (lo' := m) (hi' := m + 12) (by omega) (by omega))
          have hBq : RmB (rPut (tS T) p.toNat x y) := put_B hB (by omega) (by omega)
          have ho5 := hM5.1.1
          refine V.iload dX8_stand_143 rfl ?_
          refine V.if_eqN 182 dX8_stand_145 (by decide) (by omega) (fun hc3 => ?_) (fun hc3 => ?_)
          · skip
            refine V.aload_n dX8_stand_182 rfl ?_
            refine V.callV (ci := 8) cX8_157 (m_lets g _ m F _ hM5.1) dX8_stand_183 (Nat.le_of_ble_eq_true rfl) rfl ho5 rfl rfl (Nat.le_of_ble_eq_true rfl) (fun v_ h_ hp_ => ?_)
            obtain ⟨rfl, hw7, hf7⟩ := hp_
            dsimp only [Option.toList, List.nil_append]
            have hM7 := hM.back (lets_back hw7)
            have hf8 := hf6.tr (hf7.wide (lo' := m) (hi' := m + 12) (by omega) (by omega))
            refine V.iincN (n := 1) dX8_stand_186 rfl rfl rfl ?_
            dsimp only [List.set]
            refine V.goto 71 dX8_stand_189 (by decide) ?_
            have z := fun u => ih2 (y + 1) (by omega) (by omega) _ u hM7 hf8
            first | (exfalso; omega) | (rw [stY_neg (by first | exact hno2 | exact (fun u => hno1 u.1))] at z; exact z _) | (rw [stY_pos ⟨hfr, hdq⟩, if_pos (hyn.mpr hz6)] at z; exact z _) | (rw [stY_pos ⟨hfr, hdq⟩, if_neg (fun u => hz6 (hyn.mp u))] at z; exact z _)
          · skip
            refine V.aload_n dX8_stand_148 rfl ?_
            refine V.iload_n dX8_stand_149 rfl ?_
            refine V.re (iI_toN (n := q.toNat) (by omega)) ?_
            refine V.callVp (ci := 8) cX8_119 (m_draftOf g h_ m F _ (rPut (tS T) p.toNat x y) hM5 hBq q.toNat hqn) dX8_stand_150 (Nat.le_of_ble_eq_true rfl) rfl ho5 rfl rfl (Nat.le_of_ble_eq_true rfl) ?_
            refine V.iload_n dX8_stand_153 rfl ?_
            refine V.re (iI_toN (n := w.toNat) (by omega)) ?_
            refine V.icmp_ne 182 dX8_stand_154 (by decide) (fun hc4 => ?_) (fun hc4 => ?_)
            · skip
              first | (have hdq : draftF (rPut (tS T) p.toNat x y) q.toNat = some w.toNat := (eO_some (hdl x y) (by omega)).mp hc4) | (have hno2 : ¬ stOk (tS T) p.toNat q.toNat w.toNat x y := fun u => hc4 ((eO_some (hdl x y) (by omega)).mpr u.2))
              refine V.aload_n dX8_stand_182 rfl ?_
              refine V.callV (ci := 8) cX8_157 (m_lets g _ m F _ hM5.1) dX8_stand_183 (Nat.le_of_ble_eq_true rfl) rfl ho5 rfl rfl (Nat.le_of_ble_eq_true rfl) (fun v_ h_ hp_ => ?_)
              obtain ⟨rfl, hw7, hf7⟩ := hp_
              dsimp only [Option.toList, List.nil_append]
              have hM7 := hM.back (lets_back hw7)
              have hf8 := hf6.tr (hf7.wide (lo' := m) (hi' := m + 12) (by omega) (by omega))
              refine V.iincN (n := 1) dX8_stand_186 rfl rfl rfl ?_
              dsimp only [List.set]
              refine V.goto 71 dX8_stand_189 (by decide) ?_
              have z := fun u => ih2 (y + 1) (by omega) (by omega) _ u hM7 hf8
              first | (exfalso; omega) | (rw [stY_neg (by first | exact hno2 | exact (fun u => hno1 u.1))] at z; exact z _) | (rw [stY_pos ⟨hfr, hdq⟩, if_pos (hyn.mpr hz6)] at z; exact z _) | (rw [stY_pos ⟨hfr, hdq⟩, if_neg (fun u => hz6 (hyn.mp u))] at z; exact z _)
            · skip
              first | (have hdq : draftF (rPut (tS T) p.toNat x y) q.toNat = some w.toNat := (eO_some (hdl x y) (by omega)).mp hc4) | (have hno2 : ¬ stOk (tS T) p.toNat q.toNat w.toNat x y := fun u => hc4 ((eO_some (hdl x y) (by omega)).mpr u.2))
              refine V.iincN (n := 1) dX8_stand_157 rfl rfl rfl ?_
              dsimp only [List.set]
              refine V.iload dX8_stand_160 rfl ?_
              refine V.bipush (v := iI (-4)) dX8_stand_162 (by decide) ?_
              refine V.icmp_ne 178 dX8_stand_164 (by decide) (fun hc5 => ?_) (fun hc5 => ?_)
              · skip
                first | (have hz6 := (eO_none hys).mp hc5) | (have hz6 : ¬ (stY (tS T) p.toNat q.toNat w.toNat x (stX (tS T) p.toNat q.toNat w.toNat x) y).2 = none := fun u => hc5 ((eO_none hys).mpr u))
                refine V.iload dX8_stand_178 rfl ?_
                refine V.istore dX8_stand_180 rfl rfl ?_
                dsimp only [List.set]
                refine V.aload_n dX8_stand_182 rfl ?_
                refine V.callV (ci := 8) cX8_157 (m_lets g _ m F _ hM5.1) dX8_stand_183 (Nat.le_of_ble_eq_true rfl) rfl ho5 rfl rfl (Nat.le_of_ble_eq_true rfl) (fun v_ h_ hp_ => ?_)
                obtain ⟨rfl, hw7, hf7⟩ := hp_
                dsimp only [Option.toList, List.nil_append]
                have hM7 := hM.back (lets_back hw7)
                have hf8 := hf6.tr (hf7.wide (lo' := m) (hi' := m + 12) (by omega) (by omega))
                refine V.iincN (n := 1) dX8_stand_186 rfl rfl rfl ?_
                dsimp only [List.set]
                refine V.goto 71 dX8_stand_189 (by decide) ?_
                have z := fun u => ih2 (y + 1) (by omega) (by omega) _ u hM7 hf8
                first | (exfalso; omega) | (rw [stY_neg (by first | exact hno2 | exact (fun u => hno1 u.1))] at z; exact z _) | (rw [stY_pos ⟨hfr, hdq⟩, if_pos (hyn.mpr hz6)] at z; exact z _) | (rw [stY_pos ⟨hfr, hdq⟩, if_neg (fun u => hz6 (hyn.mp u))] at z; exact z _)
              · skip
                first | (have hz6 := (eO_none hys).mp hc5) | (have hz6 : ¬ (stY (tS T) p.toNat q.toNat w.toNat x (stX (tS T) p.toNat q.toNat w.toNat x) y).2 = none := fun u => hc5 ((eO_none hys).mpr u))
                refine V.bipush (v := nI 10) dX8_stand_167 (by decide) ?_
                refine V.iload dX8_stand_169 rfl ?_
                refine V.imulN dX8_stand_171 ?_
                refine V.iload dX8_stand_172 rfl ?_
                refine V.iaddN dX8_stand_174 ?_
                refine V.goto 180 dX8_stand_175 (by decide) ?_
                refine V.istore dX8_stand_180 rfl rfl ?_
                dsimp only [List.set]
                refine V.aload_n dX8_stand_182 rfl ?_
                refine V.callV (ci := 8) cX8_157 (m_lets g _ m F _ hM5.1) dX8_stand_183 (Nat.le_of_ble_eq_true rfl) rfl ho5 rfl rfl (Nat.le_of_ble_eq_true rfl) (fun v_ h_ hp_ => ?_)
                obtain ⟨rfl, hw7, hf7⟩ := hp_
                dsimp only [Option.toList, List.nil_append]
                have hM7 := hM.back (lets_back hw7)
                have hf8 := hf6.tr (hf7.wide (lo' := m) (hi' := m + 12) (by omega) (by omega))
                refine V.iincN (n := 1) dX8_stand_186 rfl rfl rfl ?_
                dsimp only [List.set]
                refine V.goto 71 dX8_stand_189 (by decide) ?_
                have z := fun u => ih2 (y + 1) (by omega) (by omega) _ u hM7 hf8
                first | (exfalso; omega) | (rw [stY_neg (by first | exact hno2 | exact (fun u => hno1 u.1))] at z; exact z _) | (rw [stY_pos ⟨hfr, hdq⟩, if_pos (hyn.mpr hz6)] at z; exact z _) | (rw [stY_pos ⟨hfr, hdq⟩, if_neg (fun u => hz6 (hyn.mp u))] at z; exact z _)
        · skip
          first | (have hfr : (whoF (tS T) x y (rN (tS T)) = none ∨ whoF (tS T) x y (rN (tS T)) = some p.toNat) := Or.inl ((eO_none (hwl x y)).mp hc2)) | (have hnn : ¬ whoF (tS T) x y (rN (tS T)) = none := fun u => hc2 ((eO_none (hwl x y)).mpr u))
          refine V.iload dX8_stand_95 rfl ?_
          refine V.aload_n dX8_stand_97 rfl ?_
          refine V.get fX8_34 dX8_stand_98 ho1 rfl ?_
          refine V.bipush (v := nI 7) dX8_stand_101 (by decide) ?_
          refine V.iload_n dX8_stand_103 rfl ?_
          refine V.re (iI_toN (n := p.toNat) (by omega)) ?_
          refine V.iaddN dX8_stand_104 ?_
          refine V.iald dX8_stand_105 h9 rfl (by omega) (ex_ _ hpn) ?_
          refine V.icmp_neN 127 dX8_stand_106 (by decide) (by omega) (by omega) (fun hc6 => ?_) (fun hc6 => ?_)
          · skip
            first | (have hno1 : ¬ (whoF (tS T) x y (rN (tS T)) = none ∨ whoF (tS T) x y (rN (tS T)) = some p.toNat) := fun u => u.elim hnn (fun u => absurd (whoF_lt u).2.1 (by omega))) | skip
            refine V.iconst (v := nI 0) dX8_stand_127 (by decide) ?_
            refine V.istore dX8_stand_128 rfl rfl ?_
            dsimp only [List.set]
            refine V.aload_n dX8_stand_130 rfl ?_
            refine V.iload_n dX8_stand_131 rfl ?_
            refine V.re (iI_toN (n := p.toNat) (by omega)) ?_
            refine V.bipush (v := nI 9) dX8_stand_132 (by decide) ?_
            refine V.iload dX8_stand_134 rfl ?_
            refine V.imulN dX8_stand_136 ?_
            refine V.iload dX8_stand_137 rfl ?_
            refine V.iaddN dX8_stand_139 ?_
            refine V.callV (ci := 8) cX8_163 (m_puts g h1 m F (upA A 9 (A 5)) (tS T) hM1 hB p.toNat (9 * x + y) hpn (by omega)) dX8_stand_140 (Nat.le_of_ble_eq_true rfl) rfl ho1 rfl rfl (Nat.le_of_ble_eq_true rfl) (fun v_ h_ hp_ => ?_)
            obtain ⟨rfl, s5, hM5, hf5⟩ := hp_
            dsimp only [Option.toList, List.nil_append]
            rw [show (9 * x + y) / 9 = x by omega, show (9 * x + y) % 9 = y by omega] at hM5
            have hf6 := hf1.tr (hf5.wide (lo' := m) (hi' := m + 12) (by omega) (by omega))
            have hBq : RmB (rPut (tS T) p.toNat x y) := put_B hB (by omega) (by omega)
            have ho5 := hM5.1.1
            refine V.iload dX8_stand_143 rfl ?_
            refine V.if_eqN 182 dX8_stand_145 (by decide) (by omega) (fun hc7 => ?_) (fun hc7 => ?_)
            · skip
              refine V.aload_n dX8_stand_182 rfl ?_
              refine V.callV (ci := 8) cX8_157 (m_lets g _ m F _ hM5.1) dX8_stand_183 (Nat.le_of_ble_eq_true rfl) rfl ho5 rfl rfl (Nat.le_of_ble_eq_true rfl) (fun v_ h_ hp_ => ?_)
              obtain ⟨rfl, hw7, hf7⟩ := hp_
              dsimp only [Option.toList, List.nil_append]
              have hM7 := hM.back (lets_back hw7)
              have hf8 := hf6.tr (hf7.wide (lo' := m) (hi' := m + 12) (by omega) (by omega))
              refine V.iincN (n := 1) dX8_stand_186 rfl rfl rfl ?_
              dsimp only [List.set]
              refine V.goto 71 dX8_stand_189 (by decide) ?_
              have z := fun u => ih2 (y + 1) (by omega) (by omega) _ u hM7 hf8
              first | (exfalso; omega) | (rw [stY_neg (by first | exact hno2 | exact (fun u => hno1 u.1))] at z; exact z _) | (rw [stY_pos ⟨hfr, hdq⟩, if_pos (hyn.mpr hz6)] at z; exact z _) | (rw [stY_pos ⟨hfr, hdq⟩, if_neg (fun u => hz6 (hyn.mp u))] at z; exact z _)
            · skip
              refine V.aload_n dX8_stand_148 rfl ?_
              refine V.iload_n dX8_stand_149 rfl ?_
              refine V.re (iI_toN (n := q.toNat) (by omega)) ?_
              refine V.callVp (ci := 8) cX8_119 (m_draftOf g h_ m F _ (rPut (tS T) p.toNat x y) hM5 hBq q.toNat hqn) dX8_stand_150 (Nat.le_of_ble_eq_true rfl) rfl ho5 rfl rfl (Nat.le_of_ble_eq_true rfl) ?_
              refine V.iload_n dX8_stand_153 rfl ?_
              refine V.re (iI_toN (n := w.toNat) (by omega)) ?_
              refine V.icmp_ne 182 dX8_stand_154 (by decide) (fun hc8 => ?_) (fun hc8 => ?_)
              · skip
                first | (have hdq : draftF (rPut (tS T) p.toNat x y) q.toNat = some w.toNat := (eO_some (hdl x y) (by omega)).mp hc8) | (have hno2 : ¬ stOk (tS T) p.toNat q.toNat w.toNat x y := fun u => hc8 ((eO_some (hdl x y) (by omega)).mpr u.2))
                refine V.aload_n dX8_stand_182 rfl ?_
                refine V.callV (ci := 8) cX8_157 (m_lets g _ m F _ hM5.1) dX8_stand_183 (Nat.le_of_ble_eq_true rfl) rfl ho5 rfl rfl (Nat.le_of_ble_eq_true rfl) (fun v_ h_ hp_ => ?_)
                obtain ⟨rfl, hw7, hf7⟩ := hp_
                dsimp only [Option.toList, List.nil_append]
                have hM7 := hM.back (lets_back hw7)
                have hf8 := hf6.tr (hf7.wide (lo' := m) (hi' := m + 12) (by omega) (by omega))
                refine V.iincN (n := 1) dX8_stand_186 rfl rfl rfl ?_
                dsimp only [List.set]
                refine V.goto 71 dX8_stand_189 (by decide) ?_
                have z := fun u => ih2 (y + 1) (by omega) (by omega) _ u hM7 hf8
                first | (exfalso; omega) | (rw [stY_neg (by first | exact hno2 | exact (fun u => hno1 u.1))] at z; exact z _) | (rw [stY_pos ⟨hfr, hdq⟩, if_pos (hyn.mpr hz6)] at z; exact z _) | (rw [stY_pos ⟨hfr, hdq⟩, if_neg (fun u => hz6 (hyn.mp u))] at z; exact z _)
              · skip
                first | (have hdq : draftF (rPut (tS T) p.toNat x y) q.toNat = some w.toNat := (eO_some (hdl x y) (by omega)).mp hc8) | (have hno2 : ¬ stOk (tS T) p.toNat q.toNat w.toNat x y := fun u => hc8 ((eO_some (hdl x y) (by omega)).mpr u.2))
                refine V.iincN (n := 1) dX8_stand_157 rfl rfl rfl ?_
                dsimp only [List.set]
                refine V.iload dX8_stand_160 rfl ?_
                refine V.bipush (v := iI (-4)) dX8_stand_162 (by decide) ?_
                refine V.icmp_ne 178 dX8_stand_164 (by decide) (fun hc9 => ?_) (fun hc9 => ?_)
                · skip
                  first | (have hz6 := (eO_none hys).mp hc9) | (have hz6 : ¬ (stY (tS T) p.toNat q.toNat w.toNat x (stX (tS T) p.toNat q.toNat w.toNat x) y).2 = none := fun u => hc9 ((eO_none hys).mpr u))
                  refine V.iload dX8_stand_178 rfl ?_
                  refine V.istore dX8_stand_180 rfl rfl ?_
                  dsimp only [List.set]
                  refine V.aload_n dX8_stand_182 rfl ?_
                  refine V.callV (ci := 8) cX8_157 (m_lets g _ m F _ hM5.1) dX8_stand_183 (Nat.le_of_ble_eq_true rfl) rfl ho5 rfl rfl (Nat.le_of_ble_eq_true rfl) (fun v_ h_ hp_ => ?_)
                  obtain ⟨rfl, hw7, hf7⟩ := hp_
                  dsimp only [Option.toList, List.nil_append]
                  have hM7 := hM.back (lets_back hw7)
                  have hf8 := hf6.tr (hf7.wide (lo' := m) (hi' := m + 12) (by omega) (by omega))
                  refine V.iincN (n := 1) dX8_stand_186 rfl rfl rfl ?_
                  dsimp only [List.set]
                  refine V.goto 71 dX8_stand_189 (by decide) ?_
                  have z := fun u => ih2 (y + 1) (by omega) (by omega) _ u hM7 hf8
                  first | (exfalso; omega) | (rw [stY_neg (by first | exact hno2 | exact (fun u => hno1 u.1))] at z; exact z _) | (rw [stY_pos ⟨hfr, hdq⟩, if_pos (hyn.mpr hz6)] at z; exact z _) | (rw [stY_pos ⟨hfr, hdq⟩, if_neg (fun u => hz6 (hyn.mp u))] at z; exact z _)
                · skip
                  first | (have hz6 := (eO_none hys).mp hc9) | (have hz6 : ¬ (stY (tS T) p.toNat q.toNat w.toNat x (stX (tS T) p.toNat q.toNat w.toNat x) y).2 = none := fun u => hc9 ((eO_none hys).mpr u))
                  refine V.bipush (v := nI 10) dX8_stand_167 (by decide) ?_
                  refine V.iload dX8_stand_169 rfl ?_
                  refine V.imulN dX8_stand_171 ?_
                  refine V.iload dX8_stand_172 rfl ?_
                  refine V.iaddN dX8_stand_174 ?_
                  refine V.goto 180 dX8_stand_175 (by decide) ?_
                  refine V.istore dX8_stand_180 rfl rfl ?_
                  dsimp only [List.set]
                  refine V.aload_n dX8_stand_182 rfl ?_
                  refine V.callV (ci := 8) cX8_157 (m_lets g _ m F _ hM5.1) dX8_stand_183 (Nat.le_of_ble_eq_true rfl) rfl ho5 rfl rfl (Nat.le_of_ble_eq_true rfl) (fun v_ h_ hp_ => ?_)
                  obtain ⟨rfl, hw7, hf7⟩ := hp_
                  dsimp only [Option.toList, List.nil_append]
                  have hM7 := hM.back (lets_back hw7)
                  have hf8 := hf6.tr (hf7.wide (lo' := m) (hi' := m + 12) (by omega) (by omega))
                  refine V.iincN (n := 1) dX8_stand_186 rfl rfl rfl ?_
                  dsimp only [List.set]
                  refine V.goto 71 dX8_stand_189 (by decide) ?_
                  have z := fun u => ih2 (y + 1) (by omega) (by omega) _ u hM7 hf8
                  first | (exfalso; omega) | (rw [stY_neg (by first | exact hno2 | exact (fun u => hno1 u.1))] at z; exact z _) | (rw [stY_pos ⟨hfr, hdq⟩, if_pos (hyn.mpr hz6)] at z; exact z _) | (rw [stY_pos ⟨hfr, hdq⟩, if_neg (fun u => hz6 (hyn.mp u))] at z; exact z _)
          · skip
            first | (have hno1 : ¬ (whoF (tS T) x y (rN (tS T)) = none ∨ whoF (tS T) x y (rN (tS T)) = some p.toNat) := fun u => u.elim hnn (fun u => absurd (whoF_lt u).2.1 (by omega))) | skip
            refine V.iload dX8_stand_109 rfl ?_
            refine V.aload_n dX8_stand_111 rfl ?_
            refine V.get fX8_34 dX8_stand_112 ho1 rfl ?_
            refine V.bipush (v := nI 13) dX8_stand_115 (by decide) ?_
            refine V.iload_n dX8_stand_117 rfl ?_
            refine V.re (iI_toN (n := p.toNat) (by omega)) ?_
            refine V.iaddN dX8_stand_118 ?_
            refine V.iald dX8_stand_119 h9 rfl (by omega) (ey_ _ hpn) ?_
            refine V.icmp_neN 127 dX8_stand_120 (by decide) (by omega) (by omega) (fun hc10 => ?_) (fun hc10 => ?_)
            · skip
              first | (have hno1 : ¬ (whoF (tS T) x y (rN (tS T)) = none ∨ whoF (tS T) x y (rN (tS T)) = some p.toNat) := fun u => u.elim hnn (fun u => absurd (whoF_lt u).2.2 (by omega))) | (have hfr : (whoF (tS T) x y (rN (tS T)) = none ∨ whoF (tS T) x y (rN (tS T)) = some p.toNat) := Or.inr (whoF_eq hD hpn ⟨by omega, by omega⟩))
              refine V.iconst (v := nI 0) dX8_stand_127 (by decide) ?_
              refine V.istore dX8_stand_128 rfl rfl ?_
              dsimp only [List.set]
              refine V.aload_n dX8_stand_130 rfl ?_
              refine V.iload_n dX8_stand_131 rfl ?_
              refine V.re (iI_toN (n := p.toNat) (by omega)) ?_
              refine V.bipush (v := nI 9) dX8_stand_132 (by decide) ?_
              refine V.iload dX8_stand_134 rfl ?_
              refine V.imulN dX8_stand_136 ?_
              refine V.iload dX8_stand_137 rfl ?_
              refine V.iaddN dX8_stand_139 ?_
              refine V.callV (ci := 8) cX8_163 (m_puts g h1 m F (upA A 9 (A 5)) (tS T) hM1 hB p.toNat (9 * x + y) hpn (by omega)) dX8_stand_140 (Nat.le_of_ble_eq_true rfl) rfl ho1 rfl rfl (Nat.le_of_ble_eq_true rfl) (fun v_ h_ hp_ => ?_)
              obtain ⟨rfl, s5, hM5, hf5⟩ := hp_
              dsimp only [Option.toList, List.nil_append]
              rw [show (9 * x + y) / 9 = x by omega, show (9 * x + y) % 9 = y by omega] at hM5
              have hf6 := hf1.tr (hf5.wide (lo' := m) (hi' := m + 12) (by omega) (by omega))
              have hBq : RmB (rPut (tS T) p.toNat x y) := put_B hB (by omega) (by omega)
              have ho5 := hM5.1.1
              refine V.iload dX8_stand_143 rfl ?_
              refine V.if_eqN 182 dX8_stand_145 (by decide) (by omega) (fun hc11 => ?_) (fun hc11 => ?_)
              · skip
                refine V.aload_n dX8_stand_182 rfl ?_
                refine V.callV (ci := 8) cX8_157 (m_lets g _ m F _ hM5.1) dX8_stand_183 (Nat.le_of_ble_eq_true rfl) rfl ho5 rfl rfl (Nat.le_of_ble_eq_true rfl) (fun v_ h_ hp_ => ?_)
                obtain ⟨rfl, hw7, hf7⟩ := hp_
                dsimp only [Option.toList, List.nil_append]
                have hM7 := hM.back (lets_back hw7)
                have hf8 := hf6.tr (hf7.wide (lo' := m) (hi' := m + 12) (by omega) (by omega))
                refine V.iincN (n := 1) dX8_stand_186 rfl rfl rfl ?_
                dsimp only [List.set]
                refine V.goto 71 dX8_stand_189 (by decide) ?_
                have z := fun u => ih2 (y + 1) (by omega) (by omega) _ u hM7 hf8
                first | (exfalso; omega) | (rw [stY_neg (by first | exact hno2 | exact (fun u => hno1 u.1))] at z; exact z _) | (rw [stY_pos ⟨hfr, hdq⟩, if_pos (hyn.mpr hz6)] at z; exact z _) | (rw [stY_pos ⟨hfr, hdq⟩, if_neg (fun u => hz6 (hyn.mp u))] at z; exact z _)
              · skip
                refine V.aload_n dX8_stand_148 rfl ?_
                refine V.iload_n dX8_stand_149 rfl ?_
                refine V.re (iI_toN (n := q.toNat) (by omega)) ?_
                refine V.callVp (ci := 8) cX8_119 (m_draftOf g h_ m F _ (rPut (tS T) p.toNat x y) hM5 hBq q.toNat hqn) dX8_stand_150 (Nat.le_of_ble_eq_true rfl) rfl ho5 rfl rfl (Nat.le_of_ble_eq_true rfl) ?_
                refine V.iload_n dX8_stand_153 rfl ?_
                refine V.re (iI_toN (n := w.toNat) (by omega)) ?_
                refine V.icmp_ne 182 dX8_stand_154 (by decide) (fun hc12 => ?_) (fun hc12 => ?_)
                · skip
                  first | (have hdq : draftF (rPut (tS T) p.toNat x y) q.toNat = some w.toNat := (eO_some (hdl x y) (by omega)).mp hc12) | (have hno2 : ¬ stOk (tS T) p.toNat q.toNat w.toNat x y := fun u => hc12 ((eO_some (hdl x y) (by omega)).mpr u.2))
                  refine V.aload_n dX8_stand_182 rfl ?_
                  refine V.callV (ci := 8) cX8_157 (m_lets g _ m F _ hM5.1) dX8_stand_183 (Nat.le_of_ble_eq_true rfl) rfl ho5 rfl rfl (Nat.le_of_ble_eq_true rfl) (fun v_ h_ hp_ => ?_)
                  obtain ⟨rfl, hw7, hf7⟩ := hp_
                  dsimp only [Option.toList, List.nil_append]
                  have hM7 := hM.back (lets_back hw7)
                  have hf8 := hf6.tr (hf7.wide (lo' := m) (hi' := m + 12) (by omega) (by omega))
                  refine V.iincN (n := 1) dX8_stand_186 rfl rfl rfl ?_
                  dsimp only [List.set]
                  refine V.goto 71 dX8_stand_189 (by decide) ?_
                  have z := fun u => ih2 (y + 1) (by omega) (by omega) _ u hM7 hf8
                  first | (exfalso; omega) | (rw [stY_neg (by first | exact hno2 | exact (fun u => hno1 u.1))] at z; exact z _) | (rw [stY_pos ⟨hfr, hdq⟩, if_pos (hyn.mpr hz6)] at z; exact z _) | (rw [stY_pos ⟨hfr, hdq⟩, if_neg (fun u => hz6 (hyn.mp u))] at z; exact z _)
                · skip
                  first | (have hdq : draftF (rPut (tS T) p.toNat x y) q.toNat = some w.toNat := (eO_some (hdl x y) (by omega)).mp hc12) | (have hno2 : ¬ stOk (tS T) p.toNat q.toNat w.toNat x y := fun u => hc12 ((eO_some (hdl x y) (by omega)).mpr u.2))
                  refine V.iincN (n := 1) dX8_stand_157 rfl rfl rfl ?_
                  dsimp only [List.set]
                  refine V.iload dX8_stand_160 rfl ?_
                  refine V.bipush (v := iI (-4)) dX8_stand_162 (by decide) ?_
                  refine V.icmp_ne 178 dX8_stand_164 (by decide) (fun hc13 => ?_) (fun hc13 => ?_)
                  · skip
                    first | (have hz6 := (eO_none hys).mp hc13) | (have hz6 : ¬ (stY (tS T) p.toNat q.toNat w.toNat x (stX (tS T) p.toNat q.toNat w.toNat x) y).2 = none := fun u => hc13 ((eO_none hys).mpr u))
                    refine V.iload dX8_stand_178 rfl ?_
                    refine V.istore dX8_stand_180 rfl rfl ?_
                    dsimp only [List.set]
                    refine V.aload_n dX8_stand_182 rfl ?_
                    refine V.callV (ci := 8) cX8_157 (m_lets g _ m F _ hM5.1) dX8_stand_183 (Nat.le_of_ble_eq_true rfl) rfl ho5 rfl rfl (Nat.le_of_ble_eq_true rfl) (fun v_ h_ hp_ => ?_)
                    obtain ⟨rfl, hw7, hf7⟩ := hp_
                    dsimp only [Option.toList, List.nil_append]
                    have hM7 := hM.back (lets_back hw7)
                    have hf8 := hf6.tr (hf7.wide (lo' := m) (hi' := m + 12) (by omega) (by omega))
                    refine V.iincN (n := 1) dX8_stand_186 rfl rfl rfl ?_
                    dsimp only [List.set]
                    refine V.goto 71 dX8_stand_189 (by decide) ?_
                    have z := fun u => ih2 (y + 1) (by omega) (by omega) _ u hM7 hf8
                    first | (exfalso; omega) | (rw [stY_neg (by first | exact hno2 | exact (fun u => hno1 u.1))] at z; exact z _) | (rw [stY_pos ⟨hfr, hdq⟩, if_pos (hyn.mpr hz6)] at z; exact z _) | (rw [stY_pos ⟨hfr, hdq⟩, if_neg (fun u => hz6 (hyn.mp u))] at z; exact z _)
                  · skip
                    first | (have hz6 := (eO_none hys).mp hc13) | (have hz6 : ¬ (stY (tS T) p.toNat q.toNat w.toNat x (stX (tS T) p.toNat q.toNat w.toNat x) y).2 = none := fun u => hc13 ((eO_none hys).mpr u))
                    refine V.bipush (v := nI 10) dX8_stand_167 (by decide) ?_
                    refine V.iload dX8_stand_169 rfl ?_
                    refine V.imulN dX8_stand_171 ?_
                    refine V.iload dX8_stand_172 rfl ?_
                    refine V.iaddN dX8_stand_174 ?_
                    refine V.goto 180 dX8_stand_175 (by decide) ?_
                    refine V.istore dX8_stand_180 rfl rfl ?_
                    dsimp only [List.set]
                    refine V.aload_n dX8_stand_182 rfl ?_
                    refine V.callV (ci := 8) cX8_157 (m_lets g _ m F _ hM5.1) dX8_stand_183 (Nat.le_of_ble_eq_true rfl) rfl ho5 rfl rfl (Nat.le_of_ble_eq_true rfl) (fun v_ h_ hp_ => ?_)
                    obtain ⟨rfl, hw7, hf7⟩ := hp_
                    dsimp only [Option.toList, List.nil_append]
                    have hM7 := hM.back (lets_back hw7)
                    have hf8 := hf6.tr (hf7.wide (lo' := m) (hi' := m + 12) (by omega) (by omega))
                    refine V.iincN (n := 1) dX8_stand_186 rfl rfl rfl ?_
                    dsimp only [List.set]
                    refine V.goto 71 dX8_stand_189 (by decide) ?_
                    have z := fun u => ih2 (y + 1) (by omega) (by omega) _ u hM7 hf8
                    first | (exfalso; omega) | (rw [stY_neg (by first | exact hno2 | exact (fun u => hno1 u.1))] at z; exact z _) | (rw [stY_pos ⟨hfr, hdq⟩, if_pos (hyn.mpr hz6)] at z; exact z _) | (rw [stY_pos ⟨hfr, hdq⟩, if_neg (fun u => hz6 (hyn.mp u))] at z; exact z _)
            · skip
              first | (have hno1 : ¬ (whoF (tS T) x y (rN (tS T)) = none ∨ whoF (tS T) x y (rN (tS T)) = some p.toNat) := fun u => u.elim hnn (fun u => absurd (whoF_lt u).2.2 (by omega))) | (have hfr : (whoF (tS T) x y (rN (tS T)) = none ∨ whoF (tS T) x y (rN (tS T)) = some p.toNat) := Or.inr (whoF_eq hD hpn ⟨by omega, by omega⟩))
              refine V.iconst (v := nI 1) dX8_stand_123 (by decide) ?_
              refine V.goto 128 dX8_stand_124 (by decide) ?_
              refine V.istore dX8_stand_128 rfl rfl ?_
              dsimp only [List.set]
              refine V.aload_n dX8_stand_130 rfl ?_
              refine V.iload_n dX8_stand_131 rfl ?_
              refine V.re (iI_toN (n := p.toNat) (by omega)) ?_
              refine V.bipush (v := nI 9) dX8_stand_132 (by decide) ?_
              refine V.iload dX8_stand_134 rfl ?_
              refine V.imulN dX8_stand_136 ?_
              refine V.iload dX8_stand_137 rfl ?_
              refine V.iaddN dX8_stand_139 ?_
              refine V.callV (ci := 8) cX8_163 (m_puts g h1 m F (upA A 9 (A 5)) (tS T) hM1 hB p.toNat (9 * x + y) hpn (by omega)) dX8_stand_140 (Nat.le_of_ble_eq_true rfl) rfl ho1 rfl rfl (Nat.le_of_ble_eq_true rfl) (fun v_ h_ hp_ => ?_)
              obtain ⟨rfl, s5, hM5, hf5⟩ := hp_
              dsimp only [Option.toList, List.nil_append]
              rw [show (9 * x + y) / 9 = x by omega, show (9 * x + y) % 9 = y by omega] at hM5
              have hf6 := hf1.tr (hf5.wide (lo' := m) (hi' := m + 12) (by omega) (by omega))
              have hBq : RmB (rPut (tS T) p.toNat x y) := put_B hB (by omega) (by omega)
              have ho5 := hM5.1.1
              refine V.iload dX8_stand_143 rfl ?_
              refine V.if_eqN 182 dX8_stand_145 (by decide) (by omega) (fun hc14 => ?_) (fun hc14 => ?_)
              · skip
                refine V.aload_n dX8_stand_182 rfl ?_
                refine V.callV (ci := 8) cX8_157 (m_lets g _ m F _ hM5.1) dX8_stand_183 (Nat.le_of_ble_eq_true rfl) rfl ho5 rfl rfl (Nat.le_of_ble_eq_true rfl) (fun v_ h_ hp_ => ?_)
                obtain ⟨rfl, hw7, hf7⟩ := hp_
                dsimp only [Option.toList, List.nil_append]
                have hM7 := hM.back (lets_back hw7)
                have hf8 := hf6.tr (hf7.wide (lo' := m) (hi' := m + 12) (by omega) (by omega))
                refine V.iincN (n := 1) dX8_stand_186 rfl rfl rfl ?_
                dsimp only [List.set]
                refine V.goto 71 dX8_stand_189 (by decide) ?_
                have z := fun u => ih2 (y + 1) (by omega) (by omega) _ u hM7 hf8
                first | (exfalso; omega) | (rw [stY_neg (by first | exact hno2 | exact (fun u => hno1 u.1))] at z; exact z _) | (rw [stY_pos ⟨hfr, hdq⟩, if_pos (hyn.mpr hz6)] at z; exact z _) | (rw [stY_pos ⟨hfr, hdq⟩, if_neg (fun u => hz6 (hyn.mp u))] at z; exact z _)
              · skip
                refine V.aload_n dX8_stand_148 rfl ?_
                refine V.iload_n dX8_stand_149 rfl ?_
                refine V.re (iI_toN (n := q.toNat) (by omega)) ?_
                refine V.callVp (ci := 8) cX8_119 (m_draftOf g h_ m F _ (rPut (tS T) p.toNat x y) hM5 hBq q.toNat hqn) dX8_stand_150 (Nat.le_of_ble_eq_true rfl) rfl ho5 rfl rfl (Nat.le_of_ble_eq_true rfl) ?_
                refine V.iload_n dX8_stand_153 rfl ?_
                refine V.re (iI_toN (n := w.toNat) (by omega)) ?_
                refine V.icmp_ne 182 dX8_stand_154 (by decide) (fun hc15 => ?_) (fun hc15 => ?_)
                · skip
                  first | (have hdq : draftF (rPut (tS T) p.toNat x y) q.toNat = some w.toNat := (eO_some (hdl x y) (by omega)).mp hc15) | (have hno2 : ¬ stOk (tS T) p.toNat q.toNat w.toNat x y := fun u => hc15 ((eO_some (hdl x y) (by omega)).mpr u.2))
                  refine V.aload_n dX8_stand_182 rfl ?_
                  refine V.callV (ci := 8) cX8_157 (m_lets g _ m F _ hM5.1) dX8_stand_183 (Nat.le_of_ble_eq_true rfl) rfl ho5 rfl rfl (Nat.le_of_ble_eq_true rfl) (fun v_ h_ hp_ => ?_)
                  obtain ⟨rfl, hw7, hf7⟩ := hp_
                  dsimp only [Option.toList, List.nil_append]
                  have hM7 := hM.back (lets_back hw7)
                  have hf8 := hf6.tr (hf7.wide (lo' := m) (hi' := m + 12) (by omega) (by omega))
                  refine V.iincN (n := 1) dX8_stand_186 rfl rfl rfl ?_
                  dsimp only [List.set]
                  refine V.goto 71 dX8_stand_189 (by decide) ?_
                  have z := fun u => ih2 (y + 1) (by omega) (by omega) _ u hM7 hf8
                  first | (exfalso; omega) | (rw [stY_neg (by first | exact hno2 | exact (fun u => hno1 u.1))] at z; exact z _) | (rw [stY_pos ⟨hfr, hdq⟩, if_pos (hyn.mpr hz6)] at z; exact z _) | (rw [stY_pos ⟨hfr, hdq⟩, if_neg (fun u => hz6 (hyn.mp u))] at z; exact z _)
                · skip
                  first | (have hdq : draftF (rPut (tS T) p.toNat x y) q.toNat = some w.toNat := (eO_some (hdl x y) (by omega)).mp hc15) | (have hno2 : ¬ stOk (tS T) p.toNat q.toNat w.toNat x y := fun u => hc15 ((eO_some (hdl x y) (by omega)).mpr u.2))
                  refine V.iincN (n := 1) dX8_stand_157 rfl rfl rfl ?_
                  dsimp only [List.set]
                  refine V.iload dX8_stand_160 rfl ?_
                  refine V.bipush (v := iI (-4)) dX8_stand_162 (by decide) ?_
                  refine V.icmp_ne 178 dX8_stand_164 (by decide) (fun hc16 => ?_) (fun hc16 => ?_)
                  · skip
                    first | (have hz6 := (eO_none hys).mp hc16) | (have hz6 : ¬ (stY (tS T) p.toNat q.toNat w.toNat x (stX (tS T) p.toNat q.toNat w.toNat x) y).2 = none := fun u => hc16 ((eO_none hys).mpr u))
                    refine V.iload dX8_stand_178 rfl ?_
                    refine V.istore dX8_stand_180 rfl rfl ?_
                    dsimp only [List.set]
                    refine V.aload_n dX8_stand_182 rfl ?_
                    refine V.callV (ci := 8) cX8_157 (m_lets g _ m F _ hM5.1) dX8_stand_183 (Nat.le_of_ble_eq_true rfl) rfl ho5 rfl rfl (Nat.le_of_ble_eq_true rfl) (fun v_ h_ hp_ => ?_)
                    obtain ⟨rfl, hw7, hf7⟩ := hp_
                    dsimp only [Option.toList, List.nil_append]
                    have hM7 := hM.back (lets_back hw7)
                    have hf8 := hf6.tr (hf7.wide (lo' := m) (hi' := m + 12) (by omega) (by omega))
                    refine V.iincN (n := 1) dX8_stand_186 rfl rfl rfl ?_
                    dsimp only [List.set]
                    refine V.goto 71 dX8_stand_189 (by decide) ?_
                    have z := fun u => ih2 (y + 1) (by omega) (by omega) _ u hM7 hf8
                    first | (exfalso; omega) | (rw [stY_neg (by first | exact hno2 | exact (fun u => hno1 u.1))] at z; exact z _) | (rw [stY_pos ⟨hfr, hdq⟩, if_pos (hyn.mpr hz6)] at z; exact z _) | (rw [stY_pos ⟨hfr, hdq⟩, if_neg (fun u => hz6 (hyn.mp u))] at z; exact z _)
                  · skip
                    first | (have hz6 := (eO_none hys).mp hc16) | (have hz6 : ¬ (stY (tS T) p.toNat q.toNat w.toNat x (stX (tS T) p.toNat q.toNat w.toNat x) y).2 = none := fun u => hc16 ((eO_none hys).mpr u))
                    refine V.bipush (v := nI 10) dX8_stand_167 (by decide) ?_
                    refine V.iload dX8_stand_169 rfl ?_
                    refine V.imulN dX8_stand_171 ?_
                    refine V.iload dX8_stand_172 rfl ?_
                    refine V.iaddN dX8_stand_174 ?_
                    refine V.goto 180 dX8_stand_175 (by decide) ?_
                    refine V.istore dX8_stand_180 rfl rfl ?_
                    dsimp only [List.set]
                    refine V.aload_n dX8_stand_182 rfl ?_
                    refine V.callV (ci := 8) cX8_157 (m_lets g _ m F _ hM5.1) dX8_stand_183 (Nat.le_of_ble_eq_true rfl) rfl ho5 rfl rfl (Nat.le_of_ble_eq_true rfl) (fun v_ h_ hp_ => ?_)
                    obtain ⟨rfl, hw7, hf7⟩ := hp_
                    dsimp only [Option.toList, List.nil_append]
                    have hM7 := hM.back (lets_back hw7)
                    have hf8 := hf6.tr (hf7.wide (lo' := m) (hi' := m + 12) (by omega) (by omega))
                    refine V.iincN (n := 1) dX8_stand_186 rfl rfl rfl ?_
                    dsimp only [List.set]
                    refine V.goto 71 dX8_stand_189 (by decide) ?_
                    have z := fun u => ih2 (y + 1) (by omega) (by omega) _ u hM7 hf8
                    first | (exfalso; omega) | (rw [stY_neg (by first | exact hno2 | exact (fun u => hno1 u.1))] at z; exact z _) | (rw [stY_pos ⟨hfr, hdq⟩, if_pos (hyn.mpr hz6)] at z; exact z _) | (rw [stY_pos ⟨hfr, hdq⟩, if_neg (fun u => hz6 (hyn.mp u))] at z; exact z _)
    refine V.iload dX8_stand_57 rfl ?_
    refine V.aload_n dX8_stand_59 rfl ?_
    refine V.get fX8_13 dX8_stand_60 ho1 rfl ?_
    refine V.iconst (v := nI 0) dX8_stand_63 (by decide) ?_
    refine V.iald dX8_stand_64 (hA1 2 (by omega) (by omega)).1 rfl (by omega) et0 ?_
    refine V.icmp_geN 198 dX8_stand_65 (by decide) (by omega) (by omega) (fun hc1 => ?_) (fun hc1 => ?_)
    · skip
      refine V.iload dX8_stand_198 rfl ?_
      refine V.if_neZ 208 dX8_stand_200 (by decide) (by omega) (fun hc2 => ?_) (fun hc2 => ?_)
      · skip
        refine V.iload dX8_stand_208 rfl ?_
        obtain rfl : x = rW (tS T) := (by omega)
        exact V.iret dX8_stand_210 rfl ⟨by unfold a_stand; rw [if_pos hcd]; first | (rw [if_pos (by omega)]; done) | (rw [if_neg (by omega)]; done), MAt.aside (h := h) hM1 hAll, hf1⟩
      · skip
        refine V.iload dX8_stand_203 rfl ?_
        refine V.goto 210 dX8_stand_205 (by decide) ?_
        obtain rfl : x = rW (tS T) := (by omega)
        exact V.iret dX8_stand_210 rfl ⟨by unfold a_stand; rw [if_pos hcd]; first | (rw [if_pos (by omega)]; done) | (rw [if_neg (by omega)]; done), MAt.aside (h := h) hM1 hAll, hf1⟩
    · skip
      refine V.iconst (v := nI 0) dX8_stand_68 (by decide) ?_
      refine V.istore dX8_stand_69 rfl rfl ?_
      dsimp only [List.set]
      exact LI (by omega) 0 (by omega) h1 _ hM1 hf1
  show V _ _ 0 [some (.ref m), some (.int (iI p)), some (.int (iI q)), some (.int (iI w)), some (.int (iI what)), none, none, none, none, none] [] h
  refine V.aload_n dX8_stand_0 rfl ?_
  refine V.iload_n dX8_stand_1 rfl ?_
  refine V.callVp (ci := 8) cX8_116 (m_isOne g h m F A (tS T) hM hB p (by omega)) dX8_stand_2 (Nat.le_of_ble_eq_true rfl) rfl ho rfl rfl (Nat.le_of_ble_eq_true rfl) ?_
  refine V.if_eqB 41 dX8_stand_5 (by decide) (fun hc1 => ?_) (fun hc1 => ?_)
  · skip
    refine V.iconst (v := iI (-1)) dX8_stand_41 (by decide) ?_
    exact V.iret dX8_stand_42 rfl ⟨by unfold a_stand; rw [if_neg (by omega)], hC, VFr.rf⟩
  · skip
    refine V.aload_n dX8_stand_8 rfl ?_
    refine V.iload_n dX8_stand_9 rfl ?_
    refine V.callVp (ci := 8) cX8_116 (m_isOne g h m F A (tS T) hM hB q (by omega)) dX8_stand_10 (Nat.le_of_ble_eq_true rfl) rfl ho rfl rfl (Nat.le_of_ble_eq_true rfl) ?_
    refine V.if_eqB 41 dX8_stand_13 (by decide) (fun hc2 => ?_) (fun hc2 => ?_)
    · skip
      refine V.iconst (v := iI (-1)) dX8_stand_41 (by decide) ?_
      exact V.iret dX8_stand_42 rfl ⟨by unfold a_stand; rw [if_neg (by omega)], hC, VFr.rf⟩
    · skip
      refine V.iload_n dX8_stand_16 rfl ?_
      refine V.iload_n dX8_stand_17 rfl ?_
      refine V.icmp_eqZ 41 dX8_stand_18 (by decide) (by omega) (by omega) (fun hc3 => ?_) (fun hc3 => ?_)
      · skip
        refine V.iconst (v := iI (-1)) dX8_stand_41 (by decide) ?_
        exact V.iret dX8_stand_42 rfl ⟨by unfold a_stand; rw [if_neg (by omega)], hC, VFr.rf⟩
      · skip
        refine V.iload_n dX8_stand_21 rfl ?_
        refine V.iconst (v := nI 0) dX8_stand_22 (by decide) ?_
        refine V.bipush (v := nI 7) dX8_stand_23 (by decide) ?_
        refine V.toZ1 ?_
        refine V.toZ2 ?_
        refine V.callSp cX8_53 (m_in g h _ _ _ (by omega) (by omega) (by omega)) dX8_stand_25 (Nat.le_of_ble_eq_true rfl) rfl rfl (Nat.le_of_ble_eq_true rfl) ?_
        refine V.if_eqB 41 dX8_stand_28 (by decide) (fun hc4 => ?_) (fun hc4 => ?_)
        · skip
          refine V.iconst (v := iI (-1)) dX8_stand_41 (by decide) ?_
          exact V.iret dX8_stand_42 rfl ⟨by unfold a_stand; rw [if_neg (by omega)], hC, VFr.rf⟩
        · skip
          refine V.iload dX8_stand_31 rfl ?_
          refine V.iconst (v := nI 0) dX8_stand_33 (by decide) ?_
          refine V.iconst (v := nI 1) dX8_stand_34 (by decide) ?_
          refine V.toZ1 ?_
          refine V.toZ2 ?_
          refine V.callSp cX8_53 (m_in g h _ _ _ (by omega) (by omega) (by omega)) dX8_stand_35 (Nat.le_of_ble_eq_true rfl) rfl rfl (Nat.le_of_ble_eq_true rfl) ?_
          refine V.if_neB 43 dX8_stand_38 (by decide) (fun hc5 => ?_) (fun hc5 => ?_)
          · skip
            refine V.aload_n dX8_stand_43 rfl ?_
            refine V.callV (ci := 8) cX8_154 (m_holds g h m F A hM.1) dX8_stand_44 (Nat.le_of_ble_eq_true rfl) rfl ho rfl rfl (Nat.le_of_ble_eq_true rfl) (fun v_ h_ hp_ => ?_)
            obtain ⟨rfl, hw2, hf2⟩ := hp_
            dsimp only [Option.toList, List.nil_append]
            have hM2 := hM.held hw2
            have ho2 := hw2.1
            refine V.iconst (v := nI 0) dX8_stand_47 (by decide) ?_
            refine V.istore dX8_stand_48 rfl rfl ?_
            dsimp only [List.set]
            refine V.bipush (v := iI (-4)) dX8_stand_50 (by decide) ?_
            refine V.istore dX8_stand_52 rfl rfl ?_
            dsimp only [List.set]
            refine V.iconst (v := nI 0) dX8_stand_54 (by decide) ?_
            refine V.istore dX8_stand_55 rfl rfl ?_
            dsimp only [List.set]
            exact L (by omega) 0 (by omega) _ none none (hM.back hw2) (hf2.wide (by omega) (by omega))
          · skip
            refine V.iconst (v := iI (-1)) dX8_stand_41 (by decide) ?_
            exact V.iret dX8_stand_42 rfl ⟨by unfold a_stand; rw [if_neg (by omega)], hC, VFr.rf⟩
