def kindS (S : Rm) (p kd : Nat) : Rm := (rW S, rH S, rN S, rT S, (fun i => if i = p then kd else rK S i), rV S, rX S, rY S, rL S)
theorem kind_draft {S : Rm} {p kd q : Nat} : draftF (kindS S p kd) q = draftF S q := draft_congr (S := kindS S p kd) (S' := S) rfl rfl rfl rfl q 63
theorem kind_K {S : Rm} {p kd : Nat} : rK (kindS S p kd) p = kd := if_pos rfl
theorem kind_B {S : Rm} {p kd : Nat} (hB : RmB S) (hk : kd < 4) : RmB (kindS S p kd) := ⟨hB.1, hB.2.1, hB.2.2.1, fun i hi => ⟨by
  show (if i = p then kd else rK S i) < 4
  split
  · exact hk
  · exact (hB.2.2.2.1 i hi).1, (hB.2.2.2.1 i hi).2⟩, hB.2.2.2.2⟩
def MK (h : VHp) (m : Nat) (F : MF) (A A' : MA) (p : Nat) : Prop := MRaw h m F A' ∧ (∀ i, i ≠ 2 → i ≠ 9 → A' i = A i) ∧ ∀ x, (A' 2).set (3 + p) x = (A 2).set (3 + p) x
theorem MK.set {h : VHp} {m p : Nat} {F : MF} {A A' : MA} (w : MK h m F A A' p) (x : Int32) : MK (h.set (m + 2) (.inl ((A' 2).set (3 + p) x))) m F A (upA A' 2 ((A' 2).set (3 + p) x)) p :=
  ⟨MRaw.set w.1 2 (by omega) (by omega) _ (by rw [List.length_set]; exact (w.1.2 2 (by omega) (by omega)).2), fun i h1 h2 => by rw [upA_n h1]; exact w.2.1 i h1 h2, fun y => by rw [upA_s, List.set_set]; exact w.2.2 y⟩
theorem MK.room {h : VHp} {m p k : Nat} {F : MF} {A A' : MA} {S : Rm} (w : MK h m F A A' p) (hr : RowT S (A 2)) (hs : RowS S (A 5)) (hp : p < rN S) (hl : (A 2).length = 9) (hn : rN S ≤ 6) (e : A' 2 = (A 2).set (3 + p) (nI k)) : MRm h m F A' (kindS S p k) :=
  ⟨w.1, by
    rw [e]
    refine ⟨?_, ?_, ?_, fun i hi => ?_⟩
    · rw [List.getElem?_set_ne (by omega)]; exact hr.1
    · rw [List.getElem?_set_ne (by omega)]; exact hr.2.1
    · rw [List.getElem?_set_ne (by omega)]; exact hr.2.2.1
    · show _ = some (nI (if i = p then k else rK S i))
      by_cases q : i = p
      · rw [if_pos q, q, List.getElem?_set_self (by omega)]
      · rw [if_neg q, List.getElem?_set_ne (by omega)]; exact hr.2.2.2 i hi, by rw [w.2.1 5 (by omega) (by omega)]; exact hs⟩
theorem set_same {l : List Int32} {i : Nat} {x : Int32} (hl : i < l.length) (hx : l[i]? = some x) : l.set i x = l := by
  apply List.ext_getElem?
  intro j
  by_cases e : i = j
  · rw [← e, List.getElem?_set_self hl, hx]
  · rw [List.getElem?_set_ne e]
abbrev holdI (ns : List Nt) (p kd told : Nat) (d : Option Nat) (i : Nat) : Prop := ∀ j, j < i → (ns.getD j (0, 0, 0)).1 = p → itF kd d told (ns.getD j (0, 0, 0)).2.1 = (ns.getD j (0, 0, 0)).2.2
theorem holdI_pos {ns : List Nt} {p kd told i : Nat} {d : Option Nat} (w : holdI ns p kd told d i) (z : (ns.getD i (0, 0, 0)).1 = p → itF kd d told (ns.getD i (0, 0, 0)).2.1 = (ns.getD i (0, 0, 0)).2.2) : holdI ns p kd told d (i + 1) := fun j hj e => by
  by_cases q : j = i
  · subst q; exact z e
  · exact w j (by omega) e
theorem holdI_down {ns : List Nt} {p kd told i : Nat} {d : Option Nat} (w : ¬ holdI ns p kd told d i) : ¬ holdI ns p kd told d (i + 1) := fun z => w (fun j hj => z j (by omega))
theorem holdI_neg {ns : List Nt} {p kd told i : Nat} {d : Option Nat} (e : (ns.getD i (0, 0, 0)).1 = p) (w : ¬ itF kd d told (ns.getD i (0, 0, 0)).2.1 = (ns.getD i (0, 0, 0)).2.2) : ¬ holdI ns p kd told d (i + 1) := fun z => w (z i (by omega) e)

set_option maxHeartbeats 1000000 in
theorem r_kinds (g : VG) (h : VHp) (m : Nat) (T : Sy) (hC : MAt h m T) (hO : SyOk T) (p : Int) (hp0 : -2147483648 ≤ p ∧ p < 2147483648) : VE g mX8_kinds 6 false (0, 0) [.ref m, .int (iI p)] h (MPo m (a_kinds T p) T h) := by
  obtain ⟨F, A, hM, hAll⟩ := id hC
  obtain ⟨hF0, hTx, hF1, hPa, hF2, hKe, hF3, hNo⟩ := id hAll
  obtain ⟨hOt, hOs, hOn, hOp, hOk, hOns, hOpk, hOkk⟩ := id hO
  have hB := hOs.1
  have hD := hOs.2.1
  have hnl := hOns.1
  have htl := hOt.1
  obtain ⟨hw, ⟨et0, et1, et2, ek⟩, es0, ev, ex, ey, eL⟩ := id hM
  obtain ⟨ho, hA⟩ := id hw
  obtain ⟨bn, bW, bH, bP, bL⟩ := id hB
  refine VE.of (by decide) rfl (Nat.le_of_ble_eq_true rfl) ?_
  have hl2 : (A 2).length = 9 := (hA 2 (by omega) (by omega)).2
  have L : isP T p → ∀ k, k ≤ 4 → ∀ (h1 : VHp) (A1 : MA) (v5 v6 : Option Value), MK h1 m F A A1 p.toNat → VFr m (m + 12) h h1 → V (g, mX8_kinds, 6, false, h.length, MPo m (a_kinds T p) T h) (0, 0) 24 [some (.ref m), some (.int (iI p)), some (.int (nI (rK (tS T) p.toNat))), some (.int (nI (bitsF (fun kd => holdF (tN T) p.toNat kd (rV (tS T) p.toNat) (draftF (tS T) p.toNat)) k))), some (.int (nI k)), v5, v6] [] h1 := by
    intro hpp
    have hpn : p.toNat < rN (tS T) := by omega
    refine vloop 4 (fun k ih hi => ?_)
    intro h1 A1 v5 v6 hk1 hf1
    obtain ⟨hw1, hs1, ht1⟩ := id hk1
    obtain ⟨ho1, hA1⟩ := id hw1
    have LI : k < 4 → ∀ i, i ≤ (tN T).length → ∀ (h3 : VHp) (A3 : MA), MK h3 m F A A3 p.toNat → A3 2 = (A 2).set (3 + p.toNat) (nI k) → VFr m (m + 12) h h3 → V (g, mX8_kinds, 6, false, h.length, MPo m (a_kinds T p) T h) (0, 0) 46 [some (.ref m), some (.int (iI p)), some (.int (nI (rK (tS T) p.toNat))), some (.int (nI (bitsF (fun kd => holdF (tN T) p.toNat kd (rV (tS T) p.toNat) (draftF (tS T) p.toNat)) k))), some (.int (nI k)), some (.int (vB (holdI (tN T) p.toNat k (rV (tS T) p.toNat) (draftF (tS T) p.toNat) i))), some (.int (nI i))] [] h3 := by
      intro hk9
      refine vloop (tN T).length (fun i ih2 hj => ?_)
      intro h3 A3 hk3 e3 hf3
      have hM3 := hk3.room hM.2.1 hM.2.2 hpn hl2 bn e3
      obtain ⟨ho3, hA3⟩ := id hk3.1
      have e8 := hk3.2.1 8 (by omega) (by omega)
      refine V.iload dX8_kinds_46 rfl ?_
      refine V.aload_n dX8_kinds_48 rfl ?_
      refine V.get fX8_96 dX8_kinds_49 ho3 rfl ?_
      refine V.re hF3 ?_
      refine V.icmp_geN 116 dX8_kinds_52 (by decide) (by omega) (by omega) (fun hc1 => ?_) (fun hc1 => ?_)
      · skip
        have hb16 := bits_64 (P := (fun kd => holdF (tN T) p.toNat kd (rV (tS T) p.toNat) (draftF (tS T) p.toNat))) (n := k) (by omega)
        refine V.iload_n dX8_kinds_116 rfl ?_
        refine V.iload dX8_kinds_117 rfl ?_
        refine V.if_eqB 129 dX8_kinds_119 (by decide) (fun hc2 => ?_) (fun hc2 => ?_)
        · skip
          refine V.iconst (v := nI 0) dX8_kinds_129 (by decide) ?_
          refine V.iorN dX8_kinds_130 ?_
          refine V.istore_n (i := 3) dX8_kinds_131 rfl rfl rfl ?_
          dsimp only [List.set]
          refine V.iincN (n := 1) dX8_kinds_132 rfl rfl rfl ?_
          dsimp only [List.set]
          refine V.goto 24 dX8_kinds_135 (by decide) ?_
          obtain rfl : i = (tN T).length := (by omega)
          have z := ih (k + 1) (by omega) (by omega)
          first | (rw [bits_pos (P := (fun kd => holdF (tN T) p.toNat kd (rV (tS T) p.toNat) (draftF (tS T) p.toNat))) (n := k) (by assumption)] at z; exact z _ _ _ _ hk3 hf3) | (rw [bits_neg (P := (fun kd => holdF (tN T) p.toNat kd (rV (tS T) p.toNat) (draftF (tS T) p.toNat))) (n := k) (by assumption)] at z; rw [Nat.or_zero]; exact z _ _ _ _ hk3 hf3)
        · skip
          refine V.iconst (v := nI 1) dX8_kinds_122 (by decide) ?_
          refine V.iload dX8_kinds_123 rfl ?_
          refine V.ishlN dX8_kinds_125 (p2_lt (by omega)) (by omega) ?_
          refine V.goto 130 dX8_kinds_126 (by decide) ?_
          refine V.iorN dX8_kinds_130 ?_
          refine V.istore_n (i := 3) dX8_kinds_131 rfl rfl rfl ?_
          dsimp only [List.set]
          refine V.iincN (n := 1) dX8_kinds_132 rfl rfl rfl ?_
          dsimp only [List.set]
          refine V.goto 24 dX8_kinds_135 (by decide) ?_
          obtain rfl : i = (tN T).length := (by omega)
          have z := ih (k + 1) (by omega) (by omega)
          first | (rw [bits_pos (P := (fun kd => holdF (tN T) p.toNat kd (rV (tS T) p.toNat) (draftF (tS T) p.toNat))) (n := k) (by assumption)] at z; exact z _ _ _ _ hk3 hf3) | (rw [bits_neg (P := (fun kd => holdF (tN T) p.toNat kd (rV (tS T) p.toNat) (draftF (tS T) p.toNat))) (n := k) (by assumption)] at z; rw [Nat.or_zero]; exact z _ _ _ _ hk3 hf3)
      · skip
        obtain ⟨bn1, bn2, bn3⟩ := hOns.2 i (by omega)
        refine V.iload dX8_kinds_55 rfl ?_
        refine V.if_eqB 107 dX8_kinds_57 (by decide) (fun hc3 => ?_) (fun hc3 => ?_)
        · skip
          refine V.iconst (v := nI 0) dX8_kinds_107 (by decide) ?_
          refine V.istore dX8_kinds_108 rfl rfl ?_
          dsimp only [List.set]
          refine V.iincN (n := 1) dX8_kinds_110 rfl rfl rfl ?_
          dsimp only [List.set]
          refine V.goto 46 dX8_kinds_113 (by decide) ?_
          have z := ih2 (i + 1) (by omega) (by omega)
          first
            | (rw [vB_t (holdI_pos (by assumption) (fun e => by first | assumption | omega | (exfalso; omega)))] at z; first | exact z _ _ hk4 e4 (hf3.tr hf4) | exact z _ _ hk3 e3 hf3)
            | (rw [vB_f (holdI_down (by assumption))] at z; exact z _ _ hk3 e3 hf3)
            | (rw [vB_f (holdI_neg (by omega) (by assumption))] at z; exact z _ _ hk4 e4 (hf3.tr hf4))
        · skip
          refine V.aload_n dX8_kinds_60 rfl ?_
          refine V.get fX8_31 dX8_kinds_61 ho3 rfl ?_
          refine V.iconst (v := nI 3) dX8_kinds_64 (by decide) ?_
          refine V.iload dX8_kinds_65 rfl ?_
          refine V.imulN dX8_kinds_67 ?_
          refine V.iald dX8_kinds_68 (hA3 8 (by omega) (by omega)).1 rfl (by omega) (by rw [e8]; exact (hNo i (by omega)).1) ?_
          refine V.iload_n dX8_kinds_69 rfl ?_
          refine V.re (iI_toN (n := p.toNat) (by omega)) ?_
          refine V.icmp_neN 103 dX8_kinds_70 (by decide) (by omega) (by omega) (fun hc4 => ?_) (fun hc4 => ?_)
          · skip
            refine V.iconst (v := nI 1) dX8_kinds_103 (by decide) ?_
            refine V.goto 108 dX8_kinds_104 (by decide) ?_
            refine V.istore dX8_kinds_108 rfl rfl ?_
            dsimp only [List.set]
            refine V.iincN (n := 1) dX8_kinds_110 rfl rfl rfl ?_
            dsimp only [List.set]
            refine V.goto 46 dX8_kinds_113 (by decide) ?_
            have z := ih2 (i + 1) (by omega) (by omega)
            first
              | (rw [vB_t (holdI_pos (by assumption) (fun e => by first | assumption | omega | (exfalso; omega)))] at z; first | exact z _ _ hk4 e4 (hf3.tr hf4) | exact z _ _ hk3 e3 hf3)
              | (rw [vB_f (holdI_down (by assumption))] at z; exact z _ _ hk3 e3 hf3)
              | (rw [vB_f (holdI_neg (by omega) (by assumption))] at z; exact z _ _ hk4 e4 (hf3.tr hf4))
          · skip
            refine V.aload_n dX8_kinds_73 rfl ?_
            refine V.aload_n dX8_kinds_74 rfl ?_
            refine V.get fX8_31 dX8_kinds_75 ho3 rfl ?_
            refine V.iconst (v := nI 3) dX8_kinds_78 (by decide) ?_
            refine V.iload dX8_kinds_79 rfl ?_
            refine V.imulN dX8_kinds_81 ?_
            refine V.iconst (v := nI 1) dX8_kinds_82 (by decide) ?_
            refine V.iaddN dX8_kinds_83 ?_
            refine V.iald dX8_kinds_84 (hA3 8 (by omega) (by omega)).1 rfl (by omega) (by rw [e8]; exact (hNo i (by omega)).2.1) ?_
            refine V.iload_n dX8_kinds_85 rfl ?_
            refine V.re (iI_toN (n := p.toNat) (by omega)) ?_
            refine V.callV (ci := 8) cX8_160 (m_behindOf g h3 m F A3 (kindS (tS T) p.toNat k) hM3 (kind_B hB hk9) ((tN T).getD i (0, 0, 0)).2.1 p.toNat (by omega) hpn) dX8_kinds_86 (Nat.le_of_ble_eq_true rfl) rfl ho3 rfl rfl (Nat.le_of_ble_eq_true rfl) (fun v_ h_ hp_ => ?_)
            obtain ⟨rfl, hM4, hf4⟩ := hp_
            rw [kind_draft, kind_K]
            dsimp only [Option.toList, List.cons_append, List.nil_append]
            have hk4 : MK h_ m F A (upA A3 9 (A3 5)) p.toNat := ⟨hM4.1, fun i a b => by rw [upA_n b]; exact hk3.2.1 i a b, fun x => by rw [upA_n (by omega)]; exact hk3.2.2 x⟩
            have e4 : upA A3 9 (A3 5) 2 = (A 2).set (3 + p.toNat) (nI k) := (upA_n (by omega)).trans e3
            obtain ⟨ho4, hA4⟩ := id hM4.1
            have hit8 := itF_lt (kd := k) (told := rV (tS T) p.toNat) (d := draftF (tS T) p.toNat) (bP _ hpn).2.1 (fun _ z => draftF_lt z) ((tN T).getD i (0, 0, 0)).2.1
            have e84 := hk4.2.1 8 (by omega) (by omega)
            change V _ _ _ _ (Value.int (nI (itF k (draftF (tS T) p.toNat) (rV (tS T) p.toNat) ((tN T).getD i (0, 0, 0)).2.1)) :: _) _
            refine V.aload_n dX8_kinds_89 rfl ?_
            refine V.get fX8_31 dX8_kinds_90 ho4 rfl ?_
            refine V.iconst (v := nI 3) dX8_kinds_93 (by decide) ?_
            refine V.iload dX8_kinds_94 rfl ?_
            refine V.imulN dX8_kinds_96 ?_
            refine V.iconst (v := nI 2) dX8_kinds_97 (by decide) ?_
            refine V.iaddN dX8_kinds_98 ?_
            refine V.iald dX8_kinds_99 (hA4 8 (by omega) (by omega)).1 rfl (by omega) (by rw [e84]; exact (hNo i (by omega)).2.2) ?_
            refine V.icmp_neN 107 dX8_kinds_100 (by decide) (by omega) (by omega) (fun hc5 => ?_) (fun hc5 => ?_)
            · skip
              refine V.iconst (v := nI 0) dX8_kinds_107 (by decide) ?_
              refine V.istore dX8_kinds_108 rfl rfl ?_
              dsimp only [List.set]
              refine V.iincN (n := 1) dX8_kinds_110 rfl rfl rfl ?_
              dsimp only [List.set]
              refine V.goto 46 dX8_kinds_113 (by decide) ?_
              have z := ih2 (i + 1) (by omega) (by omega)
              first
                | (rw [vB_t (holdI_pos (by assumption) (fun e => by first | assumption | omega | (exfalso; omega)))] at z; first | exact z _ _ hk4 e4 (hf3.tr hf4) | exact z _ _ hk3 e3 hf3)
                | (rw [vB_f (holdI_down (by assumption))] at z; exact z _ _ hk3 e3 hf3)
                | (rw [vB_f (holdI_neg (by omega) (by assumption))] at z; exact z _ _ hk4 e4 (hf3.tr hf4))
            · skip
              refine V.iconst (v := nI 1) dX8_kinds_103 (by decide) ?_
              refine V.goto 108 dX8_kinds_104 (by decide) ?_
              refine V.istore dX8_kinds_108 rfl rfl ?_
              dsimp only [List.set]
              refine V.iincN (n := 1) dX8_kinds_110 rfl rfl rfl ?_
              dsimp only [List.set]
              refine V.goto 46 dX8_kinds_113 (by decide) ?_
              have z := ih2 (i + 1) (by omega) (by omega)
              first
                | (rw [vB_t (holdI_pos (by assumption) (fun e => by first | assumption | omega | (exfalso; omega)))] at z; first | exact z _ _ hk4 e4 (hf3.tr hf4) | exact z _ _ hk3 e3 hf3)
                | (rw [vB_f (holdI_down (by assumption))] at z; exact z _ _ hk3 e3 hf3)
                | (rw [vB_f (holdI_neg (by omega) (by assumption))] at z; exact z _ _ hk4 e4 (hf3.tr hf4))
    refine V.iload dX8_kinds_24 rfl ?_
    refine V.iconst (v := nI 3) dX8_kinds_26 (by decide) ?_
    refine V.icmp_gtN 138 dX8_kinds_27 (by decide) (by omega) (by omega) (fun hc1 => ?_) (fun hc1 => ?_)
    · skip
      refine V.aload_n dX8_kinds_138 rfl ?_
      refine V.get fX8_13 dX8_kinds_139 ho1 rfl ?_
      refine V.iconst (v := nI 3) dX8_kinds_142 (by decide) ?_
      refine V.iload_n dX8_kinds_143 rfl ?_
      refine V.re (iI_toN (n := p.toNat) (by omega)) ?_
      refine V.iaddN dX8_kinds_144 ?_
      refine V.iload_n dX8_kinds_145 rfl ?_
      refine V.iast dX8_kinds_146 (hA1 2 (by omega) (by omega)).1 rfl (by omega) (by rw [(hA1 2 (by omega) (by omega)).2]; show _ < 9; omega) ?_
      have hk2 := MK.set hk1 (nI (rK (tS T) p.toNat))
      have hf2 := hf1.tr (VFr.set (h := h1) (lo := m) (hi := m + 12) (a := m + 2) (c := Sum.inl ((A1 2).set (3 + p.toNat) (nI (rK (tS T) p.toNat)))) (by omega) (by omega))
      have e2 : upA A1 2 ((A1 2).set (3 + p.toNat) (nI (rK (tS T) p.toNat))) 2 = A 2 := (upA_s.trans (ht1 _)).trans (set_same (by omega) (ek _ hpn))
      refine V.iload_n dX8_kinds_147 rfl ?_
      obtain rfl : k = 4 := (by omega)
      exact V.iret dX8_kinds_148 rfl ⟨by unfold a_kinds; rw [if_pos hpp], ⟨F, _, ⟨hk2.1, by rw [e2]; exact hM.2.1, by rw [hk2.2.1 5 (by omega) (by omega)]; exact hM.2.2⟩, hF0, by rw [hk2.2.1 1 (by omega) (by omega)]; exact hTx, hF1, by rw [hk2.2.1 6 (by omega) (by omega)]; exact hPa, hF2, by rw [hk2.2.1 7 (by omega) (by omega)]; exact hKe, hF3, by rw [hk2.2.1 8 (by omega) (by omega)]; exact hNo⟩, hf2⟩
    · skip
      refine V.aload_n dX8_kinds_30 rfl ?_
      refine V.get fX8_13 dX8_kinds_31 ho1 rfl ?_
      refine V.iconst (v := nI 3) dX8_kinds_34 (by decide) ?_
      refine V.iload_n dX8_kinds_35 rfl ?_
      refine V.re (iI_toN (n := p.toNat) (by omega)) ?_
      refine V.iaddN dX8_kinds_36 ?_
      refine V.iload dX8_kinds_37 rfl ?_
      refine V.iast dX8_kinds_39 (hA1 2 (by omega) (by omega)).1 rfl (by omega) (by rw [(hA1 2 (by omega) (by omega)).2]; show _ < 9; omega) ?_
      have hk2 := MK.set hk1 (nI k)
      have hf2 := hf1.tr (VFr.set (h := h1) (lo := m) (hi := m + 12) (a := m + 2) (c := Sum.inl ((A1 2).set (3 + p.toNat) (nI k))) (by omega) (by omega))
      have e2 : upA A1 2 ((A1 2).set (3 + p.toNat) (nI k)) 2 = (A 2).set (3 + p.toNat) (nI k) := upA_s.trans (ht1 _)
      refine V.iconst (v := nI 1) dX8_kinds_40 (by decide) ?_
      refine V.istore dX8_kinds_41 rfl rfl ?_
      dsimp only [List.set]
      refine V.iconst (v := nI 0) dX8_kinds_43 (by decide) ?_
      refine V.istore dX8_kinds_44 rfl rfl ?_
      dsimp only [List.set]
      have z := LI (by omega) 0 (by omega) _ _ hk2 e2 hf2
      rw [vB_t (fun j hj => absurd hj (Nat.not_lt_zero _))] at z
      exact z
  show V _ _ 0 [some (.ref m), some (.int (iI p)), none, none, none, none, none] [] h
  refine V.aload_n dX8_kinds_0 rfl ?_
  refine V.iload_n dX8_kinds_1 rfl ?_
  refine V.callVp (ci := 8) cX8_116 (m_isOne g h m F A (tS T) hM hB p (by omega)) dX8_kinds_2 (Nat.le_of_ble_eq_true rfl) rfl ho rfl rfl (Nat.le_of_ble_eq_true rfl) ?_
  refine V.if_neB 10 dX8_kinds_5 (by decide) (fun hc1 => ?_) (fun hc1 => ?_)
  · skip
    have hpp := hc1
    have hpn : p.toNat < rN (tS T) := by omega
    refine V.aload_n dX8_kinds_10 rfl ?_
    refine V.get fX8_13 dX8_kinds_11 ho rfl ?_
    refine V.iconst (v := nI 3) dX8_kinds_14 (by decide) ?_
    refine V.iload_n dX8_kinds_15 rfl ?_
    refine V.re (iI_toN (n := p.toNat) (by omega)) ?_
    refine V.iaddN dX8_kinds_16 ?_
    refine V.iald dX8_kinds_17 (hA 2 (by omega) (by omega)).1 rfl (by omega) (ek _ (by omega)) ?_
    refine V.istore_n (i := 2) dX8_kinds_18 rfl rfl rfl ?_
    dsimp only [List.set]
    refine V.iconst (v := nI 0) dX8_kinds_19 (by decide) ?_
    refine V.istore_n (i := 3) dX8_kinds_20 rfl rfl rfl ?_
    dsimp only [List.set]
    refine V.iconst (v := nI 0) dX8_kinds_21 (by decide) ?_
    refine V.istore dX8_kinds_22 rfl rfl ?_
    dsimp only [List.set]
    exact L hpp 0 (by omega) h A none none ⟨hw, fun _ _ _ => rfl, fun _ => rfl⟩ VFr.rf
  · skip
    have hpp := hc1
    refine V.iconst (v := iI (-1)) dX8_kinds_8 (by decide) ?_
    exact V.iret dX8_kinds_9 rfl ⟨by unfold a_kinds; rw [if_neg hpp], hC, VFr.rf⟩
