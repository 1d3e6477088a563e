set_option maxHeartbeats 1000000 in
theorem e_numbersOf (g : VG) (h : VHp) (c : Nat) (hc : c < 1000) : VE g mX2_numbersOf 0 false (0, 0) [.int (nI c)] h (VP (nI (nOf c)) h) := by
  refine VE.of (by decide) rfl (Nat.le_of_ble_eq_true rfl) ?_
  show V _ _ 0 [some (.int (nI c))] [] h
  refine V.iload_n dX2_numbersOf_0 rfl ?_
  rcases (show c = 114 ∨ c = 112 ∨ c = 108 ∨ (c ≠ 114 ∧ c ≠ 112 ∧ c ≠ 108) by omega) with hq | hq | hq | hq
  · skip
    subst hq
    refine V.lookup (off := 35) 36 dX2_numbersOf_1 (by decide) (by decide) (by decide) ?_
    refine V.iconst (v := nI 2) dX2_numbersOf_36 (by decide) ?_
    exact V.iret dX2_numbersOf_37 rfl ⟨by first | (exfalso; omega) | (first | rfl | (simp only [nOf]; (repeat first | rw [if_pos (by omega)] | rw [if_neg (by omega)]))), rfl⟩
  · skip
    subst hq
    refine V.lookup (off := 37) 38 dX2_numbersOf_1 (by decide) (by decide) (by decide) ?_
    refine V.iconst (v := nI 3) dX2_numbersOf_38 (by decide) ?_
    exact V.iret dX2_numbersOf_39 rfl ⟨by first | (exfalso; omega) | (first | rfl | (simp only [nOf]; (repeat first | rw [if_pos (by omega)] | rw [if_neg (by omega)]))), rfl⟩
  · skip
    subst hq
    refine V.lookup (off := 39) 40 dX2_numbersOf_1 (by decide) (by decide) (by decide) ?_
    refine V.iconst (v := nI 4) dX2_numbersOf_40 (by decide) ?_
    exact V.iret dX2_numbersOf_41 rfl ⟨by first | (exfalso; omega) | (first | rfl | (simp only [nOf]; (repeat first | rw [if_pos (by omega)] | rw [if_neg (by omega)]))), rfl⟩
  · skip
    have hx : (nI c).toInt = (c : Int) := nI_toInt (by omega)
    refine V.lookup (off := 41) 42 dX2_numbersOf_1 (by decide) (look_no hx (by omega) (by omega) (by omega)) (by decide) ?_
    refine V.iconst (v := nI 0) dX2_numbersOf_42 (by decide) ?_
    exact V.iret dX2_numbersOf_43 rfl ⟨by first | (exfalso; omega) | (first | rfl | (simp only [nOf]; (repeat first | rw [if_pos (by omega)] | rw [if_neg (by omega)]))), rfl⟩

set_option maxHeartbeats 1000000 in
theorem e_readNumbers (g : VG) (h : VHp) (q t : Nat) (tx : List Nat) (nm : List Int32) (hQ : ReaderAt h q nm) (hT : TextAt h t tx) (hK : TxOk tx) (hd : q + 2 ≤ t ∨ t + 2 ≤ q) (fr wd : Nat) (hf0 : fr ≤ 201) (hw : wd ≤ 4) : VE g mX2_readNumbers 3 false (0, 0) [.ref q, .ref t, .int (nI fr), .int (nI wd)] h (RdPost q (if wd = 0 then none else numsF tx wd fr) wd h) := by
  refine VE.of (by decide) rfl (Nat.le_of_ble_eq_true rfl) ?_
  have L : ∀ i, i ≤ wd → ∀ (h1 : VHp) (at_ : Nat) (pre : List Nat) (nm : List Int32) (v6 : Option Value), 1 ≤ wd → ReaderAt h1 q nm → pre.length = i → at_ ≤ fr + 3 * i → numsF tx wd fr = (numsF tx (wd - i) at_).map (fun q => (pre ++ q.1, q.2)) → (∀ j, j < i → nm[j]? = some (nI (pre.getD j 0))) → VFr q (q + 2) h h1 → V (g, mX2_readNumbers, 3, false, h.length, RdPost q (if wd = 0 then none else numsF tx wd fr) wd h) (0, 0) 19 [some (.ref q), some (.ref t), some (.int (nI fr)), some (.int (nI wd)), some (.int (nI at_)), some (.int (nI i)), v6] [] h1 := by
    refine vloop wd (fun i ih hi => ?_)
    intro h1 at_ pre nm v6 hwd hQ hl hat he hpre hf
    have hT1 : TextAt h1 t tx := hT.keep hf hd.symm
    obtain ⟨lt, hto, hta, -⟩ := id hT1
    obtain ⟨ho, hn1, hn2⟩ := id hQ
    have hlt : ∀ j c, chF tx j = some c → c < 1000 := fun j => ch_lt hK
    refine V.iload dX2_readNumbers_19 rfl ?_
    refine V.iload_n dX2_readNumbers_21 rfl ?_
    refine V.icmp_geN 125 dX2_readNumbers_22 (by decide) (by omega) (by omega) (fun hc1 => ?_) (fun hc1 => ?_)
    · skip
      refine V.iload dX2_readNumbers_125 rfl ?_
      obtain rfl : i = wd := (by omega)
      have hz : numsF tx i fr = some (pre, at_) := by rw [he, Nat.sub_self]; simp [numsF]
      refine V.iret dX2_readNumbers_127 rfl ⟨hf, nm, hQ, ?_⟩
      rw [if_neg (by omega), hz]
      exact ⟨rfl, hpre⟩
    · skip
      refine V.aload_n dX2_readNumbers_25 rfl ?_
      refine V.iload dX2_readNumbers_26 rfl ?_
      refine V.callVp (ci := 6) cX2_41 (e_isFigure g h1 t tx hT1 hK at_ (by omega)) dX2_readNumbers_28 (Nat.le_of_ble_eq_true rfl) rfl hto rfl rfl (Nat.le_of_ble_eq_true rfl) ?_
      refine V.if_neB 37 dX2_readNumbers_31 (by decide) (fun hc2 => ?_) (fun hc2 => ?_)
      · skip
        have hg1 := hc2
        have hb1 := fig_bd hg1
        refine V.aload_n dX2_readNumbers_37 rfl ?_
        refine V.iload dX2_readNumbers_38 rfl ?_
        refine V.callVp (ci := 6) cX2_26 (e_letterAt g h1 t tx hT1 at_ (by omega)) dX2_readNumbers_40 (Nat.le_of_ble_eq_true rfl) rfl hto rfl rfl (Nat.le_of_ble_eq_true rfl) ?_
        refine V.re (fig_eO hg1) ?_
        refine V.bipush (v := nI 48) dX2_readNumbers_43 (by decide) ?_
        refine V.isubN dX2_readNumbers_45 (by omega) ?_
        refine V.istore dX2_readNumbers_46 rfl rfl ?_
        dsimp only [List.set]
        refine V.iincN (n := 1) dX2_readNumbers_48 rfl rfl rfl ?_
        dsimp only [List.set]
        refine V.aload_n dX2_readNumbers_51 rfl ?_
        refine V.iload dX2_readNumbers_52 rfl ?_
        refine V.callVp (ci := 6) cX2_41 (e_isFigure g h1 t tx hT1 hK (at_ + 1) (by omega)) dX2_readNumbers_54 (Nat.le_of_ble_eq_true rfl) rfl hto rfl rfl (Nat.le_of_ble_eq_true rfl) ?_
        refine V.if_eqB 80 dX2_readNumbers_57 (by decide) (fun hc3 => ?_) (fun hc3 => ?_)
        · skip
          have hnum := numF_one hg1 hc3
          refine V.aload_n dX2_readNumbers_80 rfl ?_
          refine V.iload dX2_readNumbers_81 rfl ?_
          refine V.callVp (ci := 6) cX2_26 (e_letterAt g h1 t tx hT1 (at_ + 1) (by omega)) dX2_readNumbers_83 (Nat.le_of_ble_eq_true rfl) rfl hto rfl rfl (Nat.le_of_ble_eq_true rfl) ?_
          refine V.iload dX2_readNumbers_86 rfl ?_
          refine V.iconst (v := nI 1) dX2_readNumbers_88 (by decide) ?_
          refine V.iaddN dX2_readNumbers_89 ?_
          refine V.iload_n dX2_readNumbers_90 rfl ?_
          refine V.icmp_geN 99 dX2_readNumbers_91 (by decide) (by omega) (by omega) (fun hc4 => ?_) (fun hc4 => ?_)
          · skip
            refine V.bipush (v := nI 59) dX2_readNumbers_99 (by decide) ?_
            refine V.icmp_eq 107 dX2_readNumbers_101 (by decide) (fun hc5 => ?_) (fun hc5 => ?_)
            · skip
              have hsep : chF tx (at_ + 1) = some (sepF (wd - i - 1)) := by first | (rw [show sepF (wd - i - 1) = 59 from by (unfold sepF; rw [if_pos (by omega)])]; exact (eO_some (hlt _) (by omega)).mp hc5) | (rw [show sepF (wd - i - 1) = 44 from by (unfold sepF; rw [if_neg (by omega)])]; exact (eO_some (hlt _) (by omega)).mp hc5)
              refine V.aload_n dX2_readNumbers_107 rfl ?_
              refine V.get fX2_11 dX2_readNumbers_108 ho rfl ?_
              refine V.iload dX2_readNumbers_111 rfl ?_
              refine V.iload dX2_readNumbers_113 rfl ?_
              refine V.iast dX2_readNumbers_115 hn1 rfl (by omega) (by omega) ?_
              refine V.iincN (n := 1) dX2_readNumbers_116 rfl rfl rfl ?_
              dsimp only [List.set]
              refine V.iincN (n := 1) dX2_readNumbers_119 rfl rfl rfl ?_
              dsimp only [List.set]
              refine V.goto 19 dX2_readNumbers_122 (by decide) ?_
              exact ih (i + 1) (by omega) (by omega) _ (at_ + 1 + 1) (pre ++ [((chF tx at_).getD 0) - 48]) _ _ hwd ⟨vset_ne ho (by omega), vset_eq hn1, by rw [List.length_set]; exact hn2⟩ (by rw [List.length_append, hl]; rfl) (by omega) (nums_next (by omega) he hnum hsep) (pre_app hpre hl (by omega)) (hf.tr (VFr.set (by omega) (by omega)))
            · skip
              have hsep : ¬ chF tx (at_ + 1) = some (sepF (wd - i - 1)) := by first | (rw [show sepF (wd - i - 1) = 59 from by (unfold sepF; rw [if_pos (by omega)])]; exact fun z => hc5 ((eO_some (hlt _) (by omega)).mpr z)) | (rw [show sepF (wd - i - 1) = 44 from by (unfold sepF; rw [if_neg (by omega)])]; exact fun z => hc5 ((eO_some (hlt _) (by omega)).mpr z))
              refine V.bipush (v := iI (-4)) dX2_readNumbers_104 (by decide) ?_
              have hz : numsF tx wd fr = none := nums_stop (by omega) he (Or.inr ⟨hnum, hsep⟩)
              refine V.iret dX2_readNumbers_106 rfl ⟨hf, nm, hQ, ?_⟩
              rw [if_neg (by omega), hz]
          · skip
            refine V.bipush (v := nI 44) dX2_readNumbers_94 (by decide) ?_
            refine V.goto 101 dX2_readNumbers_96 (by decide) ?_
            refine V.icmp_eq 107 dX2_readNumbers_101 (by decide) (fun hc6 => ?_) (fun hc6 => ?_)
            · skip
              have hsep : chF tx (at_ + 1) = some (sepF (wd - i - 1)) := by first | (rw [show sepF (wd - i - 1) = 59 from by (unfold sepF; rw [if_pos (by omega)])]; exact (eO_some (hlt _) (by omega)).mp hc6) | (rw [show sepF (wd - i - 1) = 44 from by (unfold sepF; rw [if_neg (by omega)])]; exact (eO_some (hlt _) (by omega)).mp hc6)
              refine V.aload_n dX2_readNumbers_107 rfl ?_
              refine V.get fX2_11 dX2_readNumbers_108 ho rfl ?_
              refine V.iload dX2_readNumbers_111 rfl ?_
              refine V.iload dX2_readNumbers_113 rfl ?_
              refine V.iast dX2_readNumbers_115 hn1 rfl (by omega) (by omega) ?_
              refine V.iincN (n := 1) dX2_readNumbers_116 rfl rfl rfl ?_
              dsimp only [List.set]
              refine V.iincN (n := 1) dX2_readNumbers_119 rfl rfl rfl ?_
              dsimp only [List.set]
              refine V.goto 19 dX2_readNumbers_122 (by decide) ?_
              exact ih (i + 1) (by omega) (by omega) _ (at_ + 1 + 1) (pre ++ [((chF tx at_).getD 0) - 48]) _ _ hwd ⟨vset_ne ho (by omega), vset_eq hn1, by rw [List.length_set]; exact hn2⟩ (by rw [List.length_append, hl]; rfl) (by omega) (nums_next (by omega) he hnum hsep) (pre_app hpre hl (by omega)) (hf.tr (VFr.set (by omega) (by omega)))
            · skip
              have hsep : ¬ chF tx (at_ + 1) = some (sepF (wd - i - 1)) := by first | (rw [show sepF (wd - i - 1) = 59 from by (unfold sepF; rw [if_pos (by omega)])]; exact fun z => hc6 ((eO_some (hlt _) (by omega)).mpr z)) | (rw [show sepF (wd - i - 1) = 44 from by (unfold sepF; rw [if_neg (by omega)])]; exact fun z => hc6 ((eO_some (hlt _) (by omega)).mpr z))
              refine V.bipush (v := iI (-4)) dX2_readNumbers_104 (by decide) ?_
              have hz : numsF tx wd fr = none := nums_stop (by omega) he (Or.inr ⟨hnum, hsep⟩)
              refine V.iret dX2_readNumbers_106 rfl ⟨hf, nm, hQ, ?_⟩
              rw [if_neg (by omega), hz]
        · skip
          have hg2 := hc3
          have hb2 := fig_bd hg2
          have hnum := numF_two hg1 hc3
          refine V.bipush (v := nI 10) dX2_readNumbers_60 (by decide) ?_
          refine V.iload dX2_readNumbers_62 rfl ?_
          refine V.imulN dX2_readNumbers_64 ?_
          refine V.aload_n dX2_readNumbers_65 rfl ?_
          refine V.iload dX2_readNumbers_66 rfl ?_
          refine V.callVp (ci := 6) cX2_26 (e_letterAt g h1 t tx hT1 (at_ + 1) (by omega)) dX2_readNumbers_68 (Nat.le_of_ble_eq_true rfl) rfl hto rfl rfl (Nat.le_of_ble_eq_true rfl) ?_
          refine V.re (fig_eO hg2) ?_
          refine V.iaddN dX2_readNumbers_71 ?_
          refine V.bipush (v := nI 48) dX2_readNumbers_72 (by decide) ?_
          refine V.isubN dX2_readNumbers_74 (by omega) ?_
          refine V.istore dX2_readNumbers_75 rfl rfl ?_
          dsimp only [List.set]
          refine V.iincN (n := 1) dX2_readNumbers_77 rfl rfl rfl ?_
          dsimp only [List.set]
          refine V.aload_n dX2_readNumbers_80 rfl ?_
          refine V.iload dX2_readNumbers_81 rfl ?_
          refine V.callVp (ci := 6) cX2_26 (e_letterAt g h1 t tx hT1 (at_ + 1 + 1) (by omega)) dX2_readNumbers_83 (Nat.le_of_ble_eq_true rfl) rfl hto rfl rfl (Nat.le_of_ble_eq_true rfl) ?_
          refine V.iload dX2_readNumbers_86 rfl ?_
          refine V.iconst (v := nI 1) dX2_readNumbers_88 (by decide) ?_
          refine V.iaddN dX2_readNumbers_89 ?_
          refine V.iload_n dX2_readNumbers_90 rfl ?_
          refine V.icmp_geN 99 dX2_readNumbers_91 (by decide) (by omega) (by omega) (fun hc7 => ?_) (fun hc7 => ?_)
          · skip
            refine V.bipush (v := nI 59) dX2_readNumbers_99 (by decide) ?_
            refine V.icmp_eq 107 dX2_readNumbers_101 (by decide) (fun hc8 => ?_) (fun hc8 => ?_)
            · skip
              have hsep : chF tx (at_ + 1 + 1) = some (sepF (wd - i - 1)) := by first | (rw [show sepF (wd - i - 1) = 59 from by (unfold sepF; rw [if_pos (by omega)])]; exact (eO_some (hlt _) (by omega)).mp hc8) | (rw [show sepF (wd - i - 1) = 44 from by (unfold sepF; rw [if_neg (by omega)])]; exact (eO_some (hlt _) (by omega)).mp hc8)
              refine V.aload_n dX2_readNumbers_107 rfl ?_
              refine V.get fX2_11 dX2_readNumbers_108 ho rfl ?_
              refine V.iload dX2_readNumbers_111 rfl ?_
              refine V.iload dX2_readNumbers_113 rfl ?_
              refine V.iast dX2_readNumbers_115 hn1 rfl (by omega) (by omega) ?_
              refine V.iincN (n := 1) dX2_readNumbers_116 rfl rfl rfl ?_
              dsimp only [List.set]
              refine V.iincN (n := 1) dX2_readNumbers_119 rfl rfl rfl ?_
              dsimp only [List.set]
              refine V.goto 19 dX2_readNumbers_122 (by decide) ?_
              exact ih (i + 1) (by omega) (by omega) _ (at_ + 1 + 1 + 1) (pre ++ [(10 * (((chF tx at_).getD 0) - 48) + ((chF tx (at_ + 1)).getD 0)) - 48]) _ _ hwd ⟨vset_ne ho (by omega), vset_eq hn1, by rw [List.length_set]; exact hn2⟩ (by rw [List.length_append, hl]; rfl) (by omega) (nums_next (by omega) he hnum hsep) (pre_app hpre hl (by omega)) (hf.tr (VFr.set (by omega) (by omega)))
            · skip
              have hsep : ¬ chF tx (at_ + 1 + 1) = some (sepF (wd - i - 1)) := by first | (rw [show sepF (wd - i - 1) = 59 from by (unfold sepF; rw [if_pos (by omega)])]; exact fun z => hc8 ((eO_some (hlt _) (by omega)).mpr z)) | (rw [show sepF (wd - i - 1) = 44 from by (unfold sepF; rw [if_neg (by omega)])]; exact fun z => hc8 ((eO_some (hlt _) (by omega)).mpr z))
              refine V.bipush (v := iI (-4)) dX2_readNumbers_104 (by decide) ?_
              have hz : numsF tx wd fr = none := nums_stop (by omega) he (Or.inr ⟨hnum, hsep⟩)
              refine V.iret dX2_readNumbers_106 rfl ⟨hf, nm, hQ, ?_⟩
              rw [if_neg (by omega), hz]
          · skip
            refine V.bipush (v := nI 44) dX2_readNumbers_94 (by decide) ?_
            refine V.goto 101 dX2_readNumbers_96 (by decide) ?_
            refine V.icmp_eq 107 dX2_readNumbers_101 (by decide) (fun hc9 => ?_) (fun hc9 => ?_)
            · skip
              have hsep : chF tx (at_ + 1 + 1) = some (sepF (wd - i - 1)) := by first | (rw [show sepF (wd - i - 1) = 59 from by (unfold sepF; rw [if_pos (by omega)])]; exact (eO_some (hlt _) (by omega)).mp hc9) | (rw [show sepF (wd - i - 1) = 44 from by (unfold sepF; rw [if_neg (by omega)])]; exact (eO_some (hlt _) (by omega)).mp hc9)
              refine V.aload_n dX2_readNumbers_107 rfl ?_
              refine V.get fX2_11 dX2_readNumbers_108 ho rfl ?_
              refine V.iload dX2_readNumbers_111 rfl ?_
              refine V.iload dX2_readNumbers_113 rfl ?_
              refine V.iast dX2_readNumbers_115 hn1 rfl (by omega) (by omega) ?_
              refine V.iincN (n := 1) dX2_readNumbers_116 rfl rfl rfl ?_
              dsimp only [List.set]
              refine V.iincN (n := 1) dX2_readNumbers_119 rfl rfl rfl ?_
              dsimp only [List.set]
              refine V.goto 19 dX2_readNumbers_122 (by decide) ?_
              exact ih (i + 1) (by omega) (by omega) _ (at_ + 1 + 1 + 1) (pre ++ [(10 * (((chF tx at_).getD 0) - 48) + ((chF tx (at_ + 1)).getD 0)) - 48]) _ _ hwd ⟨vset_ne ho (by omega), vset_eq hn1, by rw [List.length_set]; exact hn2⟩ (by rw [List.length_append, hl]; rfl) (by omega) (nums_next (by omega) he hnum hsep) (pre_app hpre hl (by omega)) (hf.tr (VFr.set (by omega) (by omega)))
            · skip
              have hsep : ¬ chF tx (at_ + 1 + 1) = some (sepF (wd - i - 1)) := by first | (rw [show sepF (wd - i - 1) = 59 from by (unfold sepF; rw [if_pos (by omega)])]; exact fun z => hc9 ((eO_some (hlt _) (by omega)).mpr z)) | (rw [show sepF (wd - i - 1) = 44 from by (unfold sepF; rw [if_neg (by omega)])]; exact fun z => hc9 ((eO_some (hlt _) (by omega)).mpr z))
              refine V.bipush (v := iI (-4)) dX2_readNumbers_104 (by decide) ?_
              have hz : numsF tx wd fr = none := nums_stop (by omega) he (Or.inr ⟨hnum, hsep⟩)
              refine V.iret dX2_readNumbers_106 rfl ⟨hf, nm, hQ, ?_⟩
              rw [if_neg (by omega), hz]
      · skip
        have hg1 := hc2
        refine V.bipush (v := iI (-4)) dX2_readNumbers_34 (by decide) ?_
        have hz : numsF tx wd fr = none := nums_stop (v := 0) (j := 0) (by omega) he (Or.inl (numF_no hg1))
        refine V.iret dX2_readNumbers_36 rfl ⟨hf, nm, hQ, ?_⟩
        rw [if_neg (by omega), hz]
  show V _ _ 0 [some (.ref q), some (.ref t), some (.int (nI fr)), some (.int (nI wd)), none, none, none] [] h
  refine V.iload_n dX2_readNumbers_0 rfl ?_
  refine V.iconst (v := nI 1) dX2_readNumbers_1 (by decide) ?_
  refine V.icmp_ltN 10 dX2_readNumbers_2 (by decide) (by omega) (by omega) (fun hc1 => ?_) (fun hc1 => ?_)
  · skip
    refine V.bipush (v := iI (-4)) dX2_readNumbers_10 (by decide) ?_
    obtain rfl : wd = 0 := (by omega)
    exact V.iret dX2_readNumbers_12 rfl ⟨VFr.rf, nm, hQ, rfl⟩
  · skip
    refine V.iload_n dX2_readNumbers_5 rfl ?_
    refine V.iconst (v := nI 4) dX2_readNumbers_6 (by decide) ?_
    refine V.icmp_leN 13 dX2_readNumbers_7 (by decide) (by omega) (by omega) (fun hc2 => ?_) (fun hc2 => ?_)
    · skip
      refine V.iload_n dX2_readNumbers_13 rfl ?_
      refine V.istore dX2_readNumbers_14 rfl rfl ?_
      dsimp only [List.set]
      refine V.iconst (v := nI 0) dX2_readNumbers_16 (by decide) ?_
      refine V.istore dX2_readNumbers_17 rfl rfl ?_
      dsimp only [List.set]
      exact L 0 (by omega) h fr [] nm none (by omega) hQ rfl (by omega) (by simp) (fun j hj => absurd hj (Nat.not_lt_zero _)) VFr.rf
    · skip
      refine V.bipush (v := iI (-4)) dX2_readNumbers_10 (by decide) ?_
      obtain rfl : wd = 0 := (by omega)
      exact V.iret dX2_readNumbers_12 rfl ⟨VFr.rf, nm, hQ, rfl⟩
