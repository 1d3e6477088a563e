theorem some_or1 {o : Option Mt} {R : Mt} (h : o = some R) {o2 : Option Mt} : o.or o2 = some R := by rw [h]; rfl
theorem none_or1 {o : Option Mt} (h : o = none) {o2 : Option Mt} : o.or o2 = o2 := by rw [h]; rfl

set_option maxHeartbeats 1000000 in
theorem e_pairFrom (g : VG) : ∀ (d : Nat) (h : VHp) (r a : Nat) (S : Rm) (M : Mt) (p : Nat), RoomAt h r S → RmB S → MtAt h a M → MtB S M → p + d = rN S → (a + 1 ≤ r ∨ r + 6 ≤ a) → VE g mX0_pairFrom (d + 3) false (0, 0) [.ref r, .ref a, .int (nI p)] h (PfPost a M (pairF S d M) h) := by
  intro d
  induction d with
  | zero =>
    intro h r a S M p hR hB hMt hMb hpd hap
    obtain ⟨ml, hma, hml, hme⟩ := id hMt
    obtain ⟨kd, xs, ys, vs, ll, ho, hk, hx, hy, hv, hl, lk, lx, ly, lv, lL, ek, ex, ey, ev, eL⟩ := id hR
    obtain ⟨bn, bW, bH, bP, bL⟩ := id hB
    have hmn := mt_none hMb bn
    refine VE.of (by decide) rfl (Nat.le_of_ble_eq_true rfl) ?_
    show V _ _ 0 [some (.ref r), some (.ref a), some (.int (nI p)), none] [] h
    refine V.iload_n dX0_pairFrom_0 rfl ?_
    refine V.aload_n dX0_pairFrom_1 rfl ?_
    refine V.get fX0_19 dX0_pairFrom_2 ho rfl ?_
    refine V.icmp_geN 14 dX0_pairFrom_5 (by decide) (by omega) (by omega) (fun hc1 => ?_) (fun hc1 => ?_)
    · skip
      refine V.aload_n dX0_pairFrom_14 rfl ?_
      refine V.aload_n dX0_pairFrom_15 rfl ?_
      refine V.callSp cX0_25 (e_nobody g h r a S hR hB M hMt hMb) dX0_pairFrom_16 (Nat.le_of_ble_eq_true rfl) rfl rfl (Nat.le_of_ble_eq_true rfl) ?_
      refine V.zret dX0_pairFrom_19 rfl vB_01 ⟨?_, ?_, VFr.rf⟩
      · by_cases z : stabF S M
        · rw [vB_t z, vB_t]; simp only [pairF]; rw [if_pos z]; rfl
        · rw [vB_f z, vB_f]; simp only [pairF]; rw [if_neg z]; intro u; cases u
      · by_cases z : stabF S M
        · simp only [pairF]; rw [if_pos z]; exact hMt
        · simp only [pairF]; rw [if_neg z]; exact hMt
    · exact absurd hc1 (by omega)
  | succ d ih =>
    intro h r a S M p hR hB hMt hMb hpd hap
    obtain ⟨ml, hma, hml, hme⟩ := id hMt
    obtain ⟨kd, xs, ys, vs, ll, ho, hk, hx, hy, hv, hl, lk, lx, ly, lv, lL, ek, ex, ey, ev, eL⟩ := id hR
    obtain ⟨bn, bW, bH, bP, bL⟩ := id hB
    have hmn := mt_none hMb bn
    refine VE.of (by decide) rfl (Nat.le_of_ble_eq_true rfl) ?_
    have L : M p = none → ∀ q, q ≤ rN S → ∀ (h1 : VHp) (e : Nat), p + 1 ≤ q → q + e = rN S → pairF S (d + 1) M = tryG (pairF S d) S M p e → MtAt h1 a M → VFr a (a + 1) h h1 → V (g, mX0_pairFrom, d + 1 + 3, false, h.length, PfPost a M (pairF S (d + 1) M) h) (0, 0) 41 [some (.ref r), some (.ref a), some (.int (nI p)), some (.int (nI q))] [] h1 := by
      intro hmp
      refine vloop (rN S) (fun q ih2 hi2 => ?_)
      intro h1 e hpq hqe hans hMt1 hf1
      have hR1 := hR.keep hf1 (by omega)
      have ho1 := hR1.obj
      obtain ⟨ml1, hma1, hml1, hme1⟩ := id hMt1
      have bpq := bL p q
      have bqp := bL q p
      refine V.iload_n dX0_pairFrom_41 rfl ?_
      refine V.aload_n dX0_pairFrom_42 rfl ?_
      refine V.get fX0_19 dX0_pairFrom_43 ho1 rfl ?_
      refine V.icmp_geN 115 dX0_pairFrom_46 (by decide) (by omega) (by omega) (fun hc1 => ?_) (fun hc1 => ?_)
      · skip
        refine V.aload_n dX0_pairFrom_115 rfl ?_
        refine V.aload_n dX0_pairFrom_116 rfl ?_
        refine V.iload_n dX0_pairFrom_117 rfl ?_
        refine V.iconst (v := nI 1) dX0_pairFrom_118 (by decide) ?_
        refine V.iaddN dX0_pairFrom_119 ?_
        refine V.callS cX0_15 (ih h1 r a S M (p + 1) hR1 hB hMt1 hMb (by omega) hap) dX0_pairFrom_120 (show d + 3 + 1 ≤ d + 1 + 3 by omega) rfl rfl (Nat.le_of_ble_eq_true rfl) (fun v_ h_ hp_ => ?_)
        obtain ⟨rfl, hMt4, hf4⟩ := hp_
        dsimp only [Option.toList, List.cons_append, List.nil_append]
        obtain rfl : e = 0 := (by omega)
        rw [try_0] at hans
        refine V.zret dX0_pairFrom_123 rfl vB_01 ⟨?_, ?_, hf1.tr hf4⟩
        · rw [hans]
        · rw [hans]; exact hMt4
      · skip
        refine V.aload_n dX0_pairFrom_49 rfl ?_
        refine V.iload_n dX0_pairFrom_50 rfl ?_
        refine V.iald dX0_pairFrom_51 hma1 rfl (by omega) (hme1 _ (by omega)) ?_
        refine V.bipush (v := iI (-4)) dX0_pairFrom_52 (by decide) ?_
        refine V.icmp_ne 109 dX0_pairFrom_54 (by decide) (fun hc2 => ?_) (fun hc2 => ?_)
        · skip
          have hqn : M q ≠ none := fun z => hc2 ((eO_none (hmn q)).mpr z)
          refine V.iincN (n := 1) dX0_pairFrom_109 rfl rfl rfl ?_
          dsimp only [List.set]
          refine V.goto 41 dX0_pairFrom_112 (by decide) ?_
          first
            | exact ih2 (q + 1) (by omega) (by omega) _ e9 (by omega) (by omega) (hans.trans hty) hMt7 hf7
            | (obtain ⟨e9, rfl⟩ : ∃ e9, e = e9 + 1 := ⟨e - 1, by omega⟩
               exact ih2 (q + 1) (by omega) (by omega) _ e9 (by omega) (by omega) (hans.trans (try_no hqe (fun z => by first | exact hqn z.1 | exact absurd z.2.1 (by omega) | exact absurd z.2.2 (by omega)))) hMt1 hf1)
        · skip
          have hq0 : M q = none := (eO_none (hmn q)).mp hc2
          refine V.aload_n dX0_pairFrom_57 rfl ?_
          refine V.iload_n dX0_pairFrom_58 rfl ?_
          refine V.iload_n dX0_pairFrom_59 rfl ?_
          refine V.callVp (ci := 3) cX0_29 (e_leaningOf g h1 r S hR1 hB p q (by omega) (by omega)) dX0_pairFrom_60 (Nat.le_of_ble_eq_true rfl) rfl ho1 rfl rfl (Nat.le_of_ble_eq_true rfl) ?_
          refine V.if_leZ 109 dX0_pairFrom_63 (by decide) (by omega) (fun hc3 => ?_) (fun hc3 => ?_)
          · skip
            refine V.iincN (n := 1) dX0_pairFrom_109 rfl rfl rfl ?_
            dsimp only [List.set]
            refine V.goto 41 dX0_pairFrom_112 (by decide) ?_
            first
              | exact ih2 (q + 1) (by omega) (by omega) _ e9 (by omega) (by omega) (hans.trans hty) hMt7 hf7
              | (obtain ⟨e9, rfl⟩ : ∃ e9, e = e9 + 1 := ⟨e - 1, by omega⟩
                 exact ih2 (q + 1) (by omega) (by omega) _ e9 (by omega) (by omega) (hans.trans (try_no hqe (fun z => by first | exact hqn z.1 | exact absurd z.2.1 (by omega) | exact absurd z.2.2 (by omega)))) hMt1 hf1)
          · skip
            have hl1 := hc3
            refine V.aload_n dX0_pairFrom_66 rfl ?_
            refine V.iload_n dX0_pairFrom_67 rfl ?_
            refine V.iload_n dX0_pairFrom_68 rfl ?_
            refine V.callVp (ci := 3) cX0_29 (e_leaningOf g h1 r S hR1 hB q p (by omega) (by omega)) dX0_pairFrom_69 (Nat.le_of_ble_eq_true rfl) rfl ho1 rfl rfl (Nat.le_of_ble_eq_true rfl) ?_
            refine V.if_gtZ 78 dX0_pairFrom_72 (by decide) (by omega) (fun hc4 => ?_) (fun hc4 => ?_)
            · skip
              have hl2 := hc4
              refine V.aload_n dX0_pairFrom_78 rfl ?_
              refine V.iload_n dX0_pairFrom_79 rfl ?_
              refine V.iload_n dX0_pairFrom_80 rfl ?_
              refine V.iast dX0_pairFrom_81 hma1 rfl (by omega) (by omega) ?_
              have hme2 := mt_set (M' := upM M p (some q)) (x := nI q) hme1 hml1 (by omega) (by rw [upM_s]; rfl) (fun j hj => upM_n hj)
              have hma2 := vset_eq (c := Sum.inl (ml1.set p (nI q))) hma1
              have hf2 := hf1.tr (VFr.set (h := h1) (lo := a) (hi := a + 1) (a := a) (c := Sum.inl (ml1.set p (nI q))) (by omega) (by omega))
              generalize List.set h1 a (Sum.inl (ml1.set p (nI q))) = h2 at hma2 hf2 ⊢
              refine V.aload_n dX0_pairFrom_82 rfl ?_
              refine V.iload_n dX0_pairFrom_83 rfl ?_
              refine V.iload_n dX0_pairFrom_84 rfl ?_
              refine V.iast dX0_pairFrom_85 hma2 rfl (by omega) (by rw [List.length_set]; omega) ?_
              have hme3 := mt_set (M' := upM (upM M p (some q)) q (some p)) (x := nI p) hme2 (by rw [List.length_set]; omega) (i := q) (by omega) (by rw [upM_s]; rfl) (fun j hj => upM_n hj)
              rw [set_up (by omega)] at hme3
              have hma3 := vset_eq (c := Sum.inl ((ml1.set p (nI q)).set q (nI p))) hma2
              have hf3 := hf2.tr (VFr.set (h := h2) (lo := a) (hi := a + 1) (a := a) (c := Sum.inl ((ml1.set p (nI q)).set q (nI p))) (by omega) (by omega))
              generalize List.set h2 a (Sum.inl ((ml1.set p (nI q)).set q (nI p))) = h3 at hma3 hf3 ⊢
              have hMt3 : MtAt h3 a (setM M p q) := ⟨_, hma3, by rw [List.length_set, List.length_set]; exact hml1, hme3⟩
              have hR3 := hR.keep hf3 (by omega)
              refine V.aload_n dX0_pairFrom_86 rfl ?_
              refine V.aload_n dX0_pairFrom_87 rfl ?_
              refine V.iload_n dX0_pairFrom_88 rfl ?_
              refine V.iconst (v := nI 1) dX0_pairFrom_89 (by decide) ?_
              refine V.iaddN dX0_pairFrom_90 ?_
              refine V.callS cX0_15 (ih h3 r a S (setM M p q) (p + 1) hR3 hB hMt3 (hMb.set (by omega) (by omega)) (by omega) hap) dX0_pairFrom_91 (show d + 3 + 1 ≤ d + 1 + 3 by omega) rfl rfl (Nat.le_of_ble_eq_true rfl) (fun v_ h_ hp_ => ?_)
              obtain ⟨rfl, hMt4, hf4⟩ := hp_
              dsimp only [Option.toList, List.cons_append, List.nil_append]
              generalize h_ = h4 at hMt4 hf4 ⊢
              have hf5 := hf3.tr hf4
              obtain ⟨e9, rfl⟩ : ∃ e9, e = e9 + 1 := ⟨e - 1, by omega⟩
              have hty := try_yes (f := pairF S d) (M := M) (p := p) hqe ⟨hq0, hl1, hl2⟩
              rcases hr : pairF S d (setM M p q) with _ | R9
              · skip
                rw [hr] at hMt4
                rw [none_or1 hr] at hty
                change MtAt h4 a (setM M p q) at hMt4
                obtain ⟨ml4, hma4, hml4, hme4⟩ := id hMt4
                change V _ _ _ _ (Value.int (nI 0) :: _) _
                refine V.if_eqN 99 dX0_pairFrom_94 (by decide) (by omega) (fun hc5 => ?_) (fun hc5 => ?_)
                · skip
                  refine V.aload_n dX0_pairFrom_99 rfl ?_
                  refine V.iload_n dX0_pairFrom_100 rfl ?_
                  refine V.bipush (v := iI (-4)) dX0_pairFrom_101 (by decide) ?_
                  refine V.iast dX0_pairFrom_103 hma4 rfl (by omega) (by omega) ?_
                  have hme6 := mt_set (M' := upM (setM M p q) p none) (x := iI (-4)) hme4 hml4 (i := p) (by omega) (by rw [upM_s]; rfl) (fun j hj => upM_n hj)
                  have hma6 := vset_eq (c := Sum.inl (ml4.set p (iI (-4)))) hma4
                  have hf6 := hf5.tr (VFr.set (h := h4) (lo := a) (hi := a + 1) (a := a) (c := Sum.inl (ml4.set p (iI (-4)))) (by omega) (by omega))
                  generalize List.set h4 a (Sum.inl (ml4.set p (iI (-4)))) = h6 at hma6 hf6 ⊢
                  refine V.aload_n dX0_pairFrom_104 rfl ?_
                  refine V.iload_n dX0_pairFrom_105 rfl ?_
                  refine V.bipush (v := iI (-4)) dX0_pairFrom_106 (by decide) ?_
                  refine V.iast dX0_pairFrom_108 hma6 rfl (by omega) (by rw [List.length_set]; omega) ?_
                  have hme7 := mt_set (M' := upM (upM (setM M p q) p none) q none) (x := iI (-4)) hme6 (by rw [List.length_set]; omega) (i := q) (by omega) (by rw [upM_s]; rfl) (fun j hj => upM_n hj)
                  rw [set_back hmp hq0] at hme7
                  have hma7 := vset_eq (c := Sum.inl ((ml4.set p (iI (-4))).set q (iI (-4)))) hma6
                  have hf7 := hf6.tr (VFr.set (h := h6) (lo := a) (hi := a + 1) (a := a) (c := Sum.inl ((ml4.set p (iI (-4))).set q (iI (-4)))) (by omega) (by omega))
                  generalize List.set h6 a (Sum.inl ((ml4.set p (iI (-4))).set q (iI (-4)))) = h7 at hma7 hf7 ⊢
                  have hMt7 : MtAt h7 a M := ⟨_, hma7, by rw [List.length_set, List.length_set]; exact hml4, hme7⟩
                  refine V.iincN (n := 1) dX0_pairFrom_109 rfl rfl rfl ?_
                  dsimp only [List.set]
                  refine V.goto 41 dX0_pairFrom_112 (by decide) ?_
                  first
                    | exact ih2 (q + 1) (by omega) (by omega) _ e9 (by omega) (by omega) (hans.trans hty) hMt7 hf7
                    | (obtain ⟨e9, rfl⟩ : ∃ e9, e = e9 + 1 := ⟨e - 1, by omega⟩
                       exact ih2 (q + 1) (by omega) (by omega) _ e9 (by omega) (by omega) (hans.trans (try_no hqe (fun z => by first | exact hqn z.1 | exact absurd z.2.1 (by omega) | exact absurd z.2.2 (by omega)))) hMt1 hf1)
                · exact absurd rfl hc5
              · skip
                rw [hr] at hMt4
                rw [some_or1 hr] at hty
                change MtAt h4 a R9 at hMt4
                change V _ _ _ _ (Value.int (nI 1) :: _) _
                refine V.if_eqN 99 dX0_pairFrom_94 (by decide) (by omega) (fun hc6 => ?_) (fun hc6 => ?_)
                · exact absurd hc6 (by omega)
                · skip
                  refine V.iconst (v := nI 1) dX0_pairFrom_97 (by decide) ?_
                  have ha9 := hans.trans hty
                  refine V.zret dX0_pairFrom_98 rfl (Or.inr rfl) ⟨?_, ?_, hf5⟩
                  · rw [ha9]; rfl
                  · rw [ha9]; exact hMt4
            · skip
              refine V.goto 109 dX0_pairFrom_75 (by decide) ?_
              refine V.iincN (n := 1) dX0_pairFrom_109 rfl rfl rfl ?_
              dsimp only [List.set]
              refine V.goto 41 dX0_pairFrom_112 (by decide) ?_
              first
                | exact ih2 (q + 1) (by omega) (by omega) _ e9 (by omega) (by omega) (hans.trans hty) hMt7 hf7
                | (obtain ⟨e9, rfl⟩ : ∃ e9, e = e9 + 1 := ⟨e - 1, by omega⟩
                   exact ih2 (q + 1) (by omega) (by omega) _ e9 (by omega) (by omega) (hans.trans (try_no hqe (fun z => by first | exact hqn z.1 | exact absurd z.2.1 (by omega) | exact absurd z.2.2 (by omega)))) hMt1 hf1)
    show V _ _ 0 [some (.ref r), some (.ref a), some (.int (nI p)), none] [] h
    refine V.iload_n dX0_pairFrom_0 rfl ?_
    refine V.aload_n dX0_pairFrom_1 rfl ?_
    refine V.get fX0_19 dX0_pairFrom_2 ho rfl ?_
    refine V.icmp_geN 14 dX0_pairFrom_5 (by decide) (by omega) (by omega) (fun hc1 => ?_) (fun hc1 => ?_)
    · exact absurd hc1 (by omega)
    · skip
      refine V.iload_n dX0_pairFrom_8 rfl ?_
      refine V.bipush (v := nI 6) dX0_pairFrom_9 (by decide) ?_
      refine V.icmp_ltN 20 dX0_pairFrom_11 (by decide) (by omega) (by omega) (fun hc2 => ?_) (fun hc2 => ?_)
      · skip
        refine V.aload_n dX0_pairFrom_20 rfl ?_
        refine V.iload_n dX0_pairFrom_21 rfl ?_
        refine V.iald dX0_pairFrom_22 hma rfl (by omega) (hme _ (by omega)) ?_
        refine V.bipush (v := iI (-4)) dX0_pairFrom_23 (by decide) ?_
        refine V.icmp_eq 37 dX0_pairFrom_25 (by decide) (fun hc3 => ?_) (fun hc3 => ?_)
        · skip
          have hmp : M p = none := (eO_none (hmn p)).mp hc3
          refine V.iload_n dX0_pairFrom_37 rfl ?_
          refine V.iconst (v := nI 1) dX0_pairFrom_38 (by decide) ?_
          refine V.iaddN dX0_pairFrom_39 ?_
          refine V.istore_n (i := 3) dX0_pairFrom_40 rfl rfl rfl ?_
          dsimp only [List.set]
          exact L hmp (p + 1) (by omega) h d (by omega) (by omega) (pair_free hpd hmp) hMt VFr.rf
        · skip
          have hms : M p ≠ none := fun z => hc3 ((eO_none (hmn p)).mpr z)
          refine V.aload_n dX0_pairFrom_28 rfl ?_
          refine V.aload_n dX0_pairFrom_29 rfl ?_
          refine V.iload_n dX0_pairFrom_30 rfl ?_
          refine V.iconst (v := nI 1) dX0_pairFrom_31 (by decide) ?_
          refine V.iaddN dX0_pairFrom_32 ?_
          refine V.callS cX0_15 (ih h r a S M (p + 1) hR hB hMt hMb (by omega) hap) dX0_pairFrom_33 (show d + 3 + 1 ≤ d + 1 + 3 by omega) rfl rfl (Nat.le_of_ble_eq_true rfl) (fun v_ h_ hp_ => ?_)
          obtain ⟨rfl, hMt4, hf4⟩ := hp_
          dsimp only [Option.toList, List.cons_append, List.nil_append]
          have ha9 := pair_set hpd hms
          refine V.zret dX0_pairFrom_36 rfl vB_01 ⟨?_, ?_, hf4⟩
          · rw [ha9]
          · rw [ha9]; exact hMt4
      · exact absurd hc2 (by omega)
