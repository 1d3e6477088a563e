def RnPost (s r : Nat) (S : Rm) (p w : Nat) (h : VHp) : VPost := fun v h' => v = none ∧ (∃ o, MinG (stpF S p) (rX S p * 9 + rY S p) (golF S p w) o ∧ SRes h' s o) ∧ (∃ Q, RoomAt h' r Q) ∧ VFr2 s (s + 6) r (r + 6) h h'
theorem smn_init {c0 : Nat} {f c b d : List Int32} (h0 : c0 < 81) (hf : f.length = 81) (hd : d.length = 81) (hd0 : ∀ j, j < 81 → d[j]? = some (iI (-4))) : SMn (fun _ => c0) (fun k => if k = c0 then 1 else 0) (fun _ => 0) 1 (f.set 0 (nI c0)) c b (d.set c0 (nI 0)) := by
  refine ⟨fun j hj => ?_, fun k hk => ?_, fun k hk h4 => ?_⟩
  · rw [show j = 0 by omega, List.getElem?_set_self (by omega)]
  · by_cases e : k = c0
    · rw [e, List.getElem?_set_self (by omega)]
      show _ = some (eO (dsF (if c0 = c0 then 1 else 0)))
      rw [if_pos rfl, ds_some (by omega), ln_small (by omega)]; rfl
    · rw [List.getElem?_set_ne (by omega), hd0 k hk]
      show _ = some (eO (dsF (if k = c0 then 1 else 0)))
      rw [if_neg e, ds_none.mpr rfl]; rfl
  · exact absurd h4 (by
      show ¬ 4 ≤ (if k = c0 then 1 else 0)
      split <;> omega)
theorem SRaw.keep2 {h h' : VHp} {s lo hi : Nat} {x : Int32} {f c b d r : List Int32} (w : SRaw h s x f c b d r) (q : VFr lo hi h h') (hd : s + 6 ≤ lo ∨ hi ≤ s) : SRaw h' s x f c b d r := w.keep q hd

set_option maxHeartbeats 1000000 in
theorem e_run (g : VG) (h : VHp) (s r : Nat) (S : Rm) (p w : Nat) (hB : RmB S) (hR : RoomAt h r S) (hp : p < rN S) (hw8 : w < 8) (x : Int32) (ff cc bb dd rr : List Int32) (hW : SRaw h s x ff cc bb dd rr) (hd : s + 6 ≤ r ∨ r + 6 ≤ s) : VE g mX4_run 5 false (0, 0) [.ref s, .ref r, .int (nI p), .int (nI w)] h (RnPost s r S p w h) := by
  refine VE.of (by decide) rfl (Nat.le_of_ble_eq_true rfl) ?_
  obtain ⟨bn, bW, bH, bP, bL⟩ := id hB
  have bp := bP p hp
  have hc81 : (rX S p * 9 + rY S p) < 81 := by omega
  have hc0r : (rX S p * 9 + rY S p) / 9 < rW S ∧ (rX S p * 9 + rY S p) % 9 < rH S := by omega
  have L : ∀ i, i ≤ 81 → ∀ (h1 : VHp) (fs cd cf : Nat → Nat) (n x0 y0 : Nat) (ff cc bb dd : List Int32) (v6 : Option Value), SRaw h1 s (iI (-4)) ff cc bb dd rr → SMn fs cd cf n ff cc bb dd → Bfs (stpF S p) (rX S p * 9 + rY S p) (golF S p w) fs cd n i 0 → i ≤ n → RoomAt h1 r (rPut S p x0 y0) → x0 < rW S → y0 < rH S → VFr2 s (s + 6) r (r + 6) h h1 → V (g, mX4_run, 5, false, h.length, RnPost s r S p w h) (0, 0) 71 [some (.ref s), some (.ref r), some (.int (nI p)), some (.int (nI w)), some (.int (nI n)), some (.int (nI i)), v6] [] h1 := by
    refine vloop 81 (fun i ih hi => ?_)
    intro h1 fs cd cf n x0 y0 ff cc bb dd v6 hW1 hM1 hF1 hin hR1 hx0 hy0 hf1
    obtain ⟨hso, hs1, hs2, hs3, hs4, hs5, l1, l2, l3, l4, l5⟩ := id hW1
    have hn81 := bfs_81 hF1
    have hdl : ∀ c w9, draftF (rPut S p (c / 9) (c % 9)) p = some w9 → w9 < 1000 := fun c w9 z => by have := draftF_lt z; omega
    refine V.iload dX4_run_71 rfl ?_
    refine V.iload dX4_run_73 rfl ?_
    refine V.icmp_geN 135 dX4_run_75 (by decide) (by omega) (by omega) (fun hc1 => ?_) (fun hc1 => ?_)
    · skip
      obtain rfl : i = n := (by omega)
      exact V.vret dX4_run_135 rfl ⟨rfl, ⟨none, bfs_end hF1, ff, cc, bb, dd, rr, hW1, fun N e => by cases e⟩, ⟨_, hR1⟩, hf1⟩
    · skip
      have hlt := hc1
      have hb1 := hF1.1 i hlt
      have hrm := fol_room hB hc0r _ _ hb1.2.2.1
      have hBQ : RmB (rPut S p (fs i / 9) (fs i % 9)) := put_B hB hrm.1 hrm.2
      have hl80 := hb1.2.2.2
      refine V.iload dX4_run_78 rfl ?_
      refine V.bipush (v := nI 81) dX4_run_80 (by decide) ?_
      refine V.icmp_geN 135 dX4_run_82 (by decide) (by omega) (by omega) (fun hc2 => ?_) (fun hc2 => ?_)
      · exact absurd hc2 (by omega)
      · skip
        refine V.aload_n dX4_run_85 rfl ?_
        refine V.get fX4_9 dX4_run_86 hso rfl ?_
        refine V.iload dX4_run_89 rfl ?_
        refine V.iald dX4_run_91 hs1 rfl (by omega) (hM1.1 _ (by omega)) ?_
        refine V.istore dX4_run_92 rfl rfl ?_
        dsimp only [List.set]
        refine V.aload_n dX4_run_94 rfl ?_
        refine V.iload_n dX4_run_95 rfl ?_
        refine V.iload dX4_run_96 rfl ?_
        refine V.callS cX4_39 (e_goTo g h1 r (rPut S p x0 y0) hR1 (put_B hB hx0 hy0) p (fs i) hp hb1.1) dX4_run_98 (Nat.le_of_ble_eq_true rfl) rfl rfl (Nat.le_of_ble_eq_true rfl) (fun v_ h_ hp_ => ?_)
        obtain ⟨rfl, hR2, hf2⟩ := hp_
        dsimp only [Option.toList, List.nil_append]
        rw [put_put] at hR2
        generalize h_ = h2 at hR2 hf2 ⊢
        have hW2 := hW1.keep hf2 (by omega)
        have hso2 := hW2.1
        have hg2 := hf1.tr (VFr.to2r (lo := s) (hi := s + 6) hf2)
        refine V.aload_n dX4_run_101 rfl ?_
        refine V.iload_n dX4_run_102 rfl ?_
        refine V.callVp (ci := 3) cX4_43 (e_draft g h2 r (rPut S p (fs i / 9) (fs i % 9)) hR2 hBQ p hp) dX4_run_103 (Nat.le_of_ble_eq_true rfl) rfl (RoomAt.obj hR2) rfl rfl (Nat.le_of_ble_eq_true rfl) ?_
        refine V.iload_n dX4_run_106 rfl ?_
        refine V.icmp_ne 117 dX4_run_107 (by decide) (fun hc3 => ?_) (fun hc3 => ?_)
        · skip
          have hgl : ¬ golF S p w (fs i) := fun q => hc3 ((eO_some (hdl (fs i)) (by omega)).mpr q)
          refine V.aload_n dX4_run_117 rfl ?_
          refine V.aload_n dX4_run_118 rfl ?_
          refine V.iload_n dX4_run_119 rfl ?_
          refine V.iload dX4_run_120 rfl ?_
          refine V.iload dX4_run_122 rfl ?_
          refine V.callV (ci := 4) cX4_51 (e_findNext g h2 s r S p w (rX S p * 9 + rY S p) i (fs i) n fs cd cf (iI (-4)) ff cc bb dd rr hB hR2 hBQ hp hW2 hM1 hF1 hlt rfl hd) dX4_run_124 (Nat.le_of_ble_eq_true rfl) rfl hso2 rfl rfl (Nat.le_of_ble_eq_true rfl) (fun v_ h_ hp_ => ?_)
          obtain ⟨fs3, cd3, cf3, n3, f3, c3, b3, d3, rfl, hW3, hM3, hF3, he3, hi3, hf3⟩ := hp_
          dsimp only [Option.toList, List.cons_append, List.nil_append]
          generalize h_ = h3 at hW3 hf3 ⊢
          have hn3 := bfs_81 hF3
          refine V.istore dX4_run_127 rfl rfl ?_
          dsimp only [List.set]
          refine V.iincN (n := 1) dX4_run_129 rfl rfl rfl ?_
          dsimp only [List.set]
          refine V.goto 71 dX4_run_132 (by decide) ?_
          exact ih (i + 1) (by omega) (by omega) h3 fs3 cd3 cf3 n3 _ _ f3 c3 b3 d3 _ hW3 hM3 (bfs_next hF3 hi3 (by rw [he3]; exact hgl)) (by omega) (hR2.keep hf3 (by omega)) hrm.1 hrm.2 (hg2.tr (VFr.to2l hf3))
        · skip
          have hgl : golF S p w (fs i) := (eO_some (hdl (fs i)) (by omega)).mp hc3
          refine V.aload_n dX4_run_110 rfl ?_
          refine V.iload dX4_run_111 rfl ?_
          refine V.callV (ci := 4) cX4_47 (e_noteRow g h2 s (fs i) n fs cd cf (iI (-4)) ff cc bb dd rr hW2 hM1 hb1.1 hb1.2.1 (by omega)) dX4_run_113 (Nat.le_of_ble_eq_true rfl) rfl hso2 rfl rfl (Nat.le_of_ble_eq_true rfl) (fun v_ h_ hp_ => ?_)
          obtain ⟨rfl, ⟨f3, c3, b3, d3, r3, hW3, hrow⟩, hf3⟩ := hp_
          dsimp only [Option.toList, List.nil_append]
          generalize h_ = h3 at hW3 hf3 ⊢
          exact V.vret dX4_run_116 rfl ⟨rfl, ⟨some (cd (fs i)), bfs_goal hF1 hlt hgl, f3, c3, b3, d3, r3, hW3, fun N e => by cases e; exact ⟨hrow, by omega⟩⟩, ⟨_, hR2.keep hf3 (by omega)⟩, hg2.tr (VFr.to2l hf3)⟩
  have L0 : ∀ k, k ≤ 81 → ∀ (h1 : VHp) (dd : List Int32), SRaw h1 s x ff cc bb dd rr → (∀ j, j < k → dd[j]? = some (iI (-4))) → VFr s (s + 6) h h1 → V (g, mX4_run, 5, false, h.length, RnPost s r S p w h) (0, 0) 3 [some (.ref s), some (.ref r), some (.int (nI p)), some (.int (nI w)), some (.int (nI k)), none, none] [] h1 := by
    refine vloop 81 (fun k ih hi => ?_)
    intro h1 dd hW1 hd0 hf1
    obtain ⟨hso, hs1, hs2, hs3, hs4, hs5, l1, l2, l3, l4, l5⟩ := id hW1
    have hR1 := hR.keep hf1 (by omega)
    obtain ⟨kd, xs, ys, vs, ll, ho, hk, hx, hy, hv, hl, lk, lx, ly, lv, lL, ek, ex, ey, ev, eL⟩ := id hR1
    refine V.iload dX4_run_3 rfl ?_
    refine V.bipush (v := nI 81) dX4_run_5 (by decide) ?_
    refine V.icmp_geN 25 dX4_run_7 (by decide) (by omega) (by omega) (fun hc1 => ?_) (fun hc1 => ?_)
    · skip
      refine V.aload_n dX4_run_25 rfl ?_
      refine V.bipush (v := iI (-4)) dX4_run_26 (by decide) ?_
      refine V.puti fX4_27 dX4_run_28 hso (Nat.le_of_ble_eq_true rfl) ?_
      dsimp only [List.set]
      obtain rfl : k = 81 := (by omega)
      have hW2 := hW1.x (iI (-4))
      have hf2 := hf1.tr (VFr.set (h := h1) (lo := s) (hi := s + 6) (a := s) (c := Sum.inr (Sum.inr (4, [Value.ref (s + 1), Value.ref (s + 2), Value.ref (s + 3), Value.ref (s + 4), Value.ref (s + 5), Value.int (iI (-4))]))) (by omega) (by omega))
      generalize List.set h1 s (Sum.inr (Sum.inr (4, [Value.ref (s + 1), Value.ref (s + 2), Value.ref (s + 3), Value.ref (s + 4), Value.ref (s + 5), Value.int (iI (-4))]))) = h2 at hW2 hf2 ⊢
      obtain ⟨hso2, hs12, -⟩ := id hW2
      have hR2 := hR.keep hf2 (by omega)
      obtain ⟨kd2, xs2, ys2, vs2, ll2, ho2, hk2, hx2, hy2, hv2, hl2, lk2, lx2, ly2, lv2, lL2, ek2, ex2, ey2, ev2, eL2⟩ := id hR2
      refine V.aload_n dX4_run_31 rfl ?_
      refine V.get fX4_9 dX4_run_32 hso2 rfl ?_
      refine V.iconst (v := nI 0) dX4_run_35 (by decide) ?_
      refine V.aload_n dX4_run_36 rfl ?_
      refine V.getr fX4_31 dX4_run_37 ho2 rfl ?_
      refine V.iload_n dX4_run_40 rfl ?_
      refine V.iald dX4_run_41 hx2 rfl (by omega) (ex2 _ (by omega)) ?_
      refine V.bipush (v := nI 9) dX4_run_42 (by decide) ?_
      refine V.imulN dX4_run_44 ?_
      refine V.aload_n dX4_run_45 rfl ?_
      refine V.getr fX4_36 dX4_run_46 ho2 rfl ?_
      refine V.iload_n dX4_run_49 rfl ?_
      refine V.iald dX4_run_50 hy2 rfl (by omega) (ey2 _ (by omega)) ?_
      refine V.iaddN dX4_run_51 ?_
      refine V.iast dX4_run_52 hs12 rfl (by omega) (by omega) ?_
      have hW3 := hW2.f (ff.set 0 (nI (rX S p * 9 + rY S p))) (by rw [List.length_set]; omega)
      have hf3 := hf2.tr (VFr.set (h := h2) (lo := s) (hi := s + 6) (a := s + 1) (c := Sum.inl (ff.set 0 (nI (rX S p * 9 + rY S p)))) (by omega) (by omega))
      generalize List.set h2 (s + 1) (Sum.inl (ff.set 0 (nI (rX S p * 9 + rY S p)))) = h3 at hW3 hf3 ⊢
      obtain ⟨hso3, hs13, -, -, hs43, -⟩ := id hW3
      refine V.aload_n dX4_run_53 rfl ?_
      refine V.get fX4_21 dX4_run_54 hso3 rfl ?_
      refine V.aload_n dX4_run_57 rfl ?_
      refine V.get fX4_9 dX4_run_58 hso3 rfl ?_
      refine V.iconst (v := nI 0) dX4_run_61 (by decide) ?_
      refine V.iald dX4_run_62 hs13 rfl (by omega) (List.getElem?_set_self (by omega)) ?_
      refine V.iconst (v := nI 0) dX4_run_63 (by decide) ?_
      refine V.iast dX4_run_64 hs43 rfl (by omega) (by omega) ?_
      have hW4 := hW3.d (dd.set (rX S p * 9 + rY S p) (nI 0)) (by rw [List.length_set]; omega)
      have hf4 := hf3.tr (VFr.set (h := h3) (lo := s) (hi := s + 6) (a := s + 4) (c := Sum.inl (dd.set (rX S p * 9 + rY S p) (nI 0))) (by omega) (by omega))
      generalize List.set h3 (s + 4) (Sum.inl (dd.set (rX S p * 9 + rY S p) (nI 0))) = h4 at hW4 hf4 ⊢
      refine V.iconst (v := nI 1) dX4_run_65 (by decide) ?_
      refine V.istore dX4_run_66 rfl rfl ?_
      dsimp only [List.set]
      refine V.iconst (v := nI 0) dX4_run_68 (by decide) ?_
      refine V.istore dX4_run_69 rfl rfl ?_
      dsimp only [List.set]
      exact L 0 (by omega) h4 _ _ _ 1 (rX S p) (rY S p) _ _ _ _ none hW4 (smn_init hc81 l1 l4 hd0) (bfs_init hc81) (by omega) (by rw [put_self]; exact hR.keep hf4 (by omega)) bp.2.2.1 bp.2.2.2 (VFr.to2l hf4)
    · skip
      refine V.aload_n dX4_run_10 rfl ?_
      refine V.get fX4_21 dX4_run_11 hso rfl ?_
      refine V.iload dX4_run_14 rfl ?_
      refine V.bipush (v := iI (-4)) dX4_run_16 (by decide) ?_
      refine V.iast dX4_run_18 hs4 rfl (by omega) (by omega) ?_
      refine V.iincN (n := 1) dX4_run_19 rfl rfl rfl ?_
      dsimp only [List.set]
      refine V.goto 3 dX4_run_22 (by decide) ?_
      exact ih (k + 1) (by omega) (by omega) _ (dd.set k (iI (-4))) (hW1.d _ (by rw [List.length_set]; omega)) (fun j hj => by
        by_cases q : j = k
        · rw [q, List.getElem?_set_self (by omega)]
        · rw [List.getElem?_set_ne (by omega)]; exact hd0 j (by omega)) (hf1.tr (VFr.set (by omega) (by omega)))
  show V _ _ 0 [some (.ref s), some (.ref r), some (.int (nI p)), some (.int (nI w)), none, none, none] [] h
  refine V.iconst (v := nI 0) dX4_run_0 (by decide) ?_
  refine V.istore dX4_run_1 rfl rfl ?_
  dsimp only [List.set]
  exact L0 0 (by omega) h dd hW (fun j hj => absurd hj (Nat.not_lt_zero _)) VFr.rf

theorem RoomAt.keep2 {h h' : VHp} {r a1 a2 b1 b2 : Nat} {S : Rm} (w : RoomAt h r S) (f : ∀ {x : Nat}, (x < a1 ∨ a2 ≤ x) → (x < b1 ∨ b2 ≤ x) → h'[x]? = h[x]?) (hd : r + 6 ≤ a1 ∨ a2 ≤ r) (hd2 : r + 6 ≤ b1 ∨ b2 ≤ r) : RoomAt h' r S := by
  obtain ⟨kd, xs, ys, vs, ll, h0, h1, h2, h3, h4, h5, rest⟩ := w
  exact ⟨kd, xs, ys, vs, ll, by rw [f (by omega) (by omega)]; exact h0, by rw [f (by omega) (by omega)]; exact h1, by rw [f (by omega) (by omega)]; exact h2, by rw [f (by omega) (by omega)]; exact h3, by rw [f (by omega) (by omega)]; exact h4, by rw [f (by omega) (by omega)]; exact h5, rest⟩
theorem SRes.at {h : VHp} {s : Nat} {o : Option Nat} (w : SRes h s o) : SearchAt h s := by
  obtain ⟨f, c, b, d, r, q, -⟩ := w
  exact ⟨f, c, b, d, r, _, q⟩
theorem CAt.run {h h' : VHp} {c : Nat} {T : Sy} (w : CAt h c T) {Q : Rm} (f : VFr2 (c + 71) (c + 71 + 6) (c + 11) (c + 11 + 6) h h') (q : RoomAt h' (c + 11) Q) (q2 : SearchAt h' (c + 71)) : CAt h' c T := by
  obtain ⟨h0, h1, ⟨nm, h2⟩, h3, -, h5, h6, h7, h8, h9⟩ := w
  have k2 : ∀ {x}, (x < c + 11 ∨ c + 17 ≤ x) → (x < c + 71 ∨ c + 77 ≤ x) → h'[x]? = h[x]? := fun {x} a b => f.2 x (by omega) (by omega)
  refine ⟨by rw [k2 (by omega) (by omega)]; exact h0, ?_, ⟨nm, ?_⟩, ?_, ⟨Q, q⟩, ?_, ?_, q2, ?_, ?_⟩
  · obtain ⟨lt, a0, a1, rest⟩ := h1
    exact ⟨lt, by rw [k2 (by omega) (by omega)]; exact a0, by rw [k2 (by omega) (by omega)]; exact a1, rest⟩
  · exact ⟨by rw [k2 (by omega) (by omega)]; exact h2.1, by rw [k2 (by omega) (by omega)]; exact h2.2.1, h2.2.2⟩
  · exact h3.keep2 k2 (by omega) (by omega)
  · obtain ⟨nx, a0, a1, a2, a3, a4, a5⟩ := h5
    exact ⟨nx, a0, a1, by rw [k2 (by omega) (by omega)]; exact a2, by rw [k2 (by omega) (by omega)]; exact a3, fun i hi => (a4 i hi).imp (fun Q q => q.keep2 k2 (by omega) (by omega)), fun j hj => (a5 j hj).keep2 k2 (by omega) (by omega)⟩
  · obtain ⟨wh, hb, wy, a0, a1, a2, a3, rest⟩ := h6
    exact ⟨wh, hb, wy, by rw [k2 (by omega) (by omega)]; exact a0, by rw [k2 (by omega) (by omega)]; exact a1, by rw [k2 (by omega) (by omega)]; exact a2, by rw [k2 (by omega) (by omega)]; exact a3, rest⟩
  · obtain ⟨a, a0, a1, rest⟩ := h8
    exact ⟨a, by rw [k2 (by omega) (by omega)]; exact a0, by rw [k2 (by omega) (by omega)]; exact a1, rest⟩
  · obtain ⟨a0, a1, a2, a3⟩ := h9
    exact ⟨by rw [k2 (by omega) (by omega)]; exact a0, a1, fun i hi => (a2 i hi).imp (fun Q q => q.keep2 k2 (by omega) (by omega)), fun i hi => (a3 i hi).keep2 k2 (by omega) (by omega)⟩

set_option maxHeartbeats 1000000 in
theorem c_steps (g : VG) (h : VHp) (c : Nat) (T : Sy) (hC : CAt h c T) (hO : SyOk T) (p w k : Int) (hp : -2147483648 ≤ p ∧ p < 2147483648) (hw : -2147483648 ≤ w ∧ w < 2147483648) (hk0 : -2147483648 ≤ k ∧ k < 2147483648) (o : Option Nat) (hmo : MinG (stpF (tS T) p.toNat) (rX (tS T) p.toNat * 9 + rY (tS T) p.toNat) (golF (tS T) p.toNat w.toNat) o) : VE g mX7_steps 6 false (0, 0) [.ref c, .int (iI p), .int (iI w), .int (iI k)] h (CP c (a_steps T p w k o) T h) := by
  obtain ⟨hc0, hT, ⟨nm, hQ⟩, hR, ⟨Q, hQr⟩, hP, hN, hSe, hCo, hKe⟩ := id hC
  obtain ⟨hOt, hOs, hOn, hOp, hOk, hOns, hOpk, hOkk⟩ := id hO
  have hB := hOs.1
  obtain ⟨lt, hto, hta, htl, htn, hte⟩ := id hT
  obtain ⟨nx, hnx, hpl, hpo, hpa, hp4, hp5⟩ := id hP
  obtain ⟨hka, hkl, hk2, hk3⟩ := id hKe
  obtain ⟨kd, xs, ys, vs, ll, ho, hk, hx, hy, hv, hl, lk, lx, ly, lv, lL, ek, ex, ey, ev, eL⟩ := id hR
  obtain ⟨bn, bW, bH, bP, bL⟩ := id hB
  refine VE.of (by decide) rfl (Nat.le_of_ble_eq_true rfl) ?_
  show V _ _ 0 [some (.ref c), some (.int (iI p)), some (.int (iI w)), some (.int (iI k))] [] h
  refine V.aload_n dX7_steps_0 rfl ?_
  refine V.get fX7_26 dX7_steps_1 hc0 rfl ?_
  refine V.iload_n dX7_steps_4 rfl ?_
  refine V.callVp (ci := 3) cX7_103 (e_has g h (c + 5) (tS T) hR hB p (by omega)) dX7_steps_5 (Nat.le_of_ble_eq_true rfl) rfl ho rfl rfl (Nat.le_of_ble_eq_true rfl) ?_
  refine V.if_eqB 25 dX7_steps_8 (by decide) (fun hc1 => ?_) (fun hc1 => ?_)
  · skip
    refine V.iconst (v := iI (-1)) dX7_steps_25 (by decide) ?_
    exact V.iret dX7_steps_26 rfl ⟨by unfold a_steps; rw [if_neg (by omega)], hC, VFr.rf⟩
  · skip
    refine V.iload_n dX7_steps_11 rfl ?_
    refine V.bipush (v := nI 8) dX7_steps_12 (by decide) ?_
    refine V.toZ1 ?_
    refine V.callSp cX7_153 (e_isBelow g h _ _ (by omega) (by omega)) dX7_steps_14 (Nat.le_of_ble_eq_true rfl) rfl rfl (Nat.le_of_ble_eq_true rfl) ?_
    refine V.if_eqB 25 dX7_steps_17 (by decide) (fun hc2 => ?_) (fun hc2 => ?_)
    · skip
      refine V.iconst (v := iI (-1)) dX7_steps_25 (by decide) ?_
      exact V.iret dX7_steps_26 rfl ⟨by unfold a_steps; rw [if_neg (by omega)], hC, VFr.rf⟩
    · skip
      refine V.iload_n dX7_steps_20 rfl ?_
      refine V.iconst (v := iI (-1)) dX7_steps_21 (by decide) ?_
      refine V.icmp_geZ 27 dX7_steps_22 (by decide) (by omega) (by omega) (fun hc3 => ?_) (fun hc3 => ?_)
      · skip
        refine V.aload_n dX7_steps_27 rfl ?_
        refine V.get fX7_30 dX7_steps_28 hc0 rfl ?_
        refine V.aload_n dX7_steps_31 rfl ?_
        refine V.get fX7_26 dX7_steps_32 hc0 rfl ?_
        refine V.callV (ci := 3) cX7_97 (e_copyFrom g h (c + 11) (c + 5) Q (tS T) hQr hR (by omega)) dX7_steps_35 (Nat.le_of_ble_eq_true rfl) rfl (RoomAt.obj hQr) rfl rfl (Nat.le_of_ble_eq_true rfl) (fun v_ h_ hp_ => ?_)
        obtain ⟨rfl, hR2, hf2⟩ := hp_
        dsimp only [Option.toList, List.nil_append]
        generalize h_ = h2 at hR2 hf2 ⊢
        have hC2 := hC.trial hf2 hR2
        have hc2 := hC2.1
        have hSe2 : SearchAt h2 (c + 71) := hC2.2.2.2.2.2.2.2.1
        obtain ⟨ff, cc, bb, dd, rr, xx, hW2⟩ := id hSe2
        have hso2 := hW2.1
        refine V.aload_n dX7_steps_38 rfl ?_
        refine V.get fX7_50 dX7_steps_39 hc2 rfl ?_
        refine V.aload_n dX7_steps_42 rfl ?_
        refine V.get fX7_30 dX7_steps_43 hc2 rfl ?_
        refine V.iload_n dX7_steps_46 rfl ?_
        refine V.re (iI_toN (n := p.toNat) (by omega)) ?_
        refine V.iload_n dX7_steps_47 rfl ?_
        refine V.re (iI_toN (n := w.toNat) (by omega)) ?_
        refine V.callV (ci := 4) cX7_186 (e_run g h2 (c + 71) (c + 11) (tS T) p.toNat w.toNat hB hR2 (by omega) (by omega) xx ff cc bb dd rr hW2 (by omega)) dX7_steps_48 (Nat.le_of_ble_eq_true rfl) rfl hso2 rfl rfl (Nat.le_of_ble_eq_true rfl) (fun v_ h_ hp_ => ?_)
        obtain ⟨rfl, ⟨o9, hmin, hS3⟩, ⟨Q3, hQ3⟩, hf3⟩ := hp_
        dsimp only [Option.toList, List.nil_append]
        generalize h_ = h3 at hS3 hQ3 hf3 ⊢
        have eo := min_uniq hmin hmo
        subst eo
        have hC3 := hC2.run hf3 hQ3 hS3.at
        have hc3 := hC3.1
        obtain ⟨f3, c3, b3, d3, r3, hW3, -⟩ := id hS3
        have hso3 := hW3.1
        have hf4 : VFr c (c + 92) h h3 := ⟨hf3.1.trans hf2.1, fun q hq => (hf3.2 q (by omega) (by omega)).trans (hf2.2 q (by omega))⟩
        refine V.iload_n dX7_steps_51 rfl ?_
        refine V.iconst (v := iI (-1)) dX7_steps_52 (by decide) ?_
        refine V.icmp_neZ 66 dX7_steps_53 (by decide) (by omega) (by omega) (fun hc4 => ?_) (fun hc4 => ?_)
        · skip
          refine V.aload_n dX7_steps_66 rfl ?_
          refine V.get fX7_50 dX7_steps_67 hc3 rfl ?_
          refine V.iload_n dX7_steps_70 rfl ?_
          refine V.callVp (ci := 4) cX7_191 (e_sideAt g h3 (c + 71) o9 hS3 k (by omega)) dX7_steps_71 (Nat.le_of_ble_eq_true rfl) rfl hso3 rfl rfl (Nat.le_of_ble_eq_true rfl) ?_
          exact V.iret dX7_steps_74 rfl ⟨by unfold a_steps; rw [if_pos (by omega)], hC3, hf4⟩
        · skip
          refine V.aload_n dX7_steps_56 rfl ?_
          refine V.get fX7_50 dX7_steps_57 hc3 rfl ?_
          refine V.get fX7_190 dX7_steps_60 hso3 rfl ?_
          refine V.goto 74 dX7_steps_63 (by decide) ?_
          exact V.iret dX7_steps_74 rfl ⟨by unfold a_steps a_stepsO; rw [if_pos (by omega)]; cases o9 with
            | none => rfl
            | some N => dsimp only; rw [if_pos (by omega)]; rfl, hC3, hf4⟩
      · skip
        refine V.iconst (v := iI (-1)) dX7_steps_25 (by decide) ?_
        exact V.iret dX7_steps_26 rfl ⟨by unfold a_steps; rw [if_neg (by omega)], hC, VFr.rf⟩
