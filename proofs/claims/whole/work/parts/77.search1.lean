/-- the search's cells -/
def SRaw (h : VHp) (s : Nat) (x : Int32) (f c b d r : List Int32) : Prop := h[s]? = some (.inr (.inr (4, [.ref (s + 1), .ref (s + 2), .ref (s + 3), .ref (s + 4), .ref (s + 5), .int x]))) ∧ h[s + 1]? = some (.inl f) ∧ h[s + 2]? = some (.inl c) ∧ h[s + 3]? = some (.inl b) ∧ h[s + 4]? = some (.inl d) ∧ h[s + 5]? = some (.inl r) ∧ f.length = 81 ∧ c.length = 81 ∧ b.length = 81 ∧ d.length = 81 ∧ r.length = 81
theorem SRaw.f {h : VHp} {s : Nat} {x : Int32} {f c b d r : List Int32} (w : SRaw h s x f c b d r) (z : List Int32) (hz : z.length = 81) : SRaw (h.set (s + 1) (.inl z)) s x z c b d r := ⟨vset_ne w.1 (by omega), vset_eq w.2.1, vset_ne w.2.2.1 (by omega), vset_ne w.2.2.2.1 (by omega), vset_ne w.2.2.2.2.1 (by omega), vset_ne w.2.2.2.2.2.1 (by omega), hz, w.2.2.2.2.2.2.2.1, w.2.2.2.2.2.2.2.2.1, w.2.2.2.2.2.2.2.2.2.1, w.2.2.2.2.2.2.2.2.2.2⟩
theorem SRaw.c {h : VHp} {s : Nat} {x : Int32} {f c b d r : List Int32} (w : SRaw h s x f c b d r) (z : List Int32) (hz : z.length = 81) : SRaw (h.set (s + 2) (.inl z)) s x f z b d r := ⟨vset_ne w.1 (by omega), vset_ne w.2.1 (by omega), vset_eq w.2.2.1, vset_ne w.2.2.2.1 (by omega), vset_ne w.2.2.2.2.1 (by omega), vset_ne w.2.2.2.2.2.1 (by omega), w.2.2.2.2.2.2.1, hz, w.2.2.2.2.2.2.2.2.1, w.2.2.2.2.2.2.2.2.2.1, w.2.2.2.2.2.2.2.2.2.2⟩
theorem SRaw.b {h : VHp} {s : Nat} {x : Int32} {f c b d r : List Int32} (w : SRaw h s x f c b d r) (z : List Int32) (hz : z.length = 81) : SRaw (h.set (s + 3) (.inl z)) s x f c z d r := ⟨vset_ne w.1 (by omega), vset_ne w.2.1 (by omega), vset_ne w.2.2.1 (by omega), vset_eq w.2.2.2.1, vset_ne w.2.2.2.2.1 (by omega), vset_ne w.2.2.2.2.2.1 (by omega), w.2.2.2.2.2.2.1, w.2.2.2.2.2.2.2.1, hz, w.2.2.2.2.2.2.2.2.2.1, w.2.2.2.2.2.2.2.2.2.2⟩
theorem SRaw.d {h : VHp} {s : Nat} {x : Int32} {f c b d r : List Int32} (w : SRaw h s x f c b d r) (z : List Int32) (hz : z.length = 81) : SRaw (h.set (s + 4) (.inl z)) s x f c b z r := ⟨vset_ne w.1 (by omega), vset_ne w.2.1 (by omega), vset_ne w.2.2.1 (by omega), vset_ne w.2.2.2.1 (by omega), vset_eq w.2.2.2.2.1, vset_ne w.2.2.2.2.2.1 (by omega), w.2.2.2.2.2.2.1, w.2.2.2.2.2.2.2.1, w.2.2.2.2.2.2.2.2.1, hz, w.2.2.2.2.2.2.2.2.2.2⟩
theorem SRaw.r {h : VHp} {s : Nat} {x : Int32} {f c b d r : List Int32} (w : SRaw h s x f c b d r) (z : List Int32) (hz : z.length = 81) : SRaw (h.set (s + 5) (.inl z)) s x f c b d z := ⟨vset_ne w.1 (by omega), vset_ne w.2.1 (by omega), vset_ne w.2.2.1 (by omega), vset_ne w.2.2.2.1 (by omega), vset_ne w.2.2.2.2.1 (by omega), vset_eq w.2.2.2.2.2.1, w.2.2.2.2.2.2.1, w.2.2.2.2.2.2.2.1, w.2.2.2.2.2.2.2.2.1, w.2.2.2.2.2.2.2.2.2.1, hz⟩
theorem SRaw.x {h : VHp} {s : Nat} {x : Int32} {f c b d r : List Int32} (w : SRaw h s x f c b d r) (y : Int32) : SRaw (h.set s (.inr (.inr (4, [.ref (s + 1), .ref (s + 2), .ref (s + 3), .ref (s + 4), .ref (s + 5), .int y])))) s y f c b d r := ⟨vset_eq w.1, vset_ne w.2.1 (by omega), vset_ne w.2.2.1 (by omega), vset_ne w.2.2.2.1 (by omega), vset_ne w.2.2.2.2.1 (by omega), vset_ne w.2.2.2.2.2.1 (by omega), w.2.2.2.2.2.2⟩
theorem SRaw.keep {h h' : VHp} {s lo hi : Nat} {x : Int32} {f c b d r : List Int32} (w : SRaw h s x f c b d r) (q : VFr lo hi h h') (hd : s + 6 ≤ lo ∨ hi ≤ s) : SRaw h' s x f c b d r := ⟨by rw [q.2 _ (by omega)]; exact w.1, by rw [q.2 _ (by omega)]; exact w.2.1, by rw [q.2 _ (by omega)]; exact w.2.2.1, by rw [q.2 _ (by omega)]; exact w.2.2.2.1, by rw [q.2 _ (by omega)]; exact w.2.2.2.2.1, by rw [q.2 _ (by omega)]; exact w.2.2.2.2.2.1, w.2.2.2.2.2.2⟩
def dsF (a : Nat) : Option Nat := if a = 0 then none else some (lnG a)
/-- what the rows mean -/
def SMn (fs cd cf : Nat → Nat) (n : Nat) (f c b d : List Int32) : Prop := (∀ j, j < n → f[j]? = some (nI (fs j))) ∧ (∀ k, k < 81 → d[k]? = some (eO (dsF (cd k)))) ∧ ∀ k, k < 81 → 4 ≤ cd k → (b[k]? = some (nI (cd k % 4)) ∧ c[k]? = some (nI (cf k))) ∧ cf k < 81 ∧ cd (cf k) = cd k / 4
theorem SMn.add {fs cd cf : Nat → Nat} {n : Nat} {f c b d : List Int32} (w : SMn fs cd cf n f c b d) {k e sd : Nat} (hk : k < 81) (h0 : cd k = 0) (he : e < 81) (he0 : cd e ≠ 0) (hs : sd < 4) (hn : n < 81) (lf : f.length = 81) (lc : c.length = 81) (lb : b.length = 81) (ld : d.length = 81) : SMn (up1 fs n k) (up1 cd k (4 * cd e + sd)) (up1 cf k e) (n + 1) (f.set n (nI k)) (c.set k (nI e)) (b.set k (nI sd)) (d.set k (nI (lnG (cd e) + 1))) := by
  obtain ⟨w1, w2, w3⟩ := w
  have uc : up1 cd k (4 * cd e + sd) k = 4 * cd e + sd := if_pos rfl
  have ud : ∀ x, x ≠ k → up1 cd k (4 * cd e + sd) x = cd x := fun x hx => if_neg hx
  refine ⟨fun j hj => ?_, fun x hx => ?_, fun x hx h4 => ?_⟩
  · unfold up1
    by_cases q : j = n
    · rw [if_pos q, q, List.getElem?_set_self (by omega)]
    · rw [if_neg q, List.getElem?_set_ne (by omega)]; exact w1 j (by omega)
  · by_cases q : x = k
    · rw [q, uc, List.getElem?_set_self (by omega)]
      unfold dsF
      rw [if_neg (by omega), ln_ap (by omega) hs]; rfl
    · rw [ud x q, List.getElem?_set_ne (by omega)]; exact w2 x hx
  · by_cases q : x = k
    · rw [q, uc, List.getElem?_set_self (by omega), List.getElem?_set_self (by omega)]
      rw [show up1 cf k e k = e from if_pos rfl, ud e (fun z => he0 (by rw [z]; exact h0))]
      exact ⟨⟨by rw [show (4 * cd e + sd) % 4 = sd by omega], rfl⟩, he, by omega⟩
    · rw [ud x q] at h4 ⊢
      rw [show up1 cf k e x = cf x from if_neg q, List.getElem?_set_ne (by omega), List.getElem?_set_ne (by omega)]
      have z := w3 x hx h4
      rw [ud (cf x) (fun y => by rw [y] at z; omega)]
      exact z
theorem put_self {S : Rm} {p : Nat} : rPut S p (rX S p) (rY S p) = S := by
  have e : ∀ f : Nat → Nat, up1 f p (f p) = f := fun f => by
    funext j; unfold up1; split
    · next q => rw [q]
    · rfl
  unfold rPut
  rw [e, e]
theorem fol_room {S : Rm} (hB : RmB S) {p c0 : Nat} (h0 : c0 / 9 < rW S ∧ c0 % 9 < rH S) : ∀ m c, folG (stpF S p) c0 m = some c → c / 9 < rW S ∧ c % 9 < rH S := by
  intro m c hm
  rcases fol_inv hm with ⟨-, h2⟩ | ⟨n', s', b', h1, h2, h3, h4, h5⟩
  · rw [h2]; exact h0
  · have z := stp_some hB h5
    omega
theorem bfs_81 {st : Nat → Nat → Option Nat} {c0 : Nat} {gl : Nat → Prop} {fs cd : Nat → Nat} {n i s : Nat} (b : Bfs st c0 gl fs cd n i s) : n ≤ 81 := by
  have h := b.2.2.2.2.2.2.2.1
  have := cntP_le (P := fun c => cd c ≠ 0) 81
  omega
theorem bfs_ds {st : Nat → Nat → Option Nat} {c0 : Nat} {gl : Nat → Prop} {fs cd : Nat → Nat} {n i s : Nat} (b : Bfs st c0 gl fs cd n i s) (k : Nat) : ∀ x, dsF (cd k) = some x → x < 1000 := by
  intro x h
  unfold dsF at h
  split at h
  · cases h
  · next q =>
    obtain ⟨j, hj, e⟩ := b.2.1 k q
    have h1 := (b.1 j hj).2.2.2
    have h2 := bfs_81 b
    rw [e] at h1
    cases h; omega
theorem ds_none {a : Nat} : dsF a = none ↔ a = 0 := by
  unfold dsF
  by_cases h : a = 0
  · rw [if_pos h]; exact ⟨fun _ => h, fun _ => rfl⟩
  · rw [if_neg h]; exact ⟨fun u => (by cases u), fun u => absurd u h⟩
theorem ds_some {a : Nat} (h : a ≠ 0) : dsF a = some (lnG a) := if_neg h

set_option maxHeartbeats 1000000 in
theorem e_goTo (g : VG) (h : VHp) (r : Nat) (S : Rm) (hR : RoomAt h r S) (hB : RmB S) (p c : Nat) (hp : p < rN S) (hc : c < 81) : VE g mX4_goTo 1 false (0, 0) [.ref r, .int (nI p), .int (nI c)] h (VRm r (rPut S p (c / 9) (c % 9)) h none) := by
  refine VE.of (by decide) rfl (Nat.le_of_ble_eq_true rfl) ?_
  show V _ _ 0 [some (.ref r), some (.int (nI p)), some (.int (nI c))] [] h
  refine V.aload_n dX4_goTo_0 rfl ?_
  refine V.iload_n dX4_goTo_1 rfl ?_
  refine V.iload_n dX4_goTo_2 rfl ?_
  refine V.bipush (v := nI 9) dX4_goTo_3 (by decide) ?_
  refine V.idivN dX4_goTo_5 (by omega) (by omega) (by omega) ?_
  refine V.iload_n dX4_goTo_6 rfl ?_
  refine V.bipush (v := nI 9) dX4_goTo_7 (by decide) ?_
  refine V.iremN dX4_goTo_9 (by omega) (by omega) (by omega) ?_
  refine V.callV (ci := 3) cX4_59 (e_put g h r S hR hB p (c / 9) (c % 9) hp) dX4_goTo_10 (Nat.le_of_ble_eq_true rfl) rfl (RoomAt.obj hR) rfl rfl (Nat.le_of_ble_eq_true rfl) (fun v_ h_ hp_ => ?_)
  obtain ⟨rfl, hR1, hf1⟩ := hp_
  dsimp only [Option.toList, List.nil_append]
  exact V.vret dX4_goTo_13 rfl ⟨rfl, hR1, hf1⟩

def FnPost (s : Nat) (S : Rm) (p w c0 i e : Nat) (x : Int32) (r : List Int32) (h : VHp) : VPost := fun v h' => ∃ (fs cd cf : Nat → Nat) (n : Nat) (f c b d : List Int32), v = some (.int (nI n)) ∧ SRaw h' s x f c b d r ∧ SMn fs cd cf n f c b d ∧ Bfs (stpF S p) c0 (golF S p w) fs cd n i 4 ∧ fs i = e ∧ i < n ∧ VFr s (s + 6) h h'

set_option maxHeartbeats 1000000 in
theorem e_findNext (g : VG) (h : VHp) (s r : Nat) (S : Rm) (p w c0 i e n : Nat) (fs cd cf : Nat → Nat) (x : Int32) (ff cc bb dd rr : List Int32) (hB : RmB S) (hR : RoomAt h r (rPut S p (e / 9) (e % 9))) (hBQ : RmB (rPut S p (e / 9) (e % 9))) (hp : p < rN S) (hW : SRaw h s x ff cc bb dd rr) (hM : SMn fs cd cf n ff cc bb dd) (hF : Bfs (stpF S p) c0 (golF S p w) fs cd n i 0) (hi : i < n) (he : fs i = e) (hd : s + 6 ≤ r ∨ r + 6 ≤ s) : VE g mX4_findNext 3 false (0, 0) [.ref s, .ref r, .int (nI p), .int (nI e), .int (nI n)] h (FnPost s S p w c0 i e x rr h) := by
  refine VE.of (by decide) rfl (Nat.le_of_ble_eq_true rfl) ?_
  have L : ∀ sd, sd ≤ 4 → ∀ (h1 : VHp) (fs cd cf : Nat → Nat) (n1 : Nat) (ff cc bb dd : List Int32) (v7 : Option Value), SRaw h1 s x ff cc bb dd rr → SMn fs cd cf n1 ff cc bb dd → Bfs (stpF S p) c0 (golF S p w) fs cd n1 i sd → i < n1 → fs i = e → VFr s (s + 6) h h1 → V (g, mX4_findNext, 3, false, h.length, FnPost s S p w c0 i e x rr h) (0, 0) 7 [some (.ref s), some (.ref r), some (.int (nI p)), some (.int (nI e)), some (.int (nI n)), some (.int (nI n1)), some (.int (nI sd)), v7] [] h1 := by
    refine vloop 4 (fun sd ih hi9 => ?_)
    intro h1 fs cd cf n1 ff cc bb dd v7 hW1 hM1 hF1 hi1 he1 hf1
    have hR1 : RoomAt h1 r (rPut S p (e / 9) (e % 9)) := hR.keep hf1 (by omega)
    obtain ⟨hso, hs1, hs2, hs3, hs4, hs5, l1, l2, l3, l4, l5⟩ := id hW1
    obtain ⟨m1, m2, m3⟩ := id hM1
    have hn81 := bfs_81 hF1
    have hds := bfs_ds hF1
    have hb1 := hF1.1 i hi1
    rw [he1] at hb1
    have he81 := hb1.1
    refine V.iload dX4_findNext_7 rfl ?_
    refine V.iconst (v := nI 4) dX4_findNext_9 (by decide) ?_
    refine V.icmp_geN 125 dX4_findNext_10 (by decide) (by omega) (by omega) (fun hc1 => ?_) (fun hc1 => ?_)
    · skip
      refine V.iload dX4_findNext_125 rfl ?_
      obtain rfl : sd = 4 := (by omega)
      exact V.iret dX4_findNext_127 rfl ⟨fs, cd, cf, n1, ff, cc, bb, dd, rfl, hW1, hM1, hF1, he1, hi1, hf1⟩
    · skip
      refine V.aload_n dX4_findNext_13 rfl ?_
      refine V.iload_n dX4_findNext_14 rfl ?_
      refine V.iload dX4_findNext_15 rfl ?_
      refine V.callVp (ci := 3) cX4_63 (e_canStep g h1 r (rPut S p (e / 9) (e % 9)) hR1 hBQ p sd hp (by omega)) dX4_findNext_17 (Nat.le_of_ble_eq_true rfl) rfl (RoomAt.obj hR1) rfl rfl (Nat.le_of_ble_eq_true rfl) ?_
      refine V.if_neB 26 dX4_findNext_20 (by decide) (fun hc2 => ?_) (fun hc2 => ?_)
      · skip
        have hcs := hc2
        refine V.iload_n dX4_findNext_26 rfl ?_
        refine V.gets1 (Or.inr ⟨"HeartVanes", w9_566⟩) dX4_findNext_27 ?_
        refine V.iload dX4_findNext_30 rfl ?_
        refine V.ald1 dX4_findNext_32 rfl (by omega) ?_
        refine V.re (vea_d _ (by omega)) ?_
        refine V.bipush (v := nI 9) dX4_findNext_33 (by decide) ?_
        refine V.toZ1 ?_
        refine V.imulZ dX4_findNext_35 ?_
        refine V.toZ2 ?_
        refine V.iaddZ dX4_findNext_36 ?_
        refine V.gets2 (Or.inr ⟨"HeartVanes", w9_567⟩) dX4_findNext_37 ?_
        refine V.iload dX4_findNext_40 rfl ?_
        refine V.ald2 dX4_findNext_42 rfl (by omega) ?_
        refine V.re (vso_d _ (by omega)) ?_
        refine V.iaddZ dX4_findNext_43 ?_
        have hst := stp_can hcs
        have hss := stp_some hB hst
        obtain ⟨c9, ec9⟩ : ∃ c9, c9 = (((e / 9 : Nat) : Int) + dxF sd).toNat * 9 + (((e % 9 : Nat) : Int) + dyF sd).toNat := ⟨_, rfl⟩
        rw [← ec9] at hst hss
        obtain ⟨-, z1, z2, z3, -, -⟩ := id hss
        refine V.re (y := nI c9) (iI_toN (by omega)) ?_
        refine V.istore dX4_findNext_44 rfl rfl ?_
        dsimp only [List.set]
        refine V.iload dX4_findNext_46 rfl ?_
        refine V.bipush (v := nI 81) dX4_findNext_48 (by decide) ?_
        refine V.toZ1 ?_
        refine V.toZ2 ?_
        refine V.callSp cX4_55 (e_isBelow g h1 _ _ (by omega) (by omega)) dX4_findNext_50 (Nat.le_of_ble_eq_true rfl) rfl rfl (Nat.le_of_ble_eq_true rfl) ?_
        refine V.if_eqB 119 dX4_findNext_53 (by decide) (fun hc3 => ?_) (fun hc3 => ?_)
        · exact absurd ⟨by omega, by omega⟩ hc3
        · skip
          refine V.aload_n dX4_findNext_56 rfl ?_
          refine V.get fX4_21 dX4_findNext_57 hso rfl ?_
          refine V.iload dX4_findNext_60 rfl ?_
          refine V.iald dX4_findNext_62 hs4 rfl (by omega) (m2 _ (by omega)) ?_
          refine V.bipush (v := iI (-4)) dX4_findNext_63 (by decide) ?_
          refine V.icmp_ne 119 dX4_findNext_65 (by decide) (fun hc4 => ?_) (fun hc4 => ?_)
          · skip
            have hnz : cd c9 ≠ 0 := fun q => hc4 ((eO_none (hds c9)).mpr (ds_none.mpr q))
            refine V.iincN (n := 1) dX4_findNext_119 rfl rfl rfl ?_
            dsimp only [List.set]
            refine V.goto 7 dX4_findNext_122 (by decide) ?_
            exact ih (sd + 1) (by omega) (by omega) _ _ _ _ _ _ _ _ _ _ hW1 hM1 (bfs_no hF1 (fun c q => by rw [he1, hst] at q; cases q; exact hnz)) hi1 he1 hf1
          · skip
            have hz9 : cd c9 = 0 := ds_none.mp ((eO_none (hds c9)).mp hc4)
            have hadd := bfs_add hF1 hi1 (by omega) z3 (by rw [he1]; exact hst) hz9
            refine V.iload dX4_findNext_68 rfl ?_
            refine V.bipush (v := nI 81) dX4_findNext_70 (by decide) ?_
            refine V.icmp_geN 119 dX4_findNext_72 (by decide) (by omega) (by omega) (fun hc5 => ?_) (fun hc5 => ?_)
            · exact absurd hc5 (by have := hadd.1; omega)
            · skip
              have hn8 := hadd.1
              refine V.aload_n dX4_findNext_75 rfl ?_
              refine V.get fX4_21 dX4_findNext_76 hso rfl ?_
              refine V.iload dX4_findNext_79 rfl ?_
              refine V.aload_n dX4_findNext_81 rfl ?_
              refine V.get fX4_21 dX4_findNext_82 hso rfl ?_
              refine V.iload_n dX4_findNext_85 rfl ?_
              refine V.iald dX4_findNext_86 hs4 rfl (by omega) (m2 _ (by omega)) ?_
              refine V.re (y := nI (lnG (cd e))) (by rw [ds_some hb1.2.1]; rfl) ?_
              refine V.iconst (v := nI 1) dX4_findNext_87 (by decide) ?_
              refine V.iaddN dX4_findNext_88 ?_
              refine V.iast dX4_findNext_89 hs4 rfl (by omega) (by omega) ?_
              have hW2 := hW1.d (dd.set c9 (nI (lnG (cd e) + 1))) (by rw [List.length_set]; omega)
              have hg2 := hf1.tr (VFr.set (h := h1) (lo := s) (hi := s + 6) (a := s + 4) (c := Sum.inl (dd.set c9 (nI (lnG (cd e) + 1)))) (by omega) (by omega))
              generalize List.set h1 (s + 4) (Sum.inl (dd.set c9 (nI (lnG (cd e) + 1)))) = h2 at hW2 hg2 ⊢
              obtain ⟨hso, hs1, hs2, hs3, hs4, hs5, -⟩ := id hW2
              refine V.aload_n dX4_findNext_90 rfl ?_
              refine V.get fX4_15 dX4_findNext_91 hso rfl ?_
              refine V.iload dX4_findNext_94 rfl ?_
              refine V.iload_n dX4_findNext_96 rfl ?_
              refine V.iast dX4_findNext_97 hs2 rfl (by omega) (by omega) ?_
              have hW3 := hW2.c (cc.set c9 (nI e)) (by rw [List.length_set]; omega)
              have hg3 := hg2.tr (VFr.set (h := h2) (lo := s) (hi := s + 6) (a := s + 2) (c := Sum.inl (cc.set c9 (nI e))) (by omega) (by omega))
              generalize List.set h2 (s + 2) (Sum.inl (cc.set c9 (nI e))) = h3 at hW3 hg3 ⊢
              obtain ⟨hso, hs1, hs2, hs3, hs4, hs5, -⟩ := id hW3
              refine V.aload_n dX4_findNext_98 rfl ?_
              refine V.get fX4_18 dX4_findNext_99 hso rfl ?_
              refine V.iload dX4_findNext_102 rfl ?_
              refine V.iload dX4_findNext_104 rfl ?_
              refine V.iast dX4_findNext_106 hs3 rfl (by omega) (by omega) ?_
              have hW4 := hW3.b (bb.set c9 (nI sd)) (by rw [List.length_set]; omega)
              have hg4 := hg3.tr (VFr.set (h := h3) (lo := s) (hi := s + 6) (a := s + 3) (c := Sum.inl (bb.set c9 (nI sd))) (by omega) (by omega))
              generalize List.set h3 (s + 3) (Sum.inl (bb.set c9 (nI sd))) = h4 at hW4 hg4 ⊢
              obtain ⟨hso, hs1, hs2, hs3, hs4, hs5, -⟩ := id hW4
              refine V.aload_n dX4_findNext_107 rfl ?_
              refine V.get fX4_9 dX4_findNext_108 hso rfl ?_
              refine V.iload dX4_findNext_111 rfl ?_
              refine V.iload dX4_findNext_113 rfl ?_
              refine V.iast dX4_findNext_115 hs1 rfl (by omega) (by omega) ?_
              have hW5 := hW4.f (ff.set n1 (nI c9)) (by rw [List.length_set]; omega)
              have hg5 := hg4.tr (VFr.set (h := h4) (lo := s) (hi := s + 6) (a := s + 1) (c := Sum.inl (ff.set n1 (nI c9))) (by omega) (by omega))
              generalize List.set h4 (s + 1) (Sum.inl (ff.set n1 (nI c9))) = h5 at hW5 hg5 ⊢
              obtain ⟨hso, hs1, hs2, hs3, hs4, hs5, -⟩ := id hW5
              refine V.iincN (n := 1) dX4_findNext_116 rfl rfl rfl ?_
              dsimp only [List.set]
              refine V.iincN (n := 1) dX4_findNext_119 rfl rfl rfl ?_
              dsimp only [List.set]
              refine V.goto 7 dX4_findNext_122 (by decide) ?_
              have hM2 := hM1.add (k := c9) (e := e) (sd := sd) z3 hz9 he81 hb1.2.1 (by omega) hadd.1 l1 l2 l3 l4
              exact ih (sd + 1) (by omega) (by omega) _ _ _ _ _ _ _ _ _ _ hW5 hM2 (by have q := hadd.2; rw [he1] at q; exact q) (by omega) (by rw [show up1 fs n1 c9 i = fs i from if_neg (by omega)]; exact he1) hg5
      · skip
        have hcs := hc2
        refine V.goto 119 dX4_findNext_23 (by decide) ?_
        refine V.iincN (n := 1) dX4_findNext_119 rfl rfl rfl ?_
        dsimp only [List.set]
        refine V.goto 7 dX4_findNext_122 (by decide) ?_
        exact ih (sd + 1) (by omega) (by omega) _ _ _ _ _ _ _ _ _ _ hW1 hM1 (bfs_no hF1 (fun c q => by rw [he1, stp_none hcs] at q; cases q)) hi1 he1 hf1
  show V _ _ 0 [some (.ref s), some (.ref r), some (.int (nI p)), some (.int (nI e)), some (.int (nI n)), none, none, none] [] h
  refine V.iload dX4_findNext_0 rfl ?_
  refine V.istore dX4_findNext_2 rfl rfl ?_
  dsimp only [List.set]
  refine V.iconst (v := nI 0) dX4_findNext_4 (by decide) ?_
  refine V.istore dX4_findNext_5 rfl rfl ?_
  dsimp only [List.set]
  exact L 0 (by omega) h fs cd cf n ff cc bb dd none hW hM hF hi he VFr.rf
