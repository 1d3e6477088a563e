/-! MARRY -/
abbrev Mt : Type := Nat → Option Nat
def nowF (S : Rm) (M : Mt) (p : Nat) : Int := match M p with
  | none => 0
  | some b => rL S p b
abbrev rathF (S : Rm) (M : Mt) (p q : Nat) : Prop := nowF S M p < rL S p q
abbrev leavF (S : Rm) (M : Mt) (p q : Nat) : Prop := M p ≠ some q ∧ rathF S M p q ∧ rathF S M q p
/-- none of two who would leave -/
abbrev stabF (S : Rm) (M : Mt) : Prop := ∀ p, p < rN S → ∀ q, q < rN S → p < q → ¬ leavF S M p q
def setM (M : Mt) (p q : Nat) : Mt := fun a => if a = p then some q else if a = q then some p else M a
abbrev freeP (S : Rm) (M : Mt) (p q : Nat) : Prop := M q = none ∧ 0 < rL S p q ∧ 0 < rL S q p
def tryG (f : Mt → Option Mt) (S : Rm) (M : Mt) (p : Nat) : Nat → Option Mt
  | 0 => f M
  | e + 1 => if freeP S M p (rN S - (e + 1)) then (f (setM M p (rN S - (e + 1)))).or (tryG f S M p e) else tryG f S M p e
/-- the first way from p = rN S - d on -/
def pairF (S : Rm) : Nat → Mt → Option Mt
  | 0, M => if stabF S M then some M else none
  | d + 1, M => if M (rN S - (d + 1)) = none then tryG (pairF S d) S M (rN S - (d + 1)) d else pairF S d M
theorem try_0 {f : Mt → Option Mt} {S : Rm} {M : Mt} {p : Nat} : tryG f S M p 0 = f M := rfl
theorem try_yes {f : Mt → Option Mt} {S : Rm} {M : Mt} {p e q : Nat} (hq : q + (e + 1) = rN S) (h : freeP S M p q) : tryG f S M p (e + 1) = (f (setM M p q)).or (tryG f S M p e) := by
  have e1 : rN S - (e + 1) = q := by omega
  simp only [tryG]
  rw [e1, if_pos h]
theorem try_no {f : Mt → Option Mt} {S : Rm} {M : Mt} {p e q : Nat} (hq : q + (e + 1) = rN S) (h : ¬ freeP S M p q) : tryG f S M p (e + 1) = tryG f S M p e := by
  have e1 : rN S - (e + 1) = q := by omega
  simp only [tryG]
  rw [e1, if_neg h]
theorem pair_free {S : Rm} {M : Mt} {p d : Nat} (hp : p + (d + 1) = rN S) (h : M p = none) : pairF S (d + 1) M = tryG (pairF S d) S M p d := by
  have e1 : rN S - (d + 1) = p := by omega
  simp only [pairF]
  rw [e1, if_pos h]
theorem pair_set {S : Rm} {M : Mt} {p d : Nat} (hp : p + (d + 1) = rN S) (h : M p ≠ none) : pairF S (d + 1) M = pairF S d M := by
  have e1 : rN S - (d + 1) = p := by omega
  simp only [pairF]
  rw [e1, if_neg h]
/-- mates are people -/
def MtB (S : Rm) (M : Mt) : Prop := ∀ a b, M a = some b → b < rN S
theorem MtB.set {S : Rm} {M : Mt} (w : MtB S M) {p q : Nat} (hp : p < rN S) (hq : q < rN S) : MtB S (setM M p q) := by
  intro a b h
  unfold setM at h
  split at h
  · cases h; exact hq
  · split at h
    · cases h; exact hp
    · exact w a b h
def a_marryO (S : Rm) (o : Option Mt) (p : Int) : Int32 := match o with
  | none => iI (-4)
  | some R => if p = -1 then nI (cntP (fun a => R a ≠ none) (rN S)) else eO (R p.toNat)
def a_marry (T : Sy) (p : Int) : Int32 := if p = -1 ∨ isP T p then a_marryO (tS T) (pairF (tS T) (rN (tS T)) (fun _ => none)) p else iI (-1)
/-- the row of mates holds M -/
def MtAt (h : VHp) (a : Nat) (M : Mt) : Prop := ∃ ml : List Int32, h[a]? = some (.inl ml) ∧ ml.length = 6 ∧ ∀ i, i < 6 → ml[i]? = some (eO (M i))
theorem mt_none {S : Rm} {M : Mt} (w : MtB S M) (hn : rN S ≤ 6) (i : Nat) : ∀ b, M i = some b → b < 1000 := fun b h => by have := w i b h; omega
theorem mt_set {ml : List Int32} {M M' : Mt} {x : Int32} {i : Nat} (h : ∀ j, j < 6 → ml[j]? = some (eO (M j))) (hl : ml.length = 6) (hi : i < 6) (h1 : x = eO (M' i)) (h2 : ∀ j, j ≠ i → M' j = M j) : ∀ j, j < 6 → (ml.set i x)[j]? = some (eO (M' j)) := by
  intro j hj
  by_cases e : j = i
  · rw [e, List.getElem?_set_self (by omega), h1]
  · rw [List.getElem?_set_ne (by omega), h2 j e]; exact h j hj
def upM (M : Mt) (i : Nat) (x : Option Nat) : Mt := fun j => if j = i then x else M j
theorem upM_s {M : Mt} {i : Nat} {x : Option Nat} : upM M i x i = x := if_pos rfl
theorem upM_n {M : Mt} {i j : Nat} {x : Option Nat} (h : j ≠ i) : upM M i x j = M j := if_neg h
theorem set_up {M : Mt} {p q : Nat} (h : p ≠ q) : upM (upM M p (some q)) q (some p) = setM M p q := by
  funext a
  unfold upM setM
  by_cases e : a = q
  · rw [if_pos e, if_neg (by omega), if_pos e]
  · rw [if_neg e]
    by_cases e2 : a = p
    · rw [if_pos e2, if_pos e2]
    · rw [if_neg e2, if_neg e2, if_neg e]
theorem set_back {M : Mt} {p q : Nat} (hp : M p = none) (hq : M q = none) : upM (upM (setM M p q) p none) q none = M := by
  funext a
  unfold upM setM
  by_cases e : a = q
  · rw [if_pos e, e, hq]
  · rw [if_neg e]
    by_cases e2 : a = p
    · rw [if_pos e2, e2, hp]
    · rw [if_neg e2, if_neg e2, if_neg e]
def PfPost (a : Nat) (M : Mt) (res : Option Mt) (h : VHp) : VPost := fun v h' => v = some (.int (vB (res.isSome = true))) ∧ MtAt h' a (res.getD M) ∧ VFr a (a + 1) h h'

set_option maxHeartbeats 1000000 in
theorem e_wouldRather (g : VG) (h : VHp) (r a : Nat) (S : Rm) (hR : RoomAt h r S) (hB : RmB S) (M : Mt) (hMt : MtAt h a M) (hMb : MtB S M) (p q : Nat) (hp : p < rN S) (hq : q < rN S) : VE g mX0_wouldRather 1 false (0, 0) [.ref r, .ref a, .int (nI p), .int (nI q)] h (VP (vB (rathF S M p q)) h) := by
  obtain ⟨ml, hma, hml, hme⟩ := id hMt
  obtain ⟨kd, xs, ys, vs, ll, ho, hk, hx, hy, hv, hl, lk, lx, ly, lv, lL, ek, ex, ey, ev, eL⟩ := id hR
  obtain ⟨bn, bW, bH, bP, bL⟩ := id hB
  have hmn := mt_none hMb bn
  have bpq := bL p q
  refine VE.of (by decide) rfl (Nat.le_of_ble_eq_true rfl) ?_
  cases hmp : M p with
  | none =>
    show V _ _ 0 [some (.ref r), some (.ref a), some (.int (nI p)), some (.int (nI q)), none] [] h
    refine V.aload_n dX0_wouldRather_0 rfl ?_
    refine V.iload_n dX0_wouldRather_1 rfl ?_
    refine V.iald dX0_wouldRather_2 hma rfl (by omega) (show _ = some (iI (-4)) by rw [hme _ (by omega), hmp]; rfl) ?_
    refine V.bipush (v := iI (-4)) dX0_wouldRather_3 (by decide) ?_
    refine V.icmp_neZ 12 dX0_wouldRather_5 (by decide) (by omega) (by omega) (fun hc1 => ?_) (fun hc1 => ?_)
    · exact absurd rfl hc1
    · skip
      refine V.iconst (v := nI 0) dX0_wouldRather_8 (by decide) ?_
      refine V.goto 20 dX0_wouldRather_9 (by decide) ?_
      refine V.istore dX0_wouldRather_20 rfl rfl ?_
      dsimp only [List.set]
      refine V.aload_n dX0_wouldRather_22 rfl ?_
      refine V.iload_n dX0_wouldRather_23 rfl ?_
      refine V.iload_n dX0_wouldRather_24 rfl ?_
      refine V.callVp (ci := 3) cX0_29 (e_leaningOf g h r S hR hB p q (by omega) (by omega)) dX0_wouldRather_25 (Nat.le_of_ble_eq_true rfl) rfl ho rfl rfl (Nat.le_of_ble_eq_true rfl) ?_
      refine V.iload dX0_wouldRather_28 rfl ?_
      refine V.toZ1 ?_
      refine V.icmp_leZ 37 dX0_wouldRather_30 (by decide) (by omega) (by omega) (fun hc2 => ?_) (fun hc2 => ?_)
      · skip
        refine V.iconst (v := nI 0) dX0_wouldRather_37 (by decide) ?_
        have en : nowF S M p = 0 := by unfold nowF; rw [hmp]
        exact V.zret dX0_wouldRather_38 rfl (by decide) ⟨by first | (rw [vB_t (by rw [rathF, en]; omega)]; rfl) | (rw [vB_f (by rw [rathF, en]; omega)]; rfl), rfl⟩
      · skip
        refine V.iconst (v := nI 1) dX0_wouldRather_33 (by decide) ?_
        refine V.goto 38 dX0_wouldRather_34 (by decide) ?_
        have en : nowF S M p = 0 := by unfold nowF; rw [hmp]
        exact V.zret dX0_wouldRather_38 rfl (by decide) ⟨by first | (rw [vB_t (by rw [rathF, en]; omega)]; rfl) | (rw [vB_f (by rw [rathF, en]; omega)]; rfl), rfl⟩
  | some b =>
    have hb := hMb p b hmp
    have bpb := bL p b
    show V _ _ 0 [some (.ref r), some (.ref a), some (.int (nI p)), some (.int (nI q)), none] [] h
    refine V.aload_n dX0_wouldRather_0 rfl ?_
    refine V.iload_n dX0_wouldRather_1 rfl ?_
    refine V.iald dX0_wouldRather_2 hma rfl (by omega) (show _ = some (nI b) by rw [hme _ (by omega), hmp]; rfl) ?_
    refine V.bipush (v := iI (-4)) dX0_wouldRather_3 (by decide) ?_
    refine V.toZ2 ?_
    refine V.icmp_neZ 12 dX0_wouldRather_5 (by decide) (by omega) (by omega) (fun hc1 => ?_) (fun hc1 => ?_)
    · skip
      refine V.aload_n dX0_wouldRather_12 rfl ?_
      refine V.iload_n dX0_wouldRather_13 rfl ?_
      refine V.aload_n dX0_wouldRather_14 rfl ?_
      refine V.iload_n dX0_wouldRather_15 rfl ?_
      refine V.iald dX0_wouldRather_16 hma rfl (by omega) (show _ = some (nI b) by rw [hme _ (by omega), hmp]; rfl) ?_
      refine V.callVp (ci := 3) cX0_29 (e_leaningOf g h r S hR hB p b (by omega) (by omega)) dX0_wouldRather_17 (Nat.le_of_ble_eq_true rfl) rfl ho rfl rfl (Nat.le_of_ble_eq_true rfl) ?_
      refine V.istore dX0_wouldRather_20 rfl rfl ?_
      dsimp only [List.set]
      refine V.aload_n dX0_wouldRather_22 rfl ?_
      refine V.iload_n dX0_wouldRather_23 rfl ?_
      refine V.iload_n dX0_wouldRather_24 rfl ?_
      refine V.callVp (ci := 3) cX0_29 (e_leaningOf g h r S hR hB p q (by omega) (by omega)) dX0_wouldRather_25 (Nat.le_of_ble_eq_true rfl) rfl ho rfl rfl (Nat.le_of_ble_eq_true rfl) ?_
      refine V.iload dX0_wouldRather_28 rfl ?_
      refine V.icmp_leZ 37 dX0_wouldRather_30 (by decide) (by omega) (by omega) (fun hc2 => ?_) (fun hc2 => ?_)
      · skip
        refine V.iconst (v := nI 0) dX0_wouldRather_37 (by decide) ?_
        have en : nowF S M p = rL S p b := by unfold nowF; rw [hmp]
        exact V.zret dX0_wouldRather_38 rfl (by decide) ⟨by first | (rw [vB_t (by rw [rathF, en]; omega)]; rfl) | (rw [vB_f (by rw [rathF, en]; omega)]; rfl), rfl⟩
      · skip
        refine V.iconst (v := nI 1) dX0_wouldRather_33 (by decide) ?_
        refine V.goto 38 dX0_wouldRather_34 (by decide) ?_
        have en : nowF S M p = rL S p b := by unfold nowF; rw [hmp]
        exact V.zret dX0_wouldRather_38 rfl (by decide) ⟨by first | (rw [vB_t (by rw [rathF, en]; omega)]; rfl) | (rw [vB_f (by rw [rathF, en]; omega)]; rfl), rfl⟩
    · exact absurd hc1 (by omega)

def stI (S : Rm) (M : Mt) (p q : Nat) : Prop := ∀ p' q', p' < rN S → q' < rN S → p' < q' → (p' < p ∨ (p' = p ∧ q' < q)) → ¬ leavF S M p' q'
theorem stI_step {S : Rm} {M : Mt} {p q : Nat} (h : stI S M p q) (hn : ¬ leavF S M p q) : stI S M p (q + 1) := by
  intro p' q' h1 h2 h3 h4
  by_cases e : p' = p ∧ q' = q
  · rw [e.1, e.2]; exact hn
  · exact h p' q' h1 h2 h3 (by omega)
theorem stI_next {S : Rm} {M : Mt} {p q : Nat} (h : stI S M p q) (hq : rN S ≤ q) : stI S M (p + 1) (p + 1 + 1) := by
  intro p' q' h1 h2 h3 h4
  exact h p' q' h1 h2 h3 (by omega)

set_option maxHeartbeats 1000000 in
theorem e_nobody (g : VG) (h : VHp) (r a : Nat) (S : Rm) (hR : RoomAt h r S) (hB : RmB S) (M : Mt) (hMt : MtAt h a M) (hMb : MtB S M) : VE g mX0_nobodyWouldLeave 2 false (0, 0) [.ref r, .ref a] h (VP (vB (stabF S M)) h) := by
  obtain ⟨ml, hma, hml, hme⟩ := id hMt
  obtain ⟨kd, xs, ys, vs, ll, ho, hk, hx, hy, hv, hl, lk, lx, ly, lv, lL, ek, ex, ey, ev, eL⟩ := id hR
  obtain ⟨bn, bW, bH, bP, bL⟩ := id hB
  have hmn := mt_none hMb bn
  refine VE.of (by decide) rfl (Nat.le_of_ble_eq_true rfl) ?_
  have L : ∀ p, p ≤ rN S → ∀ v3 : Option Value, stI S M p (p + 1) → V (g, mX0_nobodyWouldLeave, 2, false, h.length, VP (vB (stabF S M)) h) (0, 0) 2 [some (.ref r), some (.ref a), some (.int (nI p)), v3] [] h := by
    refine vloop (rN S) (fun p ih hi => ?_)
    intro v3 hst
    have LI : p < rN S → ∀ q, q ≤ rN S → p + 1 ≤ q → stI S M p q → V (g, mX0_nobodyWouldLeave, 2, false, h.length, VP (vB (stabF S M)) h) (0, 0) 14 [some (.ref r), some (.ref a), some (.int (nI p)), some (.int (nI q))] [] h := by
      intro hpn
      refine vloop (rN S) (fun q ih2 hi2 => ?_)
      intro hpq hst
      refine V.iload_n dX0_nobodyWouldLeave_14 rfl ?_
      refine V.aload_n dX0_nobodyWouldLeave_15 rfl ?_
      refine V.get fX0_19 dX0_nobodyWouldLeave_16 ho rfl ?_
      refine V.icmp_geN 57 dX0_nobodyWouldLeave_19 (by decide) (by omega) (by omega) (fun hc1 => ?_) (fun hc1 => ?_)
      · skip
        refine V.iincN (n := 1) dX0_nobodyWouldLeave_57 rfl rfl rfl ?_
        dsimp only [List.set]
        refine V.goto 2 dX0_nobodyWouldLeave_60 (by decide) ?_
        exact ih (p + 1) (by omega) (by omega) _ (stI_next hst (by omega))
      · skip
        refine V.aload_n dX0_nobodyWouldLeave_22 rfl ?_
        refine V.iload_n dX0_nobodyWouldLeave_23 rfl ?_
        refine V.iald dX0_nobodyWouldLeave_24 hma rfl (by omega) (hme _ (by omega)) ?_
        refine V.iload_n dX0_nobodyWouldLeave_25 rfl ?_
        refine V.icmp_eq 51 dX0_nobodyWouldLeave_26 (by decide) (fun hc2 => ?_) (fun hc2 => ?_)
        · skip
          have heq : M p = some q := (eO_some (hmn p) (by omega)).mp hc2
          refine V.iincN (n := 1) dX0_nobodyWouldLeave_51 rfl rfl rfl ?_
          dsimp only [List.set]
          refine V.goto 14 dX0_nobodyWouldLeave_54 (by decide) ?_
          exact ih2 (q + 1) (by omega) (by omega) (by omega) (stI_step hst (by first | exact (fun z => z.1 heq) | exact (fun z => hr1 z.2.1) | exact (fun z => hr2 z.2.2)))
        · skip
          have hne : M p ≠ some q := fun z => hc2 ((eO_some (hmn p) (by omega)).mpr z)
          refine V.aload_n dX0_nobodyWouldLeave_29 rfl ?_
          refine V.aload_n dX0_nobodyWouldLeave_30 rfl ?_
          refine V.iload_n dX0_nobodyWouldLeave_31 rfl ?_
          refine V.iload_n dX0_nobodyWouldLeave_32 rfl ?_
          refine V.callSp cX0_33 (e_wouldRather g h r a S hR hB M hMt hMb p q (by omega) (by omega)) dX0_nobodyWouldLeave_33 (Nat.le_of_ble_eq_true rfl) rfl rfl (Nat.le_of_ble_eq_true rfl) ?_
          refine V.if_eqB 51 dX0_nobodyWouldLeave_36 (by decide) (fun hc3 => ?_) (fun hc3 => ?_)
          · skip
            have hr1 := hc3
            refine V.iincN (n := 1) dX0_nobodyWouldLeave_51 rfl rfl rfl ?_
            dsimp only [List.set]
            refine V.goto 14 dX0_nobodyWouldLeave_54 (by decide) ?_
            exact ih2 (q + 1) (by omega) (by omega) (by omega) (stI_step hst (by first | exact (fun z => z.1 heq) | exact (fun z => hr1 z.2.1) | exact (fun z => hr2 z.2.2)))
          · skip
            have hr1 := hc3
            refine V.aload_n dX0_nobodyWouldLeave_39 rfl ?_
            refine V.aload_n dX0_nobodyWouldLeave_40 rfl ?_
            refine V.iload_n dX0_nobodyWouldLeave_41 rfl ?_
            refine V.iload_n dX0_nobodyWouldLeave_42 rfl ?_
            refine V.callSp cX0_33 (e_wouldRather g h r a S hR hB M hMt hMb q p (by omega) (by omega)) dX0_nobodyWouldLeave_43 (Nat.le_of_ble_eq_true rfl) rfl rfl (Nat.le_of_ble_eq_true rfl) ?_
            refine V.if_eqB 51 dX0_nobodyWouldLeave_46 (by decide) (fun hc4 => ?_) (fun hc4 => ?_)
            · skip
              have hr2 := hc4
              refine V.iincN (n := 1) dX0_nobodyWouldLeave_51 rfl rfl rfl ?_
              dsimp only [List.set]
              refine V.goto 14 dX0_nobodyWouldLeave_54 (by decide) ?_
              exact ih2 (q + 1) (by omega) (by omega) (by omega) (stI_step hst (by first | exact (fun z => z.1 heq) | exact (fun z => hr1 z.2.1) | exact (fun z => hr2 z.2.2)))
            · skip
              have hr2 := hc4
              refine V.iconst (v := nI 0) dX0_nobodyWouldLeave_49 (by decide) ?_
              exact V.zret dX0_nobodyWouldLeave_50 rfl (by decide) ⟨by rw [vB_f (fun z => z p hpn q (by omega) (by omega) ⟨hne, hr1, hr2⟩)]; rfl, rfl⟩
    refine V.iload_n dX0_nobodyWouldLeave_2 rfl ?_
    refine V.aload_n dX0_nobodyWouldLeave_3 rfl ?_
    refine V.get fX0_19 dX0_nobodyWouldLeave_4 ho rfl ?_
    refine V.icmp_geN 63 dX0_nobodyWouldLeave_7 (by decide) (by omega) (by omega) (fun hc1 => ?_) (fun hc1 => ?_)
    · skip
      refine V.iconst (v := nI 1) dX0_nobodyWouldLeave_63 (by decide) ?_
      exact V.zret dX0_nobodyWouldLeave_64 rfl (by decide) ⟨by rw [vB_t (fun p1 h1 q1 h2 h3 => hst p1 q1 h1 h2 h3 (by omega))]; rfl, rfl⟩
    · skip
      refine V.iload_n dX0_nobodyWouldLeave_10 rfl ?_
      refine V.iconst (v := nI 1) dX0_nobodyWouldLeave_11 (by decide) ?_
      refine V.iaddN dX0_nobodyWouldLeave_12 ?_
      refine V.istore_n (i := 3) dX0_nobodyWouldLeave_13 rfl rfl rfl ?_
      dsimp only [List.set]
      by_cases hq9 : p + 1 ≤ rN S
      · exact LI (by omega) (p + 1) hq9 (by omega) hst
      · exact absurd hq9 (by omega)
  show V _ _ 0 [some (.ref r), some (.ref a), none, none] [] h
  refine V.iconst (v := nI 0) dX0_nobodyWouldLeave_0 (by decide) ?_
  refine V.istore_n (i := 2) dX0_nobodyWouldLeave_1 rfl rfl rfl ?_
  dsimp only [List.set]
  exact L 0 (by omega) none (fun p' q' _ _ h3 h4 => absurd h4 (by omega))
