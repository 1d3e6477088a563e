/-- where p may be: in the room, nobody else there -/
abbrev accF (S : Rm) (p c : Nat) : Prop := inF S ((c / 9 : Nat) : Int) ((c % 9 : Nat) : Int) ∧ (whoF S (c / 9) (c % 9) (rN S) = none ∨ whoF S (c / 9) (c % 9) (rN S) = some p)
theorem who_iff {S : Rm} {x y : Nat} : whoF S x y (rN S) = none ↔ ∀ q, q < rN S → ¬ (rX S q = x ∧ rY S q = y) := by
  constructor
  · intro h; exact whoF_none h
  · intro h
    cases hw : whoF S x y (rN S) with
    | none => rfl
    | some j => have z := whoF_lt hw; exact absurd z.2 (h j z.1)
theorem who_or {S : Rm} (hD : RmD S) {x y p : Nat} : (whoF S x y (rN S) = none ∨ whoF S x y (rN S) = some p) ↔ ∀ q, q < rN S → q ≠ p → ¬ (rX S q = x ∧ rY S q = y) := by
  constructor
  · intro h q hq hne z
    rcases h with h | h
    · exact whoF_none h q hq z
    · have w := whoF_lt h
      exact hne (hD q p hq w.1 (by omega) (by omega))
  · intro h
    cases hw : whoF S x y (rN S) with
    | none => exact Or.inl rfl
    | some j =>
      have z := whoF_lt hw
      by_cases e : j = p
      · exact Or.inr (by rw [e])
      · exact absurd z.2 (h j z.1 e)
theorem d_ne : ∀ sd, sd < 4 → dxF sd ≠ 0 ∨ dyF sd ≠ 0 := by decide +kernel
theorem can_acc {S : Rm} (hB : RmB S) (hD : RmD S) {p c sd : Nat} (hs : sd < 4) : canF (rPut S p (c / 9) (c % 9)) p sd ↔ ((0 ≤ (((c / 9 : Nat) : Int) + dxF sd) ∧ (((c / 9 : Nat) : Int) + dxF sd) ≤ 8) ∧ 0 ≤ (((c % 9 : Nat) : Int) + dyF sd) ∧ (((c % 9 : Nat) : Int) + dyF sd) ≤ 8) ∧ accF S p ((((c / 9 : Nat) : Int) + dxF sd).toNat * 9 + (((c % 9 : Nat) : Int) + dyF sd).toNat) := by
  have bw := hB.2.1
  have bh := hB.2.2.1
  have hx : sxF (rPut S p (c / 9) (c % 9)) p sd = (((c / 9 : Nat) : Int) + dxF sd) := by unfold sxF; rw [put_x]
  have hy : syF (rPut S p (c / 9) (c % 9)) p sd = (((c % 9 : Nat) : Int) + dyF sd) := by unfold syF; rw [put_y]
  have key : ((0 ≤ (((c / 9 : Nat) : Int) + dxF sd) ∧ (((c / 9 : Nat) : Int) + dxF sd) ≤ 8) ∧ 0 ≤ (((c % 9 : Nat) : Int) + dyF sd) ∧ (((c % 9 : Nat) : Int) + dyF sd) ≤ 8) → ((((c / 9 : Nat) : Int) + dxF sd).toNat * 9 + (((c % 9 : Nat) : Int) + dyF sd).toNat) / 9 = (((c / 9 : Nat) : Int) + dxF sd).toNat ∧ ((((c / 9 : Nat) : Int) + dxF sd).toNat * 9 + (((c % 9 : Nat) : Int) + dyF sd).toNat) % 9 = (((c % 9 : Nat) : Int) + dyF sd).toNat := by intro q; omega
  constructor
  · intro h
    have h1 := h.1
    rw [hx, hy] at h1
    have r1 : 0 ≤ (((c / 9 : Nat) : Int) + dxF sd) ∧ (((c / 9 : Nat) : Int) + dxF sd) < (rW S : Nat) := h1.1
    have r2 : 0 ≤ (((c % 9 : Nat) : Int) + dyF sd) ∧ (((c % 9 : Nat) : Int) + dyF sd) < (rH S : Nat) := h1.2
    have h2 := h.2
    rw [hx, hy] at h2
    have bd : (0 ≤ (((c / 9 : Nat) : Int) + dxF sd) ∧ (((c / 9 : Nat) : Int) + dxF sd) ≤ 8) ∧ 0 ≤ (((c % 9 : Nat) : Int) + dyF sd) ∧ (((c % 9 : Nat) : Int) + dyF sd) ≤ 8 := by omega
    have k := key bd
    refine ⟨bd, ⟨⟨by omega, by omega⟩, by omega, by omega⟩, ?_⟩
    rw [k.1, k.2, who_or hD]
    intro q hq hqp e
    have e1 : rX (rPut S p (c / 9) (c % 9)) q = rX S q := if_neg hqp
    have e2 : rY (rPut S p (c / 9) (c % 9)) q = rY S q := if_neg hqp
    exact (who_iff (S := rPut S p (c / 9) (c % 9))).mp h2 q hq (by rw [e1, e2]; exact e)
  · intro ⟨bd, ha, hw⟩
    have k := key bd
    rw [k.1, k.2] at ha hw
    rw [who_or hD] at hw
    refine ⟨?_, ?_⟩
    · rw [hx, hy]
      have a1 := ha.1
      have a2 := ha.2
      exact ⟨⟨by omega, by show (((c / 9 : Nat) : Int) + dxF sd) < (rW S : Nat); omega⟩, by omega, by show (((c % 9 : Nat) : Int) + dyF sd) < (rH S : Nat); omega⟩
    · rw [hx, hy]
      refine (who_iff (S := rPut S p (c / 9) (c % 9))).mpr (fun q hq e => ?_)
      by_cases hqp : q = p
      · subst hqp
        rw [put_x, put_y] at e
        have := d_ne sd hs
        omega
      · have e1 : rX (rPut S p (c / 9) (c % 9)) q = rX S q := if_neg hqp
        have e2 : rY (rPut S p (c / 9) (c % 9)) q = rY S q := if_neg hqp
        rw [e1, e2] at e
        exact hw q hq hqp e
/-- what holds of far while it is measured -/
def FarI (S : Rm) (p w : Nat) (fv : Nat → Int) : Prop := (∀ c, c < 81 → (accF S p c → (0 ≤ fv c ∧ fv c ≤ 999) ∧ (fv c = 0 ↔ golF S p w c)) ∧ (¬ accF S p c → fv c = -1)) ∧ ∀ c, c < 81 → accF S p c → 0 < fv c → fv c < 999 → ∃ s c', s < 4 ∧ stpF S p c s = some c' ∧ fv c' + 1 ≤ fv c
/-- nothing is nearer by a step, up to here -/
def FarX (S : Rm) (p : Nat) (fv : Nat → Int) (c sd : Nat) : Prop := ∀ e s e', e < 81 → s < 4 → (e < c ∨ (e = c ∧ s < sd)) → accF S p e → stpF S p e s = some e' → fv e ≤ fv e' + 1
def f1F (S : Rm) (p c : Nat) : Int := if accF S p c then 999 else -1
def f2F (S : Rm) (p w c : Nat) : Int := if accF S p c then (if draftF (rPut S p (c / 9) (c % 9)) p = some w then 0 else 999) else -1
theorem far_I0 {S : Rm} {p w : Nat} : FarI S p w (f2F S p w) := by
  refine ⟨fun c hc => ⟨fun ha => ?_, fun hn => if_neg hn⟩, fun c hc ha h1 h2 => ?_⟩
  · unfold f2F golF
    rw [if_pos ha]
    by_cases e : draftF (rPut S p (c / 9) (c % 9)) p = some w
    · rw [if_pos e]; exact ⟨by omega, fun _ => e, fun _ => rfl⟩
    · rw [if_neg e]; exact ⟨by omega, fun u => absurd u (by omega), fun u => absurd u e⟩
  · unfold f2F at h1 h2
    rw [if_pos ha] at h1 h2
    by_cases e : draftF (rPut S p (c / 9) (c % 9)) p = some w
    · rw [if_pos e] at h1; omega
    · rw [if_neg e] at h2; omega
theorem stp_acc {S : Rm} (hB : RmB S) (hD : RmD S) {p c s c' : Nat} (hs : s < 4) (h : stpF S p c s = some c') : c' < 81 ∧ accF S p c' := by
  have z := stp_some hB h
  have q := (can_acc hB hD hs).mp z.1
  rw [stp_can z.1] at h
  rw [← Option.some.inj h]
  refine ⟨?_, q.2⟩
  have := z.2.2.2.1
  rw [← Option.some.inj h] at this
  exact this
def upZ (f : Nat → Int) (i : Nat) (x : Int) : Nat → Int := fun j => if j = i then x else f j
theorem far_up {S : Rm} (hB : RmB S) (hD : RmD S) {p w c s c' : Nat} {fv : Nat → Int} (f : FarI S p w fv) (hc : c < 81) (ha : accF S p c) (hs : s < 4) (he : stpF S p c s = some c') (hl : fv c' + 1 < fv c) : FarI S p w (upZ fv c (fv c' + 1)) := by
  have z := stp_acc hB hD hs he
  have g1 := ((f.1 c hc).1 ha)
  have g2 := ((f.1 c' z.1).1 z.2)
  have hne : c' ≠ c := fun e => by rw [e] at hl; omega
  have us : upZ fv c (fv c' + 1) c = fv c' + 1 := if_pos rfl
  have un : ∀ x, x ≠ c → upZ fv c (fv c' + 1) x = fv x := fun x hx => if_neg hx
  refine ⟨fun x hx => ?_, fun x hx hax h1 h2 => ?_⟩
  · by_cases e : x = c
    · rw [e, us]
      exact ⟨fun _ => ⟨by omega, ⟨fun u => absurd u (by omega), fun u => absurd (g1.2.mpr u) (by omega)⟩⟩, fun u => absurd ha u⟩
    · rw [un x e]; exact f.1 x hx
  · by_cases e : x = c
    · rw [e]; exact ⟨s, c', hs, he, by rw [us, un c' hne]; exact Int.le_refl _⟩
    · rw [un x e] at h1 h2 ⊢
      obtain ⟨s2, c2, q1, q2, q3⟩ := f.2 x hx hax h1 h2
      refine ⟨s2, c2, q1, q2, ?_⟩
      by_cases e2 : c2 = c
      · rw [e2, us]; rw [e2] at q3; omega
      · rw [un c2 e2]; exact q3
def sumZ (f : Nat → Int) : Nat → Nat
  | 0 => 0
  | n + 1 => sumZ f n + (f n + 1).toNat
theorem sumZ_up {f : Nat → Int} {c : Nat} {x : Int} (hx : 0 ≤ x) (hl : x < f c) : ∀ n, (n ≤ c → sumZ (upZ f c x) n = sumZ f n) ∧ (c < n → sumZ (upZ f c x) n < sumZ f n)
  | 0 => ⟨fun _ => rfl, fun h => by omega⟩
  | n + 1 => by
    have ih := sumZ_up hx hl n
    simp only [sumZ]
    by_cases e : n = c
    · have e1 : upZ f c x n = x := if_pos e
      rw [e1, ih.1 (by omega), e]
      exact ⟨fun h => by omega, fun _ => by omega⟩
    · have e1 : upZ f c x n = f n := if_neg e
      rw [e1]
      exact ⟨fun h => by rw [ih.1 (by omega)], fun h => by have := ih.2 (by omega); omega⟩
theorem far_G {S : Rm} (hB : RmB S) (hD : RmD S) {p w c0 : Nat} {fv : Nat → Int} (f : FarI S p w fv) (x : FarX S p fv 81 0) (h0 : c0 < 81) (ha : accF S p c0) : FarG (stpF S p) c0 (golF S p w) (fun c => c < 81 ∧ accF S p c) (fun c => (fv c).toNat) := by
  refine ⟨⟨h0, ha⟩, fun c hc => ?_, fun c hc h1 h2 => ?_, fun c s c' hc hs he => ?_⟩
  · have g := (f.1 c hc.1).1 hc.2
    show c < 81 ∧ (fv c).toNat ≤ 999 ∧ ((fv c).toNat = 0 ↔ golF S p w c)
    exact ⟨hc.1, by omega, ⟨fun u => g.2.mp (by omega), fun u => by have := g.2.mpr u; omega⟩⟩
  · have g := (f.1 c hc.1).1 hc.2
    replace h1 : 0 < (fv c).toNat := h1
    replace h2 : (fv c).toNat < 999 := h2
    obtain ⟨s, c', q1, q2, q3⟩ := f.2 c hc.1 hc.2 (by omega) (by omega)
    have z := stp_acc hB hD q1 q2
    have g2 := (f.1 c' z.1).1 z.2
    have q4 := x c s c' hc.1 q1 (Or.inl hc.1) hc.2 q2
    refine ⟨s, c', q1, q2, ?_⟩
    show (fv c').toNat + 1 = (fv c).toNat
    omega
  · have z := stp_acc hB hD hs he
    have g := (f.1 c hc.1).1 hc.2
    have g2 := (f.1 c' z.1).1 z.2
    have q4 := x c s c' hc.1 hs (Or.inl hc.1) hc.2 he
    refine ⟨z, ?_⟩
    show (fv c).toNat ≤ (fv c').toNat + 1
    omega

set_option maxHeartbeats 1000000 in
theorem m_beside (g : VG) (h : VHp) (m : Nat) (F : MF) (A : MA) (hw : MRaw h m F A) (S : Rm) (hB : RmB S) (hD : RmD S) (p w : Nat) (fv : Nat → Int) (hfv : ∀ k, k < 81 → (A 10)[k]? = some (iI (fv k))) (hI : FarI S p w fv) (c sd : Nat) (hc : c < 81) (hs : sd < 4) : VE g mX8_beside 1 false (0, 0) [.ref m, .int (nI c), .int (nI sd)] h (VP (eO (stpF S p c sd)) h) := by
  obtain ⟨ho, hA⟩ := id hw
  obtain ⟨bn, bW, bH, bP, bL⟩ := id hB
  have dx := dx_bd sd
  have dy := dy_bd sd
  have hca := can_acc hB hD (p := p) (c := c) hs
  refine VE.of (by decide) rfl (Nat.le_of_ble_eq_true rfl) ?_
  show V _ _ 0 [some (.ref m), some (.int (nI c)), some (.int (nI sd)), none, none] [] h
  refine V.iload_n dX8_beside_0 rfl ?_
  refine V.bipush (v := nI 9) dX8_beside_1 (by decide) ?_
  refine V.idivN dX8_beside_3 (by omega) (by omega) (by omega) ?_
  refine V.iload_n dX8_beside_4 rfl ?_
  refine V.callSp cX8_138 (m_eastBy g h sd hs) dX8_beside_5 (Nat.le_of_ble_eq_true rfl) rfl rfl (Nat.le_of_ble_eq_true rfl) ?_
  refine V.toZ2 ?_
  refine V.iaddZ dX8_beside_8 ?_
  refine V.istore_n (i := 3) dX8_beside_9 rfl rfl rfl ?_
  dsimp only [List.set]
  refine V.iload_n dX8_beside_10 rfl ?_
  refine V.bipush (v := nI 9) dX8_beside_11 (by decide) ?_
  refine V.iremN dX8_beside_13 (by omega) (by omega) (by omega) ?_
  refine V.iload_n dX8_beside_14 rfl ?_
  refine V.callSp cX8_141 (m_southBy g h sd hs) dX8_beside_15 (Nat.le_of_ble_eq_true rfl) rfl rfl (Nat.le_of_ble_eq_true rfl) ?_
  refine V.toZ2 ?_
  refine V.iaddZ dX8_beside_18 ?_
  refine V.istore dX8_beside_19 rfl rfl ?_
  dsimp only [List.set]
  refine V.iload_n dX8_beside_21 rfl ?_
  refine V.iconst (v := nI 0) dX8_beside_22 (by decide) ?_
  refine V.bipush (v := nI 8) dX8_beside_23 (by decide) ?_
  refine V.toZ1 ?_
  refine V.toZ2 ?_
  refine V.callSp cX8_53 (m_in g h _ _ _ (by omega) (by omega) (by omega)) dX8_beside_25 (Nat.le_of_ble_eq_true rfl) rfl rfl (Nat.le_of_ble_eq_true rfl) ?_
  refine V.if_eqB 67 dX8_beside_28 (by decide) (fun hc1 => ?_) (fun hc1 => ?_)
  · skip
    refine V.bipush (v := iI (-4)) dX8_beside_67 (by decide) ?_
    have hno : ¬ canF (rPut S p (c / 9) (c % 9)) p sd := fun z => by
      have y := hca.mp z
      first | (have y2 := (hf9.1 y.2).1; omega) | (have y1 := y.1; omega)
    exact V.iret dX8_beside_69 rfl ⟨by rw [stp_none hno]; rfl, rfl⟩
  · skip
    refine V.iload dX8_beside_31 rfl ?_
    refine V.iconst (v := nI 0) dX8_beside_33 (by decide) ?_
    refine V.bipush (v := nI 8) dX8_beside_34 (by decide) ?_
    refine V.toZ1 ?_
    refine V.toZ2 ?_
    refine V.callSp cX8_53 (m_in g h _ _ _ (by omega) (by omega) (by omega)) dX8_beside_36 (Nat.le_of_ble_eq_true rfl) rfl rfl (Nat.le_of_ble_eq_true rfl) ?_
    refine V.if_eqB 67 dX8_beside_39 (by decide) (fun hc2 => ?_) (fun hc2 => ?_)
    · skip
      refine V.bipush (v := iI (-4)) dX8_beside_67 (by decide) ?_
      have hno : ¬ canF (rPut S p (c / 9) (c % 9)) p sd := fun z => by
        have y := hca.mp z
        first | (have y2 := (hf9.1 y.2).1; omega) | (have y1 := y.1; omega)
      exact V.iret dX8_beside_69 rfl ⟨by rw [stp_none hno]; rfl, rfl⟩
    · skip
      obtain ⟨c9, ec9⟩ : ∃ c9, c9 = (((c / 9 : Nat) : Int) + dxF sd).toNat * 9 + (((c % 9 : Nat) : Int) + dyF sd).toNat := ⟨_, rfl⟩
      rw [← ec9] at hca
      have h981 : c9 < 81 := by omega
      have hf9 := hI.1 c9 h981
      have hb9 : -1 ≤ fv c9 ∧ fv c9 ≤ 999 := by
        by_cases z : accF S p c9
        · have := (hf9.1 z).1; omega
        · have := hf9.2 z; omega
      refine V.aload_n dX8_beside_42 rfl ?_
      refine V.get fX8_37 dX8_beside_43 ho rfl ?_
      refine V.bipush (v := nI 9) dX8_beside_46 (by decide) ?_
      refine V.iload_n dX8_beside_48 rfl ?_
      refine V.toZ2 ?_
      refine V.imulZ dX8_beside_49 ?_
      refine V.iload dX8_beside_50 rfl ?_
      refine V.iaddZ dX8_beside_52 ?_
      refine V.re (y := nI c9) (iI_toN (by omega)) ?_
      refine V.iald dX8_beside_53 (hA 10 (by omega) (by omega)).1 rfl (by omega) (hfv _ (by omega)) ?_
      refine V.if_ltZ 67 dX8_beside_54 (by decide) (by omega) (fun hc3 => ?_) (fun hc3 => ?_)
      · skip
        refine V.bipush (v := iI (-4)) dX8_beside_67 (by decide) ?_
        have hno : ¬ canF (rPut S p (c / 9) (c % 9)) p sd := fun z => by
          have y := hca.mp z
          first | (have y2 := (hf9.1 y.2).1; omega) | (have y1 := y.1; omega)
        exact V.iret dX8_beside_69 rfl ⟨by rw [stp_none hno]; rfl, rfl⟩
      · skip
        refine V.bipush (v := nI 9) dX8_beside_57 (by decide) ?_
        refine V.iload_n dX8_beside_59 rfl ?_
        refine V.toZ2 ?_
        refine V.imulZ dX8_beside_60 ?_
        refine V.iload dX8_beside_61 rfl ?_
        refine V.iaddZ dX8_beside_63 ?_
        refine V.re (y := nI c9) (iI_toN (by omega)) ?_
        refine V.goto 69 dX8_beside_64 (by decide) ?_
        have hac : accF S p c9 := Decidable.by_contra (fun z => by have := hf9.2 z; omega)
        exact V.iret dX8_beside_69 rfl ⟨by rw [stp_can (hca.mpr ⟨by omega, hac⟩), ← ec9]; rfl, rfl⟩
