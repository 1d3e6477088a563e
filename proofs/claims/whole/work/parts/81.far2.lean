def MSt (h : VHp) (m : Nat) (F : MF) (A A1 : MA) : Prop := MRaw h m F A1 ∧ A1 9 = A 5 ∧ ∀ j, j ≠ 5 → j ≠ 9 → j ≠ 10 → A1 j = A j
def MMs (m : Nat) (F : MF) (A : MA) (S : Rm) (p w : Nat) (h : VHp) : VPost := fun v h' => v = none ∧ (∃ A' fv, MRaw h' m F A' ∧ (∀ j, j ≠ 9 → j ≠ 10 → A' j = A j) ∧ (∀ k, k < 81 → (A' 10)[k]? = some (iI (fv k))) ∧ FarI S p w fv ∧ FarX S p fv 81 0) ∧ VFr m (m + 12) h h'
theorem MSt.set {h : VHp} {m : Nat} {F : MF} {A A1 : MA} (w : MSt h m F A A1) (z : List Int32) (hz : z.length = 81) : MSt (h.set (m + 10) (.inl z)) m F A (upA A1 10 z) := ⟨MRaw.set w.1 10 (by omega) (by omega) z hz, by rw [upA_n (by omega)]; exact w.2.1, fun j h1 h2 h3 => by rw [upA_n h3]; exact w.2.2 j h1 h2 h3⟩
theorem far_bd {S : Rm} {p w : Nat} {fv : Nat → Int} (f : FarI S p w fv) {k : Nat} (hk : k < 81) : -1 ≤ fv k ∧ fv k ≤ 999 := by
  have z := f.1 k hk
  by_cases e : accF S p k
  · have := (z.1 e).1; omega
  · have := z.2 e; omega
theorem farX_step {S : Rm} {p c sd : Nat} {fv : Nat → Int} (x : FarX S p fv c sd) (h : ∀ e', stpF S p c sd = some e' → fv c ≤ fv e' + 1) : FarX S p fv c (sd + 1) := by
  intro e s e' h1 h2 h3 h4 h5
  by_cases q : e = c ∧ s = sd
  · obtain ⟨rfl, rfl⟩ := q; exact h e' h5
  · exact x e s e' h1 h2 (by omega) h4 h5
theorem farX_next {S : Rm} {p c sd : Nat} {fv : Nat → Int} (x : FarX S p fv c sd) (h : sd = 4 ∨ ¬ accF S p c) : FarX S p fv (c + 1) 0 := by
  intro e s e' h1 h2 h3 h4 h5
  by_cases q : e = c
  · rcases h with h | h
    · exact x e s e' h1 h2 (by omega) h4 h5
    · rw [q] at h4; exact absurd h4 h
  · exact x e s e' h1 h2 (by omega) h4 h5
theorem row_upZ {z : List Int32} {fv : Nat → Int} {c : Nat} {x : Int} (h : ∀ k, k < 81 → z[k]? = some (iI (fv k))) (hc : c < z.length) : ∀ k, k < 81 → (z.set c (iI x))[k]? = some (iI (upZ fv c x k)) := by
  intro k hk
  unfold upZ
  by_cases e : k = c
  · rw [if_pos e, e, List.getElem?_set_self hc]
  · rw [if_neg e, List.getElem?_set_ne (by omega)]; exact h k hk

set_option maxHeartbeats 1000000 in
theorem m_measures (g : VG) (h : VHp) (m : Nat) (F : MF) (A : MA) (S : Rm) (hM : MRm h m F A S) (hB : RmB S) (hD : RmD S) (p w : Nat) (hp : p < rN S) (hw8 : w < 8) : VE g mX8_measures 4 false (0, 0) [.ref m, .int (nI p), .int (nI w)] h (MMs m F A S p w h) := by
  obtain ⟨hw, ⟨et0, et1, et2, ek⟩, es0, ev, ex, ey, eL⟩ := id hM
  obtain ⟨ho, hA⟩ := id hw
  obtain ⟨bn, bW, bH, bP, bL⟩ := id hB
  refine VE.of (by decide) rfl (Nat.le_of_ble_eq_true rfl) ?_
  have bp := bP p hp
  have hdl : ∀ c w9, draftF (rPut S p (c / 9) (c % 9)) p = some w9 → w9 < 1000 := fun c w9 z => by have := draftF_lt z; omega
  have hwl : ∀ x y i9, whoF S x y (rN S) = some i9 → i9 < 1000 := fun x y i9 z => by have := (whoF_lt z).1; omega
  have LE : ∀ (h1 : VHp) (A1 : MA) (fv : Nat → Int) (v4 v5 v6 : Option Value), MSt h1 m F A A1 → (∀ k, k < 81 → (A1 10)[k]? = some (iI (fv k))) → FarI S p w fv → FarX S p fv 81 0 → VFr m (m + 12) h h1 → V (g, mX8_measures, 4, false, h.length, MMs m F A S p w h) (0, 0) 144 [some (.ref m), some (.int (nI p)), some (.int (nI w)), some (.int (nI 0)), v4, v5, v6] [] h1 := by
    intro h1 A1 fv v4 v5 v6 hS1 hrw hI hX hf1
    obtain ⟨ho1, hA1⟩ := id hS1.1
    have hl10 : (A1 10).length = 81 := (hA1 10 (by omega) (by omega)).2
    refine V.iload_n dX8_measures_144 rfl ?_
    refine V.if_eqN 246 dX8_measures_145 (by decide) (by omega) (fun hc1 => ?_) (fun hc1 => ?_)
    · skip
      refine V.aload_n dX8_measures_246 rfl ?_
      refine V.callV (ci := 8) cX8_157 (m_lets g h1 m F A1 hS1.1) dX8_measures_247 (Nat.le_of_ble_eq_true rfl) rfl ho1 rfl rfl (Nat.le_of_ble_eq_true rfl) (fun v_ h_ hp_ => ?_)
      obtain ⟨rfl, hw2, hf2⟩ := hp_
      dsimp only [Option.toList, List.nil_append]
      refine V.vret dX8_measures_250 rfl ⟨rfl, ⟨_, fv, hw2, fun j h1 h2 => ?_, ?_, hI, hX⟩, hf1.tr (hf2.wide (by omega) (by omega))⟩
      · by_cases e : j = 5
        · rw [e, upA_s]; exact hS1.2.1
        · rw [upA_n e]; exact hS1.2.2 j e h1 h2
      · rw [upA_n (by omega)]; exact hrw
    · exact absurd rfl hc1
  have L3 : ∀ (B9 : Nat) (h1 : VHp) (A1 : MA) (fv : Nat → Int) (v4 v5 v6 : Option Value), sumZ fv 81 < B9 → MSt h1 m F A A1 → (∀ k, k < 81 → (A1 10)[k]? = some (iI (fv k))) → FarI S p w fv → VFr m (m + 12) h h1 → V (g, mX8_measures, 4, false, h.length, MMs m F A S p w h) (0, 0) 144 [some (.ref m), some (.int (nI p)), some (.int (nI w)), some (.int (nI 1)), v4, v5, v6] [] h1 := by
    intro B9
    induction B9 with
    | zero => intro h1 A1 fv v4 v5 v6 hsm; exact absurd hsm (Nat.not_lt_zero _)
    | succ B9 ihB =>
      have LC : ∀ c, c ≤ 81 → ∀ (h1 : VHp) (A1 : MA) (fv : Nat → Int) (mo : Nat) (v5 v6 : Option Value), sumZ fv 81 < B9 + 1 → MSt h1 m F A A1 → (∀ k, k < 81 → (A1 10)[k]? = some (iI (fv k))) → FarI S p w fv → ((mo = 0 ∧ FarX S p fv c 0) ∨ (mo = 1 ∧ sumZ fv 81 < B9)) → VFr m (m + 12) h h1 → V (g, mX8_measures, 4, false, h.length, MMs m F A S p w h) (0, 0) 153 [some (.ref m), some (.int (nI p)), some (.int (nI w)), some (.int (nI mo)), some (.int (nI c)), v5, v6] [] h1 := by
        refine vloop 81 (fun c ih hi => ?_)
        intro h1 A1 fv mo v5 v6 hsm hS1 hrw hI hmo hf1
        have LS : c < 81 → ∀ sd, sd ≤ 4 → ∀ (h1 : VHp) (A1 : MA) (fv : Nat → Int) (mo : Nat) (v6 : Option Value), sumZ fv 81 < B9 + 1 → MSt h1 m F A A1 → (∀ k, k < 81 → (A1 10)[k]? = some (iI (fv k))) → FarI S p w fv → ((mo = 0 ∧ FarX S p fv c sd) ∨ (mo = 1 ∧ sumZ fv 81 < B9)) → VFr m (m + 12) h h1 → V (g, mX8_measures, 4, false, h.length, MMs m F A S p w h) (0, 0) 163 [some (.ref m), some (.int (nI p)), some (.int (nI w)), some (.int (nI mo)), some (.int (nI c)), some (.int (nI sd)), v6] [] h1 := by
          intro hc81
          refine vloop 4 (fun sd ih2 hi2 => ?_)
          intro h1 A1 fv mo v6 hsm hS1 hrw hI hmo hf1
          obtain ⟨ho1, hA1⟩ := id hS1.1
          have hl10 : (A1 10).length = 81 := (hA1 10 (by omega) (by omega)).2
          have hbc := far_bd hI hc81
          refine V.iload dX8_measures_163 rfl ?_
          refine V.iconst (v := nI 4) dX8_measures_165 (by decide) ?_
          refine V.icmp_geN 237 dX8_measures_166 (by decide) (by omega) (by omega) (fun hc1 => ?_) (fun hc1 => ?_)
          · skip
            refine V.iincN (n := 1) dX8_measures_237 rfl rfl rfl ?_
            dsimp only [List.set]
            refine V.goto 153 dX8_measures_240 (by decide) ?_
            exact ih (c + 1) (by omega) (by omega) _ _ fv mo _ _ hsm hS1 hrw hI (hmo.elim (fun q => Or.inl ⟨q.1, farX_next q.2 (by first | exact Or.inl (by omega) | exact Or.inr (fun z => by have := ((hI.1 c hc81).1 z).1; omega))⟩) Or.inr) hf1
          · skip
            refine V.aload_n dX8_measures_169 rfl ?_
            refine V.get fX8_37 dX8_measures_170 ho1 rfl ?_
            refine V.iload dX8_measures_173 rfl ?_
            refine V.iald dX8_measures_175 (hA1 10 (by omega) (by omega)).1 rfl (by omega) (hrw _ (by omega)) ?_
            refine V.if_ltZ 237 dX8_measures_176 (by decide) (by omega) (fun hc2 => ?_) (fun hc2 => ?_)
            · skip
              refine V.iincN (n := 1) dX8_measures_237 rfl rfl rfl ?_
              dsimp only [List.set]
              refine V.goto 153 dX8_measures_240 (by decide) ?_
              exact ih (c + 1) (by omega) (by omega) _ _ fv mo _ _ hsm hS1 hrw hI (hmo.elim (fun q => Or.inl ⟨q.1, farX_next q.2 (by first | exact Or.inl (by omega) | exact Or.inr (fun z => by have := ((hI.1 c hc81).1 z).1; omega))⟩) Or.inr) hf1
            · skip
              refine V.aload_n dX8_measures_179 rfl ?_
              refine V.iload dX8_measures_180 rfl ?_
              refine V.iload dX8_measures_182 rfl ?_
              refine V.callVp (ci := 8) cX8_166 (m_beside g h1 m F A1 hS1.1 S hB hD p w fv hrw hI c sd hc81 (by omega)) dX8_measures_184 (Nat.le_of_ble_eq_true rfl) rfl ho1 rfl rfl (Nat.le_of_ble_eq_true rfl) ?_
              rcases hr : stpF S p c sd with _ | c9
              · skip
                change V _ _ _ _ (Value.int (iI (-4)) :: _) _
                refine V.istore dX8_measures_187 rfl rfl ?_
                dsimp only [List.set]
                refine V.iload dX8_measures_189 rfl ?_
                refine V.if_ltZ 231 dX8_measures_191 (by decide) (by omega) (fun hc3 => ?_) (fun hc3 => ?_)
                · skip
                  refine V.iincN (n := 1) dX8_measures_231 rfl rfl rfl ?_
                  dsimp only [List.set]
                  refine V.goto 163 dX8_measures_234 (by decide) ?_
                  exact ih2 (sd + 1) (by omega) (by omega) _ _ fv mo _ hsm hS1 hrw hI (hmo.elim (fun q => Or.inl ⟨q.1, farX_step q.2 (fun e' q => by rw [hr] at q; cases q)⟩) Or.inr) hf1
                · exact absurd hc3 (by omega)
              · skip
                have h9 := stp_acc hB hD (by omega) hr
                have h981 := h9.1
                have hb9 := far_bd hI h981
                have hp9 := ((hI.1 c9 h981).1 h9.2).1
                change V _ _ _ _ (Value.int (nI c9) :: _) _
                refine V.istore dX8_measures_187 rfl rfl ?_
                dsimp only [List.set]
                refine V.iload dX8_measures_189 rfl ?_
                refine V.if_ltN 231 dX8_measures_191 (by decide) (by omega) (fun hc4 => ?_) (fun hc4 => ?_)
                · exact absurd hc4 (by omega)
                · skip
                  refine V.aload_n dX8_measures_194 rfl ?_
                  refine V.get fX8_37 dX8_measures_195 ho1 rfl ?_
                  refine V.iload dX8_measures_198 rfl ?_
                  refine V.iald dX8_measures_200 (hA1 10 (by omega) (by omega)).1 rfl (by omega) (hrw _ (by omega)) ?_
                  refine V.iconst (v := nI 1) dX8_measures_201 (by decide) ?_
                  refine V.toZ1 ?_
                  refine V.iaddZ dX8_measures_202 ?_
                  refine V.aload_n dX8_measures_203 rfl ?_
                  refine V.get fX8_37 dX8_measures_204 ho1 rfl ?_
                  refine V.iload dX8_measures_207 rfl ?_
                  refine V.iald dX8_measures_209 (hA1 10 (by omega) (by omega)).1 rfl (by omega) (hrw _ (by omega)) ?_
                  refine V.icmp_geZ 231 dX8_measures_210 (by decide) (by omega) (by omega) (fun hc5 => ?_) (fun hc5 => ?_)
                  · skip
                    refine V.iincN (n := 1) dX8_measures_231 rfl rfl rfl ?_
                    dsimp only [List.set]
                    refine V.goto 163 dX8_measures_234 (by decide) ?_
                    exact ih2 (sd + 1) (by omega) (by omega) _ _ fv mo _ hsm hS1 hrw hI (hmo.elim (fun q => Or.inl ⟨q.1, farX_step q.2 (fun e' q => by rw [hr] at q; cases q; omega)⟩) Or.inr) hf1
                  · skip
                    refine V.aload_n dX8_measures_213 rfl ?_
                    refine V.get fX8_37 dX8_measures_214 ho1 rfl ?_
                    refine V.iload dX8_measures_217 rfl ?_
                    refine V.aload_n dX8_measures_219 rfl ?_
                    refine V.get fX8_37 dX8_measures_220 ho1 rfl ?_
                    refine V.iload dX8_measures_223 rfl ?_
                    refine V.iald dX8_measures_225 (hA1 10 (by omega) (by omega)).1 rfl (by omega) (hrw _ (by omega)) ?_
                    refine V.iconst (v := nI 1) dX8_measures_226 (by decide) ?_
                    refine V.toZ1 ?_
                    refine V.iaddZ dX8_measures_227 ?_
                    refine V.iast dX8_measures_228 (hA1 10 (by omega) (by omega)).1 rfl (by omega) (by omega) ?_
                    refine V.iconst (v := nI 1) dX8_measures_229 (by decide) ?_
                    refine V.istore_n (i := 3) dX8_measures_230 rfl rfl rfl ?_
                    dsimp only [List.set]
                    refine V.iincN (n := 1) dX8_measures_231 rfl rfl rfl ?_
                    dsimp only [List.set]
                    refine V.goto 163 dX8_measures_234 (by decide) ?_
                    have hac : accF S p c := Decidable.by_contra (fun z => by have := (hI.1 c hc81).2 z; omega)
                    have hup := far_up hB hD hI hc81 hac (by omega) hr (by omega)
                    have hsu := (sumZ_up (f := fv) (c := c) (x := fv c9 + ((1 : Nat) : Int)) (by omega) (by omega) 81).2 hc81
                    exact ih2 (sd + 1) (by omega) (by omega) _ _ (upZ fv c (fv c9 + ((1 : Nat) : Int))) 1 _ (by omega) (hS1.set _ (by rw [List.length_set]; exact hl10)) (by rw [upA_s]; exact row_upZ hrw (by omega)) hup (Or.inr ⟨rfl, by omega⟩) (hf1.tr (VFr.set (by omega) (by omega)))
        refine V.iload dX8_measures_153 rfl ?_
        refine V.bipush (v := nI 81) dX8_measures_155 (by decide) ?_
        refine V.icmp_geN 243 dX8_measures_157 (by decide) (by omega) (by omega) (fun hc1 => ?_) (fun hc1 => ?_)
        · skip
          refine V.goto 144 dX8_measures_243 (by decide) ?_
          obtain rfl : c = 81 := (by omega)
          rcases hmo with ⟨e, q⟩ | ⟨e, q⟩
          · subst e; exact LE h1 A1 fv _ _ _ hS1 hrw hI q hf1
          · subst e; exact ihB h1 A1 fv _ _ _ q hS1 hrw hI hf1
        · skip
          refine V.iconst (v := nI 0) dX8_measures_160 (by decide) ?_
          refine V.istore dX8_measures_161 rfl rfl ?_
          dsimp only [List.set]
          exact LS (by omega) 0 (by omega) h1 A1 fv mo _ hsm hS1 hrw hI hmo hf1
      intro h1 A1 fv v4 v5 v6 hsm hS1 hrw hI hf1
      refine V.iload_n dX8_measures_144 rfl ?_
      refine V.if_eqN 246 dX8_measures_145 (by decide) (by omega) (fun hc1 => ?_) (fun hc1 => ?_)
      · exact absurd hc1 (by omega)
      · skip
        refine V.iconst (v := nI 0) dX8_measures_148 (by decide) ?_
        refine V.istore_n (i := 3) dX8_measures_149 rfl rfl rfl ?_
        dsimp only [List.set]
        refine V.iconst (v := nI 0) dX8_measures_150 (by decide) ?_
        refine V.istore dX8_measures_151 rfl rfl ?_
        dsimp only [List.set]
        exact LC 0 (by omega) h1 A1 fv 0 _ _ hsm hS1 hrw hI (Or.inl ⟨rfl, fun e s e' h1 h2 h3 => absurd h3 (by omega)⟩) hf1
  have L2 : ∀ c, c ≤ 81 → ∀ (h1 : VHp) (A1 : MA) (x0 y0 : Nat) (v4 : Option Value), MSt h1 m F A A1 → MRm h1 m F A1 (rPut S p x0 y0) → x0 < rW S → y0 < rH S → (∀ j, j < c → (A1 10)[j]? = some (iI (f2F S p w j))) → (∀ j, c ≤ j → j < 81 → (A1 10)[j]? = some (iI (f1F S p j))) → VFr m (m + 12) h h1 → V (g, mX8_measures, 4, false, h.length, MMs m F A S p w h) (0, 0) 93 [some (.ref m), some (.int (nI p)), some (.int (nI w)), some (.int (nI c)), v4, none, none] [] h1 := by
    refine vloop 81 (fun c ih hi => ?_)
    intro h1 A1 x0 y0 v4 hS1 hM1 hx0 hy0 hr2 hr1 hf1
    obtain ⟨ho1, hA1⟩ := id hS1.1
    have hl10 : (A1 10).length = 81 := (hA1 10 (by omega) (by omega)).2
    have hb1 : -1 ≤ f1F S p c ∧ f1F S p c ≤ 999 := by unfold f1F; split <;> omega
    refine V.iload_n dX8_measures_93 rfl ?_
    refine V.bipush (v := nI 81) dX8_measures_94 (by decide) ?_
    refine V.icmp_geN 142 dX8_measures_96 (by decide) (by omega) (by omega) (fun hc1 => ?_) (fun hc1 => ?_)
    · skip
      refine V.iconst (v := nI 1) dX8_measures_142 (by decide) ?_
      refine V.istore_n (i := 3) dX8_measures_143 rfl rfl rfl ?_
      dsimp only [List.set]
      obtain rfl : c = 81 := (by omega)
      exact L3 _ h1 A1 (f2F S p w) _ _ _ (Nat.lt_succ_self _) hS1 hr2 far_I0 hf1
    · skip
      refine V.aload_n dX8_measures_99 rfl ?_
      refine V.get fX8_37 dX8_measures_100 ho1 rfl ?_
      refine V.iload_n dX8_measures_103 rfl ?_
      refine V.iald dX8_measures_104 (hA1 10 (by omega) (by omega)).1 rfl (by omega) (hr1 _ (by omega) (by omega)) ?_
      refine V.if_ltZ 136 dX8_measures_105 (by decide) (by omega) (fun hc2 => ?_) (fun hc2 => ?_)
      · skip
        have hna : ¬ accF S p c := fun z => by unfold f1F at hc2; rw [if_pos z] at hc2; omega
        refine V.iincN (n := 1) dX8_measures_136 rfl rfl rfl ?_
        dsimp only [List.set]
        refine V.goto 93 dX8_measures_139 (by decide) ?_
        first
          | (have hS6 := hS5.set ((A1 10).set c (iI (f2F S p w c))) (by rw [List.length_set]; exact hl10)
             exact ih (c + 1) (by omega) (by omega) _ _ (c / 9) (c % 9) _ hS6 ⟨hS6.1, by rw [upA_n (by omega)]; exact hM5.2.1, by rw [upA_n (by omega)]; exact hM5.2.2⟩ (by omega) (by omega) (fun j hj => by
               rw [upA_s]
               by_cases e : j = c
               · rw [e, List.getElem?_set_self (by omega)]
               · rw [List.getElem?_set_ne (by omega)]; exact hr2 j (by omega)) (fun j hj h8 => by rw [upA_s, List.getElem?_set_ne (by omega)]; exact hr1 j (by omega) h8) (hf6.tr (VFr.set (by omega) (by omega))))
          | (exact ih (c + 1) (by omega) (by omega) _ _ x0 y0 _ hS1 hM1 hx0 hy0 (fun j hj => by
               by_cases e : j = c
               · rw [e, hr1 c (by omega) (by omega)]; unfold f1F f2F; rw [if_neg hna, if_neg hna]
               · exact hr2 j (by omega)) (fun j hj h8 => hr1 j (by omega) h8) hf1)
      · skip
        have hac : accF S p c := Decidable.by_contra (fun z => by unfold f1F at hc2; rw [if_neg z] at hc2; omega)
        have ha1 := hac.1
        refine V.aload_n dX8_measures_108 rfl ?_
        refine V.iload_n dX8_measures_109 rfl ?_
        refine V.iload_n dX8_measures_110 rfl ?_
        refine V.callV (ci := 8) cX8_163 (m_puts g h1 m F A1 (rPut S p x0 y0) hM1 (put_B hB hx0 hy0) p c hp (by omega)) dX8_measures_111 (Nat.le_of_ble_eq_true rfl) rfl ho1 rfl rfl (Nat.le_of_ble_eq_true rfl) (fun v_ h_ hp_ => ?_)
        obtain ⟨rfl, s5, hM5, hf5⟩ := hp_
        dsimp only [Option.toList, List.nil_append]
        rw [put_put] at hM5
        generalize h_ = h5 at hM5 hf5 ⊢
        have hS5 : MSt h5 m F A (upA A1 5 s5) := ⟨hM5.1, by rw [upA_n (by omega)]; exact hS1.2.1, fun j h1 h2 h3 => by rw [upA_n h1]; exact hS1.2.2 j h1 h2 h3⟩
        have hf6 := hf1.tr (hf5.wide (lo' := m) (hi' := m + 12) (by omega) (by omega))
        have hBq : RmB (rPut S p (c / 9) (c % 9)) := put_B hB (by omega) (by omega)
        have ho5 := hM5.1.1
        have h105 := (hM5.1.2 10 (by omega) (by omega)).1
        rw [upA_n (by omega)] at h105
        refine V.aload_n dX8_measures_114 rfl ?_
        refine V.get fX8_37 dX8_measures_115 ho5 rfl ?_
        refine V.iload_n dX8_measures_118 rfl ?_
        refine V.aload_n dX8_measures_119 rfl ?_
        refine V.iload_n dX8_measures_120 rfl ?_
        refine V.callVp (ci := 8) cX8_119 (m_draftOf g h5 m F _ (rPut S p (c / 9) (c % 9)) hM5 hBq p hp) dX8_measures_121 (Nat.le_of_ble_eq_true rfl) rfl ho5 rfl rfl (Nat.le_of_ble_eq_true rfl) ?_
        refine V.iload_n dX8_measures_124 rfl ?_
        refine V.icmp_ne 132 dX8_measures_125 (by decide) (fun hc3 => ?_) (fun hc3 => ?_)
        · skip
          have hdd : ¬ draftF (rPut S p (c / 9) (c % 9)) p = some w := fun z => hc3 ((eO_some (hdl c) (by omega)).mpr z)
          refine V.sipush (v := nI 999) dX8_measures_132 (by decide) ?_
          refine V.re (y := iI (f2F S p w c)) (by unfold f2F; rw [if_pos hac, if_neg hdd]; exact (iI_nat 999).symm) ?_
          refine V.iast dX8_measures_135 h105 rfl (by omega) (by omega) ?_
          refine V.iincN (n := 1) dX8_measures_136 rfl rfl rfl ?_
          dsimp only [List.set]
          refine V.goto 93 dX8_measures_139 (by decide) ?_
          first
            | (have hS6 := hS5.set ((A1 10).set c (iI (f2F S p w c))) (by rw [List.length_set]; exact hl10)
               exact ih (c + 1) (by omega) (by omega) _ _ (c / 9) (c % 9) _ hS6 ⟨hS6.1, by rw [upA_n (by omega)]; exact hM5.2.1, by rw [upA_n (by omega)]; exact hM5.2.2⟩ (by omega) (by omega) (fun j hj => by
                 rw [upA_s]
                 by_cases e : j = c
                 · rw [e, List.getElem?_set_self (by omega)]
                 · rw [List.getElem?_set_ne (by omega)]; exact hr2 j (by omega)) (fun j hj h8 => by rw [upA_s, List.getElem?_set_ne (by omega)]; exact hr1 j (by omega) h8) (hf6.tr (VFr.set (by omega) (by omega))))
            | (exact ih (c + 1) (by omega) (by omega) _ _ x0 y0 _ hS1 hM1 hx0 hy0 (fun j hj => by
                 by_cases e : j = c
                 · rw [e, hr1 c (by omega) (by omega)]; unfold f1F f2F; rw [if_neg hna, if_neg hna]
                 · exact hr2 j (by omega)) (fun j hj h8 => hr1 j (by omega) h8) hf1)
        · skip
          have hdd : draftF (rPut S p (c / 9) (c % 9)) p = some w := (eO_some (hdl c) (by omega)).mp hc3
          refine V.iconst (v := nI 0) dX8_measures_128 (by decide) ?_
          refine V.goto 135 dX8_measures_129 (by decide) ?_
          refine V.re (y := iI (f2F S p w c)) (by unfold f2F; rw [if_pos hac, if_pos hdd]; exact (iI_nat 0).symm) ?_
          refine V.iast dX8_measures_135 h105 rfl (by omega) (by omega) ?_
          refine V.iincN (n := 1) dX8_measures_136 rfl rfl rfl ?_
          dsimp only [List.set]
          refine V.goto 93 dX8_measures_139 (by decide) ?_
          first
            | (have hS6 := hS5.set ((A1 10).set c (iI (f2F S p w c))) (by rw [List.length_set]; exact hl10)
               exact ih (c + 1) (by omega) (by omega) _ _ (c / 9) (c % 9) _ hS6 ⟨hS6.1, by rw [upA_n (by omega)]; exact hM5.2.1, by rw [upA_n (by omega)]; exact hM5.2.2⟩ (by omega) (by omega) (fun j hj => by
                 rw [upA_s]
                 by_cases e : j = c
                 · rw [e, List.getElem?_set_self (by omega)]
                 · rw [List.getElem?_set_ne (by omega)]; exact hr2 j (by omega)) (fun j hj h8 => by rw [upA_s, List.getElem?_set_ne (by omega)]; exact hr1 j (by omega) h8) (hf6.tr (VFr.set (by omega) (by omega))))
            | (exact ih (c + 1) (by omega) (by omega) _ _ x0 y0 _ hS1 hM1 hx0 hy0 (fun j hj => by
                 by_cases e : j = c
                 · rw [e, hr1 c (by omega) (by omega)]; unfold f1F f2F; rw [if_neg hna, if_neg hna]
                 · exact hr2 j (by omega)) (fun j hj h8 => hr1 j (by omega) h8) hf1)
  have L1 : ∀ c, c ≤ 81 → ∀ (h1 : VHp) (A1 : MA) (v4 : Option Value), MSt h1 m F A A1 → A1 5 = A 5 → (∀ j, j < c → (A1 10)[j]? = some (iI (f1F S p j))) → VFr m (m + 12) h h1 → V (g, mX8_measures, 4, false, h.length, MMs m F A S p w h) (0, 0) 6 [some (.ref m), some (.int (nI p)), some (.int (nI w)), some (.int (nI c)), v4, none, none] [] h1 := by
    refine vloop 81 (fun c ih hi => ?_)
    intro h1 A1 v4 hS1 h55 hr1 hf1
    obtain ⟨ho1, hA1⟩ := id hS1.1
    have hl10 : (A1 10).length = 81 := (hA1 10 (by omega) (by omega)).2
    have hM1 : MRm h1 m F A1 S := ⟨hS1.1, by rw [hS1.2.2 2 (by omega) (by omega) (by omega)]; exact hM.2.1, by rw [h55]; exact hM.2.2⟩
    refine V.iload_n dX8_measures_6 rfl ?_
    refine V.bipush (v := nI 81) dX8_measures_7 (by decide) ?_
    refine V.icmp_geN 91 dX8_measures_9 (by decide) (by omega) (by omega) (fun hc1 => ?_) (fun hc1 => ?_)
    · skip
      refine V.iconst (v := nI 0) dX8_measures_91 (by decide) ?_
      refine V.istore_n (i := 3) dX8_measures_92 rfl rfl rfl ?_
      dsimp only [List.set]
      obtain rfl : c = 81 := (by omega)
      exact L2 0 (by omega) h1 A1 (rX S p) (rY S p) _ hS1 (by rw [put_self]; exact hM1) bp.2.2.1 bp.2.2.2 (fun j hj => absurd hj (Nat.not_lt_zero _)) (fun j _ h8 => hr1 j h8) hf1
    · skip
      refine V.aload_n dX8_measures_12 rfl ?_
      refine V.iload_n dX8_measures_13 rfl ?_
      refine V.bipush (v := nI 9) dX8_measures_14 (by decide) ?_
      refine V.idivN dX8_measures_16 (by omega) (by omega) (by omega) ?_
      refine V.iload_n dX8_measures_17 rfl ?_
      refine V.bipush (v := nI 9) dX8_measures_18 (by decide) ?_
      refine V.iremN dX8_measures_20 (by omega) (by omega) (by omega) ?_
      refine V.toZ1 ?_
      refine V.toZ2 ?_
      refine V.callVp (ci := 8) cX8_122 (m_isPlace g h1 m F A1 S hM1 hB _ _ (by omega) (by omega)) dX8_measures_21 (Nat.le_of_ble_eq_true rfl) rfl ho1 rfl rfl (Nat.le_of_ble_eq_true rfl) ?_
      refine V.if_eqB 64 dX8_measures_24 (by decide) (fun hc2 => ?_) (fun hc2 => ?_)
      · skip
        have hna : ¬ accF S p c := fun z => hc2 z.1
        refine V.iconst (v := nI 0) dX8_measures_64 (by decide) ?_
        refine V.istore dX8_measures_65 rfl rfl ?_
        dsimp only [List.set]
        refine V.aload_n dX8_measures_67 rfl ?_
        refine V.get fX8_37 dX8_measures_68 ho1 rfl ?_
        refine V.iload_n dX8_measures_71 rfl ?_
        refine V.iload dX8_measures_72 rfl ?_
        refine V.if_eqN 83 dX8_measures_74 (by decide) (by omega) (fun hc3 => ?_) (fun hc3 => ?_)
        · skip
          refine V.iconst (v := iI (-1)) dX8_measures_83 (by decide) ?_
          refine V.re (y := iI (f1F S p c)) (by unfold f1F; rw [if_neg hna]) ?_
          refine V.iast dX8_measures_84 (hA1 10 (by omega) (by omega)).1 rfl (by omega) (by omega) ?_
          refine V.iincN (n := 1) dX8_measures_85 rfl rfl rfl ?_
          dsimp only [List.set]
          refine V.goto 6 dX8_measures_88 (by decide) ?_
          have hS2 := hS1.set ((A1 10).set c (iI (f1F S p c))) (by rw [List.length_set]; exact hl10)
          exact ih (c + 1) (by omega) (by omega) _ _ _ hS2 ((upA_n (by omega)).trans h55) (fun j hj => by
            rw [upA_s]
            by_cases e : j = c
            · rw [e, List.getElem?_set_self (by omega)]
            · rw [List.getElem?_set_ne (by omega)]; exact hr1 j (by omega)) (hf1.tr (VFr.set (by omega) (by omega)))
        · exact absurd rfl hc3
      · skip
        have hin := hc2
        refine V.aload_n dX8_measures_27 rfl ?_
        refine V.iload_n dX8_measures_28 rfl ?_
        refine V.bipush (v := nI 9) dX8_measures_29 (by decide) ?_
        refine V.idivN dX8_measures_31 (by omega) (by omega) (by omega) ?_
        refine V.iload_n dX8_measures_32 rfl ?_
        refine V.bipush (v := nI 9) dX8_measures_33 (by decide) ?_
        refine V.iremN dX8_measures_35 (by omega) (by omega) (by omega) ?_
        refine V.callVp (ci := 8) cX8_126 (m_whoAt g h1 m F A1 S hM1 hB hD (c / 9) (c % 9) (by omega) (by omega)) dX8_measures_36 (Nat.le_of_ble_eq_true rfl) rfl ho1 rfl rfl (Nat.le_of_ble_eq_true rfl) ?_
        refine V.bipush (v := iI (-4)) dX8_measures_39 (by decide) ?_
        refine V.icmp_eq 60 dX8_measures_41 (by decide) (fun hc4 => ?_) (fun hc4 => ?_)
        · skip
          have hac : accF S p c := ⟨hin, Or.inl ((eO_none (hwl _ _)).mp hc4)⟩
          refine V.iconst (v := nI 1) dX8_measures_60 (by decide) ?_
          refine V.goto 65 dX8_measures_61 (by decide) ?_
          refine V.istore dX8_measures_65 rfl rfl ?_
          dsimp only [List.set]
          refine V.aload_n dX8_measures_67 rfl ?_
          refine V.get fX8_37 dX8_measures_68 ho1 rfl ?_
          refine V.iload_n dX8_measures_71 rfl ?_
          refine V.iload dX8_measures_72 rfl ?_
          refine V.if_eqN 83 dX8_measures_74 (by decide) (by omega) (fun hc5 => ?_) (fun hc5 => ?_)
          · exact absurd hc5 (by omega)
          · skip
            refine V.sipush (v := nI 999) dX8_measures_77 (by decide) ?_
            refine V.goto 84 dX8_measures_80 (by decide) ?_
            refine V.re (y := iI (f1F S p c)) (by unfold f1F; rw [if_pos hac]; exact (iI_nat 999).symm) ?_
            refine V.iast dX8_measures_84 (hA1 10 (by omega) (by omega)).1 rfl (by omega) (by omega) ?_
            refine V.iincN (n := 1) dX8_measures_85 rfl rfl rfl ?_
            dsimp only [List.set]
            refine V.goto 6 dX8_measures_88 (by decide) ?_
            have hS2 := hS1.set ((A1 10).set c (iI (f1F S p c))) (by rw [List.length_set]; exact hl10)
            exact ih (c + 1) (by omega) (by omega) _ _ _ hS2 ((upA_n (by omega)).trans h55) (fun j hj => by
              rw [upA_s]
              by_cases e : j = c
              · rw [e, List.getElem?_set_self (by omega)]
              · rw [List.getElem?_set_ne (by omega)]; exact hr1 j (by omega)) (hf1.tr (VFr.set (by omega) (by omega)))
        · skip
          have hnn : ¬ whoF S (c / 9) (c % 9) (rN S) = none := fun u => hc4 ((eO_none (hwl _ _)).mpr u)
          refine V.aload_n dX8_measures_44 rfl ?_
          refine V.iload_n dX8_measures_45 rfl ?_
          refine V.bipush (v := nI 9) dX8_measures_46 (by decide) ?_
          refine V.idivN dX8_measures_48 (by omega) (by omega) (by omega) ?_
          refine V.iload_n dX8_measures_49 rfl ?_
          refine V.bipush (v := nI 9) dX8_measures_50 (by decide) ?_
          refine V.iremN dX8_measures_52 (by omega) (by omega) (by omega) ?_
          refine V.callVp (ci := 8) cX8_126 (m_whoAt g h1 m F A1 S hM1 hB hD (c / 9) (c % 9) (by omega) (by omega)) dX8_measures_53 (Nat.le_of_ble_eq_true rfl) rfl ho1 rfl rfl (Nat.le_of_ble_eq_true rfl) ?_
          refine V.iload_n dX8_measures_56 rfl ?_
          refine V.icmp_ne 64 dX8_measures_57 (by decide) (fun hc6 => ?_) (fun hc6 => ?_)
          · skip
            have hna : ¬ accF S p c := fun z => z.2.elim hnn (fun u => hc6 ((eO_some (hwl _ _) (by omega)).mpr u))
            refine V.iconst (v := nI 0) dX8_measures_64 (by decide) ?_
            refine V.istore dX8_measures_65 rfl rfl ?_
            dsimp only [List.set]
            refine V.aload_n dX8_measures_67 rfl ?_
            refine V.get fX8_37 dX8_measures_68 ho1 rfl ?_
            refine V.iload_n dX8_measures_71 rfl ?_
            refine V.iload dX8_measures_72 rfl ?_
            refine V.if_eqN 83 dX8_measures_74 (by decide) (by omega) (fun hc7 => ?_) (fun hc7 => ?_)
            · skip
              refine V.iconst (v := iI (-1)) dX8_measures_83 (by decide) ?_
              refine V.re (y := iI (f1F S p c)) (by unfold f1F; rw [if_neg hna]) ?_
              refine V.iast dX8_measures_84 (hA1 10 (by omega) (by omega)).1 rfl (by omega) (by omega) ?_
              refine V.iincN (n := 1) dX8_measures_85 rfl rfl rfl ?_
              dsimp only [List.set]
              refine V.goto 6 dX8_measures_88 (by decide) ?_
              have hS2 := hS1.set ((A1 10).set c (iI (f1F S p c))) (by rw [List.length_set]; exact hl10)
              exact ih (c + 1) (by omega) (by omega) _ _ _ hS2 ((upA_n (by omega)).trans h55) (fun j hj => by
                rw [upA_s]
                by_cases e : j = c
                · rw [e, List.getElem?_set_self (by omega)]
                · rw [List.getElem?_set_ne (by omega)]; exact hr1 j (by omega)) (hf1.tr (VFr.set (by omega) (by omega)))
            · exact absurd rfl hc7
          · skip
            have hac : accF S p c := ⟨hin, Or.inr ((eO_some (hwl _ _) (by omega)).mp hc6)⟩
            refine V.iconst (v := nI 1) dX8_measures_60 (by decide) ?_
            refine V.goto 65 dX8_measures_61 (by decide) ?_
            refine V.istore dX8_measures_65 rfl rfl ?_
            dsimp only [List.set]
            refine V.aload_n dX8_measures_67 rfl ?_
            refine V.get fX8_37 dX8_measures_68 ho1 rfl ?_
            refine V.iload_n dX8_measures_71 rfl ?_
            refine V.iload dX8_measures_72 rfl ?_
            refine V.if_eqN 83 dX8_measures_74 (by decide) (by omega) (fun hc8 => ?_) (fun hc8 => ?_)
            · exact absurd hc8 (by omega)
            · skip
              refine V.sipush (v := nI 999) dX8_measures_77 (by decide) ?_
              refine V.goto 84 dX8_measures_80 (by decide) ?_
              refine V.re (y := iI (f1F S p c)) (by unfold f1F; rw [if_pos hac]; exact (iI_nat 999).symm) ?_
              refine V.iast dX8_measures_84 (hA1 10 (by omega) (by omega)).1 rfl (by omega) (by omega) ?_
              refine V.iincN (n := 1) dX8_measures_85 rfl rfl rfl ?_
              dsimp only [List.set]
              refine V.goto 6 dX8_measures_88 (by decide) ?_
              have hS2 := hS1.set ((A1 10).set c (iI (f1F S p c))) (by rw [List.length_set]; exact hl10)
              exact ih (c + 1) (by omega) (by omega) _ _ _ hS2 ((upA_n (by omega)).trans h55) (fun j hj => by
                rw [upA_s]
                by_cases e : j = c
                · rw [e, List.getElem?_set_self (by omega)]
                · rw [List.getElem?_set_ne (by omega)]; exact hr1 j (by omega)) (hf1.tr (VFr.set (by omega) (by omega)))
  show V _ _ 0 [some (.ref m), some (.int (nI p)), some (.int (nI w)), none, none, none, none] [] h
  refine V.aload_n dX8_measures_0 rfl ?_
  refine V.callV (ci := 8) cX8_154 (m_holds g h m F A hM.1) dX8_measures_1 (Nat.le_of_ble_eq_true rfl) rfl ho rfl rfl (Nat.le_of_ble_eq_true rfl) (fun v_ h_ hp_ => ?_)
  obtain ⟨rfl, hw2, hf2⟩ := hp_
  dsimp only [Option.toList, List.nil_append]
  refine V.iconst (v := nI 0) dX8_measures_4 (by decide) ?_
  refine V.istore_n (i := 3) dX8_measures_5 rfl rfl rfl ?_
  dsimp only [List.set]
  exact L1 0 (by omega) _ _ none ⟨hw2, upA_s, fun j h1 h2 h3 => upA_n h2⟩ (upA_n (by omega)) (fun j hj => absurd hj (Nat.not_lt_zero _)) (hf2.wide (by omega) (by omega))
