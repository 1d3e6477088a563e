/-! THE LAW -/
def scv (g : VG) (j : Nat) : Int := (g.2.2.getD j 0).toInt
theorem scv_eq (g : VG) (j : Nat) : g.2.2.getD j 0 = iI (scv g j) := (Int32.ofInt_toInt _).symm
theorem scv_bd (g : VG) (j : Nat) : -2147483648 ≤ scv g j ∧ scv g j < 2147483648 := ⟨Int32.le_toInt _, Int32.toInt_lt _⟩
theorem and31 (x : Int32) : ∃ w, w < 32 ∧ x &&& nI 31 = nI w := by
  refine ⟨(x.toBitVec &&& (nI 31).toBitVec).toNat, ?_, ?_⟩
  · rw [BitVec.toNat_and]
    exact Nat.lt_of_le_of_lt Nat.and_le_right (by decide)
  · apply Int32.toBitVec_inj.mp
    rw [Int32.toBitVec_and]
    show _ = BitVec.ofNat 32 _
    rw [BitVec.ofNat_toNat, BitVec.setWidth_eq]
theorem CAt.keep {h h' : VHp} {c lo hi : Nat} {T : Sy} (w : CAt h c T) (f : VFr lo hi h h') (hd : c + 92 ≤ lo ∨ hi ≤ c) : CAt h' c T := by
  obtain ⟨h0, h1, ⟨nm, h2⟩, h3, ⟨Q, h4⟩, h5, h6, h7, h8, h9⟩ := w
  exact ⟨by rw [f.2 _ (by omega)]; exact h0, h1.keep f (by omega), ⟨nm, h2.keep f (by omega)⟩, h3.keep f (by omega), ⟨Q, h4.keep f (by omega)⟩, h5.keep f (by omega), h6.keep f (by omega), h7.keep f (by omega), h8.keep f (by omega), h9.keep f (by omega)⟩
theorem MAt.keep {h h' : VHp} {m lo hi : Nat} {T : Sy} (w : MAt h m T) (f : VFr lo hi h h') (hd : m + 12 ≤ lo ∨ hi ≤ m) : MAt h' m T := by
  obtain ⟨F, A, hM, rest⟩ := w
  exact ⟨F, A, ⟨hM.1.keep f hd, hM.2⟩, rest⟩
theorem RoomAt.ext {h h' : VHp} {r : Nat} {S : Rm} (w : RoomAt h r S) (f : ∀ x, r ≤ x → x < r + 6 → h'[x]? = h[x]?) : RoomAt h' r S := by
  obtain ⟨kd, xs, ys, vs, ll, h0, h1, h2, h3, h4, h5, rest⟩ := w
  exact ⟨kd, xs, ys, vs, ll, by rw [f _ (by omega) (by omega)]; exact h0, by rw [f _ (by omega) (by omega)]; exact h1, by rw [f _ (by omega) (by omega)]; exact h2, by rw [f _ (by omega) (by omega)]; exact h3, by rw [f _ (by omega) (by omega)]; exact h4, by rw [f _ (by omega) (by omega)]; exact h5, rest⟩
/-- the heap has grown -/
theorem CAt.ext {h h' : VHp} {c : Nat} {T : Sy} (w : CAt h c T) (f : ∀ x, x < c + 92 → h'[x]? = h[x]?) : CAt h' c T := by
  obtain ⟨h0, h1, ⟨nm, h2⟩, h3, ⟨Q, h4⟩, h5, h6, h7, h8, h9⟩ := w
  refine ⟨by rw [f _ (by omega)]; exact h0, ?_, ⟨nm, ?_⟩, h3.ext (fun x _ _ => f x (by omega)), ⟨Q, h4.ext (fun x _ _ => f x (by omega))⟩, ?_, ?_, ?_, ?_, ?_⟩
  · obtain ⟨lt, a0, a1, rest⟩ := h1
    exact ⟨lt, by rw [f _ (by omega)]; exact a0, by rw [f _ (by omega)]; exact a1, rest⟩
  · exact ⟨by rw [f _ (by omega)]; exact h2.1, by rw [f _ (by omega)]; exact h2.2.1, h2.2.2⟩
  · obtain ⟨nx, a0, a1, a2, a3, a4, a5⟩ := h5
    exact ⟨nx, a0, a1, by rw [f _ (by omega)]; exact a2, by rw [f _ (by omega)]; exact a3, fun i hi => (a4 i hi).imp (fun Q q => q.ext (fun x _ _ => f x (by omega))), fun j hj => (a5 j hj).ext (fun x _ _ => f x (by omega))⟩
  · obtain ⟨wh, hb, wy, a0, a1, a2, a3, rest⟩ := h6
    exact ⟨wh, hb, wy, by rw [f _ (by omega)]; exact a0, by rw [f _ (by omega)]; exact a1, by rw [f _ (by omega)]; exact a2, by rw [f _ (by omega)]; exact a3, rest⟩
  · obtain ⟨a, b, d, e, g, x, a0, a1, a2, a3, a4, a5, rest⟩ := h7
    exact ⟨a, b, d, e, g, x, by rw [f _ (by omega)]; exact a0, by rw [f _ (by omega)]; exact a1, by rw [f _ (by omega)]; exact a2, by rw [f _ (by omega)]; exact a3, by rw [f _ (by omega)]; exact a4, by rw [f _ (by omega)]; exact a5, rest⟩
  · obtain ⟨a, a0, a1, rest⟩ := h8
    exact ⟨a, by rw [f _ (by omega)]; exact a0, by rw [f _ (by omega)]; exact a1, rest⟩
  · obtain ⟨a0, a1, a2, a3⟩ := h9
    exact ⟨by rw [f _ (by omega)]; exact a0, a1, fun i hi => (a2 i hi).imp (fun Q q => q.ext (fun x _ _ => f x (by omega))), fun i hi => (a3 i hi).ext (fun x _ _ => f x (by omega))⟩
/-- a cell that is in order -/
def okAt (h : VHp) (n i : Nat) : Prop := ∃ c, h[i]? = some c ∧ vokc n c
theorem RoomAt.okc {h : VHp} {r n : Nat} {S : Rm} (w : RoomAt h r S) (hn : r + 6 ≤ n) : ∀ i, r ≤ i → i < r + 6 → okAt h n i := by
  obtain ⟨kd, xs, ys, vs, ll, h0, h1, h2, h3, h4, h5, rest⟩ := w
  intro i a b
  rcases (show i = r ∨ i = r + 1 ∨ i = r + 2 ∨ i = r + 3 ∨ i = r + 4 ∨ i = r + 5 by omega) with q | q | q | q | q | q <;> subst q
  · exact ⟨_, h0, vfc (vor (by omega)) (vfc (vor (by omega)) (vfc (vor (by omega)) (vfc (vor (by omega)) (vfc (vor (by omega)) (vfc trivial (vfc trivial (vfc trivial (vfc trivial vfn))))))))⟩
  · exact ⟨_, h1, trivial⟩
  · exact ⟨_, h2, trivial⟩
  · exact ⟨_, h3, trivial⟩
  · exact ⟨_, h4, trivial⟩
  · exact ⟨_, h5, trivial⟩
theorem refs_ok {n : Nat} {rs : List (Option Nat)} (h : (rs.all (fun o => match o with
    | none => true
    | some q => decide (q < n))) = true) : vokc n (.inr (.inl rs)) := fun q hq => of_decide_eq_true (List.all_eq_true.mp h (some q) hq)
theorem CAt.okc {h : VHp} {T : Sy} (w : CAt h 0 T) : ∀ i, i < 92 → okAt h 92 i := by
  obtain ⟨h0, ⟨lt, t0, t1, -⟩, ⟨nm, r0, r1, -⟩, h3, ⟨Q, h4⟩, ⟨nx, -, -, p0, p1, p2, -⟩, ⟨wh, hb, wy, s0, s1, s2, s3, -⟩, ⟨fa, fb, fd, fe, fg, fx, e0, e1, e2, e3, e4, e5, -⟩, ⟨cm, c0, c1, -⟩, k0, -, k2, -⟩ := w
  intro i hi
  by_cases q1 : 5 ≤ i ∧ i < 11
  · exact h3.okc (by omega) i q1.1 q1.2
  by_cases q2 : 11 ≤ i ∧ i < 17
  · exact h4.okc (by omega) i q2.1 q2.2
  by_cases q3 : 19 ≤ i ∧ i < 67
  · obtain ⟨Q2, z⟩ := p2 ((i - 19) / 6) (by omega)
    exact z.okc (by omega) i (by omega) (by omega)
  by_cases q4 : 80 ≤ i
  · obtain ⟨Q2, z⟩ := k2 ((i - 80) / 6) (by omega)
    exact z.okc (by omega) i (by omega) (by omega)
  rcases (show i = 0 ∨ i = 1 ∨ i = 2 ∨ i = 3 ∨ i = 4 ∨ i = 17 ∨ i = 18 ∨ i = 67 ∨ i = 68 ∨ i = 69 ∨ i = 70 ∨ i = 71 ∨ i = 72 ∨ i = 73 ∨ i = 74 ∨ i = 75 ∨ i = 76 ∨ i = 77 ∨ i = 78 ∨ i = 79 by omega) with q | q | q | q | q | q | q | q | q | q | q | q | q | q | q | q | q | q | q | q <;> subst q
  · exact ⟨_, h0, vfc (vor (by omega)) (vfc (vor (by omega)) (vfc (vor (by omega)) (vfc (vor (by omega)) (vfc (vor (by omega)) (vfc (vor (by omega)) (vfc (vor (by omega)) (vfc (vor (by omega)) (vfc (vor (by omega)) (vfc trivial vfn)))))))))⟩
  · exact ⟨_, t0, vfc (vor (by omega)) (vfc trivial vfn)⟩
  · exact ⟨_, t1, trivial⟩
  · exact ⟨_, r0, vfc (vor (by omega)) vfn⟩
  · exact ⟨_, r1, trivial⟩
  · exact ⟨_, p0, vfc (vor (by omega)) (vfc trivial (vfc trivial vfn))⟩
  · exact ⟨_, p1, refs_ok (by decide +kernel)⟩
  · exact ⟨_, s0, vfc (vor (by omega)) (vfc (vor (by omega)) (vfc (vor (by omega)) (vfc trivial vfn)))⟩
  · exact ⟨_, s1, trivial⟩
  · exact ⟨_, s2, trivial⟩
  · exact ⟨_, s3, trivial⟩
  · exact ⟨_, e0, vfc (vor (by omega)) (vfc (vor (by omega)) (vfc (vor (by omega)) (vfc (vor (by omega)) (vfc (vor (by omega)) (vfc trivial vfn)))))⟩
  · exact ⟨_, e1, trivial⟩
  · exact ⟨_, e2, trivial⟩
  · exact ⟨_, e3, trivial⟩
  · exact ⟨_, e4, trivial⟩
  · exact ⟨_, e5, trivial⟩
  · exact ⟨_, c0, vfc (vor (by omega)) vfn⟩
  · exact ⟨_, c1, trivial⟩
  · exact ⟨_, k0, refs_ok (by decide +kernel)⟩
theorem CAt.wf {h : VHp} {T : Sy} (w : CAt h 0 T) (hl : h.length = 92) : vwf 92 h := by
  intro c hc
  obtain ⟨i, hi⟩ := List.getElem?_of_mem hc
  have hlt := (List.getElem?_eq_some_iff.mp hi).1
  obtain ⟨c', h1, h2⟩ := w.okc i (by omega)
  rw [hi] at h1
  cases h1
  exact h2
theorem vor2 {n q : Nat} (h : 1000000 ≤ q) : vokv n (.ref q) := Or.inr h

theorem MAt.obj {h : VHp} {m : Nat} {T : Sy} (w : MAt h m T) : ∃ fs, h[m]? = some (.inr (.inr (8, fs))) := by
  obtain ⟨F, A, hM, -⟩ := w
  exact ⟨_, hM.1.1⟩
set_option maxHeartbeats 8000000 in
theorem law_loop (g : VG) (hL : g.2.2.length ≤ 320) : ∀ i, i ≤ 400 → ∀ (h1 : VHp) (T : Sy), CAt h1 0 T → MAt h1 92 T → SyOk T → V (g, mL_law, 20, true, 0, (fun v _ => v = some (.int 1))) (0, 0) 18 [some (.ref 1000000), some (.ref 0), some (.ref 92), some (.int (nI i))] [] h1 := by
  refine vloop 400 (fun i ih hi => ?_)
  intro h1 T hC hM hO
  have hoc := hC.1
  refine V.iload_n dL_law_18 rfl ?_
  refine V.aload_n dL_law_19 rfl ?_
  refine V.alen0 (v := nI g.2.2.length) dL_law_20 rfl ?_
  refine V.iconst (v := nI 5) dL_law_21 (by decide) ?_
  refine V.toZ1 ?_
  refine V.toZ2 ?_
  refine V.isubZ dL_law_22 ?_
  refine V.toZ2 ?_
  refine V.icmp_gtZ 903 dL_law_23 (by decide) (by omega) (by omega) (fun hc1 => ?_) (fun hc1 => ?_)
  · skip
    refine V.iconst (v := nI 1) dL_law_903 (by decide) ?_
    exact V.zret dL_law_904 rfl (Or.inr rfl) rfl
  · skip
    refine V.aload_n dL_law_26 rfl ?_
    refine V.iload_n dL_law_27 rfl ?_
    refine V.ald0 dL_law_28 rfl (show i < g.2.2.length by omega) (by omega) ?_
    refine V.bipush (v := nI 31) dL_law_29 (by decide) ?_
    refine V.iand dL_law_31 ?_
    obtain ⟨w9, hw32, hw9⟩ := and31 (g.2.2.getD i 0)
    refine V.re hw9 ?_
    rcases (show w9 = 0 ∨ w9 = 1 ∨ w9 = 2 ∨ w9 = 3 ∨ w9 = 4 ∨ w9 = 5 ∨ w9 = 6 ∨ w9 = 7 ∨ w9 = 8 ∨ w9 = 9 ∨ w9 = 10 ∨ w9 = 11 ∨ w9 = 12 ∨ w9 = 13 ∨ w9 = 14 ∨ w9 = 15 ∨ w9 = 16 ∨ w9 = 17 ∨ w9 = 18 ∨ w9 = 19 ∨ w9 = 20 ∨ w9 = 21 ∨ w9 = 22 ∨ w9 = 23 ∨ w9 = 24 ∨ w9 = 25 ∨ w9 = 26 ∨ 27 ≤ w9 by omega) with hq | hq | hq | hq | hq | hq | hq | hq | hq | hq | hq | hq | hq | hq | hq | hq | hq | hq | hq | hq | hq | hq | hq | hq | hq | hq | hq | hq
    · skip
      subst hq
      refine V.tabIn (off := 124) 156 dL_law_32 (by decide) (by decide) (by decide) (by decide) ?_
      refine V.aload_n dL_law_156 rfl ?_
      refine V.aload_n dL_law_157 rfl ?_
      refine V.iload_n dL_law_158 rfl ?_
      refine V.iconst (v := nI 1) dL_law_159 (by decide) ?_
      refine V.iaddN dL_law_160 ?_
      refine V.ald0 dL_law_161 rfl (show i + 1 < g.2.2.length by omega) (by omega) ?_
      refine V.re (y := iI (scv g (i + 1))) (scv_eq g _) ?_
      refine V.callV (ci := 7) cL_13 (c_write g h1 0 T hC hO (scv g (i + 1)) (scv_bd g _)) dL_law_162 (Nat.le_of_ble_eq_true rfl) rfl hoc rfl rfl (Nat.le_of_ble_eq_true rfl) (fun v_ h_ hp_ => ?_)
      obtain ⟨rfl, hC2, hf2⟩ := hp_
      dsimp only [Option.toList, List.cons_append, List.nil_append]
      generalize h_ = h2 at hC2 hf2 ⊢
      have hM2 := hM.keep hf2 (by omega)
      obtain ⟨fs2, hom2⟩ := hM2.obj
      refine V.aload_n dL_law_165 rfl ?_
      refine V.aload_n dL_law_166 rfl ?_
      refine V.iload_n dL_law_167 rfl ?_
      refine V.iconst (v := nI 1) dL_law_168 (by decide) ?_
      refine V.iaddN dL_law_169 ?_
      refine V.ald0 dL_law_170 rfl (show i + 1 < g.2.2.length by omega) (by omega) ?_
      refine V.re (y := iI (scv g (i + 1))) (scv_eq g _) ?_
      refine V.callV (ci := 8) cL_17 (r_write g h2 92 T hM2 hO (scv g (i + 1)) (scv_bd g _)) dL_law_171 (Nat.le_of_ble_eq_true rfl) rfl hom2 rfl rfl (Nat.le_of_ble_eq_true rfl) (fun v_ h_ hp_ => ?_)
      obtain ⟨rfl, hM3, hf3⟩ := hp_
      dsimp only [Option.toList, List.cons_append, List.nil_append]
      generalize h_ = h3 at hM3 hf3 ⊢
      have hC3 := hC2.keep hf3 (by omega)
      refine V.icmp_eq 897 dL_law_174 (by decide) (fun hc2 => ?_) (fun hc2 => ?_)
      · skip
        refine V.iincN (n := 5) dL_law_897 rfl rfl rfl ?_
        dsimp only [List.set]
        refine V.goto 18 dL_law_900 (by decide) ?_
        exact ih (i + 5) (by omega) (by omega) h3 (n_write T (scv g (i + 1))) hC3 hM3 (ok_write hO _)
      · exact absurd rfl hc2
    · skip
      subst hq
      refine V.tabIn (off := 147) 179 dL_law_32 (by decide) (by decide) (by decide) (by decide) ?_
      refine V.aload_n dL_law_179 rfl ?_
      refine V.callV (ci := 7) cL_18 (c_wipe g h1 0 T hC hO  ) dL_law_180 (Nat.le_of_ble_eq_true rfl) rfl hoc rfl rfl (Nat.le_of_ble_eq_true rfl) (fun v_ h_ hp_ => ?_)
      obtain ⟨rfl, hC2, hf2⟩ := hp_
      dsimp only [Option.toList, List.cons_append, List.nil_append]
      generalize h_ = h2 at hC2 hf2 ⊢
      have hM2 := hM.keep hf2 (by omega)
      obtain ⟨fs2, hom2⟩ := hM2.obj
      refine V.aload_n dL_law_183 rfl ?_
      refine V.callV (ci := 8) cL_22 (r_wipe g h2 92 T hM2 hO  ) dL_law_184 (Nat.le_of_ble_eq_true rfl) rfl hom2 rfl rfl (Nat.le_of_ble_eq_true rfl) (fun v_ h_ hp_ => ?_)
      obtain ⟨rfl, hM3, hf3⟩ := hp_
      dsimp only [Option.toList, List.cons_append, List.nil_append]
      generalize h_ = h3 at hM3 hf3 ⊢
      have hC3 := hC2.keep hf3 (by omega)
      refine V.icmp_eq 897 dL_law_187 (by decide) (fun hc3 => ?_) (fun hc3 => ?_)
      · skip
        refine V.iincN (n := 5) dL_law_897 rfl rfl rfl ?_
        dsimp only [List.set]
        refine V.goto 18 dL_law_900 (by decide) ?_
        exact ih (i + 5) (by omega) (by omega) h3 (([], T.2)) hC3 hM3 (ok_wipe hO)
      · exact absurd rfl hc3
    · skip
      subst hq
      refine V.tabIn (off := 160) 192 dL_law_32 (by decide) (by decide) (by decide) (by decide) ?_
      refine V.aload_n dL_law_192 rfl ?_
      refine V.callV (ci := 7) cL_23 (c_fault g h1 0 T hC hO  ) dL_law_193 (Nat.le_of_ble_eq_true rfl) rfl hoc rfl rfl (Nat.le_of_ble_eq_true rfl) (fun v_ h_ hp_ => ?_)
      obtain ⟨rfl, hC2, hf2⟩ := hp_
      dsimp only [Option.toList, List.cons_append, List.nil_append]
      generalize h_ = h2 at hC2 hf2 ⊢
      have hM2 := hM.keep hf2 (by omega)
      obtain ⟨fs2, hom2⟩ := hM2.obj
      refine V.aload_n dL_law_196 rfl ?_
      refine V.callV (ci := 8) cL_26 (r_fault g h2 92 T hM2 hO  ) dL_law_197 (Nat.le_of_ble_eq_true rfl) rfl hom2 rfl rfl (Nat.le_of_ble_eq_true rfl) (fun v_ h_ hp_ => ?_)
      obtain ⟨rfl, hM3, hf3⟩ := hp_
      dsimp only [Option.toList, List.cons_append, List.nil_append]
      generalize h_ = h3 at hM3 hf3 ⊢
      have hC3 := hC2.keep hf3 (by omega)
      refine V.icmp_eq 897 dL_law_200 (by decide) (fun hc4 => ?_) (fun hc4 => ?_)
      · skip
        refine V.iincN (n := 5) dL_law_897 rfl rfl rfl ?_
        dsimp only [List.set]
        refine V.goto 18 dL_law_900 (by decide) ?_
        exact ih (i + 5) (by omega) (by omega) h3 (T) hC3 hM3 (hO)
      · exact absurd rfl hc4
    · skip
      subst hq
      refine V.tabIn (off := 173) 205 dL_law_32 (by decide) (by decide) (by decide) (by decide) ?_
      refine V.aload_n dL_law_205 rfl ?_
      refine V.callV (ci := 7) cL_27 (c_lay g h1 0 T hC hO  ) dL_law_206 (Nat.le_of_ble_eq_true rfl) rfl hoc rfl rfl (Nat.le_of_ble_eq_true rfl) (fun v_ h_ hp_ => ?_)
      obtain ⟨rfl, hC2, hf2⟩ := hp_
      dsimp only [Option.toList, List.cons_append, List.nil_append]
      generalize h_ = h2 at hC2 hf2 ⊢
      have hM2 := hM.keep hf2 (by omega)
      obtain ⟨fs2, hom2⟩ := hM2.obj
      refine V.aload_n dL_law_209 rfl ?_
      refine V.callV (ci := 8) cL_30 (r_lay g h2 92 T hM2 hO  ) dL_law_210 (Nat.le_of_ble_eq_true rfl) rfl hom2 rfl rfl (Nat.le_of_ble_eq_true rfl) (fun v_ h_ hp_ => ?_)
      obtain ⟨rfl, hM3, hf3⟩ := hp_
      dsimp only [Option.toList, List.cons_append, List.nil_append]
      generalize h_ = h3 at hM3 hf3 ⊢
      have hC3 := hC2.keep hf3 (by omega)
      refine V.icmp_eq 897 dL_law_213 (by decide) (fun hc5 => ?_) (fun hc5 => ?_)
      · skip
        refine V.iincN (n := 5) dL_law_897 rfl rfl rfl ?_
        dsimp only [List.set]
        refine V.goto 18 dL_law_900 (by decide) ?_
        exact ih (i + 5) (by omega) (by omega) h3 (n_lay T) hC3 hM3 (ok_lay hO)
      · exact absurd rfl hc5
    · skip
      subst hq
      refine V.tabIn (off := 186) 218 dL_law_32 (by decide) (by decide) (by decide) (by decide) ?_
      refine V.aload_n dL_law_218 rfl ?_
      refine V.aload_n dL_law_219 rfl ?_
      refine V.iload_n dL_law_220 rfl ?_
      refine V.iconst (v := nI 1) dL_law_221 (by decide) ?_
      refine V.iaddN dL_law_222 ?_
      refine V.ald0 dL_law_223 rfl (show i + 1 < g.2.2.length by omega) (by omega) ?_
      refine V.re (y := iI (scv g (i + 1))) (scv_eq g _) ?_
      refine V.aload_n dL_law_224 rfl ?_
      refine V.iload_n dL_law_225 rfl ?_
      refine V.iconst (v := nI 2) dL_law_226 (by decide) ?_
      refine V.iaddN dL_law_227 ?_
      refine V.ald0 dL_law_228 rfl (show i + 2 < g.2.2.length by omega) (by omega) ?_
      refine V.re (y := iI (scv g (i + 2))) (scv_eq g _) ?_
      refine V.callVp (ci := 7) cL_31 (c_person g h1 0 T hC hO (scv g (i + 1)) (scv g (i + 2)) (scv_bd g _) (scv_bd g _)) dL_law_229 (Nat.le_of_ble_eq_true rfl) rfl hoc rfl rfl (Nat.le_of_ble_eq_true rfl) ?_
      have hC2 := hC
      have hM2 := hM
      obtain ⟨h2, eh2⟩ : ∃ h2, h2 = h1 := ⟨_, rfl⟩
      rw [← eh2] at hC2 hM2 ⊢
      obtain ⟨fs2, hom2⟩ := hM2.obj
      refine V.aload_n dL_law_232 rfl ?_
      refine V.aload_n dL_law_233 rfl ?_
      refine V.iload_n dL_law_234 rfl ?_
      refine V.iconst (v := nI 1) dL_law_235 (by decide) ?_
      refine V.iaddN dL_law_236 ?_
      refine V.ald0 dL_law_237 rfl (show i + 1 < g.2.2.length by omega) (by omega) ?_
      refine V.re (y := iI (scv g (i + 1))) (scv_eq g _) ?_
      refine V.aload_n dL_law_238 rfl ?_
      refine V.iload_n dL_law_239 rfl ?_
      refine V.iconst (v := nI 2) dL_law_240 (by decide) ?_
      refine V.iaddN dL_law_241 ?_
      refine V.ald0 dL_law_242 rfl (show i + 2 < g.2.2.length by omega) (by omega) ?_
      refine V.re (y := iI (scv g (i + 2))) (scv_eq g _) ?_
      refine V.callVp (ci := 8) cL_35 (r_person g h2 92 T hM2 hO (scv g (i + 1)) (scv g (i + 2)) (scv_bd g _) (scv_bd g _)) dL_law_243 (Nat.le_of_ble_eq_true rfl) rfl hom2 rfl rfl (Nat.le_of_ble_eq_true rfl) ?_
      have hC3 := hC2
      have hM3 := hM2
      obtain ⟨h3, eh3⟩ : ∃ h3, h3 = h2 := ⟨_, rfl⟩
      rw [← eh3] at hC3 hM3 ⊢
      refine V.icmp_eq 897 dL_law_246 (by decide) (fun hc6 => ?_) (fun hc6 => ?_)
      · skip
        refine V.iincN (n := 5) dL_law_897 rfl rfl rfl ?_
        dsimp only [List.set]
        refine V.goto 18 dL_law_900 (by decide) ?_
        exact ih (i + 5) (by omega) (by omega) h3 (T) hC3 hM3 (hO)
      · exact absurd rfl hc6
    · skip
      subst hq
      refine V.tabIn (off := 219) 251 dL_law_32 (by decide) (by decide) (by decide) (by decide) ?_
      refine V.aload_n dL_law_251 rfl ?_
      refine V.aload_n dL_law_252 rfl ?_
      refine V.iload_n dL_law_253 rfl ?_
      refine V.iconst (v := nI 1) dL_law_254 (by decide) ?_
      refine V.iaddN dL_law_255 ?_
      refine V.ald0 dL_law_256 rfl (show i + 1 < g.2.2.length by omega) (by omega) ?_
      refine V.re (y := iI (scv g (i + 1))) (scv_eq g _) ?_
      refine V.aload_n dL_law_257 rfl ?_
      refine V.iload_n dL_law_258 rfl ?_
      refine V.iconst (v := nI 2) dL_law_259 (by decide) ?_
      refine V.iaddN dL_law_260 ?_
      refine V.ald0 dL_law_261 rfl (show i + 2 < g.2.2.length by omega) (by omega) ?_
      refine V.re (y := iI (scv g (i + 2))) (scv_eq g _) ?_
      refine V.callVp (ci := 7) cL_36 (c_leaning g h1 0 T hC hO (scv g (i + 1)) (scv g (i + 2)) (scv_bd g _) (scv_bd g _)) dL_law_262 (Nat.le_of_ble_eq_true rfl) rfl hoc rfl rfl (Nat.le_of_ble_eq_true rfl) ?_
      have hC2 := hC
      have hM2 := hM
      obtain ⟨h2, eh2⟩ : ∃ h2, h2 = h1 := ⟨_, rfl⟩
      rw [← eh2] at hC2 hM2 ⊢
      obtain ⟨fs2, hom2⟩ := hM2.obj
      refine V.aload_n dL_law_265 rfl ?_
      refine V.aload_n dL_law_266 rfl ?_
      refine V.iload_n dL_law_267 rfl ?_
      refine V.iconst (v := nI 1) dL_law_268 (by decide) ?_
      refine V.iaddN dL_law_269 ?_
      refine V.ald0 dL_law_270 rfl (show i + 1 < g.2.2.length by omega) (by omega) ?_
      refine V.re (y := iI (scv g (i + 1))) (scv_eq g _) ?_
      refine V.aload_n dL_law_271 rfl ?_
      refine V.iload_n dL_law_272 rfl ?_
      refine V.iconst (v := nI 2) dL_law_273 (by decide) ?_
      refine V.iaddN dL_law_274 ?_
      refine V.ald0 dL_law_275 rfl (show i + 2 < g.2.2.length by omega) (by omega) ?_
      refine V.re (y := iI (scv g (i + 2))) (scv_eq g _) ?_
      refine V.callVp (ci := 8) cL_39 (r_leaning g h2 92 T hM2 hO (scv g (i + 1)) (scv g (i + 2)) (scv_bd g _) (scv_bd g _)) dL_law_276 (Nat.le_of_ble_eq_true rfl) rfl hom2 rfl rfl (Nat.le_of_ble_eq_true rfl) ?_
      have hC3 := hC2
      have hM3 := hM2
      obtain ⟨h3, eh3⟩ : ∃ h3, h3 = h2 := ⟨_, rfl⟩
      rw [← eh3] at hC3 hM3 ⊢
      refine V.icmp_eq 897 dL_law_279 (by decide) (fun hc7 => ?_) (fun hc7 => ?_)
      · skip
        refine V.iincN (n := 5) dL_law_897 rfl rfl rfl ?_
        dsimp only [List.set]
        refine V.goto 18 dL_law_900 (by decide) ?_
        exact ih (i + 5) (by omega) (by omega) h3 (T) hC3 hM3 (hO)
      · exact absurd rfl hc7
    · skip
      subst hq
      refine V.tabIn (off := 252) 284 dL_law_32 (by decide) (by decide) (by decide) (by decide) ?_
      refine V.aload_n dL_law_284 rfl ?_
      refine V.aload_n dL_law_285 rfl ?_
      refine V.iload_n dL_law_286 rfl ?_
      refine V.iconst (v := nI 1) dL_law_287 (by decide) ?_
      refine V.iaddN dL_law_288 ?_
      refine V.ald0 dL_law_289 rfl (show i + 1 < g.2.2.length by omega) (by omega) ?_
      refine V.re (y := iI (scv g (i + 1))) (scv_eq g _) ?_
      refine V.aload_n dL_law_290 rfl ?_
      refine V.iload_n dL_law_291 rfl ?_
      refine V.iconst (v := nI 2) dL_law_292 (by decide) ?_
      refine V.iaddN dL_law_293 ?_
      refine V.ald0 dL_law_294 rfl (show i + 2 < g.2.2.length by omega) (by omega) ?_
      refine V.re (y := iI (scv g (i + 2))) (scv_eq g _) ?_
      refine V.callVp (ci := 7) cL_40 (c_place g h1 0 T hC hO (scv g (i + 1)) (scv g (i + 2)) (scv_bd g _) (scv_bd g _)) dL_law_295 (Nat.le_of_ble_eq_true rfl) rfl hoc rfl rfl (Nat.le_of_ble_eq_true rfl) ?_
      have hC2 := hC
      have hM2 := hM
      obtain ⟨h2, eh2⟩ : ∃ h2, h2 = h1 := ⟨_, rfl⟩
      rw [← eh2] at hC2 hM2 ⊢
      obtain ⟨fs2, hom2⟩ := hM2.obj
      refine V.aload_n dL_law_298 rfl ?_
      refine V.aload_n dL_law_299 rfl ?_
      refine V.iload_n dL_law_300 rfl ?_
      refine V.iconst (v := nI 1) dL_law_301 (by decide) ?_
      refine V.iaddN dL_law_302 ?_
      refine V.ald0 dL_law_303 rfl (show i + 1 < g.2.2.length by omega) (by omega) ?_
      refine V.re (y := iI (scv g (i + 1))) (scv_eq g _) ?_
      refine V.aload_n dL_law_304 rfl ?_
      refine V.iload_n dL_law_305 rfl ?_
      refine V.iconst (v := nI 2) dL_law_306 (by decide) ?_
      refine V.iaddN dL_law_307 ?_
      refine V.ald0 dL_law_308 rfl (show i + 2 < g.2.2.length by omega) (by omega) ?_
      refine V.re (y := iI (scv g (i + 2))) (scv_eq g _) ?_
      refine V.callVp (ci := 8) cL_43 (r_place g h2 92 T hM2 hO (scv g (i + 1)) (scv g (i + 2)) (scv_bd g _) (scv_bd g _)) dL_law_309 (Nat.le_of_ble_eq_true rfl) rfl hom2 rfl rfl (Nat.le_of_ble_eq_true rfl) ?_
      have hC3 := hC2
      have hM3 := hM2
      obtain ⟨h3, eh3⟩ : ∃ h3, h3 = h2 := ⟨_, rfl⟩
      rw [← eh3] at hC3 hM3 ⊢
      refine V.icmp_eq 897 dL_law_312 (by decide) (fun hc8 => ?_) (fun hc8 => ?_)
      · skip
        refine V.iincN (n := 5) dL_law_897 rfl rfl rfl ?_
        dsimp only [List.set]
        refine V.goto 18 dL_law_900 (by decide) ?_
        exact ih (i + 5) (by omega) (by omega) h3 (T) hC3 hM3 (hO)
      · exact absurd rfl hc8
    · skip
      subst hq
      refine V.tabIn (off := 285) 317 dL_law_32 (by decide) (by decide) (by decide) (by decide) ?_
      refine V.aload_n dL_law_317 rfl ?_
      refine V.aload_n dL_law_318 rfl ?_
      refine V.iload_n dL_law_319 rfl ?_
      refine V.iconst (v := nI 1) dL_law_320 (by decide) ?_
      refine V.iaddN dL_law_321 ?_
      refine V.ald0 dL_law_322 rfl (show i + 1 < g.2.2.length by omega) (by omega) ?_
      refine V.re (y := iI (scv g (i + 1))) (scv_eq g _) ?_
      refine V.callV (ci := 7) cL_44 (c_pass g h1 0 T hC hO (scv g (i + 1)) (scv_bd g _)) dL_law_323 (Nat.le_of_ble_eq_true rfl) rfl hoc rfl rfl (Nat.le_of_ble_eq_true rfl) (fun v_ h_ hp_ => ?_)
      obtain ⟨rfl, hC2, hf2⟩ := hp_
      dsimp only [Option.toList, List.cons_append, List.nil_append]
      generalize h_ = h2 at hC2 hf2 ⊢
      have hM2 := hM.keep hf2 (by omega)
      obtain ⟨fs2, hom2⟩ := hM2.obj
      refine V.aload_n dL_law_326 rfl ?_
      refine V.aload_n dL_law_327 rfl ?_
      refine V.iload_n dL_law_328 rfl ?_
      refine V.iconst (v := nI 1) dL_law_329 (by decide) ?_
      refine V.iaddN dL_law_330 ?_
      refine V.ald0 dL_law_331 rfl (show i + 1 < g.2.2.length by omega) (by omega) ?_
      refine V.re (y := iI (scv g (i + 1))) (scv_eq g _) ?_
      refine V.callV (ci := 8) cL_47 (r_pass g h2 92 T hM2 hO (scv g (i + 1)) (scv_bd g _)) dL_law_332 (Nat.le_of_ble_eq_true rfl) rfl hom2 rfl rfl (Nat.le_of_ble_eq_true rfl) (fun v_ h_ hp_ => ?_)
      obtain ⟨rfl, hM3, hf3⟩ := hp_
      dsimp only [Option.toList, List.cons_append, List.nil_append]
      generalize h_ = h3 at hM3 hf3 ⊢
      have hC3 := hC2.keep hf3 (by omega)
      refine V.icmp_eq 897 dL_law_335 (by decide) (fun hc9 => ?_) (fun hc9 => ?_)
      · skip
        refine V.iincN (n := 5) dL_law_897 rfl rfl rfl ?_
        dsimp only [List.set]
        refine V.goto 18 dL_law_900 (by decide) ?_
        exact ih (i + 5) (by omega) (by omega) h3 (n_pass T (scv g (i + 1))) hC3 hM3 (ok_pass hO _)
      · exact absurd rfl hc9
    · skip
      subst hq
      refine V.tabIn (off := 308) 340 dL_law_32 (by decide) (by decide) (by decide) (by decide) ?_
      refine V.aload_n dL_law_340 rfl ?_
      refine V.aload_n dL_law_341 rfl ?_
      refine V.iload_n dL_law_342 rfl ?_
      refine V.iconst (v := nI 1) dL_law_343 (by decide) ?_
      refine V.iaddN dL_law_344 ?_
      refine V.ald0 dL_law_345 rfl (show i + 1 < g.2.2.length by omega) (by omega) ?_
      refine V.re (y := iI (scv g (i + 1))) (scv_eq g _) ?_
      refine V.aload_n dL_law_346 rfl ?_
      refine V.iload_n dL_law_347 rfl ?_
      refine V.iconst (v := nI 2) dL_law_348 (by decide) ?_
      refine V.iaddN dL_law_349 ?_
      refine V.ald0 dL_law_350 rfl (show i + 2 < g.2.2.length by omega) (by omega) ?_
      refine V.re (y := iI (scv g (i + 2))) (scv_eq g _) ?_
      refine V.callV (ci := 7) cL_48 (c_walk g h1 0 T hC hO (scv g (i + 1)) (scv g (i + 2)) (scv_bd g _) (scv_bd g _)) dL_law_351 (Nat.le_of_ble_eq_true rfl) rfl hoc rfl rfl (Nat.le_of_ble_eq_true rfl) (fun v_ h_ hp_ => ?_)
      obtain ⟨rfl, hC2, hf2⟩ := hp_
      dsimp only [Option.toList, List.cons_append, List.nil_append]
      generalize h_ = h2 at hC2 hf2 ⊢
      have hM2 := hM.keep hf2 (by omega)
      obtain ⟨fs2, hom2⟩ := hM2.obj
      refine V.aload_n dL_law_354 rfl ?_
      refine V.aload_n dL_law_355 rfl ?_
      refine V.iload_n dL_law_356 rfl ?_
      refine V.iconst (v := nI 1) dL_law_357 (by decide) ?_
      refine V.iaddN dL_law_358 ?_
      refine V.ald0 dL_law_359 rfl (show i + 1 < g.2.2.length by omega) (by omega) ?_
      refine V.re (y := iI (scv g (i + 1))) (scv_eq g _) ?_
      refine V.aload_n dL_law_360 rfl ?_
      refine V.iload_n dL_law_361 rfl ?_
      refine V.iconst (v := nI 2) dL_law_362 (by decide) ?_
      refine V.iaddN dL_law_363 ?_
      refine V.ald0 dL_law_364 rfl (show i + 2 < g.2.2.length by omega) (by omega) ?_
      refine V.re (y := iI (scv g (i + 2))) (scv_eq g _) ?_
      refine V.callV (ci := 8) cL_51 (r_walk g h2 92 T hM2 hO (scv g (i + 1)) (scv g (i + 2)) (scv_bd g _) (scv_bd g _)) dL_law_365 (Nat.le_of_ble_eq_true rfl) rfl hom2 rfl rfl (Nat.le_of_ble_eq_true rfl) (fun v_ h_ hp_ => ?_)
      obtain ⟨rfl, hM3, hf3⟩ := hp_
      dsimp only [Option.toList, List.cons_append, List.nil_append]
      generalize h_ = h3 at hM3 hf3 ⊢
      have hC3 := hC2.keep hf3 (by omega)
      refine V.icmp_eq 897 dL_law_368 (by decide) (fun hc10 => ?_) (fun hc10 => ?_)
      · skip
        refine V.iincN (n := 5) dL_law_897 rfl rfl rfl ?_
        dsimp only [List.set]
        refine V.goto 18 dL_law_900 (by decide) ?_
        exact ih (i + 5) (by omega) (by omega) h3 (n_walk T (scv g (i + 1)) (scv g (i + 2))) hC3 hM3 (ok_walk hO _ _)
      · exact absurd rfl hc10
    · skip
      subst hq
      refine V.tabIn (off := 341) 373 dL_law_32 (by decide) (by decide) (by decide) (by decide) ?_
      refine V.aload_n dL_law_373 rfl ?_
      refine V.aload_n dL_law_374 rfl ?_
      refine V.iload_n dL_law_375 rfl ?_
      refine V.iconst (v := nI 1) dL_law_376 (by decide) ?_
      refine V.iaddN dL_law_377 ?_
      refine V.ald0 dL_law_378 rfl (show i + 1 < g.2.2.length by omega) (by omega) ?_
      refine V.re (y := iI (scv g (i + 1))) (scv_eq g _) ?_
      refine V.aload_n dL_law_379 rfl ?_
      refine V.iload_n dL_law_380 rfl ?_
      refine V.iconst (v := nI 2) dL_law_381 (by decide) ?_
      refine V.iaddN dL_law_382 ?_
      refine V.ald0 dL_law_383 rfl (show i + 2 < g.2.2.length by omega) (by omega) ?_
      refine V.re (y := iI (scv g (i + 2))) (scv_eq g _) ?_
      refine V.aload_n dL_law_384 rfl ?_
      refine V.iload_n dL_law_385 rfl ?_
      refine V.iconst (v := nI 3) dL_law_386 (by decide) ?_
      refine V.iaddN dL_law_387 ?_
      refine V.ald0 dL_law_388 rfl (show i + 3 < g.2.2.length by omega) (by omega) ?_
      refine V.re (y := iI (scv g (i + 3))) (scv_eq g _) ?_
      refine V.callV (ci := 7) cL_52 (c_lean g h1 0 T hC hO (scv g (i + 1)) (scv g (i + 2)) (scv g (i + 3)) (scv_bd g _) (scv_bd g _) (scv_bd g _)) dL_law_389 (Nat.le_of_ble_eq_true rfl) rfl hoc rfl rfl (Nat.le_of_ble_eq_true rfl) (fun v_ h_ hp_ => ?_)
      obtain ⟨rfl, hC2, hf2⟩ := hp_
      dsimp only [Option.toList, List.cons_append, List.nil_append]
      generalize h_ = h2 at hC2 hf2 ⊢
      have hM2 := hM.keep hf2 (by omega)
      obtain ⟨fs2, hom2⟩ := hM2.obj
      refine V.aload_n dL_law_392 rfl ?_
      refine V.aload_n dL_law_393 rfl ?_
      refine V.iload_n dL_law_394 rfl ?_
      refine V.iconst (v := nI 1) dL_law_395 (by decide) ?_
      refine V.iaddN dL_law_396 ?_
      refine V.ald0 dL_law_397 rfl (show i + 1 < g.2.2.length by omega) (by omega) ?_
      refine V.re (y := iI (scv g (i + 1))) (scv_eq g _) ?_
      refine V.aload_n dL_law_398 rfl ?_
      refine V.iload_n dL_law_399 rfl ?_
      refine V.iconst (v := nI 2) dL_law_400 (by decide) ?_
      refine V.iaddN dL_law_401 ?_
      refine V.ald0 dL_law_402 rfl (show i + 2 < g.2.2.length by omega) (by omega) ?_
      refine V.re (y := iI (scv g (i + 2))) (scv_eq g _) ?_
      refine V.aload_n dL_law_403 rfl ?_
      refine V.iload_n dL_law_404 rfl ?_
      refine V.iconst (v := nI 3) dL_law_405 (by decide) ?_
      refine V.iaddN dL_law_406 ?_
      refine V.ald0 dL_law_407 rfl (show i + 3 < g.2.2.length by omega) (by omega) ?_
      refine V.re (y := iI (scv g (i + 3))) (scv_eq g _) ?_
      refine V.callV (ci := 8) cL_56 (r_lean g h2 92 T hM2 hO (scv g (i + 1)) (scv g (i + 2)) (scv g (i + 3)) (scv_bd g _) (scv_bd g _) (scv_bd g _)) dL_law_408 (Nat.le_of_ble_eq_true rfl) rfl hom2 rfl rfl (Nat.le_of_ble_eq_true rfl) (fun v_ h_ hp_ => ?_)
      obtain ⟨rfl, hM3, hf3⟩ := hp_
      dsimp only [Option.toList, List.cons_append, List.nil_append]
      generalize h_ = h3 at hM3 hf3 ⊢
      have hC3 := hC2.keep hf3 (by omega)
      refine V.icmp_eq 897 dL_law_411 (by decide) (fun hc11 => ?_) (fun hc11 => ?_)
      · skip
        refine V.iincN (n := 5) dL_law_897 rfl rfl rfl ?_
        dsimp only [List.set]
        refine V.goto 18 dL_law_900 (by decide) ?_
        exact ih (i + 5) (by omega) (by omega) h3 (n_lean T (scv g (i + 1)) (scv g (i + 2)) (scv g (i + 3))) hC3 hM3 (ok_lean hO _ _ _)
      · exact absurd rfl hc11
    · skip
      subst hq
      refine V.tabIn (off := 384) 416 dL_law_32 (by decide) (by decide) (by decide) (by decide) ?_
      refine V.aload_n dL_law_416 rfl ?_
      refine V.callV (ci := 7) cL_57 (c_undo g h1 0 T hC hO  ) dL_law_417 (Nat.le_of_ble_eq_true rfl) rfl hoc rfl rfl (Nat.le_of_ble_eq_true rfl) (fun v_ h_ hp_ => ?_)
      obtain ⟨rfl, hC2, hf2⟩ := hp_
      dsimp only [Option.toList, List.cons_append, List.nil_append]
      generalize h_ = h2 at hC2 hf2 ⊢
      have hM2 := hM.keep hf2 (by omega)
      obtain ⟨fs2, hom2⟩ := hM2.obj
      refine V.aload_n dL_law_420 rfl ?_
      refine V.callV (ci := 8) cL_60 (r_undo g h2 92 T hM2 hO  ) dL_law_421 (Nat.le_of_ble_eq_true rfl) rfl hom2 rfl rfl (Nat.le_of_ble_eq_true rfl) (fun v_ h_ hp_ => ?_)
      obtain ⟨rfl, hM3, hf3⟩ := hp_
      dsimp only [Option.toList, List.cons_append, List.nil_append]
      generalize h_ = h3 at hM3 hf3 ⊢
      have hC3 := hC2.keep hf3 (by omega)
      refine V.icmp_eq 897 dL_law_424 (by decide) (fun hc12 => ?_) (fun hc12 => ?_)
      · skip
        refine V.iincN (n := 5) dL_law_897 rfl rfl rfl ?_
        dsimp only [List.set]
        refine V.goto 18 dL_law_900 (by decide) ?_
        exact ih (i + 5) (by omega) (by omega) h3 (n_undo T) hC3 hM3 (ok_undo hO)
      · exact absurd rfl hc12
    · skip
      subst hq
      refine V.tabIn (off := 397) 429 dL_law_32 (by decide) (by decide) (by decide) (by decide) ?_
      refine V.aload_n dL_law_429 rfl ?_
      refine V.aload_n dL_law_430 rfl ?_
      refine V.iload_n dL_law_431 rfl ?_
      refine V.iconst (v := nI 1) dL_law_432 (by decide) ?_
      refine V.iaddN dL_law_433 ?_
      refine V.ald0 dL_law_434 rfl (show i + 1 < g.2.2.length by omega) (by omega) ?_
      refine V.re (y := iI (scv g (i + 1))) (scv_eq g _) ?_
      refine V.callVp (ci := 7) cL_61 (c_toward g h1 0 T hC hO (scv g (i + 1)) (scv_bd g _)) dL_law_435 (Nat.le_of_ble_eq_true rfl) rfl hoc rfl rfl (Nat.le_of_ble_eq_true rfl) ?_
      have hC2 := hC
      have hM2 := hM
      obtain ⟨h2, eh2⟩ : ∃ h2, h2 = h1 := ⟨_, rfl⟩
      rw [← eh2] at hC2 hM2 ⊢
      obtain ⟨fs2, hom2⟩ := hM2.obj
      refine V.aload_n dL_law_438 rfl ?_
      refine V.aload_n dL_law_439 rfl ?_
      refine V.iload_n dL_law_440 rfl ?_
      refine V.iconst (v := nI 1) dL_law_441 (by decide) ?_
      refine V.iaddN dL_law_442 ?_
      refine V.ald0 dL_law_443 rfl (show i + 1 < g.2.2.length by omega) (by omega) ?_
      refine V.re (y := iI (scv g (i + 1))) (scv_eq g _) ?_
      refine V.callVp (ci := 8) cL_64 (r_toward g h2 92 T hM2 hO (scv g (i + 1)) (scv_bd g _)) dL_law_444 (Nat.le_of_ble_eq_true rfl) rfl hom2 rfl rfl (Nat.le_of_ble_eq_true rfl) ?_
      have hC3 := hC2
      have hM3 := hM2
      obtain ⟨h3, eh3⟩ : ∃ h3, h3 = h2 := ⟨_, rfl⟩
      rw [← eh3] at hC3 hM3 ⊢
      refine V.icmp_eq 897 dL_law_447 (by decide) (fun hc13 => ?_) (fun hc13 => ?_)
      · skip
        refine V.iincN (n := 5) dL_law_897 rfl rfl rfl ?_
        dsimp only [List.set]
        refine V.goto 18 dL_law_900 (by decide) ?_
        exact ih (i + 5) (by omega) (by omega) h3 (T) hC3 hM3 (hO)
      · exact absurd rfl hc13
    · skip
      subst hq
      refine V.tabIn (off := 420) 452 dL_law_32 (by decide) (by decide) (by decide) (by decide) ?_
      refine V.aload_n dL_law_452 rfl ?_
      refine V.aload_n dL_law_453 rfl ?_
      refine V.iload_n dL_law_454 rfl ?_
      refine V.iconst (v := nI 1) dL_law_455 (by decide) ?_
      refine V.iaddN dL_law_456 ?_
      refine V.ald0 dL_law_457 rfl (show i + 1 < g.2.2.length by omega) (by omega) ?_
      refine V.re (y := iI (scv g (i + 1))) (scv_eq g _) ?_
      refine V.callVp (ci := 7) cL_65 (c_looked g h1 0 T hC hO (scv g (i + 1)) (scv_bd g _)) dL_law_458 (Nat.le_of_ble_eq_true rfl) rfl hoc rfl rfl (Nat.le_of_ble_eq_true rfl) ?_
      have hC2 := hC
      have hM2 := hM
      obtain ⟨h2, eh2⟩ : ∃ h2, h2 = h1 := ⟨_, rfl⟩
      rw [← eh2] at hC2 hM2 ⊢
      obtain ⟨fs2, hom2⟩ := hM2.obj
      refine V.aload_n dL_law_461 rfl ?_
      refine V.aload_n dL_law_462 rfl ?_
      refine V.iload_n dL_law_463 rfl ?_
      refine V.iconst (v := nI 1) dL_law_464 (by decide) ?_
      refine V.iaddN dL_law_465 ?_
      refine V.ald0 dL_law_466 rfl (show i + 1 < g.2.2.length by omega) (by omega) ?_
      refine V.re (y := iI (scv g (i + 1))) (scv_eq g _) ?_
      refine V.callVp (ci := 8) cL_68 (r_looked g h2 92 T hM2 hO (scv g (i + 1)) (scv_bd g _)) dL_law_467 (Nat.le_of_ble_eq_true rfl) rfl hom2 rfl rfl (Nat.le_of_ble_eq_true rfl) ?_
      have hC3 := hC2
      have hM3 := hM2
      obtain ⟨h3, eh3⟩ : ∃ h3, h3 = h2 := ⟨_, rfl⟩
      rw [← eh3] at hC3 hM3 ⊢
      refine V.icmp_eq 897 dL_law_470 (by decide) (fun hc14 => ?_) (fun hc14 => ?_)
      · skip
        refine V.iincN (n := 5) dL_law_897 rfl rfl rfl ?_
        dsimp only [List.set]
        refine V.goto 18 dL_law_900 (by decide) ?_
        exact ih (i + 5) (by omega) (by omega) h3 (T) hC3 hM3 (hO)
      · exact absurd rfl hc14
    · skip
      subst hq
      refine V.tabIn (off := 443) 475 dL_law_32 (by decide) (by decide) (by decide) (by decide) ?_
      refine V.aload_n dL_law_475 rfl ?_
      refine V.aload_n dL_law_476 rfl ?_
      refine V.iload_n dL_law_477 rfl ?_
      refine V.iconst (v := nI 1) dL_law_478 (by decide) ?_
      refine V.iaddN dL_law_479 ?_
      refine V.ald0 dL_law_480 rfl (show i + 1 < g.2.2.length by omega) (by omega) ?_
      refine V.re (y := iI (scv g (i + 1))) (scv_eq g _) ?_
      refine V.aload_n dL_law_481 rfl ?_
      refine V.iload_n dL_law_482 rfl ?_
      refine V.iconst (v := nI 2) dL_law_483 (by decide) ?_
      refine V.iaddN dL_law_484 ?_
      refine V.ald0 dL_law_485 rfl (show i + 2 < g.2.2.length by omega) (by omega) ?_
      refine V.re (y := iI (scv g (i + 2))) (scv_eq g _) ?_
      refine V.callVp (ci := 7) cL_69 (c_behind g h1 0 T hC hO (scv g (i + 1)) (scv g (i + 2)) (scv_bd g _) (scv_bd g _)) dL_law_486 (Nat.le_of_ble_eq_true rfl) rfl hoc rfl rfl (Nat.le_of_ble_eq_true rfl) ?_
      have hC2 := hC
      have hM2 := hM
      obtain ⟨h2, eh2⟩ : ∃ h2, h2 = h1 := ⟨_, rfl⟩
      rw [← eh2] at hC2 hM2 ⊢
      obtain ⟨fs2, hom2⟩ := hM2.obj
      refine V.aload_n dL_law_489 rfl ?_
      refine V.aload_n dL_law_490 rfl ?_
      refine V.iload_n dL_law_491 rfl ?_
      refine V.iconst (v := nI 1) dL_law_492 (by decide) ?_
      refine V.iaddN dL_law_493 ?_
      refine V.ald0 dL_law_494 rfl (show i + 1 < g.2.2.length by omega) (by omega) ?_
      refine V.re (y := iI (scv g (i + 1))) (scv_eq g _) ?_
      refine V.aload_n dL_law_495 rfl ?_
      refine V.iload_n dL_law_496 rfl ?_
      refine V.iconst (v := nI 2) dL_law_497 (by decide) ?_
      refine V.iaddN dL_law_498 ?_
      refine V.ald0 dL_law_499 rfl (show i + 2 < g.2.2.length by omega) (by omega) ?_
      refine V.re (y := iI (scv g (i + 2))) (scv_eq g _) ?_
      refine V.callV (ci := 8) cL_72 (r_behind g h2 92 T hM2 hO (scv g (i + 1)) (scv g (i + 2)) (scv_bd g _) (scv_bd g _)) dL_law_500 (Nat.le_of_ble_eq_true rfl) rfl hom2 rfl rfl (Nat.le_of_ble_eq_true rfl) (fun v_ h_ hp_ => ?_)
      obtain ⟨rfl, hM3, hf3⟩ := hp_
      dsimp only [Option.toList, List.cons_append, List.nil_append]
      generalize h_ = h3 at hM3 hf3 ⊢
      have hC3 := hC2.keep hf3 (by omega)
      refine V.icmp_eq 897 dL_law_503 (by decide) (fun hc15 => ?_) (fun hc15 => ?_)
      · skip
        refine V.iincN (n := 5) dL_law_897 rfl rfl rfl ?_
        dsimp only [List.set]
        refine V.goto 18 dL_law_900 (by decide) ?_
        exact ih (i + 5) (by omega) (by omega) h3 (T) hC3 hM3 (hO)
      · exact absurd rfl hc15
    · skip
      subst hq
      refine V.tabIn (off := 476) 508 dL_law_32 (by decide) (by decide) (by decide) (by decide) ?_
      refine V.aload_n dL_law_508 rfl ?_
      refine V.callV (ci := 7) cL_73 (c_settled g h1 0 T hC hO  ) dL_law_509 (Nat.le_of_ble_eq_true rfl) rfl hoc rfl rfl (Nat.le_of_ble_eq_true rfl) (fun v_ h_ hp_ => ?_)
      obtain ⟨rfl, hC2, hf2⟩ := hp_
      dsimp only [Option.toList, List.cons_append, List.nil_append]
      generalize h_ = h2 at hC2 hf2 ⊢
      have hM2 := hM.keep hf2 (by omega)
      obtain ⟨fs2, hom2⟩ := hM2.obj
      refine V.aload_n dL_law_512 rfl ?_
      refine V.callV (ci := 8) cL_76 (r_settled g h2 92 T hM2 hO  ) dL_law_513 (Nat.le_of_ble_eq_true rfl) rfl hom2 rfl rfl (Nat.le_of_ble_eq_true rfl) (fun v_ h_ hp_ => ?_)
      obtain ⟨rfl, hM3, hf3⟩ := hp_
      dsimp only [Option.toList, List.cons_append, List.nil_append]
      generalize h_ = h3 at hM3 hf3 ⊢
      have hC3 := hC2.keep hf3 (by omega)
      refine V.icmp_eq 897 dL_law_516 (by decide) (fun hc16 => ?_) (fun hc16 => ?_)
      · skip
        refine V.iincN (n := 5) dL_law_897 rfl rfl rfl ?_
        dsimp only [List.set]
        refine V.goto 18 dL_law_900 (by decide) ?_
        exact ih (i + 5) (by omega) (by omega) h3 (T) hC3 hM3 (hO)
      · exact absurd rfl hc16
    · skip
      subst hq
      obtain ⟨o9, ho9⟩ := min_exists (st := stpF (tS T) (scv g (i + 1)).toNat) (c0 := rX (tS T) (scv g (i + 1)).toNat * 9 + rY (tS T) (scv g (i + 1)).toNat) (golF (tS T) (scv g (i + 1)).toNat (scv g (i + 2)).toNat)
      refine V.tabIn (off := 489) 521 dL_law_32 (by decide) (by decide) (by decide) (by decide) ?_
      refine V.aload_n dL_law_521 rfl ?_
      refine V.aload_n dL_law_522 rfl ?_
      refine V.iload_n dL_law_523 rfl ?_
      refine V.iconst (v := nI 1) dL_law_524 (by decide) ?_
      refine V.iaddN dL_law_525 ?_
      refine V.ald0 dL_law_526 rfl (show i + 1 < g.2.2.length by omega) (by omega) ?_
      refine V.re (y := iI (scv g (i + 1))) (scv_eq g _) ?_
      refine V.aload_n dL_law_527 rfl ?_
      refine V.iload_n dL_law_528 rfl ?_
      refine V.iconst (v := nI 2) dL_law_529 (by decide) ?_
      refine V.iaddN dL_law_530 ?_
      refine V.ald0 dL_law_531 rfl (show i + 2 < g.2.2.length by omega) (by omega) ?_
      refine V.re (y := iI (scv g (i + 2))) (scv_eq g _) ?_
      refine V.aload_n dL_law_532 rfl ?_
      refine V.iload_n dL_law_533 rfl ?_
      refine V.iconst (v := nI 3) dL_law_534 (by decide) ?_
      refine V.iaddN dL_law_535 ?_
      refine V.ald0 dL_law_536 rfl (show i + 3 < g.2.2.length by omega) (by omega) ?_
      refine V.re (y := iI (scv g (i + 3))) (scv_eq g _) ?_
      refine V.callV (ci := 7) cL_77 (c_steps g h1 0 T hC hO (scv g (i + 1)) (scv g (i + 2)) (scv g (i + 3)) (scv_bd g _) (scv_bd g _) (scv_bd g _) o9 ho9) dL_law_537 (Nat.le_of_ble_eq_true rfl) rfl hoc rfl rfl (Nat.le_of_ble_eq_true rfl) (fun v_ h_ hp_ => ?_)
      obtain ⟨rfl, hC2, hf2⟩ := hp_
      dsimp only [Option.toList, List.cons_append, List.nil_append]
      generalize h_ = h2 at hC2 hf2 ⊢
      have hM2 := hM.keep hf2 (by omega)
      obtain ⟨fs2, hom2⟩ := hM2.obj
      refine V.aload_n dL_law_540 rfl ?_
      refine V.aload_n dL_law_541 rfl ?_
      refine V.iload_n dL_law_542 rfl ?_
      refine V.iconst (v := nI 1) dL_law_543 (by decide) ?_
      refine V.iaddN dL_law_544 ?_
      refine V.ald0 dL_law_545 rfl (show i + 1 < g.2.2.length by omega) (by omega) ?_
      refine V.re (y := iI (scv g (i + 1))) (scv_eq g _) ?_
      refine V.aload_n dL_law_546 rfl ?_
      refine V.iload_n dL_law_547 rfl ?_
      refine V.iconst (v := nI 2) dL_law_548 (by decide) ?_
      refine V.iaddN dL_law_549 ?_
      refine V.ald0 dL_law_550 rfl (show i + 2 < g.2.2.length by omega) (by omega) ?_
      refine V.re (y := iI (scv g (i + 2))) (scv_eq g _) ?_
      refine V.aload_n dL_law_551 rfl ?_
      refine V.iload_n dL_law_552 rfl ?_
      refine V.iconst (v := nI 3) dL_law_553 (by decide) ?_
      refine V.iaddN dL_law_554 ?_
      refine V.ald0 dL_law_555 rfl (show i + 3 < g.2.2.length by omega) (by omega) ?_
      refine V.re (y := iI (scv g (i + 3))) (scv_eq g _) ?_
      refine V.callV (ci := 8) cL_80 (r_steps g h2 92 T hM2 hO (scv g (i + 1)) (scv g (i + 2)) (scv g (i + 3)) (scv_bd g _) (scv_bd g _) (scv_bd g _) o9 ho9) dL_law_556 (Nat.le_of_ble_eq_true rfl) rfl hom2 rfl rfl (Nat.le_of_ble_eq_true rfl) (fun v_ h_ hp_ => ?_)
      obtain ⟨rfl, hM3, hf3⟩ := hp_
      dsimp only [Option.toList, List.cons_append, List.nil_append]
      generalize h_ = h3 at hM3 hf3 ⊢
      have hC3 := hC2.keep hf3 (by omega)
      refine V.icmp_eq 897 dL_law_559 (by decide) (fun hc17 => ?_) (fun hc17 => ?_)
      · skip
        refine V.iincN (n := 5) dL_law_897 rfl rfl rfl ?_
        dsimp only [List.set]
        refine V.goto 18 dL_law_900 (by decide) ?_
        exact ih (i + 5) (by omega) (by omega) h3 (T) hC3 hM3 (hO)
      · exact absurd rfl hc17
    · skip
      subst hq
      refine V.tabIn (off := 532) 564 dL_law_32 (by decide) (by decide) (by decide) (by decide) ?_
      refine V.aload_n dL_law_564 rfl ?_
      refine V.aload_n dL_law_565 rfl ?_
      refine V.iload_n dL_law_566 rfl ?_
      refine V.iconst (v := nI 1) dL_law_567 (by decide) ?_
      refine V.iaddN dL_law_568 ?_
      refine V.ald0 dL_law_569 rfl (show i + 1 < g.2.2.length by omega) (by omega) ?_
      refine V.re (y := iI (scv g (i + 1))) (scv_eq g _) ?_
      refine V.aload_n dL_law_570 rfl ?_
      refine V.iload_n dL_law_571 rfl ?_
      refine V.iconst (v := nI 2) dL_law_572 (by decide) ?_
      refine V.iaddN dL_law_573 ?_
      refine V.ald0 dL_law_574 rfl (show i + 2 < g.2.2.length by omega) (by omega) ?_
      refine V.re (y := iI (scv g (i + 2))) (scv_eq g _) ?_
      refine V.aload_n dL_law_575 rfl ?_
      refine V.iload_n dL_law_576 rfl ?_
      refine V.iconst (v := nI 3) dL_law_577 (by decide) ?_
      refine V.iaddN dL_law_578 ?_
      refine V.ald0 dL_law_579 rfl (show i + 3 < g.2.2.length by omega) (by omega) ?_
      refine V.re (y := iI (scv g (i + 3))) (scv_eq g _) ?_
      refine V.aload_n dL_law_580 rfl ?_
      refine V.iload_n dL_law_581 rfl ?_
      refine V.iconst (v := nI 4) dL_law_582 (by decide) ?_
      refine V.iaddN dL_law_583 ?_
      refine V.ald0 dL_law_584 rfl (show i + 4 < g.2.2.length by omega) (by omega) ?_
      refine V.re (y := iI (scv g (i + 4))) (scv_eq g _) ?_
      refine V.callV (ci := 7) cL_81 (c_stand g h1 0 T hC hO (scv g (i + 1)) (scv g (i + 2)) (scv g (i + 3)) (scv g (i + 4)) (scv_bd g _) (scv_bd g _) (scv_bd g _) (scv_bd g _)) dL_law_585 (Nat.le_of_ble_eq_true rfl) rfl hoc rfl rfl (Nat.le_of_ble_eq_true rfl) (fun v_ h_ hp_ => ?_)
      obtain ⟨rfl, hC2, hf2⟩ := hp_
      dsimp only [Option.toList, List.cons_append, List.nil_append]
      generalize h_ = h2 at hC2 hf2 ⊢
      have hM2 := hM.keep hf2 (by omega)
      obtain ⟨fs2, hom2⟩ := hM2.obj
      refine V.aload_n dL_law_588 rfl ?_
      refine V.aload_n dL_law_589 rfl ?_
      refine V.iload_n dL_law_590 rfl ?_
      refine V.iconst (v := nI 1) dL_law_591 (by decide) ?_
      refine V.iaddN dL_law_592 ?_
      refine V.ald0 dL_law_593 rfl (show i + 1 < g.2.2.length by omega) (by omega) ?_
      refine V.re (y := iI (scv g (i + 1))) (scv_eq g _) ?_
      refine V.aload_n dL_law_594 rfl ?_
      refine V.iload_n dL_law_595 rfl ?_
      refine V.iconst (v := nI 2) dL_law_596 (by decide) ?_
      refine V.iaddN dL_law_597 ?_
      refine V.ald0 dL_law_598 rfl (show i + 2 < g.2.2.length by omega) (by omega) ?_
      refine V.re (y := iI (scv g (i + 2))) (scv_eq g _) ?_
      refine V.aload_n dL_law_599 rfl ?_
      refine V.iload_n dL_law_600 rfl ?_
      refine V.iconst (v := nI 3) dL_law_601 (by decide) ?_
      refine V.iaddN dL_law_602 ?_
      refine V.ald0 dL_law_603 rfl (show i + 3 < g.2.2.length by omega) (by omega) ?_
      refine V.re (y := iI (scv g (i + 3))) (scv_eq g _) ?_
      refine V.aload_n dL_law_604 rfl ?_
      refine V.iload_n dL_law_605 rfl ?_
      refine V.iconst (v := nI 4) dL_law_606 (by decide) ?_
      refine V.iaddN dL_law_607 ?_
      refine V.ald0 dL_law_608 rfl (show i + 4 < g.2.2.length by omega) (by omega) ?_
      refine V.re (y := iI (scv g (i + 4))) (scv_eq g _) ?_
      refine V.callV (ci := 8) cL_85 (r_stand g h2 92 T hM2 hO (scv g (i + 1)) (scv g (i + 2)) (scv g (i + 3)) (scv g (i + 4)) (scv_bd g _) (scv_bd g _) (scv_bd g _) (scv_bd g _)) dL_law_609 (Nat.le_of_ble_eq_true rfl) rfl hom2 rfl rfl (Nat.le_of_ble_eq_true rfl) (fun v_ h_ hp_ => ?_)
      obtain ⟨rfl, hM3, hf3⟩ := hp_
      dsimp only [Option.toList, List.cons_append, List.nil_append]
      generalize h_ = h3 at hM3 hf3 ⊢
      have hC3 := hC2.keep hf3 (by omega)
      refine V.icmp_eq 897 dL_law_612 (by decide) (fun hc18 => ?_) (fun hc18 => ?_)
      · skip
        refine V.iincN (n := 5) dL_law_897 rfl rfl rfl ?_
        dsimp only [List.set]
        refine V.goto 18 dL_law_900 (by decide) ?_
        exact ih (i + 5) (by omega) (by omega) h3 (T) hC3 hM3 (hO)
      · exact absurd rfl hc18
    · skip
      subst hq
      refine V.tabIn (off := 585) 617 dL_law_32 (by decide) (by decide) (by decide) (by decide) ?_
      refine V.aload_n dL_law_617 rfl ?_
      refine V.aload_n dL_law_618 rfl ?_
      refine V.iload_n dL_law_619 rfl ?_
      refine V.iconst (v := nI 1) dL_law_620 (by decide) ?_
      refine V.iaddN dL_law_621 ?_
      refine V.ald0 dL_law_622 rfl (show i + 1 < g.2.2.length by omega) (by omega) ?_
      refine V.re (y := iI (scv g (i + 1))) (scv_eq g _) ?_
      refine V.callV (ci := 7) cL_86 (c_marry g h1 0 T hC hO (scv g (i + 1)) (scv_bd g _)) dL_law_623 (Nat.le_of_ble_eq_true rfl) rfl hoc rfl rfl (Nat.le_of_ble_eq_true rfl) (fun v_ h_ hp_ => ?_)
      obtain ⟨rfl, hC2, hf2⟩ := hp_
      dsimp only [Option.toList, List.cons_append, List.nil_append]
      generalize h_ = h2 at hC2 hf2 ⊢
      have hM2 := hM.keep hf2 (by omega)
      obtain ⟨fs2, hom2⟩ := hM2.obj
      refine V.aload_n dL_law_626 rfl ?_
      refine V.aload_n dL_law_627 rfl ?_
      refine V.iload_n dL_law_628 rfl ?_
      refine V.iconst (v := nI 1) dL_law_629 (by decide) ?_
      refine V.iaddN dL_law_630 ?_
      refine V.ald0 dL_law_631 rfl (show i + 1 < g.2.2.length by omega) (by omega) ?_
      refine V.re (y := iI (scv g (i + 1))) (scv_eq g _) ?_
      refine V.callV (ci := 8) cL_89 (r_marry g h2 92 T hM2 hO (scv g (i + 1)) (scv_bd g _)) dL_law_632 (Nat.le_of_ble_eq_true rfl) rfl hom2 rfl rfl (Nat.le_of_ble_eq_true rfl) (fun v_ h_ hp_ => ?_)
      obtain ⟨rfl, hM3, hf3⟩ := hp_
      dsimp only [Option.toList, List.cons_append, List.nil_append]
      generalize h_ = h3 at hM3 hf3 ⊢
      have hC3 := hC2.keep hf3 (by omega)
      refine V.icmp_eq 897 dL_law_635 (by decide) (fun hc19 => ?_) (fun hc19 => ?_)
      · skip
        refine V.iincN (n := 5) dL_law_897 rfl rfl rfl ?_
        dsimp only [List.set]
        refine V.goto 18 dL_law_900 (by decide) ?_
        exact ih (i + 5) (by omega) (by omega) h3 (T) hC3 hM3 (hO)
      · exact absurd rfl hc19
    · skip
      subst hq
      refine V.tabIn (off := 608) 640 dL_law_32 (by decide) (by decide) (by decide) (by decide) ?_
      refine V.aload_n dL_law_640 rfl ?_
      refine V.aload_n dL_law_641 rfl ?_
      refine V.iload_n dL_law_642 rfl ?_
      refine V.iconst (v := nI 1) dL_law_643 (by decide) ?_
      refine V.iaddN dL_law_644 ?_
      refine V.ald0 dL_law_645 rfl (show i + 1 < g.2.2.length by omega) (by omega) ?_
      refine V.re (y := iI (scv g (i + 1))) (scv_eq g _) ?_
      refine V.aload_n dL_law_646 rfl ?_
      refine V.iload_n dL_law_647 rfl ?_
      refine V.iconst (v := nI 2) dL_law_648 (by decide) ?_
      refine V.iaddN dL_law_649 ?_
      refine V.ald0 dL_law_650 rfl (show i + 2 < g.2.2.length by omega) (by omega) ?_
      refine V.re (y := iI (scv g (i + 2))) (scv_eq g _) ?_
      refine V.aload_n dL_law_651 rfl ?_
      refine V.iload_n dL_law_652 rfl ?_
      refine V.iconst (v := nI 3) dL_law_653 (by decide) ?_
      refine V.iaddN dL_law_654 ?_
      refine V.ald0 dL_law_655 rfl (show i + 3 < g.2.2.length by omega) (by omega) ?_
      refine V.re (y := iI (scv g (i + 3))) (scv_eq g _) ?_
      refine V.callV (ci := 7) cL_90 (c_see g h1 0 T hC hO (scv g (i + 1)) (scv g (i + 2)) (scv g (i + 3)) (scv_bd g _) (scv_bd g _) (scv_bd g _)) dL_law_656 (Nat.le_of_ble_eq_true rfl) rfl hoc rfl rfl (Nat.le_of_ble_eq_true rfl) (fun v_ h_ hp_ => ?_)
      obtain ⟨rfl, hC2, hf2⟩ := hp_
      dsimp only [Option.toList, List.cons_append, List.nil_append]
      generalize h_ = h2 at hC2 hf2 ⊢
      have hM2 := hM.keep hf2 (by omega)
      obtain ⟨fs2, hom2⟩ := hM2.obj
      refine V.aload_n dL_law_659 rfl ?_
      refine V.aload_n dL_law_660 rfl ?_
      refine V.iload_n dL_law_661 rfl ?_
      refine V.iconst (v := nI 1) dL_law_662 (by decide) ?_
      refine V.iaddN dL_law_663 ?_
      refine V.ald0 dL_law_664 rfl (show i + 1 < g.2.2.length by omega) (by omega) ?_
      refine V.re (y := iI (scv g (i + 1))) (scv_eq g _) ?_
      refine V.aload_n dL_law_665 rfl ?_
      refine V.iload_n dL_law_666 rfl ?_
      refine V.iconst (v := nI 2) dL_law_667 (by decide) ?_
      refine V.iaddN dL_law_668 ?_
      refine V.ald0 dL_law_669 rfl (show i + 2 < g.2.2.length by omega) (by omega) ?_
      refine V.re (y := iI (scv g (i + 2))) (scv_eq g _) ?_
      refine V.aload_n dL_law_670 rfl ?_
      refine V.iload_n dL_law_671 rfl ?_
      refine V.iconst (v := nI 3) dL_law_672 (by decide) ?_
      refine V.iaddN dL_law_673 ?_
      refine V.ald0 dL_law_674 rfl (show i + 3 < g.2.2.length by omega) (by omega) ?_
      refine V.re (y := iI (scv g (i + 3))) (scv_eq g _) ?_
      refine V.callV (ci := 8) cL_93 (r_see g h2 92 T hM2 hO (scv g (i + 1)) (scv g (i + 2)) (scv g (i + 3)) (scv_bd g _) (scv_bd g _) (scv_bd g _)) dL_law_675 (Nat.le_of_ble_eq_true rfl) rfl hom2 rfl rfl (Nat.le_of_ble_eq_true rfl) (fun v_ h_ hp_ => ?_)
      obtain ⟨rfl, hM3, hf3⟩ := hp_
      dsimp only [Option.toList, List.cons_append, List.nil_append]
      generalize h_ = h3 at hM3 hf3 ⊢
      have hC3 := hC2.keep hf3 (by omega)
      refine V.icmp_eq 897 dL_law_678 (by decide) (fun hc20 => ?_) (fun hc20 => ?_)
      · skip
        refine V.iincN (n := 5) dL_law_897 rfl rfl rfl ?_
        dsimp only [List.set]
        refine V.goto 18 dL_law_900 (by decide) ?_
        exact ih (i + 5) (by omega) (by omega) h3 (n_see T (scv g (i + 1)) (scv g (i + 2)) (scv g (i + 3))) hC3 hM3 (ok_see hO _ _ _)
      · exact absurd rfl hc20
    · skip
      subst hq
      refine V.tabIn (off := 651) 683 dL_law_32 (by decide) (by decide) (by decide) (by decide) ?_
      refine V.aload_n dL_law_683 rfl ?_
      refine V.callV (ci := 7) cL_94 (c_forget g h1 0 T hC hO  ) dL_law_684 (Nat.le_of_ble_eq_true rfl) rfl hoc rfl rfl (Nat.le_of_ble_eq_true rfl) (fun v_ h_ hp_ => ?_)
      obtain ⟨rfl, hC2, hf2⟩ := hp_
      dsimp only [Option.toList, List.cons_append, List.nil_append]
      generalize h_ = h2 at hC2 hf2 ⊢
      have hM2 := hM.keep hf2 (by omega)
      obtain ⟨fs2, hom2⟩ := hM2.obj
      refine V.aload_n dL_law_687 rfl ?_
      refine V.callV (ci := 8) cL_97 (r_forget g h2 92 T hM2 hO  ) dL_law_688 (Nat.le_of_ble_eq_true rfl) rfl hom2 rfl rfl (Nat.le_of_ble_eq_true rfl) (fun v_ h_ hp_ => ?_)
      obtain ⟨rfl, hM3, hf3⟩ := hp_
      dsimp only [Option.toList, List.cons_append, List.nil_append]
      generalize h_ = h3 at hM3 hf3 ⊢
      have hC3 := hC2.keep hf3 (by omega)
      refine V.icmp_eq 897 dL_law_691 (by decide) (fun hc21 => ?_) (fun hc21 => ?_)
      · skip
        refine V.iincN (n := 5) dL_law_897 rfl rfl rfl ?_
        dsimp only [List.set]
        refine V.goto 18 dL_law_900 (by decide) ?_
        exact ih (i + 5) (by omega) (by omega) h3 ((tT T, tS T, tP T, tK T, [])) hC3 hM3 (ok_forget hO)
      · exact absurd rfl hc21
    · skip
      subst hq
      refine V.tabIn (off := 664) 696 dL_law_32 (by decide) (by decide) (by decide) (by decide) ?_
      refine V.aload_n dL_law_696 rfl ?_
      refine V.aload_n dL_law_697 rfl ?_
      refine V.iload_n dL_law_698 rfl ?_
      refine V.iconst (v := nI 1) dL_law_699 (by decide) ?_
      refine V.iaddN dL_law_700 ?_
      refine V.ald0 dL_law_701 rfl (show i + 1 < g.2.2.length by omega) (by omega) ?_
      refine V.re (y := iI (scv g (i + 1))) (scv_eq g _) ?_
      refine V.callVp (ci := 7) cL_98 (c_kinds g h1 0 T hC hO (scv g (i + 1)) (scv_bd g _)) dL_law_702 (Nat.le_of_ble_eq_true rfl) rfl hoc rfl rfl (Nat.le_of_ble_eq_true rfl) ?_
      have hC2 := hC
      have hM2 := hM
      obtain ⟨h2, eh2⟩ : ∃ h2, h2 = h1 := ⟨_, rfl⟩
      rw [← eh2] at hC2 hM2 ⊢
      obtain ⟨fs2, hom2⟩ := hM2.obj
      refine V.aload_n dL_law_705 rfl ?_
      refine V.aload_n dL_law_706 rfl ?_
      refine V.iload_n dL_law_707 rfl ?_
      refine V.iconst (v := nI 1) dL_law_708 (by decide) ?_
      refine V.iaddN dL_law_709 ?_
      refine V.ald0 dL_law_710 rfl (show i + 1 < g.2.2.length by omega) (by omega) ?_
      refine V.re (y := iI (scv g (i + 1))) (scv_eq g _) ?_
      refine V.callV (ci := 8) cL_101 (r_kinds g h2 92 T hM2 hO (scv g (i + 1)) (scv_bd g _)) dL_law_711 (Nat.le_of_ble_eq_true rfl) rfl hom2 rfl rfl (Nat.le_of_ble_eq_true rfl) (fun v_ h_ hp_ => ?_)
      obtain ⟨rfl, hM3, hf3⟩ := hp_
      dsimp only [Option.toList, List.cons_append, List.nil_append]
      generalize h_ = h3 at hM3 hf3 ⊢
      have hC3 := hC2.keep hf3 (by omega)
      refine V.icmp_eq 897 dL_law_714 (by decide) (fun hc22 => ?_) (fun hc22 => ?_)
      · skip
        refine V.iincN (n := 5) dL_law_897 rfl rfl rfl ?_
        dsimp only [List.set]
        refine V.goto 18 dL_law_900 (by decide) ?_
        exact ih (i + 5) (by omega) (by omega) h3 (T) hC3 hM3 (hO)
      · exact absurd rfl hc22
    · skip
      subst hq
      refine V.tabIn (off := 687) 719 dL_law_32 (by decide) (by decide) (by decide) (by decide) ?_
      refine V.aload_n dL_law_719 rfl ?_
      refine V.aload_n dL_law_720 rfl ?_
      refine V.iload_n dL_law_721 rfl ?_
      refine V.iconst (v := nI 1) dL_law_722 (by decide) ?_
      refine V.iaddN dL_law_723 ?_
      refine V.ald0 dL_law_724 rfl (show i + 1 < g.2.2.length by omega) (by omega) ?_
      refine V.re (y := iI (scv g (i + 1))) (scv_eq g _) ?_
      refine V.aload_n dL_law_725 rfl ?_
      refine V.iload_n dL_law_726 rfl ?_
      refine V.iconst (v := nI 2) dL_law_727 (by decide) ?_
      refine V.iaddN dL_law_728 ?_
      refine V.ald0 dL_law_729 rfl (show i + 2 < g.2.2.length by omega) (by omega) ?_
      refine V.re (y := iI (scv g (i + 2))) (scv_eq g _) ?_
      refine V.callV (ci := 7) cL_102 (c_loves g h1 0 T hC hO (scv g (i + 1)) (scv g (i + 2)) (scv_bd g _) (scv_bd g _)) dL_law_730 (Nat.le_of_ble_eq_true rfl) rfl hoc rfl rfl (Nat.le_of_ble_eq_true rfl) (fun v_ h_ hp_ => ?_)
      obtain ⟨rfl, hC2, hf2⟩ := hp_
      dsimp only [Option.toList, List.cons_append, List.nil_append]
      generalize h_ = h2 at hC2 hf2 ⊢
      have hM2 := hM.keep hf2 (by omega)
      obtain ⟨fs2, hom2⟩ := hM2.obj
      refine V.aload_n dL_law_733 rfl ?_
      refine V.aload_n dL_law_734 rfl ?_
      refine V.iload_n dL_law_735 rfl ?_
      refine V.iconst (v := nI 1) dL_law_736 (by decide) ?_
      refine V.iaddN dL_law_737 ?_
      refine V.ald0 dL_law_738 rfl (show i + 1 < g.2.2.length by omega) (by omega) ?_
      refine V.re (y := iI (scv g (i + 1))) (scv_eq g _) ?_
      refine V.aload_n dL_law_739 rfl ?_
      refine V.iload_n dL_law_740 rfl ?_
      refine V.iconst (v := nI 2) dL_law_741 (by decide) ?_
      refine V.iaddN dL_law_742 ?_
      refine V.ald0 dL_law_743 rfl (show i + 2 < g.2.2.length by omega) (by omega) ?_
      refine V.re (y := iI (scv g (i + 2))) (scv_eq g _) ?_
      refine V.callVp (ci := 8) cL_105 (r_loves g h2 92 T hM2 hO (scv g (i + 1)) (scv g (i + 2)) (scv_bd g _) (scv_bd g _)) dL_law_744 (Nat.le_of_ble_eq_true rfl) rfl hom2 rfl rfl (Nat.le_of_ble_eq_true rfl) ?_
      have hC3 := hC2
      have hM3 := hM2
      obtain ⟨h3, eh3⟩ : ∃ h3, h3 = h2 := ⟨_, rfl⟩
      rw [← eh3] at hC3 hM3 ⊢
      refine V.icmp_eq 897 dL_law_747 (by decide) (fun hc23 => ?_) (fun hc23 => ?_)
      · skip
        refine V.iincN (n := 5) dL_law_897 rfl rfl rfl ?_
        dsimp only [List.set]
        refine V.goto 18 dL_law_900 (by decide) ?_
        exact ih (i + 5) (by omega) (by omega) h3 (T) hC3 hM3 (hO)
      · exact absurd rfl hc23
    · skip
      subst hq
      refine V.tabIn (off := 720) 752 dL_law_32 (by decide) (by decide) (by decide) (by decide) ?_
      refine V.aload_n dL_law_752 rfl ?_
      refine V.aload_n dL_law_753 rfl ?_
      refine V.iload_n dL_law_754 rfl ?_
      refine V.iconst (v := nI 1) dL_law_755 (by decide) ?_
      refine V.iaddN dL_law_756 ?_
      refine V.ald0 dL_law_757 rfl (show i + 1 < g.2.2.length by omega) (by omega) ?_
      refine V.re (y := iI (scv g (i + 1))) (scv_eq g _) ?_
      refine V.aload_n dL_law_758 rfl ?_
      refine V.iload_n dL_law_759 rfl ?_
      refine V.iconst (v := nI 2) dL_law_760 (by decide) ?_
      refine V.iaddN dL_law_761 ?_
      refine V.ald0 dL_law_762 rfl (show i + 2 < g.2.2.length by omega) (by omega) ?_
      refine V.re (y := iI (scv g (i + 2))) (scv_eq g _) ?_
      refine V.aload_n dL_law_763 rfl ?_
      refine V.iload_n dL_law_764 rfl ?_
      refine V.iconst (v := nI 3) dL_law_765 (by decide) ?_
      refine V.iaddN dL_law_766 ?_
      refine V.ald0 dL_law_767 rfl (show i + 3 < g.2.2.length by omega) (by omega) ?_
      refine V.re (y := iI (scv g (i + 3))) (scv_eq g _) ?_
      refine V.aload_n dL_law_768 rfl ?_
      refine V.iload_n dL_law_769 rfl ?_
      refine V.iconst (v := nI 4) dL_law_770 (by decide) ?_
      refine V.iaddN dL_law_771 ?_
      refine V.ald0 dL_law_772 rfl (show i + 4 < g.2.2.length by omega) (by omega) ?_
      refine V.re (y := iI (scv g (i + 4))) (scv_eq g _) ?_
      refine V.callVp (ci := 7) cL_106 (c_away g h1 0 T hC hO (scv g (i + 1)) (scv g (i + 2)) (scv g (i + 3)) (scv g (i + 4)) (scv_bd g _) (scv_bd g _) (scv_bd g _) (scv_bd g _)) dL_law_773 (Nat.le_of_ble_eq_true rfl) rfl hoc rfl rfl (Nat.le_of_ble_eq_true rfl) ?_
      have hC2 := hC
      have hM2 := hM
      obtain ⟨h2, eh2⟩ : ∃ h2, h2 = h1 := ⟨_, rfl⟩
      rw [← eh2] at hC2 hM2 ⊢
      obtain ⟨fs2, hom2⟩ := hM2.obj
      refine V.aload_n dL_law_776 rfl ?_
      refine V.aload_n dL_law_777 rfl ?_
      refine V.iload_n dL_law_778 rfl ?_
      refine V.iconst (v := nI 1) dL_law_779 (by decide) ?_
      refine V.iaddN dL_law_780 ?_
      refine V.ald0 dL_law_781 rfl (show i + 1 < g.2.2.length by omega) (by omega) ?_
      refine V.re (y := iI (scv g (i + 1))) (scv_eq g _) ?_
      refine V.aload_n dL_law_782 rfl ?_
      refine V.iload_n dL_law_783 rfl ?_
      refine V.iconst (v := nI 2) dL_law_784 (by decide) ?_
      refine V.iaddN dL_law_785 ?_
      refine V.ald0 dL_law_786 rfl (show i + 2 < g.2.2.length by omega) (by omega) ?_
      refine V.re (y := iI (scv g (i + 2))) (scv_eq g _) ?_
      refine V.aload_n dL_law_787 rfl ?_
      refine V.iload_n dL_law_788 rfl ?_
      refine V.iconst (v := nI 3) dL_law_789 (by decide) ?_
      refine V.iaddN dL_law_790 ?_
      refine V.ald0 dL_law_791 rfl (show i + 3 < g.2.2.length by omega) (by omega) ?_
      refine V.re (y := iI (scv g (i + 3))) (scv_eq g _) ?_
      refine V.aload_n dL_law_792 rfl ?_
      refine V.iload_n dL_law_793 rfl ?_
      refine V.iconst (v := nI 4) dL_law_794 (by decide) ?_
      refine V.iaddN dL_law_795 ?_
      refine V.ald0 dL_law_796 rfl (show i + 4 < g.2.2.length by omega) (by omega) ?_
      refine V.re (y := iI (scv g (i + 4))) (scv_eq g _) ?_
      refine V.callVp (ci := 8) cL_109 (r_away g h2 92 T hM2 hO (scv g (i + 1)) (scv g (i + 2)) (scv g (i + 3)) (scv g (i + 4)) (scv_bd g _) (scv_bd g _) (scv_bd g _) (scv_bd g _)) dL_law_797 (Nat.le_of_ble_eq_true rfl) rfl hom2 rfl rfl (Nat.le_of_ble_eq_true rfl) ?_
      have hC3 := hC2
      have hM3 := hM2
      obtain ⟨h3, eh3⟩ : ∃ h3, h3 = h2 := ⟨_, rfl⟩
      rw [← eh3] at hC3 hM3 ⊢
      refine V.icmp_eq 897 dL_law_800 (by decide) (fun hc24 => ?_) (fun hc24 => ?_)
      · skip
        refine V.iincN (n := 5) dL_law_897 rfl rfl rfl ?_
        dsimp only [List.set]
        refine V.goto 18 dL_law_900 (by decide) ?_
        exact ih (i + 5) (by omega) (by omega) h3 (T) hC3 hM3 (hO)
      · exact absurd rfl hc24
    · skip
      subst hq
      refine V.tabIn (off := 773) 805 dL_law_32 (by decide) (by decide) (by decide) (by decide) ?_
      refine V.aload_n dL_law_805 rfl ?_
      refine V.aload_n dL_law_806 rfl ?_
      refine V.iload_n dL_law_807 rfl ?_
      refine V.iconst (v := nI 1) dL_law_808 (by decide) ?_
      refine V.iaddN dL_law_809 ?_
      refine V.ald0 dL_law_810 rfl (show i + 1 < g.2.2.length by omega) (by omega) ?_
      refine V.re (y := iI (scv g (i + 1))) (scv_eq g _) ?_
      refine V.aload_n dL_law_811 rfl ?_
      refine V.iload_n dL_law_812 rfl ?_
      refine V.iconst (v := nI 2) dL_law_813 (by decide) ?_
      refine V.iaddN dL_law_814 ?_
      refine V.ald0 dL_law_815 rfl (show i + 2 < g.2.2.length by omega) (by omega) ?_
      refine V.re (y := iI (scv g (i + 2))) (scv_eq g _) ?_
      refine V.aload_n dL_law_816 rfl ?_
      refine V.iload_n dL_law_817 rfl ?_
      refine V.iconst (v := nI 3) dL_law_818 (by decide) ?_
      refine V.iaddN dL_law_819 ?_
      refine V.ald0 dL_law_820 rfl (show i + 3 < g.2.2.length by omega) (by omega) ?_
      refine V.re (y := iI (scv g (i + 3))) (scv_eq g _) ?_
      refine V.callV (ci := 7) cL_110 (c_evening g h1 0 T hC hO (scv g (i + 1)) (scv g (i + 2)) (scv g (i + 3)) (scv_bd g _) (scv_bd g _) (scv_bd g _)) dL_law_821 (Nat.le_of_ble_eq_true rfl) rfl hoc rfl rfl (Nat.le_of_ble_eq_true rfl) (fun v_ h_ hp_ => ?_)
      obtain ⟨rfl, hC2, hf2⟩ := hp_
      dsimp only [Option.toList, List.cons_append, List.nil_append]
      generalize h_ = h2 at hC2 hf2 ⊢
      have hM2 := hM.keep hf2 (by omega)
      obtain ⟨fs2, hom2⟩ := hM2.obj
      refine V.aload_n dL_law_824 rfl ?_
      refine V.aload_n dL_law_825 rfl ?_
      refine V.iload_n dL_law_826 rfl ?_
      refine V.iconst (v := nI 1) dL_law_827 (by decide) ?_
      refine V.iaddN dL_law_828 ?_
      refine V.ald0 dL_law_829 rfl (show i + 1 < g.2.2.length by omega) (by omega) ?_
      refine V.re (y := iI (scv g (i + 1))) (scv_eq g _) ?_
      refine V.aload_n dL_law_830 rfl ?_
      refine V.iload_n dL_law_831 rfl ?_
      refine V.iconst (v := nI 2) dL_law_832 (by decide) ?_
      refine V.iaddN dL_law_833 ?_
      refine V.ald0 dL_law_834 rfl (show i + 2 < g.2.2.length by omega) (by omega) ?_
      refine V.re (y := iI (scv g (i + 2))) (scv_eq g _) ?_
      refine V.aload_n dL_law_835 rfl ?_
      refine V.iload_n dL_law_836 rfl ?_
      refine V.iconst (v := nI 3) dL_law_837 (by decide) ?_
      refine V.iaddN dL_law_838 ?_
      refine V.ald0 dL_law_839 rfl (show i + 3 < g.2.2.length by omega) (by omega) ?_
      refine V.re (y := iI (scv g (i + 3))) (scv_eq g _) ?_
      refine V.callV (ci := 8) cL_113 (r_evening g h2 92 T hM2 hO (scv g (i + 1)) (scv g (i + 2)) (scv g (i + 3)) (scv_bd g _) (scv_bd g _) (scv_bd g _)) dL_law_840 (Nat.le_of_ble_eq_true rfl) rfl hom2 rfl rfl (Nat.le_of_ble_eq_true rfl) (fun v_ h_ hp_ => ?_)
      obtain ⟨rfl, hM3, hf3⟩ := hp_
      dsimp only [Option.toList, List.cons_append, List.nil_append]
      generalize h_ = h3 at hM3 hf3 ⊢
      have hC3 := hC2.keep hf3 (by omega)
      refine V.icmp_eq 897 dL_law_843 (by decide) (fun hc25 => ?_) (fun hc25 => ?_)
      · skip
        refine V.iincN (n := 5) dL_law_897 rfl rfl rfl ?_
        dsimp only [List.set]
        refine V.goto 18 dL_law_900 (by decide) ?_
        exact ih (i + 5) (by omega) (by omega) h3 (T) hC3 hM3 (hO)
      · exact absurd rfl hc25
    · skip
      subst hq
      refine V.tabIn (off := 816) 848 dL_law_32 (by decide) (by decide) (by decide) (by decide) ?_
      refine V.aload_n dL_law_848 rfl ?_
      refine V.callV (ci := 7) cL_114 (c_keep g h1 0 T hC hO  ) dL_law_849 (Nat.le_of_ble_eq_true rfl) rfl hoc rfl rfl (Nat.le_of_ble_eq_true rfl) (fun v_ h_ hp_ => ?_)
      obtain ⟨rfl, hC2, hf2⟩ := hp_
      dsimp only [Option.toList, List.cons_append, List.nil_append]
      generalize h_ = h2 at hC2 hf2 ⊢
      have hM2 := hM.keep hf2 (by omega)
      obtain ⟨fs2, hom2⟩ := hM2.obj
      refine V.aload_n dL_law_852 rfl ?_
      refine V.callV (ci := 8) cL_117 (r_keep g h2 92 T hM2 hO  ) dL_law_853 (Nat.le_of_ble_eq_true rfl) rfl hom2 rfl rfl (Nat.le_of_ble_eq_true rfl) (fun v_ h_ hp_ => ?_)
      obtain ⟨rfl, hM3, hf3⟩ := hp_
      dsimp only [Option.toList, List.cons_append, List.nil_append]
      generalize h_ = h3 at hM3 hf3 ⊢
      have hC3 := hC2.keep hf3 (by omega)
      refine V.icmp_eq 897 dL_law_856 (by decide) (fun hc26 => ?_) (fun hc26 => ?_)
      · skip
        refine V.iincN (n := 5) dL_law_897 rfl rfl rfl ?_
        dsimp only [List.set]
        refine V.goto 18 dL_law_900 (by decide) ?_
        exact ih (i + 5) (by omega) (by omega) h3 (n_keep T) hC3 hM3 (ok_keep hO)
      · exact absurd rfl hc26
    · skip
      subst hq
      refine V.tabIn (off := 829) 861 dL_law_32 (by decide) (by decide) (by decide) (by decide) ?_
      refine V.aload_n dL_law_861 rfl ?_
      refine V.callV (ci := 7) cL_118 (c_back g h1 0 T hC hO  ) dL_law_862 (Nat.le_of_ble_eq_true rfl) rfl hoc rfl rfl (Nat.le_of_ble_eq_true rfl) (fun v_ h_ hp_ => ?_)
      obtain ⟨rfl, hC2, hf2⟩ := hp_
      dsimp only [Option.toList, List.cons_append, List.nil_append]
      generalize h_ = h2 at hC2 hf2 ⊢
      have hM2 := hM.keep hf2 (by omega)
      obtain ⟨fs2, hom2⟩ := hM2.obj
      refine V.aload_n dL_law_865 rfl ?_
      refine V.callV (ci := 8) cL_121 (r_back g h2 92 T hM2 hO  ) dL_law_866 (Nat.le_of_ble_eq_true rfl) rfl hom2 rfl rfl (Nat.le_of_ble_eq_true rfl) (fun v_ h_ hp_ => ?_)
      obtain ⟨rfl, hM3, hf3⟩ := hp_
      dsimp only [Option.toList, List.cons_append, List.nil_append]
      generalize h_ = h3 at hM3 hf3 ⊢
      have hC3 := hC2.keep hf3 (by omega)
      refine V.icmp_eq 897 dL_law_869 (by decide) (fun hc27 => ?_) (fun hc27 => ?_)
      · skip
        refine V.iincN (n := 5) dL_law_897 rfl rfl rfl ?_
        dsimp only [List.set]
        refine V.goto 18 dL_law_900 (by decide) ?_
        exact ih (i + 5) (by omega) (by omega) h3 (n_back T) hC3 hM3 (ok_back hO)
      · exact absurd rfl hc27
    · skip
      subst hq
      refine V.tabIn (off := 842) 874 dL_law_32 (by decide) (by decide) (by decide) (by decide) ?_
      refine V.aload_n dL_law_874 rfl ?_
      refine V.aload_n dL_law_875 rfl ?_
      refine V.iload_n dL_law_876 rfl ?_
      refine V.iconst (v := nI 1) dL_law_877 (by decide) ?_
      refine V.iaddN dL_law_878 ?_
      refine V.ald0 dL_law_879 rfl (show i + 1 < g.2.2.length by omega) (by omega) ?_
      refine V.re (y := iI (scv g (i + 1))) (scv_eq g _) ?_
      refine V.callVp (ci := 7) cL_122 (c_count g h1 0 T hC hO (scv g (i + 1)) (scv_bd g _)) dL_law_880 (Nat.le_of_ble_eq_true rfl) rfl hoc rfl rfl (Nat.le_of_ble_eq_true rfl) ?_
      have hC2 := hC
      have hM2 := hM
      obtain ⟨h2, eh2⟩ : ∃ h2, h2 = h1 := ⟨_, rfl⟩
      rw [← eh2] at hC2 hM2 ⊢
      obtain ⟨fs2, hom2⟩ := hM2.obj
      refine V.aload_n dL_law_883 rfl ?_
      refine V.aload_n dL_law_884 rfl ?_
      refine V.iload_n dL_law_885 rfl ?_
      refine V.iconst (v := nI 1) dL_law_886 (by decide) ?_
      refine V.iaddN dL_law_887 ?_
      refine V.ald0 dL_law_888 rfl (show i + 1 < g.2.2.length by omega) (by omega) ?_
      refine V.re (y := iI (scv g (i + 1))) (scv_eq g _) ?_
      refine V.callVp (ci := 8) cL_125 (r_count g h2 92 T hM2 hO (scv g (i + 1)) (scv_bd g _)) dL_law_889 (Nat.le_of_ble_eq_true rfl) rfl hom2 rfl rfl (Nat.le_of_ble_eq_true rfl) ?_
      have hC3 := hC2
      have hM3 := hM2
      obtain ⟨h3, eh3⟩ : ∃ h3, h3 = h2 := ⟨_, rfl⟩
      rw [← eh3] at hC3 hM3 ⊢
      refine V.icmp_eq 897 dL_law_892 (by decide) (fun hc28 => ?_) (fun hc28 => ?_)
      · skip
        refine V.iincN (n := 5) dL_law_897 rfl rfl rfl ?_
        dsimp only [List.set]
        refine V.goto 18 dL_law_900 (by decide) ?_
        exact ih (i + 5) (by omega) (by omega) h3 (T) hC3 hM3 (hO)
      · exact absurd rfl hc28
    · skip
      refine V.tabOut 897 dL_law_32 (by rw [← iI_nat, iI_toInt (by omega) (by omega)]; omega) (by decide) ?_
      refine V.iincN (n := 5) dL_law_897 rfl rfl rfl ?_
      dsimp only [List.set]
      refine V.goto 18 dL_law_900 (by decide) ?_
      exact ih (i + 5) (by omega) (by omega) h1 T hC hM hO
