/-! fields, arrays, calls, returns -/
def vkd : VC → Nat
  | .inl _ => 0
  | .inr (.inl _) => 1
  | .inr (.inr _) => 2
theorem vtys.set {ad : VAd} {h : VHp} {tys : List (ClassId × FieldType)} {a : Nat} {c0 c : VC} (t : vtys ad h tys) (ha : h[a]? = some c0) (hk : vkd c0 = vkd c) : vtys ad (h.set a c) tys := by
  have hl : a < h.length := (List.getElem?_eq_some_iff.mp ha).1
  intro j
  by_cases e : a = j
  · subst e
    rw [List.getElem?_set_self hl]
    refine ⟨fun xs q => ?_, fun rs q => ?_⟩
    · cases q
      match c0, hk with
      | .inl ys, _ => exact (t a).1 ys ha
    · cases q
      match c0, hk with
      | .inr (.inl ys), _ => exact (t a).2 ys ha
  · rw [List.getElem?_set_ne e]
    exact t j
theorem VWd.ofset {g : VG} {ad : VAd} {h : VHp} {U : State} {H H1 : Heap} {A : Nat → Prop} {a : Nat} {c0 c : VC} (w : VWd g ad h U H A) (ha : h[a]? = some c0) (hk : vkd c0 = vkd c) (hP : va_P g.2.1 vwCl ((vws ad h).set a ((ad a).1, vcell ad a c)) H1) (hD : va_D A ((vws ad h).set a ((ad a).1, vcell ad a c))) : VWd g ad (h.set a c) U H1 A := by
  obtain ⟨⟨tys, t1, t2⟩, -, -⟩ := w
  exact ⟨⟨tys, t1, t2.set ha hk⟩, by rw [vws_set]; exact hP, by rw [vws_set]; exact hD⟩
/-- a field: entry idx of class own's pool is field kf of class ci -/
def vfl (own : String) (idx ci kf : Nat) (fin : Bool) (ty : FieldType) : Prop := ∃ (C : String) (T : u_T) (N : Nat) (ty0 : Nat → FieldType), vwCl[ci]? = some (C, T, N) ∧ kf < N ∧ (∀ w ∈ u_ws C T N, w ∈ vtS) ∧ (∀ j, j < N → parseFieldDescriptor (T j).2.2.1 = some (ty0 j)) ∧ (∀ a, a < N → ∀ b, b < N → a ≠ b → (T a).2.1 ≠ (T b).2.1) ∧ (Cond.fieldLink own idx (T kf).1 (T kf).2.1 (T kf).2.2.1 ∈ vtS ∨ ∃ host, Cond.fieldLinkNest own idx (T kf).1 (T kf).2.1 (T kf).2.2.1 host ∈ vNS) ∧ (T kf).2.2.2 = fin ∧ parseFieldDescriptor (T kf).2.2.1 = some ty ∧ ((T kf).1 = own ∨ fin = false)
theorem nI_in2 {j n : Nat} (h : j < n) (hj : j < 2147483648) : vp_in (nI j) n := by
  intro q
  rcases q with q | q
  · exact nI_pos hj q
  · rw [nI_clamp hj] at q; omega
theorem VRO.nest {g : VG} {ad : VAd} {A : Nat → Prop} {U : State} (r : VRO g ad A U) : ∀ w ∈ vNS, va_Nw w U := r.2.2.2.2.2.2.2.2.2.2.2.2
section VHeap
variable {k : VK} {b : Nat × Nat} {pc : Nat} {ls : List (Option Value)} {st : List Value} {h : VHp}
theorem V.get {idx ci kf a : Nat} {fin : Bool} {ty : FieldType} {fs : List Value} {v : Value} (hf : vfl k.2.1.1.cls idx ci kf fin ty) (hd : decode k.2.1.2.1 pc = .ok (.getfield idx, 3)) (ha : h[a]? = some (.inr (.inr (ci, fs)))) (hv : fs[kf]? = some v) (kk : V k b (pc + 3) ls (v :: st) h) : V k b pc ls (.ref a :: st) h := by
  intro p e R s m args below meth c Q A ad0 F ad H locs cells slots lsr r
  obtain ⟨C, T, N, ty0, hc, hk, hw, -, -, hl, -⟩ := hf
  obtain ⟨⟨tys, t1, t2⟩, hP, hD⟩ := r.2.2.1
  have he := vws_get (ad := ad) ha
  have hv' : (fs.map (mv ad))[kf]? = some (mv ad v) := by rw [List.getElem?_map, hv]; rfl
  rcases hl with hl | ⟨host, hl⟩
  · exact va_get (D := k.1.2.1) (cl := vwCl) F.1.1 F.1.2.1 F.1.2.2.2.2.1 hw F.1.2.2.2.1 t1 hP a he hc kf hk (F.1.2.2.2.2.1 _ hl) (fun _ q => q) hv' hd (kk p e R s m args below meth c Q A ad0 F ad H locs cells slots lsr r)
  · exact va_getN (D := k.1.2.1) (cl := vwCl) F.1.1 F.1.2.1 F.1.2.2.2.2.1 hw F.1.2.2.2.1 t1 hP a he hc kf hk (va_Nw.use rfl (r.2.1.nest _ hl)) (fun _ q => q) hv' hd (kk p e R s m args below meth c Q A ad0 F ad H locs cells slots lsr r)
theorem V.puti {idx ci kf a : Nat} {fs : List Value} {x : Int32} (hf : vfl k.2.1.1.cls idx ci kf false .int) (hd : decode k.2.1.2.1 pc = .ok (.putfield idx, 3)) (ha : h[a]? = some (.inr (.inr (ci, fs)))) (hl : kf < fs.length) (kk : V k b (pc + 3) ls st (h.set a (.inr (.inr (ci, fs.set kf (.int x)))))) : V k b pc ls (.int x :: .ref a :: st) h := by
  intro p e R s m args below meth c Q A ad0 F ad H locs cells slots lsr r
  obtain ⟨C, T, N, ty0, hc, hk, hw, hty, hnm, hlk, hfin, hty1, -⟩ := hf
  have hW := r.2.2.1
  obtain ⟨⟨tys, t1, t2⟩, hP, hD⟩ := r.2.2.1
  have he := vws_get (ad := ad) ha
  have fin : ∀ (H1 : Heap) (locs1 : List Loc), va_P k.1.2.1 vwCl ((vws ad h).set a ((ad a).1, .inr (ci, (fs.map (mv ad)).set kf (.int x)))) H1 → va_D A ((vws ad h).set a ((ad a).1, .inr (ci, (fs.map (mv ad)).set kf (.int x)))) → va_S A s.heap H1 locs1 → W p k.1.1 e R s m args below meth c H1 locs1 cells slots Q (F0 m (pc + 3) lsr (st.map (mv ad))) := by
    intro H1 locs1 hP1 hD1 hS1
    have em : (fs.map (mv ad)).set kf (Value.int x) = (fs.set kf (.int x)).map (mv ad) := by rw [List.map_set]; rfl
    rw [em] at hP1 hD1
    exact kk p e R s m args below meth c Q A ad0 F ad H1 locs1 cells slots lsr ⟨r.1, r.2.1, hW.ofset ha rfl hP1 hD1, hS1, r.2.2.2.2.1, r.2.2.2.2.2.1, r.2.2.2.2.2.2.1, by rw [List.length_set]; exact r.2.2.2.2.2.2.2⟩
  rcases hlk with hl2 | ⟨host, hl2⟩
  · exact va_put (D := k.1.2.1) (cl := vwCl) F.1.1 F.1.2.1 F.1.2.2.2.2.1 hw ty0 hty hnm F.1.2.2.2.1 t1 hP hD r.2.2.2.1 a he hc kf hk (F.1.2.2.2.2.1 _ hl2) (fun _ q => q) hfin hty1 rfl rfl (by rw [List.length_map]; exact hl) hd fin
  · exact va_putN (D := k.1.2.1) (cl := vwCl) F.1.1 F.1.2.1 F.1.2.2.2.2.1 hw ty0 hty hnm F.1.2.2.2.1 t1 hP hD r.2.2.2.1 a he hc kf hk (va_Nw.use rfl (r.2.1.nest _ hl2)) (fun _ q => q) hfin hty1 rfl rfl (by rw [List.length_map]; exact hl) hd fin
/-- a final field, in the constructor -/
theorem V.putF {idx ci kf a : Nat} {ty : FieldType} {fs : List Value} {x : Nat} (hf : vfl k.2.1.1.cls idx ci kf true ty) (hl2 : ∀ (C : String) (T : u_T) (N : Nat), vwCl[ci]? = some (C, T, N) → Cond.fieldLink k.2.1.1.cls idx (T kf).1 (T kf).2.1 (T kf).2.2.1 ∈ vtS) (hn : ∀ q : Nat, narrow ty (.ref q) = .ref q ∧ fits ty (.ref q) = true) (hi : k.2.1.1.name = "<init>") (hd : decode k.2.1.2.1 pc = .ok (.putfield idx, 3)) (ha : h[a]? = some (.inr (.inr (ci, fs)))) (hl : kf < fs.length) (kk : V k b (pc + 3) ls st (h.set a (.inr (.inr (ci, fs.set kf (.ref x)))))) : V k b pc ls (.ref x :: .ref a :: st) h := by
  intro p e R s m args below meth c Q A ad0 F ad H locs cells slots lsr r
  obtain ⟨C, T, N, ty0, hc, hk, hw, hty, hnm, hlk, hfin, hty1, hdc⟩ := hf
  have hdc : (T kf).1 = k.2.1.1.cls := hdc.elim id (fun q => by cases q)
  have hW := r.2.2.1
  obtain ⟨⟨tys, t1, t2⟩, hP, hD⟩ := r.2.2.1
  have he := vws_get (ad := ad) ha
  have fin : ∀ (H1 : Heap) (locs1 : List Loc), va_P k.1.2.1 vwCl ((vws ad h).set a ((ad a).1, .inr (ci, (fs.map (mv ad)).set kf (.ref (ad x).1)))) H1 → va_D A ((vws ad h).set a ((ad a).1, .inr (ci, (fs.map (mv ad)).set kf (.ref (ad x).1)))) → va_S A s.heap H1 locs1 → W p k.1.1 e R s m args below meth c H1 locs1 cells slots Q (F0 m (pc + 3) lsr (st.map (mv ad))) := by
    intro H1 locs1 hP1 hD1 hS1
    have em : (fs.map (mv ad)).set kf (Value.ref (ad x).1) = (fs.set kf (.ref x)).map (mv ad) := by rw [List.map_set]; rfl
    rw [em] at hP1 hD1
    exact kk p e R s m args below meth c Q A ad0 F ad H1 locs1 cells slots lsr ⟨r.1, r.2.1, hW.ofset ha rfl hP1 hD1, hS1, r.2.2.2.2.1, r.2.2.2.2.2.1, r.2.2.2.2.2.2.1, by rw [List.length_set]; exact r.2.2.2.2.2.2.2⟩
  exact va_putF (D := k.1.2.1) (cl := vwCl) F.1.1 F.1.2.1 F.1.2.2.2.2.1 hw ty0 hty hnm F.1.2.2.2.1 t1 hP hD r.2.2.2.1 a he hc kf hk (F.1.2.2.2.2.1 _ (hl2 C T N hc)) (fun _ q => q) hfin (F.1.2.2.2.2.2.2.2.trans hi) hdc hty1 (hn _).1 (hn _).2 (by rw [List.length_map]; exact hl) hd fin
/-- an int array's element -/
theorem V.iald {a j : Nat} {i v : Int32} {xs : List Int32} (hd : decode k.2.1.2.1 pc = .ok (.iaload, 1)) (ha : h[a]? = some (.inl xs)) (hi : i = nI j) (hj : j < 2147483648) (hv : xs[j]? = some v) (kk : V k b (pc + 1) ls (.int v :: st) h) : V k b pc ls (.int i :: .ref a :: st) h := by
  intro p e R s m args below meth c Q A ad0 F ad H locs cells slots lsr r
  obtain ⟨⟨tys, t1, t2⟩, hP, hD⟩ := r.2.2.1
  have he := vws_get (ad := ad) ha
  obtain ⟨t0, ht0⟩ := List.getElem?_of_mem ((t2 a).1 xs ha)
  have hjl : j < xs.length := (List.getElem?_eq_some_iff.mp hv).1
  have hcl : i.toNatClampNeg = j := by rw [hi]; exact nI_clamp hj
  have hin : vp_in i xs.length := by rw [hi]; exact nI_in2 hjl hj
  refine va_iald (D := k.1.2.1) (cl := vwCl) F.1.1 F.1.2.1 t1 hP a t0 he ht0 hin hd ?_
  have e1 : xs.getD i.toNatClampNeg 0 = v := by rw [hcl, List.getD_eq_getElem?_getD, hv]; rfl
  show W p k.1.1 e R s m args below meth c H locs cells slots Q (F0 m (pc + 1) lsr (.int (xs.getD i.toNatClampNeg 0) :: st.map (mv ad)))
  rw [e1]
  exact kk p e R s m args below meth c Q A ad0 F ad H locs cells slots lsr r
theorem V.iast {a j : Nat} {i x : Int32} {xs : List Int32} (hd : decode k.2.1.2.1 pc = .ok (.iastore, 1)) (ha : h[a]? = some (.inl xs)) (hi : i = nI j) (hj : j < 2147483648) (hl : j < xs.length) (kk : V k b (pc + 1) ls st (h.set a (.inl (xs.set j x)))) : V k b pc ls (.int x :: .int i :: .ref a :: st) h := by
  intro p e R s m args below meth c Q A ad0 F ad H locs cells slots lsr r
  have hW := r.2.2.1
  obtain ⟨⟨tys, t1, t2⟩, hP, hD⟩ := r.2.2.1
  have he := vws_get (ad := ad) ha
  obtain ⟨t0, ht0⟩ := List.getElem?_of_mem ((t2 a).1 xs ha)
  have hcl : i.toNatClampNeg = j := by rw [hi]; exact nI_clamp hj
  have hin : vp_in i xs.length := by rw [hi]; exact nI_in2 hl hj
  refine va_iast (D := k.1.2.1) (cl := vwCl) F.1.1 F.1.2.1 t1 hP hD r.2.2.2.1 a t0 he ht0 hin hd (fun H1 locs1 hP1 hD1 hS1 => ?_)
  have em : (upd (fun j => xs.getD j 0) i.toNatClampNeg x) = (fun q => (xs.set j x).getD q 0) := by
    funext q
    simp only [upd, hcl, List.getD_eq_getElem?_getD, List.getElem?_set]
    by_cases e1 : q = j
    · subst e1; simp [hl]
    · simp [e1, Ne.symm e1]
  have ec : (Sum.inl ((ad a).2, xs.length, .inl (upd (fun j => xs.getD j 0) i.toNatClampNeg x)) : va_E) = vcell ad a (.inl (xs.set j x)) := by rw [em]; simp [vcell]
  rw [ec] at hP1 hD1
  exact kk p e R s m args below meth c Q A ad0 F ad H1 locs1 cells slots lsr ⟨r.1, r.2.1, hW.ofset ha rfl hP1 hD1, hS1, r.2.2.2.2.1, r.2.2.2.2.2.1, r.2.2.2.2.2.2.1, by rw [List.length_set]; exact r.2.2.2.2.2.2.2⟩
theorem V.alen {a : Nat} {xs : List Int32} {v : Int32} (hd : decode k.2.1.2.1 pc = .ok (.arraylength, 1)) (ha : h[a]? = some (.inl xs)) (hv : nI xs.length = v) (kk : V k b (pc + 1) ls (.int v :: st) h) : V k b pc ls (.ref a :: st) h := by
  intro p e R s m args below meth c Q A ad0 F ad H locs cells slots lsr r
  obtain ⟨⟨tys, t1, t2⟩, hP, hD⟩ := r.2.2.1
  have he := vws_get (ad := ad) ha
  obtain ⟨t0, ht0⟩ := List.getElem?_of_mem ((t2 a).1 xs ha)
  exact va_alen (D := k.1.2.1) (cl := vwCl) F.1.1 F.1.2.1 t1 hP a t0 he ht0 hv hd (kk p e R s m args below meth c Q A ad0 F ad H locs cells slots lsr r)
theorem V.aald {a j q : Nat} {i : Int32} {rs : List (Option Nat)} (hd : decode k.2.1.2.1 pc = .ok (.aaload, 1)) (ha : h[a]? = some (.inr (.inl rs))) (hi : i = nI j) (hj : j < 2147483648) (hv : rs[j]? = some (some q)) (kk : V k b (pc + 1) ls (.ref q :: st) h) : V k b pc ls (.int i :: .ref a :: st) h := by
  intro p e R s m args below meth c Q A ad0 F ad H locs cells slots lsr r
  obtain ⟨⟨tys, t1, t2⟩, hP, hD⟩ := r.2.2.1
  have he := vws_get (ad := ad) ha
  obtain ⟨t0, ht0⟩ := List.getElem?_of_mem ((t2 a).2 rs ha)
  have hjl : j < rs.length := (List.getElem?_eq_some_iff.mp hv).1
  have hcl : i.toNatClampNeg = j := by rw [hi]; exact nI_clamp hj
  have hin : vp_in i rs.length := by rw [hi]; exact nI_in2 hjl hj
  refine va_aldq (D := k.1.2.1) (cl := vwCl) F.1.1 F.1.2.1 t1 hP a t0 he ht0 hin hd ?_
  have e1 : rs.getD i.toNatClampNeg none = some q := by rw [hcl, List.getD_eq_getElem?_getD, hv]; rfl
  rw [e1]
  exact kk p e R s m args below meth c Q A ad0 F ad H locs cells slots lsr r
theorem V.aast {a j q ci : Nat} {i : Int32} {rs : List (Option Nat)} {fs : List Value} (hd : decode k.2.1.2.1 pc = .ok (.aastore, 1)) (ha : h[a]? = some (.inr (.inl rs))) (hq : h[q]? = some (.inr (.inr (3, fs)))) (hi : i = nI j) (hj : j < 2147483648) (hl : j < rs.length) (kk : V k b (pc + 1) ls st (h.set a (.inr (.inl (rs.set j (some q)))))) : V k b pc ls (.ref q :: .int i :: .ref a :: st) h := by
  intro p e R s m args below meth c Q A ad0 F ad H locs cells slots lsr r
  have hW := r.2.2.1
  obtain ⟨⟨tys, t1, t2⟩, hP, hD⟩ := r.2.2.1
  have he := vws_get (ad := ad) ha
  have he2 := vws_get (ad := ad) hq
  obtain ⟨t0, ht0⟩ := List.getElem?_of_mem ((t2 a).2 rs ha)
  have hcl : i.toNatClampNeg = j := by rw [hi]; exact nI_clamp hj
  have hin : vp_in i rs.length := by rw [hi]; exact nI_in2 hl hj
  refine va_astq (D := k.1.2.1) (cl := vwCl) (r := (RX3, TX3, 9)) F.1.1 F.1.2.1 t1 hP hD r.2.2.2.1 a t0 q 3 he ht0 he2 rfl hin hd (fun H1 locs1 hP1 hD1 hS1 => ?_)
  have em : (va_up (fun j => (rs.getD j none).map (fun q => (ad q).1)) i.toNatClampNeg (some (ad q).1)) = (fun y => ((rs.set j (some q)).getD y none).map (fun q => (ad q).1)) := by
    funext y
    simp only [va_up, hcl, List.getD_eq_getElem?_getD, List.getElem?_set]
    by_cases e1 : y = j
    · subst e1; simp [hl]
    · simp [e1, Ne.symm e1]
  have ec : (Sum.inl ((ad a).2, rs.length, .inr (.inr (.inr (.inr (va_up (fun j => (rs.getD j none).map (fun q => (ad q).1)) i.toNatClampNeg (some (ad q).1)))))) : va_E) = vcell ad a (.inr (.inl (rs.set j (some q)))) := by rw [em]; simp [vcell]
  rw [ec] at hP1 hD1
  exact kk p e R s m args below meth c Q A ad0 F ad H1 locs1 cells slots lsr ⟨r.1, r.2.1, hW.ofset ha rfl hP1 hD1, hS1, r.2.2.2.2.1, r.2.2.2.2.2.1, r.2.2.2.2.2.2.1, by rw [List.length_set]; exact r.2.2.2.2.2.2.2⟩
/-- the end -/
theorem V.iret {x : Int32} (hd : decode k.2.1.2.1 pc = .ok (.ireturn, 1)) (ht : k.2.1.2.2.2 = some .int) (hp : k.2.2.2.2.2 (some (.int x)) h) : V k b pc ls [.int x] h :=
  fun p e R s m args below meth c Q A ad0 F ad H locs cells slots lsr r => F.2.2.2.2 ad h H locs cells slots lsr pc (some (.int x)) r.1 r.2.2.1 r.2.2.2.1 (Nat.le_trans (Nat.le_add_right _ _) r.2.2.2.2.2.1) (Nat.le_trans (Nat.le_add_right _ _) r.2.2.2.2.2.2.1) hp r.2.2.2.2.2.2.2 (Or.inl ⟨x, rfl, hd, .int, ht, rfl⟩)
theorem V.zret {x : Int32} (hd : decode k.2.1.2.1 pc = .ok (.ireturn, 1)) (ht : k.2.1.2.2.2 = some .boolean) (hx : x = 0 ∨ x = 1) (hp : k.2.2.2.2.2 (some (.int x)) h) : V k b pc ls [.int x] h :=
  fun p e R s m args below meth c Q A ad0 F ad H locs cells slots lsr r => F.2.2.2.2 ad h H locs cells slots lsr pc (some (.int x)) r.1 r.2.2.1 r.2.2.2.1 (Nat.le_trans (Nat.le_add_right _ _) r.2.2.2.2.2.1) (Nat.le_trans (Nat.le_add_right _ _) r.2.2.2.2.2.2.1) hp r.2.2.2.2.2.2.2 (Or.inl ⟨x, rfl, hd, .boolean, ht, by rcases hx with rfl | rfl <;> decide⟩)
theorem V.vret (hd : decode k.2.1.2.1 pc = .ok (.return_, 1)) (ht : k.2.1.2.2.2 = none) (hp : k.2.2.2.2.2 none h) : V k b pc ls [] h :=
  fun p e R s m args below meth c Q A ad0 F ad H locs cells slots lsr r => F.2.2.2.2 ad h H locs cells slots lsr pc none r.1 r.2.2.1 r.2.2.2.1 (Nat.le_trans (Nat.le_add_right _ _) r.2.2.2.2.2.1) (Nat.le_trans (Nat.le_add_right _ _) r.2.2.2.2.2.2.1) hp r.2.2.2.2.2.2.2 (Or.inr ⟨rfl, hd, ht⟩)
end VHeap
