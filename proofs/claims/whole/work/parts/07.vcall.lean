/-! calls, contracts -/
theorem vN_tab {w : Cond} (h : w ∈ vNS) : w.onTables = true := by
  have := (List.mem_filter.mp h).2
  cases w <;> first | rfl | cases this
theorem vNw_warm {w : Cond} (h : w ∈ vNS) {s U : State} (hW : s.WarmedH U.vm) (hZ : va_Nw w s) : va_Nw w U := by
  have := (List.mem_filter.mp h).2
  cases w <;> first | exact va_Nw.warmF hW hZ | exact va_Nw.warmM hW hZ | cases this
theorem VRO.go {g : VG} {ad : VAd} {A B : Nat → Prop} {s U : State} {H : Heap} {locs : List Loc} (r : VRO g ad A s) (hS : va_S A s.heap H locs) (hU : U.heap = H) (hW : s.WarmedH U.vm) (hAB : ∀ q, B q → A q) : VRO g ad B U := by
  subst hU
  obtain ⟨h1, h2, h3, h4, h5, h6, h7, h8, h9, h10, h11, h12, h13⟩ := r
  have hq : ∀ a : Nat, a < s.heap.size → ¬ A a → U.heap[a]? = s.heap[a]? := hS.2.1
  have hv := hW.alike
  exact ⟨((h1.moved hv).kept hq).narrow hAB, ((h2.moved hv).kept hq).narrow hAB, ((h3.moved hv).kept hq).narrow hAB, ((h4.moved hv).kept hq).narrow hAB, ((h5.moved hv).kept hq).narrow hAB, h6.warm hW, ((h7.moved hv).kept hq).narrow hAB, ((h8.moved hv).kept hq).narrow hAB, ((h9.moved hv).kept hq).narrow hAB, ((h10.moved hv).kept hq).narrow hAB, ⟨((h11.1.moved hv).kept hq).narrow hAB, h11.2.elim (fun v z => ⟨v, z.1, ((z.2.moved hv).kept hq).narrow hAB⟩)⟩, h12.moved hv, fun w hw => vNw_warm hw hW (h13 w hw)⟩
theorem VRO.same {g : VG} {ad : VAd} {A : Nat → Prop} {U U' : State} (r : VRO g ad A U) (hh : U'.heap = U.heap) (hv : U'.vm = U.vm) : VRO g ad A U' := by
  obtain ⟨h1, h2, h3, h4, h5, h6, h7, h8, h9, h10, h11, h12, h13⟩ := r
  have ha : U.vm.Alike U'.vm := by rw [hv]; exact Vm.Alike.refl _
  exact ⟨by rw [hh]; exact h1.moved ha, by rw [hh]; exact h2.moved ha, by rw [hh]; exact h3.moved ha, by rw [hh]; exact h4.moved ha, by rw [hh]; exact h5.moved ha, h6.same hv, by rw [hh]; exact h7.moved ha, by rw [hh]; exact h8.moved ha, by rw [hh]; exact h9.moved ha, by rw [hh]; exact h10.moved ha, ⟨by rw [hh]; exact h11.1.moved ha, h11.2.elim (fun v z => ⟨v, z.1, by rw [hh]; exact z.2.moved ha⟩)⟩, h12.moved ha, fun w hw => va_Nw.same (vN_tab hw) hv.symm (h13 w hw)⟩
theorem vblind {g : VG} {ad : VAd} {h : VHp} {A : Nat → Prop} {sz : Nat} {as : List Value} : FrameBlind (va_Pc as (fun U => U.heap.size = sz ∧ VRO g ad A U ∧ VWd g ad h U U.heap (fun _ => True))) := by
  intro a U fr mk q
  obtain ⟨q0, q1, q2, q3⟩ := q
  exact ⟨q0, q1, q2.same rfl rfl, VWd.moved (U := U) (U' := U.calling fr mk a) (Vm.Alike.refl U.vm) q3⟩
theorem vfree {g : VG} {ad : VAd} {h : VHp} {A : Nat → Prop} {s : State} {H : Heap} {locs : List Loc} (w : VWd g ad h s H A) (hS : va_S A s.heap H locs) (hA : ∀ q, s.heap.size ≤ q → A q) : ∀ q, va_A (vws ad h) H.size q → A q := by
  intro q hq
  rcases hq with ⟨k, e, hk⟩ | hq
  · exact w.2.2.2 k (q, e) hk
  · exact hA q (Nat.le_trans hS.1 hq)
/-- behind a call -/
theorem vafter {g : VG} {p : Program} {e : Env} {R : Room} {s : State} {m : MethodId} {args : Array Value} {below : List Frame} {meth : Method} {c : Code} {H : Heap} {locs : List Loc} {cells slots mc ms pc : Nat} {Q : State → Prop} {lsr : Array Slot} {st0 rest : List Value} {z : Bool} {n : Nat} {Post : VPost} {ad : VAd} {h : VHp} {A : Nat → Prop} {a : Array Value}
    (hr : va_Run p g.1 e R s m args below meth c H locs cells slots mc ms (F0 m pc lsr st0) rest (VQ g z n Post ad (va_A (vws ad h) H.size) a) (va_A (vws ad h) H.size)) (w : VWd g ad h s H A) (hS : va_S A s.heap H locs) (hA : ∀ q, s.heap.size ≤ q → A q)
    (kk : ∀ (v : Option Value) (h' : VHp) (ad' : VAd) (H1 : Heap) (locs1 : List Loc), vagree z n ad ad' → n ≤ h'.length → Post v h' → VWd g ad' h' s H1 A → va_S A s.heap H1 locs1 → W p g.1 e R s m args below meth c H1 locs1 (cells + mc) (slots + ms) Q (F0 m (pc + 3) lsr ((v.map (mv ad')).toList ++ rest))) :
    W p g.1 e R s m args below meth c H locs cells slots Q (F0 m pc lsr st0) := by
  intro T hT X
  obtain ⟨v, st₀, t, T', L, h0, X', hL, e1, e2, ⟨v', h', ad', ha, hn, hv, hp, hw, hz, hk⟩, st⟩ := hr T hT X
  have hF := vfree w hS hA
  cases hv
  rw [h0] at hz hk
  have hal : t.vm.Alike s.vm := by rw [← e2]; exact X'.warmed.alike.symm
  have hw' : VWd g ad' h' s t.heap A := by
    obtain ⟨w1, w2, w3⟩ := hw.moved hal
    exact ⟨w1, w2, w3.weaken (fun _ q _ hq => hF q.1 hq)⟩
  obtain ⟨t2, a1, b1⟩ := kk v' h' ad' t.heap (locs ++ L) ha hn hp hw'
    ⟨Nat.le_trans hS.1 hz, fun q h1 h2 => by rw [hk q (Nat.lt_of_lt_of_le h1 hS.1) (fun z => h2 (hF q z))]; exact hS.2.1 q h1 h2, fun q hq => by
      rcases List.mem_append.mp hq with h | h
      · exact hS.2.2 q h
      · exact hF _ (hL q h)⟩ T' e1 X'
  exact ⟨t2, st t2 a1, b1⟩
theorem VE.of {g : VG} {M : VM} {d : Nat} {z : Bool} {b : Nat × Nat} {args : List Value} {h : VHp} {Post : VPost} (hy : plainName M.1.cls = true) (hc : args.all (fun v => v.category == 1) = true) (hn : args.length ≤ M.2.2.1)
    (hV : V (g, M, d, z, h.length, Post) b 0 (vent args M.2.2.1) [] h) : VE g M d z b args h Post := by
  intro ad sz
  refine Met.ofW (cc := M.2.1) (maxL := M.2.2.1) (ret := M.2.2.2) hy rfl ?_
  intro p e s m args' below meth c s₁ B hml hv
  obtain ⟨rfl, hsz, hro, hw⟩ := hv
  have hts := atoms_spec (ws := Cond.code M.1 M.2.1 M.2.2.1 M.2.2.2 :: vtS) B.pre
  have hown : s.vm.findClass M.1.cls = some m.cls := findClass_of_methodNamed B.named
  have hnm : meth.name = M.1.name := (name_of_methodNamed B.named B.method).1
  have hlocks := B.notSynchronized
  subst hsz
  rw [lg_entry_eq]
  have hA : ∀ q : Nat, s.heap.size ≤ q → va_A (vws ad h) s.heap.size q := fun q hq => Or.inr hq
  refine hV p e (headSpec (Cond.code M.1 M.2.1 M.2.2.1 M.2.2.2 :: vtS) (vroom d b)).room s m _ below meth c _ (va_A (vws ad h) s.heap.size) ad ⟨⟨B.exec, B.bytes, hml, hown, fun w hw => hts w (List.mem_cons_of_mem _ hw), B.returns, hlocks, hnm⟩, Nat.le_refl _, Nat.le_refl _, hA, ?_⟩ ad s.heap [] 0 0 _ ⟨vagree.rf, hro, ⟨hw.1, hw.2.1, hw.2.2.self⟩, va_S.rf, vent_LR hc hn, Nat.le_of_eq (Nat.zero_add _), Nat.le_of_eq (Nat.zero_add _), Nat.le_refl _⟩
  intro ad' h' H' locs' cells' slots' lsr' pc' v hag hw' hS' hce hsl hp hlen hri
  refine W.widen (k := b.1) (n := b.2) hce hsl ?_
  rcases hri with ⟨x, rfl, hd, ty, hty, hnr⟩ | ⟨rfl, hd, hty⟩
  · exact W.zret (ty := ty) B.exec B.bytes (B.returns.trans hty) hnr (fun t ht hWm => ⟨some (.int x), h', ad', hag, hlen, rfl, hp, by rw [ht]; exact hw'.moved hWm.alike, hS'.F ht⟩) hS'.2.2 hd
  · exact W.vret B.exec B.bytes (B.returns.trans hty) (fun t ht hWm => ⟨none, h', ad', hag, hlen, rfl, hp, by rw [ht]; exact hw'.moved hWm.alike, hS'.F ht⟩) hS'.2.2 hd
/-- what is known of a method that is called: its code is among the words -/
def vcM (M : VM) (n : Nat) : Prop := Cond.code M.1 M.2.1 M.2.2.1 M.2.2.2 ∈ vtS ∧ Cond.initialized M.1.cls ∈ vtS ∧ M.2.2.1 ≤ 60 ∧ (M.1.cls ≠ "java/lang/invoke/MethodHandle" ∧ M.1.cls ≠ "java/lang/invoke/VarHandle" ∧ (parseMethodDescriptor M.1.desc).map (fun d => d.parameters.length) = some n)
theorem vgood {w : Cond} (h : w ∈ vtS) : w ∈ vtS ∧ ((w.onTables && w.keeps) = true ∨ ∃ ty, w = .arrayClass ty) := ⟨h, good_of_word (vtS_good w h)⟩
theorem vgoodM {M : VM} {n : Nat} (h : vcM M n) : GoodIn vtS (Cond.code M.1 M.2.1 M.2.2.1 M.2.2.2 :: vtS) := fun w hw => by
  rcases List.mem_cons.mp hw with rfl | hw
  · exact vgood h.1
  · exact vgood hw
def vcV (own : String) (idx : Nat) (M : VM) (n : Nat) : Prop := vcM M n ∧ Cond.methodLink own idx M.1 ∈ vtS ∧ Cond.instanceMethod M.1 ∈ vtS ∧ Cond.selects M.1.cls M.1 M.1 ∈ vtS
def vcS (own : String) (idx : Nat) (M : VM) (n : Nat) : Prop := vcM M n ∧ (Cond.methodLink own idx M.1 ∈ vtS ∨ ∃ host, Cond.methodLinkNest own idx M.1 host ∈ vNS) ∧ Cond.static M.1 ∈ vtS
def vcI (own : String) (idx : Nat) (M : VM) (n : Nat) : Prop := vcM M n ∧ (Cond.methodLink own idx M.1 ∈ vtS ∨ ∃ host, Cond.methodLinkNest own idx M.1 host ∈ vNS) ∧ Cond.instanceMethod M.1 ∈ vtS ∧ M.1.name = "<init>" ∧ M.2.2.2 = none
theorem vcat {ad : VAd} {rest : List Value} (h : (rest.map fun v => v.category).sum ≤ 8) : ((rest.map (mv ad)).map fun v => v.category).sum ≤ 8 := by
  rw [List.map_map]
  have : ((fun v => Value.category v) ∘ mv ad) = fun v => v.category := funext fun v => mv_cat ad v
  rw [this]; exact h
section VCalls
variable {k : VK} {b : Nat × Nat} {pc : Nat} {ls : List (Option Value)} {st : List Value} {h : VHp}
/-- an instance method's call, one that makes nothing -/
theorem V.callV {idx n ci d a : Nat} {M : VM} {As rest fs : List Value} {Post : VPost} (hc : vcV k.2.1.1.cls idx M n) (hE : VE k.1 M d false (0, 0) (.ref a :: As) h Post) (hd : decode k.2.1.2.1 pc = .ok (.invokevirtual idx, 3)) (hdp : d + 1 ≤ k.2.2.1) (hcl : (vwCl[ci]?).map (fun q => q.1) = some M.1.cls) (ha : h[a]? = some (.inr (.inr (ci, fs)))) (hst : st = As.reverse ++ .ref a :: rest) (hn : As.length = n) (hsz : (rest.map fun v => v.category).sum ≤ 8)
    (kk : ∀ v h', Post v h' → V k b (pc + 3) ls (v.toList ++ rest) h') : V k b pc ls st h := by
  intro p e R s m args below meth c Q A ad0 F ad H locs cells slots lsr r
  obtain ⟨hM, hl1, hl2, hl3⟩ := hc
  have hts := F.1.2.2.2.2.1
  have hW := r.2.2.1
  have hF := vfree hW r.2.2.2.1 F.2.2.2.1
  obtain ⟨⟨tys, t1, t2⟩, hP, hD⟩ := r.2.2.1
  have he := vws_get (ad := ad) ha
  have hcw : CallW R s args k.2.1.1.cls M.1.cls idx M.1 M.2.1 M.2.2.1 M.2.2.2 (Cond.code M.1 M.2.1 M.2.2.1 M.2.2.2 :: vtS) (vroom d (0, 0)) 0 0 n := by
    refine cwV n hts (fun w hw => ?_) rfl rfl rfl ⟨rfl, hM.2.2.2⟩ ⟨Nat.le_trans hdp F.2.1, ?_⟩
    · rcases List.mem_append.mp hw with hw | hw
      · simp only [List.mem_cons, List.not_mem_nil, or_false] at hw
        rcases hw with rfl | rfl | rfl | rfl
        · exact vgood hl1
        · exact vgood hl2
        · exact vgood hl3
        · exact vgood hM.2.1
      · exact vgoodM hM w hw
    · have h1 := F.2.2.1
      have h2 := hM.2.2.1
      show 8 + (M.2.2.1 + 11) + 80 * d ≤ R.locals
      omega
  have hcls : ∃ q, vwCl[ci]? = some q ∧ q.1 = M.1.cls := by
    cases hq : vwCl[ci]? with
    | none => rw [hq] at hcl; cases hcl
    | some q => rw [hq] at hcl; exact ⟨q, rfl, Option.some.inj hcl⟩
  obtain ⟨q, hq1, hq2⟩ := hcls
  have hrecv := va_recv (D := k.1.2.1) t1 hP (ci := ci) (q0 := a) hq1 he
  rw [hq2] at hrecv
  have hrun := va_runV (p := p) (e := e) (below := below) (meth := meth) (locs := locs) (cells := cells) (slots := slots) (g := F0 m pc lsr (st.map (mv ad))) (As := As.map (mv ad)) (rest := rest.map (mv ad)) (b := (ad a).1) (H := H) ⟨F.1.1, F.1.2.1, F.1.2.2.1, F.1.2.2.2.1, hts⟩ (hE ad H.size) hcw ⟨vblind, hrecv, fun U hU hWm => ⟨rfl, by rw [hU], VRO.go r.2.1 r.2.2.2.1 hU hWm hF, by rw [hU]; exact VWd.moved hWm.alike ⟨⟨tys, t1, t2⟩, hP, hD.weaken (fun _ _ _ _ => trivial)⟩⟩⟩ rfl (by rw [List.length_map]; exact hn) r.2.2.2.2.1.2.1 (by rw [hst]; simp [mv, List.map_reverse]) (lv_room (vcat hsz)) hd ⟨Nat.le_trans (Nat.le_add_right _ _) r.2.2.2.2.2.1, Nat.le_trans (Nat.le_add_right _ _) r.2.2.2.2.2.2.1⟩
  refine vafter hrun hW r.2.2.2.1 F.2.2.2.1 (fun v h' ad' H1 locs1 hag hlen hp hw' hS' => ?_)
  obtain rfl := hag.eq
  have e1 : (v.map (mv ad')).toList ++ rest.map (mv ad') = (v.toList ++ rest).map (mv ad') := by cases v <;> simp
  rw [e1]
  exact kk v h' hp p e R s m args below meth c Q A ad0 F ad' H1 locs1 cells slots lsr ⟨r.1, r.2.1, hw', hS', r.2.2.2.2.1, r.2.2.2.2.2.1, r.2.2.2.2.2.2.1, Nat.le_trans r.2.2.2.2.2.2.2 hlen⟩
/-- a static method's call, one that makes nothing -/
theorem V.callS {idx n d : Nat} {M : VM} {As rest : List Value} {Post : VPost} (hc : vcS k.2.1.1.cls idx M n) (hE : VE k.1 M d false (0, 0) As h Post) (hd : decode k.2.1.2.1 pc = .ok (.invokestatic idx, 3)) (hdp : d + 1 ≤ k.2.2.1) (hst : st = As.reverse ++ rest) (hn : As.length = n) (hsz : (rest.map fun v => v.category).sum ≤ 8)
    (kk : ∀ v h', Post v h' → V k b (pc + 3) ls (v.toList ++ rest) h') : V k b pc ls st h := by
  intro p e R s m args below meth c Q A ad0 F ad H locs cells slots lsr r
  obtain ⟨hM, hl1, hl2⟩ := hc
  have hts := F.1.2.2.2.2.1
  have hW := r.2.2.1
  have hF := vfree hW r.2.2.2.1 F.2.2.2.1
  obtain ⟨⟨tys, t1, t2⟩, hP, hD⟩ := r.2.2.1
  have hroom : (vroom d (0, 0)).frames + 1 ≤ R.frames ∧ 8 + (M.2.2.1 + 11) + (vroom d (0, 0)).locals ≤ R.locals := by
    refine ⟨Nat.le_trans hdp F.2.1, ?_⟩
    have h1 := F.2.2.1
    have h2 := hM.2.2.1
    show 8 + (M.2.2.1 + 11) + 80 * d ≤ R.locals
    omega
  have hpre : PreS s H (va_Pc (As.map (mv ad)) (fun U => U.heap.size = H.size ∧ VRO k.1 ad (va_A (vws ad h) H.size) U ∧ VWd k.1 ad h U U.heap (fun _ => True))) (As.map (mv ad)) := ⟨vblind, fun U hU hWm => ⟨rfl, by rw [hU], VRO.go r.2.1 r.2.2.2.1 hU hWm hF, by rw [hU]; exact VWd.moved hWm.alike ⟨⟨tys, t1, t2⟩, hP, hD.weaken (fun _ _ _ _ => trivial)⟩⟩⟩
  have hstk : (F0 m pc lsr (st.map (mv ad))).stack = (As.map (mv ad)).reverse ++ rest.map (mv ad) := by rw [hst]; simp [List.map_reverse]
  have hrun : va_Run p k.1.1 e R s m args below meth c H locs cells slots 0 0 (F0 m pc lsr (st.map (mv ad))) (rest.map (mv ad)) (VQ k.1 false h.length Post ad (va_A (vws ad h) H.size) (As.map (mv ad)).toArray) (va_A (vws ad h) H.size) := by
    rcases hl1 with hl1 | ⟨host, hl1⟩
    · refine va_runS (own := k.2.1.1.cls) (Ts := vtS) (bytes := M.2.1) (maxL := M.2.2.1) (ret := M.2.2.2) (n := n) ⟨F.1.1, F.1.2.1, F.1.2.2.1, F.1.2.2.2.1, hts⟩ (hE ad H.size) ⟨callB_of n hts (vgoodM hM) rfl rfl rfl (hts _ hM.2.1) (hts _ hl1) hM.2.2.2 hroom, hts _ hl2⟩ hpre rfl (by rw [List.length_map]; exact hn) r.2.2.2.2.1.2.1 hstk (lv_room (vcat hsz)) hd ⟨Nat.le_trans (Nat.le_add_right _ _) r.2.2.2.2.2.1, Nat.le_trans (Nat.le_add_right _ _) r.2.2.2.2.2.2.1⟩
    · refine va_runSN (own := k.2.1.1.cls) (host := host) (Ts := vtS) (bytes := M.2.1) (maxL := M.2.2.1) (ret := M.2.2.2) (n := n) ⟨F.1.1, F.1.2.1, F.1.2.2.1, F.1.2.2.2.1, hts⟩ (hE ad H.size) ⟨va_cnB n hts (vgoodM hM) rfl rfl rfl (r.2.1.nest _ hl1) (hts _ hM.2.1) hM.2.2.2 hroom, hts _ hl2, trivial⟩ hpre rfl (by rw [List.length_map]; exact hn) r.2.2.2.2.1.2.1 hstk (lv_room (vcat hsz)) hd ⟨Nat.le_trans (Nat.le_add_right _ _) r.2.2.2.2.2.1, Nat.le_trans (Nat.le_add_right _ _) r.2.2.2.2.2.2.1⟩
  refine vafter hrun hW r.2.2.2.1 F.2.2.2.1 (fun v h' ad' H1 locs1 hag hlen hp hw' hS' => ?_)
  obtain rfl := hag.eq
  have e1 : (v.map (mv ad')).toList ++ rest.map (mv ad') = (v.toList ++ rest).map (mv ad') := by cases v <;> simp
  rw [e1]
  exact kk v h' hp p e R s m args below meth c Q A ad0 F ad' H1 locs1 cells slots lsr ⟨r.1, r.2.1, hw', hS', r.2.2.2.2.1, r.2.2.2.2.2.1, r.2.2.2.2.2.2.1, Nat.le_trans r.2.2.2.2.2.2.2 hlen⟩
end VCalls
