/-! making things: an object at the end of the heap, what is made for it behind it -/
theorem vwf_ap {n : Nat} {a b : VHp} (h1 : vwf n a) (h2 : vwf n b) : vwf n (a ++ b) := fun c hc => (List.mem_append.mp hc).elim (h1 c) (h2 c)
theorem vor {n q : Nat} (h : q < n) : vokv n (.ref q) := Or.inl h
theorem vwn {n : Nat} : vwf n [] := fun _ hc => absurd hc List.not_mem_nil
theorem vwc {n : Nat} {c : VC} {l : VHp} (h1 : vokc n c) (h2 : vwf n l) : vwf n (c :: l) := fun x hx => (List.mem_cons.mp hx).elim (fun e => by rw [e]; exact h1) (h2 x)
theorem vfn {n : Nat} : ∀ v ∈ ([] : List Value), vokv n v := fun _ hc => absurd hc List.not_mem_nil
theorem vfc {n : Nat} {v : Value} {l : List Value} (h1 : vokv n v) (h2 : ∀ v ∈ l, vokv n v) : ∀ w ∈ v :: l, vokv n w := fun x hx => (List.mem_cons.mp hx).elim (fun e => by rw [e]; exact h1) (h2 x)
theorem vln {n : Nat} : ∀ v, some v ∈ ([] : List (Option Value)) → vokv n v := fun _ hc => absurd hc List.not_mem_nil
theorem vlc {n : Nat} {v : Value} {l : List (Option Value)} (h1 : vokv n v) (h2 : ∀ v, some v ∈ l → vokv n v) : ∀ w, some w ∈ some v :: l → vokv n w := fun x hx => (List.mem_cons.mp hx).elim (fun e => by cases e; exact h1) (h2 x)
theorem vl0 {n : Nat} {l : List (Option Value)} (h2 : ∀ v, some v ∈ l → vokv n v) : ∀ w, some w ∈ none :: l → vokv n w := fun x hx => (List.mem_cons.mp hx).elim (fun e => by cases e) (h2 x)
theorem mid_set {h L : VHp} {X Y : VC} : (h ++ X :: L).set h.length Y = h ++ Y :: L := by
  induction h with
  | nil => rfl
  | cons a l ih => show a :: (l ++ X :: L).set l.length Y = a :: (l ++ Y :: L); rw [ih]
theorem mid_get {h L : VHp} {X : VC} : (h ++ X :: L)[h.length]? = some X := by
  rw [List.getElem?_append_right (Nat.le_refl _), Nat.sub_self]; rfl
theorem mid_at {h L : VHp} {X : VC} {i : Nat} : (h ++ X :: L)[h.length + (i + 1)]? = L[i]? := by
  rw [List.getElem?_append_right (by omega), show h.length + (i + 1) - h.length = i + 1 by omega]; rfl
theorem mid_len {h L : VHp} {X : VC} : (h ++ X :: L).length = h.length + 1 + L.length := by
  rw [List.length_append, List.length_cons]; omega
section VMake
variable {k : VK} {b : Nat × Nat} {pc : Nat} {ls : List (Option Value)} {st : List Value} {h : VHp}
theorem V.newIc {N r q : Nat} {X : VC} {L L' : VHp} (hw : Cond.arrayClass .int ∈ vtS) (hN : N < 100000) (hz : k.2.2.2.1 = true) (hr : h.length = r) (hq : r + 1 + L.length = q) (hL : L ++ [.inl (List.replicate N 0)] = L') (hwf : vwf r h) (hwx : vwf q (X :: L)) (hlo : vlok q ls st) (hlen : q < 1000000) (hd : decode k.2.1.2.1 pc = .ok (.newarray .int, 2))
    (kk : V k b (pc + 2) ls (.ref q :: st) (h ++ X :: L')) : V k (b.1 + 1, b.2 + N) pc ls (.int (nI N) :: st) (h ++ X :: L) := by
  subst hr
  subst hL
  have e : (h ++ X :: L).length = q := by rw [mid_len]; exact hq
  have hq1 : h.length ≤ q := by omega
  refine V.newI (N := N) hw rfl hN hz (by rw [e]; exact vwf_ap (hwf.mono hq1) hwx) (by rw [e]; exact hlo) (by rw [e]; exact hlen) hd ?_
  rw [e, List.append_assoc]
  exact kk
theorem V.putFc {idx ci kf x r : Nat} {ty : FieldType} {fs : List Value} {L : VHp} (hr : h.length = r) (hf : vfl k.2.1.1.cls idx ci kf true ty) (hl2 : ∀ (C : String) (T : u_T) (N : Nat), vwCl[ci]? = some (C, T, N) → Cond.fieldLink k.2.1.1.cls idx (T kf).1 (T kf).2.1 (T kf).2.2.1 ∈ vtS) (hn : ∀ q : Nat, narrow ty (.ref q) = .ref q ∧ fits ty (.ref q) = true) (hi : k.2.1.1.name = "<init>") (hd : decode k.2.1.2.1 pc = .ok (.putfield idx, 3)) (hl : kf < fs.length) (kk : V k b (pc + 3) ls st (h ++ .inr (.inr (ci, fs.set kf (.ref x))) :: L)) : V k b pc ls (.ref x :: .ref r :: st) (h ++ .inr (.inr (ci, fs)) :: L) := by
  subst hr
  refine V.putF hf hl2 hn hi hd mid_get hl ?_
  rw [mid_set]
  exact kk
theorem V.putic {idx ci kf r : Nat} {fs : List Value} {x : Int32} {L : VHp} (hr : h.length = r) (hf : vfl k.2.1.1.cls idx ci kf false .int) (hd : decode k.2.1.2.1 pc = .ok (.putfield idx, 3)) (hl : kf < fs.length) (kk : V k b (pc + 3) ls st (h ++ .inr (.inr (ci, fs.set kf (.int x))) :: L)) : V k b pc ls (.int x :: .ref r :: st) (h ++ .inr (.inr (ci, fs)) :: L) := by
  subst hr
  refine V.puti hf hd mid_get hl ?_
  rw [mid_set]
  exact kk
/-- new, dup, the constructor's call -/
theorem V.mk {idx idx2 ci N n d : Nat} {C : String} {T : u_T} {ty : Nat → FieldType} {fs : List Value} {M : VM} {b1 : Nat × Nat} {P : VHp → Prop} (hn : h.length = n) (hc : vwCl[ci]? = some (C, T, N)) (hw : (∀ w ∈ u_ws C T N, w ∈ vtS) ∧ Cond.classLink k.2.1.1.cls idx C ∈ vtS ∧ Cond.instantiable C N ∈ vtS ∧ Cond.initialized C ∈ vtS) (hty : ∀ j, j < N → parseFieldDescriptor (T j).2.2.1 = some (ty j)) (hfs : ∀ j, j < N → defaultValue (ty j) = vp_V fs j) (hfr : ∀ ad : VAd, fs.map (mv ad) = fs) (hz : k.2.2.2.1 = true) (hwf : vwf n h) (hlo : vlok n ls st) (hlen : n < 1000000) (hd0 : decode k.2.1.2.1 pc = .ok (.new idx, 3)) (hd1 : decode k.2.1.2.1 (pc + 3) = .ok (.dup, 1)) (hd2 : decode k.2.1.2.1 (pc + 4) = .ok (.invokespecial idx2, 3)) (hI : vcI k.2.1.1.cls idx2 M 0) (hE : VE k.1 M d true b1 [.ref n] (h ++ [.inr (.inr (ci, fs))]) (fun v h' => v = none ∧ P h')) (hdp : d + 1 ≤ k.2.2.1) (hsz : ((Value.ref n :: st).map fun v => v.category).sum ≤ 8)
    (kk : ∀ h', P h' → V k b (pc + 7) ls (.ref n :: st) h') : V k (b.1 + b1.1 + 1, b.2 + b1.2 + N) pc ls st h := by
  subst hn
  refine V.new (b := (b.1 + b1.1, b.2 + b1.2)) hc hw hty hfs hfr hz hwf hlo hlen hd0 ?_
  refine V.dup hd1 rfl ?_
  have e : (h ++ [Sum.inr (Sum.inr (ci, fs))] : VHp).length = h.length + 1 := by rw [List.length_append]; rfl
  refine V.callI (As := []) (rest := .ref h.length :: st) hI hE hd2 hdp rfl rfl hsz hz ?_ (fun v h' hp => ?_) (fun v h' hp => hp.1)
  · rw [e]
    exact ⟨fun v hv => (hlo.1 v hv).mono (by omega), vfc (vor (by omega)) (fun v hv => (hlo.2 v hv).mono (by omega))⟩
  · obtain ⟨rfl, hp⟩ := hp
    exact kk h' hp
end VMake

def roomC (r : Nat) : VHp := .inr (.inr (3, [.ref (r + 1), .ref (r + 2), .ref (r + 3), .ref (r + 4), .ref (r + 5), .int (nI 6), .int (nI 6), .int (nI 0), .int (nI 0)])) :: [.inl (List.replicate 6 0), .inl (List.replicate 6 0), .inl (List.replicate 6 0), .inl (List.replicate 6 0), .inl (List.replicate 36 0)]
set_option maxHeartbeats 1000000 in
theorem k_Room (g : VG) (h : VHp) (r : Nat) (hr : h.length = r) (hwf : vwf r h) (hlen : r < 900000) : VE g mX3_init 1 true (5, 60) [.ref r] (h ++ [.inr (.inr (3, [.null, .null, .null, .null, .null, .int 0, .int 0, .int 0, .int 0]))]) (fun v h' => v = none ∧ h' = h ++ roomC r) := by
  refine VE.of (by decide) rfl (Nat.le_of_ble_eq_true rfl) ?_
  show V _ _ 0 [some (.ref r)] [] (h ++ .inr (.inr (3, [.null, .null, .null, .null, .null, .int 0, .int 0, .int 0, .int 0])) :: [])
  refine V.aload_n dX3_init_0 rfl ?_
  refine V.objInit jX3_3 dX3_init_1 (Nat.le_of_ble_eq_true rfl) (Nat.le_of_ble_eq_true rfl) ?_
  refine V.aload_n dX3_init_4 rfl ?_
  refine V.bipush (v := nI 6) dX3_init_5 (by decide) ?_
  refine V.newIc (b := (4, 54)) (N := 6) (q := r + 1) (L' := [.inl (List.replicate 6 0)]) w9_79 (by decide) rfl hr rfl rfl hwf (vwc (vfc trivial (vfc trivial (vfc trivial (vfc trivial (vfc trivial (vfc trivial (vfc trivial (vfc trivial (vfc trivial vfn))))))))) vwn) ⟨(vlc (vor (by omega)) vln), (vfc (vor (by omega)) vfn)⟩ (by omega) dX3_init_7 ?_
  refine V.putFc hr fX3_9 (fun C T N e => by have e2 : some (RX3, TX3, 9) = some (C, T, N) := e; cases e2; exact w9_96) (fun _ => ⟨rfl, rfl⟩) rfl dX3_init_9 (Nat.le_of_ble_eq_true rfl) ?_
  dsimp only [List.set]
  refine V.aload_n dX3_init_12 rfl ?_
  refine V.bipush (v := nI 6) dX3_init_13 (by decide) ?_
  refine V.newIc (b := (3, 48)) (N := 6) (q := r + 2) (L' := [.inl (List.replicate 6 0), .inl (List.replicate 6 0)]) w9_79 (by decide) rfl hr rfl rfl hwf (vwc (vfc (vor (by omega)) (vfc trivial (vfc trivial (vfc trivial (vfc trivial (vfc trivial (vfc trivial (vfc trivial (vfc trivial vfn))))))))) (vwc trivial vwn)) ⟨(vlc (vor (by omega)) vln), (vfc (vor (by omega)) vfn)⟩ (by omega) dX3_init_15 ?_
  refine V.putFc hr fX3_15 (fun C T N e => by have e2 : some (RX3, TX3, 9) = some (C, T, N) := e; cases e2; exact w9_98) (fun _ => ⟨rfl, rfl⟩) rfl dX3_init_17 (Nat.le_of_ble_eq_true rfl) ?_
  dsimp only [List.set]
  refine V.aload_n dX3_init_20 rfl ?_
  refine V.bipush (v := nI 6) dX3_init_21 (by decide) ?_
  refine V.newIc (b := (2, 42)) (N := 6) (q := r + 3) (L' := [.inl (List.replicate 6 0), .inl (List.replicate 6 0), .inl (List.replicate 6 0)]) w9_79 (by decide) rfl hr rfl rfl hwf (vwc (vfc (vor (by omega)) (vfc (vor (by omega)) (vfc trivial (vfc trivial (vfc trivial (vfc trivial (vfc trivial (vfc trivial (vfc trivial vfn))))))))) (vwc trivial (vwc trivial vwn))) ⟨(vlc (vor (by omega)) vln), (vfc (vor (by omega)) vfn)⟩ (by omega) dX3_init_23 ?_
  refine V.putFc hr fX3_18 (fun C T N e => by have e2 : some (RX3, TX3, 9) = some (C, T, N) := e; cases e2; exact w9_101) (fun _ => ⟨rfl, rfl⟩) rfl dX3_init_25 (Nat.le_of_ble_eq_true rfl) ?_
  dsimp only [List.set]
  refine V.aload_n dX3_init_28 rfl ?_
  refine V.bipush (v := nI 6) dX3_init_29 (by decide) ?_
  refine V.newIc (b := (1, 36)) (N := 6) (q := r + 4) (L' := [.inl (List.replicate 6 0), .inl (List.replicate 6 0), .inl (List.replicate 6 0), .inl (List.replicate 6 0)]) w9_79 (by decide) rfl hr rfl rfl hwf (vwc (vfc (vor (by omega)) (vfc (vor (by omega)) (vfc (vor (by omega)) (vfc trivial (vfc trivial (vfc trivial (vfc trivial (vfc trivial (vfc trivial vfn))))))))) (vwc trivial (vwc trivial (vwc trivial vwn)))) ⟨(vlc (vor (by omega)) vln), (vfc (vor (by omega)) vfn)⟩ (by omega) dX3_init_31 ?_
  refine V.putFc hr fX3_21 (fun C T N e => by have e2 : some (RX3, TX3, 9) = some (C, T, N) := e; cases e2; exact w9_104) (fun _ => ⟨rfl, rfl⟩) rfl dX3_init_33 (Nat.le_of_ble_eq_true rfl) ?_
  dsimp only [List.set]
  refine V.aload_n dX3_init_36 rfl ?_
  refine V.bipush (v := nI 36) dX3_init_37 (by decide) ?_
  refine V.newIc (b := (0, 0)) (N := 36) (q := r + 5) (L' := [.inl (List.replicate 6 0), .inl (List.replicate 6 0), .inl (List.replicate 6 0), .inl (List.replicate 6 0), .inl (List.replicate 36 0)]) w9_79 (by decide) rfl hr rfl rfl hwf (vwc (vfc (vor (by omega)) (vfc (vor (by omega)) (vfc (vor (by omega)) (vfc (vor (by omega)) (vfc trivial (vfc trivial (vfc trivial (vfc trivial (vfc trivial vfn))))))))) (vwc trivial (vwc trivial (vwc trivial (vwc trivial vwn))))) ⟨(vlc (vor (by omega)) vln), (vfc (vor (by omega)) vfn)⟩ (by omega) dX3_init_39 ?_
  refine V.putFc hr fX3_24 (fun C T N e => by have e2 : some (RX3, TX3, 9) = some (C, T, N) := e; cases e2; exact w9_106) (fun _ => ⟨rfl, rfl⟩) rfl dX3_init_41 (Nat.le_of_ble_eq_true rfl) ?_
  dsimp only [List.set]
  refine V.aload_n dX3_init_44 rfl ?_
  refine V.bipush (v := nI 6) dX3_init_45 (by decide) ?_
  refine V.putic hr fX3_27 dX3_init_47 (Nat.le_of_ble_eq_true rfl) ?_
  dsimp only [List.set]
  refine V.aload_n dX3_init_50 rfl ?_
  refine V.bipush (v := nI 6) dX3_init_51 (by decide) ?_
  refine V.putic hr fX3_31 dX3_init_53 (Nat.le_of_ble_eq_true rfl) ?_
  dsimp only [List.set]
  refine V.aload_n dX3_init_56 rfl ?_
  refine V.iconst (v := nI 0) dX3_init_57 (by decide) ?_
  refine V.putic hr fX3_34 dX3_init_58 (Nat.le_of_ble_eq_true rfl) ?_
  dsimp only [List.set]
  refine V.aload_n dX3_init_61 rfl ?_
  refine V.iconst (v := nI 0) dX3_init_62 (by decide) ?_
  refine V.putic hr fX3_37 dX3_init_63 (Nat.le_of_ble_eq_true rfl) ?_
  dsimp only [List.set]
  exact V.vret dX3_init_66 rfl ⟨rfl, rfl⟩

def textC (r : Nat) : VHp := .inr (.inr (6, [.ref (r + 1), .int (nI 0)])) :: [.inl (List.replicate 200 0)]
set_option maxHeartbeats 1000000 in
theorem k_Text (g : VG) (h : VHp) (r : Nat) (hr : h.length = r) (hwf : vwf r h) (hlen : r < 900000) : VE g mX6_init 1 true (1, 200) [.ref r] (h ++ [.inr (.inr (6, [.null, .int 0]))]) (fun v h' => v = none ∧ h' = h ++ textC r) := by
  refine VE.of (by decide) rfl (Nat.le_of_ble_eq_true rfl) ?_
  show V _ _ 0 [some (.ref r)] [] (h ++ .inr (.inr (6, [.null, .int 0])) :: [])
  refine V.aload_n dX6_init_0 rfl ?_
  refine V.objInit jX6_3 dX6_init_1 (Nat.le_of_ble_eq_true rfl) (Nat.le_of_ble_eq_true rfl) ?_
  refine V.aload_n dX6_init_4 rfl ?_
  refine V.sipush (v := nI 200) dX6_init_5 (by decide) ?_
  refine V.newIc (b := (0, 0)) (N := 200) (q := r + 1) (L' := [.inl (List.replicate 200 0)]) w9_79 (by decide) rfl hr rfl rfl hwf (vwc (vfc trivial (vfc trivial vfn)) vwn) ⟨(vlc (vor (by omega)) vln), (vfc (vor (by omega)) vfn)⟩ (by omega) dX6_init_8 ?_
  refine V.putFc hr fX6_9 (fun C T N e => by have e2 : some (RX6, TX6, 2) = some (C, T, N) := e; cases e2; exact w9_70) (fun _ => ⟨rfl, rfl⟩) rfl dX6_init_10 (Nat.le_of_ble_eq_true rfl) ?_
  dsimp only [List.set]
  refine V.aload_n dX6_init_13 rfl ?_
  refine V.iconst (v := nI 0) dX6_init_14 (by decide) ?_
  refine V.putic hr fX6_15 dX6_init_15 (Nat.le_of_ble_eq_true rfl) ?_
  dsimp only [List.set]
  exact V.vret dX6_init_18 rfl ⟨rfl, rfl⟩

def readerC (r : Nat) : VHp := .inr (.inr (2, [.ref (r + 1)])) :: [.inl (List.replicate 4 0)]
set_option maxHeartbeats 1000000 in
theorem k_Reader (g : VG) (h : VHp) (r : Nat) (hr : h.length = r) (hwf : vwf r h) (hlen : r < 900000) : VE g mX2_init 1 true (1, 4) [.ref r] (h ++ [.inr (.inr (2, [.null]))]) (fun v h' => v = none ∧ h' = h ++ readerC r) := by
  refine VE.of (by decide) rfl (Nat.le_of_ble_eq_true rfl) ?_
  show V _ _ 0 [some (.ref r)] [] (h ++ .inr (.inr (2, [.null])) :: [])
  refine V.aload_n dX2_init_0 rfl ?_
  refine V.objInit jX2_3 dX2_init_1 (Nat.le_of_ble_eq_true rfl) (Nat.le_of_ble_eq_true rfl) ?_
  refine V.aload_n dX2_init_4 rfl ?_
  refine V.iconst (v := nI 4) dX2_init_5 (by decide) ?_
  refine V.newIc (b := (0, 0)) (N := 4) (q := r + 1) (L' := [.inl (List.replicate 4 0)]) w9_79 (by decide) rfl hr rfl rfl hwf (vwc (vfc trivial vfn) vwn) ⟨(vlc (vor (by omega)) vln), (vfc (vor (by omega)) vfn)⟩ (by omega) dX2_init_6 ?_
  refine V.putFc hr fX2_11 (fun C T N e => by have e2 : some (RX2, TX2, 1) = some (C, T, N) := e; cases e2; exact w9_86) (fun _ => ⟨rfl, rfl⟩) rfl dX2_init_8 (Nat.le_of_ble_eq_true rfl) ?_
  dsimp only [List.set]
  exact V.vret dX2_init_11 rfl ⟨rfl, rfl⟩

def sightsC (r : Nat) : VHp := .inr (.inr (5, [.ref (r + 1), .ref (r + 2), .ref (r + 3), .int (nI 0)])) :: [.inl (List.replicate 6 0), .inl (List.replicate 6 0), .inl (List.replicate 6 0)]
set_option maxHeartbeats 1000000 in
theorem k_Sights (g : VG) (h : VHp) (r : Nat) (hr : h.length = r) (hwf : vwf r h) (hlen : r < 900000) : VE g mX5_init 1 true (3, 18) [.ref r] (h ++ [.inr (.inr (5, [.null, .null, .null, .int 0]))]) (fun v h' => v = none ∧ h' = h ++ sightsC r) := by
  refine VE.of (by decide) rfl (Nat.le_of_ble_eq_true rfl) ?_
  show V _ _ 0 [some (.ref r)] [] (h ++ .inr (.inr (5, [.null, .null, .null, .int 0])) :: [])
  refine V.aload_n dX5_init_0 rfl ?_
  refine V.objInit jX5_3 dX5_init_1 (Nat.le_of_ble_eq_true rfl) (Nat.le_of_ble_eq_true rfl) ?_
  refine V.aload_n dX5_init_4 rfl ?_
  refine V.bipush (v := nI 6) dX5_init_5 (by decide) ?_
  refine V.newIc (b := (2, 12)) (N := 6) (q := r + 1) (L' := [.inl (List.replicate 6 0)]) w9_79 (by decide) rfl hr rfl rfl hwf (vwc (vfc trivial (vfc trivial (vfc trivial (vfc trivial vfn)))) vwn) ⟨(vlc (vor (by omega)) vln), (vfc (vor (by omega)) vfn)⟩ (by omega) dX5_init_7 ?_
  refine V.putFc hr fX5_9 (fun C T N e => by have e2 : some (RX5, TX5, 4) = some (C, T, N) := e; cases e2; exact w9_164) (fun _ => ⟨rfl, rfl⟩) rfl dX5_init_9 (Nat.le_of_ble_eq_true rfl) ?_
  dsimp only [List.set]
  refine V.aload_n dX5_init_12 rfl ?_
  refine V.bipush (v := nI 6) dX5_init_13 (by decide) ?_
  refine V.newIc (b := (1, 6)) (N := 6) (q := r + 2) (L' := [.inl (List.replicate 6 0), .inl (List.replicate 6 0)]) w9_79 (by decide) rfl hr rfl rfl hwf (vwc (vfc (vor (by omega)) (vfc trivial (vfc trivial (vfc trivial vfn)))) (vwc trivial vwn)) ⟨(vlc (vor (by omega)) vln), (vfc (vor (by omega)) vfn)⟩ (by omega) dX5_init_15 ?_
  refine V.putFc hr fX5_15 (fun C T N e => by have e2 : some (RX5, TX5, 4) = some (C, T, N) := e; cases e2; exact w9_165) (fun _ => ⟨rfl, rfl⟩) rfl dX5_init_17 (Nat.le_of_ble_eq_true rfl) ?_
  dsimp only [List.set]
  refine V.aload_n dX5_init_20 rfl ?_
  refine V.bipush (v := nI 6) dX5_init_21 (by decide) ?_
  refine V.newIc (b := (0, 0)) (N := 6) (q := r + 3) (L' := [.inl (List.replicate 6 0), .inl (List.replicate 6 0), .inl (List.replicate 6 0)]) w9_79 (by decide) rfl hr rfl rfl hwf (vwc (vfc (vor (by omega)) (vfc (vor (by omega)) (vfc trivial (vfc trivial vfn)))) (vwc trivial (vwc trivial vwn))) ⟨(vlc (vor (by omega)) vln), (vfc (vor (by omega)) vfn)⟩ (by omega) dX5_init_23 ?_
  refine V.putFc hr fX5_18 (fun C T N e => by have e2 : some (RX5, TX5, 4) = some (C, T, N) := e; cases e2; exact w9_166) (fun _ => ⟨rfl, rfl⟩) rfl dX5_init_25 (Nat.le_of_ble_eq_true rfl) ?_
  dsimp only [List.set]
  refine V.aload_n dX5_init_28 rfl ?_
  refine V.iconst (v := nI 0) dX5_init_29 (by decide) ?_
  refine V.putic hr fX5_21 dX5_init_30 (Nat.le_of_ble_eq_true rfl) ?_
  dsimp only [List.set]
  exact V.vret dX5_init_33 rfl ⟨rfl, rfl⟩

def searchC (r : Nat) : VHp := .inr (.inr (4, [.ref (r + 1), .ref (r + 2), .ref (r + 3), .ref (r + 4), .ref (r + 5), .int (iI (-4))])) :: [.inl (List.replicate 81 0), .inl (List.replicate 81 0), .inl (List.replicate 81 0), .inl (List.replicate 81 0), .inl (List.replicate 81 0)]
set_option maxHeartbeats 1000000 in
theorem k_Search (g : VG) (h : VHp) (r : Nat) (hr : h.length = r) (hwf : vwf r h) (hlen : r < 900000) : VE g mX4_init 1 true (5, 405) [.ref r] (h ++ [.inr (.inr (4, [.null, .null, .null, .null, .null, .int 0]))]) (fun v h' => v = none ∧ h' = h ++ searchC r) := by
  refine VE.of (by decide) rfl (Nat.le_of_ble_eq_true rfl) ?_
  show V _ _ 0 [some (.ref r)] [] (h ++ .inr (.inr (4, [.null, .null, .null, .null, .null, .int 0])) :: [])
  refine V.aload_n dX4_init_0 rfl ?_
  refine V.objInit jX4_3 dX4_init_1 (Nat.le_of_ble_eq_true rfl) (Nat.le_of_ble_eq_true rfl) ?_
  refine V.aload_n dX4_init_4 rfl ?_
  refine V.bipush (v := nI 81) dX4_init_5 (by decide) ?_
  refine V.newIc (b := (4, 324)) (N := 81) (q := r + 1) (L' := [.inl (List.replicate 81 0)]) w9_79 (by decide) rfl hr rfl rfl hwf (vwc (vfc trivial (vfc trivial (vfc trivial (vfc trivial (vfc trivial (vfc trivial vfn)))))) vwn) ⟨(vlc (vor (by omega)) vln), (vfc (vor (by omega)) vfn)⟩ (by omega) dX4_init_7 ?_
  refine V.putFc hr fX4_9 (fun C T N e => by have e2 : some (RX4, TX4, 6) = some (C, T, N) := e; cases e2; exact w9_184) (fun _ => ⟨rfl, rfl⟩) rfl dX4_init_9 (Nat.le_of_ble_eq_true rfl) ?_
  dsimp only [List.set]
  refine V.aload_n dX4_init_12 rfl ?_
  refine V.bipush (v := nI 81) dX4_init_13 (by decide) ?_
  refine V.newIc (b := (3, 243)) (N := 81) (q := r + 2) (L' := [.inl (List.replicate 81 0), .inl (List.replicate 81 0)]) w9_79 (by decide) rfl hr rfl rfl hwf (vwc (vfc (vor (by omega)) (vfc trivial (vfc trivial (vfc trivial (vfc trivial (vfc trivial vfn)))))) (vwc trivial vwn)) ⟨(vlc (vor (by omega)) vln), (vfc (vor (by omega)) vfn)⟩ (by omega) dX4_init_15 ?_
  refine V.putFc hr fX4_15 (fun C T N e => by have e2 : some (RX4, TX4, 6) = some (C, T, N) := e; cases e2; exact w9_185) (fun _ => ⟨rfl, rfl⟩) rfl dX4_init_17 (Nat.le_of_ble_eq_true rfl) ?_
  dsimp only [List.set]
  refine V.aload_n dX4_init_20 rfl ?_
  refine V.bipush (v := nI 81) dX4_init_21 (by decide) ?_
  refine V.newIc (b := (2, 162)) (N := 81) (q := r + 3) (L' := [.inl (List.replicate 81 0), .inl (List.replicate 81 0), .inl (List.replicate 81 0)]) w9_79 (by decide) rfl hr rfl rfl hwf (vwc (vfc (vor (by omega)) (vfc (vor (by omega)) (vfc trivial (vfc trivial (vfc trivial (vfc trivial vfn)))))) (vwc trivial (vwc trivial vwn))) ⟨(vlc (vor (by omega)) vln), (vfc (vor (by omega)) vfn)⟩ (by omega) dX4_init_23 ?_
  refine V.putFc hr fX4_18 (fun C T N e => by have e2 : some (RX4, TX4, 6) = some (C, T, N) := e; cases e2; exact w9_186) (fun _ => ⟨rfl, rfl⟩) rfl dX4_init_25 (Nat.le_of_ble_eq_true rfl) ?_
  dsimp only [List.set]
  refine V.aload_n dX4_init_28 rfl ?_
  refine V.bipush (v := nI 81) dX4_init_29 (by decide) ?_
  refine V.newIc (b := (1, 81)) (N := 81) (q := r + 4) (L' := [.inl (List.replicate 81 0), .inl (List.replicate 81 0), .inl (List.replicate 81 0), .inl (List.replicate 81 0)]) w9_79 (by decide) rfl hr rfl rfl hwf (vwc (vfc (vor (by omega)) (vfc (vor (by omega)) (vfc (vor (by omega)) (vfc trivial (vfc trivial (vfc trivial vfn)))))) (vwc trivial (vwc trivial (vwc trivial vwn)))) ⟨(vlc (vor (by omega)) vln), (vfc (vor (by omega)) vfn)⟩ (by omega) dX4_init_31 ?_
  refine V.putFc hr fX4_21 (fun C T N e => by have e2 : some (RX4, TX4, 6) = some (C, T, N) := e; cases e2; exact w9_187) (fun _ => ⟨rfl, rfl⟩) rfl dX4_init_33 (Nat.le_of_ble_eq_true rfl) ?_
  dsimp only [List.set]
  refine V.aload_n dX4_init_36 rfl ?_
  refine V.bipush (v := nI 81) dX4_init_37 (by decide) ?_
  refine V.newIc (b := (0, 0)) (N := 81) (q := r + 5) (L' := [.inl (List.replicate 81 0), .inl (List.replicate 81 0), .inl (List.replicate 81 0), .inl (List.replicate 81 0), .inl (List.replicate 81 0)]) w9_79 (by decide) rfl hr rfl rfl hwf (vwc (vfc (vor (by omega)) (vfc (vor (by omega)) (vfc (vor (by omega)) (vfc (vor (by omega)) (vfc trivial (vfc trivial vfn)))))) (vwc trivial (vwc trivial (vwc trivial (vwc trivial vwn))))) ⟨(vlc (vor (by omega)) vln), (vfc (vor (by omega)) vfn)⟩ (by omega) dX4_init_39 ?_
  refine V.putFc hr fX4_24 (fun C T N e => by have e2 : some (RX4, TX4, 6) = some (C, T, N) := e; cases e2; exact w9_188) (fun _ => ⟨rfl, rfl⟩) rfl dX4_init_41 (Nat.le_of_ble_eq_true rfl) ?_
  dsimp only [List.set]
  refine V.aload_n dX4_init_44 rfl ?_
  refine V.bipush (v := iI (-4)) dX4_init_45 (by decide) ?_
  refine V.putic hr fX4_27 dX4_init_47 (Nat.le_of_ble_eq_true rfl) ?_
  dsimp only [List.set]
  exact V.vret dX4_init_50 rfl ⟨rfl, rfl⟩

def couplesC (r : Nat) : VHp := .inr (.inr (0, [.ref (r + 1)])) :: [.inl (List.replicate 6 0)]
set_option maxHeartbeats 1000000 in
theorem k_Couples (g : VG) (h : VHp) (r : Nat) (hr : h.length = r) (hwf : vwf r h) (hlen : r < 900000) : VE g mX0_init 1 true (1, 6) [.ref r] (h ++ [.inr (.inr (0, [.null]))]) (fun v h' => v = none ∧ h' = h ++ couplesC r) := by
  refine VE.of (by decide) rfl (Nat.le_of_ble_eq_true rfl) ?_
  show V _ _ 0 [some (.ref r)] [] (h ++ .inr (.inr (0, [.null])) :: [])
  refine V.aload_n dX0_init_0 rfl ?_
  refine V.objInit jX0_3 dX0_init_1 (Nat.le_of_ble_eq_true rfl) (Nat.le_of_ble_eq_true rfl) ?_
  refine V.aload_n dX0_init_4 rfl ?_
  refine V.bipush (v := nI 6) dX0_init_5 (by decide) ?_
  refine V.newIc (b := (0, 0)) (N := 6) (q := r + 1) (L' := [.inl (List.replicate 6 0)]) w9_79 (by decide) rfl hr rfl rfl hwf (vwc (vfc trivial vfn) vwn) ⟨(vlc (vor (by omega)) vln), (vfc (vor (by omega)) vfn)⟩ (by omega) dX0_init_7 ?_
  refine V.putFc hr fX0_9 (fun C T N e => by have e2 : some (RX0, TX0, 1) = some (C, T, N) := e; cases e2; exact w9_210) (fun _ => ⟨rfl, rfl⟩) rfl dX0_init_9 (Nat.le_of_ble_eq_true rfl) ?_
  dsimp only [List.set]
  exact V.vret dX0_init_12 rfl ⟨rfl, rfl⟩
