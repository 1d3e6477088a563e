/-! rows of rooms -/
def refsI (s n i : Nat) : List (Option Nat) := (List.range n).map (fun j => if j < i then some (s + 6 * j) else none)
def roomsI (s : Nat) : Nat → VHp
  | 0 => []
  | i + 1 => roomsI s i ++ roomC (s + 6 * i)
theorem rooms_len {s : Nat} : ∀ i, (roomsI s i).length = 6 * i
  | 0 => rfl
  | i + 1 => by
    have ih := rooms_len (s := s) i
    simp only [roomsI]
    rw [List.length_append, ih]
    show 6 * i + 6 = 6 * (i + 1)
    omega
theorem roomC_wf {r n : Nat} (h : r + 6 ≤ n) : vwf n (roomC r) := vwc (vfc (vor (by omega)) (vfc (vor (by omega)) (vfc (vor (by omega)) (vfc (vor (by omega)) (vfc (vor (by omega)) (vfc trivial (vfc trivial (vfc trivial (vfc trivial vfn))))))))) (vwc trivial (vwc trivial (vwc trivial (vwc trivial (vwc trivial vwn)))))
theorem rooms_wf {s n : Nat} : ∀ i, s + 6 * i ≤ n → vwf n (roomsI s i)
  | 0, _ => vwn
  | i + 1, h => by
    have ih := rooms_wf (s := s) (n := n) i (by omega)
    simp only [roomsI]
    exact vwf_ap ih (roomC_wf (by omega))
theorem refs_len {s n i : Nat} : (refsI s n i).length = n := by unfold refsI; rw [List.length_map, List.length_range]
theorem refs_get {s n i j : Nat} (h : j < n) : (refsI s n i)[j]? = some (if j < i then some (s + 6 * j) else none) := by
  unfold refsI
  rw [List.getElem?_map, List.getElem?_range h]; rfl
theorem refs_set {s n i : Nat} (h : i < n) : (refsI s n i).set i (some (s + 6 * i)) = refsI s n (i + 1) := by
  apply List.ext_getElem?
  intro j
  by_cases hj : j < n
  · rw [refs_get hj]
    by_cases e : j = i
    · rw [e, List.getElem?_set_self (by rw [refs_len]; exact h), if_pos (by omega)]
    · rw [List.getElem?_set_ne (by omega), refs_get hj]
      by_cases q : j < i
      · rw [if_pos q, if_pos (by omega)]
      · rw [if_neg q, if_neg (by omega)]
  · rw [List.getElem?_eq_none (by rw [List.length_set, refs_len]; omega), List.getElem?_eq_none (by rw [refs_len]; omega)]
theorem refs_wf {s n i m : Nat} (h : s + 6 * i ≤ m) : vokc m (.inr (.inl (refsI s n i))) := by
  intro q hq
  unfold refsI at hq
  obtain ⟨j, -, e⟩ := List.mem_map.mp hq
  by_cases z : j < i
  · rw [if_pos z] at e; cases e; omega
  · rw [if_neg z] at e; cases e
section VRooms
variable {k : VK} {b : Nat × Nat} {pc : Nat} {ls : List (Option Value)} {st : List Value} {h : VHp}
theorem V.newRc {idx N q : Nat} (hw : Cond.classLink k.2.1.1.cls idx "HeartVanes$Room" ∈ vtS) (hN : N < 100000) (hz : k.2.2.2.1 = true) (hq : h.length = q) (hwf : vwf q h) (hlo : vlok q ls st) (hlen : q < 1000000) (hd : decode k.2.1.2.1 pc = .ok (.anewarray idx, 3))
    (kk : V k b (pc + 3) ls (.ref q :: st) (h ++ .inr (.inl (refsI (q + 1) N 0)) :: roomsI (q + 1) 0)) : V k (b.1 + 1, b.2 + N) pc ls (.int (nI N) :: st) h := by
  subst hq
  have e : refsI (h.length + 1) N 0 = List.replicate N none := by
    apply List.ext_getElem?
    intro j
    by_cases hj : j < N
    · rw [refs_get hj, if_neg (Nat.not_lt_zero _), List.getElem?_replicate, if_pos hj]
    · rw [List.getElem?_eq_none (by rw [refs_len]; omega), List.getElem?_eq_none (by rw [List.length_replicate]; omega)]
  rw [e] at kk
  exact V.newR hw rfl hN hz hwf hlo hlen hd kk
/-- a room is made and put into the row -/
theorem V.mkR {idx idx2 N a i q : Nat} (ha : h.length = a) (hq : a + 1 + 6 * i = q) (hi : i < N) (hN : N < 1000) (hw : Cond.classLink k.2.1.1.cls idx RX3 ∈ vtS) (hI : vcI k.2.1.1.cls idx2 mX3_init 0) (hz : k.2.2.2.1 = true) (hwf : vwf q h) (hlo : vlok q ls st) (hlen : q < 900000) (hd0 : decode k.2.1.2.1 pc = .ok (.new idx, 3)) (hd1 : decode k.2.1.2.1 (pc + 3) = .ok (.dup, 1)) (hd2 : decode k.2.1.2.1 (pc + 4) = .ok (.invokespecial idx2, 3)) (hd3 : decode k.2.1.2.1 (pc + 7) = .ok (.aastore, 1)) (hdp : 2 ≤ k.2.2.1) (hsz : (st.map fun v => v.category).sum ≤ 5)
    (kk : V k b (pc + 8) ls st (h ++ .inr (.inl (refsI (a + 1) N (i + 1))) :: roomsI (a + 1) (i + 1))) : V k (b.1 + 5 + 1, b.2 + 60 + 9) pc ls (.int (nI i) :: .ref a :: st) (h ++ .inr (.inl (refsI (a + 1) N i)) :: roomsI (a + 1) i) := by
  subst ha
  have el : (h ++ .inr (.inl (refsI (h.length + 1) N i)) :: roomsI (h.length + 1) i : VHp).length = q := by rw [mid_len, rooms_len]; exact hq
  have hwH : vwf q (h ++ .inr (.inl (refsI (h.length + 1) N i)) :: roomsI (h.length + 1) i) := vwf_ap hwf (vwc (refs_wf (by omega)) (rooms_wf i (by omega)))
  refine V.mk (b1 := (5, 60)) (n := q) (P := fun h' => h' = (h ++ .inr (.inl (refsI (h.length + 1) N i)) :: roomsI (h.length + 1) i) ++ roomC q) el (ci := 3) (C := RX3) (T := TX3) (ty := tyX3) (fs := [.null, .null, .null, .null, .null, .int 0, .int 0, .int 0, .int 0]) rfl ⟨k9_X3, hw, w9_91, w9_44⟩ tyX3_ok (by decide +kernel) (fun _ => rfl) hz hwH ⟨hlo.1, vfc trivial (vfc (vor (by omega)) hlo.2)⟩ (by omega) hd0 hd1 hd2 hI (k_Room k.1 _ q el hwH hlen) hdp (by simp only [List.map_cons, List.sum_cons]; show 1 + (1 + (1 + _)) ≤ 8; omega) (fun h' e => ?_)
  subst e
  have e2 : (h ++ .inr (.inl (refsI (h.length + 1) N i)) :: roomsI (h.length + 1) i) ++ roomC q = h ++ .inr (.inl (refsI (h.length + 1) N i)) :: roomsI (h.length + 1) (i + 1) := by
    rw [List.append_assoc]
    simp only [roomsI]
    rw [hq]; rfl
  rw [e2]
  refine V.aast (ci := 3) (fs := [.ref (q + 1), .ref (q + 2), .ref (q + 3), .ref (q + 4), .ref (q + 5), .int (nI 6), .int (nI 6), .int (nI 0), .int (nI 0)]) hd3 mid_get ?_ rfl (by omega) (by rw [refs_len]; exact hi) ?_
  · rw [show q = h.length + (6 * i + 1) by omega, mid_at]
    simp only [roomsI]
    rw [List.getElem?_append_right (by rw [rooms_len]; omega), rooms_len, Nat.sub_self, hq, show h.length + (6 * i + 1) = q by omega]; rfl
  · rw [mid_set, ← hq, refs_set hi]
    exact kk
end VRooms
def pastC (r : Nat) : VHp := .inr (.inr (1, [.ref (r + 1), .int (nI 0), .int (nI 0)])) :: .inr (.inl (refsI (r + 2) 8 8)) :: roomsI (r + 2) 8

set_option maxHeartbeats 1000000 in
theorem k_Past (g : VG) (h : VHp) (r : Nat) (hr : h.length = r) (hwf : vwf r h) (hlen : r < 800000) : VE g mX1_init 2 true (49, 560) [.ref r] (h ++ [.inr (.inr (1, [.null, .int 0, .int 0]))]) (fun v h' => v = none ∧ h' = h ++ pastC r) := by
  refine VE.of (by decide) rfl (Nat.le_of_ble_eq_true rfl) ?_
  have L : ∀ i, i ≤ 8 → V (g, mX1_init, 2, true, (h ++ [Sum.inr (Sum.inr (1, [Value.null, Value.int 0, Value.int 0]))] : VHp).length, (fun v h' => v = none ∧ h' = h ++ pastC r)) ((8 - i) * 6, (8 - i) * 69) 25 [some (.ref r), some (.int (nI i))] [] ((h ++ [.inr (.inr (1, [.ref (r + 1), .int (nI 0), .int (nI 0)]))]) ++ .inr (.inl (refsI (r + 1 + 1) 8 i)) :: roomsI (r + 1 + 1) i) := by
    refine vloop 8 (fun i ih hi => ?_)
    have hg1 : (h ++ [.inr (.inr (1, [.ref (r + 1), .int (nI 0), .int (nI 0)]))] : VHp).length = r + 1 := by rw [List.length_append, hr]; rfl
    have hob : ((h ++ [.inr (.inr (1, [.ref (r + 1), .int (nI 0), .int (nI 0)]))]) ++ .inr (.inl (refsI (r + 1 + 1) 8 i)) :: roomsI (r + 1 + 1) i)[r]? = some (.inr (.inr (1, [.ref (r + 1), .int (nI 0), .int (nI 0)]))) := by
      rw [List.append_assoc]
      show (h ++ .inr (.inr (1, [.ref (r + 1), .int (nI 0), .int (nI 0)])) :: _)[r]? = _
      rw [← hr]; exact mid_get
    have hw1 : ∀ n, r + 2 ≤ n → vwf n (h ++ [.inr (.inr (1, [.ref (r + 1), .int (nI 0), .int (nI 0)]))]) := fun n hn => vwf_ap (hwf.mono (by omega)) (vwc (vfc (vor (by omega)) (vfc trivial (vfc trivial vfn))) vwn)
    refine V.iload_n dX1_init_25 rfl ?_
    refine V.bipush (v := nI 8) dX1_init_26 (by decide) ?_
    refine V.icmp_geN 50 dX1_init_28 (by decide) (by omega) (by omega) (fun hc => ?_) (fun hc => ?_)
    · obtain rfl : i = 8 := (by omega)
      refine V.vret dX1_init_50 rfl ⟨rfl, ?_⟩
      rw [List.append_assoc]; rfl
    · refine V.aload_n dX1_init_31 rfl ?_
      refine V.get fX1_11 dX1_init_32 hob rfl ?_
      refine V.iload_n dX1_init_35 rfl ?_
      have eb : ((8 - i) * 6, (8 - i) * 69) = ((8 - (i + 1)) * 6 + 5 + 1, (8 - (i + 1)) * 69 + 60 + 9) := by
        rw [show 8 - i = (8 - (i + 1)) + 1 by omega, Nat.add_mul, Nat.add_mul]
      rw [eb]
      refine V.mkR (b := ((8 - (i + 1)) * 6, (8 - (i + 1)) * 69)) (N := 8) (q := r + 1 + 1 + 6 * i) hg1 rfl hc (by decide) w9_144 cX1_24 rfl (hw1 _ (by omega)) ⟨vlc (vor (by omega)) (vlc trivial vln), vfn⟩ (by omega) dX1_init_36 dX1_init_39 dX1_init_40 dX1_init_43 (Nat.le_of_ble_eq_true rfl) (Nat.le_of_ble_eq_true rfl) ?_
      refine V.iincN (n := 1) dX1_init_44 rfl rfl rfl ?_
      dsimp only [List.set]
      refine V.goto 25 dX1_init_47 (by decide) ?_
      exact ih (i + 1) (by omega) (by omega)
  show V _ _ 0 [some (.ref r), none] [] (h ++ .inr (.inr (1, [.null, .int 0, .int 0])) :: [])
  refine V.aload_n dX1_init_0 rfl ?_
  refine V.objInit jX1_3 dX1_init_1 (Nat.le_of_ble_eq_true rfl) (Nat.le_of_ble_eq_true rfl) ?_
  refine V.aload_n dX1_init_4 rfl ?_
  refine V.bipush (v := nI 8) dX1_init_5 (by decide) ?_
  refine V.newRc (b := (48, 552)) (N := 8) (q := r + 1) w9_144 (by decide) rfl (by rw [mid_len, hr]; rfl) (vwf_ap (hwf.mono (by omega)) (vwc (vfc trivial (vfc trivial (vfc trivial vfn))) vwn)) ⟨vlc (vor (by omega)) (vl0 vln), vfc (vor (by omega)) vfn⟩ (by omega) dX1_init_7 ?_
  rw [List.append_assoc]
  show V _ _ _ _ _ (h ++ .inr (.inr (1, [.null, .int 0, .int 0])) :: (.inr (.inl (refsI (r + 1 + 1) 8 0)) :: roomsI (r + 1 + 1) 0))
  refine V.putFc hr fX1_11 (fun C T N e => by have e2 : some (RX1, TX1, 3) = some (C, T, N) := e; cases e2; exact w9_147) (fun _ => ⟨rfl, rfl⟩) rfl dX1_init_10 (Nat.le_of_ble_eq_true rfl) ?_
  dsimp only [List.set]
  refine V.aload_n dX1_init_13 rfl ?_
  refine V.iconst (v := nI 0) dX1_init_14 (by decide) ?_
  refine V.putic hr fX1_17 dX1_init_15 (Nat.le_of_ble_eq_true rfl) ?_
  dsimp only [List.set]
  refine V.aload_n dX1_init_18 rfl ?_
  refine V.iconst (v := nI 0) dX1_init_19 (by decide) ?_
  refine V.putic hr fX1_21 dX1_init_20 (Nat.le_of_ble_eq_true rfl) ?_
  dsimp only [List.set]
  refine V.iconst (v := nI 0) dX1_init_23 (by decide) ?_
  refine V.istore_n (i := 1) dX1_init_24 rfl rfl rfl ?_
  dsimp only [List.set]
  have z := L 0 (by omega)
  rw [List.append_assoc] at z
  exact z
