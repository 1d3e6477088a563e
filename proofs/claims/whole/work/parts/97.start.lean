theorem gn_east : ∀ j, j < 4 → (flatC (Jvm.Cond.and given_1 narrow_1))[12 + j]? = some (Cond.eq (.elem (Term.static "HeartVanes" "EAST_BY_SIDE" "[I") (.int (Int32.ofNat j))) (.int (vea j))) := by decide +kernel
theorem gn_south : ∀ j, j < 4 → (flatC (Jvm.Cond.and given_1 narrow_1))[19 + j]? = some (Cond.eq (.elem (Term.static "HeartVanes" "SOUTH_BY_SIDE" "[I") (.int (Int32.ofNat j))) (.int (vso j))) := by decide +kernel
theorem gn_text : ∀ j, j < vtb.length → (flatC (Jvm.Cond.and given_1 narrow_1))[27 + j]? = some (Cond.eq (.elem (Term.field (Term.string "HeartVanes" 69) "java/lang/String" "value" "[B") (.int (Int32.ofNat j))) (.int (vtb.getD j 0))) := by decide +kernel
set_option maxHeartbeats 4000000 in
/-- what the statement says of the start, in the world's words -/
theorem start_ro {s : State} {b L : Nat} {xs : Nat → Int32} {D : va_G} (l : Launch) (cl : ClassId) (hL : L ≤ 320) (hts : ∀ w ∈ lw_tbl, w.before #[Value.ref b] s = true) (hX : va_X b L xs s s.heap) (hbl : b < s.heap.size) (hgv : (Jvm.Cond.and given_1 narrow_1).before #[Value.ref b] s = true) : ∃ ad : VAd, (ad 1000000).1 = b ∧ VRO (l, D, (List.range L).map xs) ad (fun q => s.heap.size ≤ q) s := by
  have hfl := flat_of_before _ hgv
  have hA0 : ∀ a : Nat, a < s.heap.size → ¬ (fun q : Nat => s.heap.size ≤ q) a := fun a h => Nat.not_le.mpr h
  obtain ⟨t1, ht1, hT1⟩ := va_Tof (tm := (Term.static "HeartVanes" "EAST_BY_SIDE" "[I")) (ty := .int) (N := 4) (f := fun j => .int (vea j)) (by decide) (hfl (Cond.arrayOf (Term.static "HeartVanes" "EAST_BY_SIDE" "[I") .int) (List.mem_of_getElem? (i := 10) (by decide +kernel))) (va_eqt (hfl (Cond.eq (.length (Term.static "HeartVanes" "EAST_BY_SIDE" "[I")) (.int (Int32.ofNat 4))) (List.mem_of_getElem? (i := 11) (by decide +kernel)))) (fun j hj => va_eqt (hfl _ (List.mem_of_getElem? (gn_east j hj)))) hA0
  obtain ⟨t2, ht2, hT2⟩ := va_Tof (tm := (Term.static "HeartVanes" "SOUTH_BY_SIDE" "[I")) (ty := .int) (N := 4) (f := fun j => .int (vso j)) (by decide) (hfl (Cond.arrayOf (Term.static "HeartVanes" "SOUTH_BY_SIDE" "[I") .int) (List.mem_of_getElem? (i := 17) (by decide +kernel))) (va_eqt (hfl (Cond.eq (.length (Term.static "HeartVanes" "SOUTH_BY_SIDE" "[I")) (.int (Int32.ofNat 4))) (List.mem_of_getElem? (i := 18) (by decide +kernel)))) (fun j hj => va_eqt (hfl _ (List.mem_of_getElem? (gn_south j hj)))) hA0
  have hZ1 := va_Zof (hts _ (List.mem_of_getElem? (i := 486) (by decide +kernel))) (hts _ (List.mem_of_getElem? (i := 41) (by decide +kernel))) ht1 hA0
  have hZ2 := va_Zof (hts _ (List.mem_of_getElem? (i := 488) (by decide +kernel))) (hts _ (List.mem_of_getElem? (i := 41) (by decide +kernel))) ht2 hA0
  have hex : (Cond.exactly (Term.string "HeartVanes" 69) "java/lang/String").before #[Value.ref b] s = true := (hfl (Cond.exactly (Term.string "HeartVanes" 69) "java/lang/String") (List.mem_of_getElem? (i := 23) (by decide +kernel)))
  obtain ⟨t3, c3, cA, kA, q1, q2, q3, q4, q5, q6, -⟩ := Cond.exactly_spec (args := #[Value.ref b]) (first := s) (o := none) (s := s) (idx := []) (t := (Term.string "HeartVanes" 69)) (cls := "java/lang/String") hex
  have hO3 : va_O "java/lang/String" t3 (fun q => s.heap.size ≤ q) s s.heap := va_Oof hex q1 hA0
  obtain ⟨t4, ht4, hT4⟩ := va_Tof (tm := (Term.field (Term.string "HeartVanes" 69) "java/lang/String" "value" "[B")) (ty := .byte) (N := vtb.length) (f := fun j => .int (vtb.getD j 0)) (by decide +kernel) (hfl (Cond.arrayOf (Term.field (Term.string "HeartVanes" 69) "java/lang/String" "value" "[B") .byte) (List.mem_of_getElem? (i := 25) (by decide +kernel))) (va_eqt (hfl (Cond.eq (.length (Term.field (Term.string "HeartVanes" 69) "java/lang/String" "value" "[B")) (.int (Int32.ofNat vtb.length))) (List.mem_of_getElem? (i := 26) (by decide +kernel)))) (fun j hj => va_eqt (hfl _ (List.mem_of_getElem? (gn_text j hj)))) hA0
  have hV4 := vk_OFof q1 ht4 hA0
  have hK4 := vk_OFof q1 (va_eqt (hfl (Cond.eq (.field (Term.string "HeartVanes" 69) "java/lang/String" "coder" "B") (.int 0)) (List.mem_of_getElem? (i := 24) (by decide +kernel)))) hA0
  have hR3 := vk_R.of (own := "HeartVanes") (k := 69) (tx := vtx) (hts _ (List.mem_of_getElem? (i := 215) (by decide +kernel))) q1
  have hZ5 := va_Zof (hts _ (List.mem_of_getElem? (i := 225) (by decide +kernel))) (hts _ (List.mem_of_getElem? (i := 49) (by decide +kernel))) (va_eqi (hfl (Cond.eq (.static "java/lang/String" "COMPACT_STRINGS" "Z") (.int 1)) (List.mem_of_getElem? (i := 4) (by decide +kernel)))) hA0
  have hZ6 := va_Zqof (hts _ (List.mem_of_getElem? (i := 241) (by decide +kernel))) (hts _ (List.mem_of_getElem? (i := 51) (by decide +kernel))) (hfl (Cond.isRef (.static "jdk/internal/util/Preconditions" "SIOOBE_FORMATTER" "Ljava/util/function/BiFunction;")) (List.mem_of_getElem? (i := 5) (by decide +kernel))) hA0
  have hAO : va_AO "HeartVanes$Room" s := va_AO.of (hts _ (List.mem_of_getElem? (i := 145) (by decide +kernel)))
  have hNs : ∀ w ∈ vNS, va_Nw w s := fun w hw => va_Nw.of (vN_tab hw) (hts w (List.mem_filter.mp hw).1)
  have hlen : ((List.range L).map xs).length = L := by rw [List.length_map, List.length_range]
  have hT0 : va_T .int b ((List.range L).map xs).length (fun j => .int (((List.range L).map xs).getD j 0)) (fun q => s.heap.size ≤ q) s s.heap := by
    obtain ⟨scr, g1, g2, g3, g4, g5⟩ := hX
    rw [hlen]
    refine ⟨scr, g1, g2, g3, by omega, by rw [g4], fun j hj => ?_, hA0 b hbl⟩
    rw [g5 j hj]
    show some (Value.int (xs j)) = some (Value.int (((List.range L).map xs).getD j 0))
    rw [List.getD_eq_getElem?_getD, List.getElem?_map, List.getElem?_range hj]; rfl
  obtain ⟨t6, hZ6⟩ : ∃ t6 : Nat, ∃ v, (v = .null ∨ v = .ref t6) ∧ va_Z "jdk/internal/util/Preconditions" "SIOOBE_FORMATTER" "Ljava/util/function/BiFunction;" v (fun q => s.heap.size ≤ q) s s.heap := by
    rcases hZ6 with z | ⟨t, z⟩
    · exact ⟨0, .null, Or.inl rfl, z⟩
    · exact ⟨t, .ref t, Or.inr rfl, z⟩
  obtain ⟨ad, e0, e1, e2, e3, e4, e5⟩ : ∃ ad : VAd, (ad 1000000).1 = b ∧ (ad 1000001).1 = t1 ∧ (ad 1000002).1 = t2 ∧ (ad 1000003).1 = t3 ∧ (ad 1000004).1 = t4 ∧ (ad 1000005).1 = t6 := ⟨fun k => (if k = 1000000 then b else if k = 1000001 then t1 else if k = 1000002 then t2 else if k = 1000003 then t3 else if k = 1000004 then t4 else t6, cl), by simp, by simp, by simp, by simp, by simp, by simp⟩
  refine ⟨ad, e0, ?_⟩
  unfold VRO
  rw [e0, e1, e2, e3, e4, e5]
  exact ⟨hT0, hZ1, hT1, hZ2, hT2, hR3, hO3, hV4, hK4, hT4, ⟨hZ5, hZ6⟩, hAO, hNs⟩
