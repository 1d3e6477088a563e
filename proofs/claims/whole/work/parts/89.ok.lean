/-! what a call leaves is in order -/
theorem Kin.rf {S : Rm} (h : RmOk S) : Kin S S := ⟨h, rfl, rfl, rfl, rfl⟩
theorem Kin.via {S S' P : Rm} (k : Kin S S') (q : Kin S P) : Kin S' P := ⟨q.1, by rw [q.2.1, k.2.1], by rw [q.2.2.1, k.2.2.1], by rw [q.2.2.2.1, k.2.2.2.1], by rw [q.2.2.2.2, k.2.2.2.2]⟩
theorem hours_Kin {S : Rm} (h : RmOk S) (n : Nat) : Kin S (hoursF S n) := by
  obtain ⟨a, b, c, d, e, f, g, t⟩ := hours_same (S := S) n
  refine ⟨⟨hours_B h.1 n, fun i j hi hj e1 e2 => ?_, fun i j hij => ?_⟩, b, c, a, d⟩
  · rw [a] at hi hj; rw [e] at e1; rw [f] at e2; exact h.2.1 i j hi hj e1 e2
  · rw [g]; rw [a] at hij; exact h.2.2 i j hij
theorem step_Kin {S : Rm} (h : RmOk S) {p s : Nat} (hp : p < rN S) (hc : canF S p s) : Kin S (rStep S p s) := by
  obtain ⟨h1, h2⟩ := hc
  have hx : (sxF S p s).toNat < rW S := by have := h1.1; omega
  have hy : (syF S p s).toNat < rH S := by have := h1.2; omega
  refine ⟨⟨put_B h.1 hx hy, fun i j hi hj e1 e2 => ?_, h.2.2⟩, rfl, rfl, rfl, rfl⟩
  replace hi : i < rN S := hi
  replace hj : j < rN S := hj
  replace e1 : up1 (rX S) p (sxF S p s).toNat i = up1 (rX S) p (sxF S p s).toNat j := e1
  replace e2 : up1 (rY S) p (syF S p s).toNat i = up1 (rY S) p (syF S p s).toNat j := e2
  unfold up1 at e1 e2
  by_cases c1 : i = p <;> by_cases c2 : j = p
  · omega
  · rw [if_pos c1, if_neg c2] at e1 e2
    exact absurd ⟨e1.symm, e2.symm⟩ (whoF_none h2 j hj)
  · rw [if_neg c1, if_pos c2] at e1 e2
    exact absurd ⟨e1, e2⟩ (whoF_none h2 i hi)
  · rw [if_neg c1, if_neg c2] at e1 e2
    exact h.2.1 i j hi hj e1 e2
theorem lean_Kin {S : Rm} (h : RmOk S) {a b : Nat} {l : Int} (ha : a < rN S) (hb : b < rN S) (h1 : -20 ≤ l) (h2 : l ≤ 20) : Kin S (rLean S a b l) := ⟨lean_Ok h ha hb h1 h2, rfl, rfl, rfl, rfl⟩
theorem ok_act {T : Sy} (h : SyOk T) {S : Rm} (k : Kin (tS T) S) : SyOk (tT T, S, rem T, T.2.2.2) := by
  obtain ⟨h1, h2, h3, h4, h5, h6, h7, h8⟩ := h
  refine ⟨h1, k.1, ?_, ?_, h5, h6, fun P hP => ?_, fun P hP => k.via (h8 P hP)⟩
  · show 1 ≤ rN S; rw [k.2.2.2.1]; exact h3
  · show (rem T).length ≤ 8; rw [rem_len]; omega
  · have hP2 := List.mem_of_mem_take hP
    rcases List.mem_cons.mp hP2 with e | e
    · rw [e]; exact k.via (Kin.rf h2)
    · exact k.via (h7 P e)
theorem ok_write {T : Sy} (h : SyOk T) (z : Int) : SyOk (n_write T z) := by
  unfold n_write
  split
  · next q =>
    obtain ⟨h1, rest⟩ := h
    refine ⟨⟨?_, fun i hi => ?_⟩, rest⟩
    · show (tT T ++ [z.toNat]).length ≤ 200; rw [List.length_append]; simp only [List.length_cons, List.length_nil]; omega
    · replace hi : i < (tT T ++ [z.toNat]).length := hi
      rw [List.length_append] at hi
      simp only [List.length_cons, List.length_nil] at hi
      show 32 ≤ (tT T ++ [z.toNat]).getD i 0 ∧ (tT T ++ [z.toNat]).getD i 0 ≤ 126
      rw [getD_app]
      split
      · omega
      · exact h1.2 i (by omega)
  · exact h
theorem ok_wipe {T : Sy} (h : SyOk T) : SyOk ([], T.2) := ⟨⟨Nat.zero_le _, fun i hi => absurd hi (Nat.not_lt_zero _)⟩, h.2⟩
theorem ok_lay {T : Sy} (h : SyOk T) : SyOk (n_lay T) := by
  unfold n_lay
  split
  · next q => exact ⟨h.1, (read_res h.1).1, q.2, Nat.zero_le _, Nat.zero_le _, ⟨Nat.zero_le _, fun i hi => absurd hi (Nat.not_lt_zero _)⟩, fun P hP => absurd hP List.not_mem_nil, fun P hP => absurd hP List.not_mem_nil⟩
  · exact h
theorem ok_pass {T : Sy} (h : SyOk T) (n : Int) : SyOk (n_pass T n) := by
  unfold n_pass
  split
  · exact ok_act h (hours_Kin h.2.1 _)
  · exact h
theorem ok_walk {T : Sy} (h : SyOk T) (p s : Int) : SyOk (n_walk T p s) := by
  unfold n_walk
  split
  · next q => exact ok_act h (step_Kin h.2.1 (by have := q.1.1; omega) q.2)
  · exact h
theorem ok_lean {T : Sy} (h : SyOk T) (a b l : Int) : SyOk (n_lean T a b l) := by
  unfold n_lean
  split
  · next q =>
    obtain ⟨⟨q1, q2, -⟩, q3, q4⟩ := q
    exact ok_act h (lean_Kin h.2.1 (by omega) (by omega) q3 q4)
  · exact h
theorem ok_undo {T : Sy} (h : SyOk T) : SyOk (n_undo T) := by
  unfold n_undo
  split
  · next q =>
    obtain ⟨h1, h2, h3, h4, h5, h6, h7, h8⟩ := h
    have k := h7 _ (getD_mem (j := 0) (by omega))
    refine ⟨h1, k.1, ?_, ?_, h5, h6, fun P hP => k.via (h7 P (List.mem_of_mem_tail hP)), fun P hP => k.via (h8 P hP)⟩
    · show 1 ≤ rN ((tP T).getD 0 rClear); rw [k.2.2.2.1]; exact h3
    · show (tP T).tail.length ≤ 8; rw [List.length_tail]; omega
  · exact h
theorem ok_see {T : Sy} (h : SyOk T) (p n w : Int) : SyOk (n_see T p n w) := by
  unfold n_see
  split
  · next q =>
    obtain ⟨h1, h2, h3, h4, h5, h6, h7, h8⟩ := h
    refine ⟨h1, h2, h3, h4, h5, ⟨?_, fun i hi => ?_⟩, h7, h8⟩
    · show (tN T ++ [(p.toNat, n.toNat, w.toNat)]).length ≤ 6; rw [List.length_append]; simp only [List.length_cons, List.length_nil]; omega
    · replace hi : i < (tN T ++ [(p.toNat, n.toNat, w.toNat)]).length := hi
      rw [List.length_append] at hi
      simp only [List.length_cons, List.length_nil] at hi
      show ((tN T ++ [(p.toNat, n.toNat, w.toNat)]).getD i (0, 0, 0)).1 < 6 ∧ ((tN T ++ [(p.toNat, n.toNat, w.toNat)]).getD i (0, 0, 0)).2.1 ≤ 20 ∧ ((tN T ++ [(p.toNat, n.toNat, w.toNat)]).getD i (0, 0, 0)).2.2 < 8
      rw [getD_app3]
      have bn := h2.1.1
      split
      · show p.toNat < 6 ∧ n.toNat ≤ 20 ∧ w.toNat < 8
        obtain ⟨⟨⟨q1, q2, q3⟩, q4, q5⟩, -⟩ := q
        omega
      · exact h6.2 i (by omega)
  · exact h
theorem ok_forget {T : Sy} (h : SyOk T) : SyOk (tT T, tS T, tP T, tK T, []) := by
  obtain ⟨h1, h2, h3, h4, h5, h6, h7, h8⟩ := h
  exact ⟨h1, h2, h3, h4, h5, ⟨Nat.zero_le _, fun i hi => absurd hi (Nat.not_lt_zero _)⟩, h7, h8⟩
theorem ok_keep {T : Sy} (h : SyOk T) : SyOk (n_keep T) := by
  unfold n_keep
  split
  · next q =>
    obtain ⟨h1, h2, h3, h4, h5, h6, h7, h8⟩ := h
    refine ⟨h1, h2, h3, h4, ?_, h6, h7, fun P hP => ?_⟩
    · show (tK T ++ [tS T]).length ≤ 2; rw [List.length_append]; simp only [List.length_cons, List.length_nil]; omega
    · rcases List.mem_append.mp hP with e | e
      · exact h8 P e
      · rw [List.mem_singleton.mp e]; exact Kin.rf h2
  · exact h
theorem ok_back {T : Sy} (h : SyOk T) : SyOk (n_back T) := by
  unfold n_back
  split
  · next q =>
    obtain ⟨h1, h2, h3, h4, h5, h6, h7, h8⟩ := h
    have k := h8 _ (getD_mem (j := (tK T).length - 1) (by omega))
    refine ⟨h1, k.1, ?_, Nat.zero_le _, ?_, h6, fun P hP => absurd hP List.not_mem_nil, fun P hP => k.via (h8 P (by have hP' : P ∈ (tK T).dropLast := hP; rw [List.dropLast_eq_take] at hP'; exact List.mem_of_mem_take hP'))⟩
    · show 1 ≤ rN ((tK T).getD ((tK T).length - 1) rClear); rw [k.2.2.2.1]; exact h3
    · show (tK T).dropLast.length ≤ 2; rw [List.length_dropLast]; omega
  · exact h
