/-! the reference's reading against the class's -/
theorem fig_iff {tx : List Nat} {k : Nat} : figZ (lzF tx k) ↔ figF (chF tx k) := by
  unfold lzF chF figF
  by_cases h : k < tx.length
  · simp only [if_pos h, Option.getD_some]; omega
  · simp only [if_neg h, Option.getD_none]; omega
theorem lz_val {tx : List Nat} {k : Nat} (hf : figF (chF tx k)) : lzF tx k = (((chF tx k).getD 0 : Nat) : Int) := by
  unfold lzF
  unfold chF at hf ⊢
  by_cases h : k < tx.length
  · simp only [if_pos h, Option.getD_some]
  · simp only [if_neg h, Option.getD_none] at hf; exact absurd hf (by unfold figF; simp)
theorem lz_eq {tx : List Nat} {k e : Nat} : lzF tx k = (e : Int) ↔ chF tx k = some e := by
  unfold lzF chF
  by_cases h : k < tx.length
  · simp only [if_pos h, Option.some.injEq]; omega
  · simp only [if_neg h]; exact ⟨fun u => absurd u (by omega), fun u => by cases u⟩
theorem nuZ_spec {tx : List Nat} {a : Nat} {lo hi : Int} {e : Nat} : (∃ v j : Nat, numF tx a = some (v, j) ∧ chF tx j = some e ∧ (lo ≤ (v : Int) ∧ (v : Int) ≤ hi) ∧ nuZ tx a lo hi e = ((v : Int), j + 1)) ∨ ((nuZ tx a lo hi e).1 = -1 ∧ ∀ v j : Nat, numF tx a = some (v, j) → chF tx j = some e → ¬ (lo ≤ (v : Int) ∧ (v : Int) ≤ hi)) := by
  by_cases h1 : figF (chF tx a)
  · have v1 := lz_val h1
    have b1 := fig_bd h1
    by_cases h2 : figF (chF tx (a + 1))
    · have v2 := lz_val h2
      have b2 := fig_bd h2
      have en := numF_two h1 h2
      have ev : (10 * (lzF tx a - 48) + lzF tx (a + 1) - 48 : Int) = ((10 * ((chF tx a).getD 0 - 48) + (chF tx (a + 1)).getD 0 - 48 : Nat) : Int) := by omega
      have eu : nuZ tx a lo hi e = (if (lo ≤ 10 * (lzF tx a - 48) + lzF tx (a + 1) - 48 ∧ 10 * (lzF tx a - 48) + lzF tx (a + 1) - 48 ≤ hi) ∧ lzF tx (a + 2) = (e : Int) then 10 * (lzF tx a - 48) + lzF tx (a + 1) - 48 else -1, a + 3) := by
        unfold nuZ; rw [if_pos (fig_iff.mpr h1), if_pos (fig_iff.mpr h2)]
      rw [ev] at eu
      by_cases hc : (lo ≤ ((10 * ((chF tx a).getD 0 - 48) + (chF tx (a + 1)).getD 0 - 48 : Nat) : Int) ∧ ((10 * ((chF tx a).getD 0 - 48) + (chF tx (a + 1)).getD 0 - 48 : Nat) : Int) ≤ hi) ∧ lzF tx (a + 2) = (e : Int)
      · rw [if_pos hc] at eu
        exact Or.inl ⟨_, _, en, lz_eq.mp hc.2, hc.1, eu⟩
      · rw [if_neg hc] at eu
        refine Or.inr ⟨by rw [eu], fun v j hv hj hb => hc ?_⟩
        rw [en] at hv
        cases hv
        exact ⟨hb, lz_eq.mpr hj⟩
    · have en := numF_one h1 h2
      have ev : (lzF tx a - 48 : Int) = (((chF tx a).getD 0 - 48 : Nat) : Int) := by omega
      have eu : nuZ tx a lo hi e = (if (lo ≤ lzF tx a - 48 ∧ lzF tx a - 48 ≤ hi) ∧ lzF tx (a + 1) = (e : Int) then lzF tx a - 48 else -1, a + 2) := by
        unfold nuZ; rw [if_pos (fig_iff.mpr h1), if_neg (fun u => h2 (fig_iff.mp u))]
      rw [ev] at eu
      by_cases hc : (lo ≤ (((chF tx a).getD 0 - 48 : Nat) : Int) ∧ (((chF tx a).getD 0 - 48 : Nat) : Int) ≤ hi) ∧ lzF tx (a + 1) = (e : Int)
      · rw [if_pos hc] at eu
        exact Or.inl ⟨_, _, en, lz_eq.mp hc.2, hc.1, eu⟩
      · rw [if_neg hc] at eu
        refine Or.inr ⟨by rw [eu], fun v j hv hj hb => hc ?_⟩
        rw [en] at hv
        cases hv
        exact ⟨hb, lz_eq.mpr hj⟩
  · refine Or.inr ⟨by unfold nuZ; rw [if_neg (fun u => h1 (fig_iff.mp u))], fun v j hv => ?_⟩
    rw [numF_no h1] at hv; cases hv
/-- numbers, then what is made of them -/
def nG {X : Type} (tx : List Nat) (m i : Nat) (k : List Nat → Nat → Option X) : Option X := (numsF tx m i).bind (fun w => k w.1 w.2)
theorem nG_0 {X : Type} {tx : List Nat} {i : Nat} {k : List Nat → Nat → Option X} : nG tx 0 i k = k [] i := rfl
theorem nG_bq {X : Type} {tx : List Nat} {m i : Nat} {k : List Nat → Nat → Option X} {lo hi : Int} (hk : ∀ (v : Nat) vs e, ¬ (lo ≤ (v : Int) ∧ (v : Int) ≤ hi) → k (v :: vs) e = none) : nG tx (m + 1) i k = bq (nuZ tx i lo hi (sepF m)) (fun x j => nG tx m j (fun vs e => k (x.toNat :: vs) e)) := by
  rcases nuZ_spec (tx := tx) (a := i) (lo := lo) (hi := hi) (e := sepF m) with ⟨v, j, hn, hc, hb, e⟩ | ⟨e, hno⟩
  · rw [e, bq_pos (by show ¬ (v : Int) < 0; omega)]
    unfold nG
    rw [nums_ok hn hc]
    cases numsF tx m (j + 1) with
    | none => rfl
    | some q => rfl
  · rw [bq_neg (by rw [e]; omega)]
    unfold nG
    cases hn : numF tx i with
    | none => rw [nums_no hn]; rfl
    | some q =>
      by_cases hc : chF tx q.2 = some (sepF m)
      · rw [nums_ok (v := q.1) (j := q.2) hn hc]
        cases numsF tx m (q.2 + 1) with
        | none => rfl
        | some r => exact hk q.1 r.1 r.2 (hno q.1 q.2 hn hc)
      · rw [nums_bad (v := q.1) (j := q.2) hn hc]; rfl
theorem bq_congr {X : Type} {q : Int × Nat} {k k' : Int → Nat → Option X} (h : 0 ≤ q.1 → k q.1 q.2 = k' q.1 q.2) : bq q k = bq q k' := by
  unfold bq
  split
  · rfl
  · exact h (by omega)
def kT (f : List Nat → Option Rm) (vs : List Nat) (e : Nat) : Option (Rm × Nat) := (f vs).map (fun S' => (S', e))
def itemF (tx : List Nat) (c i : Nat) (S : Rm) : Option (Rm × Nat) := if nOf c = 0 then none else nG tx (nOf c) i (kT (takeF S c))
theorem resW_eq {tx : List Nat} {i : Nat} {S : Rm} (hlt : ∀ i, i < tx.length → tx.getD i 0 < 100000) : itemF tx 114 i S = resW tx i S := by
  show nG tx 2 i (kT (takeW S)) = _
  unfold resW
  rw [nG_bq (lo := ((1 : Nat) : Int)) (hi := ((9 : Nat) : Int)) (fun v vs e hb => by
    show (takeW S (v :: vs)).map _ = none
    unfold takeW
    rw [if_neg (fun u => hb (by have := u.1; have := u.2.1; simp only [List.getD_cons_zero] at *; omega))]; rfl)]
  refine bq_congr (fun h1 => ?_)
  have b1 := (nuZ_bd (tx := tx) (a := i) (lo := ((1 : Nat) : Int)) (hi := ((9 : Nat) : Int)) (e := sepF 1) hlt).2.2.2 h1
  generalize (nuZ tx i ((1 : Nat) : Int) ((9 : Nat) : Int) (sepF 1)) = q1 at h1 b1 ⊢
  show nG tx (0 + 1) q1.2 _ = _
  rw [nG_bq (lo := ((1 : Nat) : Int)) (hi := ((9 : Nat) : Int)) (fun v vs e hb => by
    show (takeW S (q1.1.toNat :: v :: vs)).map _ = none
    unfold takeW
    rw [if_neg (fun u => hb (by have := u.2.2; simp only [List.getD_cons_zero, List.getD_cons_succ] at *; omega))]; rfl)]
  refine bq_congr (fun h2 => ?_)
  have b2 := (nuZ_bd (tx := tx) (a := q1.2) (lo := ((1 : Nat) : Int)) (hi := ((9 : Nat) : Int)) (e := sepF 0) hlt).2.2.2 h2
  generalize (nuZ tx q1.2 ((1 : Nat) : Int) ((9 : Nat) : Int) (sepF 0)) = q2 at h2 b2 ⊢
  rw [nG_0]
  show (takeW S [q1.1.toNat, q2.1.toNat]).map _ = _
  unfold takeW
  rw [if_pos (by simp only [List.getD_cons_zero, List.getD_cons_succ]; omega)]
  rfl
theorem clr_iff {S : Rm} {x y : Int} (hx : 0 ≤ x) (hy : 0 ≤ y) : clrI S x y (rN S) ↔ whoF S x.toNat y.toNat (rN S) = none := by
  constructor
  · intro h
    cases hw : whoF S x.toNat y.toNat (rN S) with
    | none => rfl
    | some j =>
      have z := whoF_lt hw
      exact absurd ⟨by omega, by omega⟩ (h j z.1)
  · intro h j hj z
    exact whoF_none h j hj ⟨by omega, by omega⟩
theorem resP_eq {tx : List Nat} {i : Nat} {S : Rm} (hlt : ∀ i, i < tx.length → tx.getD i 0 < 100000) : itemF tx 112 i S = resP tx i S := by
  show nG tx 3 i (kT (takeP S)) = _
  unfold resP
  rw [nG_bq (lo := ((0 : Nat) : Int)) (hi := ((3 : Nat) : Int)) (fun v vs e hb => by
    show (takeP S (v :: vs)).map _ = none
    unfold takeP
    rw [if_neg (fun u => hb (by have := u.2.1; simp only [List.getD_cons_zero] at *; omega))]; rfl)]
  refine bq_congr (fun h1 => ?_)
  have b1 := (nuZ_bd (tx := tx) (a := i) (lo := ((0 : Nat) : Int)) (hi := ((3 : Nat) : Int)) (e := sepF 2) hlt).2.2.2 h1
  generalize (nuZ tx i ((0 : Nat) : Int) ((3 : Nat) : Int) (sepF 2)) = q1 at h1 b1 ⊢
  show nG tx (1 + 1) q1.2 _ = _
  rw [nG_bq (lo := ((0 : Nat) : Int)) (hi := ((rW S : Nat) : Int) - ((1 : Nat) : Int)) (fun v vs e hb => by
    show (takeP S (q1.1.toNat :: v :: vs)).map _ = none
    unfold takeP
    rw [if_neg (fun u => hb (by have := u.2.2.1; simp only [List.getD_cons_zero, List.getD_cons_succ] at *; omega))]; rfl)]
  refine bq_congr (fun h2 => ?_)
  have b2 := (nuZ_bd (tx := tx) (a := q1.2) (lo := ((0 : Nat) : Int)) (hi := ((rW S : Nat) : Int) - ((1 : Nat) : Int)) (e := sepF 1) hlt).2.2.2 h2
  generalize (nuZ tx q1.2 ((0 : Nat) : Int) (((rW S : Nat) : Int) - ((1 : Nat) : Int)) (sepF 1)) = q2 at h2 b2 ⊢
  show nG tx (0 + 1) q2.2 _ = _
  rw [nG_bq (lo := ((0 : Nat) : Int)) (hi := ((rH S : Nat) : Int) - ((1 : Nat) : Int)) (fun v vs e hb => by
    show (takeP S (q1.1.toNat :: q2.1.toNat :: v :: vs)).map _ = none
    unfold takeP
    rw [if_neg (fun u => hb (by have := u.2.2.2.1; simp only [List.getD_cons_zero, List.getD_cons_succ] at *; omega))]; rfl)]
  refine bq_congr (fun h3 => ?_)
  have b3 := (nuZ_bd (tx := tx) (a := q2.2) (lo := ((0 : Nat) : Int)) (hi := ((rH S : Nat) : Int) - ((1 : Nat) : Int)) (e := sepF 0) hlt).2.2.2 h3
  generalize (nuZ tx q2.2 ((0 : Nat) : Int) (((rH S : Nat) : Int) - ((1 : Nat) : Int)) (sepF 0)) = q3 at h3 b3 ⊢
  rw [nG_0]
  show (takeP S [q1.1.toNat, q2.1.toNat, q3.1.toNat]).map _ = _
  have ci := clr_iff (S := S) h2 h3
  unfold takeP
  simp only [List.getD_cons_zero, List.getD_cons_succ]
  by_cases hc : (0 ≤ q3.1 ∧ rN S < 6) ∧ clrI S q2.1 q3.1 (rN S)
  · rw [if_pos ⟨hc.1.2, by omega, by omega, by omega, ci.mp hc.2⟩, if_pos hc]; rfl
  · rw [if_neg (fun u => hc ⟨⟨h3, u.1⟩, ci.mpr u.2.2.2.2⟩), if_neg hc]; rfl
theorem resL_eq {tx : List Nat} {i : Nat} {S : Rm} (hlt : ∀ i, i < tx.length → tx.getD i 0 < 100000) : itemF tx 108 i S = resL tx i S := by
  show nG tx 4 i (kT (takeL S)) = _
  unfold resL
  rw [nG_bq (lo := ((0 : Nat) : Int)) (hi := ((rN S : Nat) : Int) - ((1 : Nat) : Int)) (fun v vs e hb => by
    show (takeL S (v :: vs)).map _ = none
    unfold takeL
    rw [if_neg (fun u => hb (by have := u.1; simp only [List.getD_cons_zero] at *; omega))]; rfl)]
  refine bq_congr (fun h1 => ?_)
  have b1 := (nuZ_bd (tx := tx) (a := i) (lo := ((0 : Nat) : Int)) (hi := ((rN S : Nat) : Int) - ((1 : Nat) : Int)) (e := sepF 3) hlt).2.2.2 h1
  generalize (nuZ tx i ((0 : Nat) : Int) (((rN S : Nat) : Int) - ((1 : Nat) : Int)) (sepF 3)) = q1 at h1 b1 ⊢
  show nG tx (2 + 1) q1.2 _ = _
  rw [nG_bq (lo := ((0 : Nat) : Int)) (hi := ((rN S : Nat) : Int) - ((1 : Nat) : Int)) (fun v vs e hb => by
    show (takeL S (q1.1.toNat :: v :: vs)).map _ = none
    unfold takeL
    rw [if_neg (fun u => hb (by have := u.2.1; simp only [List.getD_cons_zero, List.getD_cons_succ] at *; omega))]; rfl)]
  refine bq_congr (fun h2 => ?_)
  have b2 := (nuZ_bd (tx := tx) (a := q1.2) (lo := ((0 : Nat) : Int)) (hi := ((rN S : Nat) : Int) - ((1 : Nat) : Int)) (e := sepF 2) hlt).2.2.2 h2
  generalize (nuZ tx q1.2 ((0 : Nat) : Int) (((rN S : Nat) : Int) - ((1 : Nat) : Int)) (sepF 2)) = q2 at h2 b2 ⊢
  show nG tx (1 + 1) q2.2 _ = _
  rw [nG_bq (lo := ((0 : Nat) : Int)) (hi := ((1 : Nat) : Int)) (fun v vs e hb => by
    show (takeL S (q1.1.toNat :: q2.1.toNat :: v :: vs)).map _ = none
    unfold takeL
    rw [if_neg (fun u => hb (by have := u.2.2.2.1; simp only [List.getD_cons_zero, List.getD_cons_succ] at *; omega))]; rfl)]
  refine bq_congr (fun h3 => ?_)
  have b3 := (nuZ_bd (tx := tx) (a := q2.2) (lo := ((0 : Nat) : Int)) (hi := ((1 : Nat) : Int)) (e := sepF 1) hlt).2.2.2 h3
  generalize (nuZ tx q2.2 ((0 : Nat) : Int) ((1 : Nat) : Int) (sepF 1)) = q3 at h3 b3 ⊢
  show nG tx (0 + 1) q3.2 _ = _
  rw [nG_bq (lo := ((0 : Nat) : Int)) (hi := ((20 : Nat) : Int)) (fun v vs e hb => by
    show (takeL S (q1.1.toNat :: q2.1.toNat :: q3.1.toNat :: v :: vs)).map _ = none
    unfold takeL
    rw [if_neg (fun u => hb (by have := u.2.2.2.2; simp only [List.getD_cons_zero, List.getD_cons_succ] at *; omega))]; rfl)]
  refine bq_congr (fun h4 => ?_)
  have b4 := (nuZ_bd (tx := tx) (a := q3.2) (lo := ((0 : Nat) : Int)) (hi := ((20 : Nat) : Int)) (e := sepF 0) hlt).2.2.2 h4
  generalize (nuZ tx q3.2 ((0 : Nat) : Int) ((20 : Nat) : Int) (sepF 0)) = q4 at h4 b4 ⊢
  rw [nG_0]
  show (takeL S [q1.1.toNat, q2.1.toNat, q3.1.toNat, q4.1.toNat]).map _ = _
  unfold takeL
  simp only [List.getD_cons_zero, List.getD_cons_succ]
  by_cases hc : q1.1 = q2.1
  · rw [if_neg (fun u => u.2.2.1 (by rw [hc])), if_pos hc]; rfl
  · rw [if_pos ⟨by omega, by omega, by omega, by omega, by omega⟩, if_neg hc]
    have e : (if q3.1.toNat = 0 then ((q4.1.toNat : Nat) : Int) else -((q4.1.toNat : Nat) : Int)) = (if q3.1 = 1 then -q4.1 else q4.1) := by
      by_cases h9 : q3.1 = 1
      · rw [if_neg (by omega), if_pos h9]; omega
      · rw [if_pos (by omega), if_neg h9]; omega
    rw [e]
    rfl
theorem item_raw {tx : List Nat} {c i : Nat} {S : Rm} : itemF tx c i S = (if nOf c = 0 then none else numsF tx (nOf c) i).bind (fun w => (takeF S c w.1).map (fun S' => (S', w.2))) := by
  unfold itemF
  split <;> rfl
theorem parse_bad {tx : List Nat} {f i : Nat} {S : Rm} {ro : Bool} (h : i < tx.length) (hb : (tx.getD i 0 = 114 ∧ ro = false) ∨ itemF tx (tx.getD i 0) (i + 1) S = none) : parseF tx (f + 1) i S ro = (some i, S) := by
  cases hn : (if nOf (tx.getD i 0) = 0 then none else numsF tx (nOf (tx.getD i 0)) (i + 1)) with
  | none => exact parse_no1 h hn
  | some w =>
    rcases hb with hb | hb
    · exact parse_no2 h hn hb
    · rw [item_raw, hn] at hb
      cases ht : takeF S (tx.getD i 0) w.1 with
      | none => exact parse_no3 h hn ht
      | some S' => rw [Option.bind_some, ht] at hb; cases hb
theorem parse_good {tx : List Nat} {f i : Nat} {S : Rm} {ro : Bool} {w : Rm × Nat} (hK : TxOk tx) (hO : RmOk S) (h : i < tx.length) (hr : ¬ (tx.getD i 0 = 114 ∧ ro = false)) (hz : ro = true → rN S = 0) (hi : itemF tx (tx.getD i 0) (i + 1) S = some w) : parseF tx (f + 1) i S ro = parseF tx f w.2 w.1 (decide (tx.getD i 0 = 114)) ∧ RmOk w.1 ∧ (decide (tx.getD i 0 = 114) = true → rN w.1 = 0) ∧ i + 1 ≤ w.2 ∧ w.2 ≤ i + 13 := by
  rw [item_raw] at hi
  cases hn : (if nOf (tx.getD i 0) = 0 then none else numsF tx (nOf (tx.getD i 0)) (i + 1)) with
  | none => rw [hn] at hi; cases hi
  | some q =>
    rw [hn, Option.bind_some] at hi
    cases ht : takeF S (tx.getD i 0) q.1 with
    | none => rw [ht] at hi; cases hi
    | some S' =>
      rw [ht] at hi
      cases hi
      have bd := numsW_bd hK hn
      have tk := take_Ok hO (fun z => hz (by
        cases ro with
        | true => rfl
        | false => exact absurd ⟨z, rfl⟩ hr)) ht
      exact ⟨parse_ok h hn hr ht, tk.1, fun z => tk.2 (of_decide_eq_true z), by show i + 1 ≤ q.2; omega, by show q.2 ≤ i + 13; omega⟩
theorem item_none {tx : List Nat} {c i : Nat} {S : Rm} (h1 : c ≠ 114) (h2 : c ≠ 112) (h3 : c ≠ 108) : itemF tx c i S = none := by
  unfold itemF nOf
  rw [if_neg h1, if_neg h2, if_neg h3, if_pos rfl]
