theorem hour_Ok {S : Rm} (hO : RmOk S) : RmOk (hourF S) := ⟨hour_B hO.1, hO.2.1, hO.2.2⟩
theorem hours_Ok {S : Rm} (hO : RmOk S) : ∀ n, RmOk (hoursF S n)
  | 0 => hO
  | n + 1 => hour_Ok (hours_Ok hO n)
theorem step_D {S : Rm} (hD : RmD S) {p x y : Nat} (hw : whoF S x y (rN S) = none) : RmD (rPut S p x y) := by
  intro i j hi hj e1 e2
  replace hi : i < rN S := hi
  replace hj : j < rN S := hj
  replace e1 : up1 (rX S) p x i = up1 (rX S) p x j := e1
  replace e2 : up1 (rY S) p y i = up1 (rY S) p y j := e2
  unfold up1 at e1 e2
  by_cases c1 : i = p <;> by_cases c2 : j = p
  · omega
  · rw [if_pos c1, if_neg c2] at e1 e2
    exact absurd ⟨e1.symm, e2.symm⟩ (whoF_none hw j hj)
  · rw [if_neg c1, if_pos c2] at e1 e2
    exact absurd ⟨e1, e2⟩ (whoF_none hw i hi)
  · rw [if_neg c1, if_neg c2] at e1 e2
    exact hD i j hi hj e1 e2
theorem step_Ok {S : Rm} (hO : RmOk S) {p sd : Nat} (h : canF S p sd) : RmOk (rStep S p sd) := by
  have h1 := h.1
  exact ⟨put_B hO.1 (by omega) (by omega), step_D hO.2.1 h.2, hO.2.2⟩
theorem act_Ok {S : Rm} (hO : RmOk S) (hn : 1 ≤ rN S) (d : Nat) : RmOk (actF S d) := by
  have a1 : d / 8 % rN S < rN S := Nat.mod_lt _ (by omega)
  have a2 : d / 64 % rN S < rN S := Nat.mod_lt _ (by omega)
  unfold actF
  split
  · split
    · next h => exact step_Ok hO h
    · exact hO
  · split
    · exact lean_Ok hO a1 a2 (by show (-20 : Int) ≤ ((d / 512 % 41 : Nat) : Int) - ((20 : Nat) : Int); omega) (by show ((d / 512 % 41 : Nat) : Int) - ((20 : Nat) : Int) ≤ 20; omega)
    · exact hO
theorem ev_Ok {S : Rm} (hO : RmOk S) (hn : 1 ≤ rN S) (z : Nat) : ∀ k, RmOk (evF S z k).1
  | 0 => hO
  | k + 1 => hour_Ok (act_Ok (ev_Ok hO hn z k) (by rw [(ev_B hO.1 z k).2]; exact hn) _)
