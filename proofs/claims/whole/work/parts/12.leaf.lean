set_option maxHeartbeats 1000000 in
theorem e_isBelow (g : VG) (h : VHp) (a b : Int) (ha : -2147483648 ≤ a ∧ a < 2147483648) (hb : -2147483648 ≤ b ∧ b < 2147483648) : VE g mX7_isBelow 0 false (0, 0) [.int (iI a), .int (iI b)] h (VP (vB (0 ≤ a ∧ a < b)) h) := by
  refine VE.of (by decide) rfl (Nat.le_of_ble_eq_true rfl) ?_
  show V _ _ 0 [some (.int (iI a)), some (.int (iI b))] [] h
  refine V.iload_n dX7_isBelow_0 rfl ?_
  refine V.if_ltZ 13 dX7_isBelow_1 (by decide) (by omega) (fun hc1 => ?_) (fun hc1 => ?_)
  · skip
    refine V.iconst (v := nI 0) dX7_isBelow_13 (by decide) ?_
    exact V.zret dX7_isBelow_14 rfl (by first | exact vB_01 | decide) ⟨by first | (exfalso; omega) | (first | (rw [vB_t (by omega)]; rfl) | (rw [vB_f (by omega)]; rfl)), rfl⟩
  · skip
    refine V.iload_n dX7_isBelow_4 rfl ?_
    refine V.iload_n dX7_isBelow_5 rfl ?_
    refine V.icmp_geZ 13 dX7_isBelow_6 (by decide) (by omega) (by omega) (fun hc2 => ?_) (fun hc2 => ?_)
    · skip
      refine V.iconst (v := nI 0) dX7_isBelow_13 (by decide) ?_
      exact V.zret dX7_isBelow_14 rfl (by first | exact vB_01 | decide) ⟨by first | (exfalso; omega) | (first | (rw [vB_t (by omega)]; rfl) | (rw [vB_f (by omega)]; rfl)), rfl⟩
    · skip
      refine V.iconst (v := nI 1) dX7_isBelow_9 (by decide) ?_
      refine V.goto 14 dX7_isBelow_10 (by decide) ?_
      exact V.zret dX7_isBelow_14 rfl (by first | exact vB_01 | decide) ⟨by first | (exfalso; omega) | (first | (rw [vB_t (by omega)]; rfl) | (rw [vB_f (by omega)]; rfl)), rfl⟩

set_option maxHeartbeats 1000000 in
theorem e_placeNumber (g : VG) (h : VHp) (x y : Nat) : VE g mX7_placeNumber 0 false (0, 0) [.int (nI x), .int (nI y)] h (VP (nI (10 * x + y)) h) := by
  refine VE.of (by decide) rfl (Nat.le_of_ble_eq_true rfl) ?_
  show V _ _ 0 [some (.int (nI x)), some (.int (nI y))] [] h
  refine V.bipush (v := nI 10) dX7_placeNumber_0 (by decide) ?_
  refine V.iload_n dX7_placeNumber_2 rfl ?_
  refine V.imulN dX7_placeNumber_3 ?_
  refine V.iload_n dX7_placeNumber_4 rfl ?_
  refine V.iaddN dX7_placeNumber_5 ?_
  exact V.iret dX7_placeNumber_6 rfl ⟨by first | (exfalso; omega) | (rfl), rfl⟩

set_option maxHeartbeats 1000000 in
theorem e_wayBy (g : VG) (h : VHp) (e s : Int) (he : -500000000 < e ∧ e < 500000000) (hs : -500000000 < s ∧ s < 500000000) : VE g mX7_wayBy 1 false (0, 0) [.int (iI e), .int (iI s)] h (VP (eO (wayF e s)) h) := by
  refine VE.of (by decide) rfl (Nat.le_of_ble_eq_true rfl) ?_
  show V _ _ 0 [some (.int (iI e)), some (.int (iI s)), none, none] [] h
  refine V.iload_n dX7_wayBy_0 rfl ?_
  refine V.mabs jX7_260 dX7_wayBy_1 (Nat.le_of_ble_eq_true rfl) (Nat.le_of_ble_eq_true rfl) ?_
  refine V.re (iI_abs (by omega)) ?_
  refine V.istore_n (i := 2) dX7_wayBy_4 rfl rfl rfl ?_
  dsimp only [List.set]
  refine V.iload_n dX7_wayBy_5 rfl ?_
  refine V.mabs jX7_260 dX7_wayBy_6 (Nat.le_of_ble_eq_true rfl) (Nat.le_of_ble_eq_true rfl) ?_
  refine V.re (iI_abs (by omega)) ?_
  refine V.istore_n (i := 3) dX7_wayBy_9 rfl rfl rfl ?_
  dsimp only [List.set]
  refine V.iload_n dX7_wayBy_10 rfl ?_
  refine V.if_neZ 21 dX7_wayBy_11 (by decide) (by omega) (fun hc1 => ?_) (fun hc1 => ?_)
  · skip
    refine V.iload_n dX7_wayBy_21 rfl ?_
    refine V.iconst (v := nI 2) dX7_wayBy_22 (by decide) ?_
    refine V.iload_n dX7_wayBy_23 rfl ?_
    refine V.toZ2 ?_
    refine V.imulZ dX7_wayBy_24 ?_
    refine V.icmp_leZ 39 dX7_wayBy_25 (by decide) (by omega) (by omega) (fun hc2 => ?_) (fun hc2 => ?_)
    · skip
      refine V.iload_n dX7_wayBy_39 rfl ?_
      refine V.iconst (v := nI 2) dX7_wayBy_40 (by decide) ?_
      refine V.iload_n dX7_wayBy_41 rfl ?_
      refine V.toZ2 ?_
      refine V.imulZ dX7_wayBy_42 ?_
      refine V.icmp_leZ 56 dX7_wayBy_43 (by decide) (by omega) (by omega) (fun hc3 => ?_) (fun hc3 => ?_)
      · skip
        refine V.iload_n dX7_wayBy_56 rfl ?_
        refine V.if_leZ 70 dX7_wayBy_57 (by decide) (by omega) (fun hc4 => ?_) (fun hc4 => ?_)
        · skip
          refine V.iload_n dX7_wayBy_70 rfl ?_
          refine V.if_leZ 78 dX7_wayBy_71 (by decide) (by omega) (fun hc5 => ?_) (fun hc5 => ?_)
          · skip
            refine V.bipush (v := nI 7) dX7_wayBy_78 (by decide) ?_
            exact V.iret dX7_wayBy_80 rfl ⟨by first | (exfalso; omega) | ((try simp only [wayF]); (repeat rw [if_neg (by omega)]); (repeat first | rw [if_pos (by omega)] | rw [if_neg (by omega)]); rfl), rfl⟩
          · skip
            refine V.iconst (v := nI 5) dX7_wayBy_74 (by decide) ?_
            refine V.goto 80 dX7_wayBy_75 (by decide) ?_
            exact V.iret dX7_wayBy_80 rfl ⟨by first | (exfalso; omega) | ((try simp only [wayF]); (repeat rw [if_neg (by omega)]); (repeat first | rw [if_pos (by omega)] | rw [if_neg (by omega)]); rfl), rfl⟩
        · skip
          refine V.iload_n dX7_wayBy_60 rfl ?_
          refine V.if_leZ 68 dX7_wayBy_61 (by decide) (by omega) (fun hc6 => ?_) (fun hc6 => ?_)
          · skip
            refine V.iconst (v := nI 1) dX7_wayBy_68 (by decide) ?_
            exact V.iret dX7_wayBy_69 rfl ⟨by first | (exfalso; omega) | ((try simp only [wayF]); (repeat rw [if_neg (by omega)]); (repeat first | rw [if_pos (by omega)] | rw [if_neg (by omega)]); rfl), rfl⟩
          · skip
            refine V.iconst (v := nI 3) dX7_wayBy_64 (by decide) ?_
            refine V.goto 69 dX7_wayBy_65 (by decide) ?_
            exact V.iret dX7_wayBy_69 rfl ⟨by first | (exfalso; omega) | ((try simp only [wayF]); (repeat rw [if_neg (by omega)]); (repeat first | rw [if_pos (by omega)] | rw [if_neg (by omega)]); rfl), rfl⟩
      · skip
        refine V.iload_n dX7_wayBy_46 rfl ?_
        refine V.if_leZ 54 dX7_wayBy_47 (by decide) (by omega) (fun hc7 => ?_) (fun hc7 => ?_)
        · skip
          refine V.iconst (v := nI 0) dX7_wayBy_54 (by decide) ?_
          exact V.iret dX7_wayBy_55 rfl ⟨by first | (exfalso; omega) | ((try simp only [wayF]); (repeat rw [if_neg (by omega)]); (repeat first | rw [if_pos (by omega)] | rw [if_neg (by omega)]); rfl), rfl⟩
        · skip
          refine V.iconst (v := nI 4) dX7_wayBy_50 (by decide) ?_
          refine V.goto 55 dX7_wayBy_51 (by decide) ?_
          exact V.iret dX7_wayBy_55 rfl ⟨by first | (exfalso; omega) | ((try simp only [wayF]); (repeat rw [if_neg (by omega)]); (repeat first | rw [if_pos (by omega)] | rw [if_neg (by omega)]); rfl), rfl⟩
    · skip
      refine V.iload_n dX7_wayBy_28 rfl ?_
      refine V.if_leZ 36 dX7_wayBy_29 (by decide) (by omega) (fun hc8 => ?_) (fun hc8 => ?_)
      · skip
        refine V.bipush (v := nI 6) dX7_wayBy_36 (by decide) ?_
        exact V.iret dX7_wayBy_38 rfl ⟨by first | (exfalso; omega) | ((try simp only [wayF]); (repeat rw [if_neg (by omega)]); (repeat first | rw [if_pos (by omega)] | rw [if_neg (by omega)]); rfl), rfl⟩
      · skip
        refine V.iconst (v := nI 2) dX7_wayBy_32 (by decide) ?_
        refine V.goto 38 dX7_wayBy_33 (by decide) ?_
        exact V.iret dX7_wayBy_38 rfl ⟨by first | (exfalso; omega) | ((try simp only [wayF]); (repeat rw [if_neg (by omega)]); (repeat first | rw [if_pos (by omega)] | rw [if_neg (by omega)]); rfl), rfl⟩
  · skip
    refine V.iload_n dX7_wayBy_14 rfl ?_
    refine V.if_neZ 21 dX7_wayBy_15 (by decide) (by omega) (fun hc9 => ?_) (fun hc9 => ?_)
    · skip
      refine V.iload_n dX7_wayBy_21 rfl ?_
      refine V.iconst (v := nI 2) dX7_wayBy_22 (by decide) ?_
      refine V.iload_n dX7_wayBy_23 rfl ?_
      refine V.toZ2 ?_
      refine V.imulZ dX7_wayBy_24 ?_
      refine V.icmp_leZ 39 dX7_wayBy_25 (by decide) (by omega) (by omega) (fun hc10 => ?_) (fun hc10 => ?_)
      · skip
        refine V.iload_n dX7_wayBy_39 rfl ?_
        refine V.iconst (v := nI 2) dX7_wayBy_40 (by decide) ?_
        refine V.iload_n dX7_wayBy_41 rfl ?_
        refine V.toZ2 ?_
        refine V.imulZ dX7_wayBy_42 ?_
        refine V.icmp_leZ 56 dX7_wayBy_43 (by decide) (by omega) (by omega) (fun hc11 => ?_) (fun hc11 => ?_)
        · skip
          refine V.iload_n dX7_wayBy_56 rfl ?_
          refine V.if_leZ 70 dX7_wayBy_57 (by decide) (by omega) (fun hc12 => ?_) (fun hc12 => ?_)
          · skip
            refine V.iload_n dX7_wayBy_70 rfl ?_
            refine V.if_leZ 78 dX7_wayBy_71 (by decide) (by omega) (fun hc13 => ?_) (fun hc13 => ?_)
            · skip
              refine V.bipush (v := nI 7) dX7_wayBy_78 (by decide) ?_
              exact V.iret dX7_wayBy_80 rfl ⟨by first | (exfalso; omega) | ((try simp only [wayF]); (repeat rw [if_neg (by omega)]); (repeat first | rw [if_pos (by omega)] | rw [if_neg (by omega)]); rfl), rfl⟩
            · skip
              refine V.iconst (v := nI 5) dX7_wayBy_74 (by decide) ?_
              refine V.goto 80 dX7_wayBy_75 (by decide) ?_
              exact V.iret dX7_wayBy_80 rfl ⟨by first | (exfalso; omega) | ((try simp only [wayF]); (repeat rw [if_neg (by omega)]); (repeat first | rw [if_pos (by omega)] | rw [if_neg (by omega)]); rfl), rfl⟩
          · skip
            refine V.iload_n dX7_wayBy_60 rfl ?_
            refine V.if_leZ 68 dX7_wayBy_61 (by decide) (by omega) (fun hc14 => ?_) (fun hc14 => ?_)
            · skip
              refine V.iconst (v := nI 1) dX7_wayBy_68 (by decide) ?_
              exact V.iret dX7_wayBy_69 rfl ⟨by first | (exfalso; omega) | ((try simp only [wayF]); (repeat rw [if_neg (by omega)]); (repeat first | rw [if_pos (by omega)] | rw [if_neg (by omega)]); rfl), rfl⟩
            · skip
              refine V.iconst (v := nI 3) dX7_wayBy_64 (by decide) ?_
              refine V.goto 69 dX7_wayBy_65 (by decide) ?_
              exact V.iret dX7_wayBy_69 rfl ⟨by first | (exfalso; omega) | ((try simp only [wayF]); (repeat rw [if_neg (by omega)]); (repeat first | rw [if_pos (by omega)] | rw [if_neg (by omega)]); rfl), rfl⟩
        · skip
          refine V.iload_n dX7_wayBy_46 rfl ?_
          refine V.if_leZ 54 dX7_wayBy_47 (by decide) (by omega) (fun hc15 => ?_) (fun hc15 => ?_)
          · skip
            refine V.iconst (v := nI 0) dX7_wayBy_54 (by decide) ?_
            exact V.iret dX7_wayBy_55 rfl ⟨by first | (exfalso; omega) | ((try simp only [wayF]); (repeat rw [if_neg (by omega)]); (repeat first | rw [if_pos (by omega)] | rw [if_neg (by omega)]); rfl), rfl⟩
          · skip
            refine V.iconst (v := nI 4) dX7_wayBy_50 (by decide) ?_
            refine V.goto 55 dX7_wayBy_51 (by decide) ?_
            exact V.iret dX7_wayBy_55 rfl ⟨by first | (exfalso; omega) | ((try simp only [wayF]); (repeat rw [if_neg (by omega)]); (repeat first | rw [if_pos (by omega)] | rw [if_neg (by omega)]); rfl), rfl⟩
      · skip
        refine V.iload_n dX7_wayBy_28 rfl ?_
        refine V.if_leZ 36 dX7_wayBy_29 (by decide) (by omega) (fun hc16 => ?_) (fun hc16 => ?_)
        · skip
          refine V.bipush (v := nI 6) dX7_wayBy_36 (by decide) ?_
          exact V.iret dX7_wayBy_38 rfl ⟨by first | (exfalso; omega) | ((try simp only [wayF]); (repeat rw [if_neg (by omega)]); (repeat first | rw [if_pos (by omega)] | rw [if_neg (by omega)]); rfl), rfl⟩
        · skip
          refine V.iconst (v := nI 2) dX7_wayBy_32 (by decide) ?_
          refine V.goto 38 dX7_wayBy_33 (by decide) ?_
          exact V.iret dX7_wayBy_38 rfl ⟨by first | (exfalso; omega) | ((try simp only [wayF]); (repeat rw [if_neg (by omega)]); (repeat first | rw [if_pos (by omega)] | rw [if_neg (by omega)]); rfl), rfl⟩
    · skip
      refine V.bipush (v := iI (-4)) dX7_wayBy_18 (by decide) ?_
      exact V.iret dX7_wayBy_20 rfl ⟨by first | (exfalso; omega) | ((try simp only [wayF]); (repeat rw [if_neg (by omega)]); (repeat first | rw [if_pos (by omega)] | rw [if_neg (by omega)]); rfl), rfl⟩

set_option maxHeartbeats 1000000 in
theorem e_turned (g : VG) (h : VHp) (told w : Nat) (ht : told < 8) (hw : w < 8) : VE g mX7_turnedOneToward 0 false (0, 0) [.int (nI told), .int (nI w)] h (VP (nI (turnF told w)) h) := by
  refine VE.of (by decide) rfl (Nat.le_of_ble_eq_true rfl) ?_
  show V _ _ 0 [some (.int (nI told)), some (.int (nI w)), none] [] h
  refine V.iload_n dX7_turnedOneToward_0 rfl ?_
  refine V.iload_n dX7_turnedOneToward_1 rfl ?_
  refine V.toZ1 ?_
  refine V.toZ2 ?_
  refine V.isubZ dX7_turnedOneToward_2 ?_
  refine V.bipush (v := nI 8) dX7_turnedOneToward_3 (by decide) ?_
  refine V.toZ1 ?_
  refine V.iaddZ dX7_turnedOneToward_5 ?_
  refine V.re (iI_toN (n := w + 8 - told) (by omega)) ?_
  refine V.bipush (v := nI 8) dX7_turnedOneToward_6 (by decide) ?_
  refine V.iremN dX7_turnedOneToward_8 (by omega) (by omega) (by omega) ?_
  refine V.istore_n (i := 2) dX7_turnedOneToward_9 rfl rfl rfl ?_
  dsimp only [List.set]
  refine V.iload_n dX7_turnedOneToward_10 rfl ?_
  refine V.if_neN 16 dX7_turnedOneToward_11 (by decide) (by omega) (fun hc1 => ?_) (fun hc1 => ?_)
  · skip
    refine V.iload_n dX7_turnedOneToward_16 rfl ?_
    refine V.iconst (v := nI 4) dX7_turnedOneToward_17 (by decide) ?_
    refine V.icmp_gtN 30 dX7_turnedOneToward_18 (by decide) (by omega) (by omega) (fun hc2 => ?_) (fun hc2 => ?_)
    · skip
      refine V.iload_n dX7_turnedOneToward_30 rfl ?_
      refine V.bipush (v := nI 8) dX7_turnedOneToward_31 (by decide) ?_
      refine V.iaddN dX7_turnedOneToward_33 ?_
      refine V.iconst (v := nI 1) dX7_turnedOneToward_34 (by decide) ?_
      refine V.isubN dX7_turnedOneToward_35 (by omega) ?_
      refine V.bipush (v := nI 8) dX7_turnedOneToward_36 (by decide) ?_
      refine V.iremN dX7_turnedOneToward_38 (by omega) (by omega) (by omega) ?_
      refine V.re (show nI ((told + 8 - 1) % 8) = nI ((told + 7) % 8) from rfl) ?_
      exact V.iret dX7_turnedOneToward_39 rfl ⟨by first | (exfalso; omega) | (simp only [turnF]; (repeat first | rw [if_pos (by omega)] | rw [if_neg (by omega)]); try rfl), rfl⟩
    · skip
      refine V.iload_n dX7_turnedOneToward_21 rfl ?_
      refine V.iconst (v := nI 1) dX7_turnedOneToward_22 (by decide) ?_
      refine V.iaddN dX7_turnedOneToward_23 ?_
      refine V.bipush (v := nI 8) dX7_turnedOneToward_24 (by decide) ?_
      refine V.iremN dX7_turnedOneToward_26 (by omega) (by omega) (by omega) ?_
      refine V.goto 39 dX7_turnedOneToward_27 (by decide) ?_
      exact V.iret dX7_turnedOneToward_39 rfl ⟨by first | (exfalso; omega) | (simp only [turnF]; (repeat first | rw [if_pos (by omega)] | rw [if_neg (by omega)]); try rfl), rfl⟩
  · skip
    refine V.iload_n dX7_turnedOneToward_14 rfl ?_
    exact V.iret dX7_turnedOneToward_15 rfl ⟨by first | (exfalso; omega) | (simp only [turnF]; (repeat first | rw [if_pos (by omega)] | rw [if_neg (by omega)]); try rfl), rfl⟩

set_option maxHeartbeats 1000000 in
theorem e_toldNext (g : VG) (h : VHp) (kd told : Nat) (d : Option Nat) (hk : kd < 4) (ht : told < 8) (hd : ∀ w, d = some w → w < 8) : VE g mX7_toldNext 1 false (0, 0) [.int (nI kd), .int (nI told), .int (eO d)] h (VP (nI (nextF kd told d)) h) := by
  cases d with
  | none =>
    refine VE.of (by decide) rfl (Nat.le_of_ble_eq_true rfl) ?_
    show V _ _ 0 [some (.int (nI kd)), some (.int (nI told)), some (.int (iI (-4)))] [] h
    refine V.iload_n dX7_toldNext_0 rfl ?_
    refine V.iconst (v := nI 2) dX7_toldNext_1 (by decide) ?_
    refine V.icmp_neN 12 dX7_toldNext_2 (by decide) (by omega) (by omega) (fun hc1 => ?_) (fun hc1 => ?_)
    · skip
      refine V.iload_n dX7_toldNext_12 rfl ?_
      refine V.bipush (v := iI (-4)) dX7_toldNext_13 (by decide) ?_
      refine V.icmp_neZ 20 dX7_toldNext_15 (by decide) (by omega) (by omega) (fun hc2 => ?_) (fun hc2 => ?_)
      · exact absurd rfl hc2
      · skip
        refine V.iload_n dX7_toldNext_18 rfl ?_
        exact V.iret dX7_toldNext_19 rfl ⟨by first | (exfalso; omega) | (simp only [nextF]; (repeat first | rw [if_pos (by omega)] | rw [if_neg (by omega)]); try rfl), rfl⟩
    · skip
      refine V.iload_n dX7_toldNext_5 rfl ?_
      refine V.iconst (v := nI 1) dX7_toldNext_6 (by decide) ?_
      refine V.iaddN dX7_toldNext_7 ?_
      refine V.bipush (v := nI 8) dX7_toldNext_8 (by decide) ?_
      refine V.iremN dX7_toldNext_10 (by omega) (by omega) (by omega) ?_
      exact V.iret dX7_toldNext_11 rfl ⟨by first | (exfalso; omega) | (simp only [nextF]; (repeat first | rw [if_pos (by omega)] | rw [if_neg (by omega)]); try rfl), rfl⟩
  | some w =>
    have hw : w < 8 := hd w rfl
    refine VE.of (by decide) rfl (Nat.le_of_ble_eq_true rfl) ?_
    show V _ _ 0 [some (.int (nI kd)), some (.int (nI told)), some (.int (nI w))] [] h
    refine V.iload_n dX7_toldNext_0 rfl ?_
    refine V.iconst (v := nI 2) dX7_toldNext_1 (by decide) ?_
    refine V.icmp_neN 12 dX7_toldNext_2 (by decide) (by omega) (by omega) (fun hc1 => ?_) (fun hc1 => ?_)
    · skip
      refine V.iload_n dX7_toldNext_12 rfl ?_
      refine V.bipush (v := iI (-4)) dX7_toldNext_13 (by decide) ?_
      refine V.toZ2 ?_
      refine V.icmp_neZ 20 dX7_toldNext_15 (by decide) (by omega) (by omega) (fun hc2 => ?_) (fun hc2 => ?_)
      · skip
        refine V.iload_n dX7_toldNext_20 rfl ?_
        rcases (show kd = 0 ∨ kd = 1 ∨ kd = 2 ∨ kd = 3 by omega) with hq | hq | hq | hq
        · skip
          subst hq
          refine V.tabIn (off := 31) 52 dX7_toldNext_21 (by decide) (by decide) (by decide) (by decide) ?_
          refine V.iload_n dX7_toldNext_52 rfl ?_
          exact V.iret dX7_toldNext_53 rfl ⟨by first | (exfalso; omega) | (simp only [nextF]; (repeat first | rw [if_pos (by omega)] | rw [if_neg (by omega)]); try rfl), rfl⟩
        · skip
          subst hq
          refine V.tabIn (off := 33) 54 dX7_toldNext_21 (by decide) (by decide) (by decide) (by decide) ?_
          refine V.iload_n dX7_toldNext_54 rfl ?_
          refine V.iload_n dX7_toldNext_55 rfl ?_
          refine V.callSp cX7_265 (e_turned g h told w ht hw) dX7_toldNext_56 (Nat.le_of_ble_eq_true rfl) rfl rfl (Nat.le_of_ble_eq_true rfl) ?_
          exact V.iret dX7_toldNext_59 rfl ⟨by first | (exfalso; omega) | (simp only [nextF]; (repeat first | rw [if_pos (by omega)] | rw [if_neg (by omega)]); try rfl), rfl⟩
        · skip
          subst hq
          refine V.tabIn (off := 46) 67 dX7_toldNext_21 (by decide) (by decide) (by decide) (by decide) ?_
          refine V.iload_n dX7_toldNext_67 rfl ?_
          exact V.iret dX7_toldNext_68 rfl ⟨by first | (exfalso; omega) | (simp only [nextF]; (repeat first | rw [if_pos (by omega)] | rw [if_neg (by omega)]); try rfl), rfl⟩
        · skip
          subst hq
          refine V.tabIn (off := 39) 60 dX7_toldNext_21 (by decide) (by decide) (by decide) (by decide) ?_
          refine V.iload_n dX7_toldNext_60 rfl ?_
          refine V.iconst (v := nI 4) dX7_toldNext_61 (by decide) ?_
          refine V.iaddN dX7_toldNext_62 ?_
          refine V.bipush (v := nI 8) dX7_toldNext_63 (by decide) ?_
          refine V.iremN dX7_toldNext_65 (by omega) (by omega) (by omega) ?_
          exact V.iret dX7_toldNext_66 rfl ⟨by first | (exfalso; omega) | (simp only [nextF]; (repeat first | rw [if_pos (by omega)] | rw [if_neg (by omega)]); try rfl), rfl⟩
      · exact absurd hc2 (by omega)
    · skip
      refine V.iload_n dX7_toldNext_5 rfl ?_
      refine V.iconst (v := nI 1) dX7_toldNext_6 (by decide) ?_
      refine V.iaddN dX7_toldNext_7 ?_
      refine V.bipush (v := nI 8) dX7_toldNext_8 (by decide) ?_
      refine V.iremN dX7_toldNext_10 (by omega) (by omega) (by omega) ?_
      exact V.iret dX7_toldNext_11 rfl ⟨by first | (exfalso; omega) | (simp only [nextF]; (repeat first | rw [if_pos (by omega)] | rw [if_neg (by omega)]); try rfl), rfl⟩

set_option maxHeartbeats 1000000 in
theorem e_toldBehind (g : VG) (h : VHp) (kd told : Nat) (d : Option Nat) (n : Nat) (hk : kd < 4) (ht : told < 8) (hd : ∀ w, d = some w → w < 8) (hn : n < 1000) : VE g mX7_toldBehind 2 false (0, 0) [.int (nI kd), .int (nI told), .int (eO d), .int (nI n)] h (VP (nI (itF kd d told n)) h) := by
  refine VE.of (by decide) rfl (Nat.le_of_ble_eq_true rfl) ?_
  have L : ∀ i, i ≤ n → V (g, mX7_toldBehind, 2, false, h.length, VP (nI (itF kd d told n)) h) (0, 0) 6 [some (.int (nI kd)), some (.int (nI told)), some (.int (eO d)), some (.int (nI n)), some (.int (nI (itF kd d told i))), some (.int (nI i))] [] h := by
    refine vloop (n) (fun i ih hi => ?_)
    refine V.iload dX7_toldBehind_6 rfl ?_
    refine V.iload_n dX7_toldBehind_8 rfl ?_
    refine V.icmp_geN 27 dX7_toldBehind_9 (by decide) (by omega) (by omega) (fun hc1 => ?_) (fun hc1 => ?_)
    · skip
      refine V.iload dX7_toldBehind_27 rfl ?_
      exact V.iret dX7_toldBehind_29 rfl ⟨by first | (exfalso; omega) | (obtain rfl : i = n := (by omega); rfl), rfl⟩
    · skip
      refine V.iload_n dX7_toldBehind_12 rfl ?_
      refine V.iload dX7_toldBehind_13 rfl ?_
      refine V.iload_n dX7_toldBehind_15 rfl ?_
      refine V.callSp cX7_268 (e_toldNext g h kd (itF kd d told i) d hk (itF_lt ht hd i) hd) dX7_toldBehind_16 (Nat.le_of_ble_eq_true rfl) rfl rfl (Nat.le_of_ble_eq_true rfl) ?_
      refine V.istore dX7_toldBehind_19 rfl rfl ?_
      dsimp only [List.set]
      refine V.iincN (n := 1) dX7_toldBehind_21 rfl rfl rfl ?_
      dsimp only [List.set]
      refine V.goto 6 dX7_toldBehind_24 (by decide) ?_
      exact ih (i + 1) (by omega) (by omega)
  show V _ _ 0 [some (.int (nI kd)), some (.int (nI told)), some (.int (eO d)), some (.int (nI n)), none, none] [] h
  refine V.iload_n dX7_toldBehind_0 rfl ?_
  refine V.istore dX7_toldBehind_1 rfl rfl ?_
  dsimp only [List.set]
  refine V.iconst (v := nI 0) dX7_toldBehind_3 (by decide) ?_
  refine V.istore dX7_toldBehind_4 rfl rfl ?_
  dsimp only [List.set]
  exact L 0 (by omega)

set_option maxHeartbeats 1000000 in
theorem e_leaningOf (g : VG) (h : VHp) (r : Nat) (S : Rm) (hR : RoomAt h r S) (hB : RmB S) (a b : Nat) (ha : a < 6) (hb : b < 6) : VE g mX3_leaningOf 0 false (0, 0) [.ref r, .int (nI a), .int (nI b)] h (VP (iI (rL S a b)) h) := by
  obtain ⟨kd, xs, ys, vs, ll, ho, hk, hx, hy, hv, hl, lk, lx, ly, lv, lL, ek, ex, ey, ev, eL⟩ := hR
  obtain ⟨bn, bW, bH, bP, bL⟩ := id hB
  refine VE.of (by decide) rfl (Nat.le_of_ble_eq_true rfl) ?_
  show V _ _ 0 [some (.ref r), some (.int (nI a)), some (.int (nI b))] [] h
  refine V.aload_n dX3_leaningOf_0 rfl ?_
  refine V.get fX3_24 dX3_leaningOf_1 ho rfl ?_
  refine V.bipush (v := nI 6) dX3_leaningOf_4 (by decide) ?_
  refine V.iload_n dX3_leaningOf_6 rfl ?_
  refine V.imulN dX3_leaningOf_7 ?_
  refine V.iload_n dX3_leaningOf_8 rfl ?_
  refine V.iaddN dX3_leaningOf_9 ?_
  refine V.iald dX3_leaningOf_10 hl rfl (by omega) (eL _ _ (by omega) (by omega)) ?_
  exact V.iret dX3_leaningOf_11 rfl ⟨by first | (exfalso; omega) | (rfl), rfl⟩

set_option maxHeartbeats 1000000 in
theorem e_whoIsAt (g : VG) (h : VHp) (r : Nat) (S : Rm) (hR : RoomAt h r S) (hB : RmB S) (x y : Nat) (hx0 : x < 100) (hy0 : y < 100) : VE g mX3_whoIsAt 0 false (0, 0) [.ref r, .int (nI x), .int (nI y)] h (VP (eO (whoF S x y (rN S))) h) := by
  obtain ⟨kd, xs, ys, vs, ll, ho, hk, hx, hy, hv, hl, lk, lx, ly, lv, lL, ek, ex, ey, ev, eL⟩ := hR
  obtain ⟨bn, bW, bH, bP, bL⟩ := id hB
  refine VE.of (by decide) rfl (Nat.le_of_ble_eq_true rfl) ?_
  have L : ∀ i, i ≤ rN S → whoF S x y i = none → V (g, mX3_whoIsAt, 0, false, h.length, VP (eO (whoF S x y (rN S))) h) (0, 0) 2 [some (.ref r), some (.int (nI x)), some (.int (nI y)), some (.int (nI i))] [] h := by
    refine vloop (rN S) (fun i ih hi => ?_)
    intro hw
    refine V.iload_n dX3_whoIsAt_2 rfl ?_
    refine V.aload_n dX3_whoIsAt_3 rfl ?_
    refine V.get fX3_34 dX3_whoIsAt_4 ho rfl ?_
    refine V.icmp_geN 38 dX3_whoIsAt_7 (by decide) (by omega) (by omega) (fun hc1 => ?_) (fun hc1 => ?_)
    · skip
      refine V.bipush (v := iI (-4)) dX3_whoIsAt_38 (by decide) ?_
      exact V.iret dX3_whoIsAt_40 rfl ⟨by obtain rfl : i = rN S := (by omega); rw [hw]; rfl, rfl⟩
    · skip
      have bi := bP i hc1
      refine V.aload_n dX3_whoIsAt_10 rfl ?_
      refine V.get fX3_15 dX3_whoIsAt_11 ho rfl ?_
      refine V.iload_n dX3_whoIsAt_14 rfl ?_
      refine V.iald dX3_whoIsAt_15 hx rfl (by omega) (ex _ (by omega)) ?_
      refine V.iload_n dX3_whoIsAt_16 rfl ?_
      refine V.icmp_neN 32 dX3_whoIsAt_17 (by decide) (by omega) (by omega) (fun hc2 => ?_) (fun hc2 => ?_)
      · skip
        refine V.iincN (n := 1) dX3_whoIsAt_32 rfl rfl rfl ?_
        dsimp only [List.set]
        refine V.goto 2 dX3_whoIsAt_35 (by decide) ?_
        exact ih (i + 1) (by omega) (by omega) (by simp only [whoF, hw]; rw [if_neg (by omega)])
      · skip
        refine V.aload_n dX3_whoIsAt_20 rfl ?_
        refine V.get fX3_18 dX3_whoIsAt_21 ho rfl ?_
        refine V.iload_n dX3_whoIsAt_24 rfl ?_
        refine V.iald dX3_whoIsAt_25 hy rfl (by omega) (ey _ (by omega)) ?_
        refine V.iload_n dX3_whoIsAt_26 rfl ?_
        refine V.icmp_neN 32 dX3_whoIsAt_27 (by decide) (by omega) (by omega) (fun hc3 => ?_) (fun hc3 => ?_)
        · skip
          refine V.iincN (n := 1) dX3_whoIsAt_32 rfl rfl rfl ?_
          dsimp only [List.set]
          refine V.goto 2 dX3_whoIsAt_35 (by decide) ?_
          exact ih (i + 1) (by omega) (by omega) (by simp only [whoF, hw]; rw [if_neg (by omega)])
        · skip
          refine V.iload_n dX3_whoIsAt_30 rfl ?_
          exact V.iret dX3_whoIsAt_31 rfl ⟨by rw [whoF_some hw (by omega) _ (by omega)]; rfl, rfl⟩
  show V _ _ 0 [some (.ref r), some (.int (nI x)), some (.int (nI y)), none] [] h
  refine V.iconst (v := nI 0) dX3_whoIsAt_0 (by decide) ?_
  refine V.istore_n (i := 3) dX3_whoIsAt_1 rfl rfl rfl ?_
  dsimp only [List.set]
  exact L 0 (by omega) rfl

set_option maxHeartbeats 1000000 in
theorem e_pull (g : VG) (h : VHp) (r : Nat) (S : Rm) (hR : RoomAt h r S) (hB : RmB S) (p q : Nat) (hp : p < rN S) (hq : q < rN S) : VE g mX3_pull 1 false (0, 0) [.ref r, .int (nI p), .int (nI q)] h (VP (iI (pullF S p q)) h) := by
  obtain ⟨kd, xs, ys, vs, ll, ho, hk, hx, hy, hv, hl, lk, lx, ly, lv, lL, ek, ex, ey, ev, eL⟩ := id hR
  obtain ⟨bn, bW, bH, bP, bL⟩ := id hB
  have bp := bP p hp
  have bq := bP q hq
  refine VE.of (by decide) rfl (Nat.le_of_ble_eq_true rfl) ?_
  show V _ _ 0 [some (.ref r), some (.int (nI p)), some (.int (nI q)), none] [] h
  refine V.aload_n dX3_pull_0 rfl ?_
  refine V.get fX3_15 dX3_pull_1 ho rfl ?_
  refine V.iload_n dX3_pull_4 rfl ?_
  refine V.iald dX3_pull_5 hx rfl (by omega) (ex _ (by omega)) ?_
  refine V.aload_n dX3_pull_6 rfl ?_
  refine V.get fX3_15 dX3_pull_7 ho rfl ?_
  refine V.iload_n dX3_pull_10 rfl ?_
  refine V.iald dX3_pull_11 hx rfl (by omega) (ex _ (by omega)) ?_
  refine V.toZ1 ?_
  refine V.toZ2 ?_
  refine V.isubZ dX3_pull_12 ?_
  refine V.mabs jX3_74 dX3_pull_13 (Nat.le_of_ble_eq_true rfl) (Nat.le_of_ble_eq_true rfl) ?_
  refine V.re (iI_abs (by omega)) ?_
  refine V.aload_n dX3_pull_16 rfl ?_
  refine V.get fX3_18 dX3_pull_17 ho rfl ?_
  refine V.iload_n dX3_pull_20 rfl ?_
  refine V.iald dX3_pull_21 hy rfl (by omega) (ey _ (by omega)) ?_
  refine V.aload_n dX3_pull_22 rfl ?_
  refine V.get fX3_18 dX3_pull_23 ho rfl ?_
  refine V.iload_n dX3_pull_26 rfl ?_
  refine V.iald dX3_pull_27 hy rfl (by omega) (ey _ (by omega)) ?_
  refine V.toZ1 ?_
  refine V.toZ2 ?_
  refine V.isubZ dX3_pull_28 ?_
  refine V.mabs jX3_74 dX3_pull_29 (Nat.le_of_ble_eq_true rfl) (Nat.le_of_ble_eq_true rfl) ?_
  refine V.re (iI_abs (by omega)) ?_
  refine V.iaddZ dX3_pull_32 ?_
  refine V.istore_n (i := 3) dX3_pull_33 rfl rfl rfl ?_
  dsimp only [List.set]
  refine V.iload_n dX3_pull_34 rfl ?_
  refine V.bipush (v := nI 12) dX3_pull_35 (by decide) ?_
  refine V.toZ1 ?_
  refine V.icmp_ltZ 44 dX3_pull_37 (by decide) (by omega) (by omega) (fun hc1 => ?_) (fun hc1 => ?_)
  · skip
    refine V.aload_n dX3_pull_44 rfl ?_
    refine V.iload_n dX3_pull_45 rfl ?_
    refine V.iload_n dX3_pull_46 rfl ?_
    refine V.callVp (ci := 3) cX3_80 (e_leaningOf g h r S hR hB p q (by omega) (by omega)) dX3_pull_47 (Nat.le_of_ble_eq_true rfl) rfl ho rfl rfl (Nat.le_of_ble_eq_true rfl) ?_
    refine V.bipush (v := nI 12) dX3_pull_50 (by decide) ?_
    refine V.iload_n dX3_pull_52 rfl ?_
    refine V.toZ2 ?_
    refine V.isubZ dX3_pull_53 ?_
    refine V.imulZ dX3_pull_54 ?_
    exact V.iret dX3_pull_55 rfl ⟨by first | (exfalso; omega) | (first | (rw [pull_eq (S := S) (p := p) (q := q) (by omega)]; try rfl) | (rw [pull_zero (S := S) (p := p) (q := q) (by omega)]; exact congrArg _ (congrArg _ (iI_nat 0).symm))), rfl⟩
  · skip
    refine V.iconst (v := nI 0) dX3_pull_40 (by decide) ?_
    refine V.goto 55 dX3_pull_41 (by decide) ?_
    exact V.iret dX3_pull_55 rfl ⟨by first | (exfalso; omega) | (first | (rw [pull_eq (S := S) (p := p) (q := q) (by omega)]; try rfl) | (rw [pull_zero (S := S) (p := p) (q := q) (by omega)]; exact congrArg _ (congrArg _ (iI_nat 0).symm))), rfl⟩

set_option maxHeartbeats 1000000 in
theorem e_feltEast (g : VG) (h : VHp) (r : Nat) (S : Rm) (hR : RoomAt h r S) (hB : RmB S) (p m : Nat) (hp : p < rN S) (hm : m < 64) : VE g mX3_feltEast 2 false (0, 0) [.ref r, .int (nI p), .int (nI m)] h (VP (iI (feltE S p m (rN S))) h) := by
  obtain ⟨kd, xs, ys, vs, ll, ho, hk, hx, hy, hv, hl, lk, lx, ly, lv, lL, ek, ex, ey, ev, eL⟩ := id hR
  obtain ⟨bn, bW, bH, bP, bL⟩ := id hB
  have bp := bP p hp
  refine VE.of (by decide) rfl (Nat.le_of_ble_eq_true rfl) ?_
  have L : ∀ q, q ≤ rN S → V (g, mX3_feltEast, 2, false, h.length, VP (iI (feltE S p m (rN S))) h) (0, 0) 5 [some (.ref r), some (.int (nI p)), some (.int (nI m)), some (.int (iI (feltE S p m q))), some (.int (nI q))] [] h := by
    refine vloop (rN S) (fun q ih hi => ?_)
    refine V.iload dX3_feltEast_5 rfl ?_
    refine V.aload_n dX3_feltEast_7 rfl ?_
    refine V.get fX3_34 dX3_feltEast_8 ho rfl ?_
    refine V.icmp_geN 61 dX3_feltEast_11 (by decide) (by omega) (by omega) (fun hc1 => ?_) (fun hc1 => ?_)
    · skip
      refine V.iload_n dX3_feltEast_61 rfl ?_
      exact V.iret dX3_feltEast_62 rfl ⟨by first | (exfalso; omega) | (obtain rfl : q = rN S := (by omega); rfl), rfl⟩
    · skip
      have bq := bP q hc1
      refine V.iload dX3_feltEast_14 rfl ?_
      refine V.iload_n dX3_feltEast_16 rfl ?_
      refine V.icmp_eqN 55 dX3_feltEast_17 (by decide) (by omega) (by omega) (fun hc2 => ?_) (fun hc2 => ?_)
      · skip
        refine V.iincN (n := 1) dX3_feltEast_55 rfl rfl rfl ?_
        dsimp only [List.set]
        refine V.goto 5 dX3_feltEast_58 (by decide) ?_
        have z := ih (q + 1) (by omega) (by omega)
        simp only [feltE] at z
        first | (rw [if_pos (by omega)] at z; exact z) | (rw [if_neg (by omega), Int.add_zero] at z; exact z)
      · skip
        refine V.iload_n dX3_feltEast_20 rfl ?_
        refine V.iload dX3_feltEast_21 rfl ?_
        refine V.ishrN dX3_feltEast_23 (by omega) (by omega) ?_
        refine V.iconst (v := nI 1) dX3_feltEast_24 (by decide) ?_
        refine V.iand1N dX3_feltEast_25 (Nat.lt_of_le_of_lt (Nat.div_le_self _ _) (by omega)) ?_
        refine V.iconst (v := nI 1) dX3_feltEast_26 (by decide) ?_
        refine V.icmp_neN 55 dX3_feltEast_27 (by decide) (by omega) (by omega) (fun hc3 => ?_) (fun hc3 => ?_)
        · skip
          refine V.iincN (n := 1) dX3_feltEast_55 rfl rfl rfl ?_
          dsimp only [List.set]
          refine V.goto 5 dX3_feltEast_58 (by decide) ?_
          have z := ih (q + 1) (by omega) (by omega)
          simp only [feltE] at z
          first | (rw [if_pos (by omega)] at z; exact z) | (rw [if_neg (by omega), Int.add_zero] at z; exact z)
        · skip
          refine V.iload_n dX3_feltEast_30 rfl ?_
          refine V.aload_n dX3_feltEast_31 rfl ?_
          refine V.iload_n dX3_feltEast_32 rfl ?_
          refine V.iload dX3_feltEast_33 rfl ?_
          refine V.callVp (ci := 3) cX3_83 (e_pull g h r S hR hB p q hp (by omega)) dX3_feltEast_35 (Nat.le_of_ble_eq_true rfl) rfl ho rfl rfl (Nat.le_of_ble_eq_true rfl) ?_
          refine V.aload_n dX3_feltEast_38 rfl ?_
          refine V.get fX3_15 dX3_feltEast_39 ho rfl ?_
          refine V.iload dX3_feltEast_42 rfl ?_
          refine V.iald dX3_feltEast_44 hx rfl (by omega) (ex _ (by omega)) ?_
          refine V.aload_n dX3_feltEast_45 rfl ?_
          refine V.get fX3_15 dX3_feltEast_46 ho rfl ?_
          refine V.iload_n dX3_feltEast_49 rfl ?_
          refine V.iald dX3_feltEast_50 hx rfl (by omega) (ex _ (by omega)) ?_
          refine V.toZ1 ?_
          refine V.toZ2 ?_
          refine V.isubZ dX3_feltEast_51 ?_
          refine V.imulZ dX3_feltEast_52 ?_
          refine V.iaddZ dX3_feltEast_53 ?_
          refine V.istore_n (i := 3) dX3_feltEast_54 rfl rfl rfl ?_
          dsimp only [List.set]
          refine V.iincN (n := 1) dX3_feltEast_55 rfl rfl rfl ?_
          dsimp only [List.set]
          refine V.goto 5 dX3_feltEast_58 (by decide) ?_
          have z := ih (q + 1) (by omega) (by omega)
          simp only [feltE] at z
          first | (rw [if_pos (by omega)] at z; exact z) | (rw [if_neg (by omega), Int.add_zero] at z; exact z)
  show V _ _ 0 [some (.ref r), some (.int (nI p)), some (.int (nI m)), none, none] [] h
  refine V.iconst (v := nI 0) dX3_feltEast_0 (by decide) ?_
  refine V.istore_n (i := 3) dX3_feltEast_1 rfl rfl rfl ?_
  dsimp only [List.set]
  refine V.iconst (v := nI 0) dX3_feltEast_2 (by decide) ?_
  refine V.istore dX3_feltEast_3 rfl rfl ?_
  dsimp only [List.set]
  exact L 0 (by omega)

set_option maxHeartbeats 1000000 in
theorem e_feltSouth (g : VG) (h : VHp) (r : Nat) (S : Rm) (hR : RoomAt h r S) (hB : RmB S) (p m : Nat) (hp : p < rN S) (hm : m < 64) : VE g mX3_feltSouth 2 false (0, 0) [.ref r, .int (nI p), .int (nI m)] h (VP (iI (feltS S p m (rN S))) h) := by
  obtain ⟨kd, xs, ys, vs, ll, ho, hk, hx, hy, hv, hl, lk, lx, ly, lv, lL, ek, ex, ey, ev, eL⟩ := id hR
  obtain ⟨bn, bW, bH, bP, bL⟩ := id hB
  have bp := bP p hp
  refine VE.of (by decide) rfl (Nat.le_of_ble_eq_true rfl) ?_
  have L : ∀ q, q ≤ rN S → V (g, mX3_feltSouth, 2, false, h.length, VP (iI (feltS S p m (rN S))) h) (0, 0) 5 [some (.ref r), some (.int (nI p)), some (.int (nI m)), some (.int (iI (feltS S p m q))), some (.int (nI q))] [] h := by
    refine vloop (rN S) (fun q ih hi => ?_)
    refine V.iload dX3_feltSouth_5 rfl ?_
    refine V.aload_n dX3_feltSouth_7 rfl ?_
    refine V.get fX3_34 dX3_feltSouth_8 ho rfl ?_
    refine V.icmp_geN 61 dX3_feltSouth_11 (by decide) (by omega) (by omega) (fun hc1 => ?_) (fun hc1 => ?_)
    · skip
      refine V.iload_n dX3_feltSouth_61 rfl ?_
      exact V.iret dX3_feltSouth_62 rfl ⟨by first | (exfalso; omega) | (obtain rfl : q = rN S := (by omega); rfl), rfl⟩
    · skip
      have bq := bP q hc1
      refine V.iload dX3_feltSouth_14 rfl ?_
      refine V.iload_n dX3_feltSouth_16 rfl ?_
      refine V.icmp_eqN 55 dX3_feltSouth_17 (by decide) (by omega) (by omega) (fun hc2 => ?_) (fun hc2 => ?_)
      · skip
        refine V.iincN (n := 1) dX3_feltSouth_55 rfl rfl rfl ?_
        dsimp only [List.set]
        refine V.goto 5 dX3_feltSouth_58 (by decide) ?_
        have z := ih (q + 1) (by omega) (by omega)
        simp only [feltS] at z
        first | (rw [if_pos (by omega)] at z; exact z) | (rw [if_neg (by omega), Int.add_zero] at z; exact z)
      · skip
        refine V.iload_n dX3_feltSouth_20 rfl ?_
        refine V.iload dX3_feltSouth_21 rfl ?_
        refine V.ishrN dX3_feltSouth_23 (by omega) (by omega) ?_
        refine V.iconst (v := nI 1) dX3_feltSouth_24 (by decide) ?_
        refine V.iand1N dX3_feltSouth_25 (Nat.lt_of_le_of_lt (Nat.div_le_self _ _) (by omega)) ?_
        refine V.iconst (v := nI 1) dX3_feltSouth_26 (by decide) ?_
        refine V.icmp_neN 55 dX3_feltSouth_27 (by decide) (by omega) (by omega) (fun hc3 => ?_) (fun hc3 => ?_)
        · skip
          refine V.iincN (n := 1) dX3_feltSouth_55 rfl rfl rfl ?_
          dsimp only [List.set]
          refine V.goto 5 dX3_feltSouth_58 (by decide) ?_
          have z := ih (q + 1) (by omega) (by omega)
          simp only [feltS] at z
          first | (rw [if_pos (by omega)] at z; exact z) | (rw [if_neg (by omega), Int.add_zero] at z; exact z)
        · skip
          refine V.iload_n dX3_feltSouth_30 rfl ?_
          refine V.aload_n dX3_feltSouth_31 rfl ?_
          refine V.iload_n dX3_feltSouth_32 rfl ?_
          refine V.iload dX3_feltSouth_33 rfl ?_
          refine V.callVp (ci := 3) cX3_83 (e_pull g h r S hR hB p q hp (by omega)) dX3_feltSouth_35 (Nat.le_of_ble_eq_true rfl) rfl ho rfl rfl (Nat.le_of_ble_eq_true rfl) ?_
          refine V.aload_n dX3_feltSouth_38 rfl ?_
          refine V.get fX3_18 dX3_feltSouth_39 ho rfl ?_
          refine V.iload dX3_feltSouth_42 rfl ?_
          refine V.iald dX3_feltSouth_44 hy rfl (by omega) (ey _ (by omega)) ?_
          refine V.aload_n dX3_feltSouth_45 rfl ?_
          refine V.get fX3_18 dX3_feltSouth_46 ho rfl ?_
          refine V.iload_n dX3_feltSouth_49 rfl ?_
          refine V.iald dX3_feltSouth_50 hy rfl (by omega) (ey _ (by omega)) ?_
          refine V.toZ1 ?_
          refine V.toZ2 ?_
          refine V.isubZ dX3_feltSouth_51 ?_
          refine V.imulZ dX3_feltSouth_52 ?_
          refine V.iaddZ dX3_feltSouth_53 ?_
          refine V.istore_n (i := 3) dX3_feltSouth_54 rfl rfl rfl ?_
          dsimp only [List.set]
          refine V.iincN (n := 1) dX3_feltSouth_55 rfl rfl rfl ?_
          dsimp only [List.set]
          refine V.goto 5 dX3_feltSouth_58 (by decide) ?_
          have z := ih (q + 1) (by omega) (by omega)
          simp only [feltS] at z
          first | (rw [if_pos (by omega)] at z; exact z) | (rw [if_neg (by omega), Int.add_zero] at z; exact z)
  show V _ _ 0 [some (.ref r), some (.int (nI p)), some (.int (nI m)), none, none] [] h
  refine V.iconst (v := nI 0) dX3_feltSouth_0 (by decide) ?_
  refine V.istore_n (i := 3) dX3_feltSouth_1 rfl rfl rfl ?_
  dsimp only [List.set]
  refine V.iconst (v := nI 0) dX3_feltSouth_2 (by decide) ?_
  refine V.istore dX3_feltSouth_3 rfl rfl ?_
  dsimp only [List.set]
  exact L 0 (by omega)

set_option maxHeartbeats 1000000 in
theorem e_draftAmong (g : VG) (h : VHp) (r : Nat) (S : Rm) (hR : RoomAt h r S) (hB : RmB S) (p m : Nat) (hp : p < rN S) (hm : m < 64) : VE g mX3_draftAmong 3 false (0, 0) [.ref r, .int (nI p), .int (nI m)] h (VP (eO (draftM S p m)) h) := by
  obtain ⟨kd, xs, ys, vs, ll, ho, hk, hx, hy, hv, hl, lk, lx, ly, lv, lL, ek, ex, ey, ev, eL⟩ := id hR
  obtain ⟨bn, bW, bH, bP, bL⟩ := id hB
  have bf := felt_bd hB (m := m) hp (rN S) (Nat.le_refl _)
  refine VE.of (by decide) rfl (Nat.le_of_ble_eq_true rfl) ?_
  show V _ _ 0 [some (.ref r), some (.int (nI p)), some (.int (nI m))] [] h
  refine V.aload_n dX3_draftAmong_0 rfl ?_
  refine V.iload_n dX3_draftAmong_1 rfl ?_
  refine V.iload_n dX3_draftAmong_2 rfl ?_
  refine V.callVp (ci := 3) cX3_86 (e_feltEast g h r S hR hB p m hp hm) dX3_draftAmong_3 (Nat.le_of_ble_eq_true rfl) rfl ho rfl rfl (Nat.le_of_ble_eq_true rfl) ?_
  refine V.aload_n dX3_draftAmong_6 rfl ?_
  refine V.iload_n dX3_draftAmong_7 rfl ?_
  refine V.iload_n dX3_draftAmong_8 rfl ?_
  refine V.callVp (ci := 3) cX3_89 (e_feltSouth g h r S hR hB p m hp hm) dX3_draftAmong_9 (Nat.le_of_ble_eq_true rfl) rfl ho rfl rfl (Nat.le_of_ble_eq_true rfl) ?_
  refine V.callSp cX3_92 (e_wayBy g h _ _ (by omega) (by omega)) dX3_draftAmong_12 (Nat.le_of_ble_eq_true rfl) rfl rfl (Nat.le_of_ble_eq_true rfl) ?_
  exact V.iret dX3_draftAmong_15 rfl ⟨by first | (exfalso; omega) | (rfl), rfl⟩

set_option maxHeartbeats 1000000 in
theorem e_draft (g : VG) (h : VHp) (r : Nat) (S : Rm) (hR : RoomAt h r S) (hB : RmB S) (p : Nat) (hp : p < rN S) : VE g mX3_draft 4 false (0, 0) [.ref r, .int (nI p)] h (VP (eO (draftF S p)) h) := by
  obtain ⟨kd, xs, ys, vs, ll, ho, hk, hx, hy, hv, hl, lk, lx, ly, lv, lL, ek, ex, ey, ev, eL⟩ := id hR
  obtain ⟨bn, bW, bH, bP, bL⟩ := id hB
  refine VE.of (by decide) rfl (Nat.le_of_ble_eq_true rfl) ?_
  show V _ _ 0 [some (.ref r), some (.int (nI p))] [] h
  refine V.aload_n dX3_draft_0 rfl ?_
  refine V.iload_n dX3_draft_1 rfl ?_
  refine V.bipush (v := nI 63) dX3_draft_2 (by decide) ?_
  refine V.callVp (ci := 3) cX3_95 (e_draftAmong g h r S hR hB p 63 hp (by omega)) dX3_draft_4 (Nat.le_of_ble_eq_true rfl) rfl ho rfl rfl (Nat.le_of_ble_eq_true rfl) ?_
  exact V.iret dX3_draft_7 rfl ⟨by first | (exfalso; omega) | (rfl), rfl⟩
