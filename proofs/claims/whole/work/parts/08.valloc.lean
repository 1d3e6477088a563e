/-! the JDK's small ones, statics, making things -/
section VJdk
variable {k : VK} {b : Nat × Nat} {pc : Nat} {ls : List (Option Value)} {st : List Value} {h : VHp}
theorem vrm {R : Room} {d x : Nat} (h1 : 1 ≤ d) (h2 : 80 * d ≤ R.locals) (h3 : x ≤ 80) : x ≤ R.locals := by omega
theorem V.mabs {idx : Nat} {x : Int32} (hw : Cond.methodLink k.2.1.1.cls idx Lib.Math.abs.name ∈ vtS ∧ Cond.static Lib.Math.abs.name ∈ vtS ∧ Cond.initialized "java/lang/Math" ∈ vtS ∧ Cond.code Lib.Math.abs.name Lib.Math.abs.code 1 (some .int) ∈ vtS) (hd : decode k.2.1.2.1 pc = .ok (.invokestatic idx, 3)) (hdp : 1 ≤ k.2.2.1) (hsz : (st.map fun v => v.category).sum ≤ 8) (kk : V k b (pc + 3) ls (.int (if 0 ≤ x then x else 0 - x) :: st) h) : V k b pc ls (.int x :: st) h := by
  intro p e R s m args below meth c Q A ad0 F ad H locs cells slots lsr r
  have hts := F.1.2.2.2.2.1
  exact va_mabs F.1.1 F.1.2.1 (F.1.2.2.1.trans r.2.2.2.2.1.2.1.symm) F.1.2.2.2.1 (hts _ hw.1) (hts _ hw.2.1) (hts _ hw.2.2.1) (hts _ hw.2.2.2) (Nat.le_trans hdp F.2.1) (vrm hdp F.2.2.1 (by have := vcat (ad := ad) hsz; omega)) (Nat.le_trans (Nat.le_add_right _ _) r.2.2.2.2.2.1) (Nat.le_trans (Nat.le_add_right _ _) r.2.2.2.2.2.2.1) hd (kk p e R s m args below meth c Q A ad0 F ad H locs cells slots lsr r)
theorem V.mmin {idx : Nat} {x y : Int32} (hw : Cond.methodLink k.2.1.1.cls idx Lib.Math.min.name ∈ vtS ∧ Cond.static Lib.Math.min.name ∈ vtS ∧ Cond.initialized "java/lang/Math" ∈ vtS ∧ Cond.code Lib.Math.min.name Lib.Math.min.code 2 (some .int) ∈ vtS) (hd : decode k.2.1.2.1 pc = .ok (.invokestatic idx, 3)) (hdp : 1 ≤ k.2.2.1) (hsz : (st.map fun v => v.category).sum ≤ 8) (kk : V k b (pc + 3) ls (.int (if y < x then y else x) :: st) h) : V k b pc ls (.int y :: .int x :: st) h := by
  intro p e R s m args below meth c Q A ad0 F ad H locs cells slots lsr r
  have hts := F.1.2.2.2.2.1
  exact va_mmin F.1.1 F.1.2.1 (F.1.2.2.1.trans r.2.2.2.2.1.2.1.symm) F.1.2.2.2.1 (hts _ hw.1) (hts _ hw.2.1) (hts _ hw.2.2.1) (hts _ hw.2.2.2) (Nat.le_trans hdp F.2.1) (vrm hdp F.2.2.1 (by have := vcat (ad := ad) hsz; omega)) (Nat.le_trans (Nat.le_add_right _ _) r.2.2.2.2.2.1) (Nat.le_trans (Nat.le_add_right _ _) r.2.2.2.2.2.2.1) hd (kk p e R s m args below meth c Q A ad0 F ad H locs cells slots lsr r)
theorem vnfw : nativeFrameWords "java/lang/System" "arraycopy" 5 + 11 ≤ 60 := by decide +kernel
/-- arraycopy of whole int arrays of one length -/
theorem V.copy {idx n a0 a1 : Nat} {xs ys : List Int32} {i : Int32} (hw : Cond.methodLink k.2.1.1.cls idx arraycopyName ∈ vtS ∧ Cond.native arraycopyName ∈ vtS ∧ Cond.static arraycopyName ∈ vtS ∧ Cond.initialized "java/lang/System" ∈ vtS) (hd : decode k.2.1.2.1 pc = .ok (.invokestatic idx, 3)) (hdp : 1 ≤ k.2.2.1) (hsz : (st.map fun v => v.category).sum ≤ 8) (h0 : h[a0]? = some (.inl xs)) (h1 : h[a1]? = some (.inl ys)) (l0 : xs.length = n) (l1 : ys.length = n) (hi : i = nI n) (hn : n < 2147483648) (kk : V k b (pc + 3) ls st (h.set a1 (.inl xs))) : V k b pc ls (.int i :: .int 0 :: .ref a1 :: .int 0 :: .ref a0 :: st) h := by
  intro p e R s m args below meth c Q A ad0 F ad H locs cells slots lsr r
  have hts := F.1.2.2.2.2.1
  have hW := r.2.2.1
  obtain ⟨⟨tys, t1, t2⟩, hP, hD⟩ := r.2.2.1
  obtain ⟨t0, ht0⟩ := List.getElem?_of_mem ((t2 a0).1 xs h0)
  obtain ⟨t9, ht9⟩ := List.getElem?_of_mem ((t2 a1).1 ys h1)
  have hcl : i.toNatClampNeg = n := by rw [hi]; exact nI_clamp hn
  have hz : (0 : Int32).toNatClampNeg = 0 := by decide
  refine va_copyi (D := k.1.2.1) (cl := vwCl) (ty := .int) F.1.1 F.1.2.1 (F.1.2.2.1.trans r.2.2.2.2.1.2.1.symm) F.1.2.2.2.1 (hts _ hw.1) (hts _ hw.2.1) (hts _ hw.2.2.1) (hts _ hw.2.2.2) t1 hP hD r.2.2.2.1 a0 a1 t0 t9 (vws_get (ad := ad) h0) (vws_get (ad := ad) h1) ht0 ht9 rfl (by decide) (by decide) (by rw [hi]; exact nI_pos hn) (by rw [hcl, hz]; omega) (by rw [hcl, hz]; omega) (fun _ _ => rfl) (Nat.le_trans hdp F.2.1) (vrm hdp F.2.2.1 (by have := vcat (ad := ad) hsz; have := vnfw; omega)) hd (fun H1 locs1 hP1 hD1 hS1 => ?_)
  have em : (va_cpy (fun j => xs.getD j 0) (fun j => ys.getD j 0) (0 : Int32).toNatClampNeg (0 : Int32).toNatClampNeg i.toNatClampNeg) = fun q => xs.getD q 0 := by
    funext q
    rw [hcl, hz]
    simp only [va_cpy]
    split
    next hq => simp
    next hq =>
      have : n ≤ q := by omega
      rw [List.getD_eq_getElem?_getD, List.getD_eq_getElem?_getD, List.getElem?_eq_none (by omega), List.getElem?_eq_none (by omega)]
  have ec : (Sum.inl ((ad a1).2, ys.length, .inl (va_cpy (fun j => xs.getD j 0) (fun j => ys.getD j 0) (0 : Int32).toNatClampNeg (0 : Int32).toNatClampNeg i.toNatClampNeg)) : va_E) = vcell ad a1 (.inl xs) := by rw [em, l1, ← l0]; rfl
  rw [ec] at hP1 hD1
  exact kk p e R s m args below meth c Q A ad0 F ad H1 locs1 cells slots lsr ⟨r.1, r.2.1, hW.ofset h1 rfl hP1 hD1, hS1, r.2.2.2.2.1, r.2.2.2.2.2.1, r.2.2.2.2.2.2.1, by rw [List.length_set]; exact r.2.2.2.2.2.2.2⟩
/-- the two rows of steps -/
theorem V.gets1 {idx : Nat} (hw : Cond.fieldLink k.2.1.1.cls idx "HeartVanes" "EAST_BY_SIDE" "[I" ∈ vtS ∨ ∃ host, Cond.fieldLinkNest k.2.1.1.cls idx "HeartVanes" "EAST_BY_SIDE" "[I" host ∈ vNS) (hd : decode k.2.1.2.1 pc = .ok (.getstatic idx, 3)) (kk : V k b (pc + 3) ls (.ref 1000001 :: st) h) : V k b pc ls st h := by
  intro p e R s m args below meth c Q A ad0 F ad H locs cells slots lsr r
  have hts := F.1.2.2.2.2.1
  obtain ⟨-, z1, -⟩ := r.2.1
  rcases hw with hw | ⟨host, hw⟩
  · exact va_gets F.1.1 F.1.2.1 z1 r.2.2.2.1 F.1.2.2.2.1 (hts _ hw) (fun _ q => q) hd (kk p e R s m args below meth c Q A ad0 F ad H locs cells slots lsr r)
  · exact va_getsN F.1.1 F.1.2.1 z1 r.2.2.2.1 F.1.2.2.2.1 (va_Nw.use rfl (r.2.1.nest _ hw)) (fun _ q => q) hd (kk p e R s m args below meth c Q A ad0 F ad H locs cells slots lsr r)
theorem V.gets2 {idx : Nat} (hw : Cond.fieldLink k.2.1.1.cls idx "HeartVanes" "SOUTH_BY_SIDE" "[I" ∈ vtS ∨ ∃ host, Cond.fieldLinkNest k.2.1.1.cls idx "HeartVanes" "SOUTH_BY_SIDE" "[I" host ∈ vNS) (hd : decode k.2.1.2.1 pc = .ok (.getstatic idx, 3)) (kk : V k b (pc + 3) ls (.ref 1000002 :: st) h) : V k b pc ls st h := by
  intro p e R s m args below meth c Q A ad0 F ad H locs cells slots lsr r
  have hts := F.1.2.2.2.2.1
  obtain ⟨-, -, -, z1, -⟩ := r.2.1
  rcases hw with hw | ⟨host, hw⟩
  · exact va_gets F.1.1 F.1.2.1 z1 r.2.2.2.1 F.1.2.2.2.1 (hts _ hw) (fun _ q => q) hd (kk p e R s m args below meth c Q A ad0 F ad H locs cells slots lsr r)
  · exact va_getsN F.1.1 F.1.2.1 z1 r.2.2.2.1 F.1.2.2.2.1 (va_Nw.use rfl (r.2.1.nest _ hw)) (fun _ q => q) hd (kk p e R s m args below meth c Q A ad0 F ad H locs cells slots lsr r)
theorem V.ald1 {i : Int32} {j : Nat} (hd : decode k.2.1.2.1 pc = .ok (.iaload, 1)) (hi : i = nI j) (hj : j < 4) (kk : V k b (pc + 1) ls (.int (vea j) :: st) h) : V k b pc ls (.int i :: .ref 1000001 :: st) h := by
  intro p e R s m args below meth c Q A ad0 F ad H locs cells slots lsr r
  obtain ⟨-, -, t1, -⟩ := r.2.1
  exact va_ti (v := .int (vea j)) F.1.1 F.1.2.1 t1 r.2.2.2.1 (by rw [hi]; exact nI_in2 hj (by omega)) (by rw [hi, nI_clamp (by omega)]) hd (kk p e R s m args below meth c Q A ad0 F ad H locs cells slots lsr r)
theorem V.ald2 {i : Int32} {j : Nat} (hd : decode k.2.1.2.1 pc = .ok (.iaload, 1)) (hi : i = nI j) (hj : j < 4) (kk : V k b (pc + 1) ls (.int (vso j) :: st) h) : V k b pc ls (.int i :: .ref 1000002 :: st) h := by
  intro p e R s m args below meth c Q A ad0 F ad H locs cells slots lsr r
  obtain ⟨-, -, -, -, t1, -⟩ := r.2.1
  exact va_ti (v := .int (vso j)) F.1.1 F.1.2.1 t1 r.2.2.2.1 (by rw [hi]; exact nI_in2 hj (by omega)) (by rw [hi, nI_clamp (by omega)]) hd (kk p e R s m args below meth c Q A ad0 F ad H locs cells slots lsr r)
/-- the script -/
theorem V.ald0 {i : Int32} {j : Nat} (hd : decode k.2.1.2.1 pc = .ok (.iaload, 1)) (hi : i = nI j) (hj : j < k.1.2.2.length) (hb : j < 2147483648) (kk : V k b (pc + 1) ls (.int (k.1.2.2.getD j 0) :: st) h) : V k b pc ls (.int i :: .ref 1000000 :: st) h := by
  intro p e R s m args below meth c Q A ad0 F ad H locs cells slots lsr r
  obtain ⟨t1, -⟩ := r.2.1
  exact va_ti (v := .int (k.1.2.2.getD j 0)) F.1.1 F.1.2.1 t1 r.2.2.2.1 (by rw [hi]; exact nI_in2 hj hb) (by rw [hi, nI_clamp hb]) hd (kk p e R s m args below meth c Q A ad0 F ad H locs cells slots lsr r)
theorem V.alen0 {v : Int32} (hd : decode k.2.1.2.1 pc = .ok (.arraylength, 1)) (hv : nI k.1.2.2.length = v) (kk : V k b (pc + 1) ls (.int v :: st) h) : V k b pc ls (.ref 1000000 :: st) h := by
  intro p e R s m args below meth c Q A ad0 F ad H locs cells slots lsr r
  obtain ⟨t1, -⟩ := r.2.1
  exact va_tlen F.1.1 F.1.2.1 t1 r.2.2.2.1 hv hd (kk p e R s m args below meth c Q A ad0 F ad H locs cells slots lsr r)
theorem V.objInit {idx a : Nat} (hw : Cond.methodLink k.2.1.1.cls idx Lib.objectInit ∈ vtS ∧ Cond.instanceMethod Lib.objectInit ∈ vtS ∧ Cond.code Lib.objectInit ⟨#[0xb1]⟩ 1 none ∈ vtS) (hd : decode k.2.1.2.1 pc = .ok (.invokespecial idx, 3)) (hdp : 1 ≤ k.2.2.1) (hsz : (st.map fun v => v.category).sum ≤ 8) (kk : V k b (pc + 3) ls st h) : V k b pc ls (.ref a :: st) h := by
  intro p e R s m args below meth c Q A ad0 F ad H locs cells slots lsr r
  have hts := F.1.2.2.2.2.1
  exact W.objInit F.1.1 F.1.2.1 F.1.2.2.2.1 (hts _ hw.1) (hts _ hw.2.1) (hts _ hw.2.2) (g := F0 m pc lsr (.ref (ad a).1 :: st.map (mv ad))) rfl (r.2.2.2.2.1.2.1.trans F.1.2.2.1.symm) rfl hd (Nat.le_trans hdp F.2.1) (vrm hdp F.2.2.1 (by show 2 * 0 + _ + 12 ≤ 80; have := vcat (ad := ad) hsz; omega)) (kk p e R s m args below meth c Q A ad0 F ad H locs cells slots lsr r)
end VJdk
/-! making -/
def vokv (n : Nat) : Value → Prop
  | .ref q => q < n ∨ 1000000 ≤ q
  | _ => True
def vokc (n : Nat) : VC → Prop
  | .inl _ => True
  | .inr (.inl rs) => ∀ q, some q ∈ rs → q < n
  | .inr (.inr o) => ∀ v ∈ o.2, vokv n v
def vwf (n : Nat) (h : VHp) : Prop := ∀ c ∈ h, vokc n c
theorem vokv.mono {n n' : Nat} {v : Value} (h : vokv n v) (hn : n ≤ n') : vokv n' v := by
  cases v with
  | ref q => exact (show q < n ∨ 1000000 ≤ q from h).elim (fun x => Or.inl (Nat.lt_of_lt_of_le x hn)) Or.inr
  | _ => trivial
theorem vokc.mono {n n' : Nat} {c : VC} (h : vokc n c) (hn : n ≤ n') : vokc n' c := by
  match c, h with
  | .inl _, _ => trivial
  | .inr (.inl rs), h => exact fun q hq => Nat.lt_of_lt_of_le (h q hq) hn
  | .inr (.inr o), h => exact fun v hv => (h v hv).mono hn
theorem vwf.mono {n n' : Nat} {h : VHp} (w : vwf n h) (hn : n ≤ n') : vwf n' h := fun c hc => (w c hc).mono hn
theorem vwf.app {n : Nat} {h : VHp} {c : VC} (w : vwf n h) (hc : vokc n c) : vwf n (h ++ [c]) := fun x hx => (List.mem_append.mp hx).elim (w x) (fun q => by rw [List.mem_singleton.mp q]; exact hc)
theorem vwf.set {n a : Nat} {h : VHp} {c : VC} (w : vwf n h) (hc : vokc n c) : vwf n (h.set a c) := fun x hx => (List.mem_or_eq_of_mem_set hx).elim (w x) (fun q => by rw [q]; exact hc)
theorem mv_ext {n : Nat} {ad ad' : VAd} {v : Value} (ha : vagree true n ad ad') (h : vokv n v) : mv ad' v = mv ad v := by
  cases v with
  | ref q => simp only [mv]; rw [ha q (fun _ => h)]
  | _ => rfl
theorem vcell_ext {n k : Nat} {ad ad' : VAd} {c : VC} (ha : vagree true n ad ad') (h : vokc n c) (hk : k < n) : vcell ad' k c = vcell ad k c := by
  have ek : ad' k = ad k := ha k (fun _ => Or.inl hk)
  match c, h with
  | .inl xs, _ => simp only [vcell, ek]
  | .inr (.inl rs), h =>
    simp only [vcell, ek]
    have : (fun j => Option.map (fun q => (ad' q).1) (rs.getD j none)) = (fun j => Option.map (fun q => (ad q).1) (rs.getD j none)) := by
      funext j
      cases hj : rs.getD j none with
      | none => rfl
      | some q =>
        have : some q ∈ rs := by
          rw [List.getD_eq_getElem?_getD] at hj
          cases hx : rs[j]? with
          | none => rw [hx] at hj; cases hj
          | some y => rw [hx] at hj; simp only [Option.getD_some] at hj; subst hj; exact List.mem_of_getElem? hx
        simp only [Option.map_some]
        rw [ha q (fun _ => Or.inl (h q this))]
    rw [this]
  | .inr (.inr o), h =>
    simp only [vcell]
    have : o.2.map (mv ad') = o.2.map (mv ad) := List.map_congr_left (fun v hv => mv_ext ha (h v hv))
    rw [this]
theorem vws_ext {n : Nat} {ad ad' : VAd} {h : VHp} (ha : vagree true n ad ad') (w : vwf n h) (hl : h.length ≤ n) : vws ad' h = vws ad h := by
  apply List.ext_getElem?
  intro j
  simp only [vws, List.getElem?_mapIdx]
  cases hj : h[j]? with
  | none => rfl
  | some c =>
    have hjl := (List.getElem?_eq_some_iff.mp hj).1
    simp only [Option.map_some]
    rw [vcell_ext ha (w c (List.mem_of_getElem? hj)) (by omega), ha j (fun _ => Or.inl (by omega))]
theorem vws_app (ad : VAd) (h : VHp) (c : VC) : vws ad (h ++ [c]) = vws ad h ++ [((ad h.length).1, vcell ad h.length c)] := by
  simp [vws, List.mapIdx_append]
def vadd (ad : VAd) (n : Nat) (q : Nat × ClassId) : VAd := fun j => if j = n then q else ad j
theorem vadd_agree {ad : VAd} {n : Nat} {q : Nat × ClassId} (hn : n < 1000000) : vagree true n ad (vadd ad n q) := fun k hk => by
  have : k ≠ n := by rcases hk rfl with h | h <;> omega
  simp [vadd, this]
theorem vadd_self {ad : VAd} {n : Nat} {q : Nat × ClassId} : vadd ad n q n = q := by simp [vadd]
theorem VRO.agree {g : VG} {ad ad' : VAd} {A : Nat → Prop} {s : State} {n : Nat} (r : VRO g ad A s) (ha : vagree true n ad ad') : VRO g ad' A s := by
  have e : ∀ j, 1000000 ≤ j → ad' j = ad j := fun j hj => ha j (fun _ => Or.inr hj)
  unfold VRO
  rw [e 1000000 (by omega), e 1000001 (by omega), e 1000002 (by omega), e 1000003 (by omega), e 1000004 (by omega), e 1000005 (by omega)]
  exact r
theorem VLR.agree {ad ad' : VAd} {nL n : Nat} {ls : List (Option Value)} {lsr : Array Slot} (r : VLR ad nL ls lsr) (ha : vagree true n ad ad') (h : ∀ v, some v ∈ ls → vokv n v) : VLR ad' nL ls lsr :=
  ⟨r.1, r.2.1, r.2.2.1, fun i v hi => by rw [mv_ext ha (h v (List.mem_of_getElem? hi))]; exact r.2.2.2 i v hi⟩
theorem vmap_ext {n : Nat} {ad ad' : VAd} {st : List Value} (ha : vagree true n ad ad') (h : ∀ v ∈ st, vokv n v) : st.map (mv ad') = st.map (mv ad) := List.map_congr_left (fun v hv => mv_ext ha (h v hv))
/-- locals and stack hold no reference to what isn't there -/
def vlok (n : Nat) (ls : List (Option Value)) (st : List Value) : Prop := (∀ v, some v ∈ ls → vokv n v) ∧ ∀ v ∈ st, vokv n v
theorem vtys.add {ad : VAd} {h : VHp} {tys : List (ClassId × FieldType)} {n : Nat} {q : Nat × ClassId} {c : VC} {ty : List (ClassId × FieldType)} (t : vtys ad h tys) (hn : n = h.length) (hi : ∀ xs, c = .inl xs → (q.2, FieldType.int) ∈ tys ++ ty) (hr : ∀ rs, c = .inr (.inl rs) → (q.2, FieldType.object "HeartVanes$Room") ∈ tys ++ ty) : vtys (vadd ad n q) (h ++ [c]) (tys ++ ty) := by
  intro j
  by_cases hj : j < h.length
  · have e : vadd ad n q j = ad j := by simp [vadd]; intro x; omega
    rw [List.getElem?_append_left hj, e]
    exact ⟨fun xs hx => List.mem_append_left _ ((t j).1 xs hx), fun xs hx => List.mem_append_left _ ((t j).2 xs hx)⟩
  · rw [List.getElem?_append_right (by omega)]
    by_cases hj2 : j = h.length
    · subst hj2; subst hn
      rw [Nat.sub_self, vadd_self]
      exact ⟨fun xs hx => hi xs (by simpa using hx), fun rs hx => hr rs (by simpa using hx)⟩
    · have : ([c] : VHp)[j - h.length]? = none := List.getElem?_eq_none (by simp; omega)
      rw [this]
      exact ⟨fun _ hx => (by cases hx), fun _ hx => (by cases hx)⟩
section VNew
variable {k : VK} {b : Nat × Nat} {pc : Nat} {ls : List (Option Value)} {st : List Value} {h : VHp}
/-- a new object of class ci -/
theorem V.new {idx ci N : Nat} {C : String} {T : u_T} {ty : Nat → FieldType} {fs : List Value} (hc : vwCl[ci]? = some (C, T, N)) (hw : (∀ w ∈ u_ws C T N, w ∈ vtS) ∧ Cond.classLink k.2.1.1.cls idx C ∈ vtS ∧ Cond.instantiable C N ∈ vtS ∧ Cond.initialized C ∈ vtS) (hty : ∀ j, j < N → parseFieldDescriptor (T j).2.2.1 = some (ty j)) (hfs : ∀ j, j < N → defaultValue (ty j) = vp_V fs j) (hfr : ∀ ad : VAd, fs.map (mv ad) = fs) (hz : k.2.2.2.1 = true) (hwf : vwf h.length h) (hlo : vlok h.length ls st) (hlen : h.length < 1000000) (hd : decode k.2.1.2.1 pc = .ok (.new idx, 3))
    (kk : V k b (pc + 3) ls (.ref h.length :: st) (h ++ [.inr (.inr (ci, fs))])) : V k (b.1 + 1, b.2 + N) pc ls st h := by
  intro p e R s m args below meth c Q A ad0 F ad H locs cells slots lsr r
  have hts := F.1.2.2.2.2.1
  obtain ⟨⟨tys, t1, t2⟩, hP, hD⟩ := r.2.2.1
  have hb1 : cells + (b.1 + 1) ≤ R.cells := r.2.2.2.2.2.1
  have hb2 : slots + (b.2 + N) ≤ R.slots := r.2.2.2.2.2.2.1
  refine va_new (D := k.1.2.1) (cl := vwCl) (ci := ci) (fs := fs) F.1.1 F.1.2.1 hts hw.1 ty hty F.1.2.2.2.1 (hts _ hw.2.1) (hts _ hw.2.2.1) (hts _ hw.2.2.2) t1 hP hD r.2.2.2.1 F.2.2.2.1 hc hfs (by omega) (by omega) hd (fun q H1 hP1 hD1 hS1 => ?_)
  have ha := vadd_agree (ad := ad) (q := (q, (ad h.length).2)) hlen
  have ew : vws (vadd ad h.length (q, (ad h.length).2)) (h ++ [.inr (.inr (ci, fs))]) = vws ad h ++ [(q, .inr (ci, fs))] := by
    rw [vws_app, vws_ext ha hwf (Nat.le_refl _), vadd_self]
    simp only [vcell]
    rw [hfr]
  have es : (.ref q :: st.map (mv ad)) = (Value.ref h.length :: st).map (mv (vadd ad h.length (q, (ad h.length).2))) := by
    rw [List.map_cons, vmap_ext ha hlo.2]
    simp only [mv, vadd_self]
  rw [es]
  refine kk p e R s m args below meth c Q A ad0 F _ H1 locs (cells + 1) (slots + N) lsr ⟨?_, r.2.1.agree ha, ⟨⟨tys, t1, ?_⟩, by rw [ew]; exact hP1, by rw [ew]; exact hD1⟩, hS1, r.2.2.2.2.1.agree ha hlo.1, by omega, by omega, by rw [List.length_append]; exact Nat.le_trans r.2.2.2.2.2.2.2 (Nat.le_add_right _ _)⟩
  · have h1 := r.1
    rw [hz] at h1 ⊢
    exact h1.tr ha r.2.2.2.2.2.2.2
  · have := vtys.add (q := (q, (ad h.length).2)) (c := .inr (.inr (ci, fs))) (ty := []) t2 rfl (fun _ hx => (by cases hx)) (fun _ hx => (by cases hx))
    rwa [List.append_nil] at this
/-- a new int array -/
theorem V.newI {N : Nat} {n : Int32} (hw : Cond.arrayClass .int ∈ vtS) (hn : n = nI N) (hN : N < 100000) (hz : k.2.2.2.1 = true) (hwf : vwf h.length h) (hlo : vlok h.length ls st) (hlen : h.length < 1000000) (hd : decode k.2.1.2.1 pc = .ok (.newarray .int, 2))
    (kk : V k b (pc + 2) ls (.ref h.length :: st) (h ++ [.inl (List.replicate N 0)])) : V k (b.1 + 1, b.2 + N) pc ls (.int n :: st) h := by
  intro p e R s m args below meth c Q A ad0 F ad H locs cells slots lsr r
  have hts := F.1.2.2.2.2.1
  obtain ⟨⟨tys, t1, t2⟩, hP, hD⟩ := r.2.2.1
  have hb1 : cells + (b.1 + 1) ≤ R.cells := r.2.2.2.2.2.1
  have hb2 : slots + (b.2 + N) ≤ R.slots := r.2.2.2.2.2.2.1
  have ez : ∀ j, (List.replicate N (0 : Int32)).getD j 0 = 0 := by
    intro j
    rw [List.getD_eq_getElem?_getD, List.getElem?_replicate]
    split <;> rfl
  refine va_newa (D := k.1.2.1) (cl := vwCl) (atype := .int) (ty := .int) (a0 := ((List.replicate N (0 : Int32)).length, .inl (fun j => (List.replicate N (0 : Int32)).getD j 0))) F.1.1 F.1.2.1 (hts _ hw) rfl t1 hP hD r.2.2.2.1 F.2.2.2.1 (N' := N) ?_ (by rw [hn]; exact nI_pos (by omega)) (by rw [hn]; exact nI_clamp (by omega)) (by show N * 4 ≤ 536870912; omega) (by omega) (by omega) hd (fun q cA H1 hK1 hP1 hD1 hS1 => ?_)
  · intro cA
    simp only [ez, List.length_replicate]
    rfl
  have ha := vadd_agree (ad := ad) (q := (q, cA)) hlen
  have ew : vws (vadd ad h.length (q, cA)) (h ++ [.inl (List.replicate N 0)]) = vws ad h ++ [(q, .inl (cA, ((List.replicate N (0 : Int32)).length, .inl (fun j => (List.replicate N (0 : Int32)).getD j 0))))] := by
    rw [vws_app, vws_ext ha hwf (Nat.le_refl _), vadd_self]
    simp only [vcell, vadd_self]
  have es : (.ref q :: st.map (mv ad)) = (Value.ref h.length :: st).map (mv (vadd ad h.length (q, cA))) := by
    rw [List.map_cons, vmap_ext ha hlo.2]
    simp only [mv, vadd_self]
  rw [es]
  refine kk p e R s m args below meth c Q A ad0 F _ H1 locs (cells + 1) (slots + N) lsr ⟨?_, r.2.1.agree ha, ⟨⟨_, hK1, ?_⟩, by rw [ew]; exact hP1, by rw [ew]; exact hD1⟩, hS1, r.2.2.2.2.1.agree ha hlo.1, by omega, by omega, by rw [List.length_append]; exact Nat.le_trans r.2.2.2.2.2.2.2 (Nat.le_add_right _ _)⟩
  · have h1 := r.1
    rw [hz] at h1 ⊢
    exact h1.tr ha r.2.2.2.2.2.2.2
  · exact vtys.add t2 rfl (fun _ _ => List.mem_append_right _ (List.mem_singleton.mpr rfl)) (fun _ hx => (by cases hx))
/-- a new row of rooms -/
theorem V.newR {idx N : Nat} {n : Int32} (hw : Cond.classLink k.2.1.1.cls idx "HeartVanes$Room" ∈ vtS) (hn : n = nI N) (hN : N < 100000) (hz : k.2.2.2.1 = true) (hwf : vwf h.length h) (hlo : vlok h.length ls st) (hlen : h.length < 1000000) (hd : decode k.2.1.2.1 pc = .ok (.anewarray idx, 3))
    (kk : V k b (pc + 3) ls (.ref h.length :: st) (h ++ [.inr (.inl (List.replicate N none))])) : V k (b.1 + 1, b.2 + N) pc ls (.int n :: st) h := by
  intro p e R s m args below meth c Q A ad0 F ad H locs cells slots lsr r
  have hts := F.1.2.2.2.2.1
  obtain ⟨⟨tys, t1, t2⟩, hP, hD⟩ := r.2.2.1
  have hb1 : cells + (b.1 + 1) ≤ R.cells := r.2.2.2.2.2.1
  have hb2 : slots + (b.2 + N) ≤ R.slots := r.2.2.2.2.2.2.1
  have hao : va_AO "HeartVanes$Room" s := by
    obtain ⟨-, -, -, -, -, -, -, -, -, -, -, z, -⟩ := r.2.1
    exact z
  have ez : ∀ j, (List.replicate N (none : Option Nat)).getD j none = none := by
    intro j
    rw [List.getD_eq_getElem?_getD, List.getElem?_replicate]
    split <;> rfl
  refine va_newq (D := k.1.2.1) (cl := vwCl) F.1.1 F.1.2.1 F.1.2.2.2.1 (hts _ hw) hao t1 hP hD r.2.2.2.1 F.2.2.2.1 (N' := N) (by rw [hn]; exact nI_pos (by omega)) (by rw [hn]; exact nI_clamp (by omega)) (by omega) (by omega) (by omega) hd (fun q cA H1 hK1 hP1 hD1 hS1 => ?_)
  have ha := vadd_agree (ad := ad) (q := (q, cA)) hlen
  have ew : vws (vadd ad h.length (q, cA)) (h ++ [.inr (.inl (List.replicate N none))]) = vws ad h ++ [(q, .inl (cA, N, .inr (.inr (.inr (.inr (fun _ => none))))))] := by
    rw [vws_app, vws_ext ha hwf (Nat.le_refl _), vadd_self]
    simp only [vcell, vadd_self, ez, List.length_replicate, Option.map_none]
  have es : (.ref q :: st.map (mv ad)) = (Value.ref h.length :: st).map (mv (vadd ad h.length (q, cA))) := by
    rw [List.map_cons, vmap_ext ha hlo.2]
    simp only [mv, vadd_self]
  rw [es]
  refine kk p e R s m args below meth c Q A ad0 F _ H1 locs (cells + 1) (slots + N) lsr ⟨?_, r.2.1.agree ha, ⟨⟨_, hK1, ?_⟩, by rw [ew]; exact hP1, by rw [ew]; exact hD1⟩, hS1, r.2.2.2.2.1.agree ha hlo.1, by omega, by omega, by rw [List.length_append]; exact Nat.le_trans r.2.2.2.2.2.2.2 (Nat.le_add_right _ _)⟩
  · have h1 := r.1
    rw [hz] at h1 ⊢
    exact h1.tr ha r.2.2.2.2.2.2.2
  · exact vtys.add t2 rfl (fun _ hx => (by cases hx)) (fun _ _ => List.mem_append_right _ (List.mem_singleton.mpr rfl))
/-- a constructor's call -/
theorem V.callI {idx n d a : Nat} {z : Bool} {b1 : Nat × Nat} {M : VM} {As rest : List Value} {Post : VPost} (hc : vcI k.2.1.1.cls idx M n) (hE : VE k.1 M d z b1 (.ref a :: As) h Post) (hd : decode k.2.1.2.1 pc = .ok (.invokespecial idx, 3)) (hdp : d + 1 ≤ k.2.2.1) (hst : st = As.reverse ++ .ref a :: rest) (hn : As.length = n) (hsz : (rest.map fun v => v.category).sum ≤ 8) (hz : k.2.2.2.1 = true) (hlo : vlok h.length ls rest)
    (kk : ∀ v h', Post v h' → V k b (pc + 3) ls (v.toList ++ rest) h') (hv : ∀ v h', Post v h' → v = none) : V k (b.1 + b1.1, b.2 + b1.2) pc ls st h := by
  intro p e R s m args below meth c Q A ad0 F ad H locs cells slots lsr r
  obtain ⟨hM, hl1, hl2, hnm, hret⟩ := hc
  have hts := F.1.2.2.2.2.1
  have hW := r.2.2.1
  have hF := vfree hW r.2.2.2.1 F.2.2.2.1
  obtain ⟨⟨tys, t1, t2⟩, hP, hD⟩ := r.2.2.1
  have hb1 : cells + (b.1 + b1.1) ≤ R.cells := r.2.2.2.2.2.1
  have hb2 : slots + (b.2 + b1.2) ≤ R.slots := r.2.2.2.2.2.2.1
  have hroom : (vroom d b1).frames + 1 ≤ R.frames ∧ 8 + (M.2.2.1 + 11) + (vroom d b1).locals ≤ R.locals := by
    refine ⟨Nat.le_trans hdp F.2.1, ?_⟩
    have h1 := F.2.2.1
    have h2 := hM.2.2.1
    show 8 + (M.2.2.1 + 11) + 80 * d ≤ R.locals
    omega
  have hpre : PreS s H (va_Pc ((Value.ref a :: As).map (mv ad)) (fun U => U.heap.size = H.size ∧ VRO k.1 ad (va_A (vws ad h) H.size) U ∧ VWd k.1 ad h U U.heap (fun _ => True))) (.ref (ad a).1 :: As.map (mv ad)) := ⟨vblind, fun U hU hWm => ⟨rfl, by rw [hU], VRO.go r.2.1 r.2.2.2.1 hU hWm hF, by rw [hU]; exact VWd.moved hWm.alike ⟨⟨tys, t1, t2⟩, hP, hD.weaken (fun _ _ _ _ => trivial)⟩⟩⟩
  have hstk : (F0 m pc lsr (st.map (mv ad))).stack = (As.map (mv ad)).reverse ++ .ref (ad a).1 :: rest.map (mv ad) := by rw [hst]; simp [mv, List.map_reverse]
  have hgood := vgoodM hM
  rw [hret] at hgood
  have hM' := hE ad H.size
  rw [hret] at hM'
  have hrun : va_Run p k.1.1 e R s m args below meth c H locs cells slots b1.1 b1.2 (F0 m pc lsr (st.map (mv ad))) (rest.map (mv ad)) (VQ k.1 z h.length Post ad (va_A (vws ad h) H.size) (Value.ref (ad a).1 :: As.map (mv ad)).toArray) (va_A (vws ad h) H.size) := by
    rcases hl1 with hl1 | ⟨host, hl1⟩
    · exact va_runI (own := k.2.1.1.cls) (Ts := vtS) (bytes := M.2.1) (maxL := M.2.2.1) (n := n) ⟨F.1.1, F.1.2.1, F.1.2.2.1, F.1.2.2.2.1, hts⟩ hM' ⟨callB_of n hts hgood rfl rfl rfl (hts _ hM.2.1) (hts _ hl1) hM.2.2.2 hroom, hnm, hts _ hl2⟩ hpre rfl (by rw [List.length_map]; exact hn) r.2.2.2.2.1.2.1 hstk (lv_room (vcat hsz)) hd ⟨by omega, by omega⟩
    · exact va_runIN (own := k.2.1.1.cls) (host := host) (Ts := vtS) (bytes := M.2.1) (maxL := M.2.2.1) (n := n) ⟨F.1.1, F.1.2.1, F.1.2.2.1, F.1.2.2.2.1, hts⟩ hM' ⟨va_cnB n hts hgood rfl rfl rfl (r.2.1.nest _ hl1) (hts _ hM.2.1) hM.2.2.2 hroom, hnm, hts _ hl2⟩ hpre rfl (by rw [List.length_map]; exact hn) r.2.2.2.2.1.2.1 hstk (lv_room (vcat hsz)) hd ⟨by omega, by omega⟩
  refine vafter hrun hW r.2.2.2.1 F.2.2.2.1 (fun v h' ad' H1 locs1 hag hlen hp hw' hS' => ?_)
  obtain rfl := hv v h' hp
  have hag : vagree true h.length ad ad' := fun j hj => hag j (fun _ => hj rfl)
  have e1 : ((none : Option Value).map (mv ad')).toList ++ rest.map (mv ad) = ((none : Option Value).toList ++ rest).map (mv ad') := by
    simp only [Option.map_none, Option.toList_none, List.nil_append]
    exact (vmap_ext hag hlo.2).symm
  rw [e1]
  refine kk none h' hp p e R s m args below meth c Q A ad0 F ad' H1 locs1 _ _ lsr ⟨?_, r.2.1.agree hag, hw', hS', r.2.2.2.2.1.agree hag hlo.1, by omega, by omega, Nat.le_trans r.2.2.2.2.2.2.2 hlen⟩
  have h1 := r.1
  rw [hz] at h1 ⊢
  exact h1.tr hag r.2.2.2.2.2.2.2
end VNew
