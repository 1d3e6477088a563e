/-! THE V LAYER: a judgement over the kit's W in which a heap is a list of cells (a reference is a place in it), locals and stack are lists, and a method's contract says what comes back and which heap. -/
abbrev VC : Type := List Int32 ⊕ (List (Option Nat) ⊕ (Nat × List Value))
abbrev VAd : Type := Nat → Nat × ClassId
abbrev VHp : Type := List VC
def mv (ad : VAd) : Value → Value
  | .ref k => .ref (ad k).1
  | v => v
def vcell (ad : VAd) (k : Nat) : VC → va_E
  | .inl xs => .inl ((ad k).2, xs.length, .inl (fun j => xs.getD j 0))
  | .inr (.inl rs) => .inl ((ad k).2, rs.length, .inr (.inr (.inr (.inr (fun j => (rs.getD j none).map (fun q => (ad q).1))))))
  | .inr (.inr o) => .inr (o.1, o.2.map (mv ad))
def vws (ad : VAd) (h : VHp) : va_W := h.mapIdx (fun k c => ((ad k).1, vcell ad k c))
theorem vws_get {ad : VAd} {h : VHp} {k : Nat} {c : VC} (hk : h[k]? = some c) : (vws ad h)[k]? = some ((ad k).1, vcell ad k c) := by
  simp [vws, List.getElem?_mapIdx, hk]
theorem vws_set {ad : VAd} {h : VHp} {k : Nat} {c : VC} : vws ad (h.set k c) = (vws ad h).set k ((ad k).1, vcell ad k c) := by
  apply List.ext_getElem?
  intro j
  simp only [vws, List.getElem?_mapIdx, List.getElem?_set, List.length_mapIdx]
  by_cases hj : k = j
  · subst hj
    by_cases hl : k < h.length <;> simp [hl]
  · simp [hj]
theorem vws_length (ad : VAd) (h : VHp) : (vws ad h).length = h.length := by simp [vws]
def vagree (z : Bool) (n : Nat) (ad ad' : VAd) : Prop := ∀ k, (z = true → k < n ∨ 1000000 ≤ k) → ad' k = ad k
theorem vagree.eq {n : Nat} {ad ad' : VAd} (h : vagree false n ad ad') : ad' = ad := funext fun k => h k (fun x => by cases x)
theorem vagree.rf {z : Bool} {n : Nat} {ad : VAd} : vagree z n ad ad := fun _ _ => rfl
theorem vagree.tr {z : Bool} {n n' : Nat} {a b c : VAd} (h1 : vagree z n a b) (h2 : vagree z n' b c) (h : n ≤ n') : vagree z n a c := fun k hk => by
  rw [h2 k (fun e => (hk e).elim (fun q => Or.inl (by omega)) Or.inr), h1 k hk]
def vtys (ad : VAd) (h : VHp) (tys : List (ClassId × FieldType)) : Prop := ∀ k, (∀ xs, h[k]? = some (.inl xs) → ((ad k).2, FieldType.int) ∈ tys) ∧ (∀ rs, h[k]? = some (.inr (.inl rs)) → ((ad k).2, FieldType.object "HeartVanes$Room") ∈ tys)
/-- the launch, the classes' numbers and places, the script -/
abbrev VG : Type := Launch × va_G × List Int32
def vea (k : Nat) : Int32 := match k with
  | 1 => 1
  | 3 => -1
  | _ => 0
def vso (k : Nat) : Int32 := match k with
  | 0 => -1
  | 2 => 1
  | _ => 0
def vtx : String := "r7,6;p0,0,0;p1,6,5;p2,3,2;p3,5,1;p0,1,4;p0,4,4;l0,1,0,5;l0,2,1,2;l1,0,0,9;l1,4,0,3;l2,3,0,7;l3,2,0,4;l3,5,1,6;l4,5,0,8;l5,4,0,2;l5,0,0,9;"
def vtb : List Int32 := [114,55,44,54,59,112,48,44,48,44,48,59,112,49,44,54,44,53,59,112,50,44,51,44,50,59,112,51,44,53,44,49,59,112,48,44,49,44,52,59,112,48,44,52,44,52,59,108,48,44,49,44,48,44,53,59,108,48,44,50,44,49,44,50,59,108,49,44,48,44,48,44,57,59,108,49,44,52,44,48,44,51,59,108,50,44,51,44,48,44,55,59,108,51,44,50,44,48,44,52,59,108,51,44,53,44,49,44,54,59,108,52,44,53,44,48,44,56,59,108,53,44,52,44,48,44,50,59,108,53,44,48,44,48,44,57,59]
/-- what nobody writes: the script (1000000), two rows of steps (1000001, 1000002), the first text (1000003) and its bytes (1000004), String's COMPACT_STRINGS, what Preconditions has for its throws (null or 1000005) -/
def VRO (g : VG) (ad : VAd) (A : Nat → Prop) (U : State) : Prop :=
  va_T .int (ad 1000000).1 g.2.2.length (fun j => .int (g.2.2.getD j 0)) A U U.heap ∧
  va_Z "HeartVanes" "EAST_BY_SIDE" "[I" (.ref (ad 1000001).1) A U U.heap ∧ va_T .int (ad 1000001).1 4 (fun j => .int (vea j)) A U U.heap ∧
  va_Z "HeartVanes" "SOUTH_BY_SIDE" "[I" (.ref (ad 1000002).1) A U U.heap ∧ va_T .int (ad 1000002).1 4 (fun j => .int (vso j)) A U U.heap ∧
  vk_R "HeartVanes" 69 vtx (ad 1000003).1 U ∧ va_O "java/lang/String" (ad 1000003).1 A U U.heap ∧
  va_OF "java/lang/String" "value" "[B" (.ref (ad 1000004).1) (ad 1000003).1 A U U.heap ∧ va_OF "java/lang/String" "coder" "B" (.int 0) (ad 1000003).1 A U U.heap ∧
  va_T .byte (ad 1000004).1 vtb.length (fun j => .int (vtb.getD j 0)) A U U.heap ∧ (va_Z "java/lang/String" "COMPACT_STRINGS" "Z" (.int 1) A U U.heap ∧ ∃ v, (v = .null ∨ v = .ref (ad 1000005).1) ∧ va_Z "jdk/internal/util/Preconditions" "SIOOBE_FORMATTER" "Ljava/util/function/BiFunction;" v A U U.heap) ∧ va_AO "HeartVanes$Room" U ∧ ∀ w ∈ vNS, va_Nw w U
/-- the world: the classes, the cells, apart -/
def VWd (g : VG) (ad : VAd) (h : VHp) (U : State) (H : Heap) (A : Nat → Prop) : Prop :=
  (∃ tys, va_K g.2.1 vwCl tys U ∧ vtys ad h tys) ∧ va_P g.2.1 vwCl (vws ad h) H ∧ va_D A (vws ad h)
theorem VWd.moved {g : VG} {ad : VAd} {h : VHp} {U U' : State} {H : Heap} {A : Nat → Prop} (hvm : U.vm.Alike U'.vm) (w : VWd g ad h U H A) : VWd g ad h U' H A := by
  obtain ⟨⟨tys, h1, h2⟩, h3, h4⟩ := w
  exact ⟨⟨tys, h1.moved hvm, h2⟩, h3, h4⟩
/-- method: name, code, locals, what it returns -/
abbrev VM : Type := MethodName × ByteArray × Nat × Option FieldType
abbrev VPost : Type := Option Value → VHp → Prop
abbrev VK : Type := VG × VM × Nat × Bool × Nat × VPost
def VLR (ad : VAd) (nL : Nat) (ls : List (Option Value)) (lsr : Array Slot) : Prop := ls.length = nL ∧ lsr.size = nL ∧ lv_wf lsr ∧ ∀ (i : Nat) (v : Value), ls[i]? = some (some v) → lsr[i]? = some (.val (mv ad v))
def VCx (M : VM) (p : Program) (s : State) (m : MethodId) (args : Array Value) (meth : Method) (c : Code) : Prop :=
  p.tables.exec = Jvm.exec ∧ c.code = M.2.1 ∧ c.maxLocals = M.2.2.1 ∧ s.vm.findClass M.1.cls = some m.cls ∧ (∀ w ∈ vtS, w.before args s = true) ∧ meth.sig.returnType = M.2.2.2 ∧ meth.locks = false ∧ meth.name = M.1.name
def VRi (M : VM) (pc : Nat) (v : Option Value) : Prop :=
  (∃ x : Int32, v = some (.int x) ∧ decode M.2.1 pc = .ok (.ireturn, 1) ∧ ∃ ty, M.2.2.2 = some ty ∧ narrow ty (.int x) = .int x) ∨ (v = none ∧ decode M.2.1 pc = .ok (.return_, 1) ∧ M.2.2.2 = none)
def VRet (k : VK) (p : Program) (e : Env) (R : Room) (s : State) (m : MethodId) (args : Array Value) (below : List Frame) (meth : Method) (c : Code) (Q : State → Prop) (A : Nat → Prop) (ad0 : VAd) : Prop :=
  ∀ (ad : VAd) (h : VHp) (H : Heap) (locs : List Loc) (cells slots : Nat) (lsr : Array Slot) (pc : Nat) (v : Option Value),
    vagree k.2.2.2.1 k.2.2.2.2.1 ad0 ad → VWd k.1 ad h s H A → va_S A s.heap H locs → cells ≤ R.cells → slots ≤ R.slots → k.2.2.2.2.2 v h → k.2.2.2.2.1 ≤ h.length → VRi k.2.1 pc v →
    W p k.1.1 e R s m args below meth c H locs cells slots Q (F0 m pc lsr (v.toList.map (mv ad)))
def VFx (k : VK) (p : Program) (e : Env) (R : Room) (s : State) (m : MethodId) (args : Array Value) (below : List Frame) (meth : Method) (c : Code) (Q : State → Prop) (A : Nat → Prop) (ad0 : VAd) : Prop :=
  VCx k.2.1 p s m args meth c ∧ k.2.2.1 ≤ R.frames ∧ 80 * k.2.2.1 ≤ R.locals ∧ (∀ q, s.heap.size ≤ q → A q) ∧ VRet k p e R s m args below meth c Q A ad0
def VRl (k : VK) (b : Nat × Nat) (ls : List (Option Value)) (h : VHp) (R : Room) (s : State) (A : Nat → Prop) (ad0 ad : VAd) (H : Heap) (locs : List Loc) (cells slots : Nat) (lsr : Array Slot) : Prop :=
  vagree k.2.2.2.1 k.2.2.2.2.1 ad0 ad ∧ VRO k.1 ad A s ∧ VWd k.1 ad h s H A ∧ va_S A s.heap H locs ∧ VLR ad k.2.1.2.2.1 ls lsr ∧ cells + b.1 ≤ R.cells ∧ slots + b.2 ≤ R.slots ∧ k.2.2.2.2.1 ≤ h.length
/-- the machine, at pc of a method, with these locals, this stack and this heap, comes to the method's end as the contract says -/
def V (k : VK) (b : Nat × Nat) (pc : Nat) (ls : List (Option Value)) (st : List Value) (h : VHp) : Prop :=
  ∀ (p : Program) (e : Env) (R : Room) (s : State) (m : MethodId) (args : Array Value) (below : List Frame) (meth : Method) (c : Code) (Q : State → Prop) (A : Nat → Prop) (ad0 : VAd),
    VFx k p e R s m args below meth c Q A ad0 → ∀ (ad : VAd) (H : Heap) (locs : List Loc) (cells slots : Nat) (lsr : Array Slot), VRl k b ls h R s A ad0 ad H locs cells slots lsr →
    W p k.1.1 e R s m args below meth c H locs cells slots Q (F0 m pc lsr (st.map (mv ad)))
/-- a method's contract at these arguments and this heap: depth d, cells and slots that it may make -/
def vroom (d : Nat) (b : Nat × Nat) : Room := { frames := d, cells := b.1, slots := b.2, locals := 80 * d }
def VQ (g : VG) (z : Bool) (n : Nat) (Post : VPost) (ad : VAd) (A : Nat → Prop) : Array Value → State → Outcome → State → Prop := fun _ st oc t =>
  ∃ (v : Option Value) (h' : VHp) (ad' : VAd), vagree z n ad ad' ∧ n ≤ h'.length ∧ oc = .returned (v.map (mv ad')) ∧ Post v h' ∧ VWd g ad' h' t t.heap A ∧ va_F A st t
def VE (g : VG) (M : VM) (d : Nat) (z : Bool) (b : Nat × Nat) (args : List Value) (h : VHp) (Post : VPost) : Prop :=
  ∀ (ad : VAd) (sz : Nat), Met g.1 M.1 (Cond.code M.1 M.2.1 M.2.2.1 M.2.2.2 :: vtS) (vroom d b)
    (va_Pc (args.map (mv ad)) (fun U => U.heap.size = sz ∧ VRO g ad (va_A (vws ad h) sz) U ∧ VWd g ad h U U.heap (fun _ => True)))
    (VQ g z h.length Post ad (va_A (vws ad h) sz)) b.1 b.2 (va_A (vws ad h) sz)
/-- the locals at a method's entry -/
def vent (args : List Value) (nL : Nat) : List (Option Value) := args.map some ++ List.replicate (nL - args.length) none
theorem mv_cat (ad : VAd) (v : Value) : (mv ad v).category = v.category := by cases v <;> rfl
theorem vent_LR {ad : VAd} {args : List Value} {nL : Nat} (hc : args.all (fun v => v.category == 1) = true) (hn : args.length ≤ nL) :
    VLR ad nL (vent args nL) ((lg_sl (args.map (mv ad)) ++ List.replicate (nL - (lg_sl (args.map (mv ad))).length) Slot.unset).toArray) := by
  have key : ∀ (as : List Value), as.all (fun v => v.category == 1) = true → lg_sl as = as.map Slot.val := by
    intro as
    induction as with
    | nil => intro _; rfl
    | cons a l ih =>
      intro ha
      simp only [List.all_cons, Bool.and_eq_true, beq_iff_eq] at ha
      have e := ih ha.2
      simp only [lg_sl, List.flatMap_cons, List.map_cons] at e ⊢
      rw [e]
      simp [ha.1]
  have hc' : (args.map (mv ad)).all (fun v => v.category == 1) = true := by
    rw [List.all_map]
    rw [List.all_eq_true] at hc ⊢
    intro v hv
    simpa [mv_cat] using hc v hv
  have e1 := key _ hc'
  have hlen : (lg_sl (args.map (mv ad))).length = args.length := by rw [e1]; simp
  have hl := lv_entry (args.map (mv ad)) (n := nL) (by rw [hlen]; exact hn)
  refine ⟨by simp [vent]; omega, hl.1, hl.2.1, fun i v hi => ?_⟩
  have hi' : i < args.length := by
    rcases Nat.lt_or_ge i args.length with q | q
    · exact q
    · rw [vent, List.getElem?_append_right (by simpa using q)] at hi
      have := List.eq_of_mem_replicate (List.mem_of_getElem? hi)
      cases this
  rw [vent, List.getElem?_append_left (by simpa using hi')] at hi
  rw [List.getElem?_toArray, List.getElem?_append_left (by rw [hlen]; exact hi'), e1]
  simp only [List.getElem?_map] at hi ⊢
  cases hv : args[i]? with
  | none => rw [hv] at hi; cases hi
  | some w =>
    rw [hv] at hi
    simp only [Option.map_some, Option.some.injEq] at hi
    subst hi
    rfl
theorem va_O.kept9 {E : String} {t : Nat} {A : Nat → Prop} {U : State} {H H1 : Heap} (h : va_O E t A U H) (hq : ∀ a : Nat, a < H.size → ¬ A a → H1[a]? = H[a]?) : va_O E t A U H1 := by
  obtain ⟨cell, h1, h2, h3, h4⟩ := h
  exact ⟨cell, by rw [hq t (Array.getElem?_eq_some_iff.mp h1).1 h4]; exact h1, h2, h3, h4⟩
