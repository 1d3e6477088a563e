/-! numbers: nI a of a natural number, iI z of a whole number; rules that keep to them -/
def iI (z : Int) : Int32 := Int32.ofInt z
theorem iI_nat (a : Nat) : iI (a : Int) = nI a := by simp [iI, nI, Int32.ofInt, Int32.ofNat]
theorem iI_add (a b : Int) : iI a + iI b = iI (a + b) := (Int32.ofInt_add a b).symm
theorem iI_sub (a b : Int) : iI a - iI b = iI (a - b) := (Int32.ofInt_sub a b).symm
theorem iI_mul (a b : Int) : iI a * iI b = iI (a * b) := (Int32.ofInt_mul a b).symm
theorem iI_neg (a : Int) : -iI a = iI (-a) := (Int32.ofInt_neg a).symm
theorem iI_toInt {z : Int} (h1 : -2147483648 ≤ z) (h2 : z < 2147483648) : (iI z).toInt = z := Int32.toInt_ofInt_of_le (by simpa using h1) (by simpa using h2)
theorem iI_lt {a b : Int} (a1 : -2147483648 ≤ a) (a2 : a < 2147483648) (b1 : -2147483648 ≤ b) (b2 : b < 2147483648) : iI a < iI b ↔ a < b := by
  rw [Int32.lt_iff_toInt_lt, iI_toInt a1 a2, iI_toInt b1 b2]
theorem iI_le {a b : Int} (a1 : -2147483648 ≤ a) (a2 : a < 2147483648) (b1 : -2147483648 ≤ b) (b2 : b < 2147483648) : iI a ≤ iI b ↔ a ≤ b := by
  rw [Int32.le_iff_toInt_le, iI_toInt a1 a2, iI_toInt b1 b2]
theorem iI_eq {a b : Int} (a1 : -2147483648 ≤ a) (a2 : a < 2147483648) (b1 : -2147483648 ≤ b) (b2 : b < 2147483648) : iI a = iI b ↔ a = b := by
  refine ⟨fun h => ?_, fun h => by rw [h]⟩
  have := congrArg Int32.toInt h
  rwa [iI_toInt a1 a2, iI_toInt b1 b2] at this
theorem iI_0 : iI 0 = 0 := by decide
theorem nI_and31 : ∀ b, b < 32 → nI b &&& 31 = nI b := by decide +kernel
theorem nI_smod : ∀ b, b < 32 → ((nI b).toBitVec.smod 32).toNat = b := by decide +kernel
theorem nI_shr {a b : Nat} (ha : a < 2147483648) (hb : b < 32) : nI a >>> (nI b &&& 31) = nI (a / 2 ^ b) := by
  rw [nI_and31 b hb]; exact pk_shrN ha _ b (nI_smod b hb)
theorem nI_shl {a b : Nat} (ha : a * 2 ^ b < 4294967296) (hb : b < 32) : nI a <<< (nI b &&& 31) = nI (a * 2 ^ b) := by
  rw [nI_and31 b hb]; exact pk_shlN _ b (nI_smod b hb) ha
theorem nI_and1 {a : Nat} (ha : a < 4294967296) : nI a &&& nI 1 = nI (a % 2) := pk_andN ha (m := nI 1) 1 (by decide)
theorem nI_or {a b : Nat} : nI a ||| nI b = nI (a ||| b) := by
  apply Int32.toBitVec_inj.mp
  rw [Int32.toBitVec_or]
  show BitVec.ofNat 32 a ||| BitVec.ofNat 32 b = BitVec.ofNat 32 (a ||| b)
  apply BitVec.eq_of_toNat_eq
  simp [BitVec.toNat_or, Nat.or_mod_two_pow]
theorem nI_dec {x : Nat} (h : 1 ≤ x) : nI x + Int32.ofInt (-1) = nI (x - 1) := by
  rw [show Int32.ofInt (-1) = iI (-1) from rfl, ← iI_nat, iI_add, ← iI_nat]
  congr 1; omega
theorem iI_abs {z : Int} (h : -2147483648 < z ∧ z < 2147483648) : (if 0 ≤ iI z then iI z else 0 - iI z) = iI (z.natAbs : Int) := by
  have e := iI_le (a := 0) (b := z) (by omega) (by omega) (by omega) (by omega)
  rw [iI_0] at e
  split
  next q => have := e.mp q; congr 1; omega
  next q => have := (not_congr e).mp q; rw [← iI_0, iI_sub]; congr 1; omega
theorem nI_min {x y : Nat} (hx : x < 2147483648) (hy : y < 2147483648) : (if nI y < nI x then nI y else nI x) = nI (min x y) := by
  have e := nI_ltI hy hx
  split
  next q => have := e.mp q; congr 1; omega
  next q => have := (not_congr e).mp q; congr 1; omega
/-- a truth as an int -/
def vB (P : Prop) [Decidable P] : Int32 := if P then 1 else 0
theorem vB_t {P : Prop} [Decidable P] (h : P) : vB P = 1 := if_pos h
theorem vB_f {P : Prop} [Decidable P] (h : ¬ P) : vB P = 0 := if_neg h
theorem vB_01 {P : Prop} [Decidable P] : vB P = 0 ∨ vB P = 1 := by unfold vB; split <;> simp
theorem vB_congr {P Q : Prop} [Decidable P] [Decidable Q] (h : P ↔ Q) : vB P = vB Q := by
  by_cases hp : P
  · rw [vB_t hp, vB_t (h.mp hp)]
  · rw [vB_f hp, vB_f (fun q => hp (h.mpr q))]
theorem nI_1' : nI 1 = 1 := by decide
/-- what a method that only looks gives -/
def VP (x : Int32) (h : VHp) : VPost := fun v h' => v = some (.int x) ∧ h' = h
section VNat
variable {k : VK} {b : Nat × Nat} {pc : Nat} {ls : List (Option Value)} {st : List Value} {h : VHp}
theorem V.eqst {st' : List Value} (e : st = st') (kk : V k b pc ls st' h) : V k b pc ls st h := e ▸ kk
theorem V.toZ1 {a : Nat} (kk : V k b pc ls (.int (iI (a : Int)) :: st) h) : V k b pc ls (.int (nI a) :: st) h := by rwa [iI_nat] at kk
theorem V.toZ2 {a : Nat} {v : Value} (kk : V k b pc ls (v :: .int (iI (a : Int)) :: st) h) : V k b pc ls (v :: .int (nI a) :: st) h := by rwa [iI_nat] at kk
theorem V.re {x y : Int32} (e : x = y) (kk : V k b pc ls (.int y :: st) h) : V k b pc ls (.int x :: st) h := e ▸ kk
theorem V.re2 {x y : Int32} {v : Value} (e : x = y) (kk : V k b pc ls (v :: .int y :: st) h) : V k b pc ls (v :: .int x :: st) h := e ▸ kk
theorem V.iaddN {x y : Nat} (hd : decode k.2.1.2.1 pc = .ok (.iadd, 1)) (kk : V k b (pc + 1) ls (.int (nI (x + y)) :: st) h) : V k b pc ls (.int (nI y) :: .int (nI x) :: st) h := V.iadd hd (by rw [nI_add]; exact kk)
theorem V.imulN {x y : Nat} (hd : decode k.2.1.2.1 pc = .ok (.imul, 1)) (kk : V k b (pc + 1) ls (.int (nI (x * y)) :: st) h) : V k b pc ls (.int (nI y) :: .int (nI x) :: st) h := V.imul hd (by rw [pk_mul]; exact kk)
theorem V.isubN {x y : Nat} (hd : decode k.2.1.2.1 pc = .ok (.isub, 1)) (hle : y ≤ x) (kk : V k b (pc + 1) ls (.int (nI (x - y)) :: st) h) : V k b pc ls (.int (nI y) :: .int (nI x) :: st) h := V.isub hd (by rw [pk_sub hle]; exact kk)
theorem V.idivN {x y : Nat} (hd : decode k.2.1.2.1 pc = .ok (.idiv, 1)) (hx : x < 2147483648) (hy0 : 0 < y) (hy : y < 2147483648) (kk : V k b (pc + 1) ls (.int (nI (x / y)) :: st) h) : V k b pc ls (.int (nI y) :: .int (nI x) :: st) h := V.idiv hd (nI_ne0 hy0 hy) (by rw [pk_div hx hy0 hy]; exact kk)
theorem V.iremN {x y : Nat} (hd : decode k.2.1.2.1 pc = .ok (.irem, 1)) (hx : x < 2147483648) (hy0 : 0 < y) (hy : y < 2147483648) (kk : V k b (pc + 1) ls (.int (nI (x % y)) :: st) h) : V k b pc ls (.int (nI y) :: .int (nI x) :: st) h := V.irem hd (nI_ne0 hy0 hy) (by rw [pk_rem hx hy0 hy]; exact kk)
theorem V.ishrN {x y : Nat} (hd : decode k.2.1.2.1 pc = .ok (.ishr, 1)) (hx : x < 2147483648) (hy : y < 32) (kk : V k b (pc + 1) ls (.int (nI (x / 2 ^ y)) :: st) h) : V k b pc ls (.int (nI y) :: .int (nI x) :: st) h := V.ishr hd (by rw [nI_shr hx hy]; exact kk)
theorem V.ishlN {x y : Nat} (hd : decode k.2.1.2.1 pc = .ok (.ishl, 1)) (hx : x * 2 ^ y < 4294967296) (hy : y < 32) (kk : V k b (pc + 1) ls (.int (nI (x * 2 ^ y)) :: st) h) : V k b pc ls (.int (nI y) :: .int (nI x) :: st) h := V.ishl hd (by rw [nI_shl hx hy]; exact kk)
theorem V.iand1N {x : Nat} (hd : decode k.2.1.2.1 pc = .ok (.iand, 1)) (hx : x < 4294967296) (kk : V k b (pc + 1) ls (.int (nI (x % 2)) :: st) h) : V k b pc ls (.int (nI 1) :: .int (nI x) :: st) h := V.iand hd (by rw [nI_and1 hx]; exact kk)
theorem V.iorN {x y : Nat} (hd : decode k.2.1.2.1 pc = .ok (.ior, 1)) (kk : V k b (pc + 1) ls (.int (nI (x ||| y)) :: st) h) : V k b pc ls (.int (nI y) :: .int (nI x) :: st) h := V.ior hd (by rw [nI_or]; exact kk)
theorem V.iincN {i : Nat} {n : Nat} {x : Nat} (hd : decode k.2.1.2.1 pc = .ok (.iinc i (n : Int), 3)) (hl : ls[i]? = some (some (.int (nI x)))) (hn : Nat.blt i k.2.1.2.2.1 = true) (hk : vlk ls i = true) (kk : V k b (pc + 3) (ls.set i (some (.int (nI (x + n))))) st h) : V k b pc ls st h := V.iinc hd hl (by rw [show Int32.ofInt (n : Int) = nI n from iI_nat n, nI_add]) hn hk kk
theorem V.iaddZ {x y : Int} (hd : decode k.2.1.2.1 pc = .ok (.iadd, 1)) (kk : V k b (pc + 1) ls (.int (iI (x + y)) :: st) h) : V k b pc ls (.int (iI y) :: .int (iI x) :: st) h := V.iadd hd (by rw [iI_add]; exact kk)
theorem V.isubZ {x y : Int} (hd : decode k.2.1.2.1 pc = .ok (.isub, 1)) (kk : V k b (pc + 1) ls (.int (iI (x - y)) :: st) h) : V k b pc ls (.int (iI y) :: .int (iI x) :: st) h := V.isub hd (by rw [iI_sub]; exact kk)
theorem V.imulZ {x y : Int} (hd : decode k.2.1.2.1 pc = .ok (.imul, 1)) (kk : V k b (pc + 1) ls (.int (iI (x * y)) :: st) h) : V k b pc ls (.int (iI y) :: .int (iI x) :: st) h := V.imul hd (by rw [iI_mul]; exact kk)
theorem V.inegZ {x : Int} (hd : decode k.2.1.2.1 pc = .ok (.ineg, 1)) (kk : V k b (pc + 1) ls (.int (iI (-x)) :: st) h) : V k b pc ls (.int (iI x) :: st) h := V.ineg hd (by rw [iI_neg]; exact kk)
theorem V.icmp_eqN {x y : Nat} {off : Int} (tgt : Nat) (hd : decode k.2.1.2.1 pc = .ok (.if_icmp .eq off, 3)) (ht : (pc : Int) + off = (tgt : Int)) (hx : x < 2147483648) (hy : y < 2147483648) (kt : x = y → V k b tgt ls st h) (kf : x ≠ y → V k b (pc + 3) ls st h) : V k b pc ls (.int (nI y) :: .int (nI x) :: st) h :=
  V.icmp_eq tgt hd ht (fun hc => kt ((nI_eq hx hy).mp hc)) (fun hc => kf (fun q => hc ((nI_eq hx hy).mpr q)))
theorem V.if_eqN {x : Nat} {off : Int} (tgt : Nat) (hd : decode k.2.1.2.1 pc = .ok (.ifCond .eq off, 3)) (ht : (pc : Int) + off = (tgt : Int)) (hx : x < 2147483648) (kt : x = 0 → V k b tgt ls st h) (kf : x ≠ 0 → V k b (pc + 3) ls st h) : V k b pc ls (.int (nI x) :: st) h := by
  have e := nI_eq hx (b := 0) (by omega)
  rw [nI_0] at e
  exact V.if_eq tgt hd ht (fun hc => kt (e.mp hc)) (fun hc => kf (fun q => hc (e.mpr q)))
theorem V.icmp_neN {x y : Nat} {off : Int} (tgt : Nat) (hd : decode k.2.1.2.1 pc = .ok (.if_icmp .ne off, 3)) (ht : (pc : Int) + off = (tgt : Int)) (hx : x < 2147483648) (hy : y < 2147483648) (kt : x ≠ y → V k b tgt ls st h) (kf : x = y → V k b (pc + 3) ls st h) : V k b pc ls (.int (nI y) :: .int (nI x) :: st) h :=
  V.icmp_ne tgt hd ht (fun hc => kt (fun q => hc ((nI_eq hx hy).mpr q))) (fun hc => kf ((nI_eq hx hy).mp hc))
theorem V.if_neN {x : Nat} {off : Int} (tgt : Nat) (hd : decode k.2.1.2.1 pc = .ok (.ifCond .ne off, 3)) (ht : (pc : Int) + off = (tgt : Int)) (hx : x < 2147483648) (kt : x ≠ 0 → V k b tgt ls st h) (kf : x = 0 → V k b (pc + 3) ls st h) : V k b pc ls (.int (nI x) :: st) h := by
  have e := nI_eq hx (b := 0) (by omega)
  rw [nI_0] at e
  exact V.if_ne tgt hd ht (fun hc => kt (fun q => hc (e.mpr q))) (fun hc => kf (e.mp hc))
theorem V.icmp_ltN {x y : Nat} {off : Int} (tgt : Nat) (hd : decode k.2.1.2.1 pc = .ok (.if_icmp .lt off, 3)) (ht : (pc : Int) + off = (tgt : Int)) (hx : x < 2147483648) (hy : y < 2147483648) (kt : x < y → V k b tgt ls st h) (kf : y ≤ x → V k b (pc + 3) ls st h) : V k b pc ls (.int (nI y) :: .int (nI x) :: st) h :=
  V.icmp_lt tgt hd ht (fun hc => kt ((nI_ltI hx hy).mp hc)) (fun hc => kf (by have q := (not_congr (nI_ltI hx hy)).mp hc; omega))
theorem V.if_ltN {x : Nat} {off : Int} (tgt : Nat) (hd : decode k.2.1.2.1 pc = .ok (.ifCond .lt off, 3)) (ht : (pc : Int) + off = (tgt : Int)) (hx : x < 2147483648) (kt : x < 0 → V k b tgt ls st h) (kf : 0 ≤ x → V k b (pc + 3) ls st h) : V k b pc ls (.int (nI x) :: st) h := by
  have e := nI_ltI hx (b := 0) (by omega)
  rw [nI_0] at e
  exact V.if_lt tgt hd ht (fun hc => kt (e.mp hc)) (fun hc => kf (by have q := (not_congr e).mp hc; omega))
theorem V.icmp_geN {x y : Nat} {off : Int} (tgt : Nat) (hd : decode k.2.1.2.1 pc = .ok (.if_icmp .ge off, 3)) (ht : (pc : Int) + off = (tgt : Int)) (hx : x < 2147483648) (hy : y < 2147483648) (kt : y ≤ x → V k b tgt ls st h) (kf : x < y → V k b (pc + 3) ls st h) : V k b pc ls (.int (nI y) :: .int (nI x) :: st) h :=
  V.icmp_ge tgt hd ht (fun hc => kt ((nI_leI hy hx).mp hc)) (fun hc => kf (by have q := (not_congr (nI_leI hy hx)).mp hc; omega))
theorem V.if_geN {x : Nat} {off : Int} (tgt : Nat) (hd : decode k.2.1.2.1 pc = .ok (.ifCond .ge off, 3)) (ht : (pc : Int) + off = (tgt : Int)) (hx : x < 2147483648) (kt : 0 ≤ x → V k b tgt ls st h) (kf : x < 0 → V k b (pc + 3) ls st h) : V k b pc ls (.int (nI x) :: st) h := by
  have e := nI_leI (a := 0) (by omega) hx
  rw [nI_0] at e
  exact V.if_ge tgt hd ht (fun hc => kt (e.mp hc)) (fun hc => kf (by have q := (not_congr e).mp hc; omega))
theorem V.icmp_gtN {x y : Nat} {off : Int} (tgt : Nat) (hd : decode k.2.1.2.1 pc = .ok (.if_icmp .gt off, 3)) (ht : (pc : Int) + off = (tgt : Int)) (hx : x < 2147483648) (hy : y < 2147483648) (kt : y < x → V k b tgt ls st h) (kf : x ≤ y → V k b (pc + 3) ls st h) : V k b pc ls (.int (nI y) :: .int (nI x) :: st) h :=
  V.icmp_gt tgt hd ht (fun hc => kt ((nI_ltI hy hx).mp hc)) (fun hc => kf (by have q := (not_congr (nI_ltI hy hx)).mp hc; omega))
theorem V.if_gtN {x : Nat} {off : Int} (tgt : Nat) (hd : decode k.2.1.2.1 pc = .ok (.ifCond .gt off, 3)) (ht : (pc : Int) + off = (tgt : Int)) (hx : x < 2147483648) (kt : 0 < x → V k b tgt ls st h) (kf : x ≤ 0 → V k b (pc + 3) ls st h) : V k b pc ls (.int (nI x) :: st) h := by
  have e := nI_ltI (a := 0) (by omega) hx
  rw [nI_0] at e
  exact V.if_gt tgt hd ht (fun hc => kt (e.mp hc)) (fun hc => kf (by have q := (not_congr e).mp hc; omega))
theorem V.icmp_leN {x y : Nat} {off : Int} (tgt : Nat) (hd : decode k.2.1.2.1 pc = .ok (.if_icmp .le off, 3)) (ht : (pc : Int) + off = (tgt : Int)) (hx : x < 2147483648) (hy : y < 2147483648) (kt : x ≤ y → V k b tgt ls st h) (kf : y < x → V k b (pc + 3) ls st h) : V k b pc ls (.int (nI y) :: .int (nI x) :: st) h :=
  V.icmp_le tgt hd ht (fun hc => kt ((nI_leI hx hy).mp hc)) (fun hc => kf (by have q := (not_congr (nI_leI hx hy)).mp hc; omega))
theorem V.if_leN {x : Nat} {off : Int} (tgt : Nat) (hd : decode k.2.1.2.1 pc = .ok (.ifCond .le off, 3)) (ht : (pc : Int) + off = (tgt : Int)) (hx : x < 2147483648) (kt : x ≤ 0 → V k b tgt ls st h) (kf : 0 < x → V k b (pc + 3) ls st h) : V k b pc ls (.int (nI x) :: st) h := by
  have e := nI_leI hx (b := 0) (by omega)
  rw [nI_0] at e
  exact V.if_le tgt hd ht (fun hc => kt (e.mp hc)) (fun hc => kf (by have q := (not_congr e).mp hc; omega))
theorem V.icmp_eqZ {x y : Int} {off : Int} (tgt : Nat) (hd : decode k.2.1.2.1 pc = .ok (.if_icmp .eq off, 3)) (ht : (pc : Int) + off = (tgt : Int)) (hx : -2147483648 ≤ x ∧ x < 2147483648) (hy : -2147483648 ≤ y ∧ y < 2147483648) (kt : x = y → V k b tgt ls st h) (kf : x ≠ y → V k b (pc + 3) ls st h) : V k b pc ls (.int (iI y) :: .int (iI x) :: st) h :=
  V.icmp_eq tgt hd ht (fun hc => kt ((iI_eq hx.1 hx.2 hy.1 hy.2).mp hc)) (fun hc => kf (fun q => hc ((iI_eq hx.1 hx.2 hy.1 hy.2).mpr q)))
theorem V.if_eqZ {x : Int} {off : Int} (tgt : Nat) (hd : decode k.2.1.2.1 pc = .ok (.ifCond .eq off, 3)) (ht : (pc : Int) + off = (tgt : Int)) (hx : -2147483648 ≤ x ∧ x < 2147483648) (kt : x = 0 → V k b tgt ls st h) (kf : x ≠ 0 → V k b (pc + 3) ls st h) : V k b pc ls (.int (iI x) :: st) h := by
  have e := iI_eq hx.1 hx.2 (b := 0) (by omega) (by omega)
  rw [iI_0] at e
  exact V.if_eq tgt hd ht (fun hc => kt (e.mp hc)) (fun hc => kf (fun q => hc (e.mpr q)))
theorem V.icmp_neZ {x y : Int} {off : Int} (tgt : Nat) (hd : decode k.2.1.2.1 pc = .ok (.if_icmp .ne off, 3)) (ht : (pc : Int) + off = (tgt : Int)) (hx : -2147483648 ≤ x ∧ x < 2147483648) (hy : -2147483648 ≤ y ∧ y < 2147483648) (kt : x ≠ y → V k b tgt ls st h) (kf : x = y → V k b (pc + 3) ls st h) : V k b pc ls (.int (iI y) :: .int (iI x) :: st) h :=
  V.icmp_ne tgt hd ht (fun hc => kt (fun q => hc ((iI_eq hx.1 hx.2 hy.1 hy.2).mpr q))) (fun hc => kf ((iI_eq hx.1 hx.2 hy.1 hy.2).mp hc))
theorem V.if_neZ {x : Int} {off : Int} (tgt : Nat) (hd : decode k.2.1.2.1 pc = .ok (.ifCond .ne off, 3)) (ht : (pc : Int) + off = (tgt : Int)) (hx : -2147483648 ≤ x ∧ x < 2147483648) (kt : x ≠ 0 → V k b tgt ls st h) (kf : x = 0 → V k b (pc + 3) ls st h) : V k b pc ls (.int (iI x) :: st) h := by
  have e := iI_eq hx.1 hx.2 (b := 0) (by omega) (by omega)
  rw [iI_0] at e
  exact V.if_ne tgt hd ht (fun hc => kt (fun q => hc (e.mpr q))) (fun hc => kf (e.mp hc))
theorem V.icmp_ltZ {x y : Int} {off : Int} (tgt : Nat) (hd : decode k.2.1.2.1 pc = .ok (.if_icmp .lt off, 3)) (ht : (pc : Int) + off = (tgt : Int)) (hx : -2147483648 ≤ x ∧ x < 2147483648) (hy : -2147483648 ≤ y ∧ y < 2147483648) (kt : x < y → V k b tgt ls st h) (kf : y ≤ x → V k b (pc + 3) ls st h) : V k b pc ls (.int (iI y) :: .int (iI x) :: st) h :=
  V.icmp_lt tgt hd ht (fun hc => kt ((iI_lt hx.1 hx.2 hy.1 hy.2).mp hc)) (fun hc => kf (by have q := (not_congr (iI_lt hx.1 hx.2 hy.1 hy.2)).mp hc; omega))
theorem V.if_ltZ {x : Int} {off : Int} (tgt : Nat) (hd : decode k.2.1.2.1 pc = .ok (.ifCond .lt off, 3)) (ht : (pc : Int) + off = (tgt : Int)) (hx : -2147483648 ≤ x ∧ x < 2147483648) (kt : x < 0 → V k b tgt ls st h) (kf : 0 ≤ x → V k b (pc + 3) ls st h) : V k b pc ls (.int (iI x) :: st) h := by
  have e := iI_lt hx.1 hx.2 (b := 0) (by omega) (by omega)
  rw [iI_0] at e
  exact V.if_lt tgt hd ht (fun hc => kt (e.mp hc)) (fun hc => kf (by have q := (not_congr e).mp hc; omega))
theorem V.icmp_geZ {x y : Int} {off : Int} (tgt : Nat) (hd : decode k.2.1.2.1 pc = .ok (.if_icmp .ge off, 3)) (ht : (pc : Int) + off = (tgt : Int)) (hx : -2147483648 ≤ x ∧ x < 2147483648) (hy : -2147483648 ≤ y ∧ y < 2147483648) (kt : y ≤ x → V k b tgt ls st h) (kf : x < y → V k b (pc + 3) ls st h) : V k b pc ls (.int (iI y) :: .int (iI x) :: st) h :=
  V.icmp_ge tgt hd ht (fun hc => kt ((iI_le hy.1 hy.2 hx.1 hx.2).mp hc)) (fun hc => kf (by have q := (not_congr (iI_le hy.1 hy.2 hx.1 hx.2)).mp hc; omega))
theorem V.if_geZ {x : Int} {off : Int} (tgt : Nat) (hd : decode k.2.1.2.1 pc = .ok (.ifCond .ge off, 3)) (ht : (pc : Int) + off = (tgt : Int)) (hx : -2147483648 ≤ x ∧ x < 2147483648) (kt : 0 ≤ x → V k b tgt ls st h) (kf : x < 0 → V k b (pc + 3) ls st h) : V k b pc ls (.int (iI x) :: st) h := by
  have e := iI_le (a := 0) (by omega) (by omega) hx.1 hx.2
  rw [iI_0] at e
  exact V.if_ge tgt hd ht (fun hc => kt (e.mp hc)) (fun hc => kf (by have q := (not_congr e).mp hc; omega))
theorem V.icmp_gtZ {x y : Int} {off : Int} (tgt : Nat) (hd : decode k.2.1.2.1 pc = .ok (.if_icmp .gt off, 3)) (ht : (pc : Int) + off = (tgt : Int)) (hx : -2147483648 ≤ x ∧ x < 2147483648) (hy : -2147483648 ≤ y ∧ y < 2147483648) (kt : y < x → V k b tgt ls st h) (kf : x ≤ y → V k b (pc + 3) ls st h) : V k b pc ls (.int (iI y) :: .int (iI x) :: st) h :=
  V.icmp_gt tgt hd ht (fun hc => kt ((iI_lt hy.1 hy.2 hx.1 hx.2).mp hc)) (fun hc => kf (by have q := (not_congr (iI_lt hy.1 hy.2 hx.1 hx.2)).mp hc; omega))
theorem V.if_gtZ {x : Int} {off : Int} (tgt : Nat) (hd : decode k.2.1.2.1 pc = .ok (.ifCond .gt off, 3)) (ht : (pc : Int) + off = (tgt : Int)) (hx : -2147483648 ≤ x ∧ x < 2147483648) (kt : 0 < x → V k b tgt ls st h) (kf : x ≤ 0 → V k b (pc + 3) ls st h) : V k b pc ls (.int (iI x) :: st) h := by
  have e := iI_lt (a := 0) (by omega) (by omega) hx.1 hx.2
  rw [iI_0] at e
  exact V.if_gt tgt hd ht (fun hc => kt (e.mp hc)) (fun hc => kf (by have q := (not_congr e).mp hc; omega))
theorem V.icmp_leZ {x y : Int} {off : Int} (tgt : Nat) (hd : decode k.2.1.2.1 pc = .ok (.if_icmp .le off, 3)) (ht : (pc : Int) + off = (tgt : Int)) (hx : -2147483648 ≤ x ∧ x < 2147483648) (hy : -2147483648 ≤ y ∧ y < 2147483648) (kt : x ≤ y → V k b tgt ls st h) (kf : y < x → V k b (pc + 3) ls st h) : V k b pc ls (.int (iI y) :: .int (iI x) :: st) h :=
  V.icmp_le tgt hd ht (fun hc => kt ((iI_le hx.1 hx.2 hy.1 hy.2).mp hc)) (fun hc => kf (by have q := (not_congr (iI_le hx.1 hx.2 hy.1 hy.2)).mp hc; omega))
theorem V.if_leZ {x : Int} {off : Int} (tgt : Nat) (hd : decode k.2.1.2.1 pc = .ok (.ifCond .le off, 3)) (ht : (pc : Int) + off = (tgt : Int)) (hx : -2147483648 ≤ x ∧ x < 2147483648) (kt : x ≤ 0 → V k b tgt ls st h) (kf : 0 < x → V k b (pc + 3) ls st h) : V k b pc ls (.int (iI x) :: st) h := by
  have e := iI_le hx.1 hx.2 (b := 0) (by omega) (by omega)
  rw [iI_0] at e
  exact V.if_le tgt hd ht (fun hc => kt (e.mp hc)) (fun hc => kf (by have q := (not_congr e).mp hc; omega))
theorem V.if_eqB {P : Prop} [Decidable P] {off : Int} (tgt : Nat) (hd : decode k.2.1.2.1 pc = .ok (.ifCond .eq off, 3)) (ht : (pc : Int) + off = (tgt : Int)) (kt : ¬ P → V k b tgt ls st h) (kf : P → V k b (pc + 3) ls st h) : V k b pc ls (.int (vB P) :: st) h :=
  V.if_eq tgt hd ht (fun hc => kt (fun q => by rw [vB_t q] at hc; revert hc; decide)) (fun hc => kf (Decidable.by_contra (fun q => hc (vB_f q))))
theorem V.if_neB {P : Prop} [Decidable P] {off : Int} (tgt : Nat) (hd : decode k.2.1.2.1 pc = .ok (.ifCond .ne off, 3)) (ht : (pc : Int) + off = (tgt : Int)) (kt : P → V k b tgt ls st h) (kf : ¬ P → V k b (pc + 3) ls st h) : V k b pc ls (.int (vB P) :: st) h :=
  V.if_ne tgt hd ht (fun hc => kt (Decidable.by_contra (fun q => hc (vB_f q)))) (fun hc => kf (fun q => by rw [vB_t q] at hc; revert hc; decide))
theorem V.callVp {idx n ci d a : Nat} {M : VM} {As rest fs : List Value} {x : Int32} (hc : vcV k.2.1.1.cls idx M n) (hE : VE k.1 M d false (0, 0) (.ref a :: As) h (VP x h)) (hd : decode k.2.1.2.1 pc = .ok (.invokevirtual idx, 3)) (hdp : d + 1 ≤ k.2.2.1) (hcl : (vwCl[ci]?).map (fun q => q.1) = some M.1.cls) (ha : h[a]? = some (.inr (.inr (ci, fs)))) (hst : st = As.reverse ++ .ref a :: rest) (hn : As.length = n) (hsz : (rest.map fun v => v.category).sum ≤ 8)
    (kk : V k b (pc + 3) ls (.int x :: rest) h) : V k b pc ls st h :=
  V.callV hc hE hd hdp hcl ha hst hn hsz (fun v h' hp => by obtain ⟨rfl, rfl⟩ := hp; exact kk)
theorem V.callSp {idx n d : Nat} {M : VM} {As rest : List Value} {x : Int32} (hc : vcS k.2.1.1.cls idx M n) (hE : VE k.1 M d false (0, 0) As h (VP x h)) (hd : decode k.2.1.2.1 pc = .ok (.invokestatic idx, 3)) (hdp : d + 1 ≤ k.2.2.1) (hst : st = As.reverse ++ rest) (hn : As.length = n) (hsz : (rest.map fun v => v.category).sum ≤ 8)
    (kk : V k b (pc + 3) ls (.int x :: rest) h) : V k b pc ls st h :=
  V.callS hc hE hd hdp hst hn hsz (fun v h' hp => by obtain ⟨rfl, rfl⟩ := hp; exact kk)
end VNat
/-- a loop that counts up to n -/
theorem vloop {P : Nat → Prop} (n : Nat) (h : ∀ i, (∀ j, i < j → j ≤ n → P j) → i ≤ n → P i) : ∀ i, i ≤ n → P i := by
  have key : ∀ m i, n - i ≤ m → i ≤ n → P i := by
    intro m
    induction m with
    | zero => intro i h1 h2; exact h i (fun j a b => absurd a (by omega)) h2
    | succ m ih => intro i h1 h2; exact h i (fun j a b => ih j (by omega) b) h2
  intro i hi
  exact key (n - i) i (Nat.le_refl _) hi
