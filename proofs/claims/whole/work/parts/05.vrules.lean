section VRules
variable {k : VK} {b : Nat × Nat} {pc : Nat} {ls : List (Option Value)} {st : List Value} {h : VHp}
theorem vlr_at {ad : VAd} {nL : Nat} {lsr : Array Slot} (r : VLR ad nL ls lsr) {i : Nat} {v : Value} (hi : ls[i]? = some (some v)) : lsr[i]? = some (.val (mv ad v)) := r.2.2.2 i v hi

theorem V.iconst {n : Int} {v : Int32} (hd : decode k.2.1.2.1 pc = .ok (.iconst n, 1)) (hv : Int32.ofInt n = v) (kk : V k b (pc + 1) ls (.int v :: st) h) : V k b pc ls (st) h :=
  fun p e R s m args below meth c Q A ad0 F ad H locs cells slots lsr r => lv_iconst F.1.1 F.1.2.1 hd hv (kk p e R s m args below meth c Q A ad0 F ad H locs cells slots lsr r)

theorem V.bipush {n : Int} {v : Int32} (hd : decode k.2.1.2.1 pc = .ok (.bipush n, 2)) (hv : (Int8.ofInt n).toInt32 = v) (kk : V k b (pc + 2) ls (.int v :: st) h) : V k b pc ls (st) h :=
  fun p e R s m args below meth c Q A ad0 F ad H locs cells slots lsr r => lv_bipush F.1.1 F.1.2.1 hd hv (kk p e R s m args below meth c Q A ad0 F ad H locs cells slots lsr r)

theorem V.sipush {n : Int} {v : Int32} (hd : decode k.2.1.2.1 pc = .ok (.sipush n, 3)) (hv : (Int16.ofInt n).toInt32 = v) (kk : V k b (pc + 3) ls (.int v :: st) h) : V k b pc ls (st) h :=
  fun p e R s m args below meth c Q A ad0 F ad H locs cells slots lsr r => lv_sipush F.1.1 F.1.2.1 hd hv (kk p e R s m args below meth c Q A ad0 F ad H locs cells slots lsr r)

theorem V.lconst {n : Fin 2} {v : Int64} (hd : decode k.2.1.2.1 pc = .ok (.lconst n, 1)) (hv : Int64.ofNat (n : Nat) = v) (kk : V k b (pc + 1) ls (.long v :: st) h) : V k b pc ls (st) h :=
  fun p e R s m args below meth c Q A ad0 F ad H locs cells slots lsr r => lv_lconst F.1.1 F.1.2.1 hd hv (kk p e R s m args below meth c Q A ad0 F ad H locs cells slots lsr r)

theorem V.iload_n {f : Fin 4} {x : Int32} (hd : decode k.2.1.2.1 pc = .ok (.iload_n f, 1)) (hl : ls[(f : Nat)]? = some (some (.int x))) (kk : V k b (pc + 1) ls (.int x :: st) h) : V k b pc ls (st) h :=
  fun p e R s m args below meth c Q A ad0 F ad H locs cells slots lsr r => lv_iload_n F.1.1 F.1.2.1 hd rfl (vlr_at r.2.2.2.2.1 hl) (kk p e R s m args below meth c Q A ad0 F ad H locs cells slots lsr r)

theorem V.iload {i : Nat} {x : Int32} (hd : decode k.2.1.2.1 pc = .ok (.iload i, 2)) (hl : ls[i]? = some (some (.int x))) (kk : V k b (pc + 2) ls (.int x :: st) h) : V k b pc ls (st) h :=
  fun p e R s m args below meth c Q A ad0 F ad H locs cells slots lsr r => lv_iload F.1.1 F.1.2.1 hd (vlr_at r.2.2.2.2.1 hl) (kk p e R s m args below meth c Q A ad0 F ad H locs cells slots lsr r)

theorem V.aload_n {f : Fin 4} {x : Nat} (hd : decode k.2.1.2.1 pc = .ok (.aload_n f, 1)) (hl : ls[(f : Nat)]? = some (some (.ref x))) (kk : V k b (pc + 1) ls (.ref x :: st) h) : V k b pc ls (st) h :=
  fun p e R s m args below meth c Q A ad0 F ad H locs cells slots lsr r => lv_aload_n F.1.1 F.1.2.1 hd rfl (vlr_at r.2.2.2.2.1 hl) (kk p e R s m args below meth c Q A ad0 F ad H locs cells slots lsr r)

theorem V.aload {i : Nat} {x : Nat} (hd : decode k.2.1.2.1 pc = .ok (.aload i, 2)) (hl : ls[i]? = some (some (.ref x))) (kk : V k b (pc + 2) ls (.ref x :: st) h) : V k b pc ls (st) h :=
  fun p e R s m args below meth c Q A ad0 F ad H locs cells slots lsr r => lv_aload F.1.1 F.1.2.1 hd (vlr_at r.2.2.2.2.1 hl) (kk p e R s m args below meth c Q A ad0 F ad H locs cells slots lsr r)

theorem V.lload_n {f : Fin 4} {x : Int64} (hd : decode k.2.1.2.1 pc = .ok (.lload_n f, 1)) (hl : ls[(f : Nat)]? = some (some (.long x))) (kk : V k b (pc + 1) ls (.long x :: st) h) : V k b pc ls (st) h :=
  fun p e R s m args below meth c Q A ad0 F ad H locs cells slots lsr r => lv_lload_n F.1.1 F.1.2.1 hd rfl (vlr_at r.2.2.2.2.1 hl) (kk p e R s m args below meth c Q A ad0 F ad H locs cells slots lsr r)

theorem V.lload {i : Nat} {x : Int64} (hd : decode k.2.1.2.1 pc = .ok (.lload i, 2)) (hl : ls[i]? = some (some (.long x))) (kk : V k b (pc + 2) ls (.long x :: st) h) : V k b pc ls (st) h :=
  fun p e R s m args below meth c Q A ad0 F ad H locs cells slots lsr r => lv_lload F.1.1 F.1.2.1 hd (vlr_at r.2.2.2.2.1 hl) (kk p e R s m args below meth c Q A ad0 F ad H locs cells slots lsr r)

theorem V.iadd {x y : Int32} (hd : decode k.2.1.2.1 pc = .ok (.iadd, 1))  (kk : V k b (pc + 1) ls (.int (x + y) :: st) h) : V k b pc ls (.int y :: .int x :: st) h :=
  fun p e R s m args below meth c Q A ad0 F ad H locs cells slots lsr r => lv_iadd F.1.1 F.1.2.1 hd (kk p e R s m args below meth c Q A ad0 F ad H locs cells slots lsr r)

theorem V.isub {x y : Int32} (hd : decode k.2.1.2.1 pc = .ok (.isub, 1))  (kk : V k b (pc + 1) ls (.int (x - y) :: st) h) : V k b pc ls (.int y :: .int x :: st) h :=
  fun p e R s m args below meth c Q A ad0 F ad H locs cells slots lsr r => lv_isub F.1.1 F.1.2.1 hd (kk p e R s m args below meth c Q A ad0 F ad H locs cells slots lsr r)

theorem V.imul {x y : Int32} (hd : decode k.2.1.2.1 pc = .ok (.imul, 1))  (kk : V k b (pc + 1) ls (.int (x * y) :: st) h) : V k b pc ls (.int y :: .int x :: st) h :=
  fun p e R s m args below meth c Q A ad0 F ad H locs cells slots lsr r => lv_imul F.1.1 F.1.2.1 hd (kk p e R s m args below meth c Q A ad0 F ad H locs cells slots lsr r)

theorem V.iand {x y : Int32} (hd : decode k.2.1.2.1 pc = .ok (.iand, 1))  (kk : V k b (pc + 1) ls (.int (x &&& y) :: st) h) : V k b pc ls (.int y :: .int x :: st) h :=
  fun p e R s m args below meth c Q A ad0 F ad H locs cells slots lsr r => lv_iand F.1.1 F.1.2.1 hd (kk p e R s m args below meth c Q A ad0 F ad H locs cells slots lsr r)

theorem V.ior {x y : Int32} (hd : decode k.2.1.2.1 pc = .ok (.ior, 1))  (kk : V k b (pc + 1) ls (.int (x ||| y) :: st) h) : V k b pc ls (.int y :: .int x :: st) h :=
  fun p e R s m args below meth c Q A ad0 F ad H locs cells slots lsr r => lv_ior F.1.1 F.1.2.1 hd (kk p e R s m args below meth c Q A ad0 F ad H locs cells slots lsr r)

theorem V.ishl {x y : Int32} (hd : decode k.2.1.2.1 pc = .ok (.ishl, 1))  (kk : V k b (pc + 1) ls (.int (x <<< (y &&& 31)) :: st) h) : V k b pc ls (.int y :: .int x :: st) h :=
  fun p e R s m args below meth c Q A ad0 F ad H locs cells slots lsr r => lv_ishl F.1.1 F.1.2.1 hd (kk p e R s m args below meth c Q A ad0 F ad H locs cells slots lsr r)

theorem V.ishr {x y : Int32} (hd : decode k.2.1.2.1 pc = .ok (.ishr, 1))  (kk : V k b (pc + 1) ls (.int (x >>> (y &&& 31)) :: st) h) : V k b pc ls (.int y :: .int x :: st) h :=
  fun p e R s m args below meth c Q A ad0 F ad H locs cells slots lsr r => lv_ishr F.1.1 F.1.2.1 hd (kk p e R s m args below meth c Q A ad0 F ad H locs cells slots lsr r)

theorem V.idiv {x y : Int32} (hd : decode k.2.1.2.1 pc = .ok (.idiv, 1)) (hy : ¬ y = 0) (kk : V k b (pc + 1) ls (.int (x / y) :: st) h) : V k b pc ls (.int y :: .int x :: st) h :=
  fun p e R s m args below meth c Q A ad0 F ad H locs cells slots lsr r => lv_idiv F.1.1 F.1.2.1 hd hy (kk p e R s m args below meth c Q A ad0 F ad H locs cells slots lsr r)

theorem V.irem {x y : Int32} (hd : decode k.2.1.2.1 pc = .ok (.irem, 1)) (hy : ¬ y = 0) (kk : V k b (pc + 1) ls (.int (x - x / y * y) :: st) h) : V k b pc ls (.int y :: .int x :: st) h :=
  fun p e R s m args below meth c Q A ad0 F ad H locs cells slots lsr r => lv_irem F.1.1 F.1.2.1 hd hy (kk p e R s m args below meth c Q A ad0 F ad H locs cells slots lsr r)

theorem V.ladd {x y : Int64} (hd : decode k.2.1.2.1 pc = .ok (.ladd, 1))  (kk : V k b (pc + 1) ls (.long (x + y) :: st) h) : V k b pc ls (.long y :: .long x :: st) h :=
  fun p e R s m args below meth c Q A ad0 F ad H locs cells slots lsr r => lv_ladd F.1.1 F.1.2.1 hd (kk p e R s m args below meth c Q A ad0 F ad H locs cells slots lsr r)

theorem V.lmul {x y : Int64} (hd : decode k.2.1.2.1 pc = .ok (.lmul, 1))  (kk : V k b (pc + 1) ls (.long (x * y) :: st) h) : V k b pc ls (.long y :: .long x :: st) h :=
  fun p e R s m args below meth c Q A ad0 F ad H locs cells slots lsr r => lv_lmul F.1.1 F.1.2.1 hd (kk p e R s m args below meth c Q A ad0 F ad H locs cells slots lsr r)

theorem V.lrem {x y : Int64} (hd : decode k.2.1.2.1 pc = .ok (.lrem, 1)) (hy : ¬ y = 0) (kk : V k b (pc + 1) ls (.long (x - x / y * y) :: st) h) : V k b pc ls (.long y :: .long x :: st) h :=
  fun p e R s m args below meth c Q A ad0 F ad H locs cells slots lsr r => lv_lrem F.1.1 F.1.2.1 hd hy (kk p e R s m args below meth c Q A ad0 F ad H locs cells slots lsr r)

theorem V.ineg {x : Int32} (hd : decode k.2.1.2.1 pc = .ok (.ineg, 1))  (kk : V k b (pc + 1) ls (.int (-x) :: st) h) : V k b pc ls (.int x :: st) h :=
  fun p e R s m args below meth c Q A ad0 F ad H locs cells slots lsr r => lv_ineg F.1.1 F.1.2.1 hd (kk p e R s m args below meth c Q A ad0 F ad H locs cells slots lsr r)

theorem V.i2l {x : Int32} (hd : decode k.2.1.2.1 pc = .ok (.i2l, 1))  (kk : V k b (pc + 1) ls (.long x.toInt64 :: st) h) : V k b pc ls (.int x :: st) h :=
  fun p e R s m args below meth c Q A ad0 F ad H locs cells slots lsr r => lv_i2l F.1.1 F.1.2.1 hd rfl (kk p e R s m args below meth c Q A ad0 F ad H locs cells slots lsr r)

theorem V.l2i {x : Int64} (hd : decode k.2.1.2.1 pc = .ok (.l2i, 1))  (kk : V k b (pc + 1) ls (.int x.toInt32 :: st) h) : V k b pc ls (.long x :: st) h :=
  fun p e R s m args below meth c Q A ad0 F ad H locs cells slots lsr r => lv_l2i F.1.1 F.1.2.1 hd rfl (kk p e R s m args below meth c Q A ad0 F ad H locs cells slots lsr r)

theorem V.i2c {x : Int32} (hd : decode k.2.1.2.1 pc = .ok (.i2c, 1))  (kk : V k b (pc + 1) ls (.int (x.toUInt32 % 65536).toInt32 :: st) h) : V k b pc ls (.int x :: st) h :=
  fun p e R s m args below meth c Q A ad0 F ad H locs cells slots lsr r => lv_i2c F.1.1 F.1.2.1 hd rfl (kk p e R s m args below meth c Q A ad0 F ad H locs cells slots lsr r)

theorem V.dup {v : Value} (hd : decode k.2.1.2.1 pc = .ok (.dup, 1)) (hc : v.category = 1) (kk : V k b (pc + 1) ls (v :: v :: st) h) : V k b pc ls (v :: st) h :=
  fun p e R s m args below meth c Q A ad0 F ad H locs cells slots lsr r => lv_dup F.1.1 F.1.2.1 hd (by rw [mv_cat]; exact hc) (kk p e R s m args below meth c Q A ad0 F ad H locs cells slots lsr r)

theorem V.pop {v : Value} (hd : decode k.2.1.2.1 pc = .ok (.pop, 1)) (hc : v.category = 1) (kk : V k b (pc + 1) ls (st) h) : V k b pc ls (v :: st) h :=
  fun p e R s m args below meth c Q A ad0 F ad H locs cells slots lsr r => lv_pop F.1.1 F.1.2.1 hd (by rw [mv_cat]; exact hc) (kk p e R s m args below meth c Q A ad0 F ad H locs cells slots lsr r)

theorem V.dup2 {v w : Value} (hd : decode k.2.1.2.1 pc = .ok (.dup2, 1)) (hc : v.category = 1) (hc2 : w.category = 1) (kk : V k b (pc + 1) ls (v :: w :: v :: w :: st) h) : V k b pc ls (v :: w :: st) h :=
  fun p e R s m args below meth c Q A ad0 F ad H locs cells slots lsr r => lv_dup2_11 F.1.1 F.1.2.1 hd (by rw [mv_cat]; exact hc) (by rw [mv_cat]; exact hc2) (kk p e R s m args below meth c Q A ad0 F ad H locs cells slots lsr r)

theorem V.ldc2 {idx : Nat} {v : Int64} (hd : decode k.2.1.2.1 pc = .ok (.ldc2_w idx, 3)) (hw : Cond.constantLong k.2.1.1.cls idx v ∈ vtS) (kk : V k b (pc + 3) ls (.long v :: st) h) : V k b pc ls (st) h :=
  fun p e R s m args below meth c Q A ad0 F ad H locs cells slots lsr r => lv_ldc2 F.1.1 F.1.2.1 F.1.2.2.2.1 (F.1.2.2.2.2.1 _ hw) hd (kk p e R s m args below meth c Q A ad0 F ad H locs cells slots lsr r)

theorem V.icmp_eq {x y : Int32} {off : Int} (tgt : Nat) (hd : decode k.2.1.2.1 pc = .ok (.if_icmp .eq off, 3)) (ht : (pc : Int) + off = (tgt : Int)) (kt : x = y → V k b tgt ls st h) (kf : ¬ (x = y) → V k b (pc + 3) ls st h) : V k b pc ls (.int y :: .int x :: st) h :=
  fun p e R s m args below meth c Q A ad0 F ad H locs cells slots lsr r => lv_icmp_eq F.1.1 F.1.2.1 hd ht (fun hc => (kt hc) p e R s m args below meth c Q A ad0 F ad H locs cells slots lsr r) (fun hc => (kf hc) p e R s m args below meth c Q A ad0 F ad H locs cells slots lsr r)

theorem V.icmp_ne {x y : Int32} {off : Int} (tgt : Nat) (hd : decode k.2.1.2.1 pc = .ok (.if_icmp .ne off, 3)) (ht : (pc : Int) + off = (tgt : Int)) (kt : ¬ x = y → V k b tgt ls st h) (kf : x = y → V k b (pc + 3) ls st h) : V k b pc ls (.int y :: .int x :: st) h :=
  fun p e R s m args below meth c Q A ad0 F ad H locs cells slots lsr r => lv_icmp_ne F.1.1 F.1.2.1 hd ht (fun hc => (kt hc) p e R s m args below meth c Q A ad0 F ad H locs cells slots lsr r) (fun hc => (kf hc) p e R s m args below meth c Q A ad0 F ad H locs cells slots lsr r)

theorem V.icmp_lt {x y : Int32} {off : Int} (tgt : Nat) (hd : decode k.2.1.2.1 pc = .ok (.if_icmp .lt off, 3)) (ht : (pc : Int) + off = (tgt : Int)) (kt : x < y → V k b tgt ls st h) (kf : ¬ (x < y) → V k b (pc + 3) ls st h) : V k b pc ls (.int y :: .int x :: st) h :=
  fun p e R s m args below meth c Q A ad0 F ad H locs cells slots lsr r => lv_icmp_lt F.1.1 F.1.2.1 hd ht (fun hc => (kt hc) p e R s m args below meth c Q A ad0 F ad H locs cells slots lsr r) (fun hc => (kf hc) p e R s m args below meth c Q A ad0 F ad H locs cells slots lsr r)

theorem V.icmp_ge {x y : Int32} {off : Int} (tgt : Nat) (hd : decode k.2.1.2.1 pc = .ok (.if_icmp .ge off, 3)) (ht : (pc : Int) + off = (tgt : Int)) (kt : y ≤ x → V k b tgt ls st h) (kf : ¬ (y ≤ x) → V k b (pc + 3) ls st h) : V k b pc ls (.int y :: .int x :: st) h :=
  fun p e R s m args below meth c Q A ad0 F ad H locs cells slots lsr r => lv_icmp_ge F.1.1 F.1.2.1 hd ht (fun hc => (kt hc) p e R s m args below meth c Q A ad0 F ad H locs cells slots lsr r) (fun hc => (kf hc) p e R s m args below meth c Q A ad0 F ad H locs cells slots lsr r)

theorem V.icmp_gt {x y : Int32} {off : Int} (tgt : Nat) (hd : decode k.2.1.2.1 pc = .ok (.if_icmp .gt off, 3)) (ht : (pc : Int) + off = (tgt : Int)) (kt : y < x → V k b tgt ls st h) (kf : ¬ (y < x) → V k b (pc + 3) ls st h) : V k b pc ls (.int y :: .int x :: st) h :=
  fun p e R s m args below meth c Q A ad0 F ad H locs cells slots lsr r => lv_icmp_gt F.1.1 F.1.2.1 hd ht (fun hc => (kt hc) p e R s m args below meth c Q A ad0 F ad H locs cells slots lsr r) (fun hc => (kf hc) p e R s m args below meth c Q A ad0 F ad H locs cells slots lsr r)

theorem V.icmp_le {x y : Int32} {off : Int} (tgt : Nat) (hd : decode k.2.1.2.1 pc = .ok (.if_icmp .le off, 3)) (ht : (pc : Int) + off = (tgt : Int)) (kt : x ≤ y → V k b tgt ls st h) (kf : ¬ (x ≤ y) → V k b (pc + 3) ls st h) : V k b pc ls (.int y :: .int x :: st) h :=
  fun p e R s m args below meth c Q A ad0 F ad H locs cells slots lsr r => lv_icmp_le F.1.1 F.1.2.1 hd ht (fun hc => (kt hc) p e R s m args below meth c Q A ad0 F ad H locs cells slots lsr r) (fun hc => (kf hc) p e R s m args below meth c Q A ad0 F ad H locs cells slots lsr r)

theorem V.if_eq {x : Int32} {off : Int} (tgt : Nat) (hd : decode k.2.1.2.1 pc = .ok (.ifCond .eq off, 3)) (ht : (pc : Int) + off = (tgt : Int)) (kt : x = 0 → V k b tgt ls st h) (kf : ¬ (x = 0) → V k b (pc + 3) ls st h) : V k b pc ls (.int x :: st) h :=
  fun p e R s m args below meth c Q A ad0 F ad H locs cells slots lsr r => lv_if_eq F.1.1 F.1.2.1 hd ht (fun hc => (kt hc) p e R s m args below meth c Q A ad0 F ad H locs cells slots lsr r) (fun hc => (kf hc) p e R s m args below meth c Q A ad0 F ad H locs cells slots lsr r)

theorem V.if_ne {x : Int32} {off : Int} (tgt : Nat) (hd : decode k.2.1.2.1 pc = .ok (.ifCond .ne off, 3)) (ht : (pc : Int) + off = (tgt : Int)) (kt : ¬ x = 0 → V k b tgt ls st h) (kf : x = 0 → V k b (pc + 3) ls st h) : V k b pc ls (.int x :: st) h :=
  fun p e R s m args below meth c Q A ad0 F ad H locs cells slots lsr r => lv_if_ne F.1.1 F.1.2.1 hd ht (fun hc => (kt hc) p e R s m args below meth c Q A ad0 F ad H locs cells slots lsr r) (fun hc => (kf hc) p e R s m args below meth c Q A ad0 F ad H locs cells slots lsr r)

theorem V.if_lt {x : Int32} {off : Int} (tgt : Nat) (hd : decode k.2.1.2.1 pc = .ok (.ifCond .lt off, 3)) (ht : (pc : Int) + off = (tgt : Int)) (kt : x < 0 → V k b tgt ls st h) (kf : ¬ (x < 0) → V k b (pc + 3) ls st h) : V k b pc ls (.int x :: st) h :=
  fun p e R s m args below meth c Q A ad0 F ad H locs cells slots lsr r => lv_if_lt F.1.1 F.1.2.1 hd ht (fun hc => (kt hc) p e R s m args below meth c Q A ad0 F ad H locs cells slots lsr r) (fun hc => (kf hc) p e R s m args below meth c Q A ad0 F ad H locs cells slots lsr r)

theorem V.if_ge {x : Int32} {off : Int} (tgt : Nat) (hd : decode k.2.1.2.1 pc = .ok (.ifCond .ge off, 3)) (ht : (pc : Int) + off = (tgt : Int)) (kt : 0 ≤ x → V k b tgt ls st h) (kf : ¬ (0 ≤ x) → V k b (pc + 3) ls st h) : V k b pc ls (.int x :: st) h :=
  fun p e R s m args below meth c Q A ad0 F ad H locs cells slots lsr r => lv_if_ge F.1.1 F.1.2.1 hd ht (fun hc => (kt hc) p e R s m args below meth c Q A ad0 F ad H locs cells slots lsr r) (fun hc => (kf hc) p e R s m args below meth c Q A ad0 F ad H locs cells slots lsr r)

theorem V.if_gt {x : Int32} {off : Int} (tgt : Nat) (hd : decode k.2.1.2.1 pc = .ok (.ifCond .gt off, 3)) (ht : (pc : Int) + off = (tgt : Int)) (kt : 0 < x → V k b tgt ls st h) (kf : ¬ (0 < x) → V k b (pc + 3) ls st h) : V k b pc ls (.int x :: st) h :=
  fun p e R s m args below meth c Q A ad0 F ad H locs cells slots lsr r => lv_if_gt F.1.1 F.1.2.1 hd ht (fun hc => (kt hc) p e R s m args below meth c Q A ad0 F ad H locs cells slots lsr r) (fun hc => (kf hc) p e R s m args below meth c Q A ad0 F ad H locs cells slots lsr r)

theorem V.if_le {x : Int32} {off : Int} (tgt : Nat) (hd : decode k.2.1.2.1 pc = .ok (.ifCond .le off, 3)) (ht : (pc : Int) + off = (tgt : Int)) (kt : x ≤ 0 → V k b tgt ls st h) (kf : ¬ (x ≤ 0) → V k b (pc + 3) ls st h) : V k b pc ls (.int x :: st) h :=
  fun p e R s m args below meth c Q A ad0 F ad H locs cells slots lsr r => lv_if_le F.1.1 F.1.2.1 hd ht (fun hc => (kt hc) p e R s m args below meth c Q A ad0 F ad H locs cells slots lsr r) (fun hc => (kf hc) p e R s m args below meth c Q A ad0 F ad H locs cells slots lsr r)

theorem V.goto {off : Int} (tgt : Nat) (hd : decode k.2.1.2.1 pc = .ok (.goto off, 3)) (ht : (pc : Int) + off = (tgt : Int)) (kk : V k b tgt ls st h) : V k b pc ls st h :=
  fun p e R s m args below meth c Q A ad0 F ad H locs cells slots lsr r => lv_goto F.1.1 F.1.2.1 hd ht (kk p e R s m args below meth c Q A ad0 F ad H locs cells slots lsr r)

theorem V.tabIn {dflt lo hi : Int} {offs : Array Int} {len : Nat} {x : Int32} {off : Int} (tgt : Nat) (hd : decode k.2.1.2.1 pc = .ok (.tableswitch dflt lo hi offs, len)) (h1 : ¬ x.toInt < lo) (h2 : ¬ hi < x.toInt) (ho : offs[(x.toInt - lo).toNat]? = some off) (ht : (pc : Int) + off = (tgt : Int)) (kk : V k b tgt ls st h) : V k b pc ls (.int x :: st) h :=
  fun p e R s m args below meth c Q A ad0 F ad H locs cells slots lsr r => lv_tableIn F.1.1 F.1.2.1 hd h1 h2 ho ht (kk p e R s m args below meth c Q A ad0 F ad H locs cells slots lsr r)

theorem V.tabOut {dflt lo hi : Int} {offs : Array Int} {len : Nat} {x : Int32} (tgt : Nat) (hd : decode k.2.1.2.1 pc = .ok (.tableswitch dflt lo hi offs, len)) (h1 : x.toInt < lo ∨ hi < x.toInt) (ht : (pc : Int) + dflt = (tgt : Int)) (kk : V k b tgt ls st h) : V k b pc ls (.int x :: st) h :=
  fun p e R s m args below meth c Q A ad0 F ad H locs cells slots lsr r => lv_tableOut F.1.1 F.1.2.1 hd h1 ht (kk p e R s m args below meth c Q A ad0 F ad H locs cells slots lsr r)

theorem V.lookup {dflt : Int} {ps : Array (Int × Int)} {len : Nat} {x : Int32} {off : Int} (tgt : Nat) (hd : decode k.2.1.2.1 pc = .ok (.lookupswitch dflt ps, len)) (hp : (ps.toList.zip (ps.toList.drop 1)).all (fun (a, next) => a.1 < next.1) = true) (ho : Op.lookupswitch.offset ps.toList dflt x.toInt = off) (ht : (pc : Int) + off = (tgt : Int)) (kk : V k b tgt ls st h) : V k b pc ls (.int x :: st) h :=
  fun p e R s m args below meth c Q A ad0 F ad H locs cells slots lsr r => lv_lookup F.1.1 F.1.2.1 hd hp ho ht (kk p e R s m args below meth c Q A ad0 F ad H locs cells slots lsr r)

/-- the locals as the kit lists them -/
def vlv (ad : VAd) (ls : List (Option Value)) : List (Nat × Value) := (List.range ls.length).filterMap (fun i => match ls[i]? with
  | some (some v) => some (i, mv ad v)
  | _ => none)
theorem vlv_mem {ad : VAd} {ls : List (Option Value)} {i : Nat} {v : Value} (hi : ls[i]? = some (some v)) : (i, mv ad v) ∈ vlv ad ls := by
  refine List.mem_filterMap.mpr ⟨i, List.mem_range.mpr (List.getElem?_eq_some_iff.mp hi).1, ?_⟩
  rw [hi]
theorem vlv_has {ad : VAd} {nL : Nat} {ls : List (Option Value)} {lsr : Array Slot} (r : VLR ad nL ls lsr) : lv_has lsr nL (vlv ad ls) := by
  refine ⟨r.2.1, r.2.2.1, fun q hq => ?_⟩
  obtain ⟨i, -, hi⟩ := List.mem_filterMap.mp hq
  split at hi
  next v hv => cases hi; exact r.2.2.2 i v hv
  next => cases hi
/-- no long ends at the place -/
def vlk (ls : List (Option Value)) (i : Nat) : Bool := match i with
  | 0 => true
  | j + 1 => match ls[j]? with
    | some (some v) => v.category == 1
    | _ => true
theorem vlr_set {ad : VAd} {nL : Nat} {ls : List (Option Value)} {lsr lsr' : Array Slot} {i : Nat} {v : Value} (r : VLR ad nL ls lsr) (hk : vlk ls i = true)
    (h : lv_has lsr' nL ((i, mv ad v) :: (vlv ad ls).filter (fun q => !(q.1 == i) && !(q.1 + 1 == i && q.2.category == 2)))) : VLR ad nL (ls.set i (some v)) lsr' := by
  refine ⟨by rw [List.length_set]; exact r.1, h.1, h.2.1, fun j w hj => ?_⟩
  by_cases e : i = j
  · subst e
    rw [List.getElem?_set] at hj
    simp only [if_true] at hj
    split at hj
    next => cases hj; exact h.2.2 _ List.mem_cons_self
    next => cases hj
  · rw [List.getElem?_set_ne e] at hj
    refine h.2.2 (j, mv ad w) (List.mem_cons_of_mem _ (List.mem_filter.mpr ⟨vlv_mem hj, ?_⟩))
    have e1 : (j == i) = false := by simpa using fun q => e q.symm
    simp only [e1, Bool.not_false, Bool.true_and, mv_cat]
    by_cases e2 : j + 1 = i
    · subst e2
      simp only [vlk, hj, beq_iff_eq] at hk
      simp [hk]
    · simp [e2]
theorem vlr_setL {ad : VAd} {nL : Nat} {ls : List (Option Value)} {lsr lsr' : Array Slot} {i : Nat} {x : Int64} (r : VLR ad nL ls lsr) (hk : vlk ls i = true)
    (h : lv_has lsr' nL ((i, .long x) :: (vlv ad ls).filter (fun q => !(q.1 == i) && (!(q.1 == i + 1) && !(q.1 + 1 == i && q.2.category == 2))))) : VLR ad nL ((ls.set i (some (.long x))).set (i + 1) none) lsr' := by
  refine ⟨by rw [List.length_set, List.length_set]; exact r.1, h.1, h.2.1, fun j w hj => ?_⟩
  by_cases e0 : i + 1 = j
  · subst e0
    rw [List.getElem?_set] at hj
    simp only [if_true] at hj
    split at hj <;> cases hj
  · rw [List.getElem?_set_ne e0] at hj
    by_cases e : i = j
    · subst e
      rw [List.getElem?_set] at hj
      simp only [if_true] at hj
      split at hj
      next => cases hj; exact h.2.2 _ List.mem_cons_self
      next => cases hj
    · rw [List.getElem?_set_ne e] at hj
      refine h.2.2 (j, mv ad w) (List.mem_cons_of_mem _ (List.mem_filter.mpr ⟨vlv_mem hj, ?_⟩))
      have e1 : (j == i) = false := by simpa using fun q => e q.symm
      have e3 : (j == i + 1) = false := by simpa using fun q => e0 q.symm
      simp only [e1, e3, Bool.not_false, Bool.true_and, mv_cat]
      by_cases e2 : j + 1 = i
      · subst e2
        simp only [vlk, hj, beq_iff_eq] at hk
        simp [hk]
      · simp [e2]
theorem VRl.loc {k : VK} {b : Nat × Nat} {ls ls' : List (Option Value)} {h : VHp} {R : Room} {s : State} {A : Nat → Prop} {ad0 ad : VAd} {H : Heap} {locs : List Loc} {cells slots : Nat} {lsr lsr' : Array Slot} (r : VRl k b ls h R s A ad0 ad H locs cells slots lsr) (hl : VLR ad k.2.1.2.2.1 ls' lsr') : VRl k b ls' h R s A ad0 ad H locs cells slots lsr' :=
  ⟨r.1, r.2.1, r.2.2.1, r.2.2.2.1, hl, r.2.2.2.2.2⟩

theorem V.istore_n {f : Fin 4} {i : Nat} {x : Int32} (hd : decode k.2.1.2.1 pc = .ok (.istore_n f, 1)) (hi : (f : Nat) = i) (hn : Nat.blt i k.2.1.2.2.1 = true) (hk : vlk ls i = true) (kk : V k b (pc + 1) (ls.set i (some (.int x))) st h) : V k b pc ls (.int x :: st) h :=
  fun p e R s m args below meth c Q A ad0 F ad H locs cells slots lsr r => lv_istore_n F.1.1 F.1.2.1 hd hi (vlv_has r.2.2.2.2.1) (Nat.le_of_ble_eq_true hn) rfl (fun lsr' hl' => kk p e R s m args below meth c Q A ad0 F ad H locs cells slots lsr' (r.loc (vlr_set r.2.2.2.2.1 hk hl')))

theorem V.istore {i : Nat} {x : Int32} (hd : decode k.2.1.2.1 pc = .ok (.istore i, 2)) (hn : Nat.blt i k.2.1.2.2.1 = true) (hk : vlk ls i = true) (kk : V k b (pc + 2) (ls.set i (some (.int x))) st h) : V k b pc ls (.int x :: st) h :=
  fun p e R s m args below meth c Q A ad0 F ad H locs cells slots lsr r => lv_istore F.1.1 F.1.2.1 hd (vlv_has r.2.2.2.2.1) (Nat.le_of_ble_eq_true hn) rfl (fun lsr' hl' => kk p e R s m args below meth c Q A ad0 F ad H locs cells slots lsr' (r.loc (vlr_set r.2.2.2.2.1 hk hl')))

theorem V.astore_n {f : Fin 4} {i : Nat} {x : Nat} (hd : decode k.2.1.2.1 pc = .ok (.astore_n f, 1)) (hi : (f : Nat) = i) (hn : Nat.blt i k.2.1.2.2.1 = true) (hk : vlk ls i = true) (kk : V k b (pc + 1) (ls.set i (some (.ref x))) st h) : V k b pc ls (.ref x :: st) h :=
  fun p e R s m args below meth c Q A ad0 F ad H locs cells slots lsr r => lv_astore_n F.1.1 F.1.2.1 hd hi (vlv_has r.2.2.2.2.1) (Nat.le_of_ble_eq_true hn) rfl (fun lsr' hl' => kk p e R s m args below meth c Q A ad0 F ad H locs cells slots lsr' (r.loc (vlr_set r.2.2.2.2.1 hk hl')))

theorem V.lstore_n {f : Fin 4} {i : Nat} {x : Int64} (hd : decode k.2.1.2.1 pc = .ok (.lstore_n f, 1)) (hi : (f : Nat) = i) (hn : Nat.blt (i + 1) k.2.1.2.2.1 = true) (hk : vlk ls i = true) (kk : V k b (pc + 1) ((ls.set i (some (.long x))).set (i + 1) none) st h) : V k b pc ls (.long x :: st) h :=
  fun p e R s m args below meth c Q A ad0 F ad H locs cells slots lsr r => lv_lstore_n F.1.1 F.1.2.1 hd hi (vlv_has r.2.2.2.2.1) (Nat.le_of_ble_eq_true hn) rfl (fun lsr' hl' => kk p e R s m args below meth c Q A ad0 F ad H locs cells slots lsr' (r.loc (vlr_setL r.2.2.2.2.1 hk hl')))

theorem V.lstore {i : Nat} {x : Int64} (hd : decode k.2.1.2.1 pc = .ok (.lstore i, 2)) (hn : Nat.blt (i + 1) k.2.1.2.2.1 = true) (hk : vlk ls i = true) (kk : V k b (pc + 2) ((ls.set i (some (.long x))).set (i + 1) none) st h) : V k b pc ls (.long x :: st) h :=
  fun p e R s m args below meth c Q A ad0 F ad H locs cells slots lsr r => lv_lstore F.1.1 F.1.2.1 hd (vlv_has r.2.2.2.2.1) (Nat.le_of_ble_eq_true hn) rfl (fun lsr' hl' => kk p e R s m args below meth c Q A ad0 F ad H locs cells slots lsr' (r.loc (vlr_setL r.2.2.2.2.1 hk hl')))

theorem V.iinc {i : Nat} {n : Int} {x v : Int32} (hd : decode k.2.1.2.1 pc = .ok (.iinc i n, 3)) (hl : ls[i]? = some (some (.int x))) (hv : x + Int32.ofInt n = v) (hn : Nat.blt i k.2.1.2.2.1 = true) (hk : vlk ls i = true) (kk : V k b (pc + 3) (ls.set i (some (.int v))) st h) : V k b pc ls st h := by
  intro p e R s m args below meth c Q A ad0 F ad H locs cells slots lsr r
  obtain ⟨j, hj⟩ := List.getElem?_of_mem (vlv_mem (ad := ad) hl)
  exact lv_iinc F.1.1 F.1.2.1 hd (vlv_has r.2.2.2.2.1) hj hv (Nat.le_of_ble_eq_true hn) rfl (fun lsr' hl' => kk p e R s m args below meth c Q A ad0 F ad H locs cells slots lsr' (r.loc (vlr_set r.2.2.2.2.1 hk hl')))

end VRules
