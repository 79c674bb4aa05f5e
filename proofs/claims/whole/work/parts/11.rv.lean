section RV
variable {d : Nat} {mt : Mt} {a : (Nat × Nat) × (Nat × Nat)} {pc : Nat} {L : Ls} {st : List Value} {G : Wd} {M : Mem} {Q : Rq}
theorem Ru_iadd {x y : Int32} (hd : decode mt.2.1 pc = .ok (.iadd, 1)) (kk : Ru d mt a (pc + 1) L (.int (x + y) :: st) G M Q) : Ru d mt a pc L (.int y :: .int x :: st) G M Q :=
  Ru_pure kk fun _ _ _ _ _ _ _ _ _ _ _ _ _ _ _ _ _ hx hb _ _ k => lv_iadd hx hb hd k
theorem Ru_isub {x y : Int32} (hd : decode mt.2.1 pc = .ok (.isub, 1)) (kk : Ru d mt a (pc + 1) L (.int (x - y) :: st) G M Q) : Ru d mt a pc L (.int y :: .int x :: st) G M Q :=
  Ru_pure kk fun _ _ _ _ _ _ _ _ _ _ _ _ _ _ _ _ _ hx hb _ _ k => lv_isub hx hb hd k
theorem Ru_imul {x y : Int32} (hd : decode mt.2.1 pc = .ok (.imul, 1)) (kk : Ru d mt a (pc + 1) L (.int (x * y) :: st) G M Q) : Ru d mt a pc L (.int y :: .int x :: st) G M Q :=
  Ru_pure kk fun _ _ _ _ _ _ _ _ _ _ _ _ _ _ _ _ _ hx hb _ _ k => lv_imul hx hb hd k
theorem Ru_iand {x y : Int32} (hd : decode mt.2.1 pc = .ok (.iand, 1)) (kk : Ru d mt a (pc + 1) L (.int (x &&& y) :: st) G M Q) : Ru d mt a pc L (.int y :: .int x :: st) G M Q :=
  Ru_pure kk fun _ _ _ _ _ _ _ _ _ _ _ _ _ _ _ _ _ hx hb _ _ k => lv_iand hx hb hd k
theorem Ru_ior {x y : Int32} (hd : decode mt.2.1 pc = .ok (.ior, 1)) (kk : Ru d mt a (pc + 1) L (.int (x ||| y) :: st) G M Q) : Ru d mt a pc L (.int y :: .int x :: st) G M Q :=
  Ru_pure kk fun _ _ _ _ _ _ _ _ _ _ _ _ _ _ _ _ _ hx hb _ _ k => lv_ior hx hb hd k
theorem Ru_ixor {x y : Int32} (hd : decode mt.2.1 pc = .ok (.ixor, 1)) (kk : Ru d mt a (pc + 1) L (.int (x ^^^ y) :: st) G M Q) : Ru d mt a pc L (.int y :: .int x :: st) G M Q :=
  Ru_pure kk fun _ _ _ _ _ _ _ _ _ _ _ _ _ _ _ _ _ hx hb _ _ k => lv_ixor hx hb hd k
theorem Ru_ishl {x y : Int32} (hd : decode mt.2.1 pc = .ok (.ishl, 1)) (kk : Ru d mt a (pc + 1) L (.int (x <<< (y &&& 31)) :: st) G M Q) : Ru d mt a pc L (.int y :: .int x :: st) G M Q :=
  Ru_pure kk fun _ _ _ _ _ _ _ _ _ _ _ _ _ _ _ _ _ hx hb _ _ k => lv_ishl hx hb hd k
theorem Ru_ishr {x y : Int32} (hd : decode mt.2.1 pc = .ok (.ishr, 1)) (kk : Ru d mt a (pc + 1) L (.int (x >>> (y &&& 31)) :: st) G M Q) : Ru d mt a pc L (.int y :: .int x :: st) G M Q :=
  Ru_pure kk fun _ _ _ _ _ _ _ _ _ _ _ _ _ _ _ _ _ hx hb _ _ k => lv_ishr hx hb hd k
theorem Ru_iadd' {x y : Int32} (v : Int32) (hd : decode mt.2.1 pc = .ok (.iadd, 1)) (hv : x + y = v) (kk : Ru d mt a (pc + 1) L (.int v :: st) G M Q) : Ru d mt a pc L (.int y :: .int x :: st) G M Q := Ru_iadd hd (hv ▸ kk)
theorem Ru_isub' {x y : Int32} (v : Int32) (hd : decode mt.2.1 pc = .ok (.isub, 1)) (hv : x - y = v) (kk : Ru d mt a (pc + 1) L (.int v :: st) G M Q) : Ru d mt a pc L (.int y :: .int x :: st) G M Q := Ru_isub hd (hv ▸ kk)
theorem Ru_imul' {x y : Int32} (v : Int32) (hd : decode mt.2.1 pc = .ok (.imul, 1)) (hv : x * y = v) (kk : Ru d mt a (pc + 1) L (.int v :: st) G M Q) : Ru d mt a pc L (.int y :: .int x :: st) G M Q := Ru_imul hd (hv ▸ kk)
theorem Ru_iand' {x y : Int32} (v : Int32) (hd : decode mt.2.1 pc = .ok (.iand, 1)) (hv : x &&& y = v) (kk : Ru d mt a (pc + 1) L (.int v :: st) G M Q) : Ru d mt a pc L (.int y :: .int x :: st) G M Q := Ru_iand hd (hv ▸ kk)
theorem Ru_ior' {x y : Int32} (v : Int32) (hd : decode mt.2.1 pc = .ok (.ior, 1)) (hv : x ||| y = v) (kk : Ru d mt a (pc + 1) L (.int v :: st) G M Q) : Ru d mt a pc L (.int y :: .int x :: st) G M Q := Ru_ior hd (hv ▸ kk)
theorem Ru_ixor' {x y : Int32} (v : Int32) (hd : decode mt.2.1 pc = .ok (.ixor, 1)) (hv : x ^^^ y = v) (kk : Ru d mt a (pc + 1) L (.int v :: st) G M Q) : Ru d mt a pc L (.int y :: .int x :: st) G M Q := Ru_ixor hd (hv ▸ kk)
theorem Ru_ishl' {x y : Int32} (v : Int32) (hd : decode mt.2.1 pc = .ok (.ishl, 1)) (hv : x <<< (y &&& 31) = v) (kk : Ru d mt a (pc + 1) L (.int v :: st) G M Q) : Ru d mt a pc L (.int y :: .int x :: st) G M Q := Ru_ishl hd (hv ▸ kk)
theorem Ru_ishr' {x y : Int32} (v : Int32) (hd : decode mt.2.1 pc = .ok (.ishr, 1)) (hv : x >>> (y &&& 31) = v) (kk : Ru d mt a (pc + 1) L (.int v :: st) G M Q) : Ru d mt a pc L (.int y :: .int x :: st) G M Q := Ru_ishr hd (hv ▸ kk)
theorem Ru_ladd {x y : Int64} (hd : decode mt.2.1 pc = .ok (.ladd, 1)) (kk : Ru d mt a (pc + 1) L (.long (x + y) :: st) G M Q) : Ru d mt a pc L (.long y :: .long x :: st) G M Q :=
  Ru_pure kk fun _ _ _ _ _ _ _ _ _ _ _ _ _ _ _ _ _ hx hb _ _ k => lv_ladd hx hb hd k
theorem Ru_lsub {x y : Int64} (hd : decode mt.2.1 pc = .ok (.lsub, 1)) (kk : Ru d mt a (pc + 1) L (.long (x - y) :: st) G M Q) : Ru d mt a pc L (.long y :: .long x :: st) G M Q :=
  Ru_pure kk fun _ _ _ _ _ _ _ _ _ _ _ _ _ _ _ _ _ hx hb _ _ k => lv_lsub hx hb hd k
theorem Ru_lmul {x y : Int64} (hd : decode mt.2.1 pc = .ok (.lmul, 1)) (kk : Ru d mt a (pc + 1) L (.long (x * y) :: st) G M Q) : Ru d mt a pc L (.long y :: .long x :: st) G M Q :=
  Ru_pure kk fun _ _ _ _ _ _ _ _ _ _ _ _ _ _ _ _ _ hx hb _ _ k => lv_lmul hx hb hd k
theorem Ru_land {x y : Int64} (hd : decode mt.2.1 pc = .ok (.land, 1)) (kk : Ru d mt a (pc + 1) L (.long (x &&& y) :: st) G M Q) : Ru d mt a pc L (.long y :: .long x :: st) G M Q :=
  Ru_pure kk fun _ _ _ _ _ _ _ _ _ _ _ _ _ _ _ _ _ hx hb _ _ k => lv_land hx hb hd k
theorem Ru_lor {x y : Int64} (hd : decode mt.2.1 pc = .ok (.lor, 1)) (kk : Ru d mt a (pc + 1) L (.long (x ||| y) :: st) G M Q) : Ru d mt a pc L (.long y :: .long x :: st) G M Q :=
  Ru_pure kk fun _ _ _ _ _ _ _ _ _ _ _ _ _ _ _ _ _ hx hb _ _ k => lv_lor hx hb hd k
theorem Ru_idiv {x y : Int32} (hd : decode mt.2.1 pc = .ok (.idiv, 1)) (hne : ¬ y = 0) (kk : Ru d mt a (pc + 1) L (.int (x / y) :: st) G M Q) : Ru d mt a pc L (.int y :: .int x :: st) G M Q :=
  Ru_pure kk fun _ _ _ _ _ _ _ _ _ _ _ _ _ _ _ _ _ hx hb _ _ k => lv_idiv hx hb hd hne k
theorem Ru_irem {x y : Int32} (hd : decode mt.2.1 pc = .ok (.irem, 1)) (hne : ¬ y = 0) (kk : Ru d mt a (pc + 1) L (.int (x - x / y * y) :: st) G M Q) : Ru d mt a pc L (.int y :: .int x :: st) G M Q :=
  Ru_pure kk fun _ _ _ _ _ _ _ _ _ _ _ _ _ _ _ _ _ hx hb _ _ k => lv_irem hx hb hd hne k
theorem Ru_ldiv {x y : Int64} (hd : decode mt.2.1 pc = .ok (.ldiv, 1)) (hne : ¬ y = 0) (kk : Ru d mt a (pc + 1) L (.long (x / y) :: st) G M Q) : Ru d mt a pc L (.long y :: .long x :: st) G M Q :=
  Ru_pure kk fun _ _ _ _ _ _ _ _ _ _ _ _ _ _ _ _ _ hx hb _ _ k => lv_ldiv hx hb hd hne k
theorem Ru_lrem {x y : Int64} (hd : decode mt.2.1 pc = .ok (.lrem, 1)) (hne : ¬ y = 0) (kk : Ru d mt a (pc + 1) L (.long (x - x / y * y) :: st) G M Q) : Ru d mt a pc L (.long y :: .long x :: st) G M Q :=
  Ru_pure kk fun _ _ _ _ _ _ _ _ _ _ _ _ _ _ _ _ _ hx hb _ _ k => lv_lrem hx hb hd hne k
theorem Ru_iushr {x y v : Int32} (hd : decode mt.2.1 pc = .ok (.iushr, 1)) (hv : (x.toUInt32 >>> (y.toUInt32 &&& Int32.toUInt32 31)).toInt32 = v) (kk : Ru d mt a (pc + 1) L (.int v :: st) G M Q) : Ru d mt a pc L (.int y :: .int x :: st) G M Q :=
  Ru_pure kk fun _ _ _ _ _ _ _ _ _ _ _ _ _ _ _ _ _ hx hb _ _ k => lv_iushr hx hb hd hv k
theorem Ru_lshl {x v : Int64} {y : Int32} (hd : decode mt.2.1 pc = .ok (.lshl, 1)) (hv : x <<< (y.toInt64 &&& 63) = v) (kk : Ru d mt a (pc + 1) L (.long v :: st) G M Q) : Ru d mt a pc L (.int y :: .long x :: st) G M Q :=
  Ru_pure kk fun _ _ _ _ _ _ _ _ _ _ _ _ _ _ _ _ _ hx hb _ _ k => lv_lshl hx hb hd hv k
theorem Ru_i2l {x : Int32} (v : Int64) (hd : decode mt.2.1 pc = .ok (.i2l, 1)) (hv : x.toInt64 = v) (kk : Ru d mt a (pc + 1) L (.long v :: st) G M Q) : Ru d mt a pc L (.int x :: st) G M Q :=
  Ru_pure kk fun _ _ _ _ _ _ _ _ _ _ _ _ _ _ _ _ _ hx hb _ _ k => lv_i2l hx hb hd hv k
theorem Ru_l2i {x : Int64} (v : Int32) (hd : decode mt.2.1 pc = .ok (.l2i, 1)) (hv : x.toInt32 = v) (kk : Ru d mt a (pc + 1) L (.int v :: st) G M Q) : Ru d mt a pc L (.long x :: st) G M Q :=
  Ru_pure kk fun _ _ _ _ _ _ _ _ _ _ _ _ _ _ _ _ _ hx hb _ _ k => lv_l2i hx hb hd hv k
theorem Ru_i2b {x : Int32} (v : Int32) (hd : decode mt.2.1 pc = .ok (.i2b, 1)) (hv : x.toInt8.toInt32 = v) (kk : Ru d mt a (pc + 1) L (.int v :: st) G M Q) : Ru d mt a pc L (.int x :: st) G M Q :=
  Ru_pure kk fun _ _ _ _ _ _ _ _ _ _ _ _ _ _ _ _ _ hx hb _ _ k => lv_i2b hx hb hd hv k
theorem Ru_i2s {x : Int32} (v : Int32) (hd : decode mt.2.1 pc = .ok (.i2s, 1)) (hv : x.toInt16.toInt32 = v) (kk : Ru d mt a (pc + 1) L (.int v :: st) G M Q) : Ru d mt a pc L (.int x :: st) G M Q :=
  Ru_pure kk fun _ _ _ _ _ _ _ _ _ _ _ _ _ _ _ _ _ hx hb _ _ k => lv_i2s hx hb hd hv k
theorem Ru_i2c {x : Int32} (v : Int32) (hd : decode mt.2.1 pc = .ok (.i2c, 1)) (hv : (x.toUInt32 % 65536).toInt32 = v) (kk : Ru d mt a (pc + 1) L (.int v :: st) G M Q) : Ru d mt a pc L (.int x :: st) G M Q :=
  Ru_pure kk fun _ _ _ _ _ _ _ _ _ _ _ _ _ _ _ _ _ hx hb _ _ k => lv_i2c hx hb hd hv k
theorem Ru_lcmp {x y : Int64} (hd : decode mt.2.1 pc = .ok (.lcmp, 1)) (kk : Ru d mt a (pc + 1) L (.int (lg_cmp x y) :: st) G M Q) : Ru d mt a pc L (.long y :: .long x :: st) G M Q :=
  Ru_pure kk fun _ _ _ _ _ _ _ _ _ _ _ _ _ _ _ _ _ hx hb _ _ k => W.lcmp hx hb hd k
theorem Ru_dup {v : Value} (hd : decode mt.2.1 pc = .ok (.dup, 1)) (hv : v.category = 1) (kk : Ru d mt a (pc + 1) L (v :: v :: st) G M Q) : Ru d mt a pc L (v :: st) G M Q :=
  Ru_pure kk fun ad _ _ _ _ _ _ _ _ _ _ _ _ _ _ _ _ hx hb _ _ k => lv_dup hx hb hd ((r_cv_cat ad v).trans hv) k
theorem Ru_pop {v : Value} (hd : decode mt.2.1 pc = .ok (.pop, 1)) (hv : v.category = 1) (kk : Ru d mt a (pc + 1) L st G M Q) : Ru d mt a pc L (v :: st) G M Q :=
  Ru_pure kk fun ad _ _ _ _ _ _ _ _ _ _ _ _ _ _ _ _ hx hb _ _ k => lv_pop hx hb hd ((r_cv_cat ad v).trans hv) k
theorem Ru_dup2 {v w : Value} (hd : decode mt.2.1 pc = .ok (.dup2, 1)) (hv : v.category = 1) (hw : w.category = 1) (kk : Ru d mt a (pc + 1) L (v :: w :: v :: w :: st) G M Q) : Ru d mt a pc L (v :: w :: st) G M Q :=
  Ru_pure kk fun ad _ _ _ _ _ _ _ _ _ _ _ _ _ _ _ _ hx hb _ _ k => lv_dup2_11 hx hb hd ((r_cv_cat ad v).trans hv) ((r_cv_cat ad w).trans hw) k
theorem Ru_if_eq {x : Int32} {off : Int} (tgt : Nat) (hd : decode mt.2.1 pc = .ok (.ifCond .eq off, 3)) (ht : (pc : Int) + off = (tgt : Int)) (kt : x = 0 → Ru d mt a tgt L st G M Q) (kf : ¬ (x = 0) → Ru d mt a (pc + 3) L st G M Q) : Ru d mt a pc L (.int x :: st) G M Q :=
  Ru_br kt kf fun _ _ _ _ _ _ _ _ _ _ _ _ _ _ _ _ _ hx hb k1 k2 => lv_if_eq hx hb hd ht k1 k2
theorem Ru_if_lt {x : Int32} {off : Int} (tgt : Nat) (hd : decode mt.2.1 pc = .ok (.ifCond .lt off, 3)) (ht : (pc : Int) + off = (tgt : Int)) (kt : x < 0 → Ru d mt a tgt L st G M Q) (kf : ¬ (x < 0) → Ru d mt a (pc + 3) L st G M Q) : Ru d mt a pc L (.int x :: st) G M Q :=
  Ru_br kt kf fun _ _ _ _ _ _ _ _ _ _ _ _ _ _ _ _ _ hx hb k1 k2 => lv_if_lt hx hb hd ht k1 k2
theorem Ru_if_ge {x : Int32} {off : Int} (tgt : Nat) (hd : decode mt.2.1 pc = .ok (.ifCond .ge off, 3)) (ht : (pc : Int) + off = (tgt : Int)) (kt : 0 ≤ x → Ru d mt a tgt L st G M Q) (kf : ¬ (0 ≤ x) → Ru d mt a (pc + 3) L st G M Q) : Ru d mt a pc L (.int x :: st) G M Q :=
  Ru_br kt kf fun _ _ _ _ _ _ _ _ _ _ _ _ _ _ _ _ _ hx hb k1 k2 => lv_if_ge hx hb hd ht k1 k2
theorem Ru_if_gt {x : Int32} {off : Int} (tgt : Nat) (hd : decode mt.2.1 pc = .ok (.ifCond .gt off, 3)) (ht : (pc : Int) + off = (tgt : Int)) (kt : 0 < x → Ru d mt a tgt L st G M Q) (kf : ¬ (0 < x) → Ru d mt a (pc + 3) L st G M Q) : Ru d mt a pc L (.int x :: st) G M Q :=
  Ru_br kt kf fun _ _ _ _ _ _ _ _ _ _ _ _ _ _ _ _ _ hx hb k1 k2 => lv_if_gt hx hb hd ht k1 k2
theorem Ru_if_le {x : Int32} {off : Int} (tgt : Nat) (hd : decode mt.2.1 pc = .ok (.ifCond .le off, 3)) (ht : (pc : Int) + off = (tgt : Int)) (kt : x ≤ 0 → Ru d mt a tgt L st G M Q) (kf : ¬ (x ≤ 0) → Ru d mt a (pc + 3) L st G M Q) : Ru d mt a pc L (.int x :: st) G M Q :=
  Ru_br kt kf fun _ _ _ _ _ _ _ _ _ _ _ _ _ _ _ _ _ hx hb k1 k2 => lv_if_le hx hb hd ht k1 k2
theorem Ru_if_ne {x : Int32} {off : Int} (tgt : Nat) (hd : decode mt.2.1 pc = .ok (.ifCond .ne off, 3)) (ht : (pc : Int) + off = (tgt : Int)) (kt : ¬ x = 0 → Ru d mt a tgt L st G M Q) (kf : x = 0 → Ru d mt a (pc + 3) L st G M Q) : Ru d mt a pc L (.int x :: st) G M Q :=
  Ru_br kf kt fun _ _ _ _ _ _ _ _ _ _ _ _ _ _ _ _ _ hx hb k1 k2 => lv_if_ne hx hb hd ht k2 k1
theorem Ru_icmp_eq {x y : Int32} {off : Int} (tgt : Nat) (hd : decode mt.2.1 pc = .ok (.if_icmp .eq off, 3)) (ht : (pc : Int) + off = (tgt : Int)) (kt : x = y → Ru d mt a tgt L st G M Q) (kf : ¬ (x = y) → Ru d mt a (pc + 3) L st G M Q) : Ru d mt a pc L (.int y :: .int x :: st) G M Q :=
  Ru_br kt kf fun _ _ _ _ _ _ _ _ _ _ _ _ _ _ _ _ _ hx hb k1 k2 => lv_icmp_eq hx hb hd ht k1 k2
theorem Ru_icmp_lt {x y : Int32} {off : Int} (tgt : Nat) (hd : decode mt.2.1 pc = .ok (.if_icmp .lt off, 3)) (ht : (pc : Int) + off = (tgt : Int)) (kt : x < y → Ru d mt a tgt L st G M Q) (kf : ¬ (x < y) → Ru d mt a (pc + 3) L st G M Q) : Ru d mt a pc L (.int y :: .int x :: st) G M Q :=
  Ru_br kt kf fun _ _ _ _ _ _ _ _ _ _ _ _ _ _ _ _ _ hx hb k1 k2 => lv_icmp_lt hx hb hd ht k1 k2
theorem Ru_icmp_ge {x y : Int32} {off : Int} (tgt : Nat) (hd : decode mt.2.1 pc = .ok (.if_icmp .ge off, 3)) (ht : (pc : Int) + off = (tgt : Int)) (kt : y ≤ x → Ru d mt a tgt L st G M Q) (kf : ¬ (y ≤ x) → Ru d mt a (pc + 3) L st G M Q) : Ru d mt a pc L (.int y :: .int x :: st) G M Q :=
  Ru_br kt kf fun _ _ _ _ _ _ _ _ _ _ _ _ _ _ _ _ _ hx hb k1 k2 => lv_icmp_ge hx hb hd ht k1 k2
theorem Ru_icmp_gt {x y : Int32} {off : Int} (tgt : Nat) (hd : decode mt.2.1 pc = .ok (.if_icmp .gt off, 3)) (ht : (pc : Int) + off = (tgt : Int)) (kt : y < x → Ru d mt a tgt L st G M Q) (kf : ¬ (y < x) → Ru d mt a (pc + 3) L st G M Q) : Ru d mt a pc L (.int y :: .int x :: st) G M Q :=
  Ru_br kt kf fun _ _ _ _ _ _ _ _ _ _ _ _ _ _ _ _ _ hx hb k1 k2 => lv_icmp_gt hx hb hd ht k1 k2
theorem Ru_icmp_le {x y : Int32} {off : Int} (tgt : Nat) (hd : decode mt.2.1 pc = .ok (.if_icmp .le off, 3)) (ht : (pc : Int) + off = (tgt : Int)) (kt : x ≤ y → Ru d mt a tgt L st G M Q) (kf : ¬ (x ≤ y) → Ru d mt a (pc + 3) L st G M Q) : Ru d mt a pc L (.int y :: .int x :: st) G M Q :=
  Ru_br kt kf fun _ _ _ _ _ _ _ _ _ _ _ _ _ _ _ _ _ hx hb k1 k2 => lv_icmp_le hx hb hd ht k1 k2
theorem Ru_icmp_ne {x y : Int32} {off : Int} (tgt : Nat) (hd : decode mt.2.1 pc = .ok (.if_icmp .ne off, 3)) (ht : (pc : Int) + off = (tgt : Int)) (kt : ¬ x = y → Ru d mt a tgt L st G M Q) (kf : x = y → Ru d mt a (pc + 3) L st G M Q) : Ru d mt a pc L (.int y :: .int x :: st) G M Q :=
  Ru_br kf kt fun _ _ _ _ _ _ _ _ _ _ _ _ _ _ _ _ _ hx hb k1 k2 => lv_icmp_ne hx hb hd ht k2 k1
theorem nI_ranged {n : Nat} (h : n < 2147483648) : (nI n).toInt = (n : Int) := nI_toInt h
theorem Ru_icmp_geN {n m : Nat} {off : Int} (tgt : Nat) (hd : decode mt.2.1 pc = .ok (.if_icmp .ge off, 3)) (ht : (pc : Int) + off = (tgt : Int)) (hb : n < 2147483648 ∧ m < 2147483648) (kt : m ≤ n → Ru d mt a tgt L st G M Q) (kf : n < m → Ru d mt a (pc + 3) L st G M Q) : Ru d mt a pc L (.int (nI m) :: .int (nI n) :: st) G M Q :=
  Ru_icmp_ge tgt hd ht (fun h => kt ((nI_leI hb.2 hb.1).mp h)) (fun h => kf (Nat.lt_of_not_le (fun z => h ((nI_leI hb.2 hb.1).mpr z))))
theorem Ru_icmp_ltN {n m : Nat} {off : Int} (tgt : Nat) (hd : decode mt.2.1 pc = .ok (.if_icmp .lt off, 3)) (ht : (pc : Int) + off = (tgt : Int)) (hb : n < 2147483648 ∧ m < 2147483648) (kt : n < m → Ru d mt a tgt L st G M Q) (kf : m ≤ n → Ru d mt a (pc + 3) L st G M Q) : Ru d mt a pc L (.int (nI m) :: .int (nI n) :: st) G M Q :=
  Ru_icmp_lt tgt hd ht (fun h => kt ((nI_ltI hb.1 hb.2).mp h)) (fun h => kf (Nat.le_of_not_lt (fun z => h ((nI_ltI hb.1 hb.2).mpr z))))
theorem Ru_icmp_gtN {n m : Nat} {off : Int} (tgt : Nat) (hd : decode mt.2.1 pc = .ok (.if_icmp .gt off, 3)) (ht : (pc : Int) + off = (tgt : Int)) (hb : n < 2147483648 ∧ m < 2147483648) (kt : m < n → Ru d mt a tgt L st G M Q) (kf : n ≤ m → Ru d mt a (pc + 3) L st G M Q) : Ru d mt a pc L (.int (nI m) :: .int (nI n) :: st) G M Q :=
  Ru_icmp_gt tgt hd ht (fun h => kt ((nI_ltI hb.2 hb.1).mp h)) (fun h => kf (Nat.le_of_not_lt (fun z => h ((nI_ltI hb.2 hb.1).mpr z))))
theorem Ru_icmp_leN {n m : Nat} {off : Int} (tgt : Nat) (hd : decode mt.2.1 pc = .ok (.if_icmp .le off, 3)) (ht : (pc : Int) + off = (tgt : Int)) (hb : n < 2147483648 ∧ m < 2147483648) (kt : n ≤ m → Ru d mt a tgt L st G M Q) (kf : m < n → Ru d mt a (pc + 3) L st G M Q) : Ru d mt a pc L (.int (nI m) :: .int (nI n) :: st) G M Q :=
  Ru_icmp_le tgt hd ht (fun h => kt ((nI_leI hb.1 hb.2).mp h)) (fun h => kf (Nat.lt_of_not_le (fun z => h ((nI_leI hb.1 hb.2).mpr z))))
theorem Ru_icmp_eqN {n m : Nat} {off : Int} (tgt : Nat) (hd : decode mt.2.1 pc = .ok (.if_icmp .eq off, 3)) (ht : (pc : Int) + off = (tgt : Int)) (hb : n < 2147483648 ∧ m < 2147483648) (kt : n = m → Ru d mt a tgt L st G M Q) (kf : n ≠ m → Ru d mt a (pc + 3) L st G M Q) : Ru d mt a pc L (.int (nI m) :: .int (nI n) :: st) G M Q :=
  Ru_icmp_eq tgt hd ht (fun h => kt ((nI_eq hb.1 hb.2).mp h)) (fun h => kf (fun z => h ((nI_eq hb.1 hb.2).mpr z)))
theorem Ru_icmp_neN {n m : Nat} {off : Int} (tgt : Nat) (hd : decode mt.2.1 pc = .ok (.if_icmp .ne off, 3)) (ht : (pc : Int) + off = (tgt : Int)) (hb : n < 2147483648 ∧ m < 2147483648) (kt : n ≠ m → Ru d mt a tgt L st G M Q) (kf : n = m → Ru d mt a (pc + 3) L st G M Q) : Ru d mt a pc L (.int (nI m) :: .int (nI n) :: st) G M Q :=
  Ru_icmp_ne tgt hd ht (fun h => kt (fun z => h ((nI_eq hb.1 hb.2).mpr z))) (fun h => kf ((nI_eq hb.1 hb.2).mp h))
theorem Ru_iaddN {a1 b1 : Nat} (hd : decode mt.2.1 pc = .ok (.iadd, 1)) (kk : Ru d mt a (pc + 1) L (.int (nI (a1 + b1)) :: st) G M Q) : Ru d mt a pc L (.int (nI b1) :: .int (nI a1) :: st) G M Q := Ru_iadd' _ hd (nI_add a1 b1) kk
theorem Ru_imulN {a1 b1 : Nat} (hd : decode mt.2.1 pc = .ok (.imul, 1)) (kk : Ru d mt a (pc + 1) L (.int (nI (a1 * b1)) :: st) G M Q) : Ru d mt a pc L (.int (nI b1) :: .int (nI a1) :: st) G M Q := Ru_imul' _ hd (pk_mul a1 b1) kk
theorem Ru_isubN {a1 b1 : Nat} (hd : decode mt.2.1 pc = .ok (.isub, 1)) (h : b1 ≤ a1) (kk : Ru d mt a (pc + 1) L (.int (nI (a1 - b1)) :: st) G M Q) : Ru d mt a pc L (.int (nI b1) :: .int (nI a1) :: st) G M Q := Ru_isub' _ hd (pk_sub h) kk
theorem Ru_iincN {i n : Nat} {j : Int} (b1 : Nat) (hd : decode mt.2.1 pc = .ok (.iinc i j, 3)) (hl : r_lget L i = some (.int (nI n))) (hj : Int32.ofInt j = nI b1) (hn : r_nl L i = true) (hlt : i < mt.2.2.1) (kk : Ru d mt a (pc + 3) ((i, some (.int (nI (n + b1)))) :: L) st G M Q) : Ru d mt a pc L st G M Q := Ru_iinc _ hd hl (by rw [hj, nI_add]) hn hlt kk
theorem Ru_tableIn {dflt lo hi : Int} {offs : Array Int} {len : Nat} {x : Int32} {off : Int} (tgt : Nat) (hd : decode mt.2.1 pc = .ok (.tableswitch dflt lo hi offs, len)) (h1 : ¬ x.toInt < lo) (h2 : ¬ hi < x.toInt) (ho : offs[(x.toInt - lo).toNat]? = some off) (ht : (pc : Int) + off = (tgt : Int)) (kk : Ru d mt a tgt L st G M Q) : Ru d mt a pc L (.int x :: st) G M Q :=
  Ru_pure kk fun _ _ _ _ _ _ _ _ _ _ _ _ _ _ _ _ _ hx hb _ _ k => lv_tableIn hx hb hd h1 h2 ho ht k
theorem Ru_tableOut {dflt lo hi : Int} {offs : Array Int} {len : Nat} {x : Int32} (tgt : Nat) (hd : decode mt.2.1 pc = .ok (.tableswitch dflt lo hi offs, len)) (h : x.toInt < lo ∨ hi < x.toInt) (ht : (pc : Int) + dflt = (tgt : Int)) (kk : Ru d mt a tgt L st G M Q) : Ru d mt a pc L (.int x :: st) G M Q :=
  Ru_pure kk fun _ _ _ _ _ _ _ _ _ _ _ _ _ _ _ _ _ hx hb _ _ k => lv_tableOut hx hb hd h ht k
theorem Ru_lookup {dflt : Int} {ps : Array (Int × Int)} {len : Nat} {x : Int32} {off : Int} (tgt : Nat) (hd : decode mt.2.1 pc = .ok (.lookupswitch dflt ps, len)) (hp : (ps.toList.zip (ps.toList.drop 1)).all (fun (a, next) => a.1 < next.1) = true) (ho : Op.lookupswitch.offset ps.toList dflt x.toInt = off) (ht : (pc : Int) + off = (tgt : Int)) (kk : Ru d mt a tgt L st G M Q) : Ru d mt a pc L (.int x :: st) G M Q :=
  Ru_pure kk fun _ _ _ _ _ _ _ _ _ _ _ _ _ _ _ _ _ hx hb _ _ k => lv_lookup hx hb hd hp ho ht k
theorem Ru_ldc {index : Nat} {v : Int32} (hd : decode mt.2.1 pc = .ok (.ldc index, 2)) (hw : Cond.constant mt.1.cls index v ∈ r_W) (kk : Ru d mt a (pc + 2) L (.int v :: st) G M Q) : Ru d mt a pc L st G M Q :=
  Ru_pure kk fun _ _ _ _ _ _ _ _ _ _ _ _ _ _ _ _ _ hx hb ho _ k => lv_ldc hx hb ho.1 (ho.2 _ (List.mem_cons_of_mem _ hw)) hd k
theorem Ru_ldcw {index : Nat} {v : Int32} (hd : decode mt.2.1 pc = .ok (.ldc_w index, 3)) (hw : Cond.constant mt.1.cls index v ∈ r_W) (kk : Ru d mt a (pc + 3) L (.int v :: st) G M Q) : Ru d mt a pc L st G M Q :=
  Ru_pure kk fun _ _ _ _ _ _ _ _ _ _ _ _ _ _ _ _ _ hx hb ho _ k => lv_ldcw hx hb ho.1 (ho.2 _ (List.mem_cons_of_mem _ hw)) hd k
theorem Ru_ldc2 {index : Nat} {v : Int64} (hd : decode mt.2.1 pc = .ok (.ldc2_w index, 3)) (hw : Cond.constantLong mt.1.cls index v ∈ r_W) (kk : Ru d mt a (pc + 3) L (.long v :: st) G M Q) : Ru d mt a pc L st G M Q :=
  Ru_pure kk fun _ _ _ _ _ _ _ _ _ _ _ _ _ _ _ _ _ hx hb ho _ k => lv_ldc2 hx hb ho.1 (ho.2 _ (List.mem_cons_of_mem _ hw)) hd k
end RV
