-- LONGS AS NUMBERS
def nJ (n : Nat) : Int64 := Int64.ofNat n
theorem nJ_t {n : Nat} (h : n < 4611686018427387904) : (nJ n).toInt = (n : Int) := by
  unfold nJ
  exact Int64.toInt_ofNat_of_lt (by omega)
theorem nJ_eq {a b : Nat} (h : a < 4611686018427387904 ∧ b < 4611686018427387904) : nJ a = nJ b ↔ a = b := by
  rw [← Int64.toInt_inj, nJ_t h.1, nJ_t h.2]
  omega
theorem nJ_le {a b : Nat} (h : a < 4611686018427387904 ∧ b < 4611686018427387904) : nJ a ≤ nJ b ↔ a ≤ b := by
  rw [Int64.le_iff_toInt_le, nJ_t h.1, nJ_t h.2]
  omega
theorem nJ_lt {a b : Nat} (h : a < 4611686018427387904 ∧ b < 4611686018427387904) : nJ a < nJ b ↔ a < b := by
  rw [Int64.lt_iff_toInt_lt, nJ_t h.1, nJ_t h.2]
  omega
theorem nJ_div {a b : Nat} (ha : a < 2147483648) (hb : b < 2147483648) : nJ a / nJ b = nJ (a / b) := by
  apply Int64.toInt_inj.mp
  have h1 : a / b ≤ a := Nat.div_le_self a b
  rw [Int64.toInt_div, nJ_t (by omega), nJ_t (by omega), nJ_t (by omega), ← Int.ofNat_tdiv]
  generalize a / b = q at h1 ⊢
  rw [Int.bmod_eq_of_le (by omega) (by omega)]
theorem nJ_mul {a b : Nat} (h : a * b < 4611686018427387904) (ha : a < 2147483648) (hb : b < 2147483648) : nJ a * nJ b = nJ (a * b) := by
  apply Int64.toInt_inj.mp
  rw [Int64.toInt_mul, nJ_t (by omega), nJ_t (by omega), nJ_t h, ← Int.natCast_mul, Int.bmod_eq_of_le (by omega) (by omega)]
theorem nJ_sub {a b : Nat} (h : b ≤ a) (ha : a < 4611686018427387904) : nJ a - nJ b = nJ (a - b) := by
  apply Int64.toInt_inj.mp
  rw [Int64.toInt_sub, nJ_t (by omega), nJ_t (by omega), nJ_t (by omega), Int.bmod_eq_of_le (by omega) (by omega)]
  omega
theorem nJ_rem {a b : Nat} (ha : a < 2147483648) (hb : b < 2147483648) : nJ a - nJ a / nJ b * nJ b = nJ (a % b) := by
  have h1 : a / b * b ≤ a := Nat.div_mul_le_self a b
  have h2 : a / b ≤ a := Nat.div_le_self a b
  rw [nJ_div ha hb, nJ_mul (by omega) (by omega) hb, nJ_sub h1 (by omega)]
  congr 1
  have := Nat.div_add_mod a b
  rw [Nat.mul_comm] at this
  omega
section RJ
variable {d : Nat} {mt : Mt} {a : (Nat × Nat) × (Nat × Nat)} {pc : Nat} {L : Ls} {st : List Value} {G : Wd} {M : Mem} {Q : Rq}
theorem nJ_n0 {b : Nat} (h0 : 0 < b) (hb : b < 2147483648) : ¬ nJ b = 0 := fun z => by
  have : nJ b = nJ 0 := z
  have := (nJ_eq ⟨by omega, by omega⟩).mp this
  omega
theorem Ru_lremJ {x y : Nat} (hd : decode mt.2.1 pc = .ok (.lrem, 1)) (h : x < 2147483648 ∧ 0 < y ∧ y < 2147483648) (kk : Ru d mt a (pc + 1) L (.long (nJ (x % y)) :: st) G M Q) : Ru d mt a pc L (.long (nJ y) :: .long (nJ x) :: st) G M Q := by
  refine Ru_lrem hd (nJ_n0 h.2.1 h.2.2) ?_
  rw [nJ_rem h.1 h.2.2]
  exact kk
theorem Ru_ldivJ {x y : Nat} (hd : decode mt.2.1 pc = .ok (.ldiv, 1)) (h : x < 2147483648 ∧ 0 < y ∧ y < 2147483648) (kk : Ru d mt a (pc + 1) L (.long (nJ (x / y)) :: st) G M Q) : Ru d mt a pc L (.long (nJ y) :: .long (nJ x) :: st) G M Q := by
  refine Ru_ldiv hd (nJ_n0 h.2.1 h.2.2) ?_
  rw [nJ_div h.1 h.2.2]
  exact kk
theorem Ru_lmulJ {x y : Nat} (hd : decode mt.2.1 pc = .ok (.lmul, 1)) (h : x < 100000 ∧ y < 100000) (kk : Ru d mt a (pc + 1) L (.long (nJ (x * y)) :: st) G M Q) : Ru d mt a pc L (.long (nJ y) :: .long (nJ x) :: st) G M Q := by
  refine Ru_lmul hd ?_
  have := Nat.mul_le_mul (Nat.le_of_lt h.1) (Nat.le_of_lt h.2)
  rw [nJ_mul (by omega) (by omega) (by omega)]
  exact kk
theorem Ru_i2lJ {x : Nat} (hd : decode mt.2.1 pc = .ok (.i2l, 1)) (h : x < 2147483648) (kk : Ru d mt a (pc + 1) L (.long (nJ x) :: st) G M Q) : Ru d mt a pc L (.int (nI x) :: st) G M Q := by
  refine Ru_i2l (nJ x) hd ?_ kk
  apply Int64.toInt_inj.mp
  rw [Int32.toInt_toInt64, r_tn h, nJ_t (by omega)]
theorem Ru_if_eqJ {x y : Nat} {off : Int} (tgt : Nat) (hd : decode mt.2.1 pc = .ok (.ifCond .eq off, 3)) (ht : (pc : Int) + off = (tgt : Int)) (hb : x < 4611686018427387904 ∧ y < 4611686018427387904) (kt : x = y → Ru d mt a tgt L st G M Q) (kf : x ≠ y → Ru d mt a (pc + 3) L st G M Q) : Ru d mt a pc L (.int (lg_cmp (nJ x) (nJ y)) :: st) G M Q := Ru_if_eqC tgt hd ht (fun h => kt ((nJ_eq hb).mp h)) (fun h => kf (fun z => h ((nJ_eq hb).mpr z)))
theorem Ru_if_geJ {x y : Nat} {off : Int} (tgt : Nat) (hd : decode mt.2.1 pc = .ok (.ifCond .ge off, 3)) (ht : (pc : Int) + off = (tgt : Int)) (hb : x < 4611686018427387904 ∧ y < 4611686018427387904) (kt : y ≤ x → Ru d mt a tgt L st G M Q) (kf : x < y → Ru d mt a (pc + 3) L st G M Q) : Ru d mt a pc L (.int (lg_cmp (nJ x) (nJ y)) :: st) G M Q := Ru_if_geC tgt hd ht (fun h => kt ((nJ_le hb.symm).mp h)) (fun h => kf (Nat.lt_of_not_le (fun z => h ((nJ_le hb.symm).mpr z))))
theorem Ru_if_leJ {x y : Nat} {off : Int} (tgt : Nat) (hd : decode mt.2.1 pc = .ok (.ifCond .le off, 3)) (ht : (pc : Int) + off = (tgt : Int)) (hb : x < 4611686018427387904 ∧ y < 4611686018427387904) (kt : x ≤ y → Ru d mt a tgt L st G M Q) (kf : y < x → Ru d mt a (pc + 3) L st G M Q) : Ru d mt a pc L (.int (lg_cmp (nJ x) (nJ y)) :: st) G M Q := Ru_if_leC tgt hd ht (fun h => kt ((nJ_le hb).mp h)) (fun h => kf (Nat.lt_of_not_le (fun z => h ((nJ_le hb).mpr z))))
end RJ
