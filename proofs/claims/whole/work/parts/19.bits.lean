-- BITS of small numbers
def r_dif (a b : Nat) : Nat := a ^^^ (a &&& b)
theorem r_dif_bit (a b i : Nat) : (r_dif a b).testBit i = (a.testBit i && !b.testBit i) := by
  unfold r_dif
  rw [Nat.testBit_xor, Nat.testBit_and]
  cases a.testBit i <;> cases b.testBit i <;> rfl
theorem nI_bv (n : Nat) : (nI n).toBitVec = BitVec.ofNat 32 n := rfl
theorem nI_inj_bv {a b : Int32} (h : a.toBitVec = b.toBitVec) : a = b := by
  exact Int32.toBitVec_inj.mp h
theorem nI_and (a b : Nat) : nI a &&& nI b = nI (a &&& b) := by
  apply nI_inj_bv
  show (nI a).toBitVec &&& (nI b).toBitVec = _
  rw [nI_bv, nI_bv, nI_bv]
  apply BitVec.eq_of_getLsbD_eq
  intro i hi
  simp [hi]
theorem nI_or (a b : Nat) : nI a ||| nI b = nI (a ||| b) := by
  apply nI_inj_bv
  show (nI a).toBitVec ||| (nI b).toBitVec = _
  rw [nI_bv, nI_bv, nI_bv]
  apply BitVec.eq_of_getLsbD_eq
  intro i hi
  simp [hi]
theorem nI_xor (a b : Nat) : nI a ^^^ nI b = nI (a ^^^ b) := by
  apply nI_inj_bv
  show (nI a).toBitVec ^^^ (nI b).toBitVec = _
  rw [nI_bv, nI_bv, nI_bv]
  apply BitVec.eq_of_getLsbD_eq
  intro i hi
  simp [hi]
theorem nI_dif (a b : Nat) : nI a &&& (nI b ^^^ (-1)) = nI (r_dif a b) := by
  apply nI_inj_bv
  have h1 : (nI a &&& (nI b ^^^ (-1))).toBitVec = (BitVec.ofNat 32 a) &&& ((BitVec.ofNat 32 b) ^^^ BitVec.allOnes 32) := rfl
  rw [h1, nI_bv]
  apply BitVec.eq_of_getLsbD_eq
  intro i hi
  rw [BitVec.getLsbD_and, BitVec.getLsbD_xor, BitVec.getLsbD_allOnes, BitVec.getLsbD_ofNat, BitVec.getLsbD_ofNat, BitVec.getLsbD_ofNat, r_dif_bit]
  simp [hi]
theorem nI_31 : ∀ k, k < 32 → nI k &&& 31 = nI k := by decide
theorem nI_shr {a k : Nat} (ha : a < 2147483648) (hk : k < 32) : nI a >>> (nI k &&& 31) = nI (a >>> k) := by
  have h1 := pk_shrN (n := a) (by omega) (nI k &&& 31) k (by
    have : ∀ k, k < 32 → (((nI k &&& 31)).toBitVec.smod 32).toNat = k := by decide
    exact this k hk)
  rw [h1, Nat.shiftRight_eq_div_pow]
theorem nI_shl {a k : Nat} (hk : k < 32) (h : a * 2 ^ k < 4294967296) : nI a <<< (nI k &&& 31) = nI (a * 2 ^ k) := by
  exact pk_shlN (nI k &&& 31) k (by
    have : ∀ k, k < 32 → (((nI k &&& 31)).toBitVec.smod 32).toNat = k := by decide
    exact this k hk) (by omega)
theorem nI_sh1 {k : Nat} (hk : k < 32) : nI 1 <<< (nI k &&& 31) = nI (2 ^ k) := by
  have h : (2 : Nat) ^ k < 4294967296 := by
    have : (2 : Nat) ^ k ≤ 2 ^ 31 := Nat.pow_le_pow_right (by decide) (by omega)
    omega
  have := nI_shl (a := 1) hk (by omega)
  rw [this, Nat.one_mul]
theorem r_pow_lt {k n : Nat} (h : k < n) : 2 ^ k < 2 ^ n := Nat.pow_lt_pow_right (by decide) h
theorem r_bit_and1 (s t : Nat) : s >>> t &&& 1 = if s.testBit t then 1 else 0 := by
  have h : (s >>> t) &&& 1 = (s >>> t) % 2 := Nat.and_one_is_mod _
  rw [h]
  cases hb : s.testBit t
  · rw [Nat.testBit_eq_decide_div_mod_eq] at hb
    rw [Nat.shiftRight_eq_div_pow]
    simp at hb ⊢
    omega
  · rw [Nat.testBit_eq_decide_div_mod_eq] at hb
    rw [Nat.shiftRight_eq_div_pow]
    simp at hb ⊢
    omega
theorem r_and_pow (s t : Nat) : s &&& 2 ^ t = if s.testBit t then 2 ^ t else 0 := by
  apply Nat.eq_of_testBit_eq
  intro i
  rw [Nat.testBit_and, Nat.testBit_two_pow]
  by_cases h : t = i
  · subst h
    cases hb : s.testBit t <;> simp
  · cases hb : s.testBit t <;> simp [h]
theorem r_and_pow_ne {s t : Nat} : (s &&& 2 ^ t ≠ 0) ↔ s.testBit t = true := by
  rw [r_and_pow]
  cases hb : s.testBit t
  · simp
  · have : (2 : Nat) ^ t ≠ 0 := by
      have := Nat.two_pow_pos t
      omega
    simp [this]
theorem r_lt_bits {a n : Nat} (h : ∀ i, a.testBit i = true → i < n) : a < 2 ^ n := by
  apply Nat.lt_pow_two_of_testBit
  intro i hi
  cases hb : a.testBit i
  · rfl
  · exact absurd (h i hb) (by omega)
theorem r_bits_lt {a n : Nat} (h : a < 2 ^ n) {i : Nat} (hi : a.testBit i = true) : i < n := by
  rcases Nat.lt_or_ge i n with h1 | h1
  · exact h1
  · have : a < 2 ^ i := Nat.lt_of_lt_of_le h (Nat.pow_le_pow_right (by decide) h1)
    rw [Nat.testBit_lt_two_pow this] at hi
    cases hi
theorem r_or_lt {a b n : Nat} (ha : a < 2 ^ n) (hb : b < 2 ^ n) : a ||| b < 2 ^ n := Nat.or_lt_two_pow ha hb
theorem r_dif_lt {a b n : Nat} (ha : a < 2 ^ n) : r_dif a b < 2 ^ n := by
  apply r_lt_bits
  intro i hi
  rw [r_dif_bit] at hi
  simp at hi
  exact r_bits_lt ha hi.1
theorem r_dif_le (a b : Nat) : r_dif a b ≤ a := by
  apply Nat.le_of_testBit
  intro i
  rw [r_dif_bit]
  cases a.testBit i <;> simp
section RBN
variable {d : Nat} {mt : Mt} {a : (Nat × Nat) × (Nat × Nat)} {pc : Nat} {L : Ls} {st : List Value} {G : Wd} {M : Mem} {Q : Rq}
theorem Ru_iandN {a1 b1 : Nat} (hd : decode mt.2.1 pc = .ok (.iand, 1)) (kk : Ru d mt a (pc + 1) L (.int (nI (a1 &&& b1)) :: st) G M Q) : Ru d mt a pc L (.int (nI b1) :: .int (nI a1) :: st) G M Q := Ru_iand' _ hd (nI_and a1 b1) kk
theorem Ru_iorN {a1 b1 : Nat} (hd : decode mt.2.1 pc = .ok (.ior, 1)) (kk : Ru d mt a (pc + 1) L (.int (nI (a1 ||| b1)) :: st) G M Q) : Ru d mt a pc L (.int (nI b1) :: .int (nI a1) :: st) G M Q := Ru_ior' _ hd (nI_or a1 b1) kk
theorem Ru_ixorN {a1 b1 : Nat} (hd : decode mt.2.1 pc = .ok (.ixor, 1)) (kk : Ru d mt a (pc + 1) L (.int (nI (a1 ^^^ b1)) :: st) G M Q) : Ru d mt a pc L (.int (nI b1) :: .int (nI a1) :: st) G M Q := Ru_ixor' _ hd (nI_xor a1 b1) kk
theorem Ru_idifN {a1 b1 : Nat} (hd : decode mt.2.1 pc = .ok (.iand, 1)) (kk : Ru d mt a (pc + 1) L (.int (nI (r_dif a1 b1)) :: st) G M Q) : Ru d mt a pc L (.int (nI b1 ^^^ (-1)) :: .int (nI a1) :: st) G M Q := Ru_iand' _ hd (nI_dif a1 b1) kk
theorem Ru_ishrN {a1 b1 : Nat} (hd : decode mt.2.1 pc = .ok (.ishr, 1)) (h : a1 < 2147483648 ∧ b1 < 32) (kk : Ru d mt a (pc + 1) L (.int (nI (a1 >>> b1)) :: st) G M Q) : Ru d mt a pc L (.int (nI b1) :: .int (nI a1) :: st) G M Q := Ru_ishr' _ hd (nI_shr h.1 h.2) kk
theorem Ru_ishl1N {b1 : Nat} (hd : decode mt.2.1 pc = .ok (.ishl, 1)) (h : b1 < 32) (kk : Ru d mt a (pc + 1) L (.int (nI (2 ^ b1)) :: st) G M Q) : Ru d mt a pc L (.int (nI b1) :: .int (nI 1) :: st) G M Q := Ru_ishl' _ hd (nI_sh1 h) kk
theorem Ru_ishlN {a1 b1 : Nat} (hd : decode mt.2.1 pc = .ok (.ishl, 1)) (h : b1 < 32 ∧ a1 * 2 ^ b1 < 4294967296) (kk : Ru d mt a (pc + 1) L (.int (nI (a1 * 2 ^ b1)) :: st) G M Q) : Ru d mt a pc L (.int (nI b1) :: .int (nI a1) :: st) G M Q := Ru_ishl' _ hd (nI_shl h.1 h.2) kk
theorem nI_rem {a1 b1 : Nat} (ha : a1 < 2147483648) (h0 : 0 < b1) (hb : b1 < 2147483648) : nI a1 - nI a1 / nI b1 * nI b1 = nI (a1 % b1) := pk_rem (by omega) h0 (by omega)
theorem Ru_iremN {a1 b1 : Nat} (hd : decode mt.2.1 pc = .ok (.irem, 1)) (h : a1 < 2147483648 ∧ 0 < b1 ∧ b1 < 2147483648) (kk : Ru d mt a (pc + 1) L (.int (nI (a1 % b1)) :: st) G M Q) : Ru d mt a pc L (.int (nI b1) :: .int (nI a1) :: st) G M Q := by
  have h0 : ¬ nI b1 = 0 := nI_ne0 h.2.1 (by omega)
  refine Ru_irem hd h0 ?_
  rw [nI_rem h.1 h.2.1 h.2.2]
  exact kk
theorem Ru_idivN {a1 b1 : Nat} (hd : decode mt.2.1 pc = .ok (.idiv, 1)) (h : a1 < 2147483648 ∧ 0 < b1 ∧ b1 < 2147483648) (kk : Ru d mt a (pc + 1) L (.int (nI (a1 / b1)) :: st) G M Q) : Ru d mt a pc L (.int (nI b1) :: .int (nI a1) :: st) G M Q := by
  have h0 : ¬ nI b1 = 0 := nI_ne0 h.2.1 (by omega)
  refine Ru_idiv hd h0 ?_
  rw [pk_div (by omega) h.2.1 (by omega)]
  exact kk
end RBN
