-- A LAW THAT STANDS, A NIGHT
def orB (p : Nat → Bool) : Nat → Nat
  | 0 => 0
  | n + 1 => if p n = true then orB p n ||| 2 ^ n else orB p n
theorem orB_tb (p : Nat → Bool) (i : Nat) : ∀ n, (orB p n).testBit i = (decide (i < n) && p i)
  | 0 => by simp [orB]
  | n + 1 => by
    have ih := orB_tb p i n
    rw [orB]
    by_cases e : i = n
    · subst e
      split
      · rename_i h
        rw [Nat.testBit_or, ih, Nat.testBit_two_pow_self, h]
        simp
      · rename_i h
        rw [ih]
        simp [h]
    · have hd : decide (i < n + 1) = decide (i < n) := decide_eq_decide.mpr (by omega)
      rw [hd]
      split
      · rw [Nat.testBit_or, ih, Nat.testBit_two_pow]
        have : decide (n = i) = false := decide_eq_false (fun q => e q.symm)
        rw [this, Bool.or_false]
      · exact ih
theorem orB_lt (p : Nat → Bool) : ∀ n, orB p n < 2 ^ n
  | 0 => by simp [orB]
  | n + 1 => by
    have ih := orB_lt p n
    have h2 : 2 ^ n < 2 ^ (n + 1) := Nat.pow_lt_pow_right (by decide) (by omega)
    rw [orB]
    split
    · exact r_or_lt (Nat.lt_trans ih h2) h2
    · exact Nat.lt_trans ih h2
theorem orB_eq {p q : Nat → Bool} : ∀ n, (∀ k, k < n → p k = q k) → orB p n = orB q n
  | 0, _ => rfl
  | n + 1, h => by
    rw [orB, orB, orB_eq n (fun k hk => h k (by omega)), h n (by omega)]
/-- what a step of a LAW comes to in each of the eight ways -/
def nCw (st a s r : Nat) : Nat := if st = 0 then 170 else if st = 1 then 204 else if st = 2 then 240 else if st = 3 then (if s.testBit a = true then 255 else 0) else if st = 4 then (if r < a then 255 else 0) else if st = 5 then (if a < r then 255 else 0) else if r = a then 255 else 0
def nWy (t w h v : Nat) : Nat := (if w = t + 1 then 1 else 0) + (if h = t + 1 then 2 else 0) + (if v = t + 1 then 4 else 0)
theorem nWy_lt (t w h v : Nat) : nWy t w h v < 8 := by
  unfold nWy
  split <;> split <;> split <;> omega
theorem nCw_lt (st a s r : Nat) : nCw st a s r < 256 := by
  unfold nCw
  repeat' split
  all_goals omega
theorem b255 : ∀ i, i < 8 → Nat.testBit 255 i = true := by decide
theorem nIs (st a s t w h v r : Nat) : (nCw st a s r).testBit (nWy t w h v) = (if st = 0 then decide (w = t + 1) else if st = 1 then decide (h = t + 1) else if st = 2 then decide (v = t + 1) else if st = 3 then s.testBit a else if st = 4 then decide (r < a) else if st = 5 then decide (a < r) else decide (r = a)) := by
  have hb := b255 _ (nWy_lt t w h v)
  by_cases h0 : st = 0
  · rw [if_pos h0]
    unfold nCw nWy
    rw [if_pos h0]
    split <;> split <;> split <;> simp_all <;> decide
  · rw [if_neg h0]
    by_cases h1 : st = 1
    · rw [if_pos h1]
      unfold nCw nWy
      rw [if_neg h0, if_pos h1]
      split <;> split <;> split <;> simp_all <;> decide
    · rw [if_neg h1]
      by_cases h2 : st = 2
      · rw [if_pos h2]
        unfold nCw nWy
        rw [if_neg h0, if_neg h1, if_pos h2]
        split <;> split <;> split <;> simp_all <;> decide
      · rw [if_neg h2]
        unfold nCw
        rw [if_neg h0, if_neg h1, if_neg h2]
        generalize nWy t w h v = y at *
        repeat' split
        all_goals first | (simp [*]; done) | (simp_all; done)
def nDp (d : Td) (i0 : Nat) : Nat → Nat
  | 0 => 0
  | n + 1 => if d (155 + 2 * (i0 + n)) < 7 then nDp d i0 n + 1 else if d (155 + 2 * (i0 + n)) = 7 then nDp d i0 n else nDp d i0 n - 1
def nLv (d : Td) (s r i0 : Nat) : Nat → Nat → Nat
  | 0 => fun _ => 0
  | n + 1 => fun j =>
    if d (155 + 2 * (i0 + n)) < 7 then (if j = nDp d i0 n then nCw (d (155 + 2 * (i0 + n))) (d (155 + 2 * (i0 + n) + 1)) s r else nLv d s r i0 n j)
    else if d (155 + 2 * (i0 + n)) = 7 then (if j = nDp d i0 n - 1 then nLv d s r i0 n j ^^^ 255 else nLv d s r i0 n j)
    else if j = nDp d i0 n - 2 then (if d (155 + 2 * (i0 + n)) = 8 then nLv d s r i0 n j &&& nLv d s r i0 n (j + 1) else nLv d s r i0 n j ||| nLv d s r i0 n (j + 1)) else nLv d s r i0 n j
theorem nLv_lt (d : Td) (s r i0 : Nat) : ∀ n j, nLv d s r i0 n j < 256
  | 0, _ => by
    show 0 < 256
    omega
  | n + 1, j => by
    have h1 := nLv_lt d s r i0 n j
    have h2 := nLv_lt d s r i0 n (j + 1)
    have h3 := nCw_lt (d (155 + 2 * (i0 + n))) (d (155 + 2 * (i0 + n) + 1)) s r
    show (if _ then _ else _) < 256
    split
    · split <;> omega
    · split
      · split
        · exact Nat.xor_lt_two_pow (n := 8) h1 (by decide)
        · exact h1
      · split
        · split
          · exact Nat.lt_of_le_of_lt Nat.and_le_left h1
          · exact Nat.or_lt_two_pow (n := 8) h1 h2
        · exact h1
/-- the LAW of one THING, as a row of steps, can be gone through -/
def nOk (d : Td) (k : Nat) : Prop := d (139 + k) < d (147 + k) ∧ d (147 + k) ≤ 182 ∧ ∀ n, n < d (147 + k) - d (139 + k) → d (155 + 2 * (d (139 + k) + n)) ≤ 9 ∧ (d (155 + 2 * (d (139 + k) + n)) < 7 → nDp d (d (139 + k)) n < 13) ∧ (d (155 + 2 * (d (139 + k) + n)) = 7 → 1 ≤ nDp d (d (139 + k)) n) ∧ (8 ≤ d (155 + 2 * (d (139 + k) + n)) → 2 ≤ nDp d (d (139 + k)) n) ∧ (d (155 + 2 * (d (139 + k) + n)) = 3 → d (155 + 2 * (d (139 + k) + n) + 1) < 8) ∧ (4 ≤ d (155 + 2 * (d (139 + k) + n)) → d (155 + 2 * (d (139 + k) + n)) ≤ 6 → d (155 + 2 * (d (139 + k) + n) + 1) ≤ 6)
def Wl (d : Td) : Prop := ∀ k, k < 8 → d (21 + k) = 1 → nOk d k
theorem nDp_b {d : Td} {k : Nat} (h : nOk d k) : ∀ n, n ≤ d (147 + k) - d (139 + k) → nDp d (d (139 + k)) n ≤ 13 ∧ (0 < n → 1 ≤ nDp d (d (139 + k)) n)
  | 0, _ => by
    refine ⟨by rw [nDp]; omega, fun z => by omega⟩
  | n + 1, hn => by
    have ih := nDp_b h n (by omega)
    have h3 := h.2.2 n (by omega)
    rw [nDp]
    split
    · have := h3.2.1 (by assumption)
      omega
    · split
      · have := h3.2.2.1 (by assumption)
        omega
      · have := h3.2.2.2.1 (by omega)
        omega
def nFin (d : Td) (s r k : Nat) : Nat := nLv d s r (d (139 + k)) (d (147 + k) - d (139 + k)) 0
/-- the ways in which a THING of a set stays -/
def nS (d : Td) (s r k : Nat) : Nat := if s.testBit k = true ∧ d (21 + k) = 1 then nFin d s r k else 0
theorem nS_lt (d : Td) (s r k : Nat) : nS d s r k < 256 := by
  unfold nS
  split
  · exact nLv_lt _ _ _ _ _ _
  · omega
/-- what STAYS, when a set A always does -/
def stA (d : Td) (A s r w h v : Nat) : Nat := orB (fun k => s.testBit k && (A.testBit k || (nS d s r k).testBit (nWy k w h v))) (d 0)
theorem stA_lt (d : Td) (A s r w h v : Nat) : stA d A s r w h v < 2 ^ d 0 := orB_lt _ _
theorem stA_or {d : Td} {A s r w h v : Nat} (hs : s < 2 ^ d 0) : stA d A s r w h v = stA d 0 s r w h v ||| (A &&& s) := by
  apply Nat.eq_of_testBit_eq
  intro i
  rw [Nat.testBit_or, Nat.testBit_and]
  unfold stA
  rw [orB_tb, orB_tb, Nat.zero_testBit]
  cases hb : s.testBit i
  · simp
  · have := r_bits_lt hs hb
    simp only [this, decide_true, Bool.true_and, Bool.false_or, Bool.and_true]
    cases A.testBit i <;> cases (nS d s r i).testBit (nWy i w h v) <;> rfl
-- how the developers reckon it: what stays plainly, then what is worn, held, sent
def nPl (d : Td) (s r : Nat) (n : Nat) : Nat := orB (fun k => (nS d s r k).testBit 0) n
def nCh (d : Td) (s r x w h v left : Nat) : Nat := if x = 0 then left else if (nS d s r (x - 1)).testBit (nWy (x - 1) w h v) = true then left ||| 2 ^ (x - 1) else r_dif left (2 ^ (x - 1))
theorem nCh_tb (d : Td) (s r x w h v left i : Nat) : (nCh d s r x w h v left).testBit i = if x = i + 1 then (nS d s r i).testBit (nWy i w h v) else left.testBit i := by
  unfold nCh
  by_cases hx : x = 0
  · rw [if_pos hx, if_neg (by omega)]
  · rw [if_neg hx]
    by_cases e : x = i + 1
    · subst e
      rw [if_pos rfl, Nat.add_sub_cancel]
      split
      · rename_i h1
        rw [Nat.testBit_or, Nat.testBit_two_pow_self, Bool.or_true, h1]
      · rename_i h1
        rw [r_dif_bit, Nat.testBit_two_pow_self]
        simp at h1
        rw [h1]
        simp
    · rw [if_neg e]
      have e2 : (2 ^ (x - 1)).testBit i = false := by
        rw [Nat.testBit_two_pow]
        exact decide_eq_false (by omega)
      split
      · rw [Nat.testBit_or, e2, Bool.or_false]
      · rw [r_dif_bit, e2]
        simp
def nLeft (d : Td) (s r w h v : Nat) : Nat := nCh d s r v w h v (nCh d s r h w h v (nCh d s r w w h v (nPl d s r (d 0))))
theorem nLeft_eq {d : Td} {s r w h v : Nat} (hw : w ≤ d 0) (hh : h ≤ d 0) (hv : v ≤ d 0) : nLeft d s r w h v = stA d 0 s r w h v := by
  apply Nat.eq_of_testBit_eq
  intro i
  unfold nLeft stA nPl
  rw [nCh_tb, nCh_tb, nCh_tb, orB_tb, orB_tb]
  simp only [Nat.zero_testBit, Bool.false_or]
  have hz : s.testBit i = false → nS d s r i = 0 := fun z => by
    unfold nS
    rw [if_neg (by rw [z]; simp)]
  by_cases e1 : v = i + 1
  · rw [if_pos e1]
    have : i < d 0 := by omega
    cases hb : s.testBit i
    · rw [hz hb]
      simp
    · simp [this]
  · rw [if_neg e1]
    by_cases e2 : h = i + 1
    · rw [if_pos e2]
      have : i < d 0 := by omega
      cases hb : s.testBit i
      · rw [hz hb]
        simp
      · simp [this]
    · rw [if_neg e2]
      by_cases e3 : w = i + 1
      · rw [if_pos e3]
        have : i < d 0 := by omega
        cases hb : s.testBit i
        · rw [hz hb]
          simp
        · simp [this]
      · rw [if_neg e3]
        have e4 : nWy i w h v = 0 := by
          unfold nWy
          rw [if_neg e3, if_neg e2, if_neg e1]
        rw [e4]
        cases hb : s.testBit i
        · rw [hz hb]
          simp
        · simp
/-- a step as the developers keep it -/
def nRs (st a : Nat) : Nat := orB (fun r => if st = 4 then decide (r < a) else if st = 5 then decide (a < r) else decide (r = a)) 7
def nCd (st a : Nat) : Nat := if st < 3 then st * 256 else if st = 3 then 768 + 2 ^ a else if st < 7 then 1024 + nRs st a else (st - 2) * 256
theorem nRs_lt (st a : Nat) : nRs st a < 128 := orB_lt _ 7
theorem nCd_hi {st a : Nat} (hs : st ≤ 9) (ha : st = 3 → a < 8) : nCd st a >>> 8 = if st < 3 then st else if st = 3 then 3 else if st < 7 then 4 else st - 2 := by
  have h1 := nRs_lt st a
  rw [Nat.shiftRight_eq_div_pow]
  unfold nCd
  split
  · omega
  · split
    · have h2 := ha (by assumption)
      have h3 : 2 ^ a < 2 ^ 8 := Nat.pow_lt_pow_right (by decide) h2
      have h4 := Nat.two_pow_pos a
      omega
    · split <;> omega
theorem nCd_lo {st a : Nat} (hs : st < 7) (ha : st = 3 → a < 8) : nCd st a &&& 255 = if st < 3 then 0 else if st = 3 then 2 ^ a else nRs st a := by
  have h1 := nRs_lt st a
  have e := Nat.and_two_pow_sub_one_eq_mod (nCd st a) 8
  rw [show (2 : Nat) ^ 8 - 1 = 255 from rfl] at e
  rw [e]
  unfold nCd
  split
  · omega
  · split
    · have h2 := ha (by assumption)
      have h3 : 2 ^ a < 2 ^ 8 := Nat.pow_lt_pow_right (by decide) h2
      have h4 := Nat.two_pow_pos a
      omega
    · omega
theorem nCd_lt {st a : Nat} (hs : st ≤ 9) (ha : st = 3 → a < 8) : nCd st a < 4096 := by
  have h1 := nRs_lt st a
  unfold nCd
  split
  · omega
  · split
    · have h2 := ha (by assumption)
      have h3 : 2 ^ a < 2 ^ 8 := Nat.pow_lt_pow_right (by decide) h2
      have h4 := Nat.two_pow_pos a
      omega
    · split <;> omega
theorem nRs_tb {st a r : Nat} (hr : r < 7) : (nRs st a).testBit r = if st = 4 then decide (r < a) else if st = 5 then decide (a < r) else decide (r = a) := by
  unfold nRs
  rw [orB_tb, decide_eq_true hr, Bool.true_and]
theorem and_pow {a s : Nat} : 2 ^ a &&& s = if s.testBit a = true then 2 ^ a else 0 := by
  apply Nat.eq_of_testBit_eq
  intro i
  rw [Nat.testBit_and, Nat.testBit_two_pow]
  by_cases e : a = i
  · subst e
    cases hb : s.testBit a
    · simp
    · simp [Nat.testBit_two_pow_self]
  · rw [decide_eq_false e, Bool.false_and]
    split
    · rw [Nat.testBit_two_pow, decide_eq_false e]
    · simp
theorem or_bit {p x k : Nat} : p ||| (x &&& 1) * 2 ^ k = if x.testBit 0 = true then p ||| 2 ^ k else p := by
  have h : x &&& 1 = if x.testBit 0 = true then 1 else 0 := by
    have := r_bit_and1 x 0
    rwa [Nat.shiftRight_zero] at this
  rw [h]
  split <;> simp
/-- NIGHT -/
def g_night (d : Td) (s w h v y : Int32) : Int32 × Nat := if ¬ ((0 ≤ s.toInt ∧ s.toInt < ((2 ^ d 0 : Nat) : Int)) ∧ (-1 ≤ w.toInt ∧ w.toInt < d 0) ∧ (-1 ≤ h.toInt ∧ h.toInt < d 0) ∧ -1 ≤ v.toInt ∧ v.toInt < d 0) then (-1, 2) else if ¬ (0 ≤ y.toInt ∧ y.toInt ≤ 999) then (-1, 5) else
  if ¬ (mayB s.toInt.toNat (fun t => decide (d (5 + t) = 1)) (w.toInt + 1).toNat = true ∧ mayB s.toInt.toNat (fun _ => twAw d) (h.toInt + 1).toNat = true ∧ mayB s.toInt.toNat (fun t => decide (d (13 + t) = 1)) (v.toInt + 1).toNat = true) then (-1, 9) else (nI (stA d 0 s.toInt.toNat (y.toInt.toNat % 7) (w.toInt + 1).toNat (h.toInt + 1).toNat (v.toInt + 1).toNat), 0)
