-- WANTS BY TIME
theorem fl_cn (p : Nat → Bool) : ∀ n, ((List.range n).filter p).length = cn p n
  | 0 => rfl
  | n + 1 => by
    rw [List.range_succ, List.filter_append, List.length_append, fl_cn p n, cn]
    cases h : p n <;> simp [h]
theorem cn_or {p q r : Nat → Bool} (h : ∀ k, r k = (p k || q k)) (h2 : ∀ k, ¬ (p k = true ∧ q k = true)) : ∀ n, cn r n = cn p n + cn q n
  | 0 => rfl
  | n + 1 => by
    rw [cn, cn, cn, cn_or h h2 n, h n]
    have := h2 n
    cases hp : p n <;> cases hq : q n <;> simp_all <;> omega
def oSeg (d : Td) (f n : Nat) : List Nat := (List.range n).flatMap (fun q => wAtT d (f + q))
theorem ordH_eq (d : Td) (h : Nat) : ordH d h = (List.range h).flatMap (fun q => wAtT d q) := rfl
theorem oSeg_succ (d : Td) (f n : Nat) : oSeg d f (n + 1) = oSeg d f n ++ wAtT d (f + n) := by
  unfold oSeg
  rw [List.range_succ, List.flatMap_append]
  simp
theorem ordH_succ (d : Td) (h : Nat) : ordH d (h + 1) = ordH d h ++ wAtT d h := by
  rw [ordH_eq, ordH_eq, List.range_succ, List.flatMap_append]
  simp
theorem ordH_add (d : Td) (f : Nat) : ∀ n, ordH d (f + n) = ordH d f ++ oSeg d f n
  | 0 => by simp [oSeg]
  | n + 1 => by
    rw [show f + (n + 1) = (f + n) + 1 from rfl, ordH_succ, ordH_add d f n, oSeg_succ, List.append_assoc]
theorem ordH_len (d : Td) : ∀ h, (ordH d h).length = cn (fun w => decide (d (115 + w) < h)) (d 3)
  | 0 => by
    have : ∀ n, cn (fun w => decide (d (115 + w) < 0)) n = 0 := by
      intro n
      induction n with
      | zero => rfl
      | succ n ih =>
        rw [cn, ih]
        simp
    rw [this]
    rfl
  | h + 1 => by
    rw [ordH_succ, List.length_append, ordH_len d h]
    have e : (wAtT d h).length = cn (fun w => d (115 + w) == h) (d 3) := fl_cn _ _
    rw [e, ← cn_or (r := fun w => decide (d (115 + w) < h + 1))]
    · intro k
      by_cases q : d (115 + k) = h
      · simp [q]
      · have : (d (115 + k) == h) = false := by simpa using q
        rw [this, Bool.or_false]
        exact decide_eq_decide.mpr (by omega)
    · rintro k ⟨a, b⟩
      have a := of_decide_eq_true a
      simp at b
      omega
theorem ordH_le (d : Td) (h : Nat) : (ordH d h).length ≤ d 3 := by
  rw [ordH_len]
  exact cn_le _ _
theorem ordH_mono (d : Td) (f n : Nat) : (ordH d f).length + (oSeg d f n).length = (ordH d (f + n)).length := by
  rw [ordH_add, List.length_append]
theorem oSeg_get {d : Td} {f n j : Nat} (h : f + n ≤ 25) (hj : j < (oSeg d f n).length) : (ordH d 25).getD ((ordH d f).length + j) 0 = (oSeg d f n).getD j 0 := by
  have e : ordH d 25 = ordH d f ++ (oSeg d f n ++ oSeg d (f + n) (25 - (f + n))) := by
    have h1 := ordH_add d (f + n) (25 - (f + n))
    rw [show f + n + (25 - (f + n)) = 25 by omega, ordH_add d f n, List.append_assoc] at h1
    exact h1
  rw [e, List.getD_eq_getElem?_getD, List.getD_eq_getElem?_getD, List.getElem?_append_right (Nat.le_add_right _ _), Nat.add_sub_cancel_left, List.getElem?_append_left hj]
theorem wAtT_lt {d : Td} {t w : Nat} (h : w ∈ wAtT d t) : w < d 3 := List.mem_range.mp (List.mem_filter.mp h).1
theorem oSeg_lt {d : Td} {f n w : Nat} (h : w ∈ oSeg d f n) : w < d 3 := by
  obtain ⟨q, _, h2⟩ := List.mem_flatMap.mp h
  exact wAtT_lt h2
theorem wR_seg (d : Td) (p : Sh) (f : Nat) : ∀ n, wR d p f n = wAll1 d p (oSeg d f n)
  | 0 => rfl
  | n + 1 => by
    rw [wR, wR_seg d p f n, oSeg_succ]
    unfold wAll1
    rw [List.foldl_append]
theorem ask_f {d : Td} {f n : Nat} (h : (ordH d (f + n)).length ≤ (ordH d f).length) : ∀ i, i < n → wAtT d (f + i) = [] := by
  have h1 := ordH_mono d f n
  have h2 : oSeg d f n = [] := List.eq_nil_of_length_eq_zero (by omega)
  intro i hi
  have h3 : ∀ m, m ≤ n → oSeg d f m = [] := by
    intro m hm
    have h4 := ordH_add d f n
    have h5 := ordH_mono d f m
    have h6 := ordH_mono d (f + m) (n - m)
    rw [show f + m + (n - m) = f + n by omega] at h6
    exact List.eq_nil_of_length_eq_zero (by omega)
  have h7 := h3 (i + 1) (by omega)
  rw [oSeg_succ] at h7
  exact (List.append_eq_nil_iff.mp h7).2
theorem and_p2 {x n : Nat} : x &&& 2 ^ n = if x.testBit n = true then 2 ^ n else 0 := by
  rw [Nat.and_comm]
  exact and_pow
/-- the next set that holds n -/
theorem sup_nx : ∀ (u s n : Nat), r_dif n s = 0 → r_dif n u = 0 → s < u → (s + 1) ||| n ≤ u := by
  have tb : ∀ a b : Nat, r_dif a b = 0 ↔ ∀ i, a.testBit i = true → b.testBit i = true := by
    intro a b
    constructor
    · intro h i ha
      have := r_dif_bit a b i
      rw [h, ha] at this
      simp at this
      exact this
    · intro h
      apply Nat.eq_of_testBit_eq
      intro i
      rw [r_dif_bit, Nat.zero_testBit]
      cases ha : a.testBit i
      · rfl
      · rw [h i ha]
        rfl
  have half : ∀ a b : Nat, r_dif a b = 0 → r_dif (a / 2) (b / 2) = 0 := by
    intro a b h
    rw [tb] at h ⊢
    intro i hi
    rw [Nat.testBit_div_two] at hi ⊢
    exact h (i + 1) hi
  have low : ∀ a b : Nat, r_dif a b = 0 → a % 2 ≤ b % 2 := by
    intro a b h
    rw [tb] at h
    have h0 := h 0
    rw [Nat.testBit_zero, Nat.testBit_zero] at h0
    have := Nat.mod_two_eq_zero_or_one a
    rcases this with e | e
    · omega
    · have := of_decide_eq_true (h0 (decide_eq_true e))
      omega
  intro u
  induction u using Nat.strongRecOn with
  | ind u ih =>
    intro s n hs hu hlt
    have l1 := low n s hs
    have l2 := low n u hu
    have d1 : ((s + 1) ||| n) / 2 = (s + 1) / 2 ||| n / 2 := by
      apply Nat.eq_of_testBit_eq
      intro i
      rw [Nat.testBit_div_two, Nat.testBit_or, Nat.testBit_or, Nat.testBit_div_two, Nat.testBit_div_two]
    have d2 : ((s + 1) ||| n) % 2 = if (s + 1) % 2 = 1 ∨ n % 2 = 1 then 1 else 0 := by
      have h0 := Nat.testBit_or (s + 1) n 0
      rw [Nat.testBit_zero, Nat.testBit_zero, Nat.testBit_zero] at h0
      have := Nat.mod_two_eq_zero_or_one ((s + 1) ||| n)
      split
      · rename_i q
        have : (decide ((s + 1) % 2 = 1) || decide (n % 2 = 1)) = true := by
          rcases q with q | q <;> simp [q]
        rw [this] at h0
        exact of_decide_eq_true h0
      · rename_i q
        have : (decide ((s + 1) % 2 = 1) || decide (n % 2 = 1)) = false := by
          have a : ¬ (s + 1) % 2 = 1 := fun z => q (Or.inl z)
          have b : ¬ n % 2 = 1 := fun z => q (Or.inr z)
          rw [decide_eq_false a, decide_eq_false b]
          rfl
        rw [this] at h0
        have := of_decide_eq_false h0
        omega
    have dm := Nat.div_add_mod ((s + 1) ||| n) 2
    by_cases so : s % 2 = 1
    · have e : (s + 1) / 2 = s / 2 + 1 := by omega
      have := ih (u / 2) (by omega) (s / 2) (n / 2) (half n s hs) (half n u hu) (by omega)
      rw [d1, e, d2] at dm
      split at dm <;> omega
    · have e : (s + 1) / 2 = s / 2 := by omega
      have h2 : s / 2 ||| n / 2 = s / 2 := by
        apply Nat.eq_of_testBit_eq
        intro i
        rw [Nat.testBit_or]
        cases hb : (n / 2).testBit i
        · simp
        · rw [(tb (n / 2) (s / 2)).mp (half n s hs) i hb]
          rfl
      rw [d1, e, h2, d2] at dm
      split at dm <;> omega
theorem sup_lt {s n : Nat} (hs : r_dif n s = 0) : n ≤ s := by
  refine sub_le (fun i hi => ?_)
  have := r_dif_bit n s i
  rw [hs, hi] at this
  simp at this
  exact this
theorem sup_or (s n : Nat) : r_dif n (s ||| n) = 0 := by
  apply Nat.eq_of_testBit_eq
  intro i
  rw [r_dif_bit, Nat.testBit_or, Nat.zero_testBit]
  cases s.testBit i <;> cases n.testBit i <;> rfl
