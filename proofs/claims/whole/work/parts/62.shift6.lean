-- SHIFT: the class's test
theorem awA_w (d : Td) (s h : Nat) (hh : h < 24) : ∀ n, (awA d s n).testBit h = wAny d s h n
  | 0 => by simp [awA, wAny]
  | n + 1 => by
    rw [wAny, ← awA_w d s h hh n]
    rw [show awA d s (n + 1) = if s.testBit n then awA d s n ||| bt (awB (d (89 + n)) (d (95 + n))) 24 else awA d s n from rfl]
    cases hb : s.testBit n
    · simp
    · simp only [if_true, Bool.true_and]
      rw [Nat.testBit_or, bt_tb (fun i _ => awB_le _ _ i) hh, awB_d]
theorem wAll_iff (d : Td) (hs s : Nat) : ∀ n, wAll d hs s n = true ↔ ∀ h, h < n → hs.testBit h = true → wAny d s h (d 2) = true
  | 0 => by
    constructor
    · intro _ h hh
      omega
    · intro _
      rfl
  | n + 1 => by
    rw [wAll, Bool.and_eq_true, wAll_iff d hs s n]
    constructor
    · rintro ⟨h1, h2⟩ h hh hb
      by_cases e : h = n
      · subst e
        rw [hb] at h2
        simpa using h2
      · exact h1 h (by omega) hb
    · intro hq
      refine ⟨fun h hh hb => hq h (by omega) hb, ?_⟩
      cases hb : hs.testBit n
      · rfl
      · rw [hq n (by omega) hb]
        rfl
theorem dif_w {d : Td} {hs s : Nat} (hh : hs < 16777216) : r_dif hs (awA d s (d 2)) = 0 ↔ wAll d hs s 24 = true := by
  rw [wAll_iff]
  constructor
  · intro hq h hlt hb
    rw [← awA_w d s h hlt]
    have := r_dif_bit hs (awA d s (d 2)) h
    rw [hq, hb] at this
    simp at this
    exact this
  · intro hq
    apply Nat.eq_of_testBit_eq
    intro i
    rw [r_dif_bit, Nat.zero_testBit]
    cases hb : hs.testBit i
    · rfl
    · have hi : i < 24 := r_bits_lt (show hs < 2 ^ 24 by omega) hb
      rw [awA_w d s i hi, hq i hi hb]
      rfl
