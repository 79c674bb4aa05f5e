-- HOURS OF JOBS
theorem spn_tb {st h i : Nat} : (spn st h).testBit i = true ↔ i < 24 ∧ st ≤ i ∧ i < st + h := by
  unfold spn
  rw [orB_tb, Bool.and_eq_true, decide_eq_true_iff, decide_eq_true_iff]
theorem spn_lt (st h : Nat) : spn st h < 2 ^ 24 := orB_lt _ 24
/-- what is cut off behind the day makes no difference: two jobs begin in it -/
theorem spn_and {a h b g : Nat} (ha : a ≤ 23) (hb : b ≤ 23) (h1 : 1 ≤ h) (g1 : 1 ≤ g) : spn a h &&& spn b g ≠ 0 ↔ a < b + g ∧ b < a + h := by
  constructor
  · intro z
    apply Classical.byContradiction
    intro y
    apply z
    refine Nat.eq_of_testBit_eq (fun i => ?_)
    rw [Nat.testBit_and, Nat.zero_testBit]
    cases e1 : (spn a h).testBit i
    · rfl
    · cases e2 : (spn b g).testBit i
      · rfl
      · have q1 := spn_tb.mp e1
        have q2 := spn_tb.mp e2
        omega
  · rintro ⟨y1, y2⟩ z
    have e1 : (spn a h).testBit (max a b) = true := spn_tb.mpr (by omega)
    have e2 : (spn b g).testBit (max a b) = true := spn_tb.mpr (by omega)
    have e3 : (spn a h &&& spn b g).testBit (max a b) = true := by
      rw [Nat.testBit_and, e1, e2]
      rfl
    rw [z, Nat.zero_testBit] at e3
    cases e3
theorem spn_aw {st h f t : Nat} : r_dif (spn st h) (bt (awB f t) 24) = 0 ↔ ∀ i, i < 24 → st ≤ i → i < st + h → aw f t i = true := by
  have hb : ∀ i, i < 24 → (bt (awB f t) 24).testBit i = aw f t i := fun i hi => (bt_tb (fun i _ => awB_le f t i) hi).trans awB_d
  constructor
  · intro z i q1 q2 q3
    have e : (r_dif (spn st h) (bt (awB f t) 24)).testBit i = false := by rw [z, Nat.zero_testBit]
    rw [r_dif_bit, spn_tb.mpr ⟨q1, q2, q3⟩, hb i q1] at e
    cases y : aw f t i
    · rw [y] at e
      cases e
    · rfl
  · intro q
    refine Nat.eq_of_testBit_eq (fun i => ?_)
    rw [r_dif_bit, Nat.zero_testBit]
    cases e : (spn st h).testBit i
    · rfl
    · have y := spn_tb.mp e
      rw [hb i y.1, q i y.1 y.2.1 y.2.2]
      rfl
