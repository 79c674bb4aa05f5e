-- READING: the reference, the jobs of a plan
/-- the jobs as the reference holds them while it reads -/
def Y_jc (z : Pl9) (M : Mem) : Prop := ∀ j, j < z.1 → M.1 5 (3121 + 5 * j) = nI (z.2 (5 * j)) ∧ (z.2 (5 * j) = 0 → M.1 5 (3121 + 5 * j + 1) = nI (z.2 (5 * j + 1))) ∧ M.1 5 (3121 + 5 * j + 2) = nI (z.2 (5 * j + 2)) ∧ M.1 5 (3121 + 5 * j + 3) = nI (z.2 (5 * j + 3))
def Y_jb (z : Pl9) (M : Mem) : Prop := M.1 0 50 = nI z.1 ∧ z.1 ≤ 24 ∧ Y_jc z M ∧ ∀ h, 1 ≤ h → h ≤ 3 → M.1 19 h = r_b (pTold z h z.1)
theorem Y_jc_n {a b c e : Nat} {z y : Pl9} {M M' : Mem} (hz : Y_jc z M) (kp : ∀ q, q < 3121 + 5 * z.1 → M'.1 5 q = M.1 5 q) (h1 : M'.1 5 (3121 + 5 * z.1) = nI a) (h2 : a = 0 → M'.1 5 (3121 + 5 * z.1 + 1) = nI b) (h3 : M'.1 5 (3121 + 5 * z.1 + 2) = nI c) (h4 : M'.1 5 (3121 + 5 * z.1 + 3) = nI e) (y0 : y.1 = z.1 + 1) (y1 : y.2 (5 * z.1) = a) (y2 : y.2 (5 * z.1 + 1) = b) (y3 : y.2 (5 * z.1 + 2) = c) (y4 : y.2 (5 * z.1 + 3) = e) (ys : ∀ j, j < 5 * z.1 → y.2 j = z.2 j) : Y_jc y M' := by
  intro j hj
  by_cases ej : j = z.1
  · subst ej
    rw [y1, y2, y3, y4]
    exact ⟨h1, h2, h3, h4⟩
  · obtain ⟨q1, q2, q3, q4⟩ := hz j (by omega)
    rw [ys (5 * j) (by omega), ys (5 * j + 1) (by omega), ys (5 * j + 2) (by omega), ys (5 * j + 3) (by omega)]
    exact ⟨(kp _ (by omega)).trans q1, fun t => (kp _ (by omega)).trans (q2 t), (kp _ (by omega)).trans q3, (kp _ (by omega)).trans q4⟩
theorem pTold_x {T : Tx} {x : St9} {z : Pl9} {s : Ps} {h : Nat} : pTold (jbX T x z s) h (z.1 + 1) = (decide (kO (tK T s.1) = h) || pTold z h z.1) := by
  obtain ⟨c0, c1, c2, c3, c4, cs⟩ := jbX_c T x z s
  unfold pTold
  rw [Bool.eq_iff_iff, Bool.or_eq_true, decide_eq_true_iff, decide_eq_true_iff, decide_eq_true_iff]
  constructor
  · rintro ⟨j, hj, he⟩
    by_cases ej : j = z.1
    · subst ej
      rw [c1] at he
      exact Or.inl he
    · rw [cs (5 * j) (by omega)] at he
      exact Or.inr ⟨j, by omega, he⟩
  · rintro (he | ⟨j, hj, he⟩)
    · exact ⟨z.1, by omega, by rw [c1]; exact he⟩
    · exact ⟨j, by omega, by rw [cs (5 * j) (by omega)]; exact he⟩
theorem kO_at {k : Nat} (h : k = 142) : kO k = 0 := if_pos h
theorem kO_wear {k : Nat} (h : k = 129) : kO k = 1 := by subst h; rfl
theorem kO_hold {k : Nat} (h : k = 155) : kO k = 2 := by subst h; rfl
theorem kO_send {k : Nat} (h : k = 130) : kO k = 3 := by subst h; rfl
theorem kO_no {k : Nat} (h1 : ¬ k = 142) (h2 : ¬ k = 129) (h3 : ¬ k = 155) (h4 : ¬ k = 130) : kO k = 4 := by
  unfold kO
  rw [if_neg h1, if_neg h2, if_neg h3, if_neg h4]
