-- THE WHOLE: the reference's state
theorem Y_st_keep {mk : Nat} {D : Nat → Td} {W : Nat → Nat → List Nat} {g g' : Td} {M M' : Mem} (hG : ∀ i, i ≤ mk → Gd (D i) (W i)) (h : Y_st mk D W g M) (h5 : ∀ j, j < 2600 → M'.1 5 j = M.1 5 j) (h6 : ∀ j, j < 104 → M'.2.1 6 j = M.2.1 6 j) (h25 : M'.1 0 25 = M.1 0 25) (hs : ∀ j, 139 ≤ j → j < 155 → M'.1 5 (2600 + j) = nI (g' j)) : Y_st mk D W g' M' := by
  obtain ⟨⟨a1, a2⟩, b, c, _⟩ := h
  exact ⟨⟨h25.trans a1, a2⟩, Y_bk_mv (hG mk (Nat.le_refl _)).1 (fun k hk => h5 _ (by omega)) (fun k hk => h6 _ (by omega)) b, fun i hi => Y_bk_mv (hG i (by omega)).1 (fun k hk => h5 _ (by omega)) (fun k hk => h6 _ (by omega)) (c i hi), hs⟩
/-- a new town in block 0 -/
theorem Y_st_new {mk : Nat} {D : Nat → Td} {W V : Nat → Nat → List Nat} {g g' d : Td} {M M' : Mem} (hG : ∀ i, i ≤ mk → Gd (D i) (W i)) (h : Y_st mk D W g M) (hb : Y_bk 0 0 d (V mk) M') (hV : ∀ i, i < mk → V i = W i) (h5 : ∀ j, 650 ≤ j → j < 2600 → M'.1 5 j = M.1 5 j) (h6 : ∀ j, 26 ≤ j → j < 104 → M'.2.1 6 j = M.2.1 6 j) (h25 : M'.1 0 25 = M.1 0 25) (hs : ∀ j, 139 ≤ j → j < 155 → M'.1 5 (2600 + j) = nI (g' j)) : Y_st mk (up9 mk D d) V g' M' := by
  obtain ⟨⟨a1, a2⟩, b, c, _⟩ := h
  refine ⟨⟨h25.trans a1, a2⟩, ?_, fun i hi => ?_, hs⟩
  · rw [up9_s]
    exact hb
  · rw [up9_n (by omega), hV i hi]
    exact Y_bk_mv (hG i (by omega)).1 (fun k hk => h5 _ (by omega) (by omega)) (fun k hk => h6 _ (by omega) (by omega)) (c i hi)
theorem Y_bk_town {d : Td} {w : Nat → List Nat} {M : Mem} (hc : ∀ k, k < 521 → M.1 5 k = nI (d k)) (h4 : d 4 = 0) (hw : Y_w0 (d, w) M) : Y_bk 0 0 d w M := by
  obtain ⟨w1, w2, w3, _⟩ := hw
  refine ⟨fun k hk => ?_, fun j hj => ?_, fun k hk => ?_, fun k hk => ?_, fun k hk => ?_⟩
  · rw [Nat.zero_add]
    exact hc k hk
  · rw [h4] at hj
    exact absurd hj (Nat.not_lt_zero _)
  · have e : M.2.1 6 (0 + k) = M.2.1 6 k := by rw [Nat.zero_add]
    rw [e]
    exact w1 k hk
  · have e : M.2.1 6 (0 + (8 + k)) = M.2.1 6 (8 + k) := by rw [Nat.zero_add]
    rw [e]
    exact w2 k hk
  · have e : M.2.1 6 (0 + (20 + k)) = M.2.1 6 (20 + k) := by rw [Nat.zero_add]
    rw [e]
    exact w3 k hk
theorem Y_bk_law {d : Td} {w : Nat → List Nat} {y : Lq} {M M' : Mem} (h : Y_bk 0 0 d w M) (wf : Wf d) (hy : y.1 ≤ 150) (hk : ∀ j, j < 2600 → ¬ ((21 ≤ j ∧ j < 29) ∨ (139 ≤ j ∧ j < 155 + 2 * y.1)) → M'.1 5 j = M.1 5 j) (hr : ∀ j, ((21 ≤ j ∧ j < 29) ∨ (139 ≤ j ∧ j < 155 + 2 * y.1)) → M'.1 5 j = nI (y.2.2 j)) (h6 : ∀ j, M'.2.1 6 j = M.2.1 6 j) : Y_bk 0 0 (lwD d y) w M' := by
  have hb := wf.1
  obtain ⟨a1, a2, a3, a4, a5⟩ := h
  have e4 : lwD d y 4 = d 4 := lwD_4 (by decide)
  have e0 : lwD d y 0 = d 0 := lwD_4 (by decide)
  have e1 : lwD d y 1 = d 1 := lwD_4 (by decide)
  have e2 : lwD d y 2 = d 2 := lwD_4 (by decide)
  refine ⟨fun k hk9 => ?_, fun j hj => ?_, fun k hk9 => ?_, fun k hk9 => ?_, fun k hk9 => ?_⟩
  · by_cases e : (21 ≤ k ∧ k < 29) ∨ (139 ≤ k ∧ k < 155 + 2 * y.1)
    · rw [Nat.zero_add, lwD_y e]
      exact hr k e
    · rw [lwD_n e]
      exact (hk _ (by omega) (by rw [Nat.zero_add]; exact e)).trans (a1 k hk9)
  · rw [e4] at hj
    rw [lwD_hi (j := 521 + 5 * j) hy (by omega), lwD_hi (j := 522 + 5 * j) hy (by omega), lwD_hi (j := 523 + 5 * j) hy (by omega), lwD_hi (j := 524 + 5 * j) hy (by omega)]
    obtain ⟨q1, q2, q3, q4⟩ := a2 j hj
    exact ⟨(hk _ (by omega) (by omega)).trans q1, fun z => (hk _ (by omega) (by omega)).trans (q2 z), (hk _ (by omega) (by omega)).trans q3, (hk _ (by omega) (by omega)).trans q4⟩
  · rw [e0] at hk9
    exact ⟨(h6 _).trans (a3 k hk9).1, (a3 k hk9).2⟩
  · rw [e1] at hk9
    exact ⟨(h6 _).trans (a4 k hk9).1, (a4 k hk9).2⟩
  · rw [e2] at hk9
    exact ⟨(h6 _).trans (a5 k hk9).1, (a5 k hk9).2⟩
theorem Y_bk_plan {d : Td} {w : Nat → List Nat} {z : Pl9} {M M' : Mem} (h : Y_bk 0 0 d w M) (wf : Wf d) (hk : ∀ j, j < 3121 → ¬ j = 4 → ¬ j = 520 → ¬ (521 ≤ j ∧ j < 521 + 5 * z.1) → M'.1 5 j = M.1 5 j) (h4 : M'.1 5 4 = nI z.1) (h520 : M'.1 5 520 = nI 1) (jd : Y_jd z M') (h6 : ∀ j, M'.2.1 6 j = M.2.1 6 j) : Y_bk 0 0 (plD d z) w M' := by
  have hb := wf.1
  obtain ⟨a1, a2, a3, a4, a5⟩ := h
  have e0 : plD d z 0 = d 0 := plD_lo (by decide) (by decide)
  have e1 : plD d z 1 = d 1 := plD_lo (by decide) (by decide)
  have e2 : plD d z 2 = d 2 := plD_lo (by decide) (by decide)
  refine ⟨fun k hk9 => ?_, fun j hj => ?_, fun k hk9 => ?_, fun k hk9 => ?_, fun k hk9 => ?_⟩
  · rw [Nat.zero_add]
    by_cases e4 : k = 4
    · subst e4
      exact h4
    · by_cases e5 : k = 520
      · subst e5
        exact h520
      · rw [plD_lo e4 (by omega)]
        have := a1 k hk9
        rw [Nat.zero_add] at this
        exact (hk k (by omega) e4 e5 (by omega)).trans this
  · have hj2 : j < z.1 := hj
    obtain ⟨q1, q2, q3, q4⟩ := jd j hj2
    rw [Nat.zero_add, Nat.zero_add, Nat.zero_add, Nat.zero_add, show plD d z (521 + 5 * j) = z.2 (5 * j) from plD_j (i := 0) hj2 (by decide), show plD d z (522 + 5 * j) = z.2 (5 * j + 1) from plD_j (i := 1) hj2 (by decide), show plD d z (523 + 5 * j) = z.2 (5 * j + 2) from plD_j (i := 2) hj2 (by decide), show plD d z (524 + 5 * j) = z.2 (5 * j + 3) from plD_j (i := 3) hj2 (by decide)]
    exact ⟨q1, q2, q3, q4⟩
  · rw [e0] at hk9
    exact ⟨(h6 _).trans (a3 k hk9).1, (a3 k hk9).2⟩
  · rw [e1] at hk9
    exact ⟨(h6 _).trans (a4 k hk9).1, (a4 k hk9).2⟩
  · rw [e2] at hk9
    exact ⟨(h6 _).trans (a5 k hk9).1, (a5 k hk9).2⟩
theorem mk_gd {mk : Nat} {D : Nat → Td} {W : Nat → Nat → List Nat} (hG : ∀ i, i ≤ mk → Gd (D i) (W i)) : ∀ i, i ≤ mk + 1 → Gd (mkD mk D i) (mkW mk W i) := fun i hi => by
  by_cases e : i = mk + 1
  · have e1 : mkD mk D i = D mk := if_pos e
    rw [e1]
    exact hG mk (Nat.le_refl _)
  · have e1 : mkD mk D i = D i := if_neg e
    rw [e1]
    exact hG i (by omega)
theorem Y_st_mark {mk : Nat} {D : Nat → Td} {W : Nat → Nat → List Nat} {g : Td} {M M' : Mem} (hG : ∀ i, i ≤ mk → Gd (D i) (W i)) (hm : mk < 3) (h : Y_st mk D W g M) (h25 : M'.1 0 25 = nI (mk + 1)) (hc : Y_cp 0 (mk + 1) M M') : Y_st (mk + 1) (mkD mk D) (mkW mk W) g M' := by
  obtain ⟨⟨a1, a2⟩, b, c, s⟩ := h
  obtain ⟨c1, c2, c3, c4⟩ := hc
  have e1 : mkD mk D (mk + 1) = D mk := if_pos rfl
  have e2 : mkW mk W (mk + 1) = W mk := if_pos rfl
  refine ⟨⟨h25, by omega⟩, ?_, fun i hi => ?_, fun j h1 h2 => (c2 _ (by omega)).trans (s j h1 h2)⟩
  · rw [e1, e2]
    exact Y_bk_mv (hG mk (Nat.le_refl _)).1 (fun k hk => c2 _ (by omega)) (fun k hk => c4 _ (by omega)) b
  · have e3 : mkD mk D i = D i := if_neg (by omega)
    have e4 : mkW mk W i = W i := if_neg (by omega)
    rw [e3, e4]
    by_cases e : i = mk
    · subst e
      exact Y_bk_mv (hG i (Nat.le_refl _)).1 (fun k hk => (c1 k hk).trans (by rw [Nat.mul_zero])) (fun k hk => (c3 k hk).trans (by rw [Nat.mul_zero])) b
    · exact Y_bk_mv (hG i (by omega)).1 (fun k hk => c2 _ (by omega)) (fun k hk => c4 _ (by omega)) (c i (by omega))
theorem Y_st_back {mk : Nat} {D : Nat → Td} {W : Nat → Nat → List Nat} {g : Td} {M M' : Mem} (hG : ∀ i, i ≤ mk → Gd (D i) (W i)) (hm : 0 < mk) (h : Y_st mk D W g M) (h25 : M'.1 0 25 = nI (mk - 1)) (hc : Y_cp mk 0 M M') : Y_st (mk - 1) D W g M' := by
  obtain ⟨⟨a1, a2⟩, b, c, s⟩ := h
  obtain ⟨c1, c2, c3, c4⟩ := hc
  have cm := c (mk - 1) (by omega)
  rw [show mk - 1 + 1 = mk by omega] at cm
  refine ⟨⟨h25, by omega⟩, ?_, fun i hi => ?_, fun j h1 h2 => (c2 _ (by omega)).trans (s j h1 h2)⟩
  · exact Y_bk_mv (hG _ (by omega)).1 (fun k hk => by have := c1 k hk; rw [Nat.mul_zero] at this; exact this) (fun k hk => by have := c3 k hk; rw [Nat.mul_zero] at this; exact this) cm
  · exact Y_bk_mv (hG i (by omega)).1 (fun k hk => c2 _ (by omega)) (fun k hk => c4 _ (by omega)) (c i (by omega))
