-- THE WHOLE: law and plan, the developers' state
theorem tt9 {a b j : Nat} (ha : isTown a) (hb : isTown b) (hn : ¬ a = b) (hj : j ≤ 18) : ¬ b + j = a := by
  unfold isTown at ha hb
  omega
theorem lt9 {a b j : Nat} (ha : isTown a) (hb : isLaw b) (hj : j ≤ 3) : ¬ b + j = a := by
  unfold isTown at ha
  unfold isLaw at hb
  omega
theorem pt9 {a b j : Nat} (ha : isTown a) (hb : isPlan b) (hj : j ≤ 4) : ¬ b + j = a := by
  unfold isTown at ha
  unfold isPlan at hb
  omega
theorem X_st_law {mk : Nat} {tw lw pl : Nat → Nat} {D : Nat → Td} {W : Nat → Nat → List Nat} {M M' : Mem} (hG : ∀ i, i ≤ mk → Gd (D i) (W i)) (h : X_st mk tw lw pl D W M) (fr : ∀ o k, ¬ lT (tw mk) (lw 5) o k → r_eq3 M M' o k) {x : St9} {y : Lq} (p : laV x y) (hy : y.1 ≤ 150) (la : X_la (lw 5) y M') (h7 : M'.2.2 0 7 = some (lw mk)) (h19 : M'.2.2 (tw mk) 19 = some (lw 5)) : X_st mk tw (fun i => lw (pm9 mk 5 i)) pl (up9 mk D (lwD (D mk) y)) W M' := by
  obtain ⟨⟨a1, a2⟩, b, c, ⟨e1, e2, e3⟩, ⟨f1, f2, f3, f4⟩, g⟩ := h
  have h5 := (c 5 (by decide)).1
  have hm := (b mk (by omega)).1
  have qt : ∀ i, i ≤ 4 → ∀ j q, j ≤ 18 → (i = mk → j = 0 → ¬ q = 19) → r_eq3 M M' (tw i + j) q := fun i hi j q hj hq => fr _ q (lT_n (lQ_u (b i hi).1 h5 j q hj) (cO9_t (b i hi).1 hj) (fun y => by
    by_cases e : i = mk
    · subst e
      exact hq rfl (by omega) y.2
    · exact tt9 hm (b i hi).1 (fun w => e (e1 mk i (by omega) hi w).symm) hj y.1))
  have ql : ∀ i, i ≤ 5 → ¬ i = 5 → ∀ j q, j ≤ 3 → r_eq3 M M' (lw i + j) q := fun i hi hn j q hj => fr _ q (lT_n (lQ_l h5 (c i hi).1 (fun w => hn (e2 5 i (by decide) hi w).symm) j q hj) (cO9_l (c i hi).1 hj) (fun y => lt9 hm (c i hi).1 hj y.1))
  have qp : ∀ i, i ≤ 5 → ∀ j q, j ≤ 4 → r_eq3 M M' (pl i + j) q := fun i hi j q hj => fr _ q (lT_n (lQ_p h5 (c i hi).2 j q hj) (cO9_p (c i hi).2 hj) (fun y => pt9 hm (c i hi).2 hj y.1))
  have nP : ∀ o k, o ≤ 2 → ¬ (o = 0 ∧ (k = 0 ∨ k = 7)) → r_eq3 M M' o k := fun o k ho h1 => fr o k (fun y => by
    have hm9 := hm
    have h59 := h5
    unfold isTown at hm9
    unfold isLaw at h59
    rcases y with y | y
    · unfold lQ at y
      omega
    · omega)
  have lev : ∀ i, i ≤ mk → X_lev (tw i) (lw i) (pl i) (D i) (W i) M' := fun i hi => X_lev_mv (hG i hi).1 (hG i hi).2.1 (cq_rg (fun j q hj hq => qt i (by omega) j q hj (fun _ e => by have := hq e; omega))) (cl_rf (ql i (by omega) (by omega))) (cp_rf (qp i (by omega))) (g i hi)
  refine ⟨⟨(nP 0 5 (by decide) (by omega)).1.trans a1, a2⟩, fun i hi => ⟨(b i hi).1, ?_, ?_, X_lm_cq (cq_rg (fun j q hj hq => qt i hi j q hj (fun _ e => by have := hq e; omega))) (b i hi).2.2.2⟩, fun i hi => ⟨(c _ (pm9_le (by omega) (by decide) hi)).1, (c i hi).2⟩, ⟨e1, fun i j hi hj w => pm9_inj (e2 _ _ (pm9_le (by omega) (by decide) hi) (pm9_le (by omega) (by decide) hj) w), e3⟩, ⟨fun i hi => (nP 2 i (by decide) (by omega)).2.2.trans (f1 i hi), (nP 0 6 (by decide) (by omega)).2.2.trans f2, ?_, (nP 0 8 (by decide) (by omega)).2.2.trans f4⟩, fun i hi => ?_⟩
  · by_cases e : i = mk
    · subst e
      show _ = some (lw (pm9 i 5 i))
      rw [pm9_a]
      exact h19
    · show _ = some (lw (pm9 mk 5 i))
      rw [pm9_n e (by omega)]
      exact (qt i hi 0 19 (by decide) (fun z => absurd z e)).2.2.trans (b i hi).2.1
  · exact (qt i hi 0 20 (by decide) (fun _ _ => by decide)).2.2.trans (b i hi).2.2.1
  · show _ = some (lw (pm9 mk 5 5))
    rw [pm9_b (by omega)]
    exact h7
  · by_cases e : i = mk
    · subst e
      have hl := lev i hi
      have wf := (hG i hi).1
      rw [up9_s]
      show X_lev (tw i) (lw (pm9 i 5 i)) (pl i) (lwD (D i) y) (W i) M'
      rw [pm9_a]
      exact ⟨lwD_tm wf hl.1, X_bw_cg (lwD_4 (by decide)) (lwD_4 (by decide)) (lwD_4 (by decide)) hl.2.1, la.2.1.trans (congrArg nI (lwD_bt (D i) y).symm), lwD_lw p la.2.2 la.1.2.2, hl.2.2.2.2.1.trans (congrArg nI (lwD_hi hy (by decide)).symm), hl.2.2.2.2.2.1.trans (congrArg nI (lwD_4 (by decide)).symm), X_pj_cg (lwD_4 (by decide)) (fun j hj => lwD_hi hy (by omega)) hl.2.2.2.2.2.2⟩
    · have hl := lev i hi
      rw [up9_n e]
      show X_lev (tw i) (lw (pm9 mk 5 i)) (pl i) (D i) (W i) M'
      rw [pm9_n e (by omega)]
      exact hl
theorem X_st_lawF {mk : Nat} {tw lw pl : Nat → Nat} {D : Nat → Td} {W : Nat → Nat → List Nat} {M M' : Mem} (hG : ∀ i, i ≤ mk → Gd (D i) (W i)) (h : X_st mk tw lw pl D W M) (fr : ∀ o k, ¬ lT (tw mk) (lw 5) o k → r_eq3 M M' o k) (h7 : M'.2.2 0 7 = some (lw 5)) (h19 : M'.2.2 (tw mk) 19 = some (lw mk)) : X_st mk tw lw pl D W M' := by
  obtain ⟨⟨a1, a2⟩, b, c, ⟨e1, e2, e3⟩, ⟨f1, f2, f3, f4⟩, g⟩ := h
  have h5 := (c 5 (by decide)).1
  have hm := (b mk (by omega)).1
  have qt : ∀ i, i ≤ 4 → ∀ j q, j ≤ 18 → (i = mk → j = 0 → ¬ q = 19) → r_eq3 M M' (tw i + j) q := fun i hi j q hj hq => fr _ q (lT_n (lQ_u (b i hi).1 h5 j q hj) (cO9_t (b i hi).1 hj) (fun y => by
    by_cases e : i = mk
    · subst e
      exact hq rfl (by omega) y.2
    · exact tt9 hm (b i hi).1 (fun w => e (e1 mk i (by omega) hi w).symm) hj y.1))
  have ql : ∀ i, i ≤ 5 → ¬ i = 5 → ∀ j q, j ≤ 3 → r_eq3 M M' (lw i + j) q := fun i hi hn j q hj => fr _ q (lT_n (lQ_l h5 (c i hi).1 (fun w => hn (e2 5 i (by decide) hi w).symm) j q hj) (cO9_l (c i hi).1 hj) (fun y => lt9 hm (c i hi).1 hj y.1))
  have qp : ∀ i, i ≤ 5 → ∀ j q, j ≤ 4 → r_eq3 M M' (pl i + j) q := fun i hi j q hj => fr _ q (lT_n (lQ_p h5 (c i hi).2 j q hj) (cO9_p (c i hi).2 hj) (fun y => pt9 hm (c i hi).2 hj y.1))
  have nP : ∀ o k, o ≤ 2 → ¬ (o = 0 ∧ (k = 0 ∨ k = 7)) → r_eq3 M M' o k := fun o k ho h1 => fr o k (fun y => by
    have hm9 := hm
    have h59 := h5
    unfold isTown at hm9
    unfold isLaw at h59
    rcases y with y | y
    · unfold lQ at y
      omega
    · omega)
  have lev : ∀ i, i ≤ mk → X_lev (tw i) (lw i) (pl i) (D i) (W i) M' := fun i hi => X_lev_mv (hG i hi).1 (hG i hi).2.1 (cq_rg (fun j q hj hq => qt i (by omega) j q hj (fun _ e => by have := hq e; omega))) (cl_rf (ql i (by omega) (by omega))) (cp_rf (qp i (by omega))) (g i hi)
  refine ⟨⟨(nP 0 5 (by decide) (by omega)).1.trans a1, a2⟩, fun i hi => ⟨(b i hi).1, ?_, ?_, X_lm_cq (cq_rg (fun j q hj hq => qt i hi j q hj (fun _ e => by have := hq e; omega))) (b i hi).2.2.2⟩, c, ⟨e1, e2, e3⟩, ⟨fun i hi => (nP 2 i (by decide) (by omega)).2.2.trans (f1 i hi), (nP 0 6 (by decide) (by omega)).2.2.trans f2, ?_, (nP 0 8 (by decide) (by omega)).2.2.trans f4⟩, lev⟩
  · by_cases e : i = mk
    · subst e
      exact h19
    · exact (qt i hi 0 19 (by decide) (fun z => absurd z e)).2.2.trans (b i hi).2.1
  · exact (qt i hi 0 20 (by decide) (fun _ _ => by decide)).2.2.trans (b i hi).2.2.1
  · exact h7
theorem X_st_plan {mk : Nat} {tw lw pl : Nat → Nat} {D : Nat → Td} {W : Nat → Nat → List Nat} {M M' : Mem} (hG : ∀ i, i ≤ mk → Gd (D i) (W i)) (h : X_st mk tw lw pl D W M) (fr : ∀ o k, ¬ tQ (tw mk) (pl 5) mk o k → r_eq3 M M' o k) {z : Pl9} (jb : X_jb (pl 5) z M') (hp1 : M'.1 (pl 5) 0 = nI 1) (h7 : M'.2.2 0 8 = some (pl mk)) (h19 : M'.2.2 (tw mk) 20 = some (pl 5)) : X_st mk tw lw (fun i => pl (pm9 mk 5 i)) (up9 mk D (plD (D mk) z)) W M' := by
  obtain ⟨⟨a1, a2⟩, b, c, ⟨e1, e2, e3⟩, ⟨f1, f2, f3, f4⟩, g⟩ := h
  have h5 := (c 5 (by decide)).2
  have hm := (b mk (by omega)).1
  have qt : ∀ i, i ≤ 4 → ∀ j q, j ≤ 18 → (i = mk → j = 0 → ¬ q = 20) → r_eq3 M M' (tw i + j) q := fun i hi j q hj hq => fr _ q (tQ_n (qup9 (b i hi).1 h5 j q hj) (cO9_t (b i hi).1 hj) (fun y => by
    by_cases e : i = mk
    · subst e
      exact hq rfl (by omega) y.2
    · exact tt9 hm (b i hi).1 (fun w => e (e1 mk i (by omega) hi w).symm) hj y.1))
  have ql : ∀ i, i ≤ 5 → ∀ j q, j ≤ 3 → r_eq3 M M' (lw i + j) q := fun i hi j q hj => fr _ q (tQ_n (qlp9 (c i hi).1 h5 j q hj) (cO9_l (c i hi).1 hj) (fun y => lt9 hm (c i hi).1 hj y.1))
  have qp : ∀ i, i ≤ 5 → ¬ i = 5 → ∀ j q, j ≤ 4 → r_eq3 M M' (pl i + j) q := fun i hi hn j q hj => fr _ q (tQ_n (qW9_p h5 (c i hi).2 (fun w => hn (e3 5 i (by decide) hi w).symm) j q hj) (cO9_p (c i hi).2 hj) (fun y => pt9 hm (c i hi).2 hj y.1))
  have nP : ∀ o k, o ≤ 2 → ¬ (o = 0 ∧ (k = 0 ∨ k = 8)) → r_eq3 M M' o k := fun o k ho h1 => fr o k (fun y => by
    have hm9 := hm
    have h59 := h5
    unfold isTown at hm9
    unfold isPlan at h59
    rcases y with y | y
    · unfold pB at y
      omega
    · omega)
  have lev : ∀ i, i ≤ mk → X_lev (tw i) (lw i) (pl i) (D i) (W i) M' := fun i hi => X_lev_mv (hG i hi).1 (hG i hi).2.1 (cq_rg (fun j q hj hq => qt i (by omega) j q hj (fun _ e => by have := hq e; omega))) (cl_rf (ql i (by omega))) (cp_rf (qp i (by omega) (by omega))) (g i hi)
  refine ⟨⟨(nP 0 5 (by decide) (by omega)).1.trans a1, a2⟩, fun i hi => ⟨(b i hi).1, ?_, ?_, X_lm_cq (cq_rg (fun j q hj hq => qt i hi j q hj (fun _ e => by have := hq e; omega))) (b i hi).2.2.2⟩, fun i hi => ⟨(c i hi).1, (c _ (pm9_le (by omega) (by decide) hi)).2⟩, ⟨e1, e2, fun i j hi hj w => pm9_inj (e3 _ _ (pm9_le (by omega) (by decide) hi) (pm9_le (by omega) (by decide) hj) w)⟩, ⟨fun i hi => (nP 2 i (by decide) (by omega)).2.2.trans (f1 i hi), (nP 0 6 (by decide) (by omega)).2.2.trans f2, (nP 0 7 (by decide) (by omega)).2.2.trans f3, ?_⟩, fun i hi => ?_⟩
  · exact (qt i hi 0 19 (by decide) (fun _ _ => by decide)).2.2.trans (b i hi).2.1
  · by_cases e : i = mk
    · subst e
      show _ = some (pl (pm9 i 5 i))
      rw [pm9_a]
      exact h19
    · show _ = some (pl (pm9 mk 5 i))
      rw [pm9_n e (by omega)]
      exact (qt i hi 0 20 (by decide) (fun z => absurd z e)).2.2.trans (b i hi).2.2.1
  · show _ = some (pl (pm9 mk 5 5))
    rw [pm9_b (by omega)]
    exact h7
  · by_cases e : i = mk
    · subst e
      have hl := lev i hi
      have wf := (hG i hi).1
      rw [up9_s]
      show X_lev (tw i) (lw i) (pl (pm9 i 5 i)) (plD (D i) z) (W i) M'
      rw [pm9_a]
      exact ⟨plD_tm wf hl.1, X_bw_cg (plD_lo (by decide) (by decide)) (plD_lo (by decide) (by decide)) (plD_lo (by decide) (by decide)) hl.2.1, hl.2.2.1.trans (congrArg nI (bt_cg9 8 (fun k hk => (plD_lo (by omega) (by omega)).symm))), X_lw_cg (hG i hi).2.1 (fun j j1 j2 => plD_lo (by omega) j2) hl.2.2.2.1, hp1, jb.1, plD_pj jb⟩
    · have hl := lev i hi
      rw [up9_n e]
      show X_lev (tw i) (lw i) (pl (pm9 mk 5 i)) (D i) (W i) M'
      rw [pm9_n e (by omega)]
      exact hl
theorem X_st_planF {mk : Nat} {tw lw pl : Nat → Nat} {D : Nat → Td} {W : Nat → Nat → List Nat} {M M' : Mem} (hG : ∀ i, i ≤ mk → Gd (D i) (W i)) (h : X_st mk tw lw pl D W M) (fr : ∀ o k, ¬ tQ (tw mk) (pl 5) mk o k → r_eq3 M M' o k) (h7 : M'.2.2 0 8 = some (pl 5)) (h19 : M'.2.2 (tw mk) 20 = some (pl mk)) : X_st mk tw lw pl D W M' := by
  obtain ⟨⟨a1, a2⟩, b, c, ⟨e1, e2, e3⟩, ⟨f1, f2, f3, f4⟩, g⟩ := h
  have h5 := (c 5 (by decide)).2
  have hm := (b mk (by omega)).1
  have qt : ∀ i, i ≤ 4 → ∀ j q, j ≤ 18 → (i = mk → j = 0 → ¬ q = 20) → r_eq3 M M' (tw i + j) q := fun i hi j q hj hq => fr _ q (tQ_n (qup9 (b i hi).1 h5 j q hj) (cO9_t (b i hi).1 hj) (fun y => by
    by_cases e : i = mk
    · subst e
      exact hq rfl (by omega) y.2
    · exact tt9 hm (b i hi).1 (fun w => e (e1 mk i (by omega) hi w).symm) hj y.1))
  have ql : ∀ i, i ≤ 5 → ∀ j q, j ≤ 3 → r_eq3 M M' (lw i + j) q := fun i hi j q hj => fr _ q (tQ_n (qlp9 (c i hi).1 h5 j q hj) (cO9_l (c i hi).1 hj) (fun y => lt9 hm (c i hi).1 hj y.1))
  have qp : ∀ i, i ≤ 5 → ¬ i = 5 → ∀ j q, j ≤ 4 → r_eq3 M M' (pl i + j) q := fun i hi hn j q hj => fr _ q (tQ_n (qW9_p h5 (c i hi).2 (fun w => hn (e3 5 i (by decide) hi w).symm) j q hj) (cO9_p (c i hi).2 hj) (fun y => pt9 hm (c i hi).2 hj y.1))
  have nP : ∀ o k, o ≤ 2 → ¬ (o = 0 ∧ (k = 0 ∨ k = 8)) → r_eq3 M M' o k := fun o k ho h1 => fr o k (fun y => by
    have hm9 := hm
    have h59 := h5
    unfold isTown at hm9
    unfold isPlan at h59
    rcases y with y | y
    · unfold pB at y
      omega
    · omega)
  have lev : ∀ i, i ≤ mk → X_lev (tw i) (lw i) (pl i) (D i) (W i) M' := fun i hi => X_lev_mv (hG i hi).1 (hG i hi).2.1 (cq_rg (fun j q hj hq => qt i (by omega) j q hj (fun _ e => by have := hq e; omega))) (cl_rf (ql i (by omega))) (cp_rf (qp i (by omega) (by omega))) (g i hi)
  refine ⟨⟨(nP 0 5 (by decide) (by omega)).1.trans a1, a2⟩, fun i hi => ⟨(b i hi).1, ?_, ?_, X_lm_cq (cq_rg (fun j q hj hq => qt i hi j q hj (fun _ e => by have := hq e; omega))) (b i hi).2.2.2⟩, c, ⟨e1, e2, e3⟩, ⟨fun i hi => (nP 2 i (by decide) (by omega)).2.2.trans (f1 i hi), (nP 0 6 (by decide) (by omega)).2.2.trans f2, (nP 0 7 (by decide) (by omega)).2.2.trans f3, ?_⟩, lev⟩
  · exact (qt i hi 0 19 (by decide) (fun _ _ => by decide)).2.2.trans (b i hi).2.1
  · by_cases e : i = mk
    · subst e
      exact h19
    · exact (qt i hi 0 20 (by decide) (fun z => absurd z e)).2.2.trans (b i hi).2.2.1
  · exact h7
