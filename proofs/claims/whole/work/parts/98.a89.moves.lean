-- THE WHOLE: the calls that change a town
def pm9 (a b i : Nat) : Nat := if i = a then b else if i = b then a else i
theorem pm9_inj {a b i j : Nat} (h : pm9 a b i = pm9 a b j) : i = j := by
  unfold pm9 at h
  repeat' split at h
  all_goals omega
theorem pm9_a (a b : Nat) : pm9 a b a = b := if_pos rfl
theorem pm9_b {a b : Nat} (h : ¬ b = a) : pm9 a b b = a := (if_neg h).trans (if_pos rfl)
theorem pm9_n {a b i : Nat} (h1 : ¬ i = a) (h2 : ¬ i = b) : pm9 a b i = i := (if_neg h1).trans (if_neg h2)
theorem pm9_le {a b i n : Nat} (ha : a ≤ n) (hb : b ≤ n) (hi : i ≤ n) : pm9 a b i ≤ n := by
  unfold pm9
  repeat' split
  all_goals omega
def up9 {α : Type} (mk : Nat) (D : Nat → α) (d : α) : Nat → α := fun i => if i = mk then d else D i
theorem up9_s {α : Type} {mk : Nat} {D : Nat → α} {d : α} : up9 mk D d mk = d := if_pos rfl
theorem up9_n {α : Type} {mk i : Nat} {D : Nat → α} {d : α} (h : ¬ i = mk) : up9 mk D d i = D i := if_neg h
theorem up9_gd {mk : Nat} {D : Nat → Td} {W V : Nat → Nat → List Nat} {d : Td} {w : Nat → List Nat} (hG : ∀ i, i ≤ mk → Gd (D i) (W i)) (hd : Gd d w) : ∀ i, i ≤ mk → Gd (up9 mk D d i) (V i) := fun i hi => by
  by_cases e : i = mk
  · subst e
    rw [up9_s]
    exact hd
  · rw [up9_n e]
    exact hG i hi
theorem cq_rg {t : Nat} {M M' : Mem} (h : ∀ j q, j ≤ 18 → (j = 0 → q < 19) → r_eq3 M M' (t + j) q) : X_cq t t M M' := ⟨⟨(h 1 2 (by decide) (by decide)).1, (h 3 2 (by decide) (by decide)).1, (h 10 2 (by decide) (by decide)).1, (h 0 12 (by decide) (by decide)).1⟩, ⟨(h 0 1 (by decide) (by decide)).1, (h 0 2 (by decide) (by decide)).1, (h 0 16 (by decide) (by decide)).1⟩, ⟨fun q _ => (h 5 q (by decide) (fun z => absurd z (by decide))).1, fun q _ => (h 6 q (by decide) (fun z => absurd z (by decide))).1, fun q _ => (h 7 q (by decide) (fun z => absurd z (by decide))).1, fun q _ => (h 8 q (by decide) (fun z => absurd z (by decide))).1, fun q _ => (h 9 q (by decide) (fun z => absurd z (by decide))).1⟩, ⟨fun q _ => (h 12 q (by decide) (fun z => absurd z (by decide))).1, fun q _ => (h 13 q (by decide) (fun z => absurd z (by decide))).1⟩, ⟨fun q _ => (h 14 q (by decide) (fun z => absurd z (by decide))).1, fun q _ => (h 15 q (by decide) (fun z => absurd z (by decide))).1, fun q _ => (h 16 q (by decide) (fun z => absurd z (by decide))).1, fun q _ => (h 17 q (by decide) (fun z => absurd z (by decide))).1, fun q _ => (h 18 q (by decide) (fun z => absurd z (by decide))).1⟩, ⟨fun q _ => (h 2 q (by decide) (fun z => absurd z (by decide))).2.1, fun q _ => (h 4 q (by decide) (fun z => absurd z (by decide))).2.1, fun q _ => (h 11 q (by decide) (fun z => absurd z (by decide))).2.1⟩, (h 1 0 (by decide) (by decide)).1, (h 3 0 (by decide) (by decide)).1, (h 10 0 (by decide) (by decide)).1⟩
/-- the cells of the object's own fields and of the hands at the TOKENS -/
def cO9 (o : Nat) : Prop := o = 0 ∨ o = 2 ∨ o = 40 ∨ (43 ≤ o ∧ o ≤ 45)
theorem cO9_t {t j : Nat} (ht : isTown t) (hj : j ≤ 18) : ¬ cO9 (t + j) := by
  unfold isTown at ht
  unfold cO9
  omega
theorem cO9_l {t j : Nat} (ht : isLaw t) (hj : j ≤ 3) : ¬ cO9 (t + j) := by
  unfold isLaw at ht
  unfold cO9
  omega
theorem cO9_p {t j : Nat} (ht : isPlan t) (hj : j ≤ 4) : ¬ cO9 (t + j) := by
  unfold isPlan at ht
  unfold cO9
  omega
theorem tP_9 {u lu pu mk o k : Nat} (h : tP u lu pu mk o k) : P9 u lu pu o ∨ (o = 0 ∧ (k = 0 ∨ k = 6)) ∨ (o = 2 ∧ k = mk) ∨ (o = 40 ∧ (k = 1 ∨ (6 ≤ k ∧ k ≤ 8))) ∨ (43 ≤ o ∧ o ≤ 45) := by
  rcases h with h | h
  · refine Or.inl ?_
    rcases h with h | h | h
    · exact Or.inl ⟨h.1, h.2.1⟩
    · exact Or.inr (Or.inl ⟨by omega, by omega⟩)
    · exact Or.inr (Or.inr ⟨by omega, by omega⟩)
  · exact Or.inr h
theorem tP_n {u lu pu mk o k : Nat} (h1 : ¬ P9 u lu pu o) (h2 : ¬ cO9 o) : ¬ tP u lu pu mk o k := fun z => by
  rcases tP_9 z with y | y
  · exact h1 y
  · unfold cO9 at h2
    omega
theorem X_st_town {mk : Nat} {tw lw pl : Nat → Nat} {D : Nat → Td} {W : Nat → Nat → List Nat} {M M' : Mem} {d : Td} {w : Nat → List Nat} (hG : ∀ i, i ≤ mk → Gd (D i) (W i)) (h : X_st mk tw lw pl D W M) (fr : ∀ o k, ¬ tP (tw 4) (lw 4) (pl 4) mk o k → r_eq3 M M' o k) (cu : X_cu mk (tw 4) (lw 4) (pl 4) d M') (tm : X_tm (tw 4) d M') (bw : X_bw (tw 4) (d, w) M') (lm : X_lm (tw 4) M') (h6 : M'.2.2 0 6 = some (tw mk)) (hl : X_lw (lw 4) d M') (pj : X_pj (pl 4) d M') : X_st mk (fun i => tw (pm9 mk 4 i)) (fun i => lw (pm9 mk 4 i)) (fun i => pl (pm9 mk 4 i)) (up9 mk D d) (up9 mk W w) M' := by
  obtain ⟨⟨a1, a2⟩, b, c, ⟨e1, e2, e3⟩, ⟨f1, f2, f3, f4⟩, g⟩ := h
  have hu := (b 4 (by decide)).1
  have hlu := (c 4 (by decide)).1
  have hpu := (c 4 (by decide)).2
  have qt : ∀ i, i ≤ 4 → ¬ i = 4 → ∀ j q, j ≤ 18 → r_eq3 M M' (tw i + j) q := fun i hi hn j q hj => fr _ q (tP_n (P9_t hu (b i hi).1 hlu hpu (fun z => hn (e1 4 i (by decide) hi z).symm) j hj) (cO9_t (b i hi).1 hj))
  have ql : ∀ i, i ≤ 5 → ¬ i = 4 → ∀ j q, j ≤ 3 → r_eq3 M M' (lw i + j) q := fun i hi hn j q hj => fr _ q (tP_n (P9_l hu (c i hi).1 hlu hpu (fun z => hn (e2 4 i (by decide) hi z).symm) j hj) (cO9_l (c i hi).1 hj))
  have qp : ∀ i, i ≤ 5 → ¬ i = 4 → ∀ j q, j ≤ 4 → r_eq3 M M' (pl i + j) q := fun i hi hn j q hj => fr _ q (tP_n (P9_p hu (c i hi).2 hlu hpu (fun z => hn (e3 4 i (by decide) hi z).symm) j hj) (cO9_p (c i hi).2 hj))
  have nP : ∀ o k, o ≤ 2 → ¬ (o = 0 ∧ (k = 0 ∨ k = 6)) → ¬ (o = 2 ∧ k = mk) → r_eq3 M M' o k := fun o k ho h1 h2 => fr o k (fun z => by
    have p9 : ¬ P9 (tw 4) (lw 4) (pl 4) o := by
      unfold isTown at hu
      unfold isLaw at hlu
      unfold isPlan at hpu
      unfold P9
      omega
    rcases tP_9 z with y | y
    · exact p9 y
    · omega)
  refine ⟨⟨cu.1.1, a2⟩, fun i hi => ?_, fun i hi => ⟨(c _ (pm9_le (by omega) (by decide) hi)).1, (c _ (pm9_le (by omega) (by decide) hi)).2⟩, ⟨fun i j hi hj z => pm9_inj (e1 _ _ (pm9_le (by omega) (by decide) hi) (pm9_le (by omega) (by decide) hj) z), fun i j hi hj z => pm9_inj (e2 _ _ (pm9_le (by omega) (by decide) hi) (pm9_le (by omega) (by decide) hj) z), fun i j hi hj z => pm9_inj (e3 _ _ (pm9_le (by omega) (by decide) hi) (pm9_le (by omega) (by decide) hj) z)⟩, ⟨fun i hi => ?_, ?_, ?_, ?_⟩, fun i hi => ?_⟩
  · dsimp only
    by_cases e : i = mk
    · subst e
      rw [pm9_a]
      exact ⟨hu, cu.2.1.1, cu.2.2.1, lm⟩
    · have hp4 : ¬ pm9 mk 4 i = 4 := fun z => e (pm9_inj (z.trans (pm9_a mk 4).symm))
      have hle : pm9 mk 4 i ≤ 4 := pm9_le (by omega) (by decide) hi
      have bi := b _ hle
      exact ⟨bi.1, (qt _ hle hp4 0 19 (by decide)).2.2.trans bi.2.1, (qt _ hle hp4 0 20 (by decide)).2.2.trans bi.2.2.1, X_lm_cq (cq_rf (qt _ hle hp4)) bi.2.2.2⟩
  · dsimp only
    by_cases e : i = mk
    · subst e
      rw [pm9_a]
      exact cu.1.2.2.1
    · rw [pm9_n e (by omega)]
      exact (nP 2 i (by decide) (by omega) (by omega)).2.2.trans (f1 i hi)
  · dsimp only
    rw [pm9_b (by omega)]
    exact h6
  · dsimp only
    rw [pm9_n (by omega) (by omega)]
    exact (nP 0 7 (by decide) (by omega) (by omega)).2.2.trans f3
  · dsimp only
    rw [pm9_n (by omega) (by omega)]
    exact (nP 0 8 (by decide) (by omega) (by omega)).2.2.trans f4
  · dsimp only
    by_cases e : i = mk
    · subst e
      rw [pm9_a, up9_s, up9_s]
      exact ⟨tm, bw, cu.2.1.2.2, hl, cu.2.2.2.2.1, cu.2.2.2.2.2, pj⟩
    · rw [pm9_n e (by omega), up9_n e, up9_n e]
      have hG9 := hG i hi
      exact X_lev_mv hG9.1 hG9.2.1 (cq_rf (qt i (by omega) (by omega))) (cl_rf (ql i (by omega) (by omega))) (cp_rf (qp i (by omega) (by omega))) (g i hi)
/-- a text that told no town -/
theorem X_st_townF {mk : Nat} {tw lw pl : Nat → Nat} {D : Nat → Td} {W : Nat → Nat → List Nat} {M M' : Mem} (hG : ∀ i, i ≤ mk → Gd (D i) (W i)) (h : X_st mk tw lw pl D W M) (fr : ∀ o k, ¬ tP (tw 4) (lw 4) (pl 4) mk o k → r_eq3 M M' o k) (lm : X_lm (tw 4) M') (h6 : M'.2.2 0 6 = some (tw 4)) (hk : M'.2.2 2 mk = some (tw mk)) : X_st mk tw lw pl D W M' := by
  obtain ⟨⟨a1, a2⟩, b, c, ⟨e1, e2, e3⟩, ⟨f1, f2, f3, f4⟩, g⟩ := h
  have hu := (b 4 (by decide)).1
  have hlu := (c 4 (by decide)).1
  have hpu := (c 4 (by decide)).2
  have qt : ∀ i, i ≤ 4 → ¬ i = 4 → ∀ j q, j ≤ 18 → r_eq3 M M' (tw i + j) q := fun i hi hn j q hj => fr _ q (tP_n (P9_t hu (b i hi).1 hlu hpu (fun z => hn (e1 4 i (by decide) hi z).symm) j hj) (cO9_t (b i hi).1 hj))
  have ql : ∀ i, i ≤ 5 → ¬ i = 4 → ∀ j q, j ≤ 3 → r_eq3 M M' (lw i + j) q := fun i hi hn j q hj => fr _ q (tP_n (P9_l hu (c i hi).1 hlu hpu (fun z => hn (e2 4 i (by decide) hi z).symm) j hj) (cO9_l (c i hi).1 hj))
  have qp : ∀ i, i ≤ 5 → ¬ i = 4 → ∀ j q, j ≤ 4 → r_eq3 M M' (pl i + j) q := fun i hi hn j q hj => fr _ q (tP_n (P9_p hu (c i hi).2 hlu hpu (fun z => hn (e3 4 i (by decide) hi z).symm) j hj) (cO9_p (c i hi).2 hj))
  have p9 : ∀ o, o ≤ 2 → ¬ P9 (tw 4) (lw 4) (pl 4) o := fun o ho => by
    unfold isTown at hu
    unfold isLaw at hlu
    unfold isPlan at hpu
    unfold P9
    omega
  have nP : ∀ o k, o ≤ 2 → ¬ (o = 0 ∧ (k = 0 ∨ k = 6)) → ¬ (o = 2 ∧ k = mk) → r_eq3 M M' o k := fun o k ho h1 h2 => fr o k (fun z => by
    rcases tP_9 z with y | y
    · exact p9 o ho y
    · omega)
  have u4 : ∀ k, 19 ≤ k → r_eq3 M M' (tw 4) k := fun k hk => fr _ k (fun z => by
    unfold isTown at hu
    unfold isLaw at hlu
    unfold isPlan at hpu
    unfold tP bP inT at z
    omega)
  refine ⟨⟨(nP 0 5 (by decide) (by omega) (by omega)).1.trans a1, a2⟩, fun i hi => ?_, c, ⟨e1, e2, e3⟩, ⟨fun i hi => ?_, h6, (nP 0 7 (by decide) (by omega) (by omega)).2.2.trans f3, (nP 0 8 (by decide) (by omega) (by omega)).2.2.trans f4⟩, fun i hi => ?_⟩
  · by_cases e : i = 4
    · subst e
      exact ⟨hu, (u4 19 (by decide)).2.2.trans (b 4 hi).2.1, (u4 20 (by decide)).2.2.trans (b 4 hi).2.2.1, lm⟩
    · exact ⟨(b i hi).1, (qt i hi e 0 19 (by decide)).2.2.trans (b i hi).2.1, (qt i hi e 0 20 (by decide)).2.2.trans (b i hi).2.2.1, X_lm_cq (cq_rf (qt i hi e)) (b i hi).2.2.2⟩
  · by_cases e : i = mk
    · subst e
      exact hk
    · exact (nP 2 i (by decide) (by omega) (by omega)).2.2.trans (f1 i hi)
  · have hG9 := hG i hi
    exact X_lev_mv hG9.1 hG9.2.1 (cq_rf (qt i (by omega) (by omega))) (cl_rf (ql i (by omega) (by omega))) (cp_rf (qp i (by omega) (by omega))) (g i hi)
theorem X_bw_cg {u : Nat} {d e : Td} {w : Nat → List Nat} {M : Mem} (h0 : e 0 = d 0) (h1 : e 1 = d 1) (h2 : e 2 = d 2) (p : X_bw u (d, w) M) : X_bw u (e, w) M := by
  obtain ⟨⟨c1, c2, c3⟩, w1, w2, w3⟩ := p
  exact ⟨⟨c1.trans (congrArg nI h0.symm), c2.trans (congrArg nI h1.symm), c3.trans (congrArg nI h2.symm)⟩, fun k hk => w1 k (Nat.lt_of_lt_of_eq hk h0), fun k hk => w2 k (Nat.lt_of_lt_of_eq hk h1), fun k hk => w3 k (Nat.lt_of_lt_of_eq hk h2)⟩
theorem X_pj_cg {pl : Nat} {d e : Td} {M : Mem} (h4 : e 4 = d 4) (h : ∀ j, 521 ≤ j → e j = d j) (p : X_pj pl d M) : X_pj pl e M := fun j hj => by
  rw [h4] at hj
  rw [h (521 + 5 * j) (by omega), h (522 + 5 * j) (by omega), h (523 + 5 * j) (by omega), h (524 + 5 * j) (by omega)]
  exact p j hj
theorem X_lw_cg {lw : Nat} {d e : Td} {M : Mem} (hw : Wl d) (h : ∀ j, 21 ≤ j → j < 520 → e j = d j) (p : X_lw lw d M) : X_lw lw e M := fun k hk h1 => by
  rw [h _ (by omega) (by omega)] at h1
  have q := p k hk h1
  have ok := (hw k hk h1).2.1
  rw [h (139 + k) (by omega) (by omega), h (147 + k) (by omega) (by omega)]
  refine ⟨q.1, q.2.1, fun i i1 i2 => ?_⟩
  rw [h (155 + 2 * i) (by omega) (by omega), h (155 + 2 * i + 1) (by omega) (by omega)]
  exact q.2.2 i i1 i2
theorem lT_n {t lw o k : Nat} (h1 : ¬ lQ lw o k) (h2 : ¬ cO9 o) (h3 : ¬ (o = t ∧ k = 19)) : ¬ lT t lw o k := fun z => by
  rcases z with y | y
  · exact h1 y
  · unfold cO9 at h2
    omega
theorem tQ_n {t p mk o k : Nat} (h1 : ¬ qW9 p o k) (h2 : ¬ cO9 o) (h3 : ¬ (o = t ∧ k = 20)) : ¬ tQ t p mk o k := fun z => by
  rcases z with y | y
  · unfold pB at y
    unfold qW9 at h1
    omega
  · unfold cO9 at h2
    omega
theorem lQ_l {a b : Nat} (ha : isLaw a) (hb : isLaw b) (hn : ¬ a = b) : ∀ j q, j ≤ 3 → ¬ lQ a (b + j) q := fun j q hj => by
  unfold isLaw at ha hb
  unfold lQ
  omega
theorem lQ_p {a b : Nat} (ha : isLaw a) (hb : isPlan b) : ∀ j q, j ≤ 4 → ¬ lQ a (b + j) q := fun j q hj => by
  unfold isLaw at ha
  unfold isPlan at hb
  unfold lQ
  omega
theorem qW9_p {a b : Nat} (ha : isPlan a) (hb : isPlan b) (hn : ¬ a = b) : ∀ j q, j ≤ 4 → ¬ qW9 a (b + j) q := fun j q hj => by
  unfold isPlan at ha hb
  unfold qW9
  omega
