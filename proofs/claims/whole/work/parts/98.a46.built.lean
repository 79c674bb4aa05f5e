-- READING: what is being built
theorem bt_cg9 {f g : Nat → Nat} : ∀ n, (∀ i, i < n → f i = g i) → bt f n = bt g n
  | 0, _ => rfl
  | n + 1, h => by
    rw [bt, bt, bt_cg9 n (fun i hi => h i (by omega)), h n (by omega)]
theorem bt_up {f g : Nat → Nat} {k w : Nat} (hk : k < 8) (hw : w ≤ 1) (hf : ∀ i, i < 8 → f i ≤ 1) (hz : f k = 0) (hg : ∀ i, i < 8 → g i = if i = k then w else f i) : bt g 8 = if w = 1 then bt f 8 ||| 2 ^ k else bt f 8 := by
  have hg1 : ∀ i, i < 8 → g i ≤ 1 := fun i hi => by
    rw [hg i hi]
    split
    · exact hw
    · exact hf i hi
  have lg : bt g 8 < 2 ^ 8 := bt_lt hg1
  have lf : bt f 8 < 2 ^ 8 := bt_lt hf
  have lk : 2 ^ k < 2 ^ 8 := Nat.pow_lt_pow_right (by decide) hk
  apply Nat.eq_of_testBit_eq
  intro t
  by_cases ht : t < 8
  · rw [bt_tb hg1 ht, hg t ht]
    by_cases e1 : w = 1
    · rw [if_pos e1, Nat.testBit_or, Nat.testBit_two_pow, bt_tb hf ht]
      by_cases e : t = k
      · subst e
        rw [if_pos rfl, decide_eq_true e1]
        simp
      · rw [if_neg e, decide_eq_false (show ¬ k = t by omega), Bool.or_false]
    · rw [if_neg e1, bt_tb hf ht]
      by_cases e : t = k
      · subst e
        rw [if_pos rfl, hz, decide_eq_false e1]
        rfl
      · rw [if_neg e]
  · have h8 : 2 ^ 8 ≤ 2 ^ t := Nat.pow_le_pow_right (by decide) (by omega)
    rw [Nat.testBit_lt_two_pow (Nat.lt_of_lt_of_le lg h8)]
    split
    · rw [Nat.testBit_lt_two_pow (Nat.lt_of_lt_of_le (Nat.or_lt_two_pow lf lk) h8)]
    · rw [Nat.testBit_lt_two_pow (Nat.lt_of_lt_of_le lf h8)]
def X_lm (u : Nat) (M : Mem) : Prop := M.1 (u + 1) 0 = nI 8 ∧ M.1 (u + 3) 0 = nI 12 ∧ M.1 (u + 10) 0 = nI 6
def X_bw (u : Nat) (x : St9) (M : Mem) : Prop := (M.1 (u + 1) 2 = nI (x.1 0) ∧ M.1 (u + 3) 2 = nI (x.1 1) ∧ M.1 (u + 10) 2 = nI (x.1 2)) ∧ (∀ k, k < x.1 0 → M.2.1 (u + 1 + 1) k = nJ (cd 27 (x.2 (0 + k))) ∧ Lv (x.2 (0 + k)) ∧ (x.2 (0 + k)).length ≤ 8) ∧ (∀ k, k < x.1 1 → M.2.1 (u + 3 + 1) k = nJ (cd 27 (x.2 (8 + k))) ∧ Lv (x.2 (8 + k)) ∧ (x.2 (8 + k)).length ≤ 8) ∧ (∀ k, k < x.1 2 → M.2.1 (u + 10 + 1) k = nJ (cd 27 (x.2 (20 + k))) ∧ Lv (x.2 (20 + k)) ∧ (x.2 (20 + k)).length ≤ 8)
def X_bt (u : Nat) (d : Td) (M : Mem) : Prop := M.1 u 12 = nI (d 3) ∧ (M.1 u 1 = nI (bt (fun i => d (5 + i)) 8) ∧ M.1 u 2 = nI (bt (fun i => d (13 + i)) 8) ∧ M.1 u 16 = nI (bt (fun i => d (131 + i)) 8)) ∧ (∀ m, m < d 1 → M.1 (u + 5) m = nI (d (29 + m)) ∧ M.1 (u + 6) m = nI (d (41 + m)) ∧ M.1 (u + 7) m = nI (d (53 + m)) ∧ M.1 (u + 8) m = nI (d (65 + m)) ∧ M.1 (u + 9) m = nI (d (77 + m))) ∧ (∀ p, p < d 2 → M.1 (u + 12) p = nI (bt (awB (d (89 + p)) (d (95 + p))) 24) ∧ M.1 (u + 13) p = nI (d (101 + p))) ∧ ∀ w, w < d 3 → M.1 (u + 14) w = nI (d (107 + w)) ∧ M.1 (u + 15) w = nI (d (115 + w)) ∧ M.1 (u + 16) w = nI (d (123 + w))
def X_bd (u : Nat) (x : St9) (M : Mem) : Prop := X_lm u M ∧ X_bw u x M ∧ X_bt u x.1 M
/-- nothing of a town changed -/
def r_kt (u : Nat) (M M' : Mem) : Prop := ∀ o k, u ≤ o → o ≤ u + 18 → r_eq3 M M' o k
theorem X_bd_kt {u : Nat} {x : St9} {M M' : Mem} (h : r_kt u M M') (b : X_bd u x M) : X_bd u x M' := by
  obtain ⟨⟨l1, l2, l3⟩, ⟨⟨c1, c2, c3⟩, w1, w2, w3⟩, t0, ⟨t1, t2, t3⟩, a5, ap, aw⟩ := b
  have g : ∀ j k, j ≤ 18 → M'.1 (u + j) k = M.1 (u + j) k := fun j k hj => (h (u + j) k (by omega) (by omega)).1
  have gj : ∀ j k, j ≤ 18 → M'.2.1 (u + j) k = M.2.1 (u + j) k := fun j k hj => (h (u + j) k (by omega) (by omega)).2.1
  have g0 : ∀ k, M'.1 u k = M.1 u k := fun k => g 0 k (by omega)
  refine ⟨⟨(g 1 0 (by omega)).trans l1, (g 3 0 (by omega)).trans l2, (g 10 0 (by omega)).trans l3⟩, ⟨⟨(g 1 2 (by omega)).trans c1, (g 3 2 (by omega)).trans c2, (g 10 2 (by omega)).trans c3⟩, fun k hk => ⟨(gj 2 k (by omega)).trans (w1 k hk).1, (w1 k hk).2⟩, fun k hk => ⟨(gj 4 k (by omega)).trans (w2 k hk).1, (w2 k hk).2⟩, fun k hk => ⟨(gj 11 k (by omega)).trans (w3 k hk).1, (w3 k hk).2⟩⟩, (g0 12).trans t0, ⟨(g0 1).trans t1, (g0 2).trans t2, (g0 16).trans t3⟩, fun m hm => ?_, fun p hp => ?_, fun w hw => ?_⟩
  · obtain ⟨x1, x2, x3, x4, x5⟩ := a5 m hm
    exact ⟨(g 5 m (by omega)).trans x1, (g 6 m (by omega)).trans x2, (g 7 m (by omega)).trans x3, (g 8 m (by omega)).trans x4, (g 9 m (by omega)).trans x5⟩
  · exact ⟨(g 12 p (by omega)).trans (ap p hp).1, (g 13 p (by omega)).trans (ap p hp).2⟩
  · exact ⟨(g 14 w (by omega)).trans (aw w hw).1, (g 15 w (by omega)).trans (aw w hw).2.1, (g 16 w (by omega)).trans (aw w hw).2.2⟩
theorem X_bd_th {u : Nat} {x : St9} {M M' : Mem} {l : List Nat} {w e : Nat} {d : Td} (b : X_bd u x M) (wf : Wf x.1) (hlt : x.1 0 < 8) (hl : Lv l ∧ l.length ≤ 8) (hw : w ≤ 1) (he : e ≤ 1) (d0 : d 0 = x.1 0 + 1) (d5 : ∀ i, i < 8 → d (5 + i) = if i = x.1 0 then w else x.1 (5 + i)) (d13 : ∀ i, i < 8 → d (13 + i) = if i = x.1 0 then e else x.1 (13 + i)) (ds : ∀ j, ¬ j = 0 → (j < 5 ∨ 29 ≤ j) → d j = x.1 j)
    (kp : ∀ o k, u ≤ o → o ≤ u + 18 → ¬ (o = u + 1 ∧ k = 2) → ¬ (o = u + 2 ∧ k = x.1 0) → ¬ (o = u ∧ (k = 1 ∨ k = 2)) → r_eq3 M M' o k) (hc : M'.1 (u + 1) 2 = nI (x.1 0 + 1)) (hn : M'.2.1 (u + 1 + 1) (x.1 0) = nJ (cd 27 l)) (h1 : M'.1 u 1 = nI (if w = 1 then bt (fun i => x.1 (5 + i)) 8 ||| 2 ^ x.1 0 else bt (fun i => x.1 (5 + i)) 8)) (h2 : M'.1 u 2 = nI (if e = 1 then bt (fun i => x.1 (13 + i)) 8 ||| 2 ^ x.1 0 else bt (fun i => x.1 (13 + i)) 8)) : X_bd u (d, wU x.2 (x.1 0) l) M' := by
  obtain ⟨⟨l1, l2, l3⟩, ⟨⟨c1, c2, c3⟩, w1, w2, w3⟩, t0, ⟨t1, t2, t3⟩, a5, ap, aw⟩ := b
  have hx := wf.1
  have e1 : d 1 = x.1 1 := ds 1 (by omega) (by omega)
  have e2 : d 2 = x.1 2 := ds 2 (by omega) (by omega)
  have e3 : d 3 = x.1 3 := ds 3 (by omega) (by omega)
  refine ⟨⟨(kp _ _ (by omega) (by omega) (by omega) (by omega) (by omega)).1.trans l1, (kp _ _ (by omega) (by omega) (by omega) (by omega) (by omega)).1.trans l2, (kp _ _ (by omega) (by omega) (by omega) (by omega) (by omega)).1.trans l3⟩, ⟨⟨hc.trans (congrArg nI d0.symm), ?_, ?_⟩, fun k hk => ?_, fun k hk => ?_, fun k hk => ?_⟩, ?_, ⟨?_, ?_, ?_⟩, fun m hm => ?_, fun p hp => ?_, fun q hq => ?_⟩
  · exact ((kp _ _ (by omega) (by omega) (by omega) (by omega) (by omega)).1.trans c2).trans (congrArg nI e1.symm)
  · exact ((kp _ _ (by omega) (by omega) (by omega) (by omega) (by omega)).1.trans c3).trans (congrArg nI e2.symm)
  · change k < d 0 at hk
    dsimp only
    by_cases ek : k = x.1 0
    · subst ek
      rw [wU_s (by omega)]
      exact ⟨hn, hl⟩
    · rw [wU_n (by omega)]
      exact ⟨(kp (u + 2) k (by omega) (by omega) (by omega) (by omega) (by omega)).2.1.trans (w1 k (by omega)).1, (w1 k (by omega)).2⟩
  · change k < d 1 at hk
    dsimp only
    rw [wU_n (by omega)]
    exact ⟨(kp (u + 4) k (by omega) (by omega) (by omega) (by omega) (by omega)).2.1.trans (w2 k (by omega)).1, (w2 k (by omega)).2⟩
  · change k < d 2 at hk
    dsimp only
    rw [wU_n (by omega)]
    exact ⟨(kp (u + 11) k (by omega) (by omega) (by omega) (by omega) (by omega)).2.1.trans (w3 k (by omega)).1, (w3 k (by omega)).2⟩
  · exact ((kp u 12 (by omega) (by omega) (by omega) (by omega) (by omega)).1.trans t0).trans (congrArg nI e3.symm)
  · refine h1.trans (congrArg nI ?_)
    exact (bt_up hlt hw (fun i hi => (wf.2.1 i hi).1) (wf.2.2.1 _ (Nat.le_refl _) hlt).1 d5).symm
  · refine h2.trans (congrArg nI ?_)
    exact (bt_up hlt he (fun i hi => (wf.2.1 i hi).2.1) (wf.2.2.1 _ (Nat.le_refl _) hlt).2.1 d13).symm
  · refine ((kp u 16 (by omega) (by omega) (by omega) (by omega) (by omega)).1.trans t3).trans (congrArg nI ?_)
    exact bt_cg9 8 (fun i hi => (ds (131 + i) (by omega) (by omega)).symm)
  · change m < d 1 at hm
    obtain ⟨x1, x2, x3, x4, x5⟩ := a5 m (by omega)
    dsimp only
    rw [ds (29 + m) (by omega) (by omega), ds (41 + m) (by omega) (by omega), ds (53 + m) (by omega) (by omega), ds (65 + m) (by omega) (by omega), ds (77 + m) (by omega) (by omega)]
    exact ⟨(kp (u + 5) m (by omega) (by omega) (by omega) (by omega) (by omega)).1.trans x1, (kp (u + 6) m (by omega) (by omega) (by omega) (by omega) (by omega)).1.trans x2, (kp (u + 7) m (by omega) (by omega) (by omega) (by omega) (by omega)).1.trans x3, (kp (u + 8) m (by omega) (by omega) (by omega) (by omega) (by omega)).1.trans x4, (kp (u + 9) m (by omega) (by omega) (by omega) (by omega) (by omega)).1.trans x5⟩
  · change p < d 2 at hp
    dsimp only
    rw [ds (89 + p) (by omega) (by omega), ds (95 + p) (by omega) (by omega), ds (101 + p) (by omega) (by omega)]
    exact ⟨(kp (u + 12) p (by omega) (by omega) (by omega) (by omega) (by omega)).1.trans (ap p (by omega)).1, (kp (u + 13) p (by omega) (by omega) (by omega) (by omega) (by omega)).1.trans (ap p (by omega)).2⟩
  · change q < d 3 at hq
    dsimp only
    rw [ds (107 + q) (by omega) (by omega), ds (115 + q) (by omega) (by omega), ds (123 + q) (by omega) (by omega)]
    exact ⟨(kp (u + 14) q (by omega) (by omega) (by omega) (by omega) (by omega)).1.trans (aw q (by omega)).1, (kp (u + 15) q (by omega) (by omega) (by omega) (by omega) (by omega)).1.trans (aw q (by omega)).2.1, (kp (u + 16) q (by omega) (by omega) (by omega) (by omega) (by omega)).1.trans (aw q (by omega)).2.2⟩
theorem X_bd_mk {u : Nat} {x : St9} {M M' : Mem} {l : List Nat} {d : Td} {g h n o w : Nat} (b : X_bd u x M) (wf : Wf x.1) (hlt : x.1 1 < 12) (hl : Lv l ∧ l.length ≤ 8) (d1 : d 1 = x.1 1 + 1) (dg : d (29 + x.1 1) = g ∧ d (41 + x.1 1) = h ∧ d (53 + x.1 1) = n ∧ d (65 + x.1 1) = o ∧ d (77 + x.1 1) = w) (ds : ∀ j, ¬ j = 1 → ¬ j = 29 + x.1 1 → ¬ j = 41 + x.1 1 → ¬ j = 53 + x.1 1 → ¬ j = 65 + x.1 1 → ¬ j = 77 + x.1 1 → d j = x.1 j)
    (kp : ∀ o k, u ≤ o → o ≤ u + 18 → ¬ (o = u + 3 ∧ k = 2) → ¬ (o = u + 4 ∧ k = x.1 1) → ¬ (u + 5 ≤ o ∧ o ≤ u + 9 ∧ k = x.1 1) → r_eq3 M M' o k) (hc : M'.1 (u + 3) 2 = nI (x.1 1 + 1)) (hn : M'.2.1 (u + 3 + 1) (x.1 1) = nJ (cd 27 l)) (hv : M'.1 (u + 5) (x.1 1) = nI g ∧ M'.1 (u + 6) (x.1 1) = nI h ∧ M'.1 (u + 7) (x.1 1) = nI n ∧ M'.1 (u + 8) (x.1 1) = nI o ∧ M'.1 (u + 9) (x.1 1) = nI w) : X_bd u (d, wU x.2 (8 + x.1 1) l) M' := by
  obtain ⟨⟨l1, l2, l3⟩, ⟨⟨c1, c2, c3⟩, w1, w2, w3⟩, t0, ⟨t1, t2, t3⟩, a5, ap, aw⟩ := b
  have hx := wf.1
  have e0 : d 0 = x.1 0 := ds 0 (by omega) (by omega) (by omega) (by omega) (by omega) (by omega)
  have e2 : d 2 = x.1 2 := ds 2 (by omega) (by omega) (by omega) (by omega) (by omega) (by omega)
  have e3 : d 3 = x.1 3 := ds 3 (by omega) (by omega) (by omega) (by omega) (by omega) (by omega)
  have kq : ∀ j k, j ≤ 18 → ¬ (j = 3 ∧ k = 2) → ¬ (j = 4 ∧ k = x.1 1) → ¬ (5 ≤ j ∧ j ≤ 9 ∧ k = x.1 1) → r_eq3 M M' (u + j) k := fun j k h1 h2 h3 h4 => kp (u + j) k (by omega) (by omega) (by omega) (by omega) (by omega)
  refine ⟨⟨(kq 1 0 (by omega) (by omega) (by omega) (by omega)).1.trans l1, (kq 3 0 (by omega) (by omega) (by omega) (by omega)).1.trans l2, (kq 10 0 (by omega) (by omega) (by omega) (by omega)).1.trans l3⟩, ⟨⟨?_, hc.trans (congrArg nI d1.symm), ?_⟩, fun k hk => ?_, fun k hk => ?_, fun k hk => ?_⟩, ?_, ⟨?_, ?_, ?_⟩, fun m hm => ?_, fun p hp => ?_, fun q hq => ?_⟩
  · exact ((kq 1 2 (by omega) (by omega) (by omega) (by omega)).1.trans c1).trans (congrArg nI e0.symm)
  · exact ((kq 10 2 (by omega) (by omega) (by omega) (by omega)).1.trans c3).trans (congrArg nI e2.symm)
  · change k < d 0 at hk
    dsimp only
    rw [wU_n (by omega)]
    exact ⟨(kq 2 k (by omega) (by omega) (by omega) (by omega)).2.1.trans (w1 k (by omega)).1, (w1 k (by omega)).2⟩
  · change k < d 1 at hk
    dsimp only
    by_cases ek : k = x.1 1
    · subst ek
      rw [wU_s (by omega)]
      exact ⟨hn, hl⟩
    · rw [wU_n (by omega)]
      exact ⟨(kq 4 k (by omega) (by omega) (by omega) (by omega)).2.1.trans (w2 k (by omega)).1, (w2 k (by omega)).2⟩
  · change k < d 2 at hk
    dsimp only
    rw [wU_n (by omega)]
    exact ⟨(kq 11 k (by omega) (by omega) (by omega) (by omega)).2.1.trans (w3 k (by omega)).1, (w3 k (by omega)).2⟩
  · exact ((kq 0 12 (by omega) (by omega) (by omega) (by omega)).1.trans t0).trans (congrArg nI e3.symm)
  · refine ((kq 0 1 (by omega) (by omega) (by omega) (by omega)).1.trans t1).trans (congrArg nI ?_)
    exact bt_cg9 8 (fun i hi => (ds (5 + i) (by omega) (by omega) (by omega) (by omega) (by omega) (by omega)).symm)
  · refine ((kq 0 2 (by omega) (by omega) (by omega) (by omega)).1.trans t2).trans (congrArg nI ?_)
    exact bt_cg9 8 (fun i hi => (ds (13 + i) (by omega) (by omega) (by omega) (by omega) (by omega) (by omega)).symm)
  · refine ((kq 0 16 (by omega) (by omega) (by omega) (by omega)).1.trans t3).trans (congrArg nI ?_)
    exact bt_cg9 8 (fun i hi => (ds (131 + i) (by omega) (by omega) (by omega) (by omega) (by omega) (by omega)).symm)
  · change m < d 1 at hm
    dsimp only
    by_cases em : m = x.1 1
    · subst em
      rw [dg.1, dg.2.1, dg.2.2.1, dg.2.2.2.1, dg.2.2.2.2]
      exact hv
    · obtain ⟨x1, x2, x3, x4, x5⟩ := a5 m (by omega)
      rw [ds (29 + m) (by omega) (by omega) (by omega) (by omega) (by omega) (by omega), ds (41 + m) (by omega) (by omega) (by omega) (by omega) (by omega) (by omega), ds (53 + m) (by omega) (by omega) (by omega) (by omega) (by omega) (by omega), ds (65 + m) (by omega) (by omega) (by omega) (by omega) (by omega) (by omega), ds (77 + m) (by omega) (by omega) (by omega) (by omega) (by omega) (by omega)]
      exact ⟨(kq 5 m (by omega) (by omega) (by omega) (by omega)).1.trans x1, (kq 6 m (by omega) (by omega) (by omega) (by omega)).1.trans x2, (kq 7 m (by omega) (by omega) (by omega) (by omega)).1.trans x3, (kq 8 m (by omega) (by omega) (by omega) (by omega)).1.trans x4, (kq 9 m (by omega) (by omega) (by omega) (by omega)).1.trans x5⟩
  · change p < d 2 at hp
    dsimp only
    rw [ds (89 + p) (by omega) (by omega) (by omega) (by omega) (by omega) (by omega), ds (95 + p) (by omega) (by omega) (by omega) (by omega) (by omega) (by omega), ds (101 + p) (by omega) (by omega) (by omega) (by omega) (by omega) (by omega)]
    exact ⟨(kq 12 p (by omega) (by omega) (by omega) (by omega)).1.trans (ap p (by omega)).1, (kq 13 p (by omega) (by omega) (by omega) (by omega)).1.trans (ap p (by omega)).2⟩
  · change q < d 3 at hq
    dsimp only
    rw [ds (107 + q) (by omega) (by omega) (by omega) (by omega) (by omega) (by omega), ds (115 + q) (by omega) (by omega) (by omega) (by omega) (by omega) (by omega), ds (123 + q) (by omega) (by omega) (by omega) (by omega) (by omega) (by omega)]
    exact ⟨(kq 14 q (by omega) (by omega) (by omega) (by omega)).1.trans (aw q (by omega)).1, (kq 15 q (by omega) (by omega) (by omega) (by omega)).1.trans (aw q (by omega)).2.1, (kq 16 q (by omega) (by omega) (by omega) (by omega)).1.trans (aw q (by omega)).2.2⟩
theorem X_bd_pe {u : Nat} {x : St9} {M M' : Mem} {l : List Nat} {d : Td} {f t i : Nat} (b : X_bd u x M) (wf : Wf x.1) (hlt : x.1 2 < 6) (hl : Lv l ∧ l.length ≤ 8) (d2 : d 2 = x.1 2 + 1) (dg : d (89 + x.1 2) = f ∧ d (95 + x.1 2) = t ∧ d (101 + x.1 2) = i) (ds : ∀ j, ¬ j = 2 → ¬ j = 89 + x.1 2 → ¬ j = 95 + x.1 2 → ¬ j = 101 + x.1 2 → d j = x.1 j)
    (kp : ∀ o k, u ≤ o → o ≤ u + 18 → ¬ (o = u + 10 ∧ k = 2) → ¬ (u + 11 ≤ o ∧ o ≤ u + 13 ∧ k = x.1 2) → r_eq3 M M' o k) (hc : M'.1 (u + 10) 2 = nI (x.1 2 + 1)) (hn : M'.2.1 (u + 10 + 1) (x.1 2) = nJ (cd 27 l)) (hv : M'.1 (u + 12) (x.1 2) = nI (bt (awB f t) 24) ∧ M'.1 (u + 13) (x.1 2) = nI i) : X_bd u (d, wU x.2 (20 + x.1 2) l) M' := by
  obtain ⟨⟨l1, l2, l3⟩, ⟨⟨c1, c2, c3⟩, w1, w2, w3⟩, t0, ⟨t1, t2, t3⟩, a5, ap, aw⟩ := b
  have hx := wf.1
  have e0 : d 0 = x.1 0 := ds 0 (by omega) (by omega) (by omega) (by omega)
  have e1 : d 1 = x.1 1 := ds 1 (by omega) (by omega) (by omega) (by omega)
  have e3 : d 3 = x.1 3 := ds 3 (by omega) (by omega) (by omega) (by omega)
  have kq : ∀ j k, j ≤ 18 → ¬ (j = 10 ∧ k = 2) → ¬ (11 ≤ j ∧ j ≤ 13 ∧ k = x.1 2) → r_eq3 M M' (u + j) k := fun j k h1 h2 h3 => kp (u + j) k (by omega) (by omega) (by omega) (by omega)
  refine ⟨⟨(kq 1 0 (by omega) (by omega) (by omega)).1.trans l1, (kq 3 0 (by omega) (by omega) (by omega)).1.trans l2, (kq 10 0 (by omega) (by omega) (by omega)).1.trans l3⟩, ⟨⟨?_, ?_, hc.trans (congrArg nI d2.symm)⟩, fun k hk => ?_, fun k hk => ?_, fun k hk => ?_⟩, ?_, ⟨?_, ?_, ?_⟩, fun m hm => ?_, fun p hp => ?_, fun q hq => ?_⟩
  · exact ((kq 1 2 (by omega) (by omega) (by omega)).1.trans c1).trans (congrArg nI e0.symm)
  · exact ((kq 3 2 (by omega) (by omega) (by omega)).1.trans c2).trans (congrArg nI e1.symm)
  · change k < d 0 at hk
    dsimp only
    rw [wU_n (by omega)]
    exact ⟨(kq 2 k (by omega) (by omega) (by omega)).2.1.trans (w1 k (by omega)).1, (w1 k (by omega)).2⟩
  · change k < d 1 at hk
    dsimp only
    rw [wU_n (by omega)]
    exact ⟨(kq 4 k (by omega) (by omega) (by omega)).2.1.trans (w2 k (by omega)).1, (w2 k (by omega)).2⟩
  · change k < d 2 at hk
    dsimp only
    by_cases ek : k = x.1 2
    · subst ek
      rw [wU_s (by omega)]
      exact ⟨hn, hl⟩
    · rw [wU_n (by omega)]
      exact ⟨(kq 11 k (by omega) (by omega) (by omega)).2.1.trans (w3 k (by omega)).1, (w3 k (by omega)).2⟩
  · exact ((kq 0 12 (by omega) (by omega) (by omega)).1.trans t0).trans (congrArg nI e3.symm)
  · refine ((kq 0 1 (by omega) (by omega) (by omega)).1.trans t1).trans (congrArg nI ?_)
    exact bt_cg9 8 (fun i hi => (ds (5 + i) (by omega) (by omega) (by omega) (by omega)).symm)
  · refine ((kq 0 2 (by omega) (by omega) (by omega)).1.trans t2).trans (congrArg nI ?_)
    exact bt_cg9 8 (fun i hi => (ds (13 + i) (by omega) (by omega) (by omega) (by omega)).symm)
  · refine ((kq 0 16 (by omega) (by omega) (by omega)).1.trans t3).trans (congrArg nI ?_)
    exact bt_cg9 8 (fun i hi => (ds (131 + i) (by omega) (by omega) (by omega) (by omega)).symm)
  · change m < d 1 at hm
    dsimp only
    obtain ⟨x1, x2, x3, x4, x5⟩ := a5 m (by omega)
    rw [ds (29 + m) (by omega) (by omega) (by omega) (by omega), ds (41 + m) (by omega) (by omega) (by omega) (by omega), ds (53 + m) (by omega) (by omega) (by omega) (by omega), ds (65 + m) (by omega) (by omega) (by omega) (by omega), ds (77 + m) (by omega) (by omega) (by omega) (by omega)]
    exact ⟨(kq 5 m (by omega) (by omega) (by omega)).1.trans x1, (kq 6 m (by omega) (by omega) (by omega)).1.trans x2, (kq 7 m (by omega) (by omega) (by omega)).1.trans x3, (kq 8 m (by omega) (by omega) (by omega)).1.trans x4, (kq 9 m (by omega) (by omega) (by omega)).1.trans x5⟩
  · change p < d 2 at hp
    dsimp only
    by_cases ep : p = x.1 2
    · subst ep
      rw [dg.1, dg.2.1, dg.2.2]
      exact hv
    · rw [ds (89 + p) (by omega) (by omega) (by omega) (by omega), ds (95 + p) (by omega) (by omega) (by omega) (by omega), ds (101 + p) (by omega) (by omega) (by omega) (by omega)]
      exact ⟨(kq 12 p (by omega) (by omega) (by omega)).1.trans (ap p (by omega)).1, (kq 13 p (by omega) (by omega) (by omega)).1.trans (ap p (by omega)).2⟩
  · change q < d 3 at hq
    dsimp only
    rw [ds (107 + q) (by omega) (by omega) (by omega) (by omega), ds (115 + q) (by omega) (by omega) (by omega) (by omega), ds (123 + q) (by omega) (by omega) (by omega) (by omega)]
    exact ⟨(kq 14 q (by omega) (by omega) (by omega)).1.trans (aw q (by omega)).1, (kq 15 q (by omega) (by omega) (by omega)).1.trans (aw q (by omega)).2.1, (kq 16 q (by omega) (by omega) (by omega)).1.trans (aw q (by omega)).2.2⟩
theorem X_bd_wa {u : Nat} {x : St9} {M M' : Mem} {d : Td} {g t v e : Nat} (b : X_bd u x M) (wf : Wf x.1) (hlt : x.1 3 < 8) (he : e ≤ 1) (d3 : d 3 = x.1 3 + 1) (dg : d (107 + x.1 3) = g ∧ d (115 + x.1 3) = t ∧ d (123 + x.1 3) = v ∧ d (131 + x.1 3) = e) (ds : ∀ j, ¬ j = 3 → ¬ j = 107 + x.1 3 → ¬ j = 115 + x.1 3 → ¬ j = 123 + x.1 3 → ¬ j = 131 + x.1 3 → d j = x.1 j)
    (kp : ∀ o k, u ≤ o → o ≤ u + 18 → ¬ (o = u ∧ (k = 12 ∨ k = 16)) → ¬ (u + 14 ≤ o ∧ o ≤ u + 16 ∧ k = x.1 3) → r_eq3 M M' o k) (hc : M'.1 u 12 = nI (x.1 3 + 1)) (hv : M'.1 (u + 14) (x.1 3) = nI g ∧ M'.1 (u + 15) (x.1 3) = nI t ∧ M'.1 (u + 16) (x.1 3) = nI v) (h16 : M'.1 u 16 = nI (if e = 1 then bt (fun i => x.1 (131 + i)) 8 ||| 2 ^ x.1 3 else bt (fun i => x.1 (131 + i)) 8)) : X_bd u (d, x.2) M' := by
  obtain ⟨⟨l1, l2, l3⟩, ⟨⟨c1, c2, c3⟩, w1, w2, w3⟩, t0, ⟨t1, t2, t3⟩, a5, ap, aw⟩ := b
  have hx := wf.1
  have dz : ∀ j, ¬ j = 3 → j < 107 → d j = x.1 j := fun j h1 h2 => ds j h1 (by omega) (by omega) (by omega) (by omega)
  have e0 : d 0 = x.1 0 := dz 0 (by omega) (by omega)
  have e1 : d 1 = x.1 1 := dz 1 (by omega) (by omega)
  have e2 : d 2 = x.1 2 := dz 2 (by omega) (by omega)
  have kq : ∀ j k, j ≤ 18 → ¬ (j = 0 ∧ (k = 12 ∨ k = 16)) → ¬ (14 ≤ j ∧ j ≤ 16 ∧ k = x.1 3) → r_eq3 M M' (u + j) k := fun j k h1 h2 h3 => kp (u + j) k (by omega) (by omega) (by omega) (by omega)
  have kr : ∀ j k, 1 ≤ j → j ≤ 13 → r_eq3 M M' (u + j) k := fun j k h1 h2 => kq j k (by omega) (by omega) (by omega)
  refine ⟨⟨(kr 1 0 (by omega) (by omega)).1.trans l1, (kr 3 0 (by omega) (by omega)).1.trans l2, (kr 10 0 (by omega) (by omega)).1.trans l3⟩, ⟨⟨?_, ?_, ?_⟩, fun k hk => ?_, fun k hk => ?_, fun k hk => ?_⟩, hc.trans (congrArg nI d3.symm), ⟨?_, ?_, ?_⟩, fun m hm => ?_, fun p hp => ?_, fun q hq => ?_⟩
  · exact ((kr 1 2 (by omega) (by omega)).1.trans c1).trans (congrArg nI e0.symm)
  · exact ((kr 3 2 (by omega) (by omega)).1.trans c2).trans (congrArg nI e1.symm)
  · exact ((kr 10 2 (by omega) (by omega)).1.trans c3).trans (congrArg nI e2.symm)
  · change k < d 0 at hk
    exact ⟨(kr 2 k (by omega) (by omega)).2.1.trans (w1 k (by omega)).1, (w1 k (by omega)).2⟩
  · change k < d 1 at hk
    exact ⟨(kr 4 k (by omega) (by omega)).2.1.trans (w2 k (by omega)).1, (w2 k (by omega)).2⟩
  · change k < d 2 at hk
    exact ⟨(kr 11 k (by omega) (by omega)).2.1.trans (w3 k (by omega)).1, (w3 k (by omega)).2⟩
  · refine ((kq 0 1 (by omega) (by omega) (by omega)).1.trans t1).trans (congrArg nI ?_)
    exact bt_cg9 8 (fun i hi => (dz (5 + i) (by omega) (by omega)).symm)
  · refine ((kq 0 2 (by omega) (by omega) (by omega)).1.trans t2).trans (congrArg nI ?_)
    exact bt_cg9 8 (fun i hi => (dz (13 + i) (by omega) (by omega)).symm)
  · refine h16.trans (congrArg nI ?_)
    refine (bt_up hlt he (fun i hi => (wf.2.1 i hi).2.2.2) (wf.2.2.2.1 _ (Nat.le_refl _) hlt) (fun i hi => ?_)).symm
    by_cases ei : i = x.1 3
    · subst ei
      rw [if_pos rfl]
      exact dg.2.2.2
    · rw [if_neg ei]
      exact ds (131 + i) (by omega) (by omega) (by omega) (by omega) (by omega)
  · change m < d 1 at hm
    dsimp only
    obtain ⟨x1, x2, x3, x4, x5⟩ := a5 m (by omega)
    rw [dz (29 + m) (by omega) (by omega), dz (41 + m) (by omega) (by omega), dz (53 + m) (by omega) (by omega), dz (65 + m) (by omega) (by omega), dz (77 + m) (by omega) (by omega)]
    exact ⟨(kr 5 m (by omega) (by omega)).1.trans x1, (kr 6 m (by omega) (by omega)).1.trans x2, (kr 7 m (by omega) (by omega)).1.trans x3, (kr 8 m (by omega) (by omega)).1.trans x4, (kr 9 m (by omega) (by omega)).1.trans x5⟩
  · change p < d 2 at hp
    dsimp only
    rw [dz (89 + p) (by omega) (by omega), dz (95 + p) (by omega) (by omega), dz (101 + p) (by omega) (by omega)]
    exact ⟨(kr 12 p (by omega) (by omega)).1.trans (ap p (by omega)).1, (kr 13 p (by omega) (by omega)).1.trans (ap p (by omega)).2⟩
  · change q < d 3 at hq
    dsimp only
    by_cases eq : q = x.1 3
    · subst eq
      rw [dg.1, dg.2.1, dg.2.2.1]
      exact hv
    · rw [ds (107 + q) (by omega) (by omega) (by omega) (by omega) (by omega), ds (115 + q) (by omega) (by omega) (by omega) (by omega) (by omega), ds (123 + q) (by omega) (by omega) (by omega) (by omega) (by omega)]
      exact ⟨(kq 14 q (by omega) (by omega) (by omega)).1.trans (aw q (by omega)).1, (kq 15 q (by omega) (by omega) (by omega)).1.trans (aw q (by omega)).2.1, (kq 16 q (by omega) (by omega) (by omega)).1.trans (aw q (by omega)).2.2⟩
