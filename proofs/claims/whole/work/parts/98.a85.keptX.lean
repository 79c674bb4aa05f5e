-- MARKS: THE TOWNS THAT ARE KEPT
/-- a town with its law, its plan, its names -/
def X_lev (t lw pl : Nat) (d : Td) (W : Nat → List Nat) (M : Mem) : Prop := X_tm t d M ∧ X_bw t (d, W) M ∧ M.1 lw 0 = nI (bt (fun i => d (21 + i)) 8) ∧ X_lw lw d M ∧ M.1 pl 0 = nI (d 520) ∧ M.1 pl 1 = nI (d 4) ∧ X_pj pl d M
theorem X_lev_mv {t lt pt u lu pu : Nat} {d : Td} {W : Nat → List Nat} {M M' : Mem} (wf : Wf d) (wl : Wl d) (hq : X_cq u t M M') (hl : X_cl lu lt M M') (hp : X_cp pu pt M M') (h : X_lev t lt pt d W M) : X_lev u lu pu d W M' := by
  have hb := wf.1
  obtain ⟨⟨q1, q2, q3, q4⟩, ⟨f1, f2, f3⟩, ⟨a5, a6, a7, a8, a9⟩, ⟨a12, a13⟩, ⟨a14, a15, a16, a17, a18⟩, ⟨w1, w2, w3⟩, _⟩ := hq
  obtain ⟨⟨⟨n1, n2, n3, n4⟩, ⟨g1, g2, g3⟩, c1, c2, c3, c4, c5⟩, ⟨⟨m1, m2, m3⟩, v1, v2, v3⟩, r0, r1, p0, p1, pj⟩ := h
  refine ⟨⟨⟨q1.trans n1, q2.trans n2, q3.trans n3, q4.trans n4⟩, ⟨f1.trans g1, f2.trans g2, f3.trans g3⟩, fun m hm => ?_, fun p hp9 => ?_, fun w hw => ?_, fun w hw => (a17 w (by omega)).trans (c4 w hw), fun h9 hh => (a18 h9 hh).trans (c5 h9 hh)⟩, ⟨⟨q1.trans m1, q2.trans m2, q3.trans m3⟩, fun k hk => ?_, fun k hk => ?_, fun k hk => ?_⟩, hl.1.trans r0, fun k hk h1 => ?_, hp.1.trans p0, hp.2.1.trans p1, fun j hj => ?_⟩
  · obtain ⟨e1, e2, e3, e4, e5⟩ := c1 m hm
    exact ⟨(a5 m (by omega)).trans e1, (a6 m (by omega)).trans e2, (a7 m (by omega)).trans e3, (a8 m (by omega)).trans e4, (a9 m (by omega)).trans e5⟩
  · exact ⟨(a12 p (by omega)).trans (c2 p hp9).1, (a13 p (by omega)).trans (c2 p hp9).2⟩
  · obtain ⟨e1, e2, e3⟩ := c3 w hw
    exact ⟨(a14 w (by omega)).trans e1, (a15 w (by omega)).trans e2, (a16 w (by omega)).trans e3⟩
  · have hk2 : k < d 0 := hk
    exact ⟨(w1 k (by omega)).trans (v1 k hk).1, (v1 k hk).2⟩
  · have hk2 : k < d 1 := hk
    exact ⟨(w2 k (by omega)).trans (v2 k hk).1, (v2 k hk).2⟩
  · have hk2 : k < d 2 := hk
    exact ⟨(w3 k (by omega)).trans (v3 k hk).1, (v3 k hk).2⟩
  · obtain ⟨e1, e2, e3⟩ := r1 k hk h1
    have ok := (wl k hk h1).2.1
    exact ⟨(hl.2.1 k hk).trans e1, (hl.2.2.1 k hk).trans e2, fun i i1 i2 => (hl.2.2.2 i (by omega)).trans (e3 i i1 i2)⟩
  · obtain ⟨e1, e2, e3, e4⟩ := pj j hj
    exact ⟨(hp.2.2.1 j (by omega)).trans e1, fun z => (hp.2.2.2.1 j (by omega)).trans (e2 z), (hp.2.2.2.2.1 j (by omega)).trans e3, (hp.2.2.2.2.2 j (by omega)).trans e4⟩
theorem cq_rf {t : Nat} {M M' : Mem} (h : ∀ j q, j ≤ 18 → r_eq3 M M' (t + j) q) : X_cq t t M M' := ⟨⟨(h 1 2 (by decide)).1, (h 3 2 (by decide)).1, (h 10 2 (by decide)).1, (h 0 12 (by decide)).1⟩, ⟨(h 0 1 (by decide)).1, (h 0 2 (by decide)).1, (h 0 16 (by decide)).1⟩, ⟨fun q _ => (h 5 q (by decide)).1, fun q _ => (h 6 q (by decide)).1, fun q _ => (h 7 q (by decide)).1, fun q _ => (h 8 q (by decide)).1, fun q _ => (h 9 q (by decide)).1⟩, ⟨fun q _ => (h 12 q (by decide)).1, fun q _ => (h 13 q (by decide)).1⟩, ⟨fun q _ => (h 14 q (by decide)).1, fun q _ => (h 15 q (by decide)).1, fun q _ => (h 16 q (by decide)).1, fun q _ => (h 17 q (by decide)).1, fun q _ => (h 18 q (by decide)).1⟩, ⟨fun q _ => (h 2 q (by decide)).2.1, fun q _ => (h 4 q (by decide)).2.1, fun q _ => (h 11 q (by decide)).2.1⟩, (h 1 0 (by decide)).1, (h 3 0 (by decide)).1, (h 10 0 (by decide)).1⟩
theorem cl_rf {l : Nat} {M M' : Mem} (h : ∀ j q, j ≤ 3 → r_eq3 M M' (l + j) q) : X_cl l l M M' := ⟨(h 0 0 (by decide)).1, fun q _ => (h 1 q (by decide)).1, fun q _ => (h 2 q (by decide)).1, fun q _ => (h 3 q (by decide)).1⟩
theorem cp_rf {p : Nat} {M M' : Mem} (h : ∀ j q, j ≤ 4 → r_eq3 M M' (p + j) q) : X_cp p p M M' := ⟨(h 0 0 (by decide)).1, (h 0 1 (by decide)).1, fun q _ => (h 1 q (by decide)).1, fun q _ => (h 2 q (by decide)).1, fun q _ => (h 3 q (by decide)).1, fun q _ => (h 4 q (by decide)).1⟩
theorem X_lm_cq {u t : Nat} {M M' : Mem} (h : X_cq u t M M') (p : X_lm u M) : X_lm u M' := ⟨h.2.2.2.2.2.2.1.trans p.1, h.2.2.2.2.2.2.2.1.trans p.2.1, h.2.2.2.2.2.2.2.2.trans p.2.2⟩
/-- what holds of each town that was told -/
def Gd (d : Td) (_ : Nat → List Nat) : Prop := Wf d ∧ Wl d ∧ Wj d ∧ Wn d
def X_st (mk : Nat) (tw lw pl : Nat → Nat) (D : Nat → Td) (W : Nat → Nat → List Nat) (M : Mem) : Prop := (M.1 0 5 = nI mk ∧ mk ≤ 3) ∧ (∀ i, i ≤ 4 → isTown (tw i) ∧ M.2.2 (tw i) 19 = some (lw i) ∧ M.2.2 (tw i) 20 = some (pl i) ∧ X_lm (tw i) M) ∧ (∀ i, i ≤ 5 → isLaw (lw i) ∧ isPlan (pl i)) ∧ ((∀ i j, i ≤ 4 → j ≤ 4 → tw i = tw j → i = j) ∧ (∀ i j, i ≤ 5 → j ≤ 5 → lw i = lw j → i = j) ∧ ∀ i j, i ≤ 5 → j ≤ 5 → pl i = pl j → i = j) ∧ ((∀ i, i ≤ 3 → M.2.2 2 i = some (tw i)) ∧ M.2.2 0 6 = some (tw 4) ∧ M.2.2 0 7 = some (lw 5) ∧ M.2.2 0 8 = some (pl 5)) ∧ ∀ i, i ≤ mk → X_lev (tw i) (lw i) (pl i) (D i) (W i) M
theorem X_st_dp {mk : Nat} {tw lw pl : Nat → Nat} {D : Nat → Td} {W : Nat → Nat → List Nat} (hG : ∀ i, i ≤ mk → Gd (D i) (W i)) : r_dp [(0, 5), (0, 6), (0, 7), (0, 8)] cuA (X_st mk tw lw pl D W) := by
  intro M M' q p
  obtain ⟨⟨a1, a2⟩, b, c, e, ⟨f1, f2, f3, f4⟩, g⟩ := p
  have qt : ∀ i, i ≤ 4 → ∀ j k, j ≤ 18 → r_eq3 M M' (tw i + j) k := fun i hi j k hj => q _ k (r_in_A (contains_c (contains_l (tw_mem (b i hi).1 j (by omega)))))
  have ql : ∀ i, i ≤ 5 → ∀ j k, j ≤ 3 → r_eq3 M M' (lw i + j) k := fun i hi j k hj => q _ k (r_in_A (contains_c (contains_r (contains_l (lw_mem (c i hi).1 j (by omega))))))
  have qp : ∀ i, i ≤ 5 → ∀ j k, j ≤ 4 → r_eq3 M M' (pl i + j) k := fun i hi j k hj => q _ k (r_in_A (contains_c (contains_r (contains_r (pl_mem (c i hi).2 j (by omega))))))
  refine ⟨⟨(q 0 5 rfl).1.trans a1, a2⟩, fun i hi => ⟨(b i hi).1, (qt i hi 0 19 (by decide)).2.2.trans (b i hi).2.1, (qt i hi 0 20 (by decide)).2.2.trans (b i hi).2.2.1, X_lm_cq (cq_rf (qt i hi)) (b i hi).2.2.2⟩, c, e, ⟨fun i hi => (q 2 i (r_in_A rfl)).2.2.trans (f1 i hi), (q 0 6 rfl).2.2.trans f2, (q 0 7 rfl).2.2.trans f3, (q 0 8 rfl).2.2.trans f4⟩, fun i hi => ?_⟩
  have hG9 := hG i hi
  exact X_lev_mv hG9.1 hG9.2.1 (cq_rf (qt i (by omega))) (cl_rf (ql i (by omega))) (cp_rf (qp i (by omega))) (g i hi)
/-- as the calls on the town that is there want it -/
theorem X_st_cu {mk : Nat} {tw lw pl : Nat → Nat} {D : Nat → Td} {W : Nat → Nat → List Nat} {M : Mem} (h : X_st mk tw lw pl D W M) : X_cu mk (tw mk) (lw mk) (pl mk) (D mk) M ∧ X_lev (tw mk) (lw mk) (pl mk) (D mk) (W mk) M := by
  obtain ⟨⟨a1, a2⟩, b, c, e, ⟨f1, f2, f3, f4⟩, g⟩ := h
  have gm := g mk (Nat.le_refl _)
  have bm := b mk (by omega)
  have cm := c mk (by omega)
  exact ⟨⟨⟨a1, a2, f1 mk a2, bm.1⟩, ⟨bm.2.1, cm.1, gm.2.2.1⟩, bm.2.2.1, cm.2, gm.2.2.2.2.1, gm.2.2.2.2.2.1⟩, gm⟩
