-- MARKS: the developers' calls
theorem cq_tr {u t : Nat} {M M1 M2 : Mem} (h : X_cq u t M M1) (g : X_cq u u M1 M2) : X_cq u t M M2 := by
  obtain ⟨⟨a1, a2, a3, a4⟩, ⟨b1, b2, b3⟩, ⟨c1, c2, c3, c4, c5⟩, ⟨e1, e2⟩, ⟨f1, f2, f3, f4, f5⟩, ⟨w1, w2, w3⟩, l1, l2, l3⟩ := h
  obtain ⟨⟨A1, A2, A3, A4⟩, ⟨B1, B2, B3⟩, ⟨C1, C2, C3, C4, C5⟩, ⟨E1, E2⟩, ⟨F1, F2, F3, F4, F5⟩, ⟨V1, V2, V3⟩, L1, L2, L3⟩ := g
  exact ⟨⟨A1.trans a1, A2.trans a2, A3.trans a3, A4.trans a4⟩, ⟨B1.trans b1, B2.trans b2, B3.trans b3⟩, ⟨fun q h => (C1 q h).trans (c1 q h), fun q h => (C2 q h).trans (c2 q h), fun q h => (C3 q h).trans (c3 q h), fun q h => (C4 q h).trans (c4 q h), fun q h => (C5 q h).trans (c5 q h)⟩, ⟨fun q h => (E1 q h).trans (e1 q h), fun q h => (E2 q h).trans (e2 q h)⟩, ⟨fun q h => (F1 q h).trans (f1 q h), fun q h => (F2 q h).trans (f2 q h), fun q h => (F3 q h).trans (f3 q h), fun q h => (F4 q h).trans (f4 q h), fun q h => (F5 q h).trans (f5 q h)⟩, ⟨fun q h => (V1 q h).trans (w1 q h), fun q h => (V2 q h).trans (w2 q h), fun q h => (V3 q h).trans (w3 q h)⟩, L1.trans l1, L2.trans l2, L3.trans l3⟩
theorem cl_tr {u t : Nat} {M M1 M2 : Mem} (h : X_cl u t M M1) (g : X_cl u u M1 M2) : X_cl u t M M2 := ⟨g.1.trans h.1, fun q k => (g.2.1 q k).trans (h.2.1 q k), fun q k => (g.2.2.1 q k).trans (h.2.2.1 q k), fun q k => (g.2.2.2 q k).trans (h.2.2.2 q k)⟩
theorem cp_tr {u t : Nat} {M M1 M2 : Mem} (h : X_cp u t M M1) (g : X_cp u u M1 M2) : X_cp u t M M2 := ⟨g.1.trans h.1, g.2.1.trans h.2.1, fun q k => (g.2.2.1 q k).trans (h.2.2.1 q k), fun q k => (g.2.2.2.1 q k).trans (h.2.2.2.1 q k), fun q k => (g.2.2.2.2.1 q k).trans (h.2.2.2.2.1 q k), fun q k => (g.2.2.2.2.2 q k).trans (h.2.2.2.2.2 q k)⟩
/-- two fields of the object itself -/
theorem z05 {M : Mem} {v w : Int32} {o q : Nat} (h : ¬ (o = 0 ∧ (q = 0 ∨ q = 5))) : r_eq3 M (r_sI (r_sI M 0 5 v) 0 0 w) o q := ⟨(r_sI_n (by omega)).trans (r_sI_n (by omega)), rfl, rfl⟩
theorem P9_cu {u lu pu : Nat} (hu : isTown u) (hl : isLaw lu) (hp : isPlan pu) {o : Nat} (h : P9 u lu pu o) : cuA.contains o = true := by
  rcases h with h | h | h
  · obtain ⟨j, hj, rfl⟩ : ∃ j, j ≤ 18 ∧ o = u + j := ⟨o - u, by omega, by omega⟩
    exact contains_c (contains_l (tw_mem hu j (by omega)))
  · obtain ⟨j, hj, rfl⟩ : ∃ j, j ≤ 3 ∧ o = lu + j := ⟨o - lu, by omega, by omega⟩
    exact contains_c (contains_r (contains_l (lw_mem hl j (by omega))))
  · obtain ⟨j, hj, rfl⟩ : ∃ j, j ≤ 4 ∧ o = pu + j := ⟨o - pu, by omega, by omega⟩
    exact contains_c (contains_r (contains_r (pl_mem hp j (by omega))))
def mkD (mk : Nat) (D : Nat → Td) : Nat → Td := fun i => if i = mk + 1 then D mk else D i
def mkW (mk : Nat) (W : Nat → Nat → List Nat) : Nat → Nat → List Nat := fun i => if i = mk + 1 then W mk else W i
theorem X_st_mark {mk : Nat} {tw lw pl : Nat → Nat} {D : Nat → Td} {W : Nat → Nat → List Nat} {M M' : Mem} (hG : ∀ i, i ≤ mk → Gd (D i) (W i)) (hm : mk < 3) (h : X_st mk tw lw pl D W M) (h5 : M'.1 0 5 = nI (mk + 1)) (hf : ∀ o q, ¬ P9 (tw (mk + 1)) (lw (mk + 1)) (pl (mk + 1)) o → ¬ (o = 0 ∧ (q = 0 ∨ q = 5)) → r_eq3 M M' o q) (h2 : ∀ o q, M'.2.2 o q = M.2.2 o q) (hq : X_cq (tw (mk + 1)) (tw mk) M M') (hl : X_cl (lw (mk + 1)) (lw mk) M M') (hp : X_cp (pl (mk + 1)) (pl mk) M M') : X_st (mk + 1) tw lw pl (mkD mk D) (mkW mk W) M' := by
  obtain ⟨⟨a1, a2⟩, b, c, ⟨e1, e2, e3⟩, ⟨f1, f2, f3, f4⟩, g⟩ := h
  have hu := (b (mk + 1) (by omega)).1
  have hlu := (c (mk + 1) (by omega)).1
  have hpu := (c (mk + 1) (by omega)).2
  have qt : ∀ i, i ≤ 4 → ¬ i = mk + 1 → ∀ j q, j ≤ 18 → r_eq3 M M' (tw i + j) q := fun i hi hn j q hj => hf _ q (P9_t hu (b i hi).1 hlu hpu (fun z => hn (e1 (mk + 1) i (by omega) hi z).symm) j hj) (by have := (b i hi).1; unfold isTown at this; omega)
  have ql : ∀ i, i ≤ 5 → ¬ i = mk + 1 → ∀ j q, j ≤ 3 → r_eq3 M M' (lw i + j) q := fun i hi hn j q hj => hf _ q (P9_l hu (c i hi).1 hlu hpu (fun z => hn (e2 (mk + 1) i (by omega) hi z).symm) j hj) (by have := (c i hi).1; unfold isLaw at this; omega)
  have qp : ∀ i, i ≤ 5 → ¬ i = mk + 1 → ∀ j q, j ≤ 4 → r_eq3 M M' (pl i + j) q := fun i hi hn j q hj => hf _ q (P9_p hu (c i hi).2 hlu hpu (fun z => hn (e3 (mk + 1) i (by omega) hi z).symm) j hj) (by have := (c i hi).2; unfold isPlan at this; omega)
  refine ⟨⟨h5, by omega⟩, fun i hi => ⟨(b i hi).1, (h2 _ _).trans (b i hi).2.1, (h2 _ _).trans (b i hi).2.2.1, ?_⟩, c, ⟨e1, e2, e3⟩, ⟨fun i hi => (h2 _ _).trans (f1 i hi), (h2 _ _).trans f2, (h2 _ _).trans f3, (h2 _ _).trans f4⟩, fun i hi => ?_⟩
  · by_cases e : i = mk + 1
    · subst e
      exact X_lm_cq hq (b _ hi).2.2.2
    · exact X_lm_cq (cq_rf (qt i hi e)) (b i hi).2.2.2
  · by_cases e : i = mk + 1
    · subst e
      have e1 : mkD mk D (mk + 1) = D mk := if_pos rfl
      have e2 : mkW mk W (mk + 1) = W mk := if_pos rfl
      rw [e1, e2]
      have hG9 := hG mk (Nat.le_refl _)
      exact X_lev_mv hG9.1 hG9.2.1 hq hl hp (g mk (Nat.le_refl _))
    · have e1 : mkD mk D i = D i := if_neg e
      have e2 : mkW mk W i = W i := if_neg e
      rw [e1, e2]
      have hG9 := hG i (by omega)
      exact X_lev_mv hG9.1 hG9.2.1 (cq_rf (qt i (by omega) e)) (cl_rf (ql i (by omega) e)) (cp_rf (qp i (by omega) e)) (g i (by omega))
theorem X_st_back {mk : Nat} {tw lw pl : Nat → Nat} {D : Nat → Td} {W : Nat → Nat → List Nat} {M M' : Mem} (hG : ∀ i, i ≤ mk → Gd (D i) (W i)) (h : X_st mk tw lw pl D W M) (h5 : M'.1 0 5 = nI (mk - 1)) (hf : ∀ o q, ¬ (o = 0 ∧ (q = 0 ∨ q = 5)) → r_eq3 M M' o q) : X_st (mk - 1) tw lw pl D W M' := by
  obtain ⟨⟨a1, a2⟩, b, c, e, ⟨f1, f2, f3, f4⟩, g⟩ := h
  have qt : ∀ i, i ≤ 4 → ∀ j q, j ≤ 18 → r_eq3 M M' (tw i + j) q := fun i hi j q hj => hf _ q (by have := (b i hi).1; unfold isTown at this; omega)
  have ql : ∀ i, i ≤ 5 → ∀ j q, j ≤ 3 → r_eq3 M M' (lw i + j) q := fun i hi j q hj => hf _ q (by have := (c i hi).1; unfold isLaw at this; omega)
  have qp : ∀ i, i ≤ 5 → ∀ j q, j ≤ 4 → r_eq3 M M' (pl i + j) q := fun i hi j q hj => hf _ q (by have := (c i hi).2; unfold isPlan at this; omega)
  refine ⟨⟨h5, by omega⟩, fun i hi => ⟨(b i hi).1, (qt i hi 0 19 (by decide)).2.2.trans (b i hi).2.1, (qt i hi 0 20 (by decide)).2.2.trans (b i hi).2.2.1, X_lm_cq (cq_rf (qt i hi)) (b i hi).2.2.2⟩, c, e, ⟨fun i hi => (hf 2 i (by omega)).2.2.trans (f1 i hi), (hf 0 6 (by omega)).2.2.trans f2, (hf 0 7 (by omega)).2.2.trans f3, (hf 0 8 (by omega)).2.2.trans f4⟩, fun i hi => ?_⟩
  have hG9 := hG i (by omega)
  exact X_lev_mv hG9.1 hG9.2.1 (cq_rf (qt i (by omega))) (cl_rf (ql i (by omega))) (cp_rf (qp i (by omega))) (g i (by omega))

theorem c_X11_mark {Q : Rq} {M : Mem} {mk : Nat} {tw lw pl : Nat → Nat} {D : Nat → Td} {W : Nat → Nat → List Nat} (hG : ∀ i, i ≤ mk → Gd (D i) (W i)) (hst : X_st mk tw lw pl D W M) (k7 : mk = 3 → Q (some (.int (-1))) GX (r_sI M 0 0 (nI 7))) (k0 : mk < 3 → ∀ M', r_fx [(0, 0), (0, 5)] cuA M M' → M'.1 0 0 = nI 0 → X_st (mk + 1) tw lw pl (mkD mk D) (mkW mk W) M' → Q (some (.int (nI (mk + 1)))) GX M') : Ca 5 mt_X11_mark 0 0 [.ref 0] GX M Q := by
  refine Ca_of rfl (Nat.le_of_ble_eq_true rfl) ?_
  have hcu := (X_st_cu hst).1
  have hb := hst.2.1
  have hc := hst.2.2.1
  have he := hst.2.2.2.1
  have hmk3 := hst.1.2
  have h520 : M.1 (pl mk) 0 = 0 ∨ M.1 (pl mk) 0 = 1 := by
    rw [hcu.2.2.2.2.1]
    have := (hG mk (Nat.le_refl _)).2.2.2.1
    have e : D mk 520 = 0 ∨ D mk 520 = 1 := by omega
    rcases e with e | e
    · rw [e]
      exact Or.inl rfl
    · rw [e]
      exact Or.inr rfl
  have h01 := h520
  refine Ru_aload_n (pc := 0) dX11_mark_0 rfl rfl ?_
  refine Ru_getI (pc := 1) dX11_mark_1 fl_X11_158 rfl rfl ?_
  refine Ru_top hst.1.1 ?_
  refine Ru_iconst (pc := 4) (nI 3) dX11_mark_4 rfl ?_
  refine Ru_icmp_ltN (pc := 5) 15 dX11_mark_5 (by decide) (by omega) (fun h1 => ?_) (fun h1 => ?_)
  · have hm : mk < 3 := by omega
    have hu := (hb (mk + 1) (by omega)).1
    have hn0 : ¬ P9 (tw (mk + 1)) (lw (mk + 1)) (pl (mk + 1)) 0 := by
      have h1 := hu
      have h2 := (hc (mk + 1) (by omega)).1
      have h3 := (hc (mk + 1) (by omega)).2
      unfold isTown at h1
      unfold isLaw at h2
      unfold isPlan at h3
      unfold P9
      omega
    refine Ru_aload_n (pc := 15) dX11_mark_15 rfl rfl ?_
    refine Ru_getR (pc := 16) 2 dX11_mark_16 fl_X11_21 rfl rfl (rfX_of (o := 0) (j := 2) rfl rfl) ?_
    refine Ru_aload_n (pc := 19) dX11_mark_19 rfl rfl ?_
    refine Ru_getI (pc := 20) dX11_mark_20 fl_X11_158 rfl rfl ?_
    refine Ru_top hst.1.1 ?_
    refine Ru_iconst (pc := 23) (nI 1) dX11_mark_23 rfl ?_
    refine Ru_iaddN (pc := 24) dX11_mark_24 ?_
    refine Ru_aald (pc := 25) dX11_mark_25 rfl (by decide) (by omega) (hst.2.2.2.2.1.1 (mk + 1) (by omega)) ?_
    refine Ru_aload_n (pc := 26) dX11_mark_26 rfl rfl ?_
    refine Ru_cv0 (pc := 27) dX11_mark_27 mv_X11_154 rfl (by decide) (Nat.le_of_ble_eq_true rfl) (c_X11_nowR (mk := mk) (t := tw mk) hst.1.1 hst.1.2 (hst.2.2.2.2.1.1 mk hst.1.2) (hb mk (by omega)).1 ?_) 
    refine Ru_cv1 (pc := 30) dX11_mark_30 mv_X11_390 (shTown_0 hu) (by decide) (Nat.le_of_ble_eq_true rfl) (c_X9_copy (lu := lw (mk + 1)) (lt := lw mk) (pu := pl (mk + 1)) (pt := pl mk) hu hcu.1.2.2.2 (hc (mk + 1) (by omega)).1 hcu.2.1.2.1 (hc (mk + 1) (by omega)).2 hcu.2.2.2.1 (fun z => absurd (he.1 (mk + 1) mk (by omega) (by omega) z) (by omega)) (fun z => absurd (he.2.1 (mk + 1) mk (by omega) (by omega) z) (by omega)) (fun z => absurd (he.2.2 (mk + 1) mk (by omega) (by omega) z) (by omega)) (hb (mk + 1) (by omega)).2.1 hcu.2.1.1 (hb (mk + 1) (by omega)).2.2.1 hcu.2.2.1 h01 (fun M2 cf2 rf2 cq2 cl2 cp2 => ?_)) 
    have h52 : M2.1 0 5 = nI mk := (cf2 0 5 hn0).1.trans hst.1.1
    refine Ru_aload_n (pc := 33) dX11_mark_33 rfl rfl ?_
    refine Ru_dup (pc := 34) dX11_mark_34 rfl ?_
    refine Ru_getI (pc := 35) dX11_mark_35 fl_X11_158 rfl rfl ?_
    refine Ru_top h52 ?_
    refine Ru_iconst (pc := 38) (nI 1) dX11_mark_38 rfl ?_
    refine Ru_iaddN (pc := 39) dX11_mark_39 ?_
    refine Ru_putI (pc := 40) rfl dX11_mark_40 fl_X11_158 rfl ?_
    refine Ru_aload_n (pc := 43) dX11_mark_43 rfl rfl ?_
    refine Ru_aload_n (pc := 44) dX11_mark_44 rfl rfl ?_
    refine Ru_getI (pc := 45) dX11_mark_45 fl_X11_158 rfl rfl ?_
    refine Ru_top r_sI_s ?_
    refine Ru_cv1 (pc := 48) dX11_mark_48 mv_X11_170 rfl (by decide) (Nat.le_of_ble_eq_true rfl) (c_X11_tell ?_) 
    refine Ru_iret (pc := 51) dX11_mark_51 rfl ⟨Nat.le_refl _, Nat.le_refl _⟩ ?_
    have hlu := (hc (mk + 1) (by omega)).1
    have hpu := (hc (mk + 1) (by omega)).2
    have zu : ∀ j q, j ≤ 18 → r_eq3 M2 (r_sI (r_sI M2 0 5 (nI (mk + 1))) 0 0 (nI 0)) (tw (mk + 1) + j) q := fun j q hj => z05 (by have := hu; unfold isTown at this; omega)
    have zl : ∀ j q, j ≤ 3 → r_eq3 M2 (r_sI (r_sI M2 0 5 (nI (mk + 1))) 0 0 (nI 0)) (lw (mk + 1) + j) q := fun j q hj => z05 (by have := hlu; unfold isLaw at this; omega)
    have zp : ∀ j q, j ≤ 4 → r_eq3 M2 (r_sI (r_sI M2 0 5 (nI (mk + 1))) 0 0 (nI 0)) (pl (mk + 1) + j) q := fun j q hj => z05 (by have := hpu; unfold isPlan at this; omega)
    exact k0 hm (r_sI (r_sI M2 0 5 (nI (mk + 1))) 0 0 (nI 0)) (fun o q hin => e3t (cf2 o q (fun z => by rw [r_in_A (P9_cu hu hlu hpu z)] at hin; cases hin)) (z05 (fun z => by obtain ⟨rfl, y⟩ := z; rcases y with rfl | rfl <;> exact absurd hin (by decide +kernel)))) r_sI_s (X_st_mark hG hm hst ((r_sI_n (by decide)).trans r_sI_s) (fun o q h1 h2 => e3t (cf2 o q h1) (z05 h2)) (fun o q => rf2 o q) (cq_tr cq2 (cq_rf zu)) (cl_tr cl2 (cl_rf zl)) (cp_tr cp2 (cp_rf zp)))
  · refine Ru_aload_n (pc := 8) dX11_mark_8 rfl rfl ?_
    refine Ru_bipush (pc := 9) (nI 7) dX11_mark_9 rfl ?_
    refine Ru_cv1 (pc := 11) dX11_mark_11 mv_X11_112 rfl (by decide) (Nat.le_of_ble_eq_true rfl) (c_X11_fail ?_) 
    refine Ru_iret (pc := 14) dX11_mark_14 rfl ⟨Nat.le_refl _, Nat.le_refl _⟩ ?_
    exact k7 (by omega)

theorem c_X11_back {Q : Rq} {M : Mem} {mk : Nat} {tw lw pl : Nat → Nat} {D : Nat → Td} {W : Nat → Nat → List Nat} (hG : ∀ i, i ≤ mk → Gd (D i) (W i)) (hst : X_st mk tw lw pl D W M) (k8 : mk = 0 → Q (some (.int (-1))) GX (r_sI M 0 0 (nI 8))) (k0 : 0 < mk → ∀ M', r_fx [(0, 0), (0, 5)] cuA M M' → M'.1 0 0 = nI 0 → X_st (mk - 1) tw lw pl D W M' → Q (some (.int (nI (mk - 1)))) GX M') : Ca 5 mt_X11_back 0 0 [.ref 0] GX M Q := by
  refine Ca_of rfl (Nat.le_of_ble_eq_true rfl) ?_
  have hcu := (X_st_cu hst).1
  have hb := hst.2.1
  have hc := hst.2.2.1
  have he := hst.2.2.2.1
  have hmk3 := hst.1.2
  refine Ru_aload_n (pc := 0) dX11_back_0 rfl rfl ?_
  refine Ru_getI (pc := 1) dX11_back_1 fl_X11_158 rfl rfl ?_
  refine Ru_top hst.1.1 ?_
  refine Ru_if_gtN (pc := 4) 14 dX11_back_4 (by decide) (by omega) (fun h1 => ?_) (fun h1 => ?_)
  · refine Ru_aload_n (pc := 14) dX11_back_14 rfl rfl ?_
    refine Ru_dup (pc := 15) dX11_back_15 rfl ?_
    refine Ru_getI (pc := 16) dX11_back_16 fl_X11_158 rfl rfl ?_
    refine Ru_top hst.1.1 ?_
    refine Ru_iconst (pc := 19) (nI 1) dX11_back_19 rfl ?_
    refine Ru_isubN (pc := 20) dX11_back_20 (by omega) ?_
    refine Ru_putI (pc := 21) rfl dX11_back_21 fl_X11_158 rfl ?_
    refine Ru_aload_n (pc := 24) dX11_back_24 rfl rfl ?_
    refine Ru_aload_n (pc := 25) dX11_back_25 rfl rfl ?_
    refine Ru_getI (pc := 26) dX11_back_26 fl_X11_158 rfl rfl ?_
    refine Ru_top r_sI_s ?_
    refine Ru_cv1 (pc := 29) dX11_back_29 mv_X11_170 rfl (by decide) (Nat.le_of_ble_eq_true rfl) (c_X11_tell ?_) 
    refine Ru_iret (pc := 32) dX11_back_32 rfl ⟨Nat.le_refl _, Nat.le_refl _⟩ ?_
    exact k0 (by omega) (r_sI (r_sI M 0 5 (nI (mk - 1))) 0 0 (nI 0)) (fun o q hin => z05 (fun z => by obtain ⟨rfl, y⟩ := z; rcases y with rfl | rfl <;> exact absurd hin (by decide +kernel))) r_sI_s (X_st_back hG hst ((r_sI_n (by decide)).trans r_sI_s) (fun o q h => z05 h))
  · refine Ru_aload_n (pc := 7) dX11_back_7 rfl rfl ?_
    refine Ru_bipush (pc := 8) (nI 8) dX11_back_8 rfl ?_
    refine Ru_cv1 (pc := 10) dX11_back_10 mv_X11_112 rfl (by decide) (Nat.le_of_ble_eq_true rfl) (c_X11_fail ?_) 
    refine Ru_iret (pc := 13) dX11_back_13 rfl ⟨Nat.le_refl _, Nat.le_refl _⟩ ?_
    exact k8 (by omega)
