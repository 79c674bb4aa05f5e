-- READING: plan, the developers' side: the call
def tQ (t pl mk o k : Nat) : Prop := pB pl o k ∨ (o = 0 ∧ (k = 0 ∨ k = 8)) ∨ (o = t ∧ k = 20) ∨ (o = 40 ∧ (k = 1 ∨ (6 ≤ k ∧ k ≤ 8))) ∨ (43 ≤ o ∧ o ≤ 45)

theorem c_X11_plan {Q : Rq} {M : Mem} {mk t lw pl pl2 : Nat} {d : Td} {x : St9} {tp : Nat × (Nat → Int32)} {n : Int32} (hcu : X_cu mk t lw pl d M) (bw : X_bw t x M) (wf : Wf x.1) (hsp : M.2.2 0 8 = some pl2) (hp : isPlan pl2) (hy : X_tp tp M) (hwt : ∀ k, k < tp.1 → -128 ≤ (tp.2 k).toInt ∧ (tp.2 k).toInt ≤ 127) (hrs : X_rs M) (k5 : ¬ (0 ≤ n.toInt ∧ n.toInt ≤ (tp.1 : Int) ∧ n.toInt ≤ ((300 : Nat) : Int)) → Q (some (.int (-1))) GX (r_sI M 0 0 (nI 5))) (k10 : ∀ n', n = nI n' → n' ≤ tp.1 → n' ≤ 300 → (¬ (plR (txT tp n') x).2.2 = 0) → ∀ M', (∀ o k, ¬ tQ t pl2 mk o k → r_eq3 M M' o k) → M'.1 0 0 = nI 10 → M'.1 40 1 = nI 0 → X_ft (nI (plR (txT tp n') x).2.2, nI (tA (txT tp n') (plR (txT tp n') x).2.1)) M' → M'.2.2 0 8 = some pl2 → M'.2.2 t 20 = some pl → Q (some (.int (-1))) GX M') (k0 : ∀ n', n = nI n' → n' ≤ tp.1 → n' ≤ 300 → (plR (txT tp n') x).2.2 = 0 → ∀ M', (∀ o k, ¬ tQ t pl2 mk o k → r_eq3 M M' o k) → M'.1 0 0 = nI 0 → M'.1 40 1 = nI 0 → X_ft (nI 0, -1) M' → X_jb pl2 (plR (txT tp n') x).1 M' → M'.1 pl2 0 = nI 1 → M'.2.2 0 8 = some pl → M'.2.2 t 20 = some pl2 → Q (some (.int (nI (plR (txT tp n') x).1.1))) GX M') : Ca 6 mt_X11_plan 0 0 [.ref 0, .int n] GX M Q := by
  refine Ca_of rfl (Nat.le_of_ble_eq_true rfl) ?_
  have ht : isTown t := hcu.1.2.2.2
  have hT : t = 3 ∨ t = 83 ∨ t = 111 ∨ t = 139 ∨ t = 167 := ht
  have hP9 : pl2 = 26 ∨ pl2 = 35 ∨ pl2 = 106 ∨ pl2 = 134 ∨ pl2 = 162 ∨ pl2 = 190 := hp
  refine Ru_aload_n (pc := 0) dX11_plan_0 rfl rfl ?_
  refine Ru_iload_n (pc := 1) dX11_plan_1 rfl rfl ?_
  refine Ru_sipush (pc := 2) (nI 300) dX11_plan_2 rfl ?_
  refine Ru_cv2 (pc := 5) dX11_plan_5 mv_X11_144 rfl (by decide) (Nat.le_of_ble_eq_true rfl) (c_X11_isText (tp := tp) (most := 300) hy (by decide) ?_) 
  refine Ru_if_neB (pc := 8) 17 dX11_plan_8 (by decide) (fun h1 => ?_) (fun h1 => ?_)
  · replace h1 := of_decide_eq_true h1
    have hok := h1
    have en : n = nI n.toInt.toNat := nI_pos9 hok.1
    have hn1 : n.toInt.toNat ≤ tp.1 := by omega
    have hn2 : n.toInt.toNat ≤ 300 := by omega
    clear hok k5
    generalize n.toInt.toNat = n' at en hn1 hn2
    subst en
    have tw := txT_w tp (show n' ≤ 800 by omega)
    refine Ru_aload_n (pc := 17) dX11_plan_17 rfl rfl ?_
    refine Ru_getR (pc := 18) 40 dX11_plan_18 fl_X11_47 rfl rfl (rfX_of (o := 0) (j := 40) rfl rfl) ?_
    refine Ru_iload_n (pc := 21) dX11_plan_21 rfl rfl ?_
    refine Ru_cv1 (pc := 22) dX11_plan_22 mv_X11_147 rfl (by decide) (Nat.le_of_ble_eq_true rfl) (c_X8_begin (tp := tp) hy hwt hrs hn1 (fun M2 cnt gx2 h12 htk h72 h82 => ?_)) 
    have hr2 : X_rd (txT tp n') cnt (0, 0) M2 := ⟨fun _ => htk, h72, h82⟩
    have gm : ∀ o k, ¬ (o = 40 ∧ (k = 1 ∨ (6 ≤ k ∧ k ≤ 8))) → ¬ (43 ≤ o ∧ o ≤ 45) → r_eq3 M M2 o k := fun o k h1 h2 => gx2 o k (by
      simp [r_in]
      omega)
    have bw2 : X_bw t x M2 := X_bw_ow (P := fun o k => (o = 40 ∧ k = 1) ∨ (43 ≤ o ∧ o ≤ 45)) ht (fun o k h1 h2 => gm o k (by omega) (by omega)) (fun j k hj => by omega) bw
    have f05 := gm 0 5 (by omega) (by omega)
    have f08 := gm 0 8 (by omega) (by omega)
    have f2k := gm 2 mk (by omega) (by omega)
    have ft := gm t 20 (by omega) (by omega)
    refine Ru_aload_n (pc := 25) dX11_plan_25 rfl rfl ?_
    refine Ru_getR (pc := 26) pl2 dX11_plan_26 fl_X11_40 rfl rfl ((rfX_mut rfl rfl).trans (f08.2.2.trans hsp)) ?_
    refine Ru_aload_n (pc := 29) dX11_plan_29 rfl rfl ?_
    refine Ru_getR (pc := 30) 40 dX11_plan_30 fl_X11_47 rfl rfl (rfX_of (o := 0) (j := 40) rfl rfl) ?_
    refine Ru_aload_n (pc := 33) dX11_plan_33 rfl rfl ?_
    refine Ru_cv0 (pc := 34) dX11_plan_34 mv_X11_154 rfl (by decide) (Nat.le_of_ble_eq_true rfl) (c_X11_nowR (mk := mk) (t := t) (f05.1.trans hcu.1.1) hcu.1.2.1 (f2k.2.2.trans hcu.1.2.2.1) ht ?_) 
    refine Ru_cv2 (pc := 37) dX11_plan_37 mv_X11_187 (shPlan_0 hp) (by decide) (Nat.le_of_ble_eq_true rfl) (c_X5_build (x := x) tw hn2 ht hp bw2 wf hr2 (fun M3 ow3 hr3 hg3 => ?_)) 
    have nb : ∀ o k, ¬ pB pl2 o k → ¬ (o = 40 ∧ (k = 1 ∨ (6 ≤ k ∧ k ≤ 8))) → ¬ (43 ≤ o ∧ o ≤ 45) → r_eq3 M M3 o k := fun o k h1 h2 h3 => e3t (gm o k h2 h3) (ow3 o k (by omega) h1)
    have h13 : M3.1 40 1 = nI 0 := (ow3 40 1 (by omega) (by unfold pB; omega)).1.trans h12
    have e05 := nb 0 5 (by unfold pB; omega) (by omega) (by omega)
    have e08 := nb 0 8 (by unfold pB; omega) (by omega) (by omega)
    have e2k := nb 2 mk (by unfold pB; omega) (by omega) (by omega)
    have et := nb t 20 (by unfold pB; omega) (by omega) (by omega)
    refine Ru_if_neB (pc := 40) 50 dX11_plan_40 (by decide) (fun h2 => ?_) (fun h2 => ?_)
    · replace h2 := of_decide_eq_true h2
      have hz3 := h2
      have hg := hg3 hz3
      refine Ru_aload_n (pc := 50) dX11_plan_50 rfl rfl ?_
      refine Ru_cv0 (pc := 51) dX11_plan_51 mv_X11_154 rfl (by decide) (Nat.le_of_ble_eq_true rfl) (c_X11_nowR (mk := mk) (t := t) (e05.1.trans hcu.1.1) hcu.1.2.1 (e2k.2.2.trans hcu.1.2.2.1) ht ?_) 
      refine Ru_getR (pc := 54) pl dX11_plan_54 fl_X11_190 (shTown_0 ht) rfl ((rfX_mut (shTown_0 ht) rfl).trans (et.2.2.trans hcu.2.2.1)) ?_
      refine Ru_astore_n (pc := 57) dX11_plan_57 rfl rfl (by decide) ?_
      refine Ru_aload_n (pc := 58) dX11_plan_58 rfl rfl ?_
      refine Ru_cv0 (pc := 59) dX11_plan_59 mv_X11_154 rfl (by decide) (Nat.le_of_ble_eq_true rfl) (c_X11_nowR (mk := mk) (t := t) (e05.1.trans hcu.1.1) hcu.1.2.1 (e2k.2.2.trans hcu.1.2.2.1) ht ?_) 
      refine Ru_aload_n (pc := 62) dX11_plan_62 rfl rfl ?_
      refine Ru_getR (pc := 63) pl2 dX11_plan_63 fl_X11_40 rfl rfl ((rfX_mut rfl rfl).trans (e08.2.2.trans hsp)) ?_
      refine Ru_putR (pc := 66) rfl dX11_plan_66 fl_X11_190 (shTown_0 ht) (frX_none (o := t) (ci := 9) (k := 20) (shTown_0 ht) rfl) ?_
      refine Ru_aload_n (pc := 69) dX11_plan_69 rfl rfl ?_
      refine Ru_aload_n (pc := 70) dX11_plan_70 rfl rfl ?_
      refine Ru_putR (pc := 71) rfl dX11_plan_71 fl_X11_40 rfl (frX_none (o := 0) (ci := 11) (k := 8) rfl rfl) ?_
      refine Ru_aload_n (pc := 74) dX11_plan_74 rfl rfl ?_
      refine Ru_aload_n (pc := 75) dX11_plan_75 rfl rfl ?_
      refine Ru_cv0 (pc := 76) dX11_plan_76 mv_X11_154 rfl (by decide) (Nat.le_of_ble_eq_true rfl) (c_X11_nowR (mk := mk) (t := t) (e05.1.trans hcu.1.1) hcu.1.2.1 (by rw [r_sR_g, if_neg (by omega), r_sR_g, if_neg (by omega)]; exact e2k.2.2.trans hcu.1.2.2.1) ht ?_) 
      refine Ru_getR (pc := 79) pl2 dX11_plan_79 fl_X11_190 (shTown_0 ht) rfl ((rfX_mut (shTown_0 ht) rfl).trans (by rw [r_sR_g, if_neg (by omega)]; exact r_sR_s)) ?_
      refine Ru_getI (pc := 82) dX11_plan_82 fl_X11_193 (shPlan_0 hp) rfl ?_
      refine Ru_top hg.1.1 ?_
      refine Ru_cv1 (pc := 85) dX11_plan_85 mv_X11_170 rfl (by decide) (Nat.le_of_ble_eq_true rfl) (c_X11_tell ?_) 
      refine Ru_iret (pc := 88) dX11_plan_88 rfl ⟨Nat.le_refl _, Nat.le_refl _⟩ ?_
      refine k0 n' rfl hn1 hn2 hz3 (r_sI (r_sR (r_sR M3 t 20 (some pl2)) 0 8 (some pl)) 0 0 (nI 0)) (fun o k h => ?_) r_sI_s ((r_sI_n (by decide)).trans h13) ⟨(r_sI_n (by decide)).trans (hr3.2.1.trans (congrArg nI hz3)), (r_sI_n (by decide)).trans (hr3.2.2.trans (if_pos hz3))⟩ ⟨(r_sI_n (by omega)).trans hg.1.1, hg.1.2.1, fun j hj => ?_⟩ ((r_sI_n (by omega)).trans hg.2) ?_ ?_
      · unfold tQ at h
        have e := nb o k (fun q => h (Or.inl q)) (by omega) (by omega)
        refine ⟨(r_sI_n (by omega)).trans e.1, e.2.1, ?_⟩
        show (r_sR (r_sR M3 t 20 (some pl2)) 0 8 (some pl)).2.2 o k = _
        rw [r_sR_g, if_neg (by omega), r_sR_g, if_neg (by omega)]
        exact e.2.2
      · obtain ⟨q1, q2, q3, q4⟩ := hg.1.2.2 j hj
        exact ⟨(r_sI_n (by omega)).trans q1, fun t => (r_sI_n (by omega)).trans (q2 t), (r_sI_n (by omega)).trans q3, (r_sI_n (by omega)).trans q4⟩
      · show (r_sR (r_sR M3 t 20 (some pl2)) 0 8 (some pl)).2.2 0 8 = _
        exact r_sR_s
      · show (r_sR (r_sR M3 t 20 (some pl2)) 0 8 (some pl)).2.2 t 20 = _
        rw [r_sR_g, if_neg (by omega)]
        exact r_sR_s
    · replace h2 := of_decide_eq_false h2
      have hzf := h2
      refine Ru_aload_n (pc := 43) dX11_plan_43 rfl rfl ?_
      refine Ru_bipush (pc := 44) (nI 10) dX11_plan_44 rfl ?_
      refine Ru_cv1 (pc := 46) dX11_plan_46 mv_X11_112 rfl (by decide) (Nat.le_of_ble_eq_true rfl) (c_X11_fail ?_) 
      refine Ru_iret (pc := 49) dX11_plan_49 rfl ⟨Nat.le_refl _, Nat.le_refl _⟩ ?_
      refine k10 n' rfl hn1 hn2 hzf _ (fun o k h => ?_) r_sI_s ((r_sI_n (by decide)).trans h13) ⟨(r_sI_n (by decide)).trans hr3.2.1, (r_sI_n (by decide)).trans (hr3.2.2.trans (if_neg hzf))⟩ (e08.2.2.trans hsp) (et.2.2.trans hcu.2.2.1)
      unfold tQ at h
      have e := nb o k (fun q => h (Or.inl q)) (by omega) (by omega)
      exact ⟨(r_sI_n (by omega)).trans e.1, e.2.1, e.2.2⟩
  · replace h1 := of_decide_eq_false h1
    have hok := h1
    refine Ru_aload_n (pc := 11) dX11_plan_11 rfl rfl ?_
    refine Ru_iconst (pc := 12) (nI 5) dX11_plan_12 rfl ?_
    refine Ru_cv1 (pc := 13) dX11_plan_13 mv_X11_112 rfl (by decide) (Nat.le_of_ble_eq_true rfl) (c_X11_fail ?_) 
    refine Ru_iret (pc := 16) dX11_plan_16 rfl ⟨Nat.le_refl _, Nat.le_refl _⟩ ?_
    exact k5 hok
