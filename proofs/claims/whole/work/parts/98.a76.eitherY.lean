-- READING: the reference, EITHER, BOTH, ONE
theorem l_X12_readBoth {Q : Rq} {M0 : Mem} {T : Tx} {x : St9} {g : Lg} {h w : Nat} {R : Lq × Ps} (tw : Tw T) (hT3 : T.2 ≤ 300) (hh : 8 ≤ h) (hg : lGd T 0 0 g) (H : YL T x mt_X12_readOne h w g) (k : ∀ M', r_fx [(0, 12), (0, 13), (0, 14), (0, 15), (0, 16), (0, 17), (0, 18), (0, 21), (0, 19), (0, 20)] [5] M0 M' → (∀ q, q < 2621 → M'.1 5 q = M0.1 5 q) → Y_rd T R.2 M' → Y_lq R.1 M' → Q none GY M') : ∀ (zw : Nat) (f : Nat) (y : Lq) (s : Ps) (M : Mem), f = zw → (s.2 = 0 → 801 ≤ f + s.1) → (Y_rd T s M) → (Y_wm x M) → (Y_lq y M) → (s.2 = 0 → y.2.1 ≤ 20 ∧ 2 * y.1 ≤ tp T s.1) → (lLp T 152 8 g f y s = R) → (r_fx [(0, 12), (0, 13), (0, 14), (0, 15), (0, 16), (0, 17), (0, 18), (0, 21), (0, 19), (0, 20)] [5] M0 M) → (∀ q, q < 2621 → M.1 5 q = M0.1 5 q) → Ru (h + 1) mt_X12_readBoth r_z 5 [(0, some (.ref 0)), (1, some (.int (nI w)))] [] GY M Q := by
  intro zw
  induction zw using Nat.strongRecOn with
  | ind zw ih =>
    intro f y s M hw hf9 hr wm hy hB hR gx gy
    subst hw
    have hb := hr.2.2.2.2
    have fx : r_fx [(0, 12), (0, 13), (0, 14), (0, 15), (0, 16), (0, 17), (0, 18), (0, 21), (0, 19), (0, 20)] [5] M M := r_fx.rf
    have fy : ∀ q, q < 2621 → M.1 5 q = M.1 5 q := fun _ _ => rfl
    refine Ru_aload_n (pc := 5) dX12_readBoth_5 rfl rfl ?_
    refine Ru_getI (pc := 6) dX12_readBoth_6 fl_X12_251 rfl rfl ?_
    refine Ru_top hr.2.2.1 ?_
    refine Ru_if_neN (pc := 9) 38 dX12_readBoth_9 (by decide) (by omega) (fun h1 => ?_) (fun h1 => ?_)
    · refine Ru_vret (pc := 38) dX12_readBoth_38 rfl ⟨Nat.le_refl _, Nat.le_refl _⟩ ?_
      rw [lLp_f (show ¬ s.2 = 0 by omega)] at hR
      subst hR
      exact k M gx gy hr hy
    · refine Ru_aload_n (pc := 12) dX12_readBoth_12 rfl rfl ?_
      refine Ru_cv0 (pc := 13) dX12_readBoth_13 mv_X12_239 rfl (by omega) (Nat.le_of_ble_eq_true rfl) (c_X12_isAnd (i := s.1) tw hr.2.1 ?_) 
      refine Ru_if_eqB (pc := 16) 38 dX12_readBoth_16 (by decide) (fun h2 => ?_) (fun h2 => ?_)
      · replace h2 := of_decide_eq_false h2
        have hk9 := h2
        refine Ru_vret (pc := 38) dX12_readBoth_38 rfl ⟨Nat.le_refl _, Nat.le_refl _⟩ ?_
        rw [lLp_n hk9] at hR
        subst hR
        exact k M gx gy hr hy
      · replace h2 := of_decide_eq_true h2
        have hk9 := h2
        have hz0 : s.2 = 0 := by assumption
        have hB0 := hB hz0
        refine Ru_aload_n (pc := 19) dX12_readBoth_19 rfl rfl ?_
        refine Ru_cv0 (pc := 20) dX12_readBoth_20 mv_X12_261 rfl (by omega) (Nat.le_of_ble_eq_true rfl) (c_X12_nextS (s := s) tw hr hz0 (fun M2 gx2 (hr2 : Y_rd T (s.1 + 1, 0) M2) => ?_)) 
        have fx2 : r_fx [(0, 12), (0, 13), (0, 14), (0, 15), (0, 16), (0, 17), (0, 18), (0, 21), (0, 19), (0, 20)] [5] M M2 := fx.tr (gx2.mono rfl)
        have fy2 : ∀ q, q < 2621 → M2.1 5 q = M.1 5 q := fun q hq => (gx2 5 q rfl).1.trans (fy q hq)
        have wm2 : Y_wm x M2 := Y_wm_k (fun q _ => (gx2 5 q rfl).1) (fun q => (gx2 6 q rfl).2.1) wm
        have hy2 : Y_lq y M2 := (Y_lq_dp _).kp gx2 rfl hy
        have hb2 := hr2.2.2.2.2
        refine Ru_aload_n (pc := 23) dX12_readBoth_23 rfl rfl ?_
        refine Ru_iload_n (pc := 24) dX12_readBoth_24 rfl rfl ?_
        refine Ru_cv1 (pc := 25) dX12_readBoth_25 mv_X12_334 rfl (by omega) (Nat.le_of_ble_eq_true rfl) (H _ M2 (s.1 + 1, 0) y hr2 wm2 hy2 (fun _ => ⟨hB0.1, show 2 * y.1 ≤ tp T (s.1 + 1) by have := tpq1 tw (i := s.1); omega⟩) (fun M3 gx3 gy3 hr3 hy3 => ?_)) 
        have fx3 : r_fx [(0, 12), (0, 13), (0, 14), (0, 15), (0, 16), (0, 17), (0, 18), (0, 21), (0, 19), (0, 20)] [5] M M3 := fx2.tr gx3
        have fy3 : ∀ q, q < 2621 → M3.1 5 q = M.1 5 q := fun q hq => (gy3 q hq).trans (fy2 q hq)
        have wm3 : Y_wm x M3 := Y_wm_k (fun q hq => gy3 q (by omega)) (fun q => (gx3 6 q rfl).2.1) wm2
        have hb3 := hr3.2.2.2.2
        refine Ru_aload_n (pc := 28) dX12_readBoth_28 rfl rfl ?_
        refine Ru_bipush (pc := 29) (nI 8) dX12_readBoth_29 rfl ?_
        refine Ru_iconst (pc := 31) (nI 0) dX12_readBoth_31 rfl ?_
        refine Ru_cv2 (pc := 32) dX12_readBoth_32 mv_X12_328 rfl (by omega) (Nat.le_of_ble_eq_true rfl) (c_X12_lawStep (s := (g y (s.1 + 1, 0)).2) (y := (g y (s.1 + 1, 0)).1) (a := 8) (b := 0) tw hr3 hy3 (fun _ => rfl) (fun q => Nat.le_trans (lst_b (op := 8) tw hT3 (by decide) hg hk9 hB0 q).1 (by decide)) (fun M4 gx4 gy4 hr4 hy4 => ?_)) 
        have fx4 : r_fx [(0, 12), (0, 13), (0, 14), (0, 15), (0, 16), (0, 17), (0, 18), (0, 21), (0, 19), (0, 20)] [5] M M4 := fx3.tr (gx4.mono rfl)
        have fy4 : ∀ q, q < 2621 → M4.1 5 q = M.1 5 q := fun q hq => (gy4 q hq).trans (fy3 q hq)
        have wm4 : Y_wm x M4 := Y_wm_k (fun q hq => gy4 q (by omega)) (fun q => (gx4 6 q rfl).2.1) wm3
        have hb4 := hr4.2.2.2.2
        refine Ru_goto (pc := 35) 5 dX12_readBoth_35 (by decide) ?_
        obtain ⟨f', rfl⟩ : ∃ f', f = f' + 1 := ⟨f - 1, by have := (tK_i tw (i := s.1) (by omega)).1; have := hf9 hz0; omega⟩
        rw [lLp_u, if_pos ⟨hz0, hk9⟩] at hR
        have wst := lst_b (op := 8) tw hT3 (show 128 ≤ 152 by decide) hg hk9 hB0
        refine Ru_weak (ih f' (by omega) f' (lSt 8 0 (g y (s.1 + 1, 0)).1 (g y (s.1 + 1, 0)).2) (g y (s.1 + 1, 0)).2 M4 rfl (fun z => ?_) hr4 wm4 hy4 (fun z => ?_) hR (gx.tr fx4) (fun q hq => (fy4 q hq).trans (gy q hq))) rfl
        · have := (wst z).2.1
          have := hf9 hz0
          omega
        · exact (wst z).2.2

theorem t_X12_readBoth {T : Tx} {x : St9} {g : Lg} {h w : Nat} (tw : Tw T) (hT3 : T.2 ≤ 300) (hh : 8 ≤ h) (hg : lGd T 0 0 g) (H : YL T x mt_X12_readOne h w g) : YL T x mt_X12_readBoth (h + 1) w (lBo T g) := by
  intro Q M s y hr wm hy hB k
  refine Ca_of rfl (Nat.le_of_ble_eq_true rfl) ?_
  have fx : r_fx [(0, 12), (0, 13), (0, 14), (0, 15), (0, 16), (0, 17), (0, 18), (0, 21), (0, 19), (0, 20)] [5] M M := r_fx.rf
  have fy : ∀ q, q < 2621 → M.1 5 q = M.1 5 q := fun _ _ => rfl
  refine Ru_aload_n (pc := 0) dX12_readBoth_0 rfl rfl ?_
  refine Ru_iload_n (pc := 1) dX12_readBoth_1 rfl rfl ?_
  refine Ru_cv1 (pc := 2) dX12_readBoth_2 mv_X12_334 rfl (by omega) (Nat.le_of_ble_eq_true rfl) (H _ M s y hr wm hy hB (fun M2 gx2 gy2 hr2 hy2 => ?_)) 
  have fx2 : r_fx [(0, 12), (0, 13), (0, 14), (0, 15), (0, 16), (0, 17), (0, 18), (0, 21), (0, 19), (0, 20)] [5] M M2 := fx.tr gx2
  have fy2 : ∀ q, q < 2621 → M2.1 5 q = M.1 5 q := fun q hq => (gy2 q hq).trans (fy q hq)
  have wm2 : Y_wm x M2 := Y_wm_k (fun q hq => gy2 q (by omega)) (fun q => (gx2 6 q rfl).2.1) wm
  have hb2 := hr2.2.2.2.2
  have hf : (g y s).2.2 = 0 → 801 ≤ 801 + (g y s).2.1 := fun _ => Nat.le_add_right _ _
  refine Ru_weak (l_X12_readBoth (R := lBo T g y s) tw hT3 hh hg H (fun M' gx' gy' hr' hy' => k M' (fx2.tr gx') (fun q hq => (gy' q hq).trans (fy2 q hq)) hr' hy') 801 801 (g y s).1 (g y s).2 M2 rfl hf hr2 wm2 hy2 (fun z => ?_) rfl r_fx.rf (fun _ _ => rfl)) rfl
  have hz : s.2 = 0 := Classical.byContradiction (fun q => by
    rw [hg.1 y s q] at z
    exact q z)
  exact (lgo_b tw hT3 hg hz (hB hz) z).2.2

theorem l_X12_readEither {Q : Rq} {M0 : Mem} {T : Tx} {x : St9} {g : Lg} {h w : Nat} {R : Lq × Ps} (tw : Tw T) (hT3 : T.2 ≤ 300) (hh : 8 ≤ h) (hg : lGd T 0 0 g) (H : YL T x mt_X12_readBoth h w g) (k : ∀ M', r_fx [(0, 12), (0, 13), (0, 14), (0, 15), (0, 16), (0, 17), (0, 18), (0, 21), (0, 19), (0, 20)] [5] M0 M' → (∀ q, q < 2621 → M'.1 5 q = M0.1 5 q) → Y_rd T R.2 M' → Y_lq R.1 M' → Q none GY M') : ∀ (zw : Nat) (f : Nat) (y : Lq) (s : Ps) (M : Mem), f = zw → (s.2 = 0 → 801 ≤ f + s.1) → (Y_rd T s M) → (Y_wm x M) → (Y_lq y M) → (s.2 = 0 → y.2.1 ≤ 20 ∧ 2 * y.1 ≤ tp T s.1) → (lLp T 151 9 g f y s = R) → (r_fx [(0, 12), (0, 13), (0, 14), (0, 15), (0, 16), (0, 17), (0, 18), (0, 21), (0, 19), (0, 20)] [5] M0 M) → (∀ q, q < 2621 → M.1 5 q = M0.1 5 q) → Ru (h + 1) mt_X12_readEither r_z 5 [(0, some (.ref 0)), (1, some (.int (nI w)))] [] GY M Q := by
  intro zw
  induction zw using Nat.strongRecOn with
  | ind zw ih =>
    intro f y s M hw hf9 hr wm hy hB hR gx gy
    subst hw
    have hb := hr.2.2.2.2
    have fx : r_fx [(0, 12), (0, 13), (0, 14), (0, 15), (0, 16), (0, 17), (0, 18), (0, 21), (0, 19), (0, 20)] [5] M M := r_fx.rf
    have fy : ∀ q, q < 2621 → M.1 5 q = M.1 5 q := fun _ _ => rfl
    refine Ru_aload_n (pc := 5) dX12_readEither_5 rfl rfl ?_
    refine Ru_getI (pc := 6) dX12_readEither_6 fl_X12_251 rfl rfl ?_
    refine Ru_top hr.2.2.1 ?_
    refine Ru_if_neN (pc := 9) 38 dX12_readEither_9 (by decide) (by omega) (fun h1 => ?_) (fun h1 => ?_)
    · refine Ru_vret (pc := 38) dX12_readEither_38 rfl ⟨Nat.le_refl _, Nat.le_refl _⟩ ?_
      rw [lLp_f (show ¬ s.2 = 0 by omega)] at hR
      subst hR
      exact k M gx gy hr hy
    · refine Ru_aload_n (pc := 12) dX12_readEither_12 rfl rfl ?_
      refine Ru_cv0 (pc := 13) dX12_readEither_13 mv_X12_236 rfl (by omega) (Nat.le_of_ble_eq_true rfl) (c_X12_isOr (i := s.1) tw hr.2.1 ?_) 
      refine Ru_if_eqB (pc := 16) 38 dX12_readEither_16 (by decide) (fun h2 => ?_) (fun h2 => ?_)
      · replace h2 := of_decide_eq_false h2
        have hk9 := h2
        refine Ru_vret (pc := 38) dX12_readEither_38 rfl ⟨Nat.le_refl _, Nat.le_refl _⟩ ?_
        rw [lLp_n hk9] at hR
        subst hR
        exact k M gx gy hr hy
      · replace h2 := of_decide_eq_true h2
        have hk9 := h2
        have hz0 : s.2 = 0 := by assumption
        have hB0 := hB hz0
        refine Ru_aload_n (pc := 19) dX12_readEither_19 rfl rfl ?_
        refine Ru_cv0 (pc := 20) dX12_readEither_20 mv_X12_261 rfl (by omega) (Nat.le_of_ble_eq_true rfl) (c_X12_nextS (s := s) tw hr hz0 (fun M2 gx2 (hr2 : Y_rd T (s.1 + 1, 0) M2) => ?_)) 
        have fx2 : r_fx [(0, 12), (0, 13), (0, 14), (0, 15), (0, 16), (0, 17), (0, 18), (0, 21), (0, 19), (0, 20)] [5] M M2 := fx.tr (gx2.mono rfl)
        have fy2 : ∀ q, q < 2621 → M2.1 5 q = M.1 5 q := fun q hq => (gx2 5 q rfl).1.trans (fy q hq)
        have wm2 : Y_wm x M2 := Y_wm_k (fun q _ => (gx2 5 q rfl).1) (fun q => (gx2 6 q rfl).2.1) wm
        have hy2 : Y_lq y M2 := (Y_lq_dp _).kp gx2 rfl hy
        have hb2 := hr2.2.2.2.2
        refine Ru_aload_n (pc := 23) dX12_readEither_23 rfl rfl ?_
        refine Ru_iload_n (pc := 24) dX12_readEither_24 rfl rfl ?_
        refine Ru_cv1 (pc := 25) dX12_readEither_25 mv_X12_343 rfl (by omega) (Nat.le_of_ble_eq_true rfl) (H _ M2 (s.1 + 1, 0) y hr2 wm2 hy2 (fun _ => ⟨hB0.1, show 2 * y.1 ≤ tp T (s.1 + 1) by have := tpq1 tw (i := s.1); omega⟩) (fun M3 gx3 gy3 hr3 hy3 => ?_)) 
        have fx3 : r_fx [(0, 12), (0, 13), (0, 14), (0, 15), (0, 16), (0, 17), (0, 18), (0, 21), (0, 19), (0, 20)] [5] M M3 := fx2.tr gx3
        have fy3 : ∀ q, q < 2621 → M3.1 5 q = M.1 5 q := fun q hq => (gy3 q hq).trans (fy2 q hq)
        have wm3 : Y_wm x M3 := Y_wm_k (fun q hq => gy3 q (by omega)) (fun q => (gx3 6 q rfl).2.1) wm2
        have hb3 := hr3.2.2.2.2
        refine Ru_aload_n (pc := 28) dX12_readEither_28 rfl rfl ?_
        refine Ru_bipush (pc := 29) (nI 9) dX12_readEither_29 rfl ?_
        refine Ru_iconst (pc := 31) (nI 0) dX12_readEither_31 rfl ?_
        refine Ru_cv2 (pc := 32) dX12_readEither_32 mv_X12_328 rfl (by omega) (Nat.le_of_ble_eq_true rfl) (c_X12_lawStep (s := (g y (s.1 + 1, 0)).2) (y := (g y (s.1 + 1, 0)).1) (a := 9) (b := 0) tw hr3 hy3 (fun _ => rfl) (fun q => Nat.le_trans (lst_b (op := 9) tw hT3 (by decide) hg hk9 hB0 q).1 (by decide)) (fun M4 gx4 gy4 hr4 hy4 => ?_)) 
        have fx4 : r_fx [(0, 12), (0, 13), (0, 14), (0, 15), (0, 16), (0, 17), (0, 18), (0, 21), (0, 19), (0, 20)] [5] M M4 := fx3.tr (gx4.mono rfl)
        have fy4 : ∀ q, q < 2621 → M4.1 5 q = M.1 5 q := fun q hq => (gy4 q hq).trans (fy3 q hq)
        have wm4 : Y_wm x M4 := Y_wm_k (fun q hq => gy4 q (by omega)) (fun q => (gx4 6 q rfl).2.1) wm3
        have hb4 := hr4.2.2.2.2
        refine Ru_goto (pc := 35) 5 dX12_readEither_35 (by decide) ?_
        obtain ⟨f', rfl⟩ : ∃ f', f = f' + 1 := ⟨f - 1, by have := (tK_i tw (i := s.1) (by omega)).1; have := hf9 hz0; omega⟩
        rw [lLp_u, if_pos ⟨hz0, hk9⟩] at hR
        have wst := lst_b (op := 9) tw hT3 (show 128 ≤ 151 by decide) hg hk9 hB0
        refine Ru_weak (ih f' (by omega) f' (lSt 9 0 (g y (s.1 + 1, 0)).1 (g y (s.1 + 1, 0)).2) (g y (s.1 + 1, 0)).2 M4 rfl (fun z => ?_) hr4 wm4 hy4 (fun z => ?_) hR (gx.tr fx4) (fun q hq => (fy4 q hq).trans (gy q hq))) rfl
        · have := (wst z).2.1
          have := hf9 hz0
          omega
        · exact (wst z).2.2

theorem t_X12_readEither {T : Tx} {x : St9} {g : Lg} {h w : Nat} (tw : Tw T) (hT3 : T.2 ≤ 300) (hh : 8 ≤ h) (hg : lGd T 0 0 (lBo T g)) (H : YL T x mt_X12_readBoth h w (lBo T g)) : YL T x mt_X12_readEither (h + 1) w (lEi T g) := by
  intro Q M s y hr wm hy hB k
  refine Ca_of rfl (Nat.le_of_ble_eq_true rfl) ?_
  have fx : r_fx [(0, 12), (0, 13), (0, 14), (0, 15), (0, 16), (0, 17), (0, 18), (0, 21), (0, 19), (0, 20)] [5] M M := r_fx.rf
  have fy : ∀ q, q < 2621 → M.1 5 q = M.1 5 q := fun _ _ => rfl
  refine Ru_aload_n (pc := 0) dX12_readEither_0 rfl rfl ?_
  refine Ru_iload_n (pc := 1) dX12_readEither_1 rfl rfl ?_
  refine Ru_cv1 (pc := 2) dX12_readEither_2 mv_X12_343 rfl (by omega) (Nat.le_of_ble_eq_true rfl) (H _ M s y hr wm hy hB (fun M2 gx2 gy2 hr2 hy2 => ?_)) 
  have fx2 : r_fx [(0, 12), (0, 13), (0, 14), (0, 15), (0, 16), (0, 17), (0, 18), (0, 21), (0, 19), (0, 20)] [5] M M2 := fx.tr gx2
  have fy2 : ∀ q, q < 2621 → M2.1 5 q = M.1 5 q := fun q hq => (gy2 q hq).trans (fy q hq)
  have wm2 : Y_wm x M2 := Y_wm_k (fun q hq => gy2 q (by omega)) (fun q => (gx2 6 q rfl).2.1) wm
  have hb2 := hr2.2.2.2.2
  have hf : ((lBo T g) y s).2.2 = 0 → 801 ≤ 801 + ((lBo T g) y s).2.1 := fun _ => Nat.le_add_right _ _
  refine Ru_weak (l_X12_readEither (R := lEi T g y s) tw hT3 hh hg H (fun M' gx' gy' hr' hy' => k M' (fx2.tr gx') (fun q hq => (gy' q hq).trans (fy2 q hq)) hr' hy') 801 801 ((lBo T g) y s).1 ((lBo T g) y s).2 M2 rfl hf hr2 wm2 hy2 (fun z => ?_) rfl r_fx.rf (fun _ _ => rfl)) rfl
  have hz : s.2 = 0 := Classical.byContradiction (fun q => by
    rw [hg.1 y s q] at z
    exact q z)
  exact (lgo_b tw hT3 hg hz (hB hz) z).2.2

theorem t_X12_one0 {T : Tx} {x : St9} {h : Nat} (tw : Tw T) (hT3 : T.2 ≤ 300) (wf : Wf x.1) (hh : 8 ≤ h) : YL T x mt_X12_readOne h 6 (lOn T x 0) := by
  intro Q M s y hr wm hy hB k
  refine Ca_of rfl (Nat.le_of_ble_eq_true rfl) ?_
  have hb := hr.2.2.2.2
  have hx := wf.1
  have fx : r_fx [(0, 12), (0, 13), (0, 14), (0, 15), (0, 16), (0, 17), (0, 18), (0, 21), (0, 19), (0, 20)] [5] M M := r_fx.rf
  have fy : ∀ q, q < 2621 → M.1 5 q = M.1 5 q := fun _ _ => rfl
  refine Ru_aload_n (pc := 0) dX12_readOne_0 rfl rfl ?_
  refine Ru_getI (pc := 1) dX12_readOne_1 fl_X12_251 rfl rfl ?_
  refine Ru_top hr.2.2.1 ?_
  refine Ru_if_leN (pc := 4) 8 dX12_readOne_4 (by decide) (by omega) (fun h1 => ?_) (fun h1 => ?_)
  · have h0 : s.2 = 0 := by omega
    have hB0 := hB h0
    refine Ru_aload_n (pc := 8) dX12_readOne_8 rfl rfl ?_
    refine Ru_cv0 (pc := 9) dX12_readOne_9 mv_X12_242 rfl (by omega) (Nat.le_of_ble_eq_true rfl) (c_X12_isNot (i := s.1) tw hr.2.1 ?_) 
    refine Ru_istore_n (pc := 12) dX12_readOne_12 rfl rfl (by decide) ?_
    refine Ru_aload_n (pc := 13) dX12_readOne_13 rfl rfl ?_
    refine Ru_bipush (pc := 14) (nI 40) dX12_readOne_14 rfl ?_
    refine Ru_cv1 (pc := 16) dX12_readOne_16 mv_X12_316 rfl (by omega) (Nat.le_of_ble_eq_true rfl) (c_X12_isSign (i := s.1) tw hr.2.1 (x := 40) (by decide) ?_) 
    refine Ru_istore_n (pc := 19) dX12_readOne_19 rfl rfl (by decide) ?_
    refine Ru_iload_n (pc := 20) dX12_readOne_20 rfl rfl ?_
    refine Ru_if_neB (pc := 21) 39 dX12_readOne_21 (by decide) (fun h2 => ?_) (fun h2 => ?_)
    · replace h2 := of_decide_eq_true h2
      have hkd := h2
      refine Ru_aload_n (pc := 39) dX12_readOne_39 rfl rfl ?_
      refine Ru_getI (pc := 40) dX12_readOne_40 fl_X12_251 rfl rfl ?_
      refine Ru_top hr.2.2.1 ?_
      refine Ru_if_neN (pc := 43) 73 dX12_readOne_43 (by decide) (by omega) (fun h3 => ?_) (fun h3 => ?_)
      · exfalso
        omega
      · refine Ru_iload_n (pc := 46) dX12_readOne_46 rfl rfl ?_
        refine Ru_if_neB (pc := 47) 73 dX12_readOne_47 (by decide) (fun h4 => ?_) (fun h4 => ?_)
        · replace h4 := of_decide_eq_true h4
          refine Ru_aload_n (pc := 73) dX12_readOne_73 rfl rfl ?_
          refine Ru_getI (pc := 74) dX12_readOne_74 fl_X12_251 rfl rfl ?_
          refine Ru_top hr.2.2.1 ?_
          refine Ru_if_neN (pc := 77) 96 dX12_readOne_77 (by decide) (by omega) (fun h5 => ?_) (fun h5 => ?_)
          · exfalso
            omega
          · refine Ru_iload_n (pc := 80) dX12_readOne_80 rfl rfl ?_
            refine Ru_bipush (pc := 81) (nI 6) dX12_readOne_81 rfl ?_
            refine Ru_icmp_neN (pc := 83) 96 dX12_readOne_83 (by decide) (by omega) (fun h6 => ?_) (fun h6 => ?_)
            · exfalso
              omega
            · refine Ru_aload_n (pc := 86) dX12_readOne_86 rfl rfl ?_
              refine Ru_bipush (pc := 87) (nI 7) dX12_readOne_87 rfl ?_
              refine Ru_aload_n (pc := 89) dX12_readOne_89 rfl rfl ?_
              refine Ru_getI (pc := 90) dX12_readOne_90 fl_X12_132 rfl rfl ?_
              refine Ru_top hr.2.1.1 ?_
              refine Ru_cv2 (pc := 93) dX12_readOne_93 mv_X12_257 rfl (by omega) (Nat.le_of_ble_eq_true rfl) (c_X12_fail (f := 7) (s := s) tw hr (by decide) (fun M2 gx2 hr2 => ?_)) 
              have fx2 : r_fx [(0, 12), (0, 13), (0, 14), (0, 15), (0, 16), (0, 17), (0, 18), (0, 21), (0, 19), (0, 20)] [5] M M2 := fx.tr (gx2.mono rfl)
              have fy2 : ∀ q, q < 2621 → M2.1 5 q = M.1 5 q := fun q hq => (gx2 5 q rfl).1.trans (fy q hq)
              have wm2 : Y_wm x M2 := Y_wm_k (fun q _ => (gx2 5 q rfl).1) (fun q => (gx2 6 q rfl).2.1) wm
              have hy2 : Y_lq y M2 := (Y_lq_dp _).kp gx2 rfl hy
              have hb2 := hr2.2.2.2.2
              have hn2 := sFail_n (f := 7) (by decide) h0
              refine Ru_aload_n (pc := 96) dX12_readOne_96 rfl rfl ?_
              refine Ru_getI (pc := 97) dX12_readOne_97 fl_X12_251 rfl rfl ?_
              refine Ru_top hr2.2.2.1 ?_
              refine Ru_if_leN (pc := 100) 104 dX12_readOne_100 (by decide) (by omega) (fun h7 => ?_) (fun h7 => ?_)
              · exfalso
                omega
              · refine Ru_vret (pc := 103) dX12_readOne_103 rfl ⟨Nat.le_refl _, Nat.le_refl _⟩ ?_
                have e1 : l1B T y s = s := by
                  unfold l1B
                  rw [if_neg (fun q => q h0), if_pos (Or.inl hkd)]
                have eR : lOn T x 0 y s = (y, (sFail 7 s)) := by
                  show (y, sFail 7 (l1B T y s)) = _
                  rw [e1]
                rw [eR] at k
                exact k M2 fx2 fy2 hr2 hy2
        · replace h4 := of_decide_eq_false h4
          exfalso
          first | omega | (exact absurd (by assumption) (by assumption))
    · replace h2 := of_decide_eq_false h2
      refine Ru_iload_n (pc := 24) dX12_readOne_24 rfl rfl ?_
      refine Ru_if_neB (pc := 25) 39 dX12_readOne_25 (by decide) (fun h8 => ?_) (fun h8 => ?_)
      · replace h8 := of_decide_eq_true h8
        have hkp := h8
        refine Ru_aload_n (pc := 39) dX12_readOne_39 rfl rfl ?_
        refine Ru_getI (pc := 40) dX12_readOne_40 fl_X12_251 rfl rfl ?_
        refine Ru_top hr.2.2.1 ?_
        refine Ru_if_neN (pc := 43) 73 dX12_readOne_43 (by decide) (by omega) (fun h9 => ?_) (fun h9 => ?_)
        · exfalso
          omega
        · refine Ru_iload_n (pc := 46) dX12_readOne_46 rfl rfl ?_
          refine Ru_if_neB (pc := 47) 73 dX12_readOne_47 (by decide) (fun h10 => ?_) (fun h10 => ?_)
          · replace h10 := of_decide_eq_true h10
            exfalso
            first | omega | (exact absurd (by assumption) (by assumption))
          · replace h10 := of_decide_eq_false h10
            refine Ru_iload_n (pc := 50) dX12_readOne_50 rfl rfl ?_
            refine Ru_if_neB (pc := 51) 73 dX12_readOne_51 (by decide) (fun h11 => ?_) (fun h11 => ?_)
            · replace h11 := of_decide_eq_true h11
              refine Ru_aload_n (pc := 73) dX12_readOne_73 rfl rfl ?_
              refine Ru_getI (pc := 74) dX12_readOne_74 fl_X12_251 rfl rfl ?_
              refine Ru_top hr.2.2.1 ?_
              refine Ru_if_neN (pc := 77) 96 dX12_readOne_77 (by decide) (by omega) (fun h12 => ?_) (fun h12 => ?_)
              · exfalso
                omega
              · refine Ru_iload_n (pc := 80) dX12_readOne_80 rfl rfl ?_
                refine Ru_bipush (pc := 81) (nI 6) dX12_readOne_81 rfl ?_
                refine Ru_icmp_neN (pc := 83) 96 dX12_readOne_83 (by decide) (by omega) (fun h13 => ?_) (fun h13 => ?_)
                · exfalso
                  omega
                · refine Ru_aload_n (pc := 86) dX12_readOne_86 rfl rfl ?_
                  refine Ru_bipush (pc := 87) (nI 7) dX12_readOne_87 rfl ?_
                  refine Ru_aload_n (pc := 89) dX12_readOne_89 rfl rfl ?_
                  refine Ru_getI (pc := 90) dX12_readOne_90 fl_X12_132 rfl rfl ?_
                  refine Ru_top hr.2.1.1 ?_
                  refine Ru_cv2 (pc := 93) dX12_readOne_93 mv_X12_257 rfl (by omega) (Nat.le_of_ble_eq_true rfl) (c_X12_fail (f := 7) (s := s) tw hr (by decide) (fun M2 gx2 hr2 => ?_)) 
                  have fx2 : r_fx [(0, 12), (0, 13), (0, 14), (0, 15), (0, 16), (0, 17), (0, 18), (0, 21), (0, 19), (0, 20)] [5] M M2 := fx.tr (gx2.mono rfl)
                  have fy2 : ∀ q, q < 2621 → M2.1 5 q = M.1 5 q := fun q hq => (gx2 5 q rfl).1.trans (fy q hq)
                  have wm2 : Y_wm x M2 := Y_wm_k (fun q _ => (gx2 5 q rfl).1) (fun q => (gx2 6 q rfl).2.1) wm
                  have hy2 : Y_lq y M2 := (Y_lq_dp _).kp gx2 rfl hy
                  have hb2 := hr2.2.2.2.2
                  have hn2 := sFail_n (f := 7) (by decide) h0
                  refine Ru_aload_n (pc := 96) dX12_readOne_96 rfl rfl ?_
                  refine Ru_getI (pc := 97) dX12_readOne_97 fl_X12_251 rfl rfl ?_
                  refine Ru_top hr2.2.2.1 ?_
                  refine Ru_if_leN (pc := 100) 104 dX12_readOne_100 (by decide) (by omega) (fun h14 => ?_) (fun h14 => ?_)
                  · exfalso
                    omega
                  · refine Ru_vret (pc := 103) dX12_readOne_103 rfl ⟨Nat.le_refl _, Nat.le_refl _⟩ ?_
                    have e1 : l1B T y s = s := by
                      unfold l1B
                      rw [if_neg (fun q => q h0), if_pos (Or.inr hkp)]
                    have eR : lOn T x 0 y s = (y, (sFail 7 s)) := by
                      show (y, sFail 7 (l1B T y s)) = _
                      rw [e1]
                    rw [eR] at k
                    exact k M2 fx2 fy2 hr2 hy2
            · replace h11 := of_decide_eq_false h11
              exfalso
              first | omega | (exact absurd (by assumption) (by assumption))
      · replace h8 := of_decide_eq_false h8
        refine Ru_aload_n (pc := 28) dX12_readOne_28 rfl rfl ?_
        refine Ru_cv0 (pc := 29) dX12_readOne_29 mv_X12_331 rfl (by omega) (Nat.le_of_ble_eq_true rfl) (c_X12_isCase (s := s) tw hr ?_) 
        refine Ru_if_neB (pc := 32) 39 dX12_readOne_32 (by decide) (fun h15 => ?_) (fun h15 => ?_)
        · have hcs := h15
          have hcs9 : 146 ≤ tK T s.1 ∧ tK T s.1 ≤ 150 := of_decide_eq_true hcs
          refine Ru_aload_n (pc := 39) dX12_readOne_39 rfl rfl ?_
          refine Ru_getI (pc := 40) dX12_readOne_40 fl_X12_251 rfl rfl ?_
          refine Ru_top hr.2.2.1 ?_
          refine Ru_if_neN (pc := 43) 73 dX12_readOne_43 (by decide) (by omega) (fun h16 => ?_) (fun h16 => ?_)
          · exfalso
            omega
          · refine Ru_iload_n (pc := 46) dX12_readOne_46 rfl rfl ?_
            refine Ru_if_neB (pc := 47) 73 dX12_readOne_47 (by decide) (fun h17 => ?_) (fun h17 => ?_)
            · replace h17 := of_decide_eq_true h17
              exfalso
              first | omega | (exact absurd (by assumption) (by assumption))
            · replace h17 := of_decide_eq_false h17
              refine Ru_iload_n (pc := 50) dX12_readOne_50 rfl rfl ?_
              refine Ru_if_neB (pc := 51) 73 dX12_readOne_51 (by decide) (fun h18 => ?_) (fun h18 => ?_)
              · replace h18 := of_decide_eq_true h18
                exfalso
                first | omega | (exact absurd (by assumption) (by assumption))
              · replace h18 := of_decide_eq_false h18
                refine Ru_aload_n (pc := 54) dX12_readOne_54 rfl rfl ?_
                refine Ru_getI (pc := 55) dX12_readOne_55 fl_X12_325 rfl rfl ?_
                refine Ru_top hy.2.1 ?_
                refine Ru_bipush (pc := 58) (nI 20) dX12_readOne_58 rfl ?_
                refine Ru_icmp_neN (pc := 60) 73 dX12_readOne_60 (by decide) (by omega) (fun h19 => ?_) (fun h19 => ?_)
                · have hc9 := h19
                  refine Ru_aload_n (pc := 73) dX12_readOne_73 rfl rfl ?_
                  refine Ru_getI (pc := 74) dX12_readOne_74 fl_X12_251 rfl rfl ?_
                  refine Ru_top hr.2.2.1 ?_
                  refine Ru_if_neN (pc := 77) 96 dX12_readOne_77 (by decide) (by omega) (fun h20 => ?_) (fun h20 => ?_)
                  · exfalso
                    omega
                  · refine Ru_iload_n (pc := 80) dX12_readOne_80 rfl rfl ?_
                    refine Ru_bipush (pc := 81) (nI 6) dX12_readOne_81 rfl ?_
                    refine Ru_icmp_neN (pc := 83) 96 dX12_readOne_83 (by decide) (by omega) (fun h21 => ?_) (fun h21 => ?_)
                    · exfalso
                      omega
                    · refine Ru_aload_n (pc := 86) dX12_readOne_86 rfl rfl ?_
                      refine Ru_bipush (pc := 87) (nI 7) dX12_readOne_87 rfl ?_
                      refine Ru_aload_n (pc := 89) dX12_readOne_89 rfl rfl ?_
                      refine Ru_getI (pc := 90) dX12_readOne_90 fl_X12_132 rfl rfl ?_
                      refine Ru_top hr.2.1.1 ?_
                      refine Ru_cv2 (pc := 93) dX12_readOne_93 mv_X12_257 rfl (by omega) (Nat.le_of_ble_eq_true rfl) (c_X12_fail (f := 7) (s := s) tw hr (by decide) (fun M2 gx2 hr2 => ?_)) 
                      have fx2 : r_fx [(0, 12), (0, 13), (0, 14), (0, 15), (0, 16), (0, 17), (0, 18), (0, 21), (0, 19), (0, 20)] [5] M M2 := fx.tr (gx2.mono rfl)
                      have fy2 : ∀ q, q < 2621 → M2.1 5 q = M.1 5 q := fun q hq => (gx2 5 q rfl).1.trans (fy q hq)
                      have wm2 : Y_wm x M2 := Y_wm_k (fun q _ => (gx2 5 q rfl).1) (fun q => (gx2 6 q rfl).2.1) wm
                      have hy2 : Y_lq y M2 := (Y_lq_dp _).kp gx2 rfl hy
                      have hb2 := hr2.2.2.2.2
                      have hn2 := sFail_n (f := 7) (by decide) h0
                      refine Ru_aload_n (pc := 96) dX12_readOne_96 rfl rfl ?_
                      refine Ru_getI (pc := 97) dX12_readOne_97 fl_X12_251 rfl rfl ?_
                      refine Ru_top hr2.2.2.1 ?_
                      refine Ru_if_leN (pc := 100) 104 dX12_readOne_100 (by decide) (by omega) (fun h22 => ?_) (fun h22 => ?_)
                      · exfalso
                        omega
                      · refine Ru_vret (pc := 103) dX12_readOne_103 rfl ⟨Nat.le_refl _, Nat.le_refl _⟩ ?_
                        have e1 : l1B T y s = s := by
                          unfold l1B
                          rw [if_neg (fun q => q h0), if_neg (by omega), if_pos hcs, if_neg hc9]
                        have eR : lOn T x 0 y s = (y, (sFail 7 s)) := by
                          show (y, sFail 7 (l1B T y s)) = _
                          rw [e1]
                        rw [eR] at k
                        exact k M2 fx2 fy2 hr2 hy2
                · have hc6 := h19
                  refine Ru_aload_n (pc := 63) dX12_readOne_63 rfl rfl ?_
                  refine Ru_bipush (pc := 64) (nI 6) dX12_readOne_64 rfl ?_
                  refine Ru_aload_n (pc := 66) dX12_readOne_66 rfl rfl ?_
                  refine Ru_getI (pc := 67) dX12_readOne_67 fl_X12_132 rfl rfl ?_
                  refine Ru_top hr.2.1.1 ?_
                  refine Ru_cv2 (pc := 70) dX12_readOne_70 mv_X12_257 rfl (by omega) (Nat.le_of_ble_eq_true rfl) (c_X12_fail (f := 6) (s := s) tw hr (by decide) (fun M2 gx2 hr2 => ?_)) 
                  have fx2 : r_fx [(0, 12), (0, 13), (0, 14), (0, 15), (0, 16), (0, 17), (0, 18), (0, 21), (0, 19), (0, 20)] [5] M M2 := fx.tr (gx2.mono rfl)
                  have fy2 : ∀ q, q < 2621 → M2.1 5 q = M.1 5 q := fun q hq => (gx2 5 q rfl).1.trans (fy q hq)
                  have wm2 : Y_wm x M2 := Y_wm_k (fun q _ => (gx2 5 q rfl).1) (fun q => (gx2 6 q rfl).2.1) wm
                  have hy2 : Y_lq y M2 := (Y_lq_dp _).kp gx2 rfl hy
                  have hb2 := hr2.2.2.2.2
                  have hn2 := sFail_n (f := 6) (by decide) h0
                  refine Ru_aload_n (pc := 73) dX12_readOne_73 rfl rfl ?_
                  refine Ru_getI (pc := 74) dX12_readOne_74 fl_X12_251 rfl rfl ?_
                  refine Ru_top hr2.2.2.1 ?_
                  refine Ru_if_neN (pc := 77) 96 dX12_readOne_77 (by decide) (by omega) (fun h23 => ?_) (fun h23 => ?_)
                  · refine Ru_aload_n (pc := 96) dX12_readOne_96 rfl rfl ?_
                    refine Ru_getI (pc := 97) dX12_readOne_97 fl_X12_251 rfl rfl ?_
                    refine Ru_top hr2.2.2.1 ?_
                    refine Ru_if_leN (pc := 100) 104 dX12_readOne_100 (by decide) (by omega) (fun h24 => ?_) (fun h24 => ?_)
                    · exfalso
                      omega
                    · refine Ru_vret (pc := 103) dX12_readOne_103 rfl ⟨Nat.le_refl _, Nat.le_refl _⟩ ?_
                      have e1 : l1B T y s = sFail 6 s := by
                        unfold l1B
                        rw [if_neg (fun q => q h0), if_neg (by omega), if_pos hcs, if_pos hc6]
                      have eR : lOn T x 0 y s = (y, (sFail 6 s)) := by
                        show (y, sFail 7 (l1B T y s)) = _
                        rw [e1]
                        rw [sFail_f hn2]
                      rw [eR] at k
                      exact k M2 fx2 fy2 hr2 hy2
                  · exfalso
                    omega
        · have hcs := h15
          refine Ru_aload_n (pc := 35) dX12_readOne_35 rfl rfl ?_
          refine Ru_cv0 (pc := 36) dX12_readOne_36 mv_X12_264 rfl (by omega) (Nat.le_of_ble_eq_true rfl) (c_X12_wrong (s := s) tw hr (fun M2 gx2 hr2 => ?_)) 
          have fx2 : r_fx [(0, 12), (0, 13), (0, 14), (0, 15), (0, 16), (0, 17), (0, 18), (0, 21), (0, 19), (0, 20)] [5] M M2 := fx.tr (gx2.mono rfl)
          have fy2 : ∀ q, q < 2621 → M2.1 5 q = M.1 5 q := fun q hq => (gx2 5 q rfl).1.trans (fy q hq)
          have wm2 : Y_wm x M2 := Y_wm_k (fun q _ => (gx2 5 q rfl).1) (fun q => (gx2 6 q rfl).2.1) wm
          have hy2 : Y_lq y M2 := (Y_lq_dp _).kp gx2 rfl hy
          have hb2 := hr2.2.2.2.2
          have hn2 := (sWrong_n (T := T) h0).1
          refine Ru_aload_n (pc := 39) dX12_readOne_39 rfl rfl ?_
          refine Ru_getI (pc := 40) dX12_readOne_40 fl_X12_251 rfl rfl ?_
          refine Ru_top hr2.2.2.1 ?_
          refine Ru_if_neN (pc := 43) 73 dX12_readOne_43 (by decide) (by omega) (fun h25 => ?_) (fun h25 => ?_)
          · refine Ru_aload_n (pc := 73) dX12_readOne_73 rfl rfl ?_
            refine Ru_getI (pc := 74) dX12_readOne_74 fl_X12_251 rfl rfl ?_
            refine Ru_top hr2.2.2.1 ?_
            refine Ru_if_neN (pc := 77) 96 dX12_readOne_77 (by decide) (by omega) (fun h26 => ?_) (fun h26 => ?_)
            · refine Ru_aload_n (pc := 96) dX12_readOne_96 rfl rfl ?_
              refine Ru_getI (pc := 97) dX12_readOne_97 fl_X12_251 rfl rfl ?_
              refine Ru_top hr2.2.2.1 ?_
              refine Ru_if_leN (pc := 100) 104 dX12_readOne_100 (by decide) (by omega) (fun h27 => ?_) (fun h27 => ?_)
              · exfalso
                omega
              · refine Ru_vret (pc := 103) dX12_readOne_103 rfl ⟨Nat.le_refl _, Nat.le_refl _⟩ ?_
                have e1 : l1B T y s = sWrong T s := by
                  unfold l1B
                  rw [if_neg (fun q => q h0), if_neg (by omega), if_neg (by rw [hcs]; decide)]
                have eR : lOn T x 0 y s = (y, (sWrong T s)) := by
                  show (y, sFail 7 (l1B T y s)) = _
                  rw [e1]
                  rw [sFail_f hn2]
                rw [eR] at k
                exact k M2 fx2 fy2 hr2 hy2
            · exfalso
              omega
          · exfalso
            omega
  · refine Ru_vret (pc := 7) dX12_readOne_7 rfl ⟨Nat.le_refl _, Nat.le_refl _⟩ ?_
    rw [lOn_f (show ¬ s.2 = 0 by omega) 0] at k
    exact k M fx fy hr hy

theorem t_X12_oneS {T : Tx} {x : St9} {h w m : Nat} (tw : Tw T) (hT3 : T.2 ≤ 300) (wf : Wf x.1) (hh : 8 ≤ h) (hw : w < 6) (hg : lGd T 0 0 (lOn T x m)) (H1 : YL T x mt_X12_readOne h (w + 1) (lOn T x m)) (H2 : YL T x mt_X12_readEither (h + 2) (w + 1) (lEi T (lOn T x m))) : YL T x mt_X12_readOne (h + 3) w (lOn T x (m + 1)) := by
  intro Q M s y hr wm hy hB k
  refine Ca_of rfl (Nat.le_of_ble_eq_true rfl) ?_
  have hb := hr.2.2.2.2
  have hx := wf.1
  have fx : r_fx [(0, 12), (0, 13), (0, 14), (0, 15), (0, 16), (0, 17), (0, 18), (0, 21), (0, 19), (0, 20)] [5] M M := r_fx.rf
  have fy : ∀ q, q < 2621 → M.1 5 q = M.1 5 q := fun _ _ => rfl
  refine Ru_aload_n (pc := 0) dX12_readOne_0 rfl rfl ?_
  refine Ru_getI (pc := 1) dX12_readOne_1 fl_X12_251 rfl rfl ?_
  refine Ru_top hr.2.2.1 ?_
  refine Ru_if_leN (pc := 4) 8 dX12_readOne_4 (by decide) (by omega) (fun h1 => ?_) (fun h1 => ?_)
  · have h0 : s.2 = 0 := by omega
    have hB0 := hB h0
    refine Ru_aload_n (pc := 8) dX12_readOne_8 rfl rfl ?_
    refine Ru_cv0 (pc := 9) dX12_readOne_9 mv_X12_242 rfl (by omega) (Nat.le_of_ble_eq_true rfl) (c_X12_isNot (i := s.1) tw hr.2.1 ?_) 
    refine Ru_istore_n (pc := 12) dX12_readOne_12 rfl rfl (by decide) ?_
    refine Ru_aload_n (pc := 13) dX12_readOne_13 rfl rfl ?_
    refine Ru_bipush (pc := 14) (nI 40) dX12_readOne_14 rfl ?_
    refine Ru_cv1 (pc := 16) dX12_readOne_16 mv_X12_316 rfl (by omega) (Nat.le_of_ble_eq_true rfl) (c_X12_isSign (i := s.1) tw hr.2.1 (x := 40) (by decide) ?_) 
    refine Ru_istore_n (pc := 19) dX12_readOne_19 rfl rfl (by decide) ?_
    refine Ru_iload_n (pc := 20) dX12_readOne_20 rfl rfl ?_
    refine Ru_if_neB (pc := 21) 39 dX12_readOne_21 (by decide) (fun h2 => ?_) (fun h2 => ?_)
    · replace h2 := of_decide_eq_true h2
      have hkd := h2
      refine Ru_aload_n (pc := 39) dX12_readOne_39 rfl rfl ?_
      refine Ru_getI (pc := 40) dX12_readOne_40 fl_X12_251 rfl rfl ?_
      refine Ru_top hr.2.2.1 ?_
      refine Ru_if_neN (pc := 43) 73 dX12_readOne_43 (by decide) (by omega) (fun h3 => ?_) (fun h3 => ?_)
      · exfalso
        omega
      · refine Ru_iload_n (pc := 46) dX12_readOne_46 rfl rfl ?_
        refine Ru_if_neB (pc := 47) 73 dX12_readOne_47 (by decide) (fun h4 => ?_) (fun h4 => ?_)
        · replace h4 := of_decide_eq_true h4
          refine Ru_aload_n (pc := 73) dX12_readOne_73 rfl rfl ?_
          refine Ru_getI (pc := 74) dX12_readOne_74 fl_X12_251 rfl rfl ?_
          refine Ru_top hr.2.2.1 ?_
          refine Ru_if_neN (pc := 77) 96 dX12_readOne_77 (by decide) (by omega) (fun h5 => ?_) (fun h5 => ?_)
          · exfalso
            omega
          · refine Ru_iload_n (pc := 80) dX12_readOne_80 rfl rfl ?_
            refine Ru_bipush (pc := 81) (nI 6) dX12_readOne_81 rfl ?_
            refine Ru_icmp_neN (pc := 83) 96 dX12_readOne_83 (by decide) (by omega) (fun h6 => ?_) (fun h6 => ?_)
            · refine Ru_aload_n (pc := 96) dX12_readOne_96 rfl rfl ?_
              refine Ru_getI (pc := 97) dX12_readOne_97 fl_X12_251 rfl rfl ?_
              refine Ru_top hr.2.2.1 ?_
              refine Ru_if_leN (pc := 100) 104 dX12_readOne_100 (by decide) (by omega) (fun h7 => ?_) (fun h7 => ?_)
              · refine Ru_iload_n (pc := 104) dX12_readOne_104 rfl rfl ?_
                refine Ru_if_eqB (pc := 105) 129 dX12_readOne_105 (by decide) (fun h8 => ?_) (fun h8 => ?_)
                · replace h8 := of_decide_eq_false h8
                  exfalso
                  first | omega | (exact absurd (by assumption) (by assumption))
                · replace h8 := of_decide_eq_true h8
                  refine Ru_aload_n (pc := 108) dX12_readOne_108 rfl rfl ?_
                  refine Ru_cv0 (pc := 109) dX12_readOne_109 mv_X12_261 rfl (by omega) (Nat.le_of_ble_eq_true rfl) (c_X12_nextS (s := s) tw hr h0 (fun M2 gx2 (hr2 : Y_rd T (s.1 + 1, 0) M2) => ?_)) 
                  have fx2 : r_fx [(0, 12), (0, 13), (0, 14), (0, 15), (0, 16), (0, 17), (0, 18), (0, 21), (0, 19), (0, 20)] [5] M M2 := fx.tr (gx2.mono rfl)
                  have fy2 : ∀ q, q < 2621 → M2.1 5 q = M.1 5 q := fun q hq => (gx2 5 q rfl).1.trans (fy q hq)
                  have wm2 : Y_wm x M2 := Y_wm_k (fun q _ => (gx2 5 q rfl).1) (fun q => (gx2 6 q rfl).2.1) wm
                  have hy2 : Y_lq y M2 := (Y_lq_dp _).kp gx2 rfl hy
                  have hb2 := hr2.2.2.2.2
                  refine Ru_aload_n (pc := 112) dX12_readOne_112 rfl rfl ?_
                  refine Ru_iload_n (pc := 113) dX12_readOne_113 rfl rfl ?_
                  refine Ru_iconst (pc := 114) (nI 1) dX12_readOne_114 rfl ?_
                  refine Ru_iaddN (pc := 115) dX12_readOne_115 ?_
                  refine Ru_cv1 (pc := 116) dX12_readOne_116 mv_X12_334 rfl (by omega) (Nat.le_of_ble_eq_true rfl) (H1 _ M2 (s.1 + 1, 0) y hr2 wm2 hy2 (fun _ => ⟨hB0.1, show 2 * y.1 ≤ tp T (s.1 + 1) by have := tpq1 tw (i := s.1); omega⟩) (fun M3 gx3 gy3 hr3 hy3 => ?_)) 
                  have fx3 : r_fx [(0, 12), (0, 13), (0, 14), (0, 15), (0, 16), (0, 17), (0, 18), (0, 21), (0, 19), (0, 20)] [5] M M3 := fx2.tr gx3
                  have fy3 : ∀ q, q < 2621 → M3.1 5 q = M.1 5 q := fun q hq => (gy3 q hq).trans (fy2 q hq)
                  have wm3 : Y_wm x M3 := Y_wm_k (fun q hq => gy3 q (by omega)) (fun q => (gx3 6 q rfl).2.1) wm2
                  have hb3 := hr3.2.2.2.2
                  refine Ru_aload_n (pc := 119) dX12_readOne_119 rfl rfl ?_
                  refine Ru_bipush (pc := 120) (nI 7) dX12_readOne_120 rfl ?_
                  refine Ru_iconst (pc := 122) (nI 0) dX12_readOne_122 rfl ?_
                  refine Ru_cv2 (pc := 123) dX12_readOne_123 mv_X12_328 rfl (by omega) (Nat.le_of_ble_eq_true rfl) (c_X12_lawStep (s := ((lOn T x m) y (s.1 + 1, 0)).2) (y := ((lOn T x m) y (s.1 + 1, 0)).1) (a := 7) (b := 0) tw hr3 hy3 (fun _ => rfl) (fun q => Nat.le_trans (lgo_b tw hT3 hg rfl ⟨hB0.1, show 2 * y.1 ≤ tp T (s.1 + 1) by have := tpq1 tw (i := s.1); omega⟩ q).1 (by decide)) (fun M4 gx4 gy4 hr4 hy4 => ?_)) 
                  have fx4 : r_fx [(0, 12), (0, 13), (0, 14), (0, 15), (0, 16), (0, 17), (0, 18), (0, 21), (0, 19), (0, 20)] [5] M M4 := fx3.tr (gx4.mono rfl)
                  have fy4 : ∀ q, q < 2621 → M4.1 5 q = M.1 5 q := fun q hq => (gy4 q hq).trans (fy3 q hq)
                  have wm4 : Y_wm x M4 := Y_wm_k (fun q hq => gy4 q (by omega)) (fun q => (gx4 6 q rfl).2.1) wm3
                  have hb4 := hr4.2.2.2.2
                  refine Ru_goto (pc := 126) 161 dX12_readOne_126 (by decide) ?_
                  refine Ru_vret (pc := 161) dX12_readOne_161 rfl ⟨Nat.le_refl _, Nat.le_refl _⟩ ?_
                  have e1 : l1B T y s = s := by
                    unfold l1B
                    rw [if_neg (fun q => q h0), if_pos (Or.inl hkd)]
                  have eR : lOn T x (m + 1) y s = lNt (lOn T x m) y s := by
                    show (if ¬ (l1B T y s).2 = 0 then (y, l1B T y s) else if tK T s.1 = 153 then lNt (lOn T x m) y s else if tK T s.1 = 40 then lPa T (lOn T x m) y s else (lcY T x y s, lcS T x s)) = _
                    rw [e1, if_neg (fun q => q h0)]
                    exact if_pos hkd
                  rw [eR] at k
                  exact k M4 fx4 fy4 hr4 hy4
              · exfalso
                omega
            · exfalso
              omega
        · replace h4 := of_decide_eq_false h4
          exfalso
          first | omega | (exact absurd (by assumption) (by assumption))
    · replace h2 := of_decide_eq_false h2
      refine Ru_iload_n (pc := 24) dX12_readOne_24 rfl rfl ?_
      refine Ru_if_neB (pc := 25) 39 dX12_readOne_25 (by decide) (fun h9 => ?_) (fun h9 => ?_)
      · replace h9 := of_decide_eq_true h9
        have hkp := h9
        refine Ru_aload_n (pc := 39) dX12_readOne_39 rfl rfl ?_
        refine Ru_getI (pc := 40) dX12_readOne_40 fl_X12_251 rfl rfl ?_
        refine Ru_top hr.2.2.1 ?_
        refine Ru_if_neN (pc := 43) 73 dX12_readOne_43 (by decide) (by omega) (fun h10 => ?_) (fun h10 => ?_)
        · exfalso
          omega
        · refine Ru_iload_n (pc := 46) dX12_readOne_46 rfl rfl ?_
          refine Ru_if_neB (pc := 47) 73 dX12_readOne_47 (by decide) (fun h11 => ?_) (fun h11 => ?_)
          · replace h11 := of_decide_eq_true h11
            exfalso
            first | omega | (exact absurd (by assumption) (by assumption))
          · replace h11 := of_decide_eq_false h11
            refine Ru_iload_n (pc := 50) dX12_readOne_50 rfl rfl ?_
            refine Ru_if_neB (pc := 51) 73 dX12_readOne_51 (by decide) (fun h12 => ?_) (fun h12 => ?_)
            · replace h12 := of_decide_eq_true h12
              refine Ru_aload_n (pc := 73) dX12_readOne_73 rfl rfl ?_
              refine Ru_getI (pc := 74) dX12_readOne_74 fl_X12_251 rfl rfl ?_
              refine Ru_top hr.2.2.1 ?_
              refine Ru_if_neN (pc := 77) 96 dX12_readOne_77 (by decide) (by omega) (fun h13 => ?_) (fun h13 => ?_)
              · exfalso
                omega
              · refine Ru_iload_n (pc := 80) dX12_readOne_80 rfl rfl ?_
                refine Ru_bipush (pc := 81) (nI 6) dX12_readOne_81 rfl ?_
                refine Ru_icmp_neN (pc := 83) 96 dX12_readOne_83 (by decide) (by omega) (fun h14 => ?_) (fun h14 => ?_)
                · refine Ru_aload_n (pc := 96) dX12_readOne_96 rfl rfl ?_
                  refine Ru_getI (pc := 97) dX12_readOne_97 fl_X12_251 rfl rfl ?_
                  refine Ru_top hr.2.2.1 ?_
                  refine Ru_if_leN (pc := 100) 104 dX12_readOne_100 (by decide) (by omega) (fun h15 => ?_) (fun h15 => ?_)
                  · refine Ru_iload_n (pc := 104) dX12_readOne_104 rfl rfl ?_
                    refine Ru_if_eqB (pc := 105) 129 dX12_readOne_105 (by decide) (fun h16 => ?_) (fun h16 => ?_)
                    · replace h16 := of_decide_eq_false h16
                      refine Ru_iload_n (pc := 129) dX12_readOne_129 rfl rfl ?_
                      refine Ru_if_eqB (pc := 130) 157 dX12_readOne_130 (by decide) (fun h17 => ?_) (fun h17 => ?_)
                      · replace h17 := of_decide_eq_false h17
                        exfalso
                        first | omega | (exact absurd (by assumption) (by assumption))
                      · replace h17 := of_decide_eq_true h17
                        refine Ru_aload_n (pc := 133) dX12_readOne_133 rfl rfl ?_
                        refine Ru_cv0 (pc := 134) dX12_readOne_134 mv_X12_261 rfl (by omega) (Nat.le_of_ble_eq_true rfl) (c_X12_nextS (s := s) tw hr h0 (fun M2 gx2 (hr2 : Y_rd T (s.1 + 1, 0) M2) => ?_)) 
                        have fx2 : r_fx [(0, 12), (0, 13), (0, 14), (0, 15), (0, 16), (0, 17), (0, 18), (0, 21), (0, 19), (0, 20)] [5] M M2 := fx.tr (gx2.mono rfl)
                        have fy2 : ∀ q, q < 2621 → M2.1 5 q = M.1 5 q := fun q hq => (gx2 5 q rfl).1.trans (fy q hq)
                        have wm2 : Y_wm x M2 := Y_wm_k (fun q _ => (gx2 5 q rfl).1) (fun q => (gx2 6 q rfl).2.1) wm
                        have hy2 : Y_lq y M2 := (Y_lq_dp _).kp gx2 rfl hy
                        have hb2 := hr2.2.2.2.2
                        refine Ru_aload_n (pc := 137) dX12_readOne_137 rfl rfl ?_
                        refine Ru_iload_n (pc := 138) dX12_readOne_138 rfl rfl ?_
                        refine Ru_iconst (pc := 139) (nI 1) dX12_readOne_139 rfl ?_
                        refine Ru_iaddN (pc := 140) dX12_readOne_140 ?_
                        refine Ru_cv1 (pc := 141) dX12_readOne_141 mv_X12_337 rfl (by omega) (Nat.le_of_ble_eq_true rfl) (H2 _ M2 (s.1 + 1, 0) y hr2 wm2 hy2 (fun _ => ⟨hB0.1, show 2 * y.1 ≤ tp T (s.1 + 1) by have := tpq1 tw (i := s.1); omega⟩) (fun M3 gx3 gy3 hr3 hy3 => ?_)) 
                        have fx3 : r_fx [(0, 12), (0, 13), (0, 14), (0, 15), (0, 16), (0, 17), (0, 18), (0, 21), (0, 19), (0, 20)] [5] M M3 := fx2.tr gx3
                        have fy3 : ∀ q, q < 2621 → M3.1 5 q = M.1 5 q := fun q hq => (gy3 q hq).trans (fy2 q hq)
                        have wm3 : Y_wm x M3 := Y_wm_k (fun q hq => gy3 q (by omega)) (fun q => (gx3 6 q rfl).2.1) wm2
                        have hb3 := hr3.2.2.2.2
                        refine Ru_aload_n (pc := 144) dX12_readOne_144 rfl rfl ?_
                        refine Ru_aload_n (pc := 145) dX12_readOne_145 rfl rfl ?_
                        refine Ru_bipush (pc := 146) (nI 41) dX12_readOne_146 rfl ?_
                        refine Ru_cv1 (pc := 148) dX12_readOne_148 mv_X12_316 rfl (by omega) (Nat.le_of_ble_eq_true rfl) (c_X12_isSign (i := ((lEi T (lOn T x m)) y (s.1 + 1, 0)).2.1) tw hr3.2.1 (x := 41) (by decide) ?_) 
                        refine Ru_cv1 (pc := 151) dX12_readOne_151 mv_X12_290 rfl (by omega) (Nat.le_of_ble_eq_true rfl) (c_X12_must (s := ((lEi T (lOn T x m)) y (s.1 + 1, 0)).2) (b := (decide (tK T ((lEi T (lOn T x m)) y (s.1 + 1, 0)).2.1 = 41))) tw hr3 (fun M4 gx4 (hr4 : Y_rd T (sMust T (decide (tK T ((lEi T (lOn T x m)) y (s.1 + 1, 0)).2.1 = 41)) ((lEi T (lOn T x m)) y (s.1 + 1, 0)).2) M4) => ?_)) 
                        have fx4 : r_fx [(0, 12), (0, 13), (0, 14), (0, 15), (0, 16), (0, 17), (0, 18), (0, 21), (0, 19), (0, 20)] [5] M M4 := fx3.tr (gx4.mono rfl)
                        have fy4 : ∀ q, q < 2621 → M4.1 5 q = M.1 5 q := fun q hq => (gx4 5 q rfl).1.trans (fy3 q hq)
                        have wm4 : Y_wm x M4 := Y_wm_k (fun q _ => (gx4 5 q rfl).1) (fun q => (gx4 6 q rfl).2.1) wm3
                        have hy4 : Y_lq ((lEi T (lOn T x m)) y (s.1 + 1, 0)).1 M4 := (Y_lq_dp _).kp gx4 rfl hy3
                        have hb4 := hr4.2.2.2.2
                        refine Ru_goto (pc := 154) 161 dX12_readOne_154 (by decide) ?_
                        refine Ru_vret (pc := 161) dX12_readOne_161 rfl ⟨Nat.le_refl _, Nat.le_refl _⟩ ?_
                        have e1 : l1B T y s = s := by
                          unfold l1B
                          rw [if_neg (fun q => q h0), if_pos (Or.inr hkp)]
                        have eR : lOn T x (m + 1) y s = lPa T (lOn T x m) y s := by
                          show (if ¬ (l1B T y s).2 = 0 then (y, l1B T y s) else if tK T s.1 = 153 then lNt (lOn T x m) y s else if tK T s.1 = 40 then lPa T (lOn T x m) y s else (lcY T x y s, lcS T x s)) = _
                          rw [e1, if_neg (fun q => q h0)]
                          rw [if_neg (by omega)]
                          exact if_pos hkp
                        rw [eR] at k
                        exact k M4 fx4 fy4 hr4 hy4
                    · replace h16 := of_decide_eq_true h16
                      exfalso
                      first | omega | (exact absurd (by assumption) (by assumption))
                  · exfalso
                    omega
                · exfalso
                  omega
            · replace h12 := of_decide_eq_false h12
              exfalso
              first | omega | (exact absurd (by assumption) (by assumption))
      · replace h9 := of_decide_eq_false h9
        refine Ru_aload_n (pc := 28) dX12_readOne_28 rfl rfl ?_
        refine Ru_cv0 (pc := 29) dX12_readOne_29 mv_X12_331 rfl (by omega) (Nat.le_of_ble_eq_true rfl) (c_X12_isCase (s := s) tw hr ?_) 
        refine Ru_if_neB (pc := 32) 39 dX12_readOne_32 (by decide) (fun h18 => ?_) (fun h18 => ?_)
        · have hcs := h18
          have hcs9 : 146 ≤ tK T s.1 ∧ tK T s.1 ≤ 150 := of_decide_eq_true hcs
          refine Ru_aload_n (pc := 39) dX12_readOne_39 rfl rfl ?_
          refine Ru_getI (pc := 40) dX12_readOne_40 fl_X12_251 rfl rfl ?_
          refine Ru_top hr.2.2.1 ?_
          refine Ru_if_neN (pc := 43) 73 dX12_readOne_43 (by decide) (by omega) (fun h19 => ?_) (fun h19 => ?_)
          · exfalso
            omega
          · refine Ru_iload_n (pc := 46) dX12_readOne_46 rfl rfl ?_
            refine Ru_if_neB (pc := 47) 73 dX12_readOne_47 (by decide) (fun h20 => ?_) (fun h20 => ?_)
            · replace h20 := of_decide_eq_true h20
              exfalso
              first | omega | (exact absurd (by assumption) (by assumption))
            · replace h20 := of_decide_eq_false h20
              refine Ru_iload_n (pc := 50) dX12_readOne_50 rfl rfl ?_
              refine Ru_if_neB (pc := 51) 73 dX12_readOne_51 (by decide) (fun h21 => ?_) (fun h21 => ?_)
              · replace h21 := of_decide_eq_true h21
                exfalso
                first | omega | (exact absurd (by assumption) (by assumption))
              · replace h21 := of_decide_eq_false h21
                refine Ru_aload_n (pc := 54) dX12_readOne_54 rfl rfl ?_
                refine Ru_getI (pc := 55) dX12_readOne_55 fl_X12_325 rfl rfl ?_
                refine Ru_top hy.2.1 ?_
                refine Ru_bipush (pc := 58) (nI 20) dX12_readOne_58 rfl ?_
                refine Ru_icmp_neN (pc := 60) 73 dX12_readOne_60 (by decide) (by omega) (fun h22 => ?_) (fun h22 => ?_)
                · have hc9 := h22
                  refine Ru_aload_n (pc := 73) dX12_readOne_73 rfl rfl ?_
                  refine Ru_getI (pc := 74) dX12_readOne_74 fl_X12_251 rfl rfl ?_
                  refine Ru_top hr.2.2.1 ?_
                  refine Ru_if_neN (pc := 77) 96 dX12_readOne_77 (by decide) (by omega) (fun h23 => ?_) (fun h23 => ?_)
                  · exfalso
                    omega
                  · refine Ru_iload_n (pc := 80) dX12_readOne_80 rfl rfl ?_
                    refine Ru_bipush (pc := 81) (nI 6) dX12_readOne_81 rfl ?_
                    refine Ru_icmp_neN (pc := 83) 96 dX12_readOne_83 (by decide) (by omega) (fun h24 => ?_) (fun h24 => ?_)
                    · refine Ru_aload_n (pc := 96) dX12_readOne_96 rfl rfl ?_
                      refine Ru_getI (pc := 97) dX12_readOne_97 fl_X12_251 rfl rfl ?_
                      refine Ru_top hr.2.2.1 ?_
                      refine Ru_if_leN (pc := 100) 104 dX12_readOne_100 (by decide) (by omega) (fun h25 => ?_) (fun h25 => ?_)
                      · refine Ru_iload_n (pc := 104) dX12_readOne_104 rfl rfl ?_
                        refine Ru_if_eqB (pc := 105) 129 dX12_readOne_105 (by decide) (fun h26 => ?_) (fun h26 => ?_)
                        · replace h26 := of_decide_eq_false h26
                          refine Ru_iload_n (pc := 129) dX12_readOne_129 rfl rfl ?_
                          refine Ru_if_eqB (pc := 130) 157 dX12_readOne_130 (by decide) (fun h27 => ?_) (fun h27 => ?_)
                          · replace h27 := of_decide_eq_false h27
                            refine Ru_aload_n (pc := 157) dX12_readOne_157 rfl rfl ?_
                            refine Ru_cv0 (pc := 158) dX12_readOne_158 mv_X12_340 rfl (by omega) (Nat.le_of_ble_eq_true rfl) (c_X12_readCase (s := s) (x := x) (y := y) tw hr wf wm hy h0 hcs hc9 hB0.1 (by have := tp_le tw s.1; omega) (fun M2 gx2 gy2 hr2 hy2 => ?_)) 
                            have fx2 : r_fx [(0, 12), (0, 13), (0, 14), (0, 15), (0, 16), (0, 17), (0, 18), (0, 21), (0, 19), (0, 20)] [5] M M2 := fx.tr gx2
                            have fy2 : ∀ q, q < 2621 → M2.1 5 q = M.1 5 q := fun q hq => (gy2 q hq).trans (fy q hq)
                            have hb2 := hr2.2.2.2.2
                            refine Ru_vret (pc := 161) dX12_readOne_161 rfl ⟨Nat.le_refl _, Nat.le_refl _⟩ ?_
                            have e1 : l1B T y s = s := by
                              unfold l1B
                              rw [if_neg (fun q => q h0), if_neg (by omega), if_pos hcs, if_neg hc9]
                            have eR : lOn T x (m + 1) y s = (lcY T x y s, lcS T x s) := by
                              show (if ¬ (l1B T y s).2 = 0 then (y, l1B T y s) else if tK T s.1 = 153 then lNt (lOn T x m) y s else if tK T s.1 = 40 then lPa T (lOn T x m) y s else (lcY T x y s, lcS T x s)) = _
                              rw [e1, if_neg (fun q => q h0)]
                              rw [if_neg (by omega)]
                              exact if_neg (by omega)
                            rw [eR] at k
                            exact k M2 fx2 fy2 hr2 hy2
                          · replace h27 := of_decide_eq_true h27
                            exfalso
                            first | omega | (exact absurd (by assumption) (by assumption))
                        · replace h26 := of_decide_eq_true h26
                          exfalso
                          first | omega | (exact absurd (by assumption) (by assumption))
                      · exfalso
                        omega
                    · exfalso
                      omega
                · have hc6 := h22
                  refine Ru_aload_n (pc := 63) dX12_readOne_63 rfl rfl ?_
                  refine Ru_bipush (pc := 64) (nI 6) dX12_readOne_64 rfl ?_
                  refine Ru_aload_n (pc := 66) dX12_readOne_66 rfl rfl ?_
                  refine Ru_getI (pc := 67) dX12_readOne_67 fl_X12_132 rfl rfl ?_
                  refine Ru_top hr.2.1.1 ?_
                  refine Ru_cv2 (pc := 70) dX12_readOne_70 mv_X12_257 rfl (by omega) (Nat.le_of_ble_eq_true rfl) (c_X12_fail (f := 6) (s := s) tw hr (by decide) (fun M2 gx2 hr2 => ?_)) 
                  have fx2 : r_fx [(0, 12), (0, 13), (0, 14), (0, 15), (0, 16), (0, 17), (0, 18), (0, 21), (0, 19), (0, 20)] [5] M M2 := fx.tr (gx2.mono rfl)
                  have fy2 : ∀ q, q < 2621 → M2.1 5 q = M.1 5 q := fun q hq => (gx2 5 q rfl).1.trans (fy q hq)
                  have wm2 : Y_wm x M2 := Y_wm_k (fun q _ => (gx2 5 q rfl).1) (fun q => (gx2 6 q rfl).2.1) wm
                  have hy2 : Y_lq y M2 := (Y_lq_dp _).kp gx2 rfl hy
                  have hb2 := hr2.2.2.2.2
                  have hn2 := sFail_n (f := 6) (by decide) h0
                  refine Ru_aload_n (pc := 73) dX12_readOne_73 rfl rfl ?_
                  refine Ru_getI (pc := 74) dX12_readOne_74 fl_X12_251 rfl rfl ?_
                  refine Ru_top hr2.2.2.1 ?_
                  refine Ru_if_neN (pc := 77) 96 dX12_readOne_77 (by decide) (by omega) (fun h28 => ?_) (fun h28 => ?_)
                  · refine Ru_aload_n (pc := 96) dX12_readOne_96 rfl rfl ?_
                    refine Ru_getI (pc := 97) dX12_readOne_97 fl_X12_251 rfl rfl ?_
                    refine Ru_top hr2.2.2.1 ?_
                    refine Ru_if_leN (pc := 100) 104 dX12_readOne_100 (by decide) (by omega) (fun h29 => ?_) (fun h29 => ?_)
                    · exfalso
                      omega
                    · refine Ru_vret (pc := 103) dX12_readOne_103 rfl ⟨Nat.le_refl _, Nat.le_refl _⟩ ?_
                      have e1 : l1B T y s = sFail 6 s := by
                        unfold l1B
                        rw [if_neg (fun q => q h0), if_neg (by omega), if_pos hcs, if_pos hc6]
                      have eR : lOn T x (m + 1) y s = (y, (sFail 6 s)) := by
                        show (if ¬ (l1B T y s).2 = 0 then (y, l1B T y s) else _) = _
                        rw [e1]
                        exact if_pos hn2
                      rw [eR] at k
                      exact k M2 fx2 fy2 hr2 hy2
                  · exfalso
                    omega
        · have hcs := h18
          refine Ru_aload_n (pc := 35) dX12_readOne_35 rfl rfl ?_
          refine Ru_cv0 (pc := 36) dX12_readOne_36 mv_X12_264 rfl (by omega) (Nat.le_of_ble_eq_true rfl) (c_X12_wrong (s := s) tw hr (fun M2 gx2 hr2 => ?_)) 
          have fx2 : r_fx [(0, 12), (0, 13), (0, 14), (0, 15), (0, 16), (0, 17), (0, 18), (0, 21), (0, 19), (0, 20)] [5] M M2 := fx.tr (gx2.mono rfl)
          have fy2 : ∀ q, q < 2621 → M2.1 5 q = M.1 5 q := fun q hq => (gx2 5 q rfl).1.trans (fy q hq)
          have wm2 : Y_wm x M2 := Y_wm_k (fun q _ => (gx2 5 q rfl).1) (fun q => (gx2 6 q rfl).2.1) wm
          have hy2 : Y_lq y M2 := (Y_lq_dp _).kp gx2 rfl hy
          have hb2 := hr2.2.2.2.2
          have hn2 := (sWrong_n (T := T) h0).1
          refine Ru_aload_n (pc := 39) dX12_readOne_39 rfl rfl ?_
          refine Ru_getI (pc := 40) dX12_readOne_40 fl_X12_251 rfl rfl ?_
          refine Ru_top hr2.2.2.1 ?_
          refine Ru_if_neN (pc := 43) 73 dX12_readOne_43 (by decide) (by omega) (fun h30 => ?_) (fun h30 => ?_)
          · refine Ru_aload_n (pc := 73) dX12_readOne_73 rfl rfl ?_
            refine Ru_getI (pc := 74) dX12_readOne_74 fl_X12_251 rfl rfl ?_
            refine Ru_top hr2.2.2.1 ?_
            refine Ru_if_neN (pc := 77) 96 dX12_readOne_77 (by decide) (by omega) (fun h31 => ?_) (fun h31 => ?_)
            · refine Ru_aload_n (pc := 96) dX12_readOne_96 rfl rfl ?_
              refine Ru_getI (pc := 97) dX12_readOne_97 fl_X12_251 rfl rfl ?_
              refine Ru_top hr2.2.2.1 ?_
              refine Ru_if_leN (pc := 100) 104 dX12_readOne_100 (by decide) (by omega) (fun h32 => ?_) (fun h32 => ?_)
              · exfalso
                omega
              · refine Ru_vret (pc := 103) dX12_readOne_103 rfl ⟨Nat.le_refl _, Nat.le_refl _⟩ ?_
                have e1 : l1B T y s = sWrong T s := by
                  unfold l1B
                  rw [if_neg (fun q => q h0), if_neg (by omega), if_neg (by rw [hcs]; decide)]
                have eR : lOn T x (m + 1) y s = (y, (sWrong T s)) := by
                  show (if ¬ (l1B T y s).2 = 0 then (y, l1B T y s) else _) = _
                  rw [e1]
                  exact if_pos hn2
                rw [eR] at k
                exact k M2 fx2 fy2 hr2 hy2
            · exfalso
              omega
          · exfalso
            omega
  · refine Ru_vret (pc := 7) dX12_readOne_7 rfl ⟨Nat.le_refl _, Nat.le_refl _⟩ ?_
    rw [lOn_f (show ¬ s.2 = 0 by omega) (m + 1)] at k
    exact k M fx fy hr hy

theorem t_X12_ones {T : Tx} {x : St9} (tw : Tw T) (hT3 : T.2 ≤ 300) (wf : Wf x.1) : ∀ m w h, w + m = 6 → 8 + 3 * m ≤ h → YL T x mt_X12_readOne h w (lOn T x m)
  | 0, w, h, hw, hh => by
    have e : w = 6 := by omega
    subst e
    exact t_X12_one0 tw hT3 wf (by omega)
  | m + 1, w, h, hw, hh => by
    obtain ⟨h', rfl⟩ : ∃ h', h = h' + 3 := ⟨h - 3, by omega⟩
    have H1 := t_X12_ones tw hT3 wf m (w + 1) h' (by omega) (by omega)
    have ih := fun E hE => lOn_w (i0 := 0) tw (x := x) wf.1.1 m (by omega) E hE
    have g0 := ih 0 (by omega)
    exact t_X12_oneS tw hT3 wf (by omega) (by omega) g0 H1 (t_X12_readEither tw hT3 (by omega) (lBo_w tw g0 (ih 1 (by omega))) (t_X12_readBoth tw hT3 (by omega) g0 H1))
theorem t_X12_either {T : Tx} {x : St9} (tw : Tw T) (hT3 : T.2 ≤ 300) (wf : Wf x.1) : YL T x mt_X12_readEither 28 0 (lEi T (lOn T x 6)) := by
  have ih := fun E hE => lOn_w (i0 := 0) tw (x := x) wf.1.1 6 (by omega) E hE
  have g0 := ih 0 (by omega)
  exact t_X12_readEither tw hT3 (by omega) (lBo_w tw g0 (ih 1 (by omega))) (t_X12_readBoth tw hT3 (by omega) g0 (t_X12_ones tw hT3 wf 6 0 26 (by omega) (by omega)))
