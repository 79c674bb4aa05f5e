-- READING: the reference's plan
def Y_jd (z : Pl9) (M : Mem) : Prop := ∀ j, j < z.1 → M.1 5 (521 + 5 * j) = nI (z.2 (5 * j)) ∧ (z.2 (5 * j) = 0 → M.1 5 (521 + 5 * j + 1) = nI (z.2 (5 * j + 1))) ∧ M.1 5 (521 + 5 * j + 2) = nI (z.2 (5 * j + 2)) ∧ M.1 5 (521 + 5 * j + 3) = nI (z.2 (5 * j + 3))

theorem l_X12_plan0 {Q : Rq} {M0 : Mem} {n' : Nat} (k : ∀ M', (∀ k, k < 4 → M'.1 19 k = nI 0) → r_fx [] [19] M0 M' → Ru 8 mt_X12_plan r_z 48 [(0, some (.ref 0))] [] GY M' Q) : ∀ (zw : Nat) (q : Nat) (M : Mem), 4 - q = zw → (q ≤ 4) → (∀ k, k < q → M.1 19 k = nI 0) → (r_fx [] [19] M0 M) → Ru 8 mt_X12_plan r_z 30 [(0, some (.ref 0)), (1, some (.int (nI n'))), (2, some (.int (nI q)))] [] GY M Q := by
  intro zw
  induction zw using Nat.strongRecOn with
  | ind zw ih =>
    intro q M hw hn hz fx
    subst hw
    refine Ru_iload_n (pc := 30) dX12_plan_30 rfl rfl ?_
    refine Ru_iconst (pc := 31) (nI 4) dX12_plan_31 rfl ?_
    refine Ru_icmp_geN (pc := 32) 48 dX12_plan_32 (by decide) (by omega) (fun h1 => ?_) (fun h1 => ?_)
    · exact Ru_weak (k M (fun k hk => hz k (by omega)) fx) rfl
    · refine Ru_aload_n (pc := 35) dX12_plan_35 rfl rfl ?_
      refine Ru_getR (pc := 36) 19 dX12_plan_36 fl_X12_78 rfl rfl rfl ?_
      refine Ru_iload_n (pc := 39) dX12_plan_39 rfl rfl ?_
      refine Ru_iconst (pc := 40) (nI 0) dX12_plan_40 rfl ?_
      refine Ru_zast (pc := 41) rfl dX12_plan_41 rfl (by omega) (Or.inl rfl) ?_
      refine Ru_iincN (pc := 42) 1 dX12_plan_42 rfl rfl rfl (by decide) ?_
      refine Ru_goto (pc := 45) 30 dX12_plan_45 (by decide) ?_
      refine Ru_weak (ih (4 - (q + 1)) (by omega) (q + 1) _ rfl (by omega) (fun k hk => ?_) (r_fx.sI rfl fx)) rfl
      rw [r_sI_g]
      by_cases e : k = q
      · subst e
        rw [if_pos ⟨rfl, rfl⟩]
      · rw [if_neg (by omega)]
        exact hz k (by omega)

theorem l_X12_plan1 {Q : Rq} {M0 : Mem} {T : Tx} {x : St9} {R : Pl9 × Ps} (tw : Tw T) (wf : Wf x.1) (wm0 : Y_wm x M0) (k : ∀ M', r_fx [(0, 12), (0, 13), (0, 14), (0, 15), (0, 16), (0, 17), (0, 18), (0, 21), (0, 50)] [5, 19] M0 M' → (∀ q, q < 3121 → M'.1 5 q = M0.1 5 q) → Y_rd T R.2 M' → (R.2.2 = 0 → Y_jb R.1 M') → Ru 8 mt_X12_plan r_z 69 [(0, some (.ref 0))] [] GY M' Q) : ∀ (zw : Nat) (f : Nat) (z : Pl9) (s : Ps) (M : Mem), f = zw → (s.2 = 0 → 801 ≤ f + s.1) → (Y_rd T s M) → (s.2 = 0 → Y_jb z M) → (s.2 = 0 → plP T x f z s = R) → (¬ s.2 = 0 → R.2 = s) → (r_fx [(0, 12), (0, 13), (0, 14), (0, 15), (0, 16), (0, 17), (0, 18), (0, 21), (0, 50)] [5, 19] M0 M) → (∀ q, q < 3121 → M.1 5 q = M0.1 5 q) → Ru 8 mt_X12_plan r_z 48 [(0, some (.ref 0))] [] GY M Q := by
  intro zw
  induction zw using Nat.strongRecOn with
  | ind zw ih =>
    intro f z s M hw hf9 hr hg hR0 hR1 fx lo
    subst hw
    have hb0 := hr.2.2.2.2
    have ht0 := tTok_b (tK T s.1)
    have wm : Y_wm x M := Y_wm_k (fun q hq => lo q (by omega)) (fun q => (fx 6 q rfl).2.1) wm0
    refine Ru_aload_n (pc := 48) dX12_plan_48 rfl rfl ?_
    refine Ru_getI (pc := 49) dX12_plan_49 fl_X12_251 rfl rfl ?_
    refine Ru_top hr.2.2.1 ?_
    refine Ru_if_neN (pc := 52) 69 dX12_plan_52 (by decide) (by omega) (fun h1 => ?_) (fun h1 => ?_)
    · have hz : ¬ s.2 = 0 := by omega
      refine Ru_weak (k M fx lo (by rw [hR1 hz]; exact hr) (fun y => ?_)) rfl
      rw [hR1 hz] at y
      exact absurd y hz
    · refine Ru_aload_n (pc := 55) dX12_plan_55 rfl rfl ?_
      refine Ru_getI (pc := 56) dX12_plan_56 fl_X12_138 rfl rfl ?_
      refine Ru_top hr.2.1.2.2.1 ?_
      refine Ru_if_eqN (pc := 59) 69 dX12_plan_59 (by decide) (by have := tTok_b (tK T s.1); omega) (fun h2 => ?_) (fun h2 => ?_)
      · have hz : s.2 = 0 := by assumption
        have eR : (z, s) = R := (plP_end (tTok_0.mp (by assumption)) f).symm.trans (hR0 hz)
        subst eR
        exact Ru_weak (k M fx lo hr hg) rfl
      · have hz0 : s.2 = 0 := by assumption
        have hK9 : ¬ tK T s.1 = 0 := fun y => absurd (tTok_0.mpr y) (by assumption)
        refine Ru_aload_n (pc := 62) dX12_plan_62 rfl rfl ?_
        refine Ru_cv0 (pc := 63) dX12_plan_63 mv_X12_509 rfl (by decide) (Nat.le_of_ble_eq_true rfl) (c_X12_readJob (s := s) (x := x) (z := z) tw hr wf wm hz0 (hg hz0) (fun M2 gx2 lo2 hr2 hg2 => ?_)) 
        refine Ru_goto (pc := 66) 48 dX12_plan_66 (by decide) ?_
        obtain ⟨f', rfl⟩ : ∃ f', f = f' + 1 := ⟨f - 1, by have := (tK_i tw (i := s.1) hK9).1; have := hf9 hz0; omega⟩
        refine Ru_weak (ih f' (by omega) f' (jbX T x z s) (joS T x z s) M2 rfl (fun y => ?_) hr2 hg2 (fun y => ?_) (fun y => ?_) (fx.tr gx2) (fun q hq => (lo2 q hq).trans (lo q hq))) rfl
        · have := jo_adv hz0 y
          have := hf9 hz0
          omega
        · rw [← hR0 hz0, plP, if_neg hK9, if_neg (fun w => w y)]
        · rw [← hR0 hz0, plP, if_neg hK9, if_pos y]

theorem l_X12_plan2 {Q : Rq} {M0 : Mem} {z1 : Nat} (hz24 : z1 ≤ 24) (h50 : M0.1 0 50 = nI z1) (k : ∀ M', (∀ k, k < 5 * z1 → M'.1 5 (521 + k) = M0.1 5 (3121 + k)) → (∀ j, ¬ (521 ≤ j ∧ j < 521 + 5 * z1) → M'.1 5 j = M0.1 5 j) → r_fx [] [5] M0 M' → Q (some (.int (nI z1))) GY M') : ∀ (zw : Nat) (q : Nat) (M : Mem), 5 * z1 - q = zw → (q ≤ 5 * z1) → (∀ k, k < q → M.1 5 (521 + k) = M0.1 5 (3121 + k)) → (∀ j, ¬ (521 ≤ j ∧ j < 521 + 5 * z1) → M.1 5 j = M0.1 5 j) → (r_fx [] [5] M0 M) → Ru 8 mt_X12_plan r_z 99 [(0, some (.ref 0)), (2, some (.int (nI q)))] [] GY M Q := by
  intro zw
  induction zw using Nat.strongRecOn with
  | ind zw ih =>
    intro q M hw hn hc hz fx
    subst hw
    refine Ru_iload_n (pc := 99) dX12_plan_99 rfl rfl ?_
    refine Ru_iconst (pc := 100) (nI 5) dX12_plan_100 rfl ?_
    refine Ru_aload_n (pc := 101) dX12_plan_101 rfl rfl ?_
    refine Ru_getI (pc := 102) dX12_plan_102 fl_X12_503 rfl rfl ?_
    refine Ru_top ((fx 0 50 rfl).1.trans h50) ?_
    refine Ru_imulN (pc := 105) dX12_plan_105 ?_
    refine Ru_icmp_geN (pc := 106) 135 dX12_plan_106 (by decide) (by omega) (fun h1 => ?_) (fun h1 => ?_)
    · refine Ru_aload_n (pc := 135) dX12_plan_135 rfl rfl ?_
      refine Ru_getI (pc := 136) dX12_plan_136 fl_X12_503 rfl rfl ?_
      refine Ru_top ((fx 0 50 rfl).1.trans h50) ?_
      refine Ru_iret (pc := 139) dX12_plan_139 rfl ⟨Nat.le_refl _, Nat.le_refl _⟩ ?_
      exact k M (fun k hk => hc k (by omega)) hz fx
    · refine Ru_aload_n (pc := 109) dX12_plan_109 rfl rfl ?_
      refine Ru_getR (pc := 110) 5 dX12_plan_110 fl_X12_35 rfl rfl rfl ?_
      refine Ru_sipush (pc := 113) (nI 521) dX12_plan_113 rfl ?_
      refine Ru_iload_n (pc := 116) dX12_plan_116 rfl rfl ?_
      refine Ru_iaddN (pc := 117) dX12_plan_117 ?_
      refine Ru_aload_n (pc := 118) dX12_plan_118 rfl rfl ?_
      refine Ru_getR (pc := 119) 5 dX12_plan_119 fl_X12_35 rfl rfl rfl ?_
      refine Ru_sipush (pc := 122) (nI 3121) dX12_plan_122 rfl ?_
      refine Ru_iload_n (pc := 125) dX12_plan_125 rfl rfl ?_
      refine Ru_iaddN (pc := 126) dX12_plan_126 ?_
      refine Ru_iald (pc := 127) dX12_plan_127 rfl (by omega) ?_
      refine Ru_top (hz (3121 + q) (by omega)) ?_
      refine Ru_iast (pc := 128) rfl dX12_plan_128 rfl (by omega) ?_
      refine Ru_iincN (pc := 129) 1 dX12_plan_129 rfl rfl rfl (by decide) ?_
      refine Ru_goto (pc := 132) 99 dX12_plan_132 (by decide) ?_
      refine Ru_weak (ih (5 * z1 - (q + 1)) (by omega) (q + 1) _ rfl (by omega) (fun k hk => ?_) (fun j hj => (r_sI_n (by omega)).trans (hz j hj)) (r_fx.sI rfl fx)) rfl
      rw [r_sI_g]
      by_cases e : k = q
      · subst e
        rw [if_pos ⟨rfl, rfl⟩]
      · rw [if_neg (by omega)]
        exact hc k (by omega)

theorem c_X12_plan {Q : Rq} {M : Mem} {tp : Nat × (Nat → Int32)} {x : St9} {n : Int32} (hy : Y_tp tp M) (wf : Wf x.1) (wm : Y_wm x M) (k5 : n.toInt < 0 ∨ (tp.1 : Int) < n.toInt ∨ ((300 : Nat) : Int) < n.toInt → ∀ M', r_fx [(0, 0), (0, 1)] [] M M' → M'.1 0 0 = nI 5 → Q (some (.int (-1))) GY M') (k10 : ∀ n', n = nI n' → n' ≤ tp.1 → n' ≤ 300 → ¬ (plR (txT tp n') x).2.2 = 0 → ∀ M', r_fx [(0, 0), (0, 1), (0, 8), (0, 9), (0, 10), (0, 11), (0, 12), (0, 13), (0, 14), (0, 15), (0, 16), (0, 17), (0, 18), (0, 21), (0, 50)] [5, 19] M M' → (∀ j, j < 3121 → M'.1 5 j = M.1 5 j) → M'.1 0 8 = nI 0 → M'.1 0 0 = nI 10 → M'.1 0 10 = nI (plR (txT tp n') x).2.2 → M'.1 0 11 = nI (tA (txT tp n') (plR (txT tp n') x).2.1) → Q (some (.int (-1))) GY M') (k0 : ∀ n', n = nI n' → n' ≤ tp.1 → n' ≤ 300 → (plR (txT tp n') x).2.2 = 0 → ∀ M', r_fx [(0, 0), (0, 1), (0, 8), (0, 9), (0, 10), (0, 11), (0, 12), (0, 13), (0, 14), (0, 15), (0, 16), (0, 17), (0, 18), (0, 21), (0, 50)] [5, 19] M M' → (∀ j, j < 3121 → ¬ j = 4 → ¬ j = 520 → ¬ (521 ≤ j ∧ j < 521 + 5 * (plR (txT tp n') x).1.1) → M'.1 5 j = M.1 5 j) → M'.1 5 4 = nI (plR (txT tp n') x).1.1 → M'.1 5 520 = nI 1 → Y_jd (plR (txT tp n') x).1 M' → M'.1 0 8 = nI 0 → M'.1 0 0 = nI 0 → M'.1 0 10 = nI 0 → M'.1 0 11 = -1 → Q (some (.int (nI (plR (txT tp n') x).1.1))) GY M') : Ca 8 mt_X12_plan 0 0 [.ref 0, .int n] GY M Q := by
  refine Ca_of rfl (Nat.le_of_ble_eq_true rfl) ?_
  refine Ru_aload_n (pc := 0) dX12_plan_0 rfl rfl ?_
  refine Ru_iconst (pc := 1) (nI 0) dX12_plan_1 rfl ?_
  refine Ru_putI (pc := 2) rfl dX12_plan_2 fl_X12_87 rfl ?_
  refine Ru_aload_n (pc := 5) dX12_plan_5 rfl rfl ?_
  refine Ru_iconst (pc := 6) (nI 0) dX12_plan_6 rfl ?_
  refine Ru_putI (pc := 7) rfl dX12_plan_7 fl_X12_90 rfl ?_
  have fx1 : r_fx [(0, 0), (0, 1)] [] M (r_sI (r_sI M 0 1 (nI 0)) 0 0 (nI 0)) := r_fx.sI rfl (r_fx.sI rfl r_fx.rf)
  have hy1 : Y_tp tp (r_sI (r_sI M 0 1 (nI 0)) 0 0 (nI 0)) := ⟨((r_sI_n (by decide)).trans ((r_sI_n (by decide)).trans hy.1)), hy.2.1, fun k hk => (r_sI_n (by omega)).trans ((r_sI_n (by omega)).trans (hy.2.2 k hk))⟩
  have hst1 : (r_sI (r_sI M 0 1 (nI 0)) 0 0 (nI 0)).1 0 0 = nI 0 := r_sI_s
  refine Ru_aload_n (pc := 10) dX12_plan_10 rfl rfl ?_
  refine Ru_iload_n (pc := 11) dX12_plan_11 rfl rfl ?_
  refine Ru_sipush (pc := 12) (nI 300) dX12_plan_12 rfl ?_
  refine Ru_cv2 (pc := 15) dX12_plan_15 mv_X12_300 rfl (by decide) (Nat.le_of_ble_eq_true rfl) (c_X12_opens (tp := tp) (most := 300) hy1 (by decide) (fun hn5 M5 gx5 h05 => ?_) (fun n' en hn1 hn2 M2 gx2 h82 hr2 => ?_)) 
  · refine Ru_if_neN (pc := 18) 23 dX12_plan_18 (by decide) (by omega) (fun h1 => ?_) (fun h1 => ?_)
    · exfalso
      omega
    · refine Ru_iconst (pc := 21) (-1) dX12_plan_21 rfl ?_
      refine Ru_iret (pc := 22) dX12_plan_22 rfl ⟨Nat.le_refl _, Nat.le_refl _⟩ ?_
      exact k5 hn5 M5 (fx1.tr (gx5.mono rfl)) h05
  subst en
  have tw := txT_w tp (show n' ≤ 800 by omega)
  have fx2 : r_fx [(0, 0), (0, 1), (0, 8), (0, 9), (0, 10), (0, 11), (0, 12), (0, 13), (0, 14), (0, 15), (0, 16), (0, 17), (0, 18), (0, 21), (0, 50)] [5, 19] M M2 := (fx1.mono rfl).tr (gx2.mono rfl)
  have h02 : M2.1 0 0 = nI 0 := (gx2 0 0 rfl).1.trans hst1
  refine Ru_if_neN (pc := 18) 23 dX12_plan_18 (by decide) (by omega) (fun h1 => ?_) (fun h1 => ?_)
  · refine Ru_aload_n (pc := 23) dX12_plan_23 rfl rfl ?_
    refine Ru_iconst (pc := 24) (nI 0) dX12_plan_24 rfl ?_
    refine Ru_putI (pc := 25) rfl dX12_plan_25 fl_X12_503 rfl ?_
    refine Ru_iconst (pc := 28) (nI 0) dX12_plan_28 rfl ?_
    refine Ru_istore_n (pc := 29) dX12_plan_29 rfl rfl (by decide) ?_
    have fxa : r_fx [(0, 50)] [] M2 (r_sI M2 0 50 (nI 0)) := r_fx.sI rfl r_fx.rf
    refine Ru_weak (l_X12_plan0 (n' := n') (fun M3 hz3 gx3 => ?_) 4 0 (r_sI M2 0 50 (nI 0)) rfl (Nat.zero_le _) (fun k hk => absurd hk (Nat.not_lt_zero _)) r_fx.rf) rfl
    have fx3 : r_fx [(0, 0), (0, 1), (0, 8), (0, 9), (0, 10), (0, 11), (0, 12), (0, 13), (0, 14), (0, 15), (0, 16), (0, 17), (0, 18), (0, 21), (0, 50)] [5, 19] M M3 := fx2.tr ((fxa.mono rfl).tr (gx3.mono rfl))
    have hr3 : Y_rd (txT tp n') (0, 0) M3 := (Y_rd_dp _ _).kp gx3 rfl ((Y_rd_dp _ _).kp fxa rfl hr2)
    have h503 : M3.1 0 50 = nI 0 := (gx3 0 50 rfl).1.trans r_sI_s
    have hj3 : Y_jb (0, fun _ => 0) M3 := ⟨h503, Nat.zero_le _, fun j hj => absurd hj (Nat.not_lt_zero _), fun h l1 l3 => (hz3 h (by omega)).trans (r_b_f (pTold_n (fun j hj => absurd hj (Nat.not_lt_zero _))))⟩
    have c3 : ∀ j, M3.1 5 j = M.1 5 j := fun j => (gx3 5 j rfl).1.trans ((fxa 5 j rfl).1.trans ((gx2 5 j rfl).1.trans (fx1 5 j rfl).1))
    have w3 : ∀ j, M3.2.1 6 j = M.2.1 6 j := fun j => (gx3 6 j rfl).2.1.trans ((fxa 6 j rfl).2.1.trans ((gx2 6 j rfl).2.1.trans (fx1 6 j rfl).2.1))
    have wm3 : Y_wm x M3 := Y_wm_k (fun q _ => c3 q) w3 wm
    refine Ru_weak (l_X12_plan1 (T := (txT tp n')) (R := (plR (txT tp n') x)) tw wf wm3 (fun M4 gx4 lo4 hr4 hg4 => ?_) 801 801 (0, fun _ => 0) (0, 0) M3 rfl (fun _ => Nat.le_refl _) hr3 (fun _ => hj3) (fun _ => rfl) (fun y => absurd rfl y) r_fx.rf (fun _ _ => rfl)) rfl
    have fx4 : r_fx [(0, 0), (0, 1), (0, 8), (0, 9), (0, 10), (0, 11), (0, 12), (0, 13), (0, 14), (0, 15), (0, 16), (0, 17), (0, 18), (0, 21), (0, 50)] [5, 19] M M4 := fx3.tr (gx4.mono rfl)
    have h04 : M4.1 0 0 = nI 0 := (gx4 0 0 rfl).1.trans ((gx3 0 0 rfl).1.trans ((fxa 0 0 rfl).1.trans h02))
    have h84 : M4.1 0 8 = nI 0 := (gx4 0 8 rfl).1.trans ((gx3 0 8 rfl).1.trans ((fxa 0 8 rfl).1.trans h82))
    have c4 : ∀ j, j < 3121 → M4.1 5 j = M.1 5 j := fun j hj => (lo4 j hj).trans (c3 j)
    refine Ru_aload_n (pc := 69) dX12_plan_69 rfl rfl ?_
    refine Ru_cv0 (pc := 70) dX12_plan_70 mv_X12_319 rfl (by decide) (Nat.le_of_ble_eq_true rfl) (c_X12_isWell tw hr4 (fun hb9 M5 gx5 h105 h115 => ?_) (fun hb9 M5 gx5 h105 h115 h05 => ?_)) 
    rotate_left
    · refine Ru_if_neN (pc := 73) 78 dX12_plan_73 (by decide) (by omega) (fun h1 => ?_) (fun h1 => ?_)
      · exfalso
        omega
      · refine Ru_iconst (pc := 76) (-1) dX12_plan_76 rfl ?_
        refine Ru_iret (pc := 77) dX12_plan_77 rfl ⟨Nat.le_refl _, Nat.le_refl _⟩ ?_
        exact k10 n' rfl hn1 hn2 hb9 M5 (fx4.tr (gx5.mono rfl)) (fun j hj => (gx5 5 j rfl).1.trans (c4 j hj)) ((gx5 0 8 rfl).1.trans h84) h05 h105 h115
    have hg := hg4 hb9
    have hz24 := hg.2.1
    have fx5 : r_fx [(0, 0), (0, 1), (0, 8), (0, 9), (0, 10), (0, 11), (0, 12), (0, 13), (0, 14), (0, 15), (0, 16), (0, 17), (0, 18), (0, 21), (0, 50)] [5, 19] M M5 := fx4.tr (gx5.mono rfl)
    refine Ru_if_neN (pc := 73) 78 dX12_plan_73 (by decide) (by omega) (fun h1 => ?_) (fun h1 => ?_)
    · refine Ru_aload_n (pc := 78) dX12_plan_78 rfl rfl ?_
      refine Ru_getR (pc := 79) 5 dX12_plan_79 fl_X12_35 rfl rfl rfl ?_
      refine Ru_iconst (pc := 82) (nI 4) dX12_plan_82 rfl ?_
      refine Ru_aload_n (pc := 83) dX12_plan_83 rfl rfl ?_
      refine Ru_getI (pc := 84) dX12_plan_84 fl_X12_503 rfl rfl ?_
      refine Ru_top ((gx5 0 50 rfl).1.trans hg.1) ?_
      refine Ru_iast (pc := 87) rfl dX12_plan_87 rfl (by omega) ?_
      refine Ru_aload_n (pc := 88) dX12_plan_88 rfl rfl ?_
      refine Ru_getR (pc := 89) 5 dX12_plan_89 fl_X12_35 rfl rfl rfl ?_
      refine Ru_sipush (pc := 92) (nI 520) dX12_plan_92 rfl ?_
      refine Ru_iconst (pc := 95) (nI 1) dX12_plan_95 rfl ?_
      refine Ru_iast (pc := 96) rfl dX12_plan_96 rfl (by omega) ?_
      refine Ru_iconst (pc := 97) (nI 0) dX12_plan_97 rfl ?_
      refine Ru_istore_n (pc := 98) dX12_plan_98 rfl rfl (by decide) ?_
      have fx6 : r_fx [(0, 0), (0, 1), (0, 8), (0, 9), (0, 10), (0, 11), (0, 12), (0, 13), (0, 14), (0, 15), (0, 16), (0, 17), (0, 18), (0, 21), (0, 50)] [5, 19] M (r_sI (r_sI M5 5 4 (nI (plR (txT tp n') x).1.1)) 5 520 (nI 1)) := r_fx.sI rfl (r_fx.sI rfl fx5)
      have h506 : (r_sI (r_sI M5 5 4 (nI (plR (txT tp n') x).1.1)) 5 520 (nI 1)).1 0 50 = nI (plR (txT tp n') x).1.1 := (r_sI_n (by decide)).trans ((r_sI_n (by decide)).trans ((gx5 0 50 rfl).1.trans hg.1))
      have h06 : ∀ k, (r_sI (r_sI M5 5 4 (nI (plR (txT tp n') x).1.1)) 5 520 (nI 1)).1 0 k = M5.1 0 k := fun k => (r_sI_n (by omega)).trans (r_sI_n (by omega))
      have h56 : ∀ k, ¬ k = 4 → ¬ k = 520 → (r_sI (r_sI M5 5 4 (nI (plR (txT tp n') x).1.1)) 5 520 (nI 1)).1 5 k = M4.1 5 k := fun k e1 e2 => (r_sI_n (by omega)).trans ((r_sI_n (by omega)).trans (gx5 5 k rfl).1)
      have h64 : (r_sI (r_sI M5 5 4 (nI (plR (txT tp n') x).1.1)) 5 520 (nI 1)).1 5 4 = nI (plR (txT tp n') x).1.1 := (r_sI_n (by decide)).trans r_sI_s
      have h65 : (r_sI (r_sI M5 5 4 (nI (plR (txT tp n') x).1.1)) 5 520 (nI 1)).1 5 520 = nI 1 := r_sI_s
      refine Ru_weak (l_X12_plan2 (z1 := (plR (txT tp n') x).1.1) hz24 h506 (fun M7 hc7 hz7 gx7 => ?_) (5 * (plR (txT tp n') x).1.1 - 0) 0 (r_sI (r_sI M5 5 4 (nI (plR (txT tp n') x).1.1)) 5 520 (nI 1)) rfl (Nat.zero_le _) (fun k hk => absurd hk (Nat.not_lt_zero _)) (fun _ _ => rfl) r_fx.rf) rfl
      refine k0 n' rfl hn1 hn2 hb9 M7 (fx6.tr (gx7.mono rfl)) (fun j h1 h2 h3 h4 => (hz7 j h4).trans ((h56 j h2 h3).trans (c4 j h1))) ((hz7 4 (by omega)).trans h64) ((hz7 520 (by omega)).trans h65) (fun j hj => ?_) ?_ ?_ ?_ ?_
      · obtain ⟨q1, q2, q3, q4⟩ := hg.2.2.1 j hj
        have g : ∀ i, i < 5 → M7.1 5 (521 + 5 * j + i) = M4.1 5 (3121 + 5 * j + i) := fun i hi => by
          have e := (hc7 (5 * j + i) (by omega)).trans (h56 _ (by omega) (by omega))
          rw [show 521 + (5 * j + i) = 521 + 5 * j + i by omega, show 3121 + (5 * j + i) = 3121 + 5 * j + i by omega] at e
          exact e
        exact ⟨(g 0 (by decide)).trans q1, fun y => (g 1 (by decide)).trans (q2 y), (g 2 (by decide)).trans q3, (g 3 (by decide)).trans q4⟩
      · exact (gx7 0 8 rfl).1.trans ((h06 8).trans ((gx5 0 8 rfl).1.trans h84))
      · exact (gx7 0 0 rfl).1.trans ((h06 0).trans ((gx5 0 0 rfl).1.trans h04))
      · exact (gx7 0 10 rfl).1.trans ((h06 10).trans h105)
      · exact (gx7 0 11 rfl).1.trans ((h06 11).trans h115)
    · exfalso
      omega
  · exfalso
    omega
