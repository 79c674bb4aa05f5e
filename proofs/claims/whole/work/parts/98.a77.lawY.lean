-- READING: the reference's law
theorem lcp9 {y : Lq} {A0 A1 A2 : Nat → Int32} (h0 : ∀ j, ((21 ≤ j ∧ j < 29) ∨ (139 ≤ j ∧ j < 155 + 2 * y.1)) → A0 (2600 + j) = nI (y.2.2 j)) (c1 : ∀ k, k < 8 → A1 (21 + k) = A0 (2621 + k) ∧ A1 (139 + k) = A0 (2739 + k) ∧ A1 (147 + k) = A0 (2747 + k)) (z1 : ∀ j, ¬ ((21 ≤ j ∧ j < 29) ∨ (139 ≤ j ∧ j < 155)) → A1 j = A0 j) (c2 : ∀ k, k < 2 * y.1 → A2 (155 + k) = A1 (2755 + k)) (z2 : ∀ j, ¬ (155 ≤ j ∧ j < 155 + 2 * y.1) → A2 j = A1 j) (hl : y.1 ≤ 160) : (∀ j, ((21 ≤ j ∧ j < 29) ∨ (139 ≤ j ∧ j < 155 + 2 * y.1)) → A2 j = nI (y.2.2 j)) ∧ (∀ j, j < 2600 → ¬ ((21 ≤ j ∧ j < 29) ∨ (139 ≤ j ∧ j < 155 + 2 * y.1)) → A2 j = A0 j) ∧ ∀ j, 139 ≤ j → j < 155 → A2 (2600 + j) = nI (y.2.2 j) := by
  refine ⟨fun j hj => ?_, fun j h1 h2 => (z2 j (by omega)).trans (z1 j (by omega)), fun j h1 h2 => ?_⟩
  · by_cases e1 : j < 29
    · have := (c1 (j - 21) (by omega)).1
      rw [show 21 + (j - 21) = j by omega, show 2621 + (j - 21) = 2600 + j by omega] at this
      exact (z2 j (by omega)).trans (this.trans (h0 j hj))
    · by_cases e2 : j < 147
      · have := (c1 (j - 139) (by omega)).2.1
        rw [show 139 + (j - 139) = j by omega, show 2739 + (j - 139) = 2600 + j by omega] at this
        exact (z2 j (by omega)).trans (this.trans (h0 j hj))
      · by_cases e3 : j < 155
        · have := (c1 (j - 147) (by omega)).2.2
          rw [show 147 + (j - 147) = j by omega, show 2747 + (j - 147) = 2600 + j by omega] at this
          exact (z2 j (by omega)).trans (this.trans (h0 j hj))
        · have := c2 (j - 155) (by omega)
          rw [show 155 + (j - 155) = j by omega, show 2755 + (j - 155) = 2600 + j by omega] at this
          exact this.trans ((z1 _ (by omega)).trans (h0 j hj))
  · exact (z2 _ (by omega)).trans ((z1 _ (by omega)).trans (h0 j (by omega)))

theorem l_X12_law0 {Q : Rq} {M0 : Mem} {n' : Nat} (k : ∀ M', (∀ k, k < 8 → M'.1 5 (2621 + k) = nI 0) → (∀ j, ¬ (2621 ≤ j ∧ j < 2629) → M'.1 5 j = M0.1 5 j) → r_fx [] [5] M0 M' → Ru 30 mt_X12_law r_z 48 [(0, some (.ref 0))] [] GY M' Q) : ∀ (zw : Nat) (q : Nat) (M : Mem), 8 - q = zw → (q ≤ 8) → (∀ k, k < q → M.1 5 (2621 + k) = nI 0) → (∀ j, ¬ (2621 ≤ j ∧ j < 2629) → M.1 5 j = M0.1 5 j) → (r_fx [] [5] M0 M) → Ru 30 mt_X12_law r_z 25 [(0, some (.ref 0)), (1, some (.int (nI n'))), (2, some (.int (nI q)))] [] GY M Q := by
  intro zw
  induction zw using Nat.strongRecOn with
  | ind zw ih =>
    intro q M hw hn hz hk fx
    subst hw
    refine Ru_iload_n (pc := 25) dX12_law_25 rfl rfl ?_
    refine Ru_bipush (pc := 26) (nI 8) dX12_law_26 rfl ?_
    refine Ru_icmp_geN (pc := 28) 48 dX12_law_28 (by decide) (by omega) (fun h1 => ?_) (fun h1 => ?_)
    · exact Ru_weak (k M (fun k hk => hz k (by omega)) hk fx) rfl
    · refine Ru_aload_n (pc := 31) dX12_law_31 rfl rfl ?_
      refine Ru_getR (pc := 32) 5 dX12_law_32 fl_X12_35 rfl rfl rfl ?_
      refine Ru_sipush (pc := 35) (nI 2621) dX12_law_35 rfl ?_
      refine Ru_iload_n (pc := 38) dX12_law_38 rfl rfl ?_
      refine Ru_iaddN (pc := 39) dX12_law_39 ?_
      refine Ru_iconst (pc := 40) (nI 0) dX12_law_40 rfl ?_
      refine Ru_iast (pc := 41) rfl dX12_law_41 rfl (by omega) ?_
      refine Ru_iincN (pc := 42) 1 dX12_law_42 rfl rfl rfl (by decide) ?_
      refine Ru_goto (pc := 45) 25 dX12_law_45 (by decide) ?_
      refine Ru_weak (ih (8 - (q + 1)) (by omega) (q + 1) _ rfl (by omega) (fun k hk => ?_) (fun j hj => (r_sI_n (by omega)).trans (hk j hj)) (r_fx.sI rfl fx)) rfl
      rw [r_sI_g]
      by_cases e : k = q
      · subst e
        rw [if_pos ⟨rfl, rfl⟩]
      · rw [if_neg (by omega)]
        exact hz k (by omega)

theorem l_X12_law1 {Q : Rq} {M0 : Mem} {T : Tx} {x : St9} {R : Nat × Lq × Ps} (tw : Tw T) (hT3 : T.2 ≤ 300) (wf : Wf x.1) (wm0 : Y_wm x M0) (k : ∀ M', r_fx [(0, 12), (0, 13), (0, 14), (0, 15), (0, 16), (0, 17), (0, 18), (0, 21), (0, 19), (0, 20)] [5] M0 M' → (∀ q, q < 2600 → M'.1 5 q = M0.1 5 q) → Y_rd T R.2.2 M' → Y_lq R.2.1 M' → Ru 30 mt_X12_law r_z 195 [(0, some (.ref 0)), (2, some (.int (nI R.1)))] [] GY M' Q) : ∀ (zw : Nat) (f : Nat) (c : Nat) (y : Lq) (s : Ps) (M : Mem), f = zw → (s.2 = 0 → 801 ≤ f + s.1) → (Y_rd T s M) → (Y_lq y M) → (s.2 = 0 → laV x y ∧ 2 * y.1 ≤ tp T s.1) → (s.2 = 0 → laP T x f c y s = R) → (¬ s.2 = 0 → R = (c, y, s)) → (r_fx [(0, 12), (0, 13), (0, 14), (0, 15), (0, 16), (0, 17), (0, 18), (0, 21), (0, 19), (0, 20)] [5] M0 M) → (∀ q, q < 2600 → M.1 5 q = M0.1 5 q) → Ru 30 mt_X12_law r_z 60 [(0, some (.ref 0)), (2, some (.int (nI c)))] [] GY M Q := by
  intro zw
  induction zw using Nat.strongRecOn with
  | ind zw ih =>
    intro f c y s M hw hf9 hr hy hB hR0 hR1 gx lo
    subst hw
    have hb := hr.2.2.2.2
    have ht0 := tTok_b (tK T s.1)
    have hx := wf.1
    have fx : r_fx [(0, 12), (0, 13), (0, 14), (0, 15), (0, 16), (0, 17), (0, 18), (0, 21), (0, 19), (0, 20)] [5] M M := r_fx.rf
    have fy : ∀ q, q < 2621 → M.1 5 q = M.1 5 q := fun _ _ => rfl
    have wm : Y_wm x M := Y_wm_k (fun q hq => lo q (by omega)) (fun q => (gx 6 q rfl).2.1) wm0
    refine Ru_aload_n (pc := 60) dX12_law_60 rfl rfl ?_
    refine Ru_getI (pc := 61) dX12_law_61 fl_X12_251 rfl rfl ?_
    refine Ru_top hr.2.2.1 ?_
    refine Ru_if_neN (pc := 64) 195 dX12_law_64 (by decide) (by omega) (fun h1 => ?_) (fun h1 => ?_)
    · have hz : ¬ s.2 = 0 := by omega
      have eR := hR1 hz
      subst eR
      exact Ru_weak (k M gx lo hr hy) rfl
    · refine Ru_aload_n (pc := 67) dX12_law_67 rfl rfl ?_
      refine Ru_getI (pc := 68) dX12_law_68 fl_X12_138 rfl rfl ?_
      refine Ru_top hr.2.1.2.2.1 ?_
      refine Ru_if_eqN (pc := 71) 195 dX12_law_71 (by decide) (by have := tTok_b (tK T s.1); omega) (fun h2 => ?_) (fun h2 => ?_)
      · have hz : s.2 = 0 := by assumption
        have eR : (c, y, s) = R := (laP_end (tTok_0.mp (by assumption)) f).symm.trans (hR0 hz)
        subst eR
        exact Ru_weak (k M gx lo hr hy) rfl
      · have hz0 : s.2 = 0 := by assumption
        have hK9 : ¬ tK T s.1 = 0 := fun z => absurd (tTok_0.mpr z) (by assumption)
        have hV := (hB hz0).1
        have hB1 := (hB hz0).2
        refine Ru_aload_n (pc := 74) dX12_law_74 rfl rfl ?_
        refine Ru_iconst (pc := 75) (nI 0) dX12_law_75 rfl ?_
        refine Ru_iconst (pc := 76) (nI 0) dX12_law_76 rfl ?_
        refine Ru_iconst (pc := 77) (nI 0) dX12_law_77 rfl ?_
        refine Ru_cv3 (pc := 78) dX12_law_78 mv_X12_287 rfl (by omega) (Nat.le_of_ble_eq_true rfl) (c_X12_readOld (s := s) (W := x.2) (b := 0) (th := 0) (f := 0) (w0 := 0) (n := (x.1 0)) tw hr (by omega) (by decide) (by omega) wm.1.2.2 (fun k hk => by rw [show 26 * 0 + 0 + k = k by omega]; have := wm.2.1 k hk; rw [Nat.zero_add] at this; exact this) (fun M2 v2 gx2 hr2 hv2 => ?_)) 
        have fx2 : r_fx [(0, 12), (0, 13), (0, 14), (0, 15), (0, 16), (0, 17), (0, 18), (0, 21), (0, 19), (0, 20)] [5] M M2 := fx.tr (gx2.mono rfl)
        have fy2 : ∀ q, q < 2621 → M2.1 5 q = M.1 5 q := fun q hq => (gx2 5 q rfl).1.trans (fy q hq)
        have wm2 : Y_wm x M2 := Y_wm_k (fun q _ => (gx2 5 q rfl).1) (fun q => (gx2 6 q rfl).2.1) wm
        have hy2 : Y_lq y M2 := (Y_lq_dp _).kp gx2 rfl hy
        have hb2 := hr2.2.2.2.2
        refine Ru_istore_n (pc := 81) dX12_law_81 rfl rfl (by decide) ?_
        refine Ru_aload_n (pc := 82) dX12_law_82 rfl rfl ?_
        refine Ru_getI (pc := 83) dX12_law_83 fl_X12_251 rfl rfl ?_
        refine Ru_top hr2.2.2.1 ?_
        refine Ru_if_neN (pc := 86) 112 dX12_law_86 (by decide) (by omega) (fun h3 => ?_) (fun h3 => ?_)
        · refine Ru_aload_n (pc := 112) dX12_law_112 rfl rfl ?_
          refine Ru_iconst (pc := 113) (nI 1) dX12_law_113 rfl ?_
          refine Ru_cv1 (pc := 114) dX12_law_114 mv_X12_290 rfl (by omega) (Nat.le_of_ble_eq_true rfl) (c_X12_must (s := (sOld T x.2 0 (x.1 0) s)) (b := true) tw hr2 (fun M3 gx3 (hr3 : Y_rd T (sNext (sOld T x.2 0 (x.1 0) s)) M3) => ?_)) 
          have fx3 : r_fx [(0, 12), (0, 13), (0, 14), (0, 15), (0, 16), (0, 17), (0, 18), (0, 21), (0, 19), (0, 20)] [5] M M3 := fx2.tr (gx3.mono rfl)
          have fy3 : ∀ q, q < 2621 → M3.1 5 q = M.1 5 q := fun q hq => (gx3 5 q rfl).1.trans (fy2 q hq)
          have wm3 : Y_wm x M3 := Y_wm_k (fun q _ => (gx3 5 q rfl).1) (fun q => (gx3 6 q rfl).2.1) wm2
          have hy3 : Y_lq y M3 := (Y_lq_dp _).kp gx3 rfl hy2
          have hb3 := hr3.2.2.2.2
          refine Ru_aload_n (pc := 117) dX12_law_117 rfl rfl ?_
          refine Ru_aload_n (pc := 118) dX12_law_118 rfl rfl ?_
          refine Ru_cv0 (pc := 119) dX12_law_119 mv_X12_218 rfl (by omega) (Nat.le_of_ble_eq_true rfl) (c_X12_isStays (i := (sNext (sOld T x.2 0 (x.1 0) s)).1) tw hr3.2.1 ?_) 
          refine Ru_cv1 (pc := 122) dX12_law_122 mv_X12_290 rfl (by omega) (Nat.le_of_ble_eq_true rfl) (c_X12_must (s := (sNext (sOld T x.2 0 (x.1 0) s))) (b := (decide (tK T (sNext (sOld T x.2 0 (x.1 0) s)).1 = 145))) tw hr3 (fun M4 gx4 (hr4 : Y_rd T (sMust T (decide (tK T (sNext (sOld T x.2 0 (x.1 0) s)).1 = 145)) (sNext (sOld T x.2 0 (x.1 0) s))) M4) => ?_)) 
          have fx4 : r_fx [(0, 12), (0, 13), (0, 14), (0, 15), (0, 16), (0, 17), (0, 18), (0, 21), (0, 19), (0, 20)] [5] M M4 := fx3.tr (gx4.mono rfl)
          have fy4 : ∀ q, q < 2621 → M4.1 5 q = M.1 5 q := fun q hq => (gx4 5 q rfl).1.trans (fy3 q hq)
          have wm4 : Y_wm x M4 := Y_wm_k (fun q _ => (gx4 5 q rfl).1) (fun q => (gx4 6 q rfl).2.1) wm3
          have hy4 : Y_lq y M4 := (Y_lq_dp _).kp gx4 rfl hy3
          have hb4 := hr4.2.2.2.2
          have eX : (if (sOld T x.2 0 (x.1 0) s).2 = 0 ∧ y.2.2 (21 + (laK T x s)) = 1 then sFail 5 (sOld T x.2 0 (x.1 0) s) else (sOld T x.2 0 (x.1 0) s)) = (sOld T x.2 0 (x.1 0) s) := if_neg (fun q => absurd q.1 (by assumption))
          have hnH : ¬ (laH T x y s).2 = 0 := fun q => absurd (show (sOld T x.2 0 (x.1 0) s).2 = 0 by rw [(laH_ok q).2.2.2.2.2.2]; exact (laH_ok q).2.1) (by assumption)
          have eH : laH T x y s = (sMust T (decide (tK T (sNext (sOld T x.2 0 (x.1 0) s)).1 = 145)) (sNext (sOld T x.2 0 (x.1 0) s))) := by
            unfold laH
            rw [eX]
          have hr4 : Y_rd T (laH T x y s) M4 := by
            rw [eH]
            exact hr4
          have hb4 := hr4.2.2.2.2
          refine Ru_aload_n (pc := 125) dX12_law_125 rfl rfl ?_
          refine Ru_getI (pc := 126) dX12_law_126 fl_X12_251 rfl rfl ?_
          refine Ru_top hr4.2.2.1 ?_
          refine Ru_if_leN (pc := 129) 135 dX12_law_129 (by decide) (by omega) (fun h4 => ?_) (fun h4 => ?_)
          · exfalso
            omega
          · have hnX : ¬ (laH T x y s).2 = 0 := by omega
            refine Ru_goto (pc := 132) 195 dX12_law_132 (by decide) ?_
            have eR : (c, y, laH T x y s) = R := by
              have hf := hf9 hz0
              have h8 := (tK_i tw (i := s.1) hK9).1
              rw [← hR0 hz0, show f = (f - 1) + 1 by omega, laP, if_neg hK9, if_pos hnX]
            subst eR
            exact Ru_weak (k M4 (gx.tr fx4) (fun q hq => (fy4 q (by omega)).trans (lo q hq)) hr4 hy4) rfl
        · have hok := sOld_ok (show (sOld T x.2 0 (x.1 0) s).2 = 0 by assumption)
          have hv9 : v2 = nI (laK T x s) := hv2 (by assumption)
          subst hv9
          have hr2 : Y_rd T s M2 := by
            rw [hok.1] at hr2
            exact hr2
          have hk9 := laK_lt hok.2.2.2
          refine Ru_aload_n (pc := 89) dX12_law_89 rfl rfl ?_
          refine Ru_getR (pc := 90) 5 dX12_law_90 fl_X12_35 rfl rfl rfl ?_
          refine Ru_sipush (pc := 93) (nI 2621) dX12_law_93 rfl ?_
          refine Ru_iload_n (pc := 96) dX12_law_96 rfl rfl ?_
          refine Ru_iaddN (pc := 97) dX12_law_97 ?_
          refine Ru_iald (pc := 98) dX12_law_98 rfl (by omega) ?_
          refine Ru_top (show M2.1 5 (2621 + (laK T x s)) = nI (y.2.2 (21 + (laK T x s))) by rw [show 2621 + (laK T x s) = 2600 + (21 + (laK T x s)) by omega]; exact hy2.2.2 _ (by omega)) ?_
          refine Ru_iconst (pc := 99) (nI 1) dX12_law_99 rfl ?_
          refine Ru_icmp_neN (pc := 100) 112 dX12_law_100 (by decide) (by have := (hV.2.1 (laK T x s) (by omega)).1; omega) (fun h5 => ?_) (fun h5 => ?_)
          · have he9 := h5
            refine Ru_aload_n (pc := 112) dX12_law_112 rfl rfl ?_
            refine Ru_iconst (pc := 113) (nI 1) dX12_law_113 rfl ?_
            refine Ru_cv1 (pc := 114) dX12_law_114 mv_X12_290 rfl (by omega) (Nat.le_of_ble_eq_true rfl) (c_X12_must (s := s) (b := true) tw hr2 (fun M3 gx3 (hr3 : Y_rd T (sNext s) M3) => ?_)) 
            have fx3 : r_fx [(0, 12), (0, 13), (0, 14), (0, 15), (0, 16), (0, 17), (0, 18), (0, 21), (0, 19), (0, 20)] [5] M M3 := fx2.tr (gx3.mono rfl)
            have fy3 : ∀ q, q < 2621 → M3.1 5 q = M.1 5 q := fun q hq => (gx3 5 q rfl).1.trans (fy2 q hq)
            have wm3 : Y_wm x M3 := Y_wm_k (fun q _ => (gx3 5 q rfl).1) (fun q => (gx3 6 q rfl).2.1) wm2
            have hy3 : Y_lq y M3 := (Y_lq_dp _).kp gx3 rfl hy2
            have hb3 := hr3.2.2.2.2
            refine Ru_aload_n (pc := 117) dX12_law_117 rfl rfl ?_
            refine Ru_aload_n (pc := 118) dX12_law_118 rfl rfl ?_
            refine Ru_cv0 (pc := 119) dX12_law_119 mv_X12_218 rfl (by omega) (Nat.le_of_ble_eq_true rfl) (c_X12_isStays (i := (sNext s).1) tw hr3.2.1 ?_) 
            refine Ru_cv1 (pc := 122) dX12_law_122 mv_X12_290 rfl (by omega) (Nat.le_of_ble_eq_true rfl) (c_X12_must (s := (sNext s)) (b := (decide (tK T (sNext s).1 = 145))) tw hr3 (fun M4 gx4 (hr4 : Y_rd T (sMust T (decide (tK T (sNext s).1 = 145)) (sNext s)) M4) => ?_)) 
            have fx4 : r_fx [(0, 12), (0, 13), (0, 14), (0, 15), (0, 16), (0, 17), (0, 18), (0, 21), (0, 19), (0, 20)] [5] M M4 := fx3.tr (gx4.mono rfl)
            have fy4 : ∀ q, q < 2621 → M4.1 5 q = M.1 5 q := fun q hq => (gx4 5 q rfl).1.trans (fy3 q hq)
            have wm4 : Y_wm x M4 := Y_wm_k (fun q _ => (gx4 5 q rfl).1) (fun q => (gx4 6 q rfl).2.1) wm3
            have hy4 : Y_lq y M4 := (Y_lq_dp _).kp gx4 rfl hy3
            have hb4 := hr4.2.2.2.2
            have eX : (if (sOld T x.2 0 (x.1 0) s).2 = 0 ∧ y.2.2 (21 + (laK T x s)) = 1 then sFail 5 (sOld T x.2 0 (x.1 0) s) else (sOld T x.2 0 (x.1 0) s)) = s := (if_neg (fun q => he9 q.2)).trans hok.1
            have eH : laH T x y s = (sMust T (decide (tK T (sNext s).1 = 145)) (sNext s)) := by
              unfold laH
              rw [eX]
            have hr4 : Y_rd T (laH T x y s) M4 := by
              rw [eH]
              exact hr4
            have hb4 := hr4.2.2.2.2
            refine Ru_aload_n (pc := 125) dX12_law_125 rfl rfl ?_
            refine Ru_getI (pc := 126) dX12_law_126 fl_X12_251 rfl rfl ?_
            refine Ru_top hr4.2.2.1 ?_
            refine Ru_if_leN (pc := 129) 135 dX12_law_129 (by decide) (by omega) (fun h6 => ?_) (fun h6 => ?_)
            · have hH0 : (laH T x y s).2 = 0 := by omega
              have oh := laH_ok hH0
              have hB2 : 2 * y.1 ≤ tp T (laH T x y s).1 := by
                have t1 := tpq1 tw (i := s.1)
                have t2 := tpq1 tw (i := s.1 + 1)
                rw [oh.1]
                show 2 * y.1 ≤ tp T (s.1 + 1 + 1)
                omega
              refine Ru_aload_n (pc := 135) dX12_law_135 rfl rfl ?_
              refine Ru_getR (pc := 136) 5 dX12_law_136 fl_X12_35 rfl rfl rfl ?_
              refine Ru_sipush (pc := 139) (nI 2621) dX12_law_139 rfl ?_
              refine Ru_iload_n (pc := 142) dX12_law_142 rfl rfl ?_
              refine Ru_iaddN (pc := 143) dX12_law_143 ?_
              refine Ru_iconst (pc := 144) (nI 1) dX12_law_144 rfl ?_
              refine Ru_iast (pc := 145) rfl dX12_law_145 rfl (by omega) ?_
              refine Ru_aload_n (pc := 146) dX12_law_146 rfl rfl ?_
              refine Ru_getR (pc := 147) 5 dX12_law_147 fl_X12_35 rfl rfl rfl ?_
              refine Ru_sipush (pc := 150) (nI 2739) dX12_law_150 rfl ?_
              refine Ru_iload_n (pc := 153) dX12_law_153 rfl rfl ?_
              refine Ru_iaddN (pc := 154) dX12_law_154 ?_
              refine Ru_aload_n (pc := 155) dX12_law_155 rfl rfl ?_
              refine Ru_getI (pc := 156) dX12_law_156 fl_X12_322 rfl rfl ?_
              refine Ru_top ((r_sI_n (by omega)).trans hy4.1) ?_
              refine Ru_iast (pc := 159) rfl dX12_law_159 rfl (by omega) ?_
              generalize en5 : r_sI (r_sI M4 5 (2621 + (laK T x s)) (nI 1)) 5 (2739 + (laK T x s)) (nI y.1) = M5
              have fn5 : r_fx [] [5] M4 M5 := by
                rw [← en5]
                exact r_fx.sI rfl (r_fx.sI rfl r_fx.rf)
              have lo5 : ∀ q, q < 2600 → M5.1 5 q = M.1 5 q := fun q hq => by
                rw [← en5]
                exact (r_sI_n (by omega)).trans ((r_sI_n (by omega)).trans (fy4 q (by omega)))
              have hy5 : Y_lq (laB (laK T x s) y) M5 := by
                refine ⟨(fn5 0 19 rfl).1.trans hy4.1, (fn5 0 20 rfl).1.trans hy4.2.1, fun q hq => ?_⟩
                have hq2 : (21 ≤ q ∧ q < 29) ∨ (139 ≤ q ∧ q < 155 + 2 * y.1) := hq
                rw [← en5]
                show _ = nI (if q = 21 + (laK T x s) then 1 else if q = 139 + (laK T x s) then y.1 else y.2.2 q)
                rw [r_sI_g]
                by_cases e1 : q = 139 + (laK T x s)
                · rw [if_pos ⟨rfl, by omega⟩, if_neg (by omega), if_pos e1]
                · rw [if_neg (by omega), r_sI_g]
                  by_cases e2 : q = 21 + (laK T x s)
                  · rw [if_pos ⟨rfl, by omega⟩, if_pos e2]
                  · rw [if_neg (by omega), if_neg e2, if_neg e1]
                    exact hy4.2.2 q hq2
              have hr5 : Y_rd T (laH T x y s) M5 := (Y_rd_dp T _).kp fn5 rfl hr4
              have fx5 : r_fx [(0, 12), (0, 13), (0, 14), (0, 15), (0, 16), (0, 17), (0, 18), (0, 21), (0, 19), (0, 20)] [5] M M5 := fx4.tr (fn5.mono rfl)
              have wm5 : Y_wm x M5 := Y_wm_k (fun q hq => (lo5 q (by omega))) (fun q => (fx5 6 q rfl).2.1) wm
              refine Ru_aload_n (pc := 160) dX12_law_160 rfl rfl ?_
              refine Ru_iconst (pc := 161) (nI 0) dX12_law_161 rfl ?_
              refine Ru_cv1 (pc := 162) dX12_law_162 mv_X12_337 rfl (by omega) (Nat.le_of_ble_eq_true rfl) (t_X12_either tw hT3 wf _ M5 (laH T x y s) (laB (laK T x s) y) hr5 wm5 hy5 (fun _ => ⟨hV.1, hB2⟩) (fun M6 gx6 gy6 hr6 hy6 => ?_)) 
              have hr6 : Y_rd T (laR1 T x y s).2 M6 := hr6
              have hy6 : Y_lq (laR1 T x y s).1 M6 := hy6
              have fx6 : r_fx [(0, 12), (0, 13), (0, 14), (0, 15), (0, 16), (0, 17), (0, 18), (0, 21), (0, 19), (0, 20)] [5] M M6 := fx5.tr gx6
              have lo6 : ∀ q, q < 2600 → M6.1 5 q = M.1 5 q := fun q hq => (gy6 q (by omega)).trans (lo5 q hq)
              have wm6 : Y_wm x M6 := Y_wm_k (fun q hq => lo6 q (by omega)) (fun q => (fx6 6 q rfl).2.1) wm
              have hb6 := hr6.2.2.2.2
              refine Ru_aload_n (pc := 165) dX12_law_165 rfl rfl ?_
              refine Ru_aload_n (pc := 166) dX12_law_166 rfl rfl ?_
              refine Ru_bipush (pc := 167) (nI 59) dX12_law_167 rfl ?_
              refine Ru_cv1 (pc := 169) dX12_law_169 mv_X12_316 rfl (by omega) (Nat.le_of_ble_eq_true rfl) (c_X12_isSign (i := (laR1 T x y s).2.1) tw hr6.2.1 (x := 59) (by decide) ?_) 
              refine Ru_cv1 (pc := 172) dX12_law_172 mv_X12_290 rfl (by omega) (Nat.le_of_ble_eq_true rfl) (c_X12_must (s := (laR1 T x y s).2) (b := (decide (tK T (laR1 T x y s).2.1 = 59))) tw hr6 (fun M7 gx7 (hr7 : Y_rd T (laS T x y s) M7) => ?_)) 
              have hy7 : Y_lq (laR1 T x y s).1 M7 := (Y_lq_dp _).kp gx7 rfl hy6
              have fx7 : r_fx [(0, 12), (0, 13), (0, 14), (0, 15), (0, 16), (0, 17), (0, 18), (0, 21), (0, 19), (0, 20)] [5] M M7 := fx6.tr (gx7.mono rfl)
              have lo7 : ∀ q, q < 2600 → M7.1 5 q = M.1 5 q := fun q hq => (gx7 5 q rfl).1.trans (lo6 q hq)
              have hb7 := hr7.2.2.2.2
              refine Ru_aload_n (pc := 175) dX12_law_175 rfl rfl ?_
              refine Ru_getR (pc := 176) 5 dX12_law_176 fl_X12_35 rfl rfl rfl ?_
              refine Ru_sipush (pc := 179) (nI 2747) dX12_law_179 rfl ?_
              refine Ru_iload_n (pc := 182) dX12_law_182 rfl rfl ?_
              refine Ru_iaddN (pc := 183) dX12_law_183 ?_
              refine Ru_aload_n (pc := 184) dX12_law_184 rfl rfl ?_
              refine Ru_getI (pc := 185) dX12_law_185 fl_X12_322 rfl rfl ?_
              refine Ru_top hy7.1 ?_
              refine Ru_iast (pc := 188) rfl dX12_law_188 rfl (by omega) ?_
              refine Ru_iincN (pc := 189) 1 dX12_law_189 rfl rfl rfl (by decide) ?_
              refine Ru_goto (pc := 192) 60 dX12_law_192 (by decide) ?_
              generalize en99 : r_sI M7 5 (2747 + (laK T x s)) (nI (laR1 T x y s).1.1) = M99
              have fn99 : r_fx [] [5] M7 M99 := by
                rw [← en99]
                exact r_fx.sI rfl r_fx.rf
              have lo99 : ∀ q, q < 2600 → M99.1 5 q = M.1 5 q := fun q hq => by
                rw [← en99]
                exact (r_sI_n (by omega)).trans (lo7 q hq)
              have hy99 : Y_lq (laE (laK T x s) (laR1 T x y s).1) M99 := by
                refine ⟨(fn99 0 19 rfl).1.trans hy7.1, (fn99 0 20 rfl).1.trans hy7.2.1, fun q hq => ?_⟩
                rw [← en99]
                show _ = nI (if q = 147 + (laK T x s) then (laR1 T x y s).1.1 else (laR1 T x y s).1.2.2 q)
                rw [r_sI_g]
                by_cases e1 : q = 147 + (laK T x s)
                · rw [if_pos ⟨rfl, by omega⟩, if_pos e1]
                · rw [if_neg (by omega), if_neg e1]
                  exact hy7.2.2 q hq
              have hr99 : Y_rd T (laS T x y s) M99 := (Y_rd_dp T _).kp fn99 rfl hr7
              have hVs := fun z => laV_s (x := x) tw hT3 wf.1.1 hB1 hH0 z hV
              obtain ⟨f', rfl⟩ : ∃ f', f = f' + 1 := ⟨f - 1, by have := (tK_i tw (i := s.1) hK9).1; have := hf9 hz0; omega⟩
              refine Ru_weak (ih f' (by omega) f' (c + 1) (laE (laK T x s) (laR1 T x y s).1) (laS T x y s) M99 rfl (fun z => ?_) hr99 hy99 (fun z => ⟨(hVs z).1, (hVs z).2.1⟩) (fun z => ?_) (fun z => ?_) (gx.tr (fx7.tr (fn99.mono rfl))) (fun q hq => (lo99 q hq).trans (lo q hq))) rfl
              · have := (hVs z).2.2
                have := hf9 hz0
                omega
              · rw [← hR0 hz0, laP, if_neg hK9, if_neg (fun w => w hH0), if_neg (fun w => w z)]
              · rw [← hR0 hz0, laP, if_neg hK9, if_neg (fun w => w hH0), if_pos z]
            · have hnX : ¬ (laH T x y s).2 = 0 := by omega
              refine Ru_goto (pc := 132) 195 dX12_law_132 (by decide) ?_
              have eR : (c, y, laH T x y s) = R := by
                have hf := hf9 hz0
                have h8 := (tK_i tw (i := s.1) hK9).1
                rw [← hR0 hz0, show f = (f - 1) + 1 by omega, laP, if_neg hK9, if_pos hnX]
              subst eR
              exact Ru_weak (k M4 (gx.tr fx4) (fun q hq => (fy4 q (by omega)).trans (lo q hq)) hr4 hy4) rfl
          · have he9 := h5
            refine Ru_aload_n (pc := 103) dX12_law_103 rfl rfl ?_
            refine Ru_iconst (pc := 104) (nI 5) dX12_law_104 rfl ?_
            refine Ru_aload_n (pc := 105) dX12_law_105 rfl rfl ?_
            refine Ru_getI (pc := 106) dX12_law_106 fl_X12_132 rfl rfl ?_
            refine Ru_top hr2.2.1.1 ?_
            refine Ru_cv2 (pc := 109) dX12_law_109 mv_X12_257 rfl (by omega) (Nat.le_of_ble_eq_true rfl) (c_X12_fail (f := 5) (s := s) tw hr2 (by decide) (fun M3 gx3 hr3 => ?_)) 
            have fx3 : r_fx [(0, 12), (0, 13), (0, 14), (0, 15), (0, 16), (0, 17), (0, 18), (0, 21), (0, 19), (0, 20)] [5] M M3 := fx2.tr (gx3.mono rfl)
            have fy3 : ∀ q, q < 2621 → M3.1 5 q = M.1 5 q := fun q hq => (gx3 5 q rfl).1.trans (fy2 q hq)
            have wm3 : Y_wm x M3 := Y_wm_k (fun q _ => (gx3 5 q rfl).1) (fun q => (gx3 6 q rfl).2.1) wm2
            have hy3 : Y_lq y M3 := (Y_lq_dp _).kp gx3 rfl hy2
            have hb3 := hr3.2.2.2.2
            refine Ru_aload_n (pc := 112) dX12_law_112 rfl rfl ?_
            refine Ru_iconst (pc := 113) (nI 1) dX12_law_113 rfl ?_
            refine Ru_cv1 (pc := 114) dX12_law_114 mv_X12_290 rfl (by omega) (Nat.le_of_ble_eq_true rfl) (c_X12_must (s := (sFail 5 s)) (b := true) tw hr3 (fun M4 gx4 (hr4 : Y_rd T (sNext (sFail 5 s)) M4) => ?_)) 
            have fx4 : r_fx [(0, 12), (0, 13), (0, 14), (0, 15), (0, 16), (0, 17), (0, 18), (0, 21), (0, 19), (0, 20)] [5] M M4 := fx3.tr (gx4.mono rfl)
            have fy4 : ∀ q, q < 2621 → M4.1 5 q = M.1 5 q := fun q hq => (gx4 5 q rfl).1.trans (fy3 q hq)
            have wm4 : Y_wm x M4 := Y_wm_k (fun q _ => (gx4 5 q rfl).1) (fun q => (gx4 6 q rfl).2.1) wm3
            have hy4 : Y_lq y M4 := (Y_lq_dp _).kp gx4 rfl hy3
            have hb4 := hr4.2.2.2.2
            refine Ru_aload_n (pc := 117) dX12_law_117 rfl rfl ?_
            refine Ru_aload_n (pc := 118) dX12_law_118 rfl rfl ?_
            refine Ru_cv0 (pc := 119) dX12_law_119 mv_X12_218 rfl (by omega) (Nat.le_of_ble_eq_true rfl) (c_X12_isStays (i := (sNext (sFail 5 s)).1) tw hr4.2.1 ?_) 
            refine Ru_cv1 (pc := 122) dX12_law_122 mv_X12_290 rfl (by omega) (Nat.le_of_ble_eq_true rfl) (c_X12_must (s := (sNext (sFail 5 s))) (b := (decide (tK T (sNext (sFail 5 s)).1 = 145))) tw hr4 (fun M5 gx5 (hr5 : Y_rd T (sMust T (decide (tK T (sNext (sFail 5 s)).1 = 145)) (sNext (sFail 5 s))) M5) => ?_)) 
            have fx5 : r_fx [(0, 12), (0, 13), (0, 14), (0, 15), (0, 16), (0, 17), (0, 18), (0, 21), (0, 19), (0, 20)] [5] M M5 := fx4.tr (gx5.mono rfl)
            have fy5 : ∀ q, q < 2621 → M5.1 5 q = M.1 5 q := fun q hq => (gx5 5 q rfl).1.trans (fy4 q hq)
            have wm5 : Y_wm x M5 := Y_wm_k (fun q _ => (gx5 5 q rfl).1) (fun q => (gx5 6 q rfl).2.1) wm4
            have hy5 : Y_lq y M5 := (Y_lq_dp _).kp gx5 rfl hy4
            have hb5 := hr5.2.2.2.2
            have eX : (if (sOld T x.2 0 (x.1 0) s).2 = 0 ∧ y.2.2 (21 + (laK T x s)) = 1 then sFail 5 (sOld T x.2 0 (x.1 0) s) else (sOld T x.2 0 (x.1 0) s)) = sFail 5 s := by
              rw [if_pos ⟨by assumption, he9⟩, hok.1]
            have hnH : ¬ (laH T x y s).2 = 0 := fun q => (laH_ok q).2.2.2.2.1 he9
            have eH : laH T x y s = (sMust T (decide (tK T (sNext (sFail 5 s)).1 = 145)) (sNext (sFail 5 s))) := by
              unfold laH
              rw [eX]
            have hr5 : Y_rd T (laH T x y s) M5 := by
              rw [eH]
              exact hr5
            have hb5 := hr5.2.2.2.2
            refine Ru_aload_n (pc := 125) dX12_law_125 rfl rfl ?_
            refine Ru_getI (pc := 126) dX12_law_126 fl_X12_251 rfl rfl ?_
            refine Ru_top hr5.2.2.1 ?_
            refine Ru_if_leN (pc := 129) 135 dX12_law_129 (by decide) (by omega) (fun h7 => ?_) (fun h7 => ?_)
            · exfalso
              omega
            · have hnX : ¬ (laH T x y s).2 = 0 := by omega
              refine Ru_goto (pc := 132) 195 dX12_law_132 (by decide) ?_
              have eR : (c, y, laH T x y s) = R := by
                have hf := hf9 hz0
                have h8 := (tK_i tw (i := s.1) hK9).1
                rw [← hR0 hz0, show f = (f - 1) + 1 by omega, laP, if_neg hK9, if_pos hnX]
              subst eR
              exact Ru_weak (k M5 (gx.tr fx5) (fun q hq => (fy5 q (by omega)).trans (lo q hq)) hr5 hy5) rfl

theorem l_X12_law2 {Q : Rq} {M0 : Mem} {c : Nat} (k : ∀ M', (∀ k, k < 8 → M'.1 5 (21 + k) = M0.1 5 (2621 + k) ∧ M'.1 5 (139 + k) = M0.1 5 (2739 + k) ∧ M'.1 5 (147 + k) = M0.1 5 (2747 + k)) → (∀ j, ¬ ((21 ≤ j ∧ j < 29) ∨ (139 ≤ j ∧ j < 155)) → M'.1 5 j = M0.1 5 j) → r_fx [] [5] M0 M' → Ru 30 mt_X12_law r_z 277 [(0, some (.ref 0)), (2, some (.int (nI c)))] [] GY M' Q) : ∀ (zw : Nat) (q : Nat) (M : Mem), 8 - q = zw → (q ≤ 8) → (∀ k, k < q → M.1 5 (21 + k) = M0.1 5 (2621 + k) ∧ M.1 5 (139 + k) = M0.1 5 (2739 + k) ∧ M.1 5 (147 + k) = M0.1 5 (2747 + k)) → (∀ j, ¬ ((21 ≤ j ∧ j < 29) ∨ (139 ≤ j ∧ j < 155)) → M.1 5 j = M0.1 5 j) → (r_fx [] [5] M0 M) → Ru 30 mt_X12_law r_z 206 [(0, some (.ref 0)), (2, some (.int (nI c))), (3, some (.int (nI q)))] [] GY M Q := by
  intro zw
  induction zw using Nat.strongRecOn with
  | ind zw ih =>
    intro q M hw hn hc hz fx
    subst hw
    refine Ru_iload_n (pc := 206) dX12_law_206 rfl rfl ?_
    refine Ru_bipush (pc := 207) (nI 8) dX12_law_207 rfl ?_
    refine Ru_icmp_geN (pc := 209) 277 dX12_law_209 (by decide) (by omega) (fun h1 => ?_) (fun h1 => ?_)
    · exact Ru_weak (k M (fun k hk => hc k (by omega)) hz fx) rfl
    · refine Ru_aload_n (pc := 212) dX12_law_212 rfl rfl ?_
      refine Ru_getR (pc := 213) 5 dX12_law_213 fl_X12_35 rfl rfl rfl ?_
      refine Ru_bipush (pc := 216) (nI 21) dX12_law_216 rfl ?_
      refine Ru_iload_n (pc := 218) dX12_law_218 rfl rfl ?_
      refine Ru_iaddN (pc := 219) dX12_law_219 ?_
      refine Ru_aload_n (pc := 220) dX12_law_220 rfl rfl ?_
      refine Ru_getR (pc := 221) 5 dX12_law_221 fl_X12_35 rfl rfl rfl ?_
      refine Ru_sipush (pc := 224) (nI 2621) dX12_law_224 rfl ?_
      refine Ru_iload_n (pc := 227) dX12_law_227 rfl rfl ?_
      refine Ru_iaddN (pc := 228) dX12_law_228 ?_
      refine Ru_iald (pc := 229) dX12_law_229 rfl (by omega) ?_
      refine Ru_top (hz (2621 + q) (by omega)) ?_
      refine Ru_iast (pc := 230) rfl dX12_law_230 rfl (by omega) ?_
      refine Ru_aload_n (pc := 231) dX12_law_231 rfl rfl ?_
      refine Ru_getR (pc := 232) 5 dX12_law_232 fl_X12_35 rfl rfl rfl ?_
      refine Ru_sipush (pc := 235) (nI 139) dX12_law_235 rfl ?_
      refine Ru_iload_n (pc := 238) dX12_law_238 rfl rfl ?_
      refine Ru_iaddN (pc := 239) dX12_law_239 ?_
      refine Ru_aload_n (pc := 240) dX12_law_240 rfl rfl ?_
      refine Ru_getR (pc := 241) 5 dX12_law_241 fl_X12_35 rfl rfl rfl ?_
      refine Ru_sipush (pc := 244) (nI 2739) dX12_law_244 rfl ?_
      refine Ru_iload_n (pc := 247) dX12_law_247 rfl rfl ?_
      refine Ru_iaddN (pc := 248) dX12_law_248 ?_
      refine Ru_iald (pc := 249) dX12_law_249 rfl (by omega) ?_
      refine Ru_top ((r_sI_n (by omega)).trans (hz (2739 + q) (by omega))) ?_
      refine Ru_iast (pc := 250) rfl dX12_law_250 rfl (by omega) ?_
      refine Ru_aload_n (pc := 251) dX12_law_251 rfl rfl ?_
      refine Ru_getR (pc := 252) 5 dX12_law_252 fl_X12_35 rfl rfl rfl ?_
      refine Ru_sipush (pc := 255) (nI 147) dX12_law_255 rfl ?_
      refine Ru_iload_n (pc := 258) dX12_law_258 rfl rfl ?_
      refine Ru_iaddN (pc := 259) dX12_law_259 ?_
      refine Ru_aload_n (pc := 260) dX12_law_260 rfl rfl ?_
      refine Ru_getR (pc := 261) 5 dX12_law_261 fl_X12_35 rfl rfl rfl ?_
      refine Ru_sipush (pc := 264) (nI 2747) dX12_law_264 rfl ?_
      refine Ru_iload_n (pc := 267) dX12_law_267 rfl rfl ?_
      refine Ru_iaddN (pc := 268) dX12_law_268 ?_
      refine Ru_iald (pc := 269) dX12_law_269 rfl (by omega) ?_
      refine Ru_top ((r_sI_n (by omega)).trans ((r_sI_n (by omega)).trans (hz (2747 + q) (by omega)))) ?_
      refine Ru_iast (pc := 270) rfl dX12_law_270 rfl (by omega) ?_
      refine Ru_iincN (pc := 271) 1 dX12_law_271 rfl rfl rfl (by decide) ?_
      refine Ru_goto (pc := 274) 206 dX12_law_274 (by decide) ?_
      refine Ru_weak (ih (8 - (q + 1)) (by omega) (q + 1) _ rfl (by omega) (fun k hk => ?_) (fun j hj => (r_sI_n (by omega)).trans ((r_sI_n (by omega)).trans ((r_sI_n (by omega)).trans (hz j hj)))) (r_fx.sI rfl (r_fx.sI rfl (r_fx.sI rfl fx)))) rfl
      by_cases e : k = q
      · subst e
        exact ⟨(r_sI_n (by omega)).trans ((r_sI_n (by omega)).trans r_sI_s), (r_sI_n (by omega)).trans r_sI_s, r_sI_s⟩
      · have q3 := hc k (by omega)
        exact ⟨(r_sI_n (by omega)).trans ((r_sI_n (by omega)).trans ((r_sI_n (by omega)).trans q3.1)), (r_sI_n (by omega)).trans ((r_sI_n (by omega)).trans ((r_sI_n (by omega)).trans q3.2.1)), (r_sI_n (by omega)).trans ((r_sI_n (by omega)).trans ((r_sI_n (by omega)).trans q3.2.2))⟩

theorem l_X12_law3 {Q : Rq} {M0 : Mem} {c z1 : Nat} (hz1 : z1 ≤ 150) (h19 : M0.1 0 19 = nI z1) (k : ∀ M', (∀ k, k < 2 * z1 → M'.1 5 (155 + k) = M0.1 5 (2755 + k)) → (∀ j, ¬ (155 ≤ j ∧ j < 155 + 2 * z1) → M'.1 5 j = M0.1 5 j) → r_fx [] [5] M0 M' → Q (some (.int (nI c))) GY M') : ∀ (zw : Nat) (q : Nat) (M : Mem), 2 * z1 - q = zw → (q ≤ 2 * z1) → (∀ k, k < q → M.1 5 (155 + k) = M0.1 5 (2755 + k)) → (∀ j, ¬ (155 ≤ j ∧ j < 155 + 2 * z1) → M.1 5 j = M0.1 5 j) → (r_fx [] [5] M0 M) → Ru 30 mt_X12_law r_z 279 [(0, some (.ref 0)), (2, some (.int (nI c))), (3, some (.int (nI q)))] [] GY M Q := by
  intro zw
  induction zw using Nat.strongRecOn with
  | ind zw ih =>
    intro q M hw hn hc hz fx
    subst hw
    refine Ru_iload_n (pc := 279) dX12_law_279 rfl rfl ?_
    refine Ru_iconst (pc := 280) (nI 2) dX12_law_280 rfl ?_
    refine Ru_aload_n (pc := 281) dX12_law_281 rfl rfl ?_
    refine Ru_getI (pc := 282) dX12_law_282 fl_X12_322 rfl rfl ?_
    refine Ru_top ((fx 0 19 rfl).1.trans h19) ?_
    refine Ru_imulN (pc := 285) dX12_law_285 ?_
    refine Ru_icmp_geN (pc := 286) 315 dX12_law_286 (by decide) (by omega) (fun h1 => ?_) (fun h1 => ?_)
    · refine Ru_iload_n (pc := 315) dX12_law_315 rfl rfl ?_
      refine Ru_iret (pc := 316) dX12_law_316 rfl ⟨Nat.le_refl _, Nat.le_refl _⟩ ?_
      exact k M (fun k hk => hc k (by omega)) hz fx
    · refine Ru_aload_n (pc := 289) dX12_law_289 rfl rfl ?_
      refine Ru_getR (pc := 290) 5 dX12_law_290 fl_X12_35 rfl rfl rfl ?_
      refine Ru_sipush (pc := 293) (nI 155) dX12_law_293 rfl ?_
      refine Ru_iload_n (pc := 296) dX12_law_296 rfl rfl ?_
      refine Ru_iaddN (pc := 297) dX12_law_297 ?_
      refine Ru_aload_n (pc := 298) dX12_law_298 rfl rfl ?_
      refine Ru_getR (pc := 299) 5 dX12_law_299 fl_X12_35 rfl rfl rfl ?_
      refine Ru_sipush (pc := 302) (nI 2755) dX12_law_302 rfl ?_
      refine Ru_iload_n (pc := 305) dX12_law_305 rfl rfl ?_
      refine Ru_iaddN (pc := 306) dX12_law_306 ?_
      refine Ru_iald (pc := 307) dX12_law_307 rfl (by omega) ?_
      refine Ru_top (hz (2755 + q) (by omega)) ?_
      refine Ru_iast (pc := 308) rfl dX12_law_308 rfl (by omega) ?_
      refine Ru_iincN (pc := 309) 1 dX12_law_309 rfl rfl rfl (by decide) ?_
      refine Ru_goto (pc := 312) 279 dX12_law_312 (by decide) ?_
      refine Ru_weak (ih (2 * z1 - (q + 1)) (by omega) (q + 1) _ rfl (by omega) (fun k hk => ?_) (fun j hj => (r_sI_n (by omega)).trans (hz j hj)) (r_fx.sI rfl fx)) rfl
      rw [r_sI_g]
      by_cases e : k = q
      · subst e
        rw [if_pos ⟨rfl, rfl⟩]
      · rw [if_neg (by omega)]
        exact hc k (by omega)

theorem c_X12_law {Q : Rq} {M : Mem} {tp : Nat × (Nat → Int32)} {x : St9} {g : Td} {n : Int32} (hy : Y_tp tp M) (wf : Wf x.1) (wm : Y_wm x M) (hg : ∀ j, 139 ≤ j → j < 155 → M.1 5 (2600 + j) = nI (g j)) (k5 : n.toInt < 0 ∨ (tp.1 : Int) < n.toInt ∨ ((300 : Nat) : Int) < n.toInt → ∀ M', r_fx [(0, 0), (0, 1)] [] M M' → M'.1 0 0 = nI 5 → Q (some (.int (-1))) GY M') (k10 : ∀ n', n = nI n' → n' ≤ tp.1 → n' ≤ 300 → ¬ (laR (txT tp n') x g).2.2.2 = 0 → ∀ M', r_fx [(0, 0), (0, 1), (0, 8), (0, 9), (0, 10), (0, 11), (0, 12), (0, 13), (0, 14), (0, 15), (0, 16), (0, 17), (0, 18), (0, 21), (0, 19), (0, 20)] [5] M M' → (∀ j, j < 2600 → M'.1 5 j = M.1 5 j) → (∀ j, 139 ≤ j → j < 155 → M'.1 5 (2600 + j) = nI ((laR (txT tp n') x g).2.1.2.2 j)) → M'.1 0 8 = nI 0 → M'.1 0 0 = nI 10 → M'.1 0 10 = nI (laR (txT tp n') x g).2.2.2 → M'.1 0 11 = nI (tA (txT tp n') (laR (txT tp n') x g).2.2.1) → Q (some (.int (-1))) GY M') (k0 : ∀ n', n = nI n' → n' ≤ tp.1 → n' ≤ 300 → (laR (txT tp n') x g).2.2.2 = 0 → ∀ M', r_fx [(0, 0), (0, 1), (0, 8), (0, 9), (0, 10), (0, 11), (0, 12), (0, 13), (0, 14), (0, 15), (0, 16), (0, 17), (0, 18), (0, 21), (0, 19), (0, 20)] [5] M M' → (∀ j, j < 2600 → ¬ ((21 ≤ j ∧ j < 29) ∨ (139 ≤ j ∧ j < 155 + 2 * (laR (txT tp n') x g).2.1.1)) → M'.1 5 j = M.1 5 j) → (∀ j, ((21 ≤ j ∧ j < 29) ∨ (139 ≤ j ∧ j < 155 + 2 * (laR (txT tp n') x g).2.1.1)) → M'.1 5 j = nI ((laR (txT tp n') x g).2.1.2.2 j)) → (∀ j, 139 ≤ j → j < 155 → M'.1 5 (2600 + j) = nI ((laR (txT tp n') x g).2.1.2.2 j)) → M'.1 0 8 = nI 0 → M'.1 0 0 = nI 0 → M'.1 0 10 = nI 0 → M'.1 0 11 = -1 → Q (some (.int (nI (laR (txT tp n') x g).1))) GY M') : Ca 30 mt_X12_law 0 0 [.ref 0, .int n] GY M Q := by
  refine Ca_of rfl (Nat.le_of_ble_eq_true rfl) ?_
  refine Ru_aload_n (pc := 0) dX12_law_0 rfl rfl ?_
  refine Ru_iconst (pc := 1) (nI 0) dX12_law_1 rfl ?_
  refine Ru_putI (pc := 2) rfl dX12_law_2 fl_X12_87 rfl ?_
  refine Ru_aload_n (pc := 5) dX12_law_5 rfl rfl ?_
  refine Ru_iconst (pc := 6) (nI 0) dX12_law_6 rfl ?_
  refine Ru_putI (pc := 7) rfl dX12_law_7 fl_X12_90 rfl ?_
  have fx1 : r_fx [(0, 0), (0, 1)] [] M (r_sI (r_sI M 0 1 (nI 0)) 0 0 (nI 0)) := r_fx.sI rfl (r_fx.sI rfl r_fx.rf)
  have hy1 : Y_tp tp (r_sI (r_sI M 0 1 (nI 0)) 0 0 (nI 0)) := ⟨((r_sI_n (by decide)).trans ((r_sI_n (by decide)).trans hy.1)), hy.2.1, fun k hk => (r_sI_n (by omega)).trans ((r_sI_n (by omega)).trans (hy.2.2 k hk))⟩
  have hst1 : (r_sI (r_sI M 0 1 (nI 0)) 0 0 (nI 0)).1 0 0 = nI 0 := r_sI_s
  refine Ru_aload_n (pc := 10) dX12_law_10 rfl rfl ?_
  refine Ru_iload_n (pc := 11) dX12_law_11 rfl rfl ?_
  refine Ru_sipush (pc := 12) (nI 300) dX12_law_12 rfl ?_
  refine Ru_cv2 (pc := 15) dX12_law_15 mv_X12_300 rfl (by decide) (Nat.le_of_ble_eq_true rfl) (c_X12_opens (tp := tp) (most := 300) hy1 (by decide) (fun hn5 M5 gx5 h05 => ?_) (fun n' en hn1 hn2 M2 gx2 h82 hr2 => ?_)) 
  · refine Ru_if_neN (pc := 18) 23 dX12_law_18 (by decide) (by omega) (fun h1 => ?_) (fun h1 => ?_)
    · exfalso
      omega
    · refine Ru_iconst (pc := 21) (-1) dX12_law_21 rfl ?_
      refine Ru_iret (pc := 22) dX12_law_22 rfl ⟨Nat.le_refl _, Nat.le_refl _⟩ ?_
      exact k5 hn5 M5 (fx1.tr (gx5.mono rfl)) h05
  subst en
  have tw := txT_w tp (show n' ≤ 800 by omega)
  have fx2 : r_fx [(0, 0), (0, 1), (0, 8), (0, 9), (0, 10), (0, 11), (0, 12), (0, 13), (0, 14), (0, 15), (0, 16), (0, 17), (0, 18), (0, 21), (0, 19), (0, 20)] [5] M M2 := (fx1.mono rfl).tr (gx2.mono rfl)
  have h02 : M2.1 0 0 = nI 0 := (gx2 0 0 rfl).1.trans hst1
  refine Ru_if_neN (pc := 18) 23 dX12_law_18 (by decide) (by omega) (fun h1 => ?_) (fun h1 => ?_)
  · refine Ru_iconst (pc := 23) (nI 0) dX12_law_23 rfl ?_
    refine Ru_istore_n (pc := 24) dX12_law_24 rfl rfl (by decide) ?_
    refine Ru_weak (l_X12_law0 (n' := n') (fun M3 hz3 hk3 gx3 => ?_) 8 0 M2 rfl (Nat.zero_le _) (fun k hk => absurd hk (Nat.not_lt_zero _)) (fun _ _ => rfl) r_fx.rf) rfl
    refine Ru_aload_n (pc := 48) dX12_law_48 rfl rfl ?_
    refine Ru_iconst (pc := 49) (nI 0) dX12_law_49 rfl ?_
    refine Ru_putI (pc := 50) rfl dX12_law_50 fl_X12_322 rfl ?_
    refine Ru_aload_n (pc := 53) dX12_law_53 rfl rfl ?_
    refine Ru_iconst (pc := 54) (nI 0) dX12_law_54 rfl ?_
    refine Ru_putI (pc := 55) rfl dX12_law_55 fl_X12_325 rfl ?_
    refine Ru_iconst (pc := 58) (nI 0) dX12_law_58 rfl ?_
    refine Ru_istore_n (pc := 59) dX12_law_59 rfl rfl (by decide) ?_
    have fxa : r_fx [(0, 19), (0, 20)] [] M3 (r_sI (r_sI M3 0 19 (nI 0)) 0 20 (nI 0)) := r_fx.sI rfl (r_fx.sI rfl r_fx.rf)
    have fx3 : r_fx [(0, 0), (0, 1), (0, 8), (0, 9), (0, 10), (0, 11), (0, 12), (0, 13), (0, 14), (0, 15), (0, 16), (0, 17), (0, 18), (0, 21), (0, 19), (0, 20)] [5] M (r_sI (r_sI M3 0 19 (nI 0)) 0 20 (nI 0)) := fx2.tr ((gx3.mono rfl).tr (fxa.mono rfl))
    have hr3 : Y_rd (txT tp n') (0, 0) (r_sI (r_sI M3 0 19 (nI 0)) 0 20 (nI 0)) := (Y_rd_dp _ _).kp fxa rfl ((Y_rd_dp _ _).kp gx3 rfl hr2)
    have c2 : ∀ j, M2.1 5 j = M.1 5 j := fun j => (gx2 5 j rfl).1.trans (fx1 5 j rfl).1
    have c3 : ∀ j, j < 2600 → (r_sI (r_sI M3 0 19 (nI 0)) 0 20 (nI 0)).1 5 j = M.1 5 j := fun j hj => (fxa 5 j rfl).1.trans ((hk3 j (by omega)).trans (c2 j))
    have w3 : ∀ j, (r_sI (r_sI M3 0 19 (nI 0)) 0 20 (nI 0)).2.1 6 j = M.2.1 6 j := fun j => (fxa 6 j rfl).2.1.trans ((gx3 6 j rfl).2.1.trans ((gx2 6 j rfl).2.1.trans (fx1 6 j rfl).2.1))
    have wm3 : Y_wm x (r_sI (r_sI M3 0 19 (nI 0)) 0 20 (nI 0)) := Y_wm_k (fun q hq => c3 q (by omega)) w3 wm
    have hy3 : Y_lq (0, 0, (fun j => if 21 ≤ j ∧ j < 29 then 0 else g j)) (r_sI (r_sI M3 0 19 (nI 0)) 0 20 (nI 0)) := by
      refine ⟨(r_sI_n (by decide)).trans r_sI_s, r_sI_s, fun j hj => ?_⟩
      dsimp only at hj ⊢
      refine (fxa 5 _ rfl).1.trans ?_
      by_cases e : 21 ≤ j ∧ j < 29
      · rw [if_pos e, show 2600 + j = 2621 + (j - 21) by omega]
        exact hz3 _ (by omega)
      · rw [if_neg e]
        exact (hk3 _ (by omega)).trans ((c2 _).trans (hg j (by omega) (by omega)))
    have z0 : laV x ((0, 0, (fun j => if 21 ≤ j ∧ j < 29 then 0 else g j)) : Lq) := laV_0 x g
    refine Ru_weak (l_X12_law1 (T := (txT tp n')) (x := x) (R := (laR (txT tp n') x g)) tw hn2 wf wm3 (fun M4 gx4 lo4 hr4 hy4 => ?_) 801 801 0 (0, 0, (fun j => if 21 ≤ j ∧ j < 29 then 0 else g j)) (0, 0) (r_sI (r_sI M3 0 19 (nI 0)) 0 20 (nI 0)) rfl (fun _ => Nat.le_refl _) hr3 hy3 (fun _ => ⟨z0, Nat.zero_le _⟩) (fun _ => rfl) (fun z => absurd rfl z) r_fx.rf (fun _ _ => rfl)) rfl
    have fx4 : r_fx [(0, 0), (0, 1), (0, 8), (0, 9), (0, 10), (0, 11), (0, 12), (0, 13), (0, 14), (0, 15), (0, 16), (0, 17), (0, 18), (0, 21), (0, 19), (0, 20)] [5] M M4 := fx3.tr (gx4.mono rfl)
    have h04 : M4.1 0 0 = nI 0 := (gx4 0 0 rfl).1.trans ((fxa 0 0 rfl).1.trans ((gx3 0 0 rfl).1.trans h02))
    have h84 : M4.1 0 8 = nI 0 := (gx4 0 8 rfl).1.trans ((fxa 0 8 rfl).1.trans ((gx3 0 8 rfl).1.trans h82))
    have c4 : ∀ j, j < 2600 → M4.1 5 j = M.1 5 j := fun j hj => (lo4 j hj).trans (c3 j hj)
    refine Ru_aload_n (pc := 195) dX12_law_195 rfl rfl ?_
    refine Ru_cv0 (pc := 196) dX12_law_196 mv_X12_319 rfl (by decide) (Nat.le_of_ble_eq_true rfl) (c_X12_isWell tw hr4 (fun hb9 M5 gx5 h105 h115 => ?_) (fun hb9 M5 gx5 h105 h115 h05 => ?_)) 
    rotate_left
    · refine Ru_if_neN (pc := 199) 204 dX12_law_199 (by decide) (by omega) (fun h1 => ?_) (fun h1 => ?_)
      · exfalso
        omega
      · refine Ru_iconst (pc := 202) (-1) dX12_law_202 rfl ?_
        refine Ru_iret (pc := 203) dX12_law_203 rfl ⟨Nat.le_refl _, Nat.le_refl _⟩ ?_
        exact k10 n' rfl hn1 hn2 hb9 M5 (fx4.tr (gx5.mono rfl)) (fun j hj => (gx5 5 j rfl).1.trans (c4 j hj)) (fun j j1 j2 => (gx5 5 _ rfl).1.trans (hy4.2.2 j (Or.inr ⟨j1, by omega⟩))) ((gx5 0 8 rfl).1.trans h84) h05 h105 h115
    have hw5 := laR_w tw hn2 wf.1.1 g hb9
    have fx5 : r_fx [(0, 0), (0, 1), (0, 8), (0, 9), (0, 10), (0, 11), (0, 12), (0, 13), (0, 14), (0, 15), (0, 16), (0, 17), (0, 18), (0, 21), (0, 19), (0, 20)] [5] M M5 := fx4.tr (gx5.mono rfl)
    have hy5 : Y_lq (laR (txT tp n') x g).2.1 M5 := (Y_lq_dp _).kp gx5 rfl hy4
    refine Ru_if_neN (pc := 199) 204 dX12_law_199 (by decide) (by omega) (fun h1 => ?_) (fun h1 => ?_)
    · refine Ru_iconst (pc := 204) (nI 0) dX12_law_204 rfl ?_
      refine Ru_istore_n (pc := 205) dX12_law_205 rfl rfl (by decide) ?_
      refine Ru_weak (l_X12_law2 (fun M6 hc6 hz6 gx6 => ?_) 8 0 M5 rfl (Nat.zero_le _) (fun k hk => absurd hk (Nat.not_lt_zero _)) (fun _ _ => rfl) r_fx.rf) rfl
      refine Ru_iconst (pc := 277) (nI 0) dX12_law_277 rfl ?_
      refine Ru_istore_n (pc := 278) dX12_law_278 rfl rfl (by decide) ?_
      refine Ru_weak (l_X12_law3 (z1 := (laR (txT tp n') x g).2.1.1) hw5.2.2 ((gx6 0 19 rfl).1.trans hy5.1) (fun M7 hc7 hz7 gx7 => ?_) (2 * (laR (txT tp n') x g).2.1.1 - 0) 0 M6 rfl (Nat.zero_le _) (fun k hk => absurd hk (Nat.not_lt_zero _)) (fun _ _ => rfl) r_fx.rf) rfl
      have hcp := lcp9 hy5.2.2 hc6 hz6 hc7 hz7 (Nat.le_trans hw5.2.2 (by decide))
      have g7 : r_fx [] [5] M5 M7 := gx6.tr gx7
      exact k0 n' rfl hn1 hn2 hb9 M7 (fx5.tr (g7.mono rfl)) (fun j h1 h2 => (hcp.2.1 j h1 h2).trans ((gx5 5 j rfl).1.trans (c4 j h1))) hcp.1 hcp.2.2 ((g7 0 8 rfl).1.trans ((gx5 0 8 rfl).1.trans h84)) ((g7 0 0 rfl).1.trans ((gx5 0 0 rfl).1.trans h04)) ((g7 0 10 rfl).1.trans h105) ((g7 0 11 rfl).1.trans h115)
    · exfalso
      omega
  · exfalso
    omega
