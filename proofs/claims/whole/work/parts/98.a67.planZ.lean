-- READING: the reference, a making of a plan
def Y_wm (x : St9) (M : Mem) : Prop := (M.1 5 1 = nI (x.1 1) ∧ M.1 5 2 = nI (x.1 2) ∧ M.1 5 0 = nI (x.1 0)) ∧ (∀ k, k < x.1 0 → M.2.1 6 k = nJ (cd 32 (x.2 (0 + k))) ∧ Lv (x.2 (0 + k)) ∧ (x.2 (0 + k)).length ≤ 8) ∧ (∀ k, k < x.1 1 → M.2.1 6 (8 + k) = nJ (cd 32 (x.2 (8 + k))) ∧ Lv (x.2 (8 + k)) ∧ (x.2 (8 + k)).length ≤ 8) ∧ ∀ k, k < x.1 2 → M.2.1 6 (20 + k) = nJ (cd 32 (x.2 (20 + k))) ∧ Lv (x.2 (20 + k)) ∧ (x.2 (20 + k)).length ≤ 8
theorem Y_wm_k {x : St9} {M M' : Mem} (h : ∀ q, q < 3 → M'.1 5 q = M.1 5 q) (g : ∀ q, M'.2.1 6 q = M.2.1 6 q) (p : Y_wm x M) : Y_wm x M' := ⟨⟨(h 1 (by decide)).trans p.1.1, (h 2 (by decide)).trans p.1.2.1, (h 0 (by decide)).trans p.1.2.2⟩, fun k hk => ⟨(g _).trans (p.2.1 k hk).1, (p.2.1 k hk).2⟩, fun k hk => ⟨(g _).trans (p.2.2.1 k hk).1, (p.2.2.1 k hk).2⟩, fun k hk => ⟨(g _).trans (p.2.2.2 k hk).1, (p.2.2.2 k hk).2⟩⟩

theorem c_X12_readMake {Q : Rq} {M : Mem} {T : Tx} {s : Ps} (tw : Tw T) (hr : Y_rd T s M) {x : St9} {c9 : Nat} (wf : Wf x.1) (wm : Y_wm x M) (h0 : s.2 = 0) (hc9 : 3121 ≤ c9 ∧ c9 + 5 ≤ 3250) (k : ∀ M', r_fx [(0, 12), (0, 13), (0, 14), (0, 15), (0, 16), (0, 17), (0, 18), (0, 21)] [5] M M' → (∀ q, ¬ (c9 ≤ q ∧ q < c9 + 4) → M'.1 5 q = M.1 5 q) → Y_rd T (nm4 T x (s.1 + 1, 0)).2 M' → ((nm4 T x (s.1 + 1, 0)).2.2 = 0 → M'.1 5 c9 = nI 0 ∧ M'.1 5 (c9 + 1) = nI (tV T (s.1 + 1)) ∧ M'.1 5 (c9 + 2) = nI (fN x.2 (tL T (nm1 T (s.1 + 1, 0)).1) 8 (x.1 1) - 1) ∧ M'.1 5 (c9 + 3) = nI (nm4 T x (s.1 + 1, 0)).1) → Q none GY M') : Ca 6 mt_X12_readMake 0 0 [.ref 0, .int (nI c9)] GY M Q := by
  refine Ca_of rfl (Nat.le_of_ble_eq_true rfl) ?_
  have hb0 := hr.2.2.2.2
  have hx := wf.1
  have hpp6 := wf.1.2.2.1
  have fx : r_fx [(0, 12), (0, 13), (0, 14), (0, 15), (0, 16), (0, 17), (0, 18), (0, 21)] [5] M M := r_fx.rf
  refine Ru_aload_n (pc := 0) dX12_readMake_0 rfl rfl ?_
  refine Ru_cv0 (pc := 1) dX12_readMake_1 mv_X12_261 rfl (by decide) (Nat.le_of_ble_eq_true rfl) (c_X12_nextS (s := s) tw hr h0 (fun M2 gx2 (hr2 : Y_rd T (s.1 + 1, 0) M2) => ?_)) 
  have fx2 : r_fx [(0, 12), (0, 13), (0, 14), (0, 15), (0, 16), (0, 17), (0, 18), (0, 21)] [5] M M2 := fx.tr (gx2.mono rfl)
  have fy2 : ∀ q, M2.1 5 q = M.1 5 q := fun q => (gx2 5 q rfl).1
  have wm2 : Y_wm x M2 := Y_wm_k (fun q _ => fy2 q) (fun q => (gx2 6 q rfl).2.1) wm
  have hb2 := hr2.2.2.2.2
  refine Ru_aload_n (pc := 4) dX12_readMake_4 rfl rfl ?_
  refine Ru_getR (pc := 5) 5 dX12_readMake_5 fl_X12_35 rfl rfl rfl ?_
  refine Ru_iload_n (pc := 8) dX12_readMake_8 rfl rfl ?_
  refine Ru_iconst (pc := 9) (nI 0) dX12_readMake_9 rfl ?_
  refine Ru_iast (pc := 10) rfl dX12_readMake_10 rfl (by omega) ?_
  generalize en3 : r_sI M2 5 c9 (nI 0) = M3
  have fy3 : ∀ q, ¬ q = c9 → M3.1 5 q = M2.1 5 q := fun q hq => by
    rw [← en3]
    exact r_sI_n (by omega)
  have vl3 : M3.1 5 c9 = (nI 0) := by
    rw [← en3]
    exact r_sI_s
  have fn3 : r_fx [] [5] M2 M3 := by
    rw [← en3]
    exact r_fx.sI rfl r_fx.rf
  have hr3 : Y_rd T (s.1 + 1, 0) M3 := (Y_rd_dp T (s.1 + 1, 0)).kp fn3 rfl hr2
  have fx3 : r_fx [(0, 12), (0, 13), (0, 14), (0, 15), (0, 16), (0, 17), (0, 18), (0, 21)] [5] M M3 := fx2.tr (fn3.mono rfl)
  have wm3 : Y_wm x M3 := Y_wm_k (fun q hq => fy3 q (by omega)) (fun q => (fn3 6 q rfl).2.1) wm2
  have hb3 := hr3.2.2.2.2
  refine Ru_aload_n (pc := 11) dX12_readMake_11 rfl rfl ?_
  refine Ru_getR (pc := 12) 5 dX12_readMake_12 fl_X12_35 rfl rfl rfl ?_
  refine Ru_iload_n (pc := 15) dX12_readMake_15 rfl rfl ?_
  refine Ru_iconst (pc := 16) (nI 1) dX12_readMake_16 rfl ?_
  refine Ru_iaddN (pc := 17) dX12_readMake_17 ?_
  refine Ru_aload_n (pc := 18) dX12_readMake_18 rfl rfl ?_
  refine Ru_iconst (pc := 19) (nI 0) dX12_readMake_19 rfl ?_
  refine Ru_bipush (pc := 20) (nI 23) dX12_readMake_20 rfl ?_
  refine Ru_cv2 (pc := 22) dX12_readMake_22 mv_X12_294 rfl (by decide) (Nat.le_of_ble_eq_true rfl) (c_X12_count (s := (s.1 + 1, 0)) (lo := 0) (hi := 23) tw hr3 (by decide) (fun M4 v4 gx4 hr4 hv4 => ?_)) 
  have fx4 : r_fx [(0, 12), (0, 13), (0, 14), (0, 15), (0, 16), (0, 17), (0, 18), (0, 21)] [5] M M4 := fx3.tr (gx4.mono rfl)
  have fy4 : ∀ q, M4.1 5 q = M3.1 5 q := fun q => (gx4 5 q rfl).1
  have wm4 : Y_wm x M4 := Y_wm_k (fun q _ => fy4 q) (fun q => (gx4 6 q rfl).2.1) wm3
  have hb4 := hr4.2.2.2.2
  have hr4 : Y_rd T (nm1 T (s.1 + 1, 0)) M4 := hr4
  refine Ru_iast (pc := 25) rfl dX12_readMake_25 rfl (by omega) ?_
  generalize en5 : r_sI M4 5 (c9 + 1) v4 = M5
  have fy5 : ∀ q, ¬ q = (c9 + 1) → M5.1 5 q = M4.1 5 q := fun q hq => by
    rw [← en5]
    exact r_sI_n (by omega)
  have vl5 : M5.1 5 (c9 + 1) = v4 := by
    rw [← en5]
    exact r_sI_s
  have fn5 : r_fx [] [5] M4 M5 := by
    rw [← en5]
    exact r_fx.sI rfl r_fx.rf
  have hr5 : Y_rd T (nm1 T (s.1 + 1, 0)) M5 := (Y_rd_dp T (nm1 T (s.1 + 1, 0))).kp fn5 rfl hr4
  have fx5 : r_fx [(0, 12), (0, 13), (0, 14), (0, 15), (0, 16), (0, 17), (0, 18), (0, 21)] [5] M M5 := fx4.tr (fn5.mono rfl)
  have wm5 : Y_wm x M5 := Y_wm_k (fun q hq => fy5 q (by omega)) (fun q => (fn5 6 q rfl).2.1) wm4
  have hb5 := hr5.2.2.2.2
  refine Ru_aload_n (pc := 26) dX12_readMake_26 rfl rfl ?_
  refine Ru_getR (pc := 27) 5 dX12_readMake_27 fl_X12_35 rfl rfl rfl ?_
  refine Ru_iload_n (pc := 30) dX12_readMake_30 rfl rfl ?_
  refine Ru_iconst (pc := 31) (nI 2) dX12_readMake_31 rfl ?_
  refine Ru_iaddN (pc := 32) dX12_readMake_32 ?_
  refine Ru_aload_n (pc := 33) dX12_readMake_33 rfl rfl ?_
  refine Ru_iconst (pc := 34) (nI 0) dX12_readMake_34 rfl ?_
  refine Ru_iconst (pc := 35) (nI 1) dX12_readMake_35 rfl ?_
  refine Ru_bipush (pc := 36) (nI 8) dX12_readMake_36 rfl ?_
  refine Ru_cv3 (pc := 38) dX12_readMake_38 mv_X12_287 rfl (by decide) (Nat.le_of_ble_eq_true rfl) (c_X12_readOld (s := (nm1 T (s.1 + 1, 0))) (W := x.2) (b := 0) (th := 1) (f := 8) (w0 := 8) (n := (x.1 1)) tw hr5 (by omega) (by decide) (by omega) wm5.1.1 wm5.2.2.1 (fun M6 v6 gx6 hr6 hv6 => ?_)) 
  have fx6 : r_fx [(0, 12), (0, 13), (0, 14), (0, 15), (0, 16), (0, 17), (0, 18), (0, 21)] [5] M M6 := fx5.tr (gx6.mono rfl)
  have fy6 : ∀ q, M6.1 5 q = M5.1 5 q := fun q => (gx6 5 q rfl).1
  have wm6 : Y_wm x M6 := Y_wm_k (fun q _ => fy6 q) (fun q => (gx6 6 q rfl).2.1) wm5
  have hb6 := hr6.2.2.2.2
  refine Ru_iast (pc := 41) rfl dX12_readMake_41 rfl (by omega) ?_
  generalize en7 : r_sI M6 5 (c9 + 2) v6 = M7
  have fy7 : ∀ q, ¬ q = (c9 + 2) → M7.1 5 q = M6.1 5 q := fun q hq => by
    rw [← en7]
    exact r_sI_n (by omega)
  have vl7 : M7.1 5 (c9 + 2) = v6 := by
    rw [← en7]
    exact r_sI_s
  have fn7 : r_fx [] [5] M6 M7 := by
    rw [← en7]
    exact r_fx.sI rfl r_fx.rf
  have hr7 : Y_rd T (sOld T x.2 8 (x.1 1) (nm1 T (s.1 + 1, 0))) M7 := (Y_rd_dp T (sOld T x.2 8 (x.1 1) (nm1 T (s.1 + 1, 0)))).kp fn7 rfl hr6
  have fx7 : r_fx [(0, 12), (0, 13), (0, 14), (0, 15), (0, 16), (0, 17), (0, 18), (0, 21)] [5] M M7 := fx6.tr (fn7.mono rfl)
  have wm7 : Y_wm x M7 := Y_wm_k (fun q hq => fy7 q (by omega)) (fun q => (fn7 6 q rfl).2.1) wm6
  have hb7 := hr7.2.2.2.2
  refine Ru_aload_n (pc := 42) dX12_readMake_42 rfl rfl ?_
  refine Ru_iconst (pc := 43) (nI 1) dX12_readMake_43 rfl ?_
  refine Ru_cv1 (pc := 44) dX12_readMake_44 mv_X12_290 rfl (by decide) (Nat.le_of_ble_eq_true rfl) (c_X12_must (s := (sOld T x.2 8 (x.1 1) (nm1 T (s.1 + 1, 0)))) (b := true) tw hr7 (fun M8 gx8 (hr8 : Y_rd T (sNext (sOld T x.2 8 (x.1 1) (nm1 T (s.1 + 1, 0)))) M8) => ?_)) 
  have fx8 : r_fx [(0, 12), (0, 13), (0, 14), (0, 15), (0, 16), (0, 17), (0, 18), (0, 21)] [5] M M8 := fx7.tr (gx8.mono rfl)
  have fy8 : ∀ q, M8.1 5 q = M7.1 5 q := fun q => (gx8 5 q rfl).1
  have wm8 : Y_wm x M8 := Y_wm_k (fun q _ => fy8 q) (fun q => (gx8 6 q rfl).2.1) wm7
  have hb8 := hr8.2.2.2.2
  have hr8 : Y_rd T (nm2 T x (s.1 + 1, 0)) M8 := hr8
  refine Ru_aload_n (pc := 47) dX12_readMake_47 rfl rfl ?_
  refine Ru_aload_n (pc := 48) dX12_readMake_48 rfl rfl ?_
  refine Ru_cv0 (pc := 49) dX12_readMake_49 mv_X12_245 rfl (by decide) (Nat.le_of_ble_eq_true rfl) (c_X12_isBy (i := (nm2 T x (s.1 + 1, 0)).1) tw hr8.2.1 ?_) 
  refine Ru_cv1 (pc := 52) dX12_readMake_52 mv_X12_290 rfl (by decide) (Nat.le_of_ble_eq_true rfl) (c_X12_must (s := (nm2 T x (s.1 + 1, 0))) (b := (decide (tK T (nm2 T x (s.1 + 1, 0)).1 = 154))) tw hr8 (fun M9 gx9 (hr9 : Y_rd T (sMust T (decide (tK T (nm2 T x (s.1 + 1, 0)).1 = 154)) (nm2 T x (s.1 + 1, 0))) M9) => ?_)) 
  have fx9 : r_fx [(0, 12), (0, 13), (0, 14), (0, 15), (0, 16), (0, 17), (0, 18), (0, 21)] [5] M M9 := fx8.tr (gx9.mono rfl)
  have fy9 : ∀ q, M9.1 5 q = M8.1 5 q := fun q => (gx9 5 q rfl).1
  have wm9 : Y_wm x M9 := Y_wm_k (fun q _ => fy9 q) (fun q => (gx9 6 q rfl).2.1) wm8
  have hb9 := hr9.2.2.2.2
  have hr9 : Y_rd T (nm3 T x (s.1 + 1, 0)) M9 := hr9
  refine Ru_iconst (pc := 55) (nI 0) dX12_readMake_55 rfl ?_
  refine Ru_istore_n (pc := 56) dX12_readMake_56 rfl rfl (by decide) ?_
  refine Ru_iconst (pc := 57) (nI 1) dX12_readMake_57 rfl ?_
  refine Ru_istore_n (pc := 58) dX12_readMake_58 rfl rfl (by decide) ?_
  by_cases hz3 : (nm3 T x (s.1 + 1, 0)).2 = 0
  · have o3 := sMust_ok (show (sMust T (decide (tK T (nm2 T x (s.1 + 1, 0)).1 = 154)) (nm2 T x (s.1 + 1, 0))).2 = 0 from hz3)
    have hs8 : (nm3 T x (s.1 + 1, 0)).1 ≤ 800 := by
      have h9 : tK T (nm2 T x (s.1 + 1, 0)).1 = 154 := of_decide_eq_true o3.2.1
      have h8 := (tK_i tw (i := (nm2 T x (s.1 + 1, 0)).1) (by omega)).1
      have h7 : (nm3 T x (s.1 + 1, 0)).1 = (nm2 T x (s.1 + 1, 0)).1 + 1 := congrArg Prod.fst o3.2.2
      omega
    have e3 : ((nm3 T x (s.1 + 1, 0)).1, 0) = (nm3 T x (s.1 + 1, 0)) := Prod.ext rfl hz3.symm
    refine Ru_weak (l_X12_mrow (R := (nm4 T x (s.1 + 1, 0))) (M0 := M9) tw wm9.1.2.1 wm9.2.2.2 hpp6 (fun M90 v90 gx90 hr90 hv90 => ?_) (801 - (nm3 T x (s.1 + 1, 0)).1) (nm3 T x (s.1 + 1, 0)).1 0 M9 rfl (Nat.two_pow_pos _) hs8 (by rw [e3]; exact hr9) (by rw [e3]; exact (if_pos hz3).symm) r_fx.rf) rfl
    have fx90 : r_fx [(0, 12), (0, 13), (0, 14), (0, 15), (0, 16), (0, 17), (0, 18), (0, 21)] [5] M M90 := fx9.tr (gx90.mono rfl)
    have fy90 : ∀ q, M90.1 5 q = M9.1 5 q := fun q => (gx90 5 q rfl).1
    have wm90 : Y_wm x M90 := Y_wm_k (fun q _ => fy90 q) (fun q => (gx90 6 q rfl).2.1) wm9
    have hb90 := hr90.2.2.2.2
    refine Ru_aload_n (pc := 134) dX12_readMake_134 rfl rfl ?_
    refine Ru_getR (pc := 135) 5 dX12_readMake_135 fl_X12_35 rfl rfl rfl ?_
    refine Ru_iload_n (pc := 138) dX12_readMake_138 rfl rfl ?_
    refine Ru_iconst (pc := 139) (nI 3) dX12_readMake_139 rfl ?_
    refine Ru_iaddN (pc := 140) dX12_readMake_140 ?_
    refine Ru_iload_n (pc := 141) dX12_readMake_141 rfl rfl ?_
    refine Ru_iast (pc := 142) rfl dX12_readMake_142 rfl (by omega) ?_
    generalize en10 : r_sI M90 5 (c9 + 3) v90 = M10
    have fy10 : ∀ q, ¬ q = (c9 + 3) → M10.1 5 q = M90.1 5 q := fun q hq => by
      rw [← en10]
      exact r_sI_n (by omega)
    have vl10 : M10.1 5 (c9 + 3) = v90 := by
      rw [← en10]
      exact r_sI_s
    have fn10 : r_fx [] [5] M90 M10 := by
      rw [← en10]
      exact r_fx.sI rfl r_fx.rf
    have hr10 : Y_rd T (nm4 T x (s.1 + 1, 0)).2 M10 := (Y_rd_dp T (nm4 T x (s.1 + 1, 0)).2).kp fn10 rfl hr90
    have fx10 : r_fx [(0, 12), (0, 13), (0, 14), (0, 15), (0, 16), (0, 17), (0, 18), (0, 21)] [5] M M10 := fx90.tr (fn10.mono rfl)
    have wm10 : Y_wm x M10 := Y_wm_k (fun q hq => fy10 q (by omega)) (fun q => (fn10 6 q rfl).2.1) wm90
    have hb10 := hr10.2.2.2.2
    refine Ru_vret (pc := 143) dX12_readMake_143 rfl ⟨Nat.le_refl _, Nat.le_refl _⟩ ?_
    have all5 : ∀ q, ¬ (c9 ≤ q ∧ q < c9 + 4) → M10.1 5 q = M.1 5 q := fun q hq => ((fy10 q (by omega)).trans ((fy90 q).trans ((fy9 q).trans ((fy8 q).trans ((fy7 q (by omega)).trans ((fy6 q).trans ((fy5 q (by omega)).trans ((fy4 q).trans ((fy3 q (by omega)).trans (fy2 q))))))))))
    have h2 : (nm2 T x (s.1 + 1, 0)).2 = 0 := sMust_0 hz3
    have o2 := sOld_0 (sNext_0 h2)
    refine k M10 fx10 all5 hr10 (fun z => ⟨((fy10 c9 (by omega)).trans ((fy90 c9).trans ((fy9 c9).trans ((fy8 c9).trans ((fy7 c9 (by omega)).trans ((fy6 c9).trans ((fy5 c9 (by omega)).trans ((fy4 c9).trans vl3)))))))), ((fy10 (c9 + 1) (by omega)).trans ((fy90 (c9 + 1)).trans ((fy9 (c9 + 1)).trans ((fy8 (c9 + 1)).trans ((fy7 (c9 + 1) (by omega)).trans ((fy6 (c9 + 1)).trans vl5)))))).trans (hv4 o2), ((fy10 (c9 + 2) (by omega)).trans ((fy90 (c9 + 2)).trans ((fy9 (c9 + 2)).trans ((fy8 (c9 + 2)).trans vl7)))).trans (hv6 (sNext_0 h2)), vl10.trans (hv90 z)⟩)
  · have hn37 : (nm3 T x (s.1 + 1, 0)).2 ≤ 7 := hb9
    have e4 : (nm4 T x (s.1 + 1, 0)) = (0, (nm3 T x (s.1 + 1, 0))) := if_neg hz3
    refine Ru_iload_n (pc := 59) dX12_readMake_59 rfl rfl ?_
    refine Ru_if_eqN (pc := 60) 134 dX12_readMake_60 (by decide) (by omega) (fun h1 => ?_) (fun h1 => ?_)
    · exfalso
      omega
    · refine Ru_aload_n (pc := 63) dX12_readMake_63 rfl rfl ?_
      refine Ru_getI (pc := 64) dX12_readMake_64 fl_X12_251 rfl rfl ?_
      refine Ru_top hr9.2.2.1 ?_
      refine Ru_if_neN (pc := 67) 134 dX12_readMake_67 (by decide) (by omega) (fun h2 => ?_) (fun h2 => ?_)
      · refine Ru_aload_n (pc := 134) dX12_readMake_134 rfl rfl ?_
        refine Ru_getR (pc := 135) 5 dX12_readMake_135 fl_X12_35 rfl rfl rfl ?_
        refine Ru_iload_n (pc := 138) dX12_readMake_138 rfl rfl ?_
        refine Ru_iconst (pc := 139) (nI 3) dX12_readMake_139 rfl ?_
        refine Ru_iaddN (pc := 140) dX12_readMake_140 ?_
        refine Ru_iload_n (pc := 141) dX12_readMake_141 rfl rfl ?_
        refine Ru_iast (pc := 142) rfl dX12_readMake_142 rfl (by omega) ?_
        generalize en10 : r_sI M9 5 (c9 + 3) (nI 0) = M10
        have fy10 : ∀ q, ¬ q = (c9 + 3) → M10.1 5 q = M9.1 5 q := fun q hq => by
          rw [← en10]
          exact r_sI_n (by omega)
        have vl10 : M10.1 5 (c9 + 3) = (nI 0) := by
          rw [← en10]
          exact r_sI_s
        have fn10 : r_fx [] [5] M9 M10 := by
          rw [← en10]
          exact r_fx.sI rfl r_fx.rf
        have hr10 : Y_rd T (nm3 T x (s.1 + 1, 0)) M10 := (Y_rd_dp T (nm3 T x (s.1 + 1, 0))).kp fn10 rfl hr9
        have fx10 : r_fx [(0, 12), (0, 13), (0, 14), (0, 15), (0, 16), (0, 17), (0, 18), (0, 21)] [5] M M10 := fx9.tr (fn10.mono rfl)
        have wm10 : Y_wm x M10 := Y_wm_k (fun q hq => fy10 q (by omega)) (fun q => (fn10 6 q rfl).2.1) wm9
        have hb10 := hr10.2.2.2.2
        refine Ru_vret (pc := 143) dX12_readMake_143 rfl ⟨Nat.le_refl _, Nat.le_refl _⟩ ?_
        have all5 : ∀ q, ¬ (c9 ≤ q ∧ q < c9 + 4) → M10.1 5 q = M.1 5 q := fun q hq => ((fy10 q (by omega)).trans ((fy9 q).trans ((fy8 q).trans ((fy7 q (by omega)).trans ((fy6 q).trans ((fy5 q (by omega)).trans ((fy4 q).trans ((fy3 q (by omega)).trans (fy2 q)))))))))
        rw [e4] at k
        exact k M10 fx10 all5 hr10 (fun z => absurd z hz3)
      · exfalso
        omega
