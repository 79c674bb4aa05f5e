-- SOONEST, BARS

theorem c_X12_soonest {Q : Rq} {M : Mem} {d : Td} {a s : Int32} (hy : Y_tm 0 d M) (wf : Wf d) (k : ∀ M', r_fx [(0, 0), (0, 1)] [14, 15] M M' → M'.1 0 0 = nI (g_soonest d a s).2 → Q (some (.int (g_soonest d a s).1)) GY M') : Ca 3 mt_X12_soonest 0 0 [.ref 0, .int a, .int s] GY M Q := by
  refine Ca_of rfl (Nat.le_of_ble_eq_true rfl) ?_
  have hb := wf.1
  have hp := pw_le hb.1
  have hc : ∀ k, k < 521 → M.1 5 k = nI (d k) := Y_tm_z hy
  refine Ru_aload_n (pc := 0) dX12_soonest_0 rfl rfl ?_
  refine Ru_iconst (pc := 1) (nI 0) dX12_soonest_1 rfl ?_
  refine Ru_putI (pc := 2) rfl dX12_soonest_2 fl_X12_87 rfl ?_
  refine Ru_aload_n (pc := 5) dX12_soonest_5 rfl rfl ?_
  refine Ru_iconst (pc := 6) (nI 0) dX12_soonest_6 rfl ?_
  refine Ru_putI (pc := 7) rfl dX12_soonest_7 fl_X12_90 rfl ?_
  refine Ru_aload_n (pc := 10) dX12_soonest_10 rfl rfl ?_
  refine Ru_iload_n (pc := 11) dX12_soonest_11 rfl rfl ?_
  refine Ru_cv1 (pc := 12) dX12_soonest_12 mv_X12_357 rfl (by decide) (Nat.le_of_ble_eq_true rfl) (c_X12_isThing (fun k hk => ((r_sI_n (by omega)).trans ((r_sI_n (by omega)).trans (hc k hk)))) wf ?_) 
  refine Ru_if_eqB (pc := 15) 26 dX12_soonest_15 (by decide) (fun h1 => ?_) (fun h1 => ?_)
  · replace h1 := of_decide_eq_false h1
    refine Ru_aload_n (pc := 26) dX12_soonest_26 rfl rfl ?_
    refine Ru_iconst (pc := 27) (nI 2) dX12_soonest_27 rfl ?_
    refine Ru_cv1 (pc := 28) dX12_soonest_28 mv_X12_351 rfl (by decide) (Nat.le_of_ble_eq_true rfl) (c_X12_refuse ?_) 
    refine Ru_iret (pc := 31) dX12_soonest_31 rfl ⟨Nat.le_refl _, Nat.le_refl _⟩ ?_
    have e : g_soonest d a s = (-1, 2) := by
      unfold g_soonest
      rw [if_pos (by omega)]
    rw [e] at k
    exact k _ (r_fx.sI rfl (r_fx.sI rfl (r_fx.sI rfl r_fx.rf))) r_sI_s
  · replace h1 := of_decide_eq_true h1
    refine Ru_aload_n (pc := 18) dX12_soonest_18 rfl rfl ?_
    refine Ru_iload_n (pc := 19) dX12_soonest_19 rfl rfl ?_
    refine Ru_cv1 (pc := 20) dX12_soonest_20 mv_X12_386 rfl (by decide) (Nat.le_of_ble_eq_true rfl) (c_X12_isSet (fun k hk => ((r_sI_n (by omega)).trans ((r_sI_n (by omega)).trans (hc k hk)))) wf ?_) 
    refine Ru_if_neB (pc := 23) 32 dX12_soonest_23 (by decide) (fun h2 => ?_) (fun h2 => ?_)
    · replace h2 := of_decide_eq_true h2
      obtain ⟨a', ha', rfl⟩ := r_nat (x := a) (n := 8) (by omega) (by omega)
      have ea := r_tn (show a' < 2147483648 by omega)
      obtain ⟨s', hs', rfl⟩ := r_nat (x := s) (n := 256) (by omega) (by omega)
      have es := r_tn (show s' < 2147483648 by omega)
      refine Ru_aload_n (pc := 32) dX12_soonest_32 rfl rfl ?_
      refine Ru_iload_n (pc := 33) dX12_soonest_33 rfl rfl ?_
      refine Ru_cv1 (pc := 34) dX12_soonest_34 mv_X12_416 rfl (by decide) (Nat.le_of_ble_eq_true rfl) (c_X12_findSoonest (fun k hk => ((r_sI_n (by omega)).trans ((r_sI_n (by omega)).trans (hc k hk)))) wf (by omega) (fun M2 hs2 hb2 gx => ?_)) 
      have fx2 := ((r_fx.sI rfl (r_fx.sI rfl r_fx.rf)) : r_fx [(0, 0), (0, 1)] [14, 15] M _).tr (gx.mono rfl)
      have hc2 : ∀ k, k < 521 → M2.1 5 k = nI (d k) := fun k hk => (fx2 5 k rfl).1.trans (hc k hk)
      have hst2 : M2.1 0 0 = nI 0 := (gx 0 0 rfl).1.trans r_sI_s
      refine Ru_aload_n (pc := 37) dX12_soonest_37 rfl rfl ?_
      refine Ru_getR (pc := 38) 14 dX12_soonest_38 fl_X12_63 rfl rfl rfl ?_
      refine Ru_iload_n (pc := 41) dX12_soonest_41 rfl rfl ?_
      refine Ru_iald (pc := 42) dX12_soonest_42 rfl (by omega) ?_
      refine Ru_top (hs2 a' (by omega)) ?_
      refine Ru_i2l (pc := 43) _ dX12_soonest_43 rfl ?_
      refine Ru_lconst (pc := 44) 0 dX12_soonest_44 rfl ?_
      refine Ru_ldc2 (pc := 45) dX12_soonest_45 tw_1939 ?_
      refine Ru_cs3 (pc := 48) dX12_soonest_48 ms_X12_122 (by decide) (Nat.le_of_ble_eq_true rfl) (c_X12_isIn (0) (24) rfl rfl ?_) 
      refine Ru_if_eqB (pc := 51) 63 dX12_soonest_51 (by decide) (fun h3 => ?_) (fun h3 => ?_)
      · replace h3 := of_decide_eq_false h3
        refine Ru_aload_n (pc := 63) dX12_soonest_63 rfl rfl ?_
        refine Ru_bipush (pc := 64) (nI 9) dX12_soonest_64 rfl ?_
        refine Ru_cv1 (pc := 66) dX12_soonest_66 mv_X12_351 rfl (by decide) (Nat.le_of_ble_eq_true rfl) (c_X12_refuse ?_) 
        refine Ru_iret (pc := 69) dX12_soonest_69 rfl ⟨Nat.le_refl _, Nat.le_refl _⟩ ?_
        have e : g_soonest d (nI a') (nI s') = (-1, 9) := by
          have t2 := sE_t (sT d s' a')
          unfold g_soonest
          rw [if_neg (by omega), r_tnn (show a' < 2147483648 by omega), r_tnn (show s' < 2147483648 by omega)]
          rw [if_neg (by omega)]
        rw [e] at k
        exact k _ (r_fx.sI rfl fx2) r_sI_s
      · replace h3 := of_decide_eq_true h3
        refine Ru_aload_n (pc := 54) dX12_soonest_54 rfl rfl ?_
        refine Ru_getR (pc := 55) 14 dX12_soonest_55 fl_X12_63 rfl rfl rfl ?_
        refine Ru_iload_n (pc := 58) dX12_soonest_58 rfl rfl ?_
        refine Ru_iald (pc := 59) dX12_soonest_59 rfl (by omega) ?_
        refine Ru_top (hs2 a' (by omega)) ?_
        refine Ru_goto (pc := 60) 69 dX12_soonest_60 (by decide) ?_
        refine Ru_iret (pc := 69) dX12_soonest_69 rfl ⟨Nat.le_refl _, Nat.le_refl _⟩ ?_
        have e : g_soonest d (nI a') (nI s') = ((sE (sT d s' a')), 0) := by
          have t2 := sE_t (sT d s' a')
          unfold g_soonest
          rw [if_neg (by omega), r_tnn (show a' < 2147483648 by omega), r_tnn (show s' < 2147483648 by omega)]
          rw [if_pos (by omega)]
          rw [sE_f (by omega)]
        rw [e] at k
        exact k _ fx2 hst2
    · replace h2 := of_decide_eq_false h2
      refine Ru_aload_n (pc := 26) dX12_soonest_26 rfl rfl ?_
      refine Ru_iconst (pc := 27) (nI 2) dX12_soonest_27 rfl ?_
      refine Ru_cv1 (pc := 28) dX12_soonest_28 mv_X12_351 rfl (by decide) (Nat.le_of_ble_eq_true rfl) (c_X12_refuse ?_) 
      refine Ru_iret (pc := 31) dX12_soonest_31 rfl ⟨Nat.le_refl _, Nat.le_refl _⟩ ?_
      have e : g_soonest d a s = (-1, 2) := by
        unfold g_soonest
        rw [if_pos (by omega)]
      rw [e] at k
      exact k _ (r_fx.sI rfl (r_fx.sI rfl (r_fx.sI rfl r_fx.rf))) r_sI_s

theorem c_X11_soonest {Q : Rq} {M : Mem} {mk t lw pl : Nat} {d : Td} {a s : Int32} (hu : X_cu mk t lw pl d M) (hx : X_tm t d M) (wf : Wf d) (k : ∀ M', r_fx [(0, 0), (53, 1)] [54] M M' → M'.1 0 0 = nI (g_soonest d a s).2 → Q (some (.int (g_soonest d a s).1)) GX M') : Ca 3 mt_X11_soonest 0 0 [.ref 0, .int a, .int s] GX M Q := by
  refine Ca_of rfl (Nat.le_of_ble_eq_true rfl) ?_
  have hb := wf.1
  have hp := pw_le hb.1
  have ht : isTown t := hu.1.2.2.2
  have em : (-1 : Int32).toInt = -1 := rfl
  refine Ru_aload_n (pc := 0) dX11_soonest_0 rfl rfl ?_
  refine Ru_iload_n (pc := 1) dX11_soonest_1 rfl rfl ?_
  refine Ru_cv1 (pc := 2) dX11_soonest_2 mv_X11_214 rfl (by decide) (Nat.le_of_ble_eq_true rfl) (c_X11_isThing hu hx wf ?_) 
  refine Ru_if_eqB (pc := 5) 16 dX11_soonest_5 (by decide) (fun h1 => ?_) (fun h1 => ?_)
  · replace h1 := of_decide_eq_false h1
    refine Ru_aload_n (pc := 16) dX11_soonest_16 rfl rfl ?_
    refine Ru_iconst (pc := 17) (nI 2) dX11_soonest_17 rfl ?_
    refine Ru_cv1 (pc := 18) dX11_soonest_18 mv_X11_112 rfl (by decide) (Nat.le_of_ble_eq_true rfl) (c_X11_fail ?_) 
    refine Ru_iret (pc := 21) dX11_soonest_21 rfl ⟨Nat.le_refl _, Nat.le_refl _⟩ ?_
    have e : g_soonest d a s = (-1, 2) := by
      unfold g_soonest
      rw [if_pos (by omega)]
    rw [e] at k
    exact k _ (r_fx.sI rfl r_fx.rf) r_sI_s
  · replace h1 := of_decide_eq_true h1
    refine Ru_aload_n (pc := 8) dX11_soonest_8 rfl rfl ?_
    refine Ru_iload_n (pc := 9) dX11_soonest_9 rfl rfl ?_
    refine Ru_cv1 (pc := 10) dX11_soonest_10 mv_X11_254 rfl (by decide) (Nat.le_of_ble_eq_true rfl) (c_X11_isSet hu hx wf ?_) 
    refine Ru_if_neB (pc := 13) 22 dX11_soonest_13 (by decide) (fun h2 => ?_) (fun h2 => ?_)
    · replace h2 := of_decide_eq_true h2
      obtain ⟨a', ha', rfl⟩ := r_nat (x := a) (n := 8) (by omega) (by omega)
      have ea := r_tn (show a' < 2147483648 by omega)
      obtain ⟨s', hs', rfl⟩ := r_nat (x := s) (n := 256) (by omega) (by omega)
      have es := r_tn (show s' < 2147483648 by omega)
      refine Ru_aload_n (pc := 22) dX11_soonest_22 rfl rfl ?_
      refine Ru_getR (pc := 23) 53 dX11_soonest_23 fl_X11_61 rfl rfl (rfX_of (o := 0) (j := 53) rfl rfl) ?_
      refine Ru_aload_n (pc := 26) dX11_soonest_26 rfl rfl ?_
      refine Ru_cv0 (pc := 27) dX11_soonest_27 mv_X11_154 rfl (by decide) (Nat.le_of_ble_eq_true rfl) (c_X11_now hu ?_) 
      refine Ru_iload_n (pc := 30) dX11_soonest_30 rfl rfl ?_
      refine Ru_cv2 (pc := 31) dX11_soonest_31 mv_X11_274 rfl (by decide) (Nat.le_of_ble_eq_true rfl) (c_X7_reckon ht hx wf (s := s') (by omega) (fun M2 hs2 htw2 fx2 => ?_)) 
      have hx2 : X_tm t d M2 := (X_tm_dp ht d).kp fx2 rfl hx
      have hl9 := sT_le d s' a'
      refine Ru_aload_n (pc := 34) dX11_soonest_34 rfl rfl ?_
      refine Ru_getR (pc := 35) 53 dX11_soonest_35 fl_X11_61 rfl rfl (rfX_of (o := 0) (j := 53) rfl rfl) ?_
      refine Ru_getR (pc := 38) 54 dX11_soonest_38 fl_X11_278 rfl rfl (rfX_of (o := 53) (j := 1) rfl rfl) ?_
      refine Ru_iload_n (pc := 41) dX11_soonest_41 rfl rfl ?_
      refine Ru_iald (pc := 42) dX11_soonest_42 rfl (by omega) ?_
      refine Ru_top (hs2 a' (by omega)) ?_
      refine Ru_bipush (pc := 43) (nI 24) dX11_soonest_43 rfl ?_
      refine Ru_icmp_leN (pc := 45) 55 dX11_soonest_45 (by decide) (by omega) (fun h3 => ?_) (fun h3 => ?_)
      · refine Ru_aload_n (pc := 55) dX11_soonest_55 rfl rfl ?_
        refine Ru_aload_n (pc := 56) dX11_soonest_56 rfl rfl ?_
        refine Ru_getR (pc := 57) 53 dX11_soonest_57 fl_X11_61 rfl rfl (rfX_of (o := 0) (j := 53) rfl rfl) ?_
        refine Ru_getR (pc := 60) 54 dX11_soonest_60 fl_X11_278 rfl rfl (rfX_of (o := 53) (j := 1) rfl rfl) ?_
        refine Ru_iload_n (pc := 63) dX11_soonest_63 rfl rfl ?_
        refine Ru_iald (pc := 64) dX11_soonest_64 rfl (by omega) ?_
        refine Ru_top (hs2 a' (by omega)) ?_
        refine Ru_cv1 (pc := 65) dX11_soonest_65 mv_X11_170 rfl (by decide) (Nat.le_of_ble_eq_true rfl) (c_X11_tell ?_) 
        refine Ru_iret (pc := 68) dX11_soonest_68 rfl ⟨Nat.le_refl _, Nat.le_refl _⟩ ?_
        have e : g_soonest d (nI a') (nI s') = ((nI (sT d s' a')), 0) := by
          unfold g_soonest
          rw [if_neg (by omega), r_tnn (show a' < 2147483648 by omega), r_tnn (show s' < 2147483648 by omega)]
          rw [if_pos (by omega)]
        rw [e] at k
        exact k _ (r_fx.sI rfl (fx2.mono rfl)) r_sI_s
      · refine Ru_aload_n (pc := 48) dX11_soonest_48 rfl rfl ?_
        refine Ru_bipush (pc := 49) (nI 9) dX11_soonest_49 rfl ?_
        refine Ru_cv1 (pc := 51) dX11_soonest_51 mv_X11_112 rfl (by decide) (Nat.le_of_ble_eq_true rfl) (c_X11_fail ?_) 
        refine Ru_iret (pc := 54) dX11_soonest_54 rfl ⟨Nat.le_refl _, Nat.le_refl _⟩ ?_
        have e : g_soonest d (nI a') (nI s') = (-1, 9) := by
          unfold g_soonest
          rw [if_neg (by omega), r_tnn (show a' < 2147483648 by omega), r_tnn (show s' < 2147483648 by omega)]
          rw [if_neg (by omega)]
        rw [e] at k
        exact k _ (r_fx.sI rfl (fx2.mono rfl)) r_sI_s
    · replace h2 := of_decide_eq_false h2
      refine Ru_aload_n (pc := 16) dX11_soonest_16 rfl rfl ?_
      refine Ru_iconst (pc := 17) (nI 2) dX11_soonest_17 rfl ?_
      refine Ru_cv1 (pc := 18) dX11_soonest_18 mv_X11_112 rfl (by decide) (Nat.le_of_ble_eq_true rfl) (c_X11_fail ?_) 
      refine Ru_iret (pc := 21) dX11_soonest_21 rfl ⟨Nat.le_refl _, Nat.le_refl _⟩ ?_
      have e : g_soonest d a s = (-1, 2) := by
        unfold g_soonest
        rw [if_pos (by omega)]
      rw [e] at k
      exact k _ (r_fx.sI rfl r_fx.rf) r_sI_s

theorem sLn_bit {x : Nat → Nat} {nd v : Nat} : ∀ {p : Nat}, sLn x nd p = v + 1 → nd.testBit v = true
  | 0, h => by
    rw [sLn] at h
    omega
  | p + 1, h => by
    rw [sLn] at h
    split at h
    · have : p = v := by omega
      subst this
      rename_i hq
      exact hq.1
    · exact sLn_bit h

theorem l_X12_bars {Q : Rq} {M : Mem} {d : Td} {m a' s' : Nat} {w9 : Int32} (hc : ∀ k, k < 521 → M.1 5 k = nI (d k)) (wf : Wf d) (hm : m < d 1) (ha : a' < 8) (hs8 : s' < 256) (hbm : M.1 15 a' = nI m) (hs : ∀ k, k < 8 → M.1 14 k = sE (sT d s' k)) (hfin : ∀ k, k < d 0 → (sNd d m).testBit k = true → sT d s' k < 1000000) (k : Ru 3 mt_X12_bars r_z 147 [(4, some (.int (nM (sLn (sT d s') (sNd d m) (d 0))))), (0, some (.ref 0)), (1, some (.int (nI a'))), (2, some (.int (nI s'))), (3, some (.int w9))] [] GY M Q) : ∀ (w : Nat) (p : Nat), d 0 - p = w → (p ≤ d 0) → Ru 3 mt_X12_bars r_z 86 [(4, some (.int (nM (sLn (sT d s') (sNd d m) p)))), (5, some (.int (nI p))), (0, some (.ref 0)), (1, some (.int (nI a'))), (2, some (.int (nI s'))), (3, some (.int w9))] [] GY M Q := by
  intro w
  induction w using Nat.strongRecOn with
  | ind w ih =>
    intro p hw hn
    subst hw
    have hb := wf.1
    have hp := pw_le hb.1
    have em : (-1 : Int32).toInt = -1 := rfl
    have hl := sLn_le (sT d s') (sNd d m) p
    have hz : (nM (sLn (sT d s') (sNd d m) p)).toInt = (sLn (sT d s') (sNd d m) p : Int) - 1 := nM_t (by omega)
    have hm5 := wf.2.2.2.2.1 m hm
    have hnd : sNd d m < 2 ^ d 0 := r_or_lt hm5.2.2.2.1 hm5.2.2.2.2.1
    refine Ru_iload (pc := 86) dX12_bars_86 rfl ?_
    refine Ru_aload_n (pc := 88) dX12_bars_88 rfl rfl ?_
    refine Ru_getR (pc := 89) 5 dX12_bars_89 fl_X12_35 rfl rfl rfl ?_
    refine Ru_iconst (pc := 92) (nI 0) dX12_bars_92 rfl ?_
    refine Ru_iald (pc := 93) dX12_bars_93 rfl (by omega) ?_
    refine Ru_top (hc 0 (by omega)) ?_
    refine Ru_icmp_geN (pc := 94) 147 dX12_bars_94 (by decide) (by omega) (fun h1 => ?_) (fun h1 => ?_)
    · have ep : p = d 0 := by omega
      subst ep
      exact Ru_weak k rfl
    · refine Ru_aload_n (pc := 97) dX12_bars_97 rfl rfl ?_
      refine Ru_aload_n (pc := 98) dX12_bars_98 rfl rfl ?_
      refine Ru_getR (pc := 99) 15 dX12_bars_99 fl_X12_66 rfl rfl rfl ?_
      refine Ru_iload_n (pc := 102) dX12_bars_102 rfl rfl ?_
      refine Ru_iald (pc := 103) dX12_bars_103 rfl (by omega) ?_
      refine Ru_top hbm ?_
      refine Ru_cv1 (pc := 104) dX12_bars_104 mv_X12_407 rfl (by decide) (Nat.le_of_ble_eq_true rfl) (c_X12_needsS hc wf (by omega) ?_) 
      refine Ru_iload (pc := 107) dX12_bars_107 rfl ?_
      refine Ru_cs2 (pc := 109) dX12_bars_109 ms_X12_372 (by decide) (Nat.le_of_ble_eq_true rfl) (c_X12_has (by omega) (by omega) ?_) 
      refine Ru_if_eqB (pc := 112) 141 dX12_bars_112 (by decide) (fun h2 => ?_) (fun h2 => ?_)
      · refine Ru_iincN (pc := 141) 1 dX12_bars_141 rfl rfl rfl (by decide) ?_
        refine Ru_goto (pc := 144) 86 dX12_bars_144 (by decide) ?_
        have e : sLn (sT d s') (sNd d m) (p + 1) = sLn (sT d s') (sNd d m) p := by
          rw [sLn]
          refine if_neg (fun z => ?_)
          have z1 := z.1; simp_all
        have hr := ih (d 0 - (p + 1)) (by omega) (p + 1) rfl (by omega)
        rw [e] at hr
        exact Ru_weak hr rfl
      · refine Ru_iload (pc := 115) dX12_bars_115 rfl ?_
        refine Ru_if_ltT (pc := 117) 137 dX12_bars_117 (by decide) (fun h3 => ?_) (fun h3 => ?_)
        · refine Ru_iload (pc := 137) dX12_bars_137 rfl ?_
          refine Ru_istore (pc := 139) dX12_bars_139 rfl (by decide) ?_
          refine Ru_iincN (pc := 141) 1 dX12_bars_141 rfl rfl rfl (by decide) ?_
          refine Ru_goto (pc := 144) 86 dX12_bars_144 (by decide) ?_
          have e : sLn (sT d s') (sNd d m) (p + 1) = p + 1 := by
            rw [sLn]
            refine if_pos ⟨by assumption, ?_⟩
            left; omega
          have hr := ih (d 0 - (p + 1)) (by omega) (p + 1) rfl (by omega)
          rw [e] at hr
          exact Ru_weak hr rfl
        · obtain ⟨v, qz_ev⟩ : ∃ v, sLn (sT d s') (sNd d m) p = v + 1 := ⟨sLn (sT d s') (sNd d m) p - 1, by omega⟩
          rw [qz_ev]
          refine Ru_weak (L' := [(4, some (.int (nI v))), (5, some (.int (nI p))), (0, some (.ref 0)), (1, some (.int (nI a'))), (2, some (.int (nI s'))), (3, some (.int w9))]) ?_ rfl
          have lv : v < p := by omega
          have t1 := sE_t (sT d s' p)
          have t2 := sE_t (sT d s' v)
          have f1 := hfin p (by omega) (by assumption)
          have f2 := hfin v (by omega) (sLn_bit qz_ev)
          refine Ru_aload_n (pc := 120) dX12_bars_120 rfl rfl ?_
          refine Ru_getR (pc := 121) 14 dX12_bars_121 fl_X12_63 rfl rfl rfl ?_
          refine Ru_iload (pc := 124) dX12_bars_124 rfl ?_
          refine Ru_iald (pc := 126) dX12_bars_126 rfl (by omega) ?_
          refine Ru_top (hs p (by omega)) ?_
          refine Ru_aload_n (pc := 127) dX12_bars_127 rfl rfl ?_
          refine Ru_getR (pc := 128) 14 dX12_bars_128 fl_X12_63 rfl rfl rfl ?_
          refine Ru_iload (pc := 131) dX12_bars_131 rfl ?_
          refine Ru_iald (pc := 133) dX12_bars_133 rfl (by omega) ?_
          refine Ru_top (hs v (by omega)) ?_
          refine Ru_icmp_leT (pc := 134) 141 dX12_bars_134 (by decide) (fun h4 => ?_) (fun h4 => ?_)
          · refine Ru_iincN (pc := 141) 1 dX12_bars_141 rfl rfl rfl (by decide) ?_
            refine Ru_goto (pc := 144) 86 dX12_bars_144 (by decide) ?_
            have e : sLn (sT d s') (sNd d m) (p + 1) = sLn (sT d s') (sNd d m) p := by
              rw [sLn]
              refine if_neg (fun z => ?_)
              have z2 := z.2; rw [qz_ev, Nat.add_sub_cancel] at z2; omega
            have hr := ih (d 0 - (p + 1)) (by omega) (p + 1) rfl (by omega)
            rw [e] at hr
            rw [qz_ev] at hr
            exact Ru_weak hr rfl
          · refine Ru_iload (pc := 137) dX12_bars_137 rfl ?_
            refine Ru_istore (pc := 139) dX12_bars_139 rfl (by decide) ?_
            refine Ru_iincN (pc := 141) 1 dX12_bars_141 rfl rfl rfl (by decide) ?_
            refine Ru_goto (pc := 144) 86 dX12_bars_144 (by decide) ?_
            have e : sLn (sT d s') (sNd d m) (p + 1) = p + 1 := by
              rw [sLn]
              refine if_pos ⟨by assumption, ?_⟩
              right; rw [qz_ev, Nat.add_sub_cancel]; omega
            have hr := ih (d 0 - (p + 1)) (by omega) (p + 1) rfl (by omega)
            rw [e] at hr
            exact Ru_weak hr rfl

theorem c_X12_bars {Q : Rq} {M : Mem} {d : Td} {a s w : Int32} (hy : Y_tm 0 d M) (wf : Wf d) (k : ∀ M', r_fx [(0, 0), (0, 1)] [14, 15] M M' → M'.1 0 0 = nI (g_bars d a s w).2 → Q (some (.int (g_bars d a s w).1)) GY M') : Ca 3 mt_X12_bars 0 0 [.ref 0, .int a, .int s, .int w] GY M Q := by
  refine Ca_of rfl (Nat.le_of_ble_eq_true rfl) ?_
  have hb := wf.1
  have hp := pw_le hb.1
  have hc : ∀ k, k < 521 → M.1 5 k = nI (d k) := Y_tm_z hy
  refine Ru_aload_n (pc := 0) dX12_bars_0 rfl rfl ?_
  refine Ru_iconst (pc := 1) (nI 0) dX12_bars_1 rfl ?_
  refine Ru_putI (pc := 2) rfl dX12_bars_2 fl_X12_87 rfl ?_
  refine Ru_aload_n (pc := 5) dX12_bars_5 rfl rfl ?_
  refine Ru_iconst (pc := 6) (nI 0) dX12_bars_6 rfl ?_
  refine Ru_putI (pc := 7) rfl dX12_bars_7 fl_X12_90 rfl ?_
  refine Ru_aload_n (pc := 10) dX12_bars_10 rfl rfl ?_
  refine Ru_iload_n (pc := 11) dX12_bars_11 rfl rfl ?_
  refine Ru_cv1 (pc := 12) dX12_bars_12 mv_X12_357 rfl (by decide) (Nat.le_of_ble_eq_true rfl) (c_X12_isThing (fun k hk => ((r_sI_n (by omega)).trans ((r_sI_n (by omega)).trans (hc k hk)))) wf ?_) 
  refine Ru_if_eqB (pc := 15) 26 dX12_bars_15 (by decide) (fun h1 => ?_) (fun h1 => ?_)
  · replace h1 := of_decide_eq_false h1
    refine Ru_aload_n (pc := 26) dX12_bars_26 rfl rfl ?_
    refine Ru_iconst (pc := 27) (nI 2) dX12_bars_27 rfl ?_
    refine Ru_cv1 (pc := 28) dX12_bars_28 mv_X12_351 rfl (by decide) (Nat.le_of_ble_eq_true rfl) (c_X12_refuse ?_) 
    refine Ru_iret (pc := 31) dX12_bars_31 rfl ⟨Nat.le_refl _, Nat.le_refl _⟩ ?_
    have e : g_bars d a s w = (-1, 2) := by
      unfold g_bars
      rw [if_pos (by omega)]
    rw [e] at k
    exact k _ (r_fx.sI rfl (r_fx.sI rfl (r_fx.sI rfl r_fx.rf))) r_sI_s
  · replace h1 := of_decide_eq_true h1
    refine Ru_aload_n (pc := 18) dX12_bars_18 rfl rfl ?_
    refine Ru_iload_n (pc := 19) dX12_bars_19 rfl rfl ?_
    refine Ru_cv1 (pc := 20) dX12_bars_20 mv_X12_386 rfl (by decide) (Nat.le_of_ble_eq_true rfl) (c_X12_isSet (fun k hk => ((r_sI_n (by omega)).trans ((r_sI_n (by omega)).trans (hc k hk)))) wf ?_) 
    refine Ru_if_neB (pc := 23) 32 dX12_bars_23 (by decide) (fun h2 => ?_) (fun h2 => ?_)
    · replace h2 := of_decide_eq_true h2
      refine Ru_iload_n (pc := 32) dX12_bars_32 rfl rfl ?_
      refine Ru_i2l (pc := 33) _ dX12_bars_33 rfl ?_
      refine Ru_lconst (pc := 34) 0 dX12_bars_34 rfl ?_
      refine Ru_lconst (pc := 35) 1 dX12_bars_35 rfl ?_
      refine Ru_cs3 (pc := 36) dX12_bars_36 ms_X12_122 (by decide) (Nat.le_of_ble_eq_true rfl) (c_X12_isIn (0) (1) rfl rfl ?_) 
      refine Ru_if_neB (pc := 39) 48 dX12_bars_39 (by decide) (fun h3 => ?_) (fun h3 => ?_)
      · replace h3 := of_decide_eq_true h3
        obtain ⟨a', ha', rfl⟩ := r_nat (x := a) (n := 8) (by omega) (by omega)
        have ea := r_tn (show a' < 2147483648 by omega)
        obtain ⟨s', hs', rfl⟩ := r_nat (x := s) (n := 256) (by omega) (by omega)
        have es := r_tn (show s' < 2147483648 by omega)
        have hzf := sFm_le (d := d) (x := sT d s') (t := a') (d 1) 0
        have hzf2 : (nM (sFirst d (sT d s') a')).toInt = (sFirst d (sT d s') a' : Int) - 1 := nM_t (by unfold sFirst; omega)
        refine Ru_aload_n (pc := 48) dX12_bars_48 rfl rfl ?_
        refine Ru_iload_n (pc := 49) dX12_bars_49 rfl rfl ?_
        refine Ru_cv1 (pc := 50) dX12_bars_50 mv_X12_416 rfl (by decide) (Nat.le_of_ble_eq_true rfl) (c_X12_findSoonest (fun k hk => ((r_sI_n (by omega)).trans ((r_sI_n (by omega)).trans (hc k hk)))) wf (by omega) (fun M2 hs2 hb2 gx => ?_)) 
        have fx2 := ((r_fx.sI rfl (r_fx.sI rfl r_fx.rf)) : r_fx [(0, 0), (0, 1)] [14, 15] M _).tr (gx.mono rfl)
        have hc2 : ∀ k, k < 521 → M2.1 5 k = nI (d k) := fun k hk => (fx2 5 k rfl).1.trans (hc k hk)
        have hst2 : M2.1 0 0 = nI 0 := (gx 0 0 rfl).1.trans r_sI_s
        refine Ru_aload_n (pc := 53) dX12_bars_53 rfl rfl ?_
        refine Ru_getR (pc := 54) 15 dX12_bars_54 fl_X12_66 rfl rfl rfl ?_
        refine Ru_iload_n (pc := 57) dX12_bars_57 rfl rfl ?_
        refine Ru_iald (pc := 58) dX12_bars_58 rfl (by omega) ?_
        refine Ru_top (hb2 a' (by omega)) ?_
        refine Ru_if_geT (pc := 59) 69 dX12_bars_59 (by decide) (fun h4 => ?_) (fun h4 => ?_)
        · obtain ⟨m, em1⟩ : ∃ m, sFirst d (sT d s') a' = m + 1 := ⟨sFirst d (sT d s') a' - 1, by omega⟩
          have hmm := sFirst_ok em1
          have hm5 := wf.2.2.2.2.1 m hmm.1
          have hnd : sNd d m < 2 ^ d 0 := r_or_lt hm5.2.2.2.1 hm5.2.2.2.2.1
          have hln := sLn_le (sT d s') (sNd d m) (d 0)
          have hzl : (nM (sLn (sT d s') (sNd d m) (d 0))).toInt = (sLn (sT d s') (sNd d m) (d 0) : Int) - 1 := nM_t (by omega)
          refine Ru_iload_n (pc := 69) dX12_bars_69 rfl rfl ?_
          refine Ru_if_neT (pc := 70) 80 dX12_bars_70 (by decide) (fun h5 => ?_) (fun h5 => ?_)
          · refine Ru_iconst (pc := 80) (-1) dX12_bars_80 rfl ?_
            refine Ru_istore (pc := 81) dX12_bars_81 rfl (by decide) ?_
            refine Ru_iconst (pc := 83) (nI 0) dX12_bars_83 rfl ?_
            refine Ru_istore (pc := 84) dX12_bars_84 rfl (by decide) ?_
            have hfin : ∀ k, k < d 0 → (sNd d m).testBit k = true → sT d s' k < 1000000 := fun k hk hbk => by
              have := sFirst_need wf em1 hk hbk
              omega
            refine Ru_weak (l_X12_bars hc2 wf hmm.1 (by omega) (by omega) ((hb2 a' (by omega)).trans (by rw [em1]; rfl)) hs2 hfin ?_ (d 0) 0 rfl (Nat.zero_le _)) rfl
            refine Ru_iload (pc := 147) dX12_bars_147 rfl ?_
            refine Ru_if_geT (pc := 149) 161 dX12_bars_149 (by decide) (fun h1 => ?_) (fun h1 => ?_)
            · refine Ru_iload (pc := 161) dX12_bars_161 rfl ?_
              refine Ru_iret (pc := 163) dX12_bars_163 rfl ⟨Nat.le_refl _, Nat.le_refl _⟩ ?_
              have e : g_bars d (nI a') (nI s') w = ((nM (sLn (sT d s') (sNd d m) (d 0))), 0) := by
                unfold g_bars
                rw [if_neg (by omega), if_neg (by omega), r_tnn (show a' < 2147483648 by omega), r_tnn (show s' < 2147483648 by omega)]
                rw [if_neg (by omega)]
                rw [if_neg (by omega), em1, Nat.add_sub_cancel]
                rw [if_neg (by omega)]
              rw [e] at k
              exact k _ fx2 hst2
            · refine Ru_aload_n (pc := 152) dX12_bars_152 rfl rfl ?_
              refine Ru_bipush (pc := 153) (nI 8) dX12_bars_153 rfl ?_
              refine Ru_cv1 (pc := 155) dX12_bars_155 mv_X12_351 rfl (by decide) (Nat.le_of_ble_eq_true rfl) (c_X12_refuse ?_) 
              refine Ru_goto (pc := 158) 163 dX12_bars_158 (by decide) ?_
              refine Ru_iret (pc := 163) dX12_bars_163 rfl ⟨Nat.le_refl _, Nat.le_refl _⟩ ?_
              have e : g_bars d (nI a') (nI s') w = (-1, 8) := by
                unfold g_bars
                rw [if_neg (by omega), if_neg (by omega), r_tnn (show a' < 2147483648 by omega), r_tnn (show s' < 2147483648 by omega)]
                rw [if_neg (by omega)]
                rw [if_neg (by omega), em1, Nat.add_sub_cancel]
                rw [if_pos (by omega)]
              rw [e] at k
              exact k _ (r_fx.sI rfl fx2) r_sI_s
          · refine Ru_aload_n (pc := 73) dX12_bars_73 rfl rfl ?_
            refine Ru_getR (pc := 74) 15 dX12_bars_74 fl_X12_66 rfl rfl rfl ?_
            refine Ru_iload_n (pc := 77) dX12_bars_77 rfl rfl ?_
            refine Ru_iald (pc := 78) dX12_bars_78 rfl (by omega) ?_
            refine Ru_top ((hb2 a' (by omega)).trans (by rw [em1])) ?_
            refine Ru_iret (pc := 79) dX12_bars_79 rfl ⟨Nat.le_refl _, Nat.le_refl _⟩ ?_
            have e : g_bars d (nI a') (nI s') w = ((nI m), 0) := by
              unfold g_bars
              rw [if_neg (by omega), if_neg (by omega), r_tnn (show a' < 2147483648 by omega), r_tnn (show s' < 2147483648 by omega)]
              rw [if_neg (by omega)]
              rw [if_pos (by omega), em1]
              rfl
            rw [e] at k
            exact k _ fx2 hst2
        · refine Ru_aload_n (pc := 62) dX12_bars_62 rfl rfl ?_
          refine Ru_bipush (pc := 63) (nI 8) dX12_bars_63 rfl ?_
          refine Ru_cv1 (pc := 65) dX12_bars_65 mv_X12_351 rfl (by decide) (Nat.le_of_ble_eq_true rfl) (c_X12_refuse ?_) 
          refine Ru_iret (pc := 68) dX12_bars_68 rfl ⟨Nat.le_refl _, Nat.le_refl _⟩ ?_
          have e : g_bars d (nI a') (nI s') w = (-1, 8) := by
            unfold g_bars
            rw [if_neg (by omega), if_neg (by omega), r_tnn (show a' < 2147483648 by omega), r_tnn (show s' < 2147483648 by omega)]
            rw [if_pos (by omega)]
          rw [e] at k
          exact k _ (r_fx.sI rfl fx2) r_sI_s
      · replace h3 := of_decide_eq_false h3
        refine Ru_aload_n (pc := 42) dX12_bars_42 rfl rfl ?_
        refine Ru_iconst (pc := 43) (nI 5) dX12_bars_43 rfl ?_
        refine Ru_cv1 (pc := 44) dX12_bars_44 mv_X12_351 rfl (by decide) (Nat.le_of_ble_eq_true rfl) (c_X12_refuse ?_) 
        refine Ru_iret (pc := 47) dX12_bars_47 rfl ⟨Nat.le_refl _, Nat.le_refl _⟩ ?_
        have e : g_bars d a s w = (-1, 5) := by
          unfold g_bars
          rw [if_neg (by omega), if_pos (by omega)]
        rw [e] at k
        exact k _ (r_fx.sI rfl (r_fx.sI rfl (r_fx.sI rfl r_fx.rf))) r_sI_s
    · replace h2 := of_decide_eq_false h2
      refine Ru_aload_n (pc := 26) dX12_bars_26 rfl rfl ?_
      refine Ru_iconst (pc := 27) (nI 2) dX12_bars_27 rfl ?_
      refine Ru_cv1 (pc := 28) dX12_bars_28 mv_X12_351 rfl (by decide) (Nat.le_of_ble_eq_true rfl) (c_X12_refuse ?_) 
      refine Ru_iret (pc := 31) dX12_bars_31 rfl ⟨Nat.le_refl _, Nat.le_refl _⟩ ?_
      have e : g_bars d a s w = (-1, 2) := by
        unfold g_bars
        rw [if_pos (by omega)]
      rw [e] at k
      exact k _ (r_fx.sI rfl (r_fx.sI rfl (r_fx.sI rfl r_fx.rf))) r_sI_s

theorem c_X11_bars {Q : Rq} {M : Mem} {mk t lw pl : Nat} {d : Td} {a s w : Int32} (hu : X_cu mk t lw pl d M) (hx : X_tm t d M) (wf : Wf d) (k : ∀ M', r_fx [(0, 0), (53, 1)] [54] M M' → M'.1 0 0 = nI (g_bars d a s w).2 → Q (some (.int (g_bars d a s w).1)) GX M') : Ca 3 mt_X11_bars 0 0 [.ref 0, .int a, .int s, .int w] GX M Q := by
  refine Ca_of rfl (Nat.le_of_ble_eq_true rfl) ?_
  have hb := wf.1
  have hp := pw_le hb.1
  have ht : isTown t := hu.1.2.2.2
  have em : (-1 : Int32).toInt = -1 := rfl
  refine Ru_aload_n (pc := 0) dX11_bars_0 rfl rfl ?_
  refine Ru_iload_n (pc := 1) dX11_bars_1 rfl rfl ?_
  refine Ru_cv1 (pc := 2) dX11_bars_2 mv_X11_214 rfl (by decide) (Nat.le_of_ble_eq_true rfl) (c_X11_isThing hu hx wf ?_) 
  refine Ru_if_eqB (pc := 5) 16 dX11_bars_5 (by decide) (fun h1 => ?_) (fun h1 => ?_)
  · replace h1 := of_decide_eq_false h1
    refine Ru_aload_n (pc := 16) dX11_bars_16 rfl rfl ?_
    refine Ru_iconst (pc := 17) (nI 2) dX11_bars_17 rfl ?_
    refine Ru_cv1 (pc := 18) dX11_bars_18 mv_X11_112 rfl (by decide) (Nat.le_of_ble_eq_true rfl) (c_X11_fail ?_) 
    refine Ru_iret (pc := 21) dX11_bars_21 rfl ⟨Nat.le_refl _, Nat.le_refl _⟩ ?_
    have e : g_bars d a s w = (-1, 2) := by
      unfold g_bars
      rw [if_pos (by omega)]
    rw [e] at k
    exact k _ (r_fx.sI rfl r_fx.rf) r_sI_s
  · replace h1 := of_decide_eq_true h1
    refine Ru_aload_n (pc := 8) dX11_bars_8 rfl rfl ?_
    refine Ru_iload_n (pc := 9) dX11_bars_9 rfl rfl ?_
    refine Ru_cv1 (pc := 10) dX11_bars_10 mv_X11_254 rfl (by decide) (Nat.le_of_ble_eq_true rfl) (c_X11_isSet hu hx wf ?_) 
    refine Ru_if_neB (pc := 13) 22 dX11_bars_13 (by decide) (fun h2 => ?_) (fun h2 => ?_)
    · replace h2 := of_decide_eq_true h2
      refine Ru_iload_n (pc := 22) dX11_bars_22 rfl rfl ?_
      refine Ru_if_ltT (pc := 23) 31 dX11_bars_23 (by decide) (fun h3 => ?_) (fun h3 => ?_)
      · refine Ru_aload_n (pc := 31) dX11_bars_31 rfl rfl ?_
        refine Ru_iconst (pc := 32) (nI 5) dX11_bars_32 rfl ?_
        refine Ru_cv1 (pc := 33) dX11_bars_33 mv_X11_112 rfl (by decide) (Nat.le_of_ble_eq_true rfl) (c_X11_fail ?_) 
        refine Ru_iret (pc := 36) dX11_bars_36 rfl ⟨Nat.le_refl _, Nat.le_refl _⟩ ?_
        have e : g_bars d a s w = (-1, 5) := by
          unfold g_bars
          rw [if_neg (by omega), if_pos (by omega)]
        rw [e] at k
        exact k _ (r_fx.sI rfl r_fx.rf) r_sI_s
      · refine Ru_iload_n (pc := 26) dX11_bars_26 rfl rfl ?_
        refine Ru_iconst (pc := 27) (nI 1) dX11_bars_27 rfl ?_
        refine Ru_icmp_leL (pc := 28) 37 dX11_bars_28 (by decide) (by omega) (fun h4 => ?_) (fun h4 => ?_)
        · obtain ⟨a', ha', rfl⟩ := r_nat (x := a) (n := 8) (by omega) (by omega)
          have ea := r_tn (show a' < 2147483648 by omega)
          obtain ⟨s', hs', rfl⟩ := r_nat (x := s) (n := 256) (by omega) (by omega)
          have es := r_tn (show s' < 2147483648 by omega)
          have hzf := sFm_le (d := d) (x := sT d s') (t := a') (d 1) 0
          have hzf2 : (nM (sFirst d (sT d s') a')).toInt = (sFirst d (sT d s') a' : Int) - 1 := nM_t (by unfold sFirst; omega)
          refine Ru_aload_n (pc := 37) dX11_bars_37 rfl rfl ?_
          refine Ru_getR (pc := 38) 53 dX11_bars_38 fl_X11_61 rfl rfl (rfX_of (o := 0) (j := 53) rfl rfl) ?_
          refine Ru_aload_n (pc := 41) dX11_bars_41 rfl rfl ?_
          refine Ru_cv0 (pc := 42) dX11_bars_42 mv_X11_154 rfl (by decide) (Nat.le_of_ble_eq_true rfl) (c_X11_now hu ?_) 
          refine Ru_iload_n (pc := 45) dX11_bars_45 rfl rfl ?_
          refine Ru_cv2 (pc := 46) dX11_bars_46 mv_X11_274 rfl (by decide) (Nat.le_of_ble_eq_true rfl) (c_X7_reckon ht hx wf (s := s') (by omega) (fun M2 hs2 htw2 fx2 => ?_)) 
          have hx2 : X_tm t d M2 := (X_tm_dp ht d).kp fx2 rfl hx
          refine Ru_aload_n (pc := 49) dX11_bars_49 rfl rfl ?_
          refine Ru_getR (pc := 50) 53 dX11_bars_50 fl_X11_61 rfl rfl (rfX_of (o := 0) (j := 53) rfl rfl) ?_
          refine Ru_iload_n (pc := 53) dX11_bars_53 rfl rfl ?_
          refine Ru_cv1 (pc := 54) dX11_bars_54 mv_X11_281 rfl (by decide) (Nat.le_of_ble_eq_true rfl) (c_X7_firstMaking (x := sT d s') ht hx2 wf htw2 (by omega) hs2 (sT_le d s') ?_) 
          refine Ru_istore (pc := 57) dX11_bars_57 rfl (by decide) ?_
          refine Ru_iload (pc := 59) dX11_bars_59 rfl ?_
          refine Ru_iconst (pc := 61) (-1) dX11_bars_61 rfl ?_
          refine Ru_icmp_neT (pc := 62) 72 dX11_bars_62 (by decide) (fun h5 => ?_) (fun h5 => ?_)
          · obtain ⟨m, em1⟩ : ∃ m, sFirst d (sT d s') a' = m + 1 := ⟨sFirst d (sT d s') a' - 1, by omega⟩
            have hmm := sFirst_ok em1
            have hm5 := wf.2.2.2.2.1 m hmm.1
            have hnd : sNd d m < 2 ^ d 0 := r_or_lt hm5.2.2.2.1 hm5.2.2.2.2.1
            have hln := sLn_le (sT d s') (sNd d m) (d 0)
            have hzl : (nM (sLn (sT d s') (sNd d m) (d 0))).toInt = (sLn (sT d s') (sNd d m) (d 0) : Int) - 1 := nM_t (by omega)
            rw [em1]
            refine Ru_weak (L' := [(0, some (.ref 0)), (1, some (.int (nI a'))), (2, some (.int (nI s'))), (3, some (.int w)), (4, some (.int (nI m)))]) ?_ rfl
            refine Ru_iload_n (pc := 72) dX11_bars_72 rfl rfl ?_
            refine Ru_if_neT (pc := 73) 83 dX11_bars_73 (by decide) (fun h6 => ?_) (fun h6 => ?_)
            · refine Ru_aload_n (pc := 83) dX11_bars_83 rfl rfl ?_
              refine Ru_getR (pc := 84) 53 dX11_bars_84 fl_X11_61 rfl rfl (rfX_of (o := 0) (j := 53) rfl rfl) ?_
              refine Ru_iload (pc := 87) dX11_bars_87 rfl ?_
              refine Ru_cv1 (pc := 89) dX11_bars_89 mv_X11_284 rfl (by decide) (Nat.le_of_ble_eq_true rfl) (c_X7_lastNeed (x := sT d s') ht hx2 wf htw2 hmm.1 hs2 (sT_le d s') ?_) 
              refine Ru_istore (pc := 92) dX11_bars_92 rfl (by decide) ?_
              refine Ru_iload (pc := 94) dX11_bars_94 rfl ?_
              refine Ru_iconst (pc := 96) (-1) dX11_bars_96 rfl ?_
              refine Ru_icmp_neT (pc := 97) 109 dX11_bars_97 (by decide) (fun h7 => ?_) (fun h7 => ?_)
              · refine Ru_aload_n (pc := 109) dX11_bars_109 rfl rfl ?_
                refine Ru_iload (pc := 110) dX11_bars_110 rfl ?_
                refine Ru_cv1 (pc := 112) dX11_bars_112 mv_X11_170 rfl (by decide) (Nat.le_of_ble_eq_true rfl) (c_X11_tell ?_) 
                refine Ru_iret (pc := 115) dX11_bars_115 rfl ⟨Nat.le_refl _, Nat.le_refl _⟩ ?_
                have e : g_bars d (nI a') (nI s') w = ((nM (sLn (sT d s') (sNd d m) (d 0))), 0) := by
                  unfold g_bars
                  rw [if_neg (by omega), if_neg (by omega), r_tnn (show a' < 2147483648 by omega), r_tnn (show s' < 2147483648 by omega)]
                  rw [if_neg (by omega)]
                  rw [if_neg (by omega), em1, Nat.add_sub_cancel]
                  rw [if_neg (by omega)]
                rw [e] at k
                exact k _ (r_fx.sI rfl (fx2.mono rfl)) r_sI_s
              · refine Ru_aload_n (pc := 100) dX11_bars_100 rfl rfl ?_
                refine Ru_bipush (pc := 101) (nI 8) dX11_bars_101 rfl ?_
                refine Ru_cv1 (pc := 103) dX11_bars_103 mv_X11_112 rfl (by decide) (Nat.le_of_ble_eq_true rfl) (c_X11_fail ?_) 
                refine Ru_goto (pc := 106) 115 dX11_bars_106 (by decide) ?_
                refine Ru_iret (pc := 115) dX11_bars_115 rfl ⟨Nat.le_refl _, Nat.le_refl _⟩ ?_
                have e : g_bars d (nI a') (nI s') w = (-1, 8) := by
                  unfold g_bars
                  rw [if_neg (by omega), if_neg (by omega), r_tnn (show a' < 2147483648 by omega), r_tnn (show s' < 2147483648 by omega)]
                  rw [if_neg (by omega)]
                  rw [if_neg (by omega), em1, Nat.add_sub_cancel]
                  rw [if_pos (by omega)]
                rw [e] at k
                exact k _ (r_fx.sI rfl (fx2.mono rfl)) r_sI_s
            · refine Ru_aload_n (pc := 76) dX11_bars_76 rfl rfl ?_
              refine Ru_iload (pc := 77) dX11_bars_77 rfl ?_
              refine Ru_cv1 (pc := 79) dX11_bars_79 mv_X11_170 rfl (by decide) (Nat.le_of_ble_eq_true rfl) (c_X11_tell ?_) 
              refine Ru_iret (pc := 82) dX11_bars_82 rfl ⟨Nat.le_refl _, Nat.le_refl _⟩ ?_
              have e : g_bars d (nI a') (nI s') w = ((nI m), 0) := by
                unfold g_bars
                rw [if_neg (by omega), if_neg (by omega), r_tnn (show a' < 2147483648 by omega), r_tnn (show s' < 2147483648 by omega)]
                rw [if_neg (by omega)]
                rw [if_pos (by omega), em1]
                rfl
              rw [e] at k
              exact k _ (r_fx.sI rfl (fx2.mono rfl)) r_sI_s
          · refine Ru_aload_n (pc := 65) dX11_bars_65 rfl rfl ?_
            refine Ru_bipush (pc := 66) (nI 8) dX11_bars_66 rfl ?_
            refine Ru_cv1 (pc := 68) dX11_bars_68 mv_X11_112 rfl (by decide) (Nat.le_of_ble_eq_true rfl) (c_X11_fail ?_) 
            refine Ru_iret (pc := 71) dX11_bars_71 rfl ⟨Nat.le_refl _, Nat.le_refl _⟩ ?_
            have e : g_bars d (nI a') (nI s') w = (-1, 8) := by
              unfold g_bars
              rw [if_neg (by omega), if_neg (by omega), r_tnn (show a' < 2147483648 by omega), r_tnn (show s' < 2147483648 by omega)]
              rw [if_pos (by omega)]
            rw [e] at k
            exact k _ (r_fx.sI rfl (fx2.mono rfl)) r_sI_s
        · refine Ru_aload_n (pc := 31) dX11_bars_31 rfl rfl ?_
          refine Ru_iconst (pc := 32) (nI 5) dX11_bars_32 rfl ?_
          refine Ru_cv1 (pc := 33) dX11_bars_33 mv_X11_112 rfl (by decide) (Nat.le_of_ble_eq_true rfl) (c_X11_fail ?_) 
          refine Ru_iret (pc := 36) dX11_bars_36 rfl ⟨Nat.le_refl _, Nat.le_refl _⟩ ?_
          have e : g_bars d a s w = (-1, 5) := by
            unfold g_bars
            rw [if_neg (by omega), if_pos (by omega)]
          rw [e] at k
          exact k _ (r_fx.sI rfl r_fx.rf) r_sI_s
    · replace h2 := of_decide_eq_false h2
      refine Ru_aload_n (pc := 16) dX11_bars_16 rfl rfl ?_
      refine Ru_iconst (pc := 17) (nI 2) dX11_bars_17 rfl ?_
      refine Ru_cv1 (pc := 18) dX11_bars_18 mv_X11_112 rfl (by decide) (Nat.le_of_ble_eq_true rfl) (c_X11_fail ?_) 
      refine Ru_iret (pc := 21) dX11_bars_21 rfl ⟨Nat.le_refl _, Nat.le_refl _⟩ ?_
      have e : g_bars d a s w = (-1, 2) := by
        unfold g_bars
        rw [if_pos (by omega)]
      rw [e] at k
      exact k _ (r_fx.sI rfl r_fx.rf) r_sI_s
