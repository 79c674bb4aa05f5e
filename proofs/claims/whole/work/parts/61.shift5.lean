theorem c_X12_shift {Q : Rq} {M : Mem} {d : Td} {h : Int32} (hy : Y_tm 0 d M) (wf : Wf d) (k : ∀ M', r_fx [(0, 0), (0, 1)] [] M M' → M'.1 0 0 = nI (g_shift d h).2 → Q (some (.int (g_shift d h).1)) GY M') : Ca 3 mt_X12_shift 0 0 [.ref 0, .int h] GY M Q := by
  refine Ca_of rfl (Nat.le_of_ble_eq_true rfl) ?_
  have hb := wf.1
  have hc : ∀ k, k < 521 → (r_sI (r_sI M 0 1 (nI 0)) 0 0 (nI 0)).1 5 k = nI (d k) := fun k hk => (r_sI_n (by omega)).trans ((r_sI_n (by omega)).trans (Y_tm_z hy k hk))
  refine Ru_aload_n (pc := 0) dX12_shift_0 rfl rfl ?_
  refine Ru_iconst (pc := 1) (nI 0) dX12_shift_1 rfl ?_
  refine Ru_putI (pc := 2) rfl dX12_shift_2 fl_X12_87 rfl ?_
  refine Ru_aload_n (pc := 5) dX12_shift_5 rfl rfl ?_
  refine Ru_iconst (pc := 6) (nI 0) dX12_shift_6 rfl ?_
  refine Ru_putI (pc := 7) rfl dX12_shift_7 fl_X12_90 rfl ?_
  refine Ru_iload_n (pc := 10) dX12_shift_10 rfl rfl ?_
  refine Ru_i2l (pc := 11) _ dX12_shift_11 rfl ?_
  refine Ru_lconst (pc := 12) 0 dX12_shift_12 rfl ?_
  refine Ru_ldc2 (pc := 13) dX12_shift_13 tw_2049 ?_
  refine Ru_cs3 (pc := 16) dX12_shift_16 ms_X12_122 (by decide) (Nat.le_of_ble_eq_true rfl) (c_X12_isIn (0) (16777215) rfl rfl ?_) 
  refine Ru_if_neB (pc := 19) 28 dX12_shift_19 (by decide) (fun h1 => ?_) (fun h1 => ?_)
  · replace h1 := of_decide_eq_true h1
    obtain ⟨h', hh', rfl⟩ := r_nat (x := h) (n := 16777216) (by omega) (by omega)
    have eh := r_tn (show h' < 2147483648 by omega)
    refine Ru_iconst (pc := 28) (-1) dX12_shift_28 rfl ?_
    refine Ru_istore_n (pc := 29) dX12_shift_29 rfl rfl (by decide) ?_
    refine Ru_iconst (pc := 30) (nI 0) dX12_shift_30 rfl ?_
    refine Ru_istore_n (pc := 31) dX12_shift_31 rfl rfl (by decide) ?_
    refine Ru_weak (l_X12_shift hc wf (hs := h') (by omega) (fun z => ?_) (fun z => ?_) (2 ^ d 2) 0 rfl (Nat.zero_le _)) rfl
    · have e : g_shift d (nI h') = (-1, 9) := by
        unfold g_shift
        rw [if_neg (by omega), r_tnn (by omega), if_pos z]
      rw [e] at k
      exact k _ (r_fx.sI rfl (r_fx.sI rfl (r_fx.sI rfl r_fx.rf))) r_sI_s
    · have e : g_shift d (nI h') = (nM (shB d h' (2 ^ d 2)), 0) := by
        unfold g_shift
        rw [if_neg (by omega), r_tnn (by omega), if_neg z]
      rw [e] at k
      exact k _ (r_fx.sI rfl (r_fx.sI rfl r_fx.rf)) r_sI_s
  · replace h1 := of_decide_eq_false h1
    refine Ru_aload_n (pc := 22) dX12_shift_22 rfl rfl ?_
    refine Ru_iconst (pc := 23) (nI 5) dX12_shift_23 rfl ?_
    refine Ru_cv1 (pc := 24) dX12_shift_24 mv_X12_351 rfl (by decide) (Nat.le_of_ble_eq_true rfl) (c_X12_refuse ?_) 
    refine Ru_iret (pc := 27) dX12_shift_27 rfl ⟨Nat.le_refl _, Nat.le_refl _⟩ ?_
    have e : g_shift d h = (-1, 5) := by
      unfold g_shift
      rw [if_pos (by omega)]
    rw [e] at k
    exact k _ (r_fx.sI rfl (r_fx.sI rfl (r_fx.sI rfl r_fx.rf))) r_sI_s
