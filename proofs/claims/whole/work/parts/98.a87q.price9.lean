-- PRICE again, with what it changes told closer
theorem c_X12_price9 {Q : Rq} {M : Mem} {d : Td} {a y s : Int32} (hy : Y_tm 0 d M) (wf : Wf d) (k : ∀ M', r_fx [(0, 0), (0, 1), (0, 45), (0, 46), (0, 47)] [8, 10] M M' → M'.1 0 0 = nI (g_price d a y s).2 → Q (some (.int (g_price d a y s).1)) GY M') : Ca 5 mt_X12_price 0 0 [.ref 0, .int a, .int y, .int s] GY M Q := by
  refine Ca_of rfl (Nat.le_of_ble_eq_true rfl) ?_
  have hb := wf.1
  have hp := pw_le hb.1
  have hc : ∀ k, k < 521 → M.1 5 k = nI (d k) := Y_tm_z hy
  refine Ru_aload_n (pc := 0) dX12_price_0 rfl rfl ?_
  refine Ru_iconst (pc := 1) (nI 0) dX12_price_1 rfl ?_
  refine Ru_putI (pc := 2) rfl dX12_price_2 fl_X12_87 rfl ?_
  refine Ru_aload_n (pc := 5) dX12_price_5 rfl rfl ?_
  refine Ru_iconst (pc := 6) (nI 0) dX12_price_6 rfl ?_
  refine Ru_putI (pc := 7) rfl dX12_price_7 fl_X12_90 rfl ?_
  refine Ru_aload_n (pc := 10) dX12_price_10 rfl rfl ?_
  refine Ru_iload_n (pc := 11) dX12_price_11 rfl rfl ?_
  refine Ru_cv1 (pc := 12) dX12_price_12 mv_X12_357 rfl (by decide) (Nat.le_of_ble_eq_true rfl) (c_X12_isThing (fun k hk => ((r_sI_n (by omega)).trans ((r_sI_n (by omega)).trans (hc k hk)))) wf ?_) 
  refine Ru_if_eqB (pc := 15) 26 dX12_price_15 (by decide) (fun h1 => ?_) (fun h1 => ?_)
  · replace h1 := of_decide_eq_false h1
    refine Ru_aload_n (pc := 26) dX12_price_26 rfl rfl ?_
    refine Ru_iconst (pc := 27) (nI 2) dX12_price_27 rfl ?_
    refine Ru_cv1 (pc := 28) dX12_price_28 mv_X12_351 rfl (by decide) (Nat.le_of_ble_eq_true rfl) (c_X12_refuse ?_) 
    refine Ru_iret (pc := 31) dX12_price_31 rfl ⟨Nat.le_refl _, Nat.le_refl _⟩ ?_
    have e : g_price d a y s = (-1, 2) := by
      unfold g_price
      rw [if_pos (by omega)]
    rw [e] at k
    exact k _ (r_fx.sI rfl (r_fx.sI rfl (r_fx.sI rfl r_fx.rf))) r_sI_s
  · replace h1 := of_decide_eq_true h1
    refine Ru_aload_n (pc := 18) dX12_price_18 rfl rfl ?_
    refine Ru_iload_n (pc := 19) dX12_price_19 rfl rfl ?_
    refine Ru_cv1 (pc := 20) dX12_price_20 mv_X12_386 rfl (by decide) (Nat.le_of_ble_eq_true rfl) (c_X12_isSet (fun k hk => ((r_sI_n (by omega)).trans ((r_sI_n (by omega)).trans (hc k hk)))) wf ?_) 
    refine Ru_if_neB (pc := 23) 32 dX12_price_23 (by decide) (fun h2 => ?_) (fun h2 => ?_)
    · replace h2 := of_decide_eq_true h2
      refine Ru_iload_n (pc := 32) dX12_price_32 rfl rfl ?_
      refine Ru_i2l (pc := 33) _ dX12_price_33 rfl ?_
      refine Ru_lconst (pc := 34) 0 dX12_price_34 rfl ?_
      refine Ru_ldc2 (pc := 35) dX12_price_35 tw_1939 ?_
      refine Ru_cs3 (pc := 38) dX12_price_38 ms_X12_122 (by decide) (Nat.le_of_ble_eq_true rfl) (c_X12_isIn (0) (24) rfl rfl ?_) 
      refine Ru_if_neB (pc := 41) 50 dX12_price_41 (by decide) (fun h3 => ?_) (fun h3 => ?_)
      · replace h3 := of_decide_eq_true h3
        obtain ⟨a', ha', rfl⟩ := r_nat (x := a) (n := 8) (by omega) (by omega)
        have ea := r_tn (show a' < 2147483648 by omega)
        obtain ⟨y', hy', rfl⟩ := r_nat (x := y) (n := 25) (by omega) (by omega)
        have ey := r_tn (show y' < 2147483648 by omega)
        obtain ⟨s', hs', rfl⟩ := r_nat (x := s) (n := 256) (by omega) (by omega)
        have es := r_tn (show s' < 2147483648 by omega)
        refine Ru_aload_n (pc := 50) dX12_price_50 rfl rfl ?_
        refine Ru_cv0 (pc := 51) dX12_price_51 mv_X12_448 rfl (by decide) (Nat.le_of_ble_eq_true rfl) (c_X12_nothingBehind (fun M2 g10 gx2 => ?_)) 
        have fx2 : r_fx [(0, 0), (0, 1)] [10] M M2 := (r_fx.mono ((r_fx.sI rfl (r_fx.sI rfl r_fx.rf)) : r_fx [(0, 0), (0, 1)] [] M (r_sI (r_sI M 0 1 (nI 0)) 0 0 (nI 0))) rfl).tr (gx2.mono rfl)
        have hc2 : ∀ k, k < 521 → M2.1 5 k = nI (d k) := fun k hk => (fx2 5 k rfl).1.trans (hc k hk)
        have hst2 : M2.1 0 0 = nI 0 := (gx2 0 0 rfl).1.trans r_sI_s
        refine Ru_aload_n (pc := 54) dX12_price_54 rfl rfl ?_
        refine Ru_cv0 (pc := 55) dX12_price_55 mv_X12_451 rfl (by decide) (Nat.le_of_ble_eq_true rfl) (c_X12_tellDay (B := fun _ => 0) (C := 0) hc2 wf (fun s hs => g10 s (by omega)) (fun _ => Nat.le_refl _) (by omega) (fun M3 hv3 gx3 => ?_)) 
        have fx3 : r_fx [(0, 0), (0, 1), (0, 45), (0, 46), (0, 47)] [8, 10] M M3 := (fx2.mono rfl).tr (gx3.mono rfl)
        have hc3 : ∀ k, k < 521 → M3.1 5 k = nI (d k) := fun k hk => (fx3 5 k rfl).1.trans (hc k hk)
        have hst3 : M3.1 0 0 = nI 0 := (gx3 0 0 rfl).1.trans hst2
        have hvb : ∀ t' s', dA d (fun _ => 0) t' s' ≤ 100000000 := fun t' s' => by
          have := dV_b3 wf (B := fun _ => 0) (C := 0) (fun _ => Nat.le_refl _) (show 25 ≤ 25 by omega) t' s'
          have e : dA d (fun _ => 0) t' s' = dV d (fun _ => 0) 25 t' s' := rfl
          omega
        refine Ru_aload_n (pc := 58) dX12_price_58 rfl rfl ?_
        refine Ru_getR (pc := 59) 8 dX12_price_59 fl_X12_45 rfl rfl rfl ?_
        refine Ru_sipush (pc := 62) (nI 256) dX12_price_62 rfl ?_
        refine Ru_iload_n (pc := 65) dX12_price_65 rfl rfl ?_
        refine Ru_imulN (pc := 66) dX12_price_66 ?_
        refine Ru_iload_n (pc := 67) dX12_price_67 rfl rfl ?_
        refine Ru_iconst (pc := 68) (nI 1) dX12_price_68 rfl ?_
        refine Ru_iload_n (pc := 69) dX12_price_69 rfl rfl ?_
        refine Ru_ishl1N (pc := 70) dX12_price_70 (by omega) ?_
        refine Ru_iorN (pc := 71) dX12_price_71 ?_
        refine Ru_iaddN (pc := 72) dX12_price_72 ?_
        refine Ru_iald (pc := 73) dX12_price_73 rfl ⟨by have := (r_or_lt (n := d 0) (a := s') (b := 2 ^ a') (by omega) (Nat.pow_lt_pow_right (by decide) (by omega))); omega, by decide⟩ ?_
        refine Ru_top (hv3 y' (s' ||| (2 ^ a')) (by omega) (r_or_lt (by omega) (Nat.pow_lt_pow_right (by decide) (by omega)))) ?_
        refine Ru_aload_n (pc := 74) dX12_price_74 rfl rfl ?_
        refine Ru_getR (pc := 75) 8 dX12_price_75 fl_X12_45 rfl rfl rfl ?_
        refine Ru_sipush (pc := 78) (nI 256) dX12_price_78 rfl ?_
        refine Ru_iload_n (pc := 81) dX12_price_81 rfl rfl ?_
        refine Ru_imulN (pc := 82) dX12_price_82 ?_
        refine Ru_iload_n (pc := 83) dX12_price_83 rfl rfl ?_
        refine Ru_iconst (pc := 84) (nI 1) dX12_price_84 rfl ?_
        refine Ru_iload_n (pc := 85) dX12_price_85 rfl rfl ?_
        refine Ru_ishl1N (pc := 86) dX12_price_86 (by omega) ?_
        refine Ru_iconst (pc := 87) (-1) dX12_price_87 rfl ?_
        refine Ru_ixor (pc := 88) dX12_price_88 ?_
        refine Ru_idifN (pc := 89) dX12_price_89 ?_
        refine Ru_iaddN (pc := 90) dX12_price_90 ?_
        refine Ru_iald (pc := 91) dX12_price_91 rfl ⟨by have := (r_dif_le s' (2 ^ a')); omega, by decide⟩ ?_
        refine Ru_top (hv3 y' (r_dif s' (2 ^ a')) (by omega) (Nat.lt_of_le_of_lt (r_dif_le _ _) (by omega))) ?_
        refine Ru_isub (pc := 92) dX12_price_92 ?_
        refine Ru_iret (pc := 93) dX12_price_93 rfl ⟨Nat.le_refl _, Nat.le_refl _⟩ ?_
        have e : g_price d (nI a') (nI y') (nI s') = (((nI (vZ d y' (s' ||| (2 ^ a')))) - (nI (vZ d y' (r_dif s' (2 ^ a'))))), 0) := by
          unfold g_price
          rw [if_neg (by omega), if_neg (by omega), r_tnn (show a' < 2147483648 by omega), r_tnn (show y' < 2147483648 by omega), r_tnn (show s' < 2147483648 by omega)]
        rw [e] at k
        exact k _ fx3 hst3
      · replace h3 := of_decide_eq_false h3
        refine Ru_aload_n (pc := 44) dX12_price_44 rfl rfl ?_
        refine Ru_iconst (pc := 45) (nI 5) dX12_price_45 rfl ?_
        refine Ru_cv1 (pc := 46) dX12_price_46 mv_X12_351 rfl (by decide) (Nat.le_of_ble_eq_true rfl) (c_X12_refuse ?_) 
        refine Ru_iret (pc := 49) dX12_price_49 rfl ⟨Nat.le_refl _, Nat.le_refl _⟩ ?_
        have e : g_price d a y s = (-1, 5) := by
          unfold g_price
          rw [if_neg (by omega), if_pos (by omega)]
        rw [e] at k
        exact k _ (r_fx.sI rfl (r_fx.sI rfl (r_fx.sI rfl r_fx.rf))) r_sI_s
    · replace h2 := of_decide_eq_false h2
      refine Ru_aload_n (pc := 26) dX12_price_26 rfl rfl ?_
      refine Ru_iconst (pc := 27) (nI 2) dX12_price_27 rfl ?_
      refine Ru_cv1 (pc := 28) dX12_price_28 mv_X12_351 rfl (by decide) (Nat.le_of_ble_eq_true rfl) (c_X12_refuse ?_) 
      refine Ru_iret (pc := 31) dX12_price_31 rfl ⟨Nat.le_refl _, Nat.le_refl _⟩ ?_
      have e : g_price d a y s = (-1, 2) := by
        unfold g_price
        rw [if_pos (by omega)]
      rw [e] at k
      exact k _ (r_fx.sI rfl (r_fx.sI rfl (r_fx.sI rfl r_fx.rf))) r_sI_s
