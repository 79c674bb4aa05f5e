-- KEPT, MORE: the reference

theorem c_X12_withStays {Q : Rq} {M : Mem} {d : Td} {n A : Nat} (hc : ∀ k, k < 521 → M.1 5 k = nI (d k)) (wf : Wf d) (hn : 1 ≤ n ∧ n ≤ 9) (hA : A < 256) (hwl : Wl d) (k : ∀ M', r_fx [(0, 29), (0, 45), (0, 46), (0, 47)] [7, 8, 9, 10] M M' → Q (some (.int (nI (bV d A n (n - 2) 0)))) GY M') : Ca 6 mt_X12_withStays 0 0 [.ref 0, .int (nI A), .int (nI n)] GY M Q := by
  refine Ca_of rfl (Nat.le_of_ble_eq_true rfl) ?_
  refine Ru_aload_n (pc := 0) dX12_withStays_0 rfl rfl ?_
  refine Ru_iload_n (pc := 1) dX12_withStays_1 rfl rfl ?_
  refine Ru_putI (pc := 2) rfl dX12_withStays_2 fl_X12_375 rfl ?_
  refine Ru_aload_n (pc := 5) dX12_withStays_5 rfl rfl ?_
  refine Ru_iload_n (pc := 6) dX12_withStays_6 rfl rfl ?_
  refine Ru_iconst (pc := 7) (nI 0) dX12_withStays_7 rfl ?_
  refine Ru_cv2 (pc := 8) dX12_withStays_8 mv_X12_462 rfl (by decide) (Nat.le_of_ble_eq_true rfl) (c_X12_tellDays (A := A) (n := n) (y := 0) (fun k hk => ((r_sI_n (by omega)).trans (hc k hk))) wf (by omega) (by omega) hA hwl r_sI_s (fun M2 hv2 hd2 hb2 gx2 => ?_)) 
  have h80 : ∀ s, s < 2 ^ d 0 → M2.1 8 s = nI (bV d A n (n - 2) s) := fun s hs => by
    have := hv2 0 s (by omega) hs
    rw [Nat.mul_zero, Nat.zero_add, Nat.zero_add] at this
    exact this
  refine Ru_aload_n (pc := 11) dX12_withStays_11 rfl rfl ?_
  refine Ru_iconst (pc := 12) (nI 0) dX12_withStays_12 rfl ?_
  refine Ru_putI (pc := 13) rfl dX12_withStays_13 fl_X12_375 rfl ?_
  refine Ru_aload_n (pc := 16) dX12_withStays_16 rfl rfl ?_
  refine Ru_getR (pc := 17) 8 dX12_withStays_17 fl_X12_45 rfl rfl rfl ?_
  refine Ru_iconst (pc := 20) (nI 0) dX12_withStays_20 rfl ?_
  refine Ru_iald (pc := 21) dX12_withStays_21 rfl (by omega) ?_
  refine Ru_top ((r_sI_n (by decide)).trans (h80 0 (Nat.two_pow_pos _))) ?_
  refine Ru_iret (pc := 22) dX12_withStays_22 rfl ⟨Nat.le_refl _, Nat.le_refl _⟩ ?_
  exact k _ (r_fx.sI rfl ((r_fx.sI (F := [(0, 29), (0, 45), (0, 46), (0, 47)]) (A := [7, 8, 9, 10]) rfl r_fx.rf).tr (gx2.mono rfl)))

theorem c_X12_keptOf {Q : Rq} {M : Mem} {d : Td} {n t : Nat} (hc : ∀ k, k < 521 → M.1 5 k = nI (d k)) (wf : Wf d) (hn : 1 ≤ n ∧ n ≤ 9) (ht : t < d 0) (hwl : Wl d) (k : ∀ M', r_fx [(0, 29), (0, 45), (0, 46), (0, 47)] [7, 8, 9, 10] M M' → Q (some (.int (nI (bV d 0 n (n - 2) (2 ^ t)) - nI (bV d 0 n (n - 2) 0)))) GY M') : Ca 6 mt_X12_keptOf 0 0 [.ref 0, .int (nI t), .int (nI n)] GY M Q := by
  refine Ca_of rfl (Nat.le_of_ble_eq_true rfl) ?_
  have hb := wf.1
  have hp := pw_le hb.1
  refine Ru_aload_n (pc := 0) dX12_keptOf_0 rfl rfl ?_
  refine Ru_iconst (pc := 1) (nI 0) dX12_keptOf_1 rfl ?_
  refine Ru_putI (pc := 2) rfl dX12_keptOf_2 fl_X12_375 rfl ?_
  refine Ru_aload_n (pc := 5) dX12_keptOf_5 rfl rfl ?_
  refine Ru_iload_n (pc := 6) dX12_keptOf_6 rfl rfl ?_
  refine Ru_iconst (pc := 7) (nI 0) dX12_keptOf_7 rfl ?_
  refine Ru_cv2 (pc := 8) dX12_keptOf_8 mv_X12_462 rfl (by decide) (Nat.le_of_ble_eq_true rfl) (c_X12_tellDays (A := 0) (n := n) (y := 0) (fun k hk => ((r_sI_n (by omega)).trans (hc k hk))) wf (by omega) (by omega) (by decide) hwl r_sI_s (fun M2 hv2 hd2 hb2 gx2 => ?_)) 
  have fx2 : r_fx [(0, 29), (0, 45), (0, 46), (0, 47)] [7, 8, 9, 10] M M2 := r_fx.tr ((r_fx.sI rfl r_fx.rf)) (gx2.mono rfl)
  have h80 : ∀ s, s < 2 ^ d 0 → M2.1 8 s = nI (bV d 0 n (n - 2) s) := fun s hs => by
    have := hv2 0 s (by omega) hs
    rw [Nat.mul_zero, Nat.zero_add, Nat.zero_add] at this
    exact this
  refine Ru_aload_n (pc := 11) dX12_keptOf_11 rfl rfl ?_
  refine Ru_getR (pc := 12) 8 dX12_keptOf_12 fl_X12_45 rfl rfl rfl ?_
  refine Ru_iconst (pc := 15) (nI 1) dX12_keptOf_15 rfl ?_
  refine Ru_iload_n (pc := 16) dX12_keptOf_16 rfl rfl ?_
  refine Ru_ishl1N (pc := 17) dX12_keptOf_17 (by omega) ?_
  refine Ru_iald (pc := 18) dX12_keptOf_18 rfl ⟨by have := Nat.pow_lt_pow_right (a := 2) (by decide) ht; omega, by decide⟩ ?_
  refine Ru_top (h80 (2 ^ t) (Nat.pow_lt_pow_right (by decide) (by omega))) ?_
  refine Ru_aload_n (pc := 19) dX12_keptOf_19 rfl rfl ?_
  refine Ru_getR (pc := 20) 8 dX12_keptOf_20 fl_X12_45 rfl rfl rfl ?_
  refine Ru_iconst (pc := 23) (nI 0) dX12_keptOf_23 rfl ?_
  refine Ru_iald (pc := 24) dX12_keptOf_24 rfl (by omega) ?_
  refine Ru_top (h80 0 (Nat.two_pow_pos _)) ?_
  refine Ru_isub (pc := 25) dX12_keptOf_25 ?_
  refine Ru_iret (pc := 26) dX12_keptOf_26 rfl ⟨Nat.le_refl _, Nat.le_refl _⟩ ?_
  exact k _ fx2

theorem c_X12_kept {Q : Rq} {M : Mem} {d : Td} {a n : Int32} (hy : Y_tm 0 d M) (wf : Wf d) (hwl : Wl d) (k : ∀ M', r_fx [(0, 0), (0, 1), (0, 29), (0, 45), (0, 46), (0, 47)] [7, 8, 9, 10] M M' → M'.1 0 0 = nI (g_kept d a n).2 → Q (some (.int (g_kept d a n).1)) GY M') : Ca 7 mt_X12_kept 0 0 [.ref 0, .int a, .int n] GY M Q := by
  refine Ca_of rfl (Nat.le_of_ble_eq_true rfl) ?_
  have hb := wf.1
  have hp := pw_le hb.1
  have hc : ∀ k, k < 521 → M.1 5 k = nI (d k) := Y_tm_z hy
  refine Ru_aload_n (pc := 0) dX12_kept_0 rfl rfl ?_
  refine Ru_iconst (pc := 1) (nI 0) dX12_kept_1 rfl ?_
  refine Ru_putI (pc := 2) rfl dX12_kept_2 fl_X12_87 rfl ?_
  refine Ru_aload_n (pc := 5) dX12_kept_5 rfl rfl ?_
  refine Ru_iconst (pc := 6) (nI 0) dX12_kept_6 rfl ?_
  refine Ru_putI (pc := 7) rfl dX12_kept_7 fl_X12_90 rfl ?_
  refine Ru_aload_n (pc := 10) dX12_kept_10 rfl rfl ?_
  refine Ru_iload_n (pc := 11) dX12_kept_11 rfl rfl ?_
  refine Ru_cv1 (pc := 12) dX12_kept_12 mv_X12_357 rfl (by decide) (Nat.le_of_ble_eq_true rfl) (c_X12_isThing (fun k hk => ((r_sI_n (by omega)).trans ((r_sI_n (by omega)).trans (hc k hk)))) wf ?_) 
  refine Ru_if_neB (pc := 15) 24 dX12_kept_15 (by decide) (fun h1 => ?_) (fun h1 => ?_)
  · replace h1 := of_decide_eq_true h1
    refine Ru_iload_n (pc := 24) dX12_kept_24 rfl rfl ?_
    refine Ru_i2l (pc := 25) _ dX12_kept_25 rfl ?_
    refine Ru_lconst (pc := 26) 1 dX12_kept_26 rfl ?_
    refine Ru_ldc2 (pc := 27) dX12_kept_27 tw_1992 ?_
    refine Ru_cs3 (pc := 30) dX12_kept_30 ms_X12_122 (by decide) (Nat.le_of_ble_eq_true rfl) (c_X12_isIn (1) (9) rfl rfl ?_) 
    refine Ru_if_eqB (pc := 33) 45 dX12_kept_33 (by decide) (fun h2 => ?_) (fun h2 => ?_)
    · replace h2 := of_decide_eq_false h2
      refine Ru_aload_n (pc := 45) dX12_kept_45 rfl rfl ?_
      refine Ru_iconst (pc := 46) (nI 5) dX12_kept_46 rfl ?_
      refine Ru_cv1 (pc := 47) dX12_kept_47 mv_X12_351 rfl (by decide) (Nat.le_of_ble_eq_true rfl) (c_X12_refuse ?_) 
      refine Ru_iret (pc := 50) dX12_kept_50 rfl ⟨Nat.le_refl _, Nat.le_refl _⟩ ?_
      have e : g_kept d a n = (-1, 5) := by
        unfold g_kept
        rw [if_neg (by omega), if_pos (by omega)]
      rw [e] at k
      exact k _ (r_fx.sI rfl (r_fx.sI rfl (r_fx.sI rfl r_fx.rf))) r_sI_s
    · replace h2 := of_decide_eq_true h2
      obtain ⟨a', ha', rfl⟩ := r_nat (x := a) (n := 8) (by omega) (by omega)
      have ea := r_tn (show a' < 2147483648 by omega)
      obtain ⟨n', hn', rfl⟩ := r_nat (x := n) (n := 10) (by omega) (by omega)
      have en := r_tn (show n' < 2147483648 by omega)
      refine Ru_aload_n (pc := 36) dX12_kept_36 rfl rfl ?_
      refine Ru_iload_n (pc := 37) dX12_kept_37 rfl rfl ?_
      refine Ru_iload_n (pc := 38) dX12_kept_38 rfl rfl ?_
      refine Ru_cv2 (pc := 39) dX12_kept_39 mv_X12_472 rfl (by decide) (Nat.le_of_ble_eq_true rfl) (c_X12_keptOf (fun k hk => ((r_sI_n (by omega)).trans ((r_sI_n (by omega)).trans (hc k hk)))) wf (by omega) (by omega) hwl (fun M2 gx2 => ?_)) 
      have fx2 : r_fx [(0, 0), (0, 1), (0, 29), (0, 45), (0, 46), (0, 47)] [7, 8, 9, 10] M M2 := r_fx.tr ((r_fx.sI rfl (r_fx.sI rfl r_fx.rf))) (gx2.mono rfl)
      have hst2 : M2.1 0 0 = nI 0 := (gx2 0 0 rfl).1.trans (by simp [r_sI_g])
      refine Ru_goto (pc := 42) 50 dX12_kept_42 (by decide) ?_
      refine Ru_iret (pc := 50) dX12_kept_50 rfl ⟨Nat.le_refl _, Nat.le_refl _⟩ ?_
      have e : g_kept d (nI a') (nI n') = ((nI (bV d 0 n' (n' - 2) (2 ^ a')) - nI (bV d 0 n' (n' - 2) 0)), 0) := by
        unfold g_kept
        rw [if_neg (by omega), if_neg (by omega), r_tnn (show a' < 2147483648 by omega), r_tnn (show n' < 2147483648 by omega)]
      rw [e] at k
      exact k _ fx2 hst2
  · replace h1 := of_decide_eq_false h1
    refine Ru_aload_n (pc := 18) dX12_kept_18 rfl rfl ?_
    refine Ru_iconst (pc := 19) (nI 2) dX12_kept_19 rfl ?_
    refine Ru_cv1 (pc := 20) dX12_kept_20 mv_X12_351 rfl (by decide) (Nat.le_of_ble_eq_true rfl) (c_X12_refuse ?_) 
    refine Ru_iret (pc := 23) dX12_kept_23 rfl ⟨Nat.le_refl _, Nat.le_refl _⟩ ?_
    have e : g_kept d a n = (-1, 2) := by
      unfold g_kept
      rw [if_pos (by omega)]
    rw [e] at k
    exact k _ (r_fx.sI rfl (r_fx.sI rfl (r_fx.sI rfl r_fx.rf))) r_sI_s

theorem c_X12_more {Q : Rq} {M : Mem} {d : Td} {a n : Int32} (hy : Y_tm 0 d M) (wf : Wf d) (hwl : Wl d) (k : ∀ M', r_fx [(0, 0), (0, 1), (0, 29), (0, 45), (0, 46), (0, 47)] [7, 8, 9, 10] M M' → M'.1 0 0 = nI (g_more d a n).2 → Q (some (.int (g_more d a n).1)) GY M') : Ca 7 mt_X12_more 0 0 [.ref 0, .int a, .int n] GY M Q := by
  refine Ca_of rfl (Nat.le_of_ble_eq_true rfl) ?_
  have hb := wf.1
  have hp := pw_le hb.1
  have hc : ∀ k, k < 521 → M.1 5 k = nI (d k) := Y_tm_z hy
  refine Ru_aload_n (pc := 0) dX12_more_0 rfl rfl ?_
  refine Ru_iconst (pc := 1) (nI 0) dX12_more_1 rfl ?_
  refine Ru_putI (pc := 2) rfl dX12_more_2 fl_X12_87 rfl ?_
  refine Ru_aload_n (pc := 5) dX12_more_5 rfl rfl ?_
  refine Ru_iconst (pc := 6) (nI 0) dX12_more_6 rfl ?_
  refine Ru_putI (pc := 7) rfl dX12_more_7 fl_X12_90 rfl ?_
  refine Ru_aload_n (pc := 10) dX12_more_10 rfl rfl ?_
  refine Ru_iload_n (pc := 11) dX12_more_11 rfl rfl ?_
  refine Ru_cv1 (pc := 12) dX12_more_12 mv_X12_357 rfl (by decide) (Nat.le_of_ble_eq_true rfl) (c_X12_isThing (fun k hk => ((r_sI_n (by omega)).trans ((r_sI_n (by omega)).trans (hc k hk)))) wf ?_) 
  refine Ru_if_neB (pc := 15) 24 dX12_more_15 (by decide) (fun h1 => ?_) (fun h1 => ?_)
  · replace h1 := of_decide_eq_true h1
    refine Ru_iload_n (pc := 24) dX12_more_24 rfl rfl ?_
    refine Ru_i2l (pc := 25) _ dX12_more_25 rfl ?_
    refine Ru_lconst (pc := 26) 1 dX12_more_26 rfl ?_
    refine Ru_ldc2 (pc := 27) dX12_more_27 tw_1992 ?_
    refine Ru_cs3 (pc := 30) dX12_more_30 ms_X12_122 (by decide) (Nat.le_of_ble_eq_true rfl) (c_X12_isIn (1) (9) rfl rfl ?_) 
    refine Ru_if_eqB (pc := 33) 54 dX12_more_33 (by decide) (fun h2 => ?_) (fun h2 => ?_)
    · replace h2 := of_decide_eq_false h2
      refine Ru_aload_n (pc := 54) dX12_more_54 rfl rfl ?_
      refine Ru_iconst (pc := 55) (nI 5) dX12_more_55 rfl ?_
      refine Ru_cv1 (pc := 56) dX12_more_56 mv_X12_351 rfl (by decide) (Nat.le_of_ble_eq_true rfl) (c_X12_refuse ?_) 
      refine Ru_iret (pc := 59) dX12_more_59 rfl ⟨Nat.le_refl _, Nat.le_refl _⟩ ?_
      have e : g_more d a n = (-1, 5) := by
        unfold g_more
        rw [if_neg (by omega), if_pos (by omega)]
      rw [e] at k
      exact k _ (r_fx.sI rfl (r_fx.sI rfl (r_fx.sI rfl r_fx.rf))) r_sI_s
    · replace h2 := of_decide_eq_true h2
      obtain ⟨a', ha', rfl⟩ := r_nat (x := a) (n := 8) (by omega) (by omega)
      have ea := r_tn (show a' < 2147483648 by omega)
      obtain ⟨n', hn', rfl⟩ := r_nat (x := n) (n := 10) (by omega) (by omega)
      have en := r_tn (show n' < 2147483648 by omega)
      refine Ru_aload_n (pc := 36) dX12_more_36 rfl rfl ?_
      refine Ru_iconst (pc := 37) (nI 1) dX12_more_37 rfl ?_
      refine Ru_iload_n (pc := 38) dX12_more_38 rfl rfl ?_
      refine Ru_ishl1N (pc := 39) dX12_more_39 (by omega) ?_
      refine Ru_iload_n (pc := 40) dX12_more_40 rfl rfl ?_
      refine Ru_cv2 (pc := 41) dX12_more_41 mv_X12_475 rfl (by decide) (Nat.le_of_ble_eq_true rfl) (c_X12_withStays (A := (2 ^ a')) (fun k hk => ((r_sI_n (by omega)).trans ((r_sI_n (by omega)).trans (hc k hk)))) wf (by omega) (by have := Nat.pow_lt_pow_right (a := 2) (by decide) (show a' < d 0 by omega); omega) hwl (fun M2 gx2 => ?_)) 
      have fx2 : r_fx [(0, 0), (0, 1), (0, 29), (0, 45), (0, 46), (0, 47)] [7, 8, 9, 10] M M2 := r_fx.tr ((r_fx.sI rfl (r_fx.sI rfl r_fx.rf))) (gx2.mono rfl)
      have hst2 : M2.1 0 0 = nI 0 := (gx2 0 0 rfl).1.trans (by simp [r_sI_g])
      have hc2 : ∀ k, k < 521 → M2.1 5 k = nI (d k) := fun k hk => (fx2 5 k rfl).1.trans (hc k hk)
      refine Ru_aload_n (pc := 44) dX12_more_44 rfl rfl ?_
      refine Ru_iconst (pc := 45) (nI 0) dX12_more_45 rfl ?_
      refine Ru_iload_n (pc := 46) dX12_more_46 rfl rfl ?_
      refine Ru_cv2 (pc := 47) dX12_more_47 mv_X12_475 rfl (by decide) (Nat.le_of_ble_eq_true rfl) (c_X12_withStays (A := 0) hc2 wf (by omega) (by decide) hwl (fun M3 gx3 => ?_)) 
      have fx3 : r_fx [(0, 0), (0, 1), (0, 29), (0, 45), (0, 46), (0, 47)] [7, 8, 9, 10] M M3 := fx2.tr (gx3.mono rfl)
      have hst3 : M3.1 0 0 = nI 0 := (gx3 0 0 rfl).1.trans hst2
      refine Ru_isub (pc := 50) dX12_more_50 ?_
      refine Ru_goto (pc := 51) 59 dX12_more_51 (by decide) ?_
      refine Ru_iret (pc := 59) dX12_more_59 rfl ⟨Nat.le_refl _, Nat.le_refl _⟩ ?_
      have e : g_more d (nI a') (nI n') = (((nI (bV d (2 ^ a') n' (n' - 2) 0)) - (nI (bV d 0 n' (n' - 2) 0))), 0) := by
        unfold g_more
        rw [if_neg (by omega), if_neg (by omega), r_tnn (show a' < 2147483648 by omega), r_tnn (show n' < 2147483648 by omega)]
      rw [e] at k
      exact k _ fx3 hst3
  · replace h1 := of_decide_eq_false h1
    refine Ru_aload_n (pc := 18) dX12_more_18 rfl rfl ?_
    refine Ru_iconst (pc := 19) (nI 2) dX12_more_19 rfl ?_
    refine Ru_cv1 (pc := 20) dX12_more_20 mv_X12_351 rfl (by decide) (Nat.le_of_ble_eq_true rfl) (c_X12_refuse ?_) 
    refine Ru_iret (pc := 23) dX12_more_23 rfl ⟨Nat.le_refl _, Nat.le_refl _⟩ ?_
    have e : g_more d a n = (-1, 2) := by
      unfold g_more
      rw [if_pos (by omega)]
    rw [e] at k
    exact k _ (r_fx.sI rfl (r_fx.sI rfl (r_fx.sI rfl r_fx.rf))) r_sI_s

theorem l_X12_bestKept {Q : Rq} {M : Mem} {d : Td} {n' : Nat} (hc : ∀ k, k < 521 → M.1 5 k = nI (d k)) (wf : Wf d) (hd1 : 1 ≤ d 0) (hn9 : n' ≤ 9) (h80 : ∀ s, s < 2 ^ d 0 → M.1 8 s = nI (bV d 0 n' (n' - 2) s)) (k : Q (some (.int (nI (bk (fun t => bV d 0 n' (n' - 2) (2 ^ t)) (d 0 - 1))))) GY M) : ∀ (zw : Nat) (t : Nat), d 0 - t = zw → (1 ≤ t) → (t ≤ d 0) → Ru 6 mt_X12_bestKept r_z 59 [(2, some (.int (nI (bk (fun t => bV d 0 n' (n' - 2) (2 ^ t)) (t - 1))))), (3, some (.int (nI t))), (0, some (.ref 0)), (1, some (.int (nI n')))] [] GY M Q := by
  intro zw
  induction zw using Nat.strongRecOn with
  | ind zw ih =>
    intro t hw h1 hn
    subst hw
    have hb := wf.1
    have hp := pw_le hb.1
    have hbk := bk_le (fun t => bV d 0 n' (n' - 2) (2 ^ t)) (t - 1)
    have hv1 := bV_b wf (A := 0) (z := n' - 2) hn9 (2 ^ t)
    have hv2 := bV_b wf (A := 0) (z := n' - 2) hn9 (2 ^ bk (fun t => bV d 0 n' (n' - 2) (2 ^ t)) (t - 1))
    refine Ru_iload_n (pc := 59) dX12_bestKept_59 rfl rfl ?_
    refine Ru_aload_n (pc := 60) dX12_bestKept_60 rfl rfl ?_
    refine Ru_getR (pc := 61) 5 dX12_bestKept_61 fl_X12_35 rfl rfl rfl ?_
    refine Ru_iconst (pc := 64) (nI 0) dX12_bestKept_64 rfl ?_
    refine Ru_iald (pc := 65) dX12_bestKept_65 rfl (by omega) ?_
    refine Ru_top (hc 0 (by omega)) ?_
    refine Ru_icmp_geN (pc := 66) 96 dX12_bestKept_66 (by decide) (by omega) (fun h1 => ?_) (fun h1 => ?_)
    · refine Ru_iload_n (pc := 96) dX12_bestKept_96 rfl rfl ?_
      refine Ru_iret (pc := 97) dX12_bestKept_97 rfl ⟨Nat.le_refl _, Nat.le_refl _⟩ ?_
      have et : t = d 0 := by omega
      subst et
      exact k
    · refine Ru_aload_n (pc := 69) dX12_bestKept_69 rfl rfl ?_
      refine Ru_getR (pc := 70) 8 dX12_bestKept_70 fl_X12_45 rfl rfl rfl ?_
      refine Ru_iconst (pc := 73) (nI 1) dX12_bestKept_73 rfl ?_
      refine Ru_iload_n (pc := 74) dX12_bestKept_74 rfl rfl ?_
      refine Ru_ishl1N (pc := 75) dX12_bestKept_75 (by omega) ?_
      refine Ru_iald (pc := 76) dX12_bestKept_76 rfl ⟨by have := Nat.pow_lt_pow_right (a := 2) (by decide) (show t < d 0 by omega); omega, by decide⟩ ?_
      refine Ru_top (h80 (2 ^ t) (Nat.pow_lt_pow_right (by decide) (by omega))) ?_
      refine Ru_aload_n (pc := 77) dX12_bestKept_77 rfl rfl ?_
      refine Ru_getR (pc := 78) 8 dX12_bestKept_78 fl_X12_45 rfl rfl rfl ?_
      refine Ru_iconst (pc := 81) (nI 1) dX12_bestKept_81 rfl ?_
      refine Ru_iload_n (pc := 82) dX12_bestKept_82 rfl rfl ?_
      refine Ru_ishl1N (pc := 83) dX12_bestKept_83 (by omega) ?_
      refine Ru_iald (pc := 84) dX12_bestKept_84 rfl ⟨by have := Nat.pow_lt_pow_right (a := 2) (by decide) (show bk (fun t => bV d 0 n' (n' - 2) (2 ^ t)) (t - 1) < d 0 by omega); omega, by decide⟩ ?_
      refine Ru_top (h80 (2 ^ (bk (fun t => bV d 0 n' (n' - 2) (2 ^ t)) (t - 1))) (Nat.pow_lt_pow_right (by decide) (by omega))) ?_
      refine Ru_icmp_leN (pc := 85) 90 dX12_bestKept_85 (by decide) (by omega) (fun h2 => ?_) (fun h2 => ?_)
      · refine Ru_iincN (pc := 90) 1 dX12_bestKept_90 rfl rfl rfl (by decide) ?_
        refine Ru_goto (pc := 93) 59 dX12_bestKept_93 (by decide) ?_
        have e : bk (fun t => bV d 0 n' (n' - 2) (2 ^ t)) t = (bk (fun t => bV d 0 n' (n' - 2) (2 ^ t)) (t - 1)) := by
          obtain ⟨q, rfl⟩ : ∃ q, t = q + 1 := ⟨t - 1, by omega⟩
          rw [Nat.add_sub_cancel] at *
          rw [bk]
          exact if_neg (by omega)
        have hr := ih (d 0 - (t + 1)) (by omega) (t + 1) rfl (by omega) (by omega)
        rw [Nat.add_sub_cancel, e] at hr
        exact Ru_weak hr rfl
      · refine Ru_iload_n (pc := 88) dX12_bestKept_88 rfl rfl ?_
        refine Ru_istore_n (pc := 89) dX12_bestKept_89 rfl rfl (by decide) ?_
        refine Ru_iincN (pc := 90) 1 dX12_bestKept_90 rfl rfl rfl (by decide) ?_
        refine Ru_goto (pc := 93) 59 dX12_bestKept_93 (by decide) ?_
        have e : bk (fun t => bV d 0 n' (n' - 2) (2 ^ t)) t = t := by
          obtain ⟨q, rfl⟩ : ∃ q, t = q + 1 := ⟨t - 1, by omega⟩
          rw [Nat.add_sub_cancel] at *
          rw [bk]
          exact if_pos (by assumption)
        have hr := ih (d 0 - (t + 1)) (by omega) (t + 1) rfl (by omega) (by omega)
        rw [Nat.add_sub_cancel, e] at hr
        exact Ru_weak hr rfl

theorem c_X12_bestKept {Q : Rq} {M : Mem} {d : Td} {n : Int32} (hy : Y_tm 0 d M) (wf : Wf d) (hwl : Wl d) (k : ∀ M', r_fx [(0, 0), (0, 1), (0, 29), (0, 45), (0, 46), (0, 47)] [7, 8, 9, 10] M M' → M'.1 0 0 = nI (g_bestKept d n).2 → Q (some (.int (g_bestKept d n).1)) GY M') : Ca 6 mt_X12_bestKept 0 0 [.ref 0, .int n] GY M Q := by
  refine Ca_of rfl (Nat.le_of_ble_eq_true rfl) ?_
  have hb := wf.1
  have hp := pw_le hb.1
  have hc : ∀ k, k < 521 → M.1 5 k = nI (d k) := Y_tm_z hy
  refine Ru_aload_n (pc := 0) dX12_bestKept_0 rfl rfl ?_
  refine Ru_iconst (pc := 1) (nI 0) dX12_bestKept_1 rfl ?_
  refine Ru_putI (pc := 2) rfl dX12_bestKept_2 fl_X12_87 rfl ?_
  refine Ru_aload_n (pc := 5) dX12_bestKept_5 rfl rfl ?_
  refine Ru_iconst (pc := 6) (nI 0) dX12_bestKept_6 rfl ?_
  refine Ru_putI (pc := 7) rfl dX12_bestKept_7 fl_X12_90 rfl ?_
  refine Ru_iload_n (pc := 10) dX12_bestKept_10 rfl rfl ?_
  refine Ru_i2l (pc := 11) _ dX12_bestKept_11 rfl ?_
  refine Ru_lconst (pc := 12) 1 dX12_bestKept_12 rfl ?_
  refine Ru_ldc2 (pc := 13) dX12_bestKept_13 tw_1992 ?_
  refine Ru_cs3 (pc := 16) dX12_bestKept_16 ms_X12_122 (by decide) (Nat.le_of_ble_eq_true rfl) (c_X12_isIn (1) (9) rfl rfl ?_) 
  refine Ru_if_neB (pc := 19) 28 dX12_bestKept_19 (by decide) (fun h1 => ?_) (fun h1 => ?_)
  · replace h1 := of_decide_eq_true h1
    obtain ⟨n', hn', rfl⟩ := r_nat (x := n) (n := 10) (by omega) (by omega)
    have en := r_tn (show n' < 2147483648 by omega)
    refine Ru_aload_n (pc := 28) dX12_bestKept_28 rfl rfl ?_
    refine Ru_getR (pc := 29) 5 dX12_bestKept_29 fl_X12_35 rfl rfl rfl ?_
    refine Ru_iconst (pc := 32) (nI 0) dX12_bestKept_32 rfl ?_
    refine Ru_iald (pc := 33) dX12_bestKept_33 rfl (by omega) ?_
    refine Ru_top ((r_sI_n (by decide)).trans ((r_sI_n (by decide)).trans (hc 0 (by omega)))) ?_
    refine Ru_if_neN (pc := 34) 44 dX12_bestKept_34 (by decide) (by omega) (fun h2 => ?_) (fun h2 => ?_)
    · refine Ru_aload_n (pc := 44) dX12_bestKept_44 rfl rfl ?_
      refine Ru_iconst (pc := 45) (nI 0) dX12_bestKept_45 rfl ?_
      refine Ru_putI (pc := 46) rfl dX12_bestKept_46 fl_X12_375 rfl ?_
      refine Ru_aload_n (pc := 49) dX12_bestKept_49 rfl rfl ?_
      refine Ru_iload_n (pc := 50) dX12_bestKept_50 rfl rfl ?_
      refine Ru_iconst (pc := 51) (nI 0) dX12_bestKept_51 rfl ?_
      refine Ru_cv2 (pc := 52) dX12_bestKept_52 mv_X12_462 rfl (by decide) (Nat.le_of_ble_eq_true rfl) (c_X12_tellDays (A := 0) (n := n') (y := 0) (fun k hk => ((r_sI_n (by omega)).trans ((r_sI_n (by omega)).trans ((r_sI_n (by omega)).trans (hc k hk))))) wf (by omega) (by omega) (by decide) hwl r_sI_s (fun M2 hv2 hd2 hb2 gx2 => ?_)) 
      have fx2 : r_fx [(0, 0), (0, 1), (0, 29), (0, 45), (0, 46), (0, 47)] [7, 8, 9, 10] M M2 := r_fx.tr ((r_fx.sI rfl (r_fx.sI rfl (r_fx.sI rfl r_fx.rf)))) (gx2.mono rfl)
      have hst2 : M2.1 0 0 = nI 0 := (gx2 0 0 rfl).1.trans (by simp [r_sI_g])
      have h80 : ∀ s, s < 2 ^ d 0 → M2.1 8 s = nI (bV d 0 n' (n' - 2) s) := fun s hs => by
        have := hv2 0 s (by omega) hs
        rw [Nat.mul_zero, Nat.zero_add, Nat.zero_add] at this
        exact this
      refine Ru_iconst (pc := 55) (nI 0) dX12_bestKept_55 rfl ?_
      refine Ru_istore_n (pc := 56) dX12_bestKept_56 rfl rfl (by decide) ?_
      refine Ru_iconst (pc := 57) (nI 1) dX12_bestKept_57 rfl ?_
      refine Ru_istore_n (pc := 58) dX12_bestKept_58 rfl rfl (by decide) ?_
      have hc2 : ∀ k, k < 521 → M2.1 5 k = nI (d k) := fun k hk => (fx2 5 k rfl).1.trans (hc k hk)
      have e : g_bestKept d (nI n') = (nI (bk (fun t => bV d 0 n' (n' - 2) (2 ^ t)) (d 0 - 1)), 0) := by
        unfold g_bestKept
        rw [if_neg (by omega), if_neg (by omega), r_tnn (show n' < 2147483648 by omega)]
      rw [e] at k
      exact Ru_weak (l_X12_bestKept hc2 wf (by omega) (by omega) h80 (k _ fx2 hst2) (d 0 - 1) 1 rfl (by omega) (by omega)) rfl
    · refine Ru_aload_n (pc := 37) dX12_bestKept_37 rfl rfl ?_
      refine Ru_bipush (pc := 38) (nI 8) dX12_bestKept_38 rfl ?_
      refine Ru_cv1 (pc := 40) dX12_bestKept_40 mv_X12_351 rfl (by decide) (Nat.le_of_ble_eq_true rfl) (c_X12_refuse ?_) 
      refine Ru_iret (pc := 43) dX12_bestKept_43 rfl ⟨Nat.le_refl _, Nat.le_refl _⟩ ?_
      have e : g_bestKept d (nI n') = (-1, 8) := by
        unfold g_bestKept
        rw [if_neg (by omega), if_pos (by omega)]
      rw [e] at k
      exact k _ (r_fx.sI rfl (r_fx.sI rfl (r_fx.sI rfl r_fx.rf))) r_sI_s
  · replace h1 := of_decide_eq_false h1
    refine Ru_aload_n (pc := 22) dX12_bestKept_22 rfl rfl ?_
    refine Ru_iconst (pc := 23) (nI 5) dX12_bestKept_23 rfl ?_
    refine Ru_cv1 (pc := 24) dX12_bestKept_24 mv_X12_351 rfl (by decide) (Nat.le_of_ble_eq_true rfl) (c_X12_refuse ?_) 
    refine Ru_iret (pc := 27) dX12_bestKept_27 rfl ⟨Nat.le_refl _, Nat.le_refl _⟩ ?_
    have e : g_bestKept d n = (-1, 5) := by
      unfold g_bestKept
      rw [if_pos (by omega)]
    rw [e] at k
    exact k _ (r_fx.sI rfl (r_fx.sI rfl (r_fx.sI rfl r_fx.rf))) r_sI_s

theorem l_X12_bestMore {Q : Rq} {M0 : Mem} {d : Td} {n' : Nat} (hc0 : ∀ k, k < 521 → M0.1 5 k = nI (d k)) (wf : Wf d) (hwl : Wl d) (hd1 : 1 ≤ d 0) (hn9 : n' ≤ 9) (hn1 : 1 ≤ n') (k : ∀ M', r_fx [(0, 29), (0, 45), (0, 46), (0, 47)] [7, 8, 9, 10] M0 M' → Q (some (.int (nI (bk (fun t => bV d (2 ^ t) n' (n' - 2) 0) (d 0 - 1))))) GY M') : ∀ (zw : Nat) (t : Nat) (M : Mem), d 0 - t = zw → (1 ≤ t) → (t ≤ d 0) → (r_fx [(0, 29), (0, 45), (0, 46), (0, 47)] [7, 8, 9, 10] M0 M) → Ru 7 mt_X12_bestMore r_z 56 [(2, some (.int (nI (bk (fun t => bV d (2 ^ t) n' (n' - 2) 0) (t - 1))))), (3, some (.int (nI (bV d (2 ^ bk (fun t => bV d (2 ^ t) n' (n' - 2) 0) (t - 1)) n' (n' - 2) 0)))), (4, some (.int (nI t))), (0, some (.ref 0)), (1, some (.int (nI n')))] [] GY M Q := by
  intro zw
  induction zw using Nat.strongRecOn with
  | ind zw ih =>
    intro t M hw h1 hn fx
    subst hw
    have hb := wf.1
    have hp := pw_le hb.1
    have hc : ∀ k, k < 521 → M.1 5 k = nI (d k) := fun k hk => (fx 5 k rfl).1.trans (hc0 k hk)
    have hbk := bk_le (fun t => bV d (2 ^ t) n' (n' - 2) 0) (t - 1)
    have hv2 := bV_b wf (A := 2 ^ bk (fun t => bV d (2 ^ t) n' (n' - 2) 0) (t - 1)) (z := n' - 2) hn9 0
    refine Ru_iload (pc := 56) dX12_bestMore_56 rfl ?_
    refine Ru_aload_n (pc := 58) dX12_bestMore_58 rfl rfl ?_
    refine Ru_getR (pc := 59) 5 dX12_bestMore_59 fl_X12_35 rfl rfl rfl ?_
    refine Ru_iconst (pc := 62) (nI 0) dX12_bestMore_62 rfl ?_
    refine Ru_iald (pc := 63) dX12_bestMore_63 rfl (by omega) ?_
    refine Ru_top (hc 0 (by omega)) ?_
    refine Ru_icmp_geN (pc := 64) 99 dX12_bestMore_64 (by decide) (by omega) (fun h1 => ?_) (fun h1 => ?_)
    · refine Ru_iload_n (pc := 99) dX12_bestMore_99 rfl rfl ?_
      refine Ru_iret (pc := 100) dX12_bestMore_100 rfl ⟨Nat.le_refl _, Nat.le_refl _⟩ ?_
      have et : t = d 0 := by omega
      subst et
      exact k _ fx
    · refine Ru_aload_n (pc := 67) dX12_bestMore_67 rfl rfl ?_
      refine Ru_iconst (pc := 68) (nI 1) dX12_bestMore_68 rfl ?_
      refine Ru_iload (pc := 69) dX12_bestMore_69 rfl ?_
      refine Ru_ishl1N (pc := 71) dX12_bestMore_71 (by omega) ?_
      refine Ru_iload_n (pc := 72) dX12_bestMore_72 rfl rfl ?_
      refine Ru_cv2 (pc := 73) dX12_bestMore_73 mv_X12_475 rfl (by decide) (Nat.le_of_ble_eq_true rfl) (c_X12_withStays (A := 2 ^ t) hc wf (by omega) (by have := Nat.pow_lt_pow_right (a := 2) (by decide) (show t < d 0 by omega); omega) hwl (fun M2 gx2 => ?_)) 
      have fx2 := fx.tr gx2
      have hv1 := bV_b wf (A := 2 ^ t) (z := n' - 2) hn9 0
      refine Ru_istore (pc := 76) dX12_bestMore_76 rfl (by decide) ?_
      refine Ru_iload (pc := 78) dX12_bestMore_78 rfl ?_
      refine Ru_iload_n (pc := 80) dX12_bestMore_80 rfl rfl ?_
      refine Ru_icmp_gtN (pc := 81) 87 dX12_bestMore_81 (by decide) (by omega) (fun h2 => ?_) (fun h2 => ?_)
      · refine Ru_iload (pc := 87) dX12_bestMore_87 rfl ?_
        refine Ru_istore_n (pc := 89) dX12_bestMore_89 rfl rfl (by decide) ?_
        refine Ru_iload (pc := 90) dX12_bestMore_90 rfl ?_
        refine Ru_istore_n (pc := 92) dX12_bestMore_92 rfl rfl (by decide) ?_
        refine Ru_iincN (pc := 93) 1 dX12_bestMore_93 rfl rfl rfl (by decide) ?_
        refine Ru_goto (pc := 96) 56 dX12_bestMore_96 (by decide) ?_
        have e : bk (fun t => bV d (2 ^ t) n' (n' - 2) 0) t = t := by
          obtain ⟨q, rfl⟩ : ∃ q, t = q + 1 := ⟨t - 1, by omega⟩
          rw [Nat.add_sub_cancel] at *
          rw [bk]
          exact if_pos (by omega)
        have hr := ih (d 0 - (t + 1)) (by omega) (t + 1) M2 rfl (by omega) (by omega) fx2
        rw [Nat.add_sub_cancel, e] at hr
        exact Ru_weak hr rfl
      · refine Ru_goto (pc := 84) 93 dX12_bestMore_84 (by decide) ?_
        refine Ru_iincN (pc := 93) 1 dX12_bestMore_93 rfl rfl rfl (by decide) ?_
        refine Ru_goto (pc := 96) 56 dX12_bestMore_96 (by decide) ?_
        have e : bk (fun t => bV d (2 ^ t) n' (n' - 2) 0) t = (bk (fun t => bV d (2 ^ t) n' (n' - 2) 0) (t - 1)) := by
          obtain ⟨q, rfl⟩ : ∃ q, t = q + 1 := ⟨t - 1, by omega⟩
          rw [Nat.add_sub_cancel] at *
          rw [bk]
          exact if_neg (by omega)
        have hr := ih (d 0 - (t + 1)) (by omega) (t + 1) M2 rfl (by omega) (by omega) fx2
        rw [Nat.add_sub_cancel, e] at hr
        exact Ru_weak hr rfl

theorem c_X12_bestMore {Q : Rq} {M : Mem} {d : Td} {n : Int32} (hy : Y_tm 0 d M) (wf : Wf d) (hwl : Wl d) (k : ∀ M', r_fx [(0, 0), (0, 1), (0, 29), (0, 45), (0, 46), (0, 47)] [7, 8, 9, 10] M M' → M'.1 0 0 = nI (g_bestMore d n).2 → Q (some (.int (g_bestMore d n).1)) GY M') : Ca 7 mt_X12_bestMore 0 0 [.ref 0, .int n] GY M Q := by
  refine Ca_of rfl (Nat.le_of_ble_eq_true rfl) ?_
  have hb := wf.1
  have hp := pw_le hb.1
  have hc : ∀ k, k < 521 → M.1 5 k = nI (d k) := Y_tm_z hy
  refine Ru_aload_n (pc := 0) dX12_bestMore_0 rfl rfl ?_
  refine Ru_iconst (pc := 1) (nI 0) dX12_bestMore_1 rfl ?_
  refine Ru_putI (pc := 2) rfl dX12_bestMore_2 fl_X12_87 rfl ?_
  refine Ru_aload_n (pc := 5) dX12_bestMore_5 rfl rfl ?_
  refine Ru_iconst (pc := 6) (nI 0) dX12_bestMore_6 rfl ?_
  refine Ru_putI (pc := 7) rfl dX12_bestMore_7 fl_X12_90 rfl ?_
  refine Ru_iload_n (pc := 10) dX12_bestMore_10 rfl rfl ?_
  refine Ru_i2l (pc := 11) _ dX12_bestMore_11 rfl ?_
  refine Ru_lconst (pc := 12) 1 dX12_bestMore_12 rfl ?_
  refine Ru_ldc2 (pc := 13) dX12_bestMore_13 tw_1992 ?_
  refine Ru_cs3 (pc := 16) dX12_bestMore_16 ms_X12_122 (by decide) (Nat.le_of_ble_eq_true rfl) (c_X12_isIn (1) (9) rfl rfl ?_) 
  refine Ru_if_neB (pc := 19) 28 dX12_bestMore_19 (by decide) (fun h1 => ?_) (fun h1 => ?_)
  · replace h1 := of_decide_eq_true h1
    obtain ⟨n', hn', rfl⟩ := r_nat (x := n) (n := 10) (by omega) (by omega)
    have en := r_tn (show n' < 2147483648 by omega)
    refine Ru_aload_n (pc := 28) dX12_bestMore_28 rfl rfl ?_
    refine Ru_getR (pc := 29) 5 dX12_bestMore_29 fl_X12_35 rfl rfl rfl ?_
    refine Ru_iconst (pc := 32) (nI 0) dX12_bestMore_32 rfl ?_
    refine Ru_iald (pc := 33) dX12_bestMore_33 rfl (by omega) ?_
    refine Ru_top ((r_sI_n (by decide)).trans ((r_sI_n (by decide)).trans (hc 0 (by omega)))) ?_
    refine Ru_if_neN (pc := 34) 44 dX12_bestMore_34 (by decide) (by omega) (fun h2 => ?_) (fun h2 => ?_)
    · refine Ru_iconst (pc := 44) (nI 0) dX12_bestMore_44 rfl ?_
      refine Ru_istore_n (pc := 45) dX12_bestMore_45 rfl rfl (by decide) ?_
      refine Ru_aload_n (pc := 46) dX12_bestMore_46 rfl rfl ?_
      refine Ru_iconst (pc := 47) (nI 1) dX12_bestMore_47 rfl ?_
      refine Ru_iload_n (pc := 48) dX12_bestMore_48 rfl rfl ?_
      refine Ru_cv2 (pc := 49) dX12_bestMore_49 mv_X12_475 rfl (by decide) (Nat.le_of_ble_eq_true rfl) (c_X12_withStays (A := 1) (fun k hk => ((r_sI_n (by omega)).trans ((r_sI_n (by omega)).trans (hc k hk)))) wf (by omega) (by decide) hwl (fun M2 gx2 => ?_)) 
      have fx2 : r_fx [(0, 0), (0, 1), (0, 29), (0, 45), (0, 46), (0, 47)] [7, 8, 9, 10] M M2 := r_fx.tr ((r_fx.sI rfl (r_fx.sI rfl r_fx.rf))) (gx2.mono rfl)
      have hst2 : M2.1 0 0 = nI 0 := (gx2 0 0 rfl).1.trans (by simp [r_sI_g])
      have hc2 : ∀ k, k < 521 → M2.1 5 k = nI (d k) := fun k hk => (fx2 5 k rfl).1.trans (hc k hk)
      refine Ru_istore_n (pc := 52) dX12_bestMore_52 rfl rfl (by decide) ?_
      refine Ru_iconst (pc := 53) (nI 1) dX12_bestMore_53 rfl ?_
      refine Ru_istore (pc := 54) dX12_bestMore_54 rfl (by decide) ?_
      have e : g_bestMore d (nI n') = (nI (bk (fun t => bV d (2 ^ t) n' (n' - 2) 0) (d 0 - 1)), 0) := by
        unfold g_bestMore
        rw [if_neg (by omega), if_neg (by omega), r_tnn (show n' < 2147483648 by omega)]
      rw [e] at k
      exact Ru_weak (l_X12_bestMore (M0 := M2) hc2 wf hwl (by omega) (by omega) (by omega) (fun M3 gx3 => k _ (fx2.tr (gx3.mono rfl)) ((gx3 0 0 rfl).1.trans hst2)) (d 0 - 1) 1 M2 rfl (by omega) (by omega) r_fx.rf) rfl
    · refine Ru_aload_n (pc := 37) dX12_bestMore_37 rfl rfl ?_
      refine Ru_bipush (pc := 38) (nI 8) dX12_bestMore_38 rfl ?_
      refine Ru_cv1 (pc := 40) dX12_bestMore_40 mv_X12_351 rfl (by decide) (Nat.le_of_ble_eq_true rfl) (c_X12_refuse ?_) 
      refine Ru_iret (pc := 43) dX12_bestMore_43 rfl ⟨Nat.le_refl _, Nat.le_refl _⟩ ?_
      have e : g_bestMore d (nI n') = (-1, 8) := by
        unfold g_bestMore
        rw [if_neg (by omega), if_pos (by omega)]
      rw [e] at k
      exact k _ (r_fx.sI rfl (r_fx.sI rfl (r_fx.sI rfl r_fx.rf))) r_sI_s
  · replace h1 := of_decide_eq_false h1
    refine Ru_aload_n (pc := 22) dX12_bestMore_22 rfl rfl ?_
    refine Ru_iconst (pc := 23) (nI 5) dX12_bestMore_23 rfl ?_
    refine Ru_cv1 (pc := 24) dX12_bestMore_24 mv_X12_351 rfl (by decide) (Nat.le_of_ble_eq_true rfl) (c_X12_refuse ?_) 
    refine Ru_iret (pc := 27) dX12_bestMore_27 rfl ⟨Nat.le_refl _, Nat.le_refl _⟩ ?_
    have e : g_bestMore d n = (-1, 5) := by
      unfold g_bestMore
      rw [if_pos (by omega)]
    rw [e] at k
    exact k _ (r_fx.sI rfl (r_fx.sI rfl (r_fx.sI rfl r_fx.rf))) r_sI_s
