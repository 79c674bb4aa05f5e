theorem twAw_t {d : Td} {p : Nat} (hp : p < d 2) (h1 : aw (d (89 + p)) (d (95 + p)) 23 = true) (h2 : aw (d (89 + p)) (d (95 + p)) 0 = true) : twAw d = true := by
  unfold twAw
  rw [List.any_eq_true]
  exact ⟨p, List.mem_range.mpr hp, by rw [h1, h2]; rfl⟩
theorem twAw_f {d : Td} (h : ∀ p, p < d 2 → ¬ (aw (d (89 + p)) (d (95 + p)) 23 = true ∧ aw (d (89 + p)) (d (95 + p)) 0 = true)) : twAw d = false := by
  unfold twAw
  rw [List.any_eq_false]
  intro p hp
  have := h p (List.mem_range.mp hp)
  simp only [Bool.and_eq_true]
  exact this

theorem c_X12_isAwakeIn {Q : Rq} {M : Mem} {d : Td} {p h : Nat} (h5 : ∀ k, k < 521 → M.1 5 k = nI (d k)) (wf : Wf d) (hp : p < d 2) (hh : h < 24) (k : Q (some (.int (r_b (aw (d (89 + p)) (d (95 + p)) h)))) GY M) : Ca 1 mt_X12_isAwakeIn 0 0 [.ref 0, .int (nI p), .int (nI h)] GY M Q := by
  refine Ca_of rfl (Nat.le_of_ble_eq_true rfl) ?_
  have hb := wf.1
  have hq := wf.2.2.2.2.2.1 p hp
  have eh := r_tn (show h < 2147483648 by omega)
  refine Ru_aload_n (pc := 0) dX12_isAwakeIn_0 rfl rfl ?_
  refine Ru_getR (pc := 1) 5 dX12_isAwakeIn_1 fl_X12_35 rfl rfl rfl ?_
  refine Ru_bipush (pc := 4) (nI 89) dX12_isAwakeIn_4 rfl ?_
  refine Ru_iload_n (pc := 6) dX12_isAwakeIn_6 rfl rfl ?_
  refine Ru_iaddN (pc := 7) dX12_isAwakeIn_7 ?_
  refine Ru_iald (pc := 8) dX12_isAwakeIn_8 rfl (by omega) ?_
  refine Ru_top (h5 (89 + p) (by omega)) ?_
  refine Ru_istore_n (pc := 9) dX12_isAwakeIn_9 rfl rfl (by decide) ?_
  refine Ru_aload_n (pc := 10) dX12_isAwakeIn_10 rfl rfl ?_
  refine Ru_getR (pc := 11) 5 dX12_isAwakeIn_11 fl_X12_35 rfl rfl rfl ?_
  refine Ru_bipush (pc := 14) (nI 95) dX12_isAwakeIn_14 rfl ?_
  refine Ru_iload_n (pc := 16) dX12_isAwakeIn_16 rfl rfl ?_
  refine Ru_iaddN (pc := 17) dX12_isAwakeIn_17 ?_
  refine Ru_iald (pc := 18) dX12_isAwakeIn_18 rfl (by omega) ?_
  refine Ru_top (h5 (95 + p) (by omega)) ?_
  refine Ru_istore (pc := 19) dX12_isAwakeIn_19 rfl (by decide) ?_
  refine Ru_iload_n (pc := 21) dX12_isAwakeIn_21 rfl rfl ?_
  refine Ru_iload (pc := 22) dX12_isAwakeIn_22 rfl ?_
  refine Ru_icmp_neN (pc := 24) 29 dX12_isAwakeIn_24 (by decide) (by omega) (fun h1 => ?_) (fun h1 => ?_)
  · refine Ru_iload_n (pc := 29) dX12_isAwakeIn_29 rfl rfl ?_
    refine Ru_iload (pc := 30) dX12_isAwakeIn_30 rfl ?_
    refine Ru_icmp_geN (pc := 32) 50 dX12_isAwakeIn_32 (by decide) (by omega) (fun h2 => ?_) (fun h2 => ?_)
    · refine Ru_iload_n (pc := 50) dX12_isAwakeIn_50 rfl rfl ?_
      refine Ru_iload_n (pc := 51) dX12_isAwakeIn_51 rfl rfl ?_
      refine Ru_icmp_geN (pc := 52) 61 dX12_isAwakeIn_52 (by decide) (by omega) (fun h3 => ?_) (fun h3 => ?_)
      · refine Ru_iconst (pc := 61) (nI 1) dX12_isAwakeIn_61 rfl ?_
        refine Ru_goto (pc := 62) 66 dX12_isAwakeIn_62 (by decide) ?_
        refine Ru_zret (pc := 66) dX12_isAwakeIn_66 rfl ⟨Nat.le_refl _, Nat.le_refl _⟩ (Or.inr rfl) ?_
        refine r_qe (r_b_t ?_) k
        unfold aw
        exact decide_eq_true (by omega)
      · refine Ru_iload_n (pc := 55) dX12_isAwakeIn_55 rfl rfl ?_
        refine Ru_iload (pc := 56) dX12_isAwakeIn_56 rfl ?_
        refine Ru_icmp_geN (pc := 58) 65 dX12_isAwakeIn_58 (by decide) (by omega) (fun h4 => ?_) (fun h4 => ?_)
        · refine Ru_iconst (pc := 65) (nI 0) dX12_isAwakeIn_65 rfl ?_
          refine Ru_zret (pc := 66) dX12_isAwakeIn_66 rfl ⟨Nat.le_refl _, Nat.le_refl _⟩ (Or.inl rfl) ?_
          refine r_qe (r_b_f ?_) k
          unfold aw
          exact decide_eq_false (by omega)
        · refine Ru_iconst (pc := 61) (nI 1) dX12_isAwakeIn_61 rfl ?_
          refine Ru_goto (pc := 62) 66 dX12_isAwakeIn_62 (by decide) ?_
          refine Ru_zret (pc := 66) dX12_isAwakeIn_66 rfl ⟨Nat.le_refl _, Nat.le_refl _⟩ (Or.inr rfl) ?_
          refine r_qe (r_b_t ?_) k
          unfold aw
          exact decide_eq_true (by omega)
    · refine Ru_iload_n (pc := 35) dX12_isAwakeIn_35 rfl rfl ?_
      refine Ru_i2l (pc := 36) _ dX12_isAwakeIn_36 rfl ?_
      refine Ru_iload_n (pc := 37) dX12_isAwakeIn_37 rfl rfl ?_
      refine Ru_i2l (pc := 38) _ dX12_isAwakeIn_38 rfl ?_
      refine Ru_iload (pc := 39) dX12_isAwakeIn_39 rfl ?_
      refine Ru_iconst (pc := 41) (nI 1) dX12_isAwakeIn_41 rfl ?_
      refine Ru_isub (pc := 42) dX12_isAwakeIn_42 ?_
      refine Ru_i2l (pc := 43) _ dX12_isAwakeIn_43 rfl ?_
      refine Ru_cs3 (pc := 44) dX12_isAwakeIn_44 ms_X12_122 (by decide) (Nat.le_of_ble_eq_true rfl) (c_X12_isIn ((((d (89 + p)) : Nat) : Int)) ((((d (95 + p)) : Nat) : Int) - 1) (r_hiK (by omega)) (r_hi (by omega)) ?_) 
      refine Ru_goto (pc := 47) 66 dX12_isAwakeIn_47 (by decide) ?_
      refine Ru_zret (pc := 66) dX12_isAwakeIn_66 rfl ⟨Nat.le_refl _, Nat.le_refl _⟩ (r_b_01 _) ?_
      refine r_qe (congrArg r_b ?_) k
      unfold aw
      exact decide_eq_decide.mpr (by omega)
  · refine Ru_iconst (pc := 27) (nI 1) dX12_isAwakeIn_27 rfl ?_
    refine Ru_zret (pc := 28) dX12_isAwakeIn_28 rfl ⟨Nat.le_refl _, Nat.le_refl _⟩ (Or.inr rfl) ?_
    refine r_qe (r_b_t ?_) k
    unfold aw
    exact decide_eq_true (by omega)

theorem l_X12_isTownAwake {Q : Rq} {M : Mem} {d : Td} (h5 : ∀ k, k < 521 → M.1 5 k = nI (d k)) (wf : Wf d) (k : Q (some (.int (r_b (twAw d)))) GY M) : ∀ (w p : Nat), d 2 - p = w → p ≤ d 2 → (∀ q, q < p → ¬ (aw (d (89 + q)) (d (95 + q)) 23 = true ∧ aw (d (89 + q)) (d (95 + q)) 0 = true)) → Ru 2 mt_X12_isTownAwake r_z 2 [(1, some (.int (nI p))), (0, some (.ref 0))] [] GY M Q := by
  intro w
  have hb := wf.1
  induction w using Nat.strongRecOn with
  | ind w ih =>
    intro p hw hp e1
    subst hw
    refine Ru_iload_n (pc := 2) dX12_isTownAwake_2 rfl rfl ?_
    refine Ru_aload_n (pc := 3) dX12_isTownAwake_3 rfl rfl ?_
    refine Ru_getR (pc := 4) 5 dX12_isTownAwake_4 fl_X12_35 rfl rfl rfl ?_
    refine Ru_iconst (pc := 7) (nI 2) dX12_isTownAwake_7 rfl ?_
    refine Ru_iald (pc := 8) dX12_isTownAwake_8 rfl (by omega) ?_
    refine Ru_top (h5 2 (by omega)) ?_
    refine Ru_icmp_geN (pc := 9) 39 dX12_isTownAwake_9 (by decide) (by omega) (fun h1 => ?_) (fun h1 => ?_)
    · refine Ru_iconst (pc := 39) (nI 0) dX12_isTownAwake_39 rfl ?_
      refine Ru_zret (pc := 40) dX12_isTownAwake_40 rfl ⟨Nat.le_refl _, Nat.le_refl _⟩ (Or.inl rfl) ?_
      exact r_qe (r_b_f (twAw_f (fun p2 hp2 => e1 p2 (by omega)))) k
    · refine Ru_aload_n (pc := 12) dX12_isTownAwake_12 rfl rfl ?_
      refine Ru_iload_n (pc := 13) dX12_isTownAwake_13 rfl rfl ?_
      refine Ru_bipush (pc := 14) (nI 23) dX12_isTownAwake_14 rfl ?_
      refine Ru_cv2 (pc := 16) dX12_isTownAwake_16 mv_X12_346 rfl (by decide) (Nat.le_of_ble_eq_true rfl) (c_X12_isAwakeIn (p := p) (h := 23) h5 wf (by omega) (by omega) ?_) 
      refine Ru_if_eqB (pc := 19) 33 dX12_isTownAwake_19 (by decide) (fun h2 => ?_) (fun h2 => ?_)
      · refine Ru_iincN (pc := 33) 1 dX12_isTownAwake_33 rfl rfl rfl (by decide) ?_
        refine Ru_goto (pc := 36) 2 dX12_isTownAwake_36 (by decide) ?_
        refine Ru_weak (ih (d 2 - (p + 1)) (by omega) (p + 1) rfl (by omega) (fun q hq => ?_)) rfl
        by_cases hqp : q = p
        · subst hqp
          rintro ⟨z1, z2⟩
          simp_all
        · exact e1 q (by omega)
      · refine Ru_aload_n (pc := 22) dX12_isTownAwake_22 rfl rfl ?_
        refine Ru_iload_n (pc := 23) dX12_isTownAwake_23 rfl rfl ?_
        refine Ru_iconst (pc := 24) (nI 0) dX12_isTownAwake_24 rfl ?_
        refine Ru_cv2 (pc := 25) dX12_isTownAwake_25 mv_X12_346 rfl (by decide) (Nat.le_of_ble_eq_true rfl) (c_X12_isAwakeIn (p := p) (h := 0) h5 wf (by omega) (by omega) ?_) 
        refine Ru_if_eqB (pc := 28) 33 dX12_isTownAwake_28 (by decide) (fun h3 => ?_) (fun h3 => ?_)
        · refine Ru_iincN (pc := 33) 1 dX12_isTownAwake_33 rfl rfl rfl (by decide) ?_
          refine Ru_goto (pc := 36) 2 dX12_isTownAwake_36 (by decide) ?_
          refine Ru_weak (ih (d 2 - (p + 1)) (by omega) (p + 1) rfl (by omega) (fun q hq => ?_)) rfl
          by_cases hqp : q = p
          · subst hqp
            rintro ⟨z1, z2⟩
            simp_all
          · exact e1 q (by omega)
        · refine Ru_iconst (pc := 31) (nI 1) dX12_isTownAwake_31 rfl ?_
          refine Ru_zret (pc := 32) dX12_isTownAwake_32 rfl ⟨Nat.le_refl _, Nat.le_refl _⟩ (Or.inr rfl) ?_
          exact r_qe (r_b_t (twAw_t (by omega) ‹aw _ _ 23 = true› ‹aw _ _ 0 = true›)) k

theorem c_X12_isTownAwake {Q : Rq} {M : Mem} {d : Td} (h5 : ∀ k, k < 521 → M.1 5 k = nI (d k)) (wf : Wf d) (k : Q (some (.int (r_b (twAw d)))) GY M) : Ca 2 mt_X12_isTownAwake 0 0 [.ref 0] GY M Q := by
  refine Ca_of rfl (Nat.le_of_ble_eq_true rfl) ?_
  refine Ru_iconst (pc := 0) (nI 0) dX12_isTownAwake_0 rfl ?_
  refine Ru_istore_n (pc := 1) dX12_isTownAwake_1 rfl rfl (by decide) ?_
  exact Ru_weak (l_X12_isTownAwake h5 wf k (d 2) 0 rfl (by omega) (fun q hq => absurd hq (Nat.not_lt_zero q))) rfl

theorem c_X12_awake {Q : Rq} {M : Mem} {d : Td} {t w : Int32} (hy : Y_tm 0 d M) (wf : Wf d) (k : ∀ M', r_fx [(0, 0), (0, 1)] [] M M' → M'.1 0 0 = nI (g_awake d t w).2 → Q (some (.int (g_awake d t w).1)) GY M') : Ca 2 mt_X12_awake 0 0 [.ref 0, .int t, .int w] GY M Q := by
  refine Ca_of rfl (Nat.le_of_ble_eq_true rfl) ?_
  have hb := wf.1
  have h5 : ∀ k, k < 521 → (r_sI (r_sI M 0 1 (nI 0)) 0 0 (nI 0)).1 5 k = nI (d k) := fun k hk => (r_sI_n (by omega)).trans ((r_sI_n (by omega)).trans (Y_tm_z hy k hk))
  refine Ru_aload_n (pc := 0) dX12_awake_0 rfl rfl ?_
  refine Ru_iconst (pc := 1) (nI 0) dX12_awake_1 rfl ?_
  refine Ru_putI (pc := 2) rfl dX12_awake_2 fl_X12_87 rfl ?_
  refine Ru_aload_n (pc := 5) dX12_awake_5 rfl rfl ?_
  refine Ru_iconst (pc := 6) (nI 0) dX12_awake_6 rfl ?_
  refine Ru_putI (pc := 7) rfl dX12_awake_7 fl_X12_90 rfl ?_
  refine Ru_aload_n (pc := 10) dX12_awake_10 rfl rfl ?_
  refine Ru_iload_n (pc := 11) dX12_awake_11 rfl rfl ?_
  refine Ru_cv1 (pc := 12) dX12_awake_12 mv_X12_367 rfl (by decide) (Nat.le_of_ble_eq_true rfl) (c_X12_isPerson h5 wf ?_) 
  refine Ru_if_neB (pc := 15) 24 dX12_awake_15 (by decide) (fun h1 => ?_) (fun h1 => ?_)
  · replace h1 := of_decide_eq_true h1
    refine Ru_iload_n (pc := 24) dX12_awake_24 rfl rfl ?_
    refine Ru_i2l (pc := 25) _ dX12_awake_25 rfl ?_
    refine Ru_lconst (pc := 26) 0 dX12_awake_26 rfl ?_
    refine Ru_ldc2 (pc := 27) dX12_awake_27 tw_1876 ?_
    refine Ru_cs3 (pc := 30) dX12_awake_30 ms_X12_122 (by decide) (Nat.le_of_ble_eq_true rfl) (c_X12_isIn (0) (23) rfl rfl ?_) 
    refine Ru_if_neB (pc := 33) 42 dX12_awake_33 (by decide) (fun h2 => ?_) (fun h2 => ?_)
    · replace h2 := of_decide_eq_true h2
      obtain ⟨t', ht', rfl⟩ := r_nat (x := t) (n := 6) (by omega) (by omega)
      have et := r_tn (show t' < 2147483648 by omega)
      obtain ⟨w', hw', rfl⟩ := r_nat (x := w) (n := 24) (by omega) (by omega)
      have ew := r_tn (show w' < 2147483648 by omega)
      refine Ru_aload_n (pc := 42) dX12_awake_42 rfl rfl ?_
      refine Ru_iload_n (pc := 43) dX12_awake_43 rfl rfl ?_
      refine Ru_iload_n (pc := 44) dX12_awake_44 rfl rfl ?_
      refine Ru_cv2 (pc := 45) dX12_awake_45 mv_X12_346 rfl (by decide) (Nat.le_of_ble_eq_true rfl) (c_X12_isAwakeIn (p := t') (h := w') h5 wf (by omega) (by omega) ?_) 
      refine Ru_if_eqB (pc := 48) 55 dX12_awake_48 (by decide) (fun h3 => ?_) (fun h3 => ?_)
      · refine Ru_iconst (pc := 55) (nI 0) dX12_awake_55 rfl ?_
        refine Ru_iret (pc := 56) dX12_awake_56 rfl ⟨Nat.le_refl _, Nat.le_refl _⟩ ?_
        have e : g_awake d (nI t') (nI w') = ((r_b (aw (d (89 + t')) (d (95 + t')) w')), 0) := by
          unfold g_awake
          simp only [r_tn (show t' < 2147483648 by omega), Int.toNat_natCast, r_tn (show w' < 2147483648 by omega), Int.toNat_natCast]
          repeat' split
          all_goals first | rfl | (exfalso; omega)
        rw [e, ‹(aw (d (89 + t')) (d (95 + t')) w') = false›] at k
        exact k _ (r_fx.sI rfl (r_fx.sI rfl r_fx.rf)) r_sI_s
      · refine Ru_iconst (pc := 51) (nI 1) dX12_awake_51 rfl ?_
        refine Ru_goto (pc := 52) 56 dX12_awake_52 (by decide) ?_
        refine Ru_iret (pc := 56) dX12_awake_56 rfl ⟨Nat.le_refl _, Nat.le_refl _⟩ ?_
        have e : g_awake d (nI t') (nI w') = ((r_b (aw (d (89 + t')) (d (95 + t')) w')), 0) := by
          unfold g_awake
          simp only [r_tn (show t' < 2147483648 by omega), Int.toNat_natCast, r_tn (show w' < 2147483648 by omega), Int.toNat_natCast]
          repeat' split
          all_goals first | rfl | (exfalso; omega)
        rw [e, ‹(aw (d (89 + t')) (d (95 + t')) w') = true›] at k
        exact k _ (r_fx.sI rfl (r_fx.sI rfl r_fx.rf)) r_sI_s
    · replace h2 := of_decide_eq_false h2
      refine Ru_aload_n (pc := 36) dX12_awake_36 rfl rfl ?_
      refine Ru_iconst (pc := 37) (nI 5) dX12_awake_37 rfl ?_
      refine Ru_cv1 (pc := 38) dX12_awake_38 mv_X12_351 rfl (by decide) (Nat.le_of_ble_eq_true rfl) (c_X12_refuse ?_) 
      refine Ru_iret (pc := 41) dX12_awake_41 rfl ⟨Nat.le_refl _, Nat.le_refl _⟩ ?_
      have e : g_awake d t w = (-1, 5) := by
        unfold g_awake
        repeat' split
        all_goals first | rfl | (exfalso; omega)
      rw [e] at k
      exact k _ (r_fx.sI rfl (r_fx.sI rfl (r_fx.sI rfl r_fx.rf))) r_sI_s
  · replace h1 := of_decide_eq_false h1
    refine Ru_aload_n (pc := 18) dX12_awake_18 rfl rfl ?_
    refine Ru_iconst (pc := 19) (nI 2) dX12_awake_19 rfl ?_
    refine Ru_cv1 (pc := 20) dX12_awake_20 mv_X12_351 rfl (by decide) (Nat.le_of_ble_eq_true rfl) (c_X12_refuse ?_) 
    refine Ru_iret (pc := 23) dX12_awake_23 rfl ⟨Nat.le_refl _, Nat.le_refl _⟩ ?_
    have e : g_awake d t w = (-1, 2) := by
      unfold g_awake
      repeat' split
      all_goals first | rfl | (exfalso; omega)
    rw [e] at k
    exact k _ (r_fx.sI rfl (r_fx.sI rfl (r_fx.sI rfl r_fx.rf))) r_sI_s

theorem c_X12_many {Q : Rq} {M : Mem} {d : Td} {w : Int32} (hy : Y_tm 0 d M) (wf : Wf d) (k : ∀ M', r_fx [(0, 0), (0, 1)] [] M M' → M'.1 0 0 = nI (g_many d w).2 → Q (some (.int (g_many d w).1)) GY M') : Ca 3 mt_X12_many 0 0 [.ref 0, .int w] GY M Q := by
  refine Ca_of rfl (Nat.le_of_ble_eq_true rfl) ?_
  have hb := wf.1
  have h5 : ∀ k, k < 521 → (r_sI (r_sI M 0 1 (nI 0)) 0 0 (nI 0)).1 5 k = nI (d k) := fun k hk => (r_sI_n (by omega)).trans ((r_sI_n (by omega)).trans (Y_tm_z hy k hk))
  refine Ru_aload_n (pc := 0) dX12_many_0 rfl rfl ?_
  refine Ru_iconst (pc := 1) (nI 0) dX12_many_1 rfl ?_
  refine Ru_putI (pc := 2) rfl dX12_many_2 fl_X12_87 rfl ?_
  refine Ru_aload_n (pc := 5) dX12_many_5 rfl rfl ?_
  refine Ru_iconst (pc := 6) (nI 0) dX12_many_6 rfl ?_
  refine Ru_putI (pc := 7) rfl dX12_many_7 fl_X12_90 rfl ?_
  refine Ru_iload_n (pc := 10) dX12_many_10 rfl rfl ?_
  refine Ru_i2l (pc := 11) _ dX12_many_11 rfl ?_
  refine Ru_lconst (pc := 12) 0 dX12_many_12 rfl ?_
  refine Ru_ldc2 (pc := 13) dX12_many_13 tw_1837 ?_
  refine Ru_cs3 (pc := 16) dX12_many_16 ms_X12_122 (by decide) (Nat.le_of_ble_eq_true rfl) (c_X12_isIn (0) (5) rfl rfl ?_) 
  refine Ru_if_neB (pc := 19) 28 dX12_many_19 (by decide) (fun h1 => ?_) (fun h1 => ?_)
  · replace h1 := of_decide_eq_true h1
    refine Ru_iload_n (pc := 28) dX12_many_28 rfl rfl ?_
    refine Ru_iconst (pc := 29) (nI 5) dX12_many_29 rfl ?_
    refine Ru_icmp_geL (pc := 30) 42 dX12_many_30 (by decide) (by omega) (fun h2 => ?_) (fun h2 => ?_)
    · refine Ru_aload_n (pc := 42) dX12_many_42 rfl rfl ?_
      refine Ru_cv0 (pc := 43) dX12_many_43 mv_X12_354 rfl (by decide) (Nat.le_of_ble_eq_true rfl) (c_X12_isTownAwake h5 wf ?_) 
      refine Ru_if_eqB (pc := 46) 53 dX12_many_46 (by decide) (fun h3 => ?_) (fun h3 => ?_)
      · refine Ru_iconst (pc := 53) (nI 0) dX12_many_53 rfl ?_
        refine Ru_iret (pc := 54) dX12_many_54 rfl ⟨Nat.le_refl _, Nat.le_refl _⟩ ?_
        have e : g_many d w = ((r_b (twAw d)), 0) := by
          unfold g_many
          repeat' split
          all_goals first | rfl | (exfalso; omega)
        rw [e, ‹(twAw d) = false›] at k
        exact k _ (r_fx.sI rfl (r_fx.sI rfl r_fx.rf)) r_sI_s
      · refine Ru_iconst (pc := 49) (nI 1) dX12_many_49 rfl ?_
        refine Ru_goto (pc := 50) 54 dX12_many_50 (by decide) ?_
        refine Ru_iret (pc := 54) dX12_many_54 rfl ⟨Nat.le_refl _, Nat.le_refl _⟩ ?_
        have e : g_many d w = ((r_b (twAw d)), 0) := by
          unfold g_many
          repeat' split
          all_goals first | rfl | (exfalso; omega)
        rw [e, ‹(twAw d) = true›] at k
        exact k _ (r_fx.sI rfl (r_fx.sI rfl r_fx.rf)) r_sI_s
    · obtain ⟨w', hw', rfl⟩ := r_nat (x := w) (n := 5) (by omega) (by omega)
      have ew := r_tn (show w' < 2147483648 by omega)
      refine Ru_aload_n (pc := 33) dX12_many_33 rfl rfl ?_
      refine Ru_getR (pc := 34) 5 dX12_many_34 fl_X12_35 rfl rfl rfl ?_
      refine Ru_iload_n (pc := 37) dX12_many_37 rfl rfl ?_
      refine Ru_iald (pc := 38) dX12_many_38 rfl (by omega) ?_
      refine Ru_top (h5 w' (by omega)) ?_
      refine Ru_goto (pc := 39) 54 dX12_many_39 (by decide) ?_
      refine Ru_iret (pc := 54) dX12_many_54 rfl ⟨Nat.le_refl _, Nat.le_refl _⟩ ?_
      have e : g_many d (nI w') = ((nI (d w')), 0) := by
        unfold g_many
        simp only [r_tn (show w' < 2147483648 by omega), Int.toNat_natCast]
        repeat' split
        all_goals first | rfl | (exfalso; omega)
      rw [e] at k
      exact k _ (r_fx.sI rfl (r_fx.sI rfl r_fx.rf)) r_sI_s
  · replace h1 := of_decide_eq_false h1
    refine Ru_aload_n (pc := 22) dX12_many_22 rfl rfl ?_
    refine Ru_iconst (pc := 23) (nI 5) dX12_many_23 rfl ?_
    refine Ru_cv1 (pc := 24) dX12_many_24 mv_X12_351 rfl (by decide) (Nat.le_of_ble_eq_true rfl) (c_X12_refuse ?_) 
    refine Ru_iret (pc := 27) dX12_many_27 rfl ⟨Nat.le_refl _, Nat.le_refl _⟩ ?_
    have e : g_many d w = (-1, 5) := by
      unfold g_many
      repeat' split
      all_goals first | rfl | (exfalso; omega)
    rw [e] at k
    exact k _ (r_fx.sI rfl (r_fx.sI rfl (r_fx.sI rfl r_fx.rf))) r_sI_s
