-- SETS
theorem pw_le {n : Nat} (h : n ≤ 8) : 0 < 2 ^ n ∧ 2 ^ n ≤ 256 := ⟨Nat.two_pow_pos n, Nat.le_trans (Nat.pow_le_pow_right (by decide) h) (by decide)⟩
theorem sh_tb {s t : Nat} : (s >>> t &&& 1 = 1) ↔ s.testBit t = true := by
  rw [Nat.testBit_eq_decide_div_mod_eq, Nat.and_one_is_mod, Nat.shiftRight_eq_div_pow]
  simp
/-- a number or none: 0 is NONE, k + 1 the number k -/
def nM (k : Nat) : Int32 := match k with
  | 0 => -1
  | t + 1 => nI t
theorem nM_t {k : Nat} (h : k < 2147483648) : (nM k).toInt = (k : Int) - 1 := by
  cases k with
  | zero => rfl
  | succ t =>
    show (nI t).toInt = _
    rw [r_tn (by omega)]
    omega
theorem nM_of {x : Int32} {n : Nat} (h : -1 ≤ x.toInt ∧ x.toInt < n) (hn : n < 2147483648) : ∃ k, k ≤ n ∧ x = nM k := by
  refine ⟨(x.toInt + 1).toNat, by omega, ?_⟩
  apply Int32.toInt_inj.mp
  rw [nM_t (by omega)]
  omega

theorem c_X12_isSet {Q : Rq} {M : Mem} {d : Td} {s : Int32} (h5 : ∀ k, k < 521 → M.1 5 k = nI (d k)) (wf : Wf d) (k : Q (some (.int (r_b (decide (0 ≤ s.toInt ∧ s.toInt < ((2 ^ d 0 : Nat) : Int)))))) GY M) : Ca 1 mt_X12_isSet 0 0 [.ref 0, .int s] GY M Q := by
  refine Ca_of rfl (Nat.le_of_ble_eq_true rfl) ?_
  have hb := wf.1
  have hp := pw_le hb.1
  refine Ru_iload_n (pc := 0) dX12_isSet_0 rfl rfl ?_
  refine Ru_i2l (pc := 1) _ dX12_isSet_1 rfl ?_
  refine Ru_lconst (pc := 2) 0 dX12_isSet_2 rfl ?_
  refine Ru_iconst (pc := 3) (nI 1) dX12_isSet_3 rfl ?_
  refine Ru_aload_n (pc := 4) dX12_isSet_4 rfl rfl ?_
  refine Ru_getR (pc := 5) 5 dX12_isSet_5 fl_X12_35 rfl rfl rfl ?_
  refine Ru_iconst (pc := 8) (nI 0) dX12_isSet_8 rfl ?_
  refine Ru_iald (pc := 9) dX12_isSet_9 rfl (by omega) ?_
  refine Ru_top (h5 0 (by omega)) ?_
  refine Ru_ishl1N (pc := 10) dX12_isSet_10 (by omega) ?_
  refine Ru_iconst (pc := 11) (nI 1) dX12_isSet_11 rfl ?_
  refine Ru_isub (pc := 12) dX12_isSet_12 ?_
  refine Ru_i2l (pc := 13) _ dX12_isSet_13 rfl ?_
  refine Ru_cs3 (pc := 14) dX12_isSet_14 ms_X12_122 (by decide) (Nat.le_of_ble_eq_true rfl) (c_X12_isIn (0) ((((2 ^ (d 0)) : Nat) : Int) - 1) rfl (r_hi (by omega)) ?_) 
  refine Ru_zret (pc := 17) dX12_isSet_17 rfl ⟨Nat.le_refl _, Nat.le_refl _⟩ (r_b_01 _) ?_
  refine r_qe (congrArg r_b ?_) k
  exact decide_eq_decide.mpr (by omega)

theorem c_X12_has {Q : Rq} {M : Mem} {s t : Nat} (hs : s < 2147483648) (ht : t < 32) (k : Q (some (.int (r_b (s.testBit t)))) GY M) : Ca 0 mt_X12_has 0 0 [.int (nI s), .int (nI t)] GY M Q := by
  refine Ca_of rfl (Nat.le_of_ble_eq_true rfl) ?_
  refine Ru_iload_n (pc := 0) dX12_has_0 rfl rfl ?_
  refine Ru_iload_n (pc := 1) dX12_has_1 rfl rfl ?_
  refine Ru_ishrN (pc := 2) dX12_has_2 (by omega) ?_
  refine Ru_iconst (pc := 3) (nI 1) dX12_has_3 rfl ?_
  refine Ru_iandN (pc := 4) dX12_has_4 ?_
  refine Ru_iconst (pc := 5) (nI 1) dX12_has_5 rfl ?_
  refine Ru_icmp_neN (pc := 6) 13 dX12_has_6 (by decide) ⟨Nat.lt_of_le_of_lt Nat.and_le_right (by decide), by decide⟩ (fun h1 => ?_) (fun h1 => ?_)
  · refine Ru_iconst (pc := 13) (nI 0) dX12_has_13 rfl ?_
    refine Ru_zret (pc := 14) dX12_has_14 rfl ⟨Nat.le_refl _, Nat.le_refl _⟩ (Or.inl rfl) ?_
    refine r_qe (r_b_f ?_) k
    cases hq : s.testBit t
    · rfl
    · exact absurd (sh_tb.mpr hq) (by omega)
  · refine Ru_iconst (pc := 9) (nI 1) dX12_has_9 rfl ?_
    refine Ru_goto (pc := 10) 14 dX12_has_10 (by decide) ?_
    refine Ru_zret (pc := 14) dX12_has_14 rfl ⟨Nat.le_refl _, Nat.le_refl _⟩ (Or.inr rfl) ?_
    refine r_qe (r_b_t ?_) k
    exact sh_tb.mp (by omega)

theorem c_X9_sets {Q : Rq} {M : Mem} {t : Nat} {d : Td} (ht : isTown t) (hx : X_tm t d M) (wf : Wf d) (k : Q (some (.int (nI (2 ^ d 0)))) GX M) : Ca 0 mt_X9_sets 0 0 [.ref t] GX M Q := by
  refine Ca_of rfl (Nat.le_of_ble_eq_true rfl) ?_
  have hb := wf.1
  have hp := pw_le hb.1
  refine Ru_iconst (pc := 0) (nI 1) dX9_sets_0 rfl ?_
  refine Ru_aload_n (pc := 1) dX9_sets_1 rfl rfl ?_
  refine Ru_getR (pc := 2) (t + 1) dX9_sets_2 fl_X9_14 (shTown_0 ht) rfl (rfX_of (o := t) (j := 1) (shTown_0 ht) rfl) ?_
  refine Ru_getI (pc := 5) dX9_sets_5 fl_X9_93 (shNames_0 (isNames_t ht).1) rfl ?_
  refine Ru_top hx.1.1 ?_
  refine Ru_ishl1N (pc := 8) dX9_sets_8 (by omega) ?_
  refine Ru_iret (pc := 9) dX9_sets_9 rfl ⟨Nat.le_refl _, Nat.le_refl _⟩ ?_
  exact k

theorem c_X11_isSet {Q : Rq} {M : Mem} {mk t lw pl : Nat} {d : Td} {s : Int32} (hu : X_cu mk t lw pl d M) (hx : X_tm t d M) (wf : Wf d) (k : Q (some (.int (r_b (decide (0 ≤ s.toInt ∧ s.toInt < ((2 ^ d 0 : Nat) : Int)))))) GX M) : Ca 1 mt_X11_isSet 0 0 [.ref 0, .int s] GX M Q := by
  refine Ca_of rfl (Nat.le_of_ble_eq_true rfl) ?_
  have hb := wf.1
  have hp := pw_le hb.1
  refine Ru_iload_n (pc := 0) dX11_isSet_0 rfl rfl ?_
  refine Ru_if_ltT (pc := 1) 19 dX11_isSet_1 (by decide) (fun h1 => ?_) (fun h1 => ?_)
  · refine Ru_iconst (pc := 19) (nI 0) dX11_isSet_19 rfl ?_
    refine Ru_zret (pc := 20) dX11_isSet_20 rfl ⟨Nat.le_refl _, Nat.le_refl _⟩ (Or.inl rfl) ?_
    refine r_qe (r_b_f ?_) k
    exact decide_eq_false (by omega)
  · refine Ru_iload_n (pc := 4) dX11_isSet_4 rfl rfl ?_
    refine Ru_aload_n (pc := 5) dX11_isSet_5 rfl rfl ?_
    refine Ru_cv0 (pc := 6) dX11_isSet_6 mv_X11_154 rfl (by decide) (Nat.le_of_ble_eq_true rfl) (c_X11_now hu ?_) 
    refine Ru_cv0 (pc := 9) dX11_isSet_9 mv_X11_394 (shTown_0 hu.1.2.2.2) (by decide) (Nat.le_of_ble_eq_true rfl) (c_X9_sets hu.1.2.2.2 hx wf ?_) 
    refine Ru_icmp_geL (pc := 12) 19 dX11_isSet_12 (by decide) (by omega) (fun h2 => ?_) (fun h2 => ?_)
    · refine Ru_iconst (pc := 19) (nI 0) dX11_isSet_19 rfl ?_
      refine Ru_zret (pc := 20) dX11_isSet_20 rfl ⟨Nat.le_refl _, Nat.le_refl _⟩ (Or.inl rfl) ?_
      refine r_qe (r_b_f ?_) k
      exact decide_eq_false (by omega)
    · refine Ru_iconst (pc := 15) (nI 1) dX11_isSet_15 rfl ?_
      refine Ru_goto (pc := 16) 20 dX11_isSet_16 (by decide) ?_
      refine Ru_zret (pc := 20) dX11_isSet_20 rfl ⟨Nat.le_refl _, Nat.le_refl _⟩ (Or.inr rfl) ?_
      refine r_qe (r_b_t ?_) k
      exact decide_eq_true (by omega)

theorem c_X12_isThingOrNone {Q : Rq} {M : Mem} {d : Td} {s : Int32} (h5 : ∀ k, k < 521 → M.1 5 k = nI (d k)) (wf : Wf d) (k : Q (some (.int (r_b (decide (-1 ≤ s.toInt ∧ s.toInt < d 0))))) GY M) : Ca 2 mt_X12_isThingOrNone 0 0 [.ref 0, .int s] GY M Q := by
  refine Ca_of rfl (Nat.le_of_ble_eq_true rfl) ?_
  have em : (-1 : Int32).toInt = -1 := rfl
  have es : s = -1 ↔ s.toInt = -1 := by
    rw [← em, Int32.toInt_inj]
  refine Ru_iload_n (pc := 0) dX12_isThingOrNone_0 rfl rfl ?_
  refine Ru_iconst (pc := 1) (-1) dX12_isThingOrNone_1 rfl ?_
  refine Ru_icmp_eqT (pc := 2) 13 dX12_isThingOrNone_2 (by decide) (fun h1 => ?_) (fun h1 => ?_)
  · refine Ru_iconst (pc := 13) (nI 1) dX12_isThingOrNone_13 rfl ?_
    refine Ru_goto (pc := 14) 18 dX12_isThingOrNone_14 (by decide) ?_
    refine Ru_zret (pc := 18) dX12_isThingOrNone_18 rfl ⟨Nat.le_refl _, Nat.le_refl _⟩ (Or.inr rfl) ?_
    refine r_qe (r_b_t ?_) k
    exact decide_eq_true (by omega)
  · refine Ru_aload_n (pc := 5) dX12_isThingOrNone_5 rfl rfl ?_
    refine Ru_iload_n (pc := 6) dX12_isThingOrNone_6 rfl rfl ?_
    refine Ru_cv1 (pc := 7) dX12_isThingOrNone_7 mv_X12_357 rfl (by decide) (Nat.le_of_ble_eq_true rfl) (c_X12_isThing h5 wf ?_) 
    refine Ru_if_eqB (pc := 10) 17 dX12_isThingOrNone_10 (by decide) (fun h2 => ?_) (fun h2 => ?_)
    · replace h2 := of_decide_eq_false h2
      refine Ru_iconst (pc := 17) (nI 0) dX12_isThingOrNone_17 rfl ?_
      refine Ru_zret (pc := 18) dX12_isThingOrNone_18 rfl ⟨Nat.le_refl _, Nat.le_refl _⟩ (Or.inl rfl) ?_
      refine r_qe (r_b_f ?_) k
      exact decide_eq_false (by omega)
    · replace h2 := of_decide_eq_true h2
      refine Ru_iconst (pc := 13) (nI 1) dX12_isThingOrNone_13 rfl ?_
      refine Ru_goto (pc := 14) 18 dX12_isThingOrNone_14 (by decide) ?_
      refine Ru_zret (pc := 18) dX12_isThingOrNone_18 rfl ⟨Nat.le_refl _, Nat.le_refl _⟩ (Or.inr rfl) ?_
      refine r_qe (r_b_t ?_) k
      exact decide_eq_true (by omega)

theorem c_X11_isThingOrNone {Q : Rq} {M : Mem} {mk t lw pl : Nat} {d : Td} {s : Int32} (hu : X_cu mk t lw pl d M) (hx : X_tm t d M) (wf : Wf d) (k : Q (some (.int (r_b (decide (-1 ≤ s.toInt ∧ s.toInt < d 0))))) GX M) : Ca 2 mt_X11_isThingOrNone 0 0 [.ref 0, .int s] GX M Q := by
  refine Ca_of rfl (Nat.le_of_ble_eq_true rfl) ?_
  have em : (-1 : Int32).toInt = -1 := rfl
  refine Ru_iload_n (pc := 0) dX11_isThingOrNone_0 rfl rfl ?_
  refine Ru_iconst (pc := 1) (-1) dX11_isThingOrNone_1 rfl ?_
  refine Ru_icmp_eqT (pc := 2) 13 dX11_isThingOrNone_2 (by decide) (fun h1 => ?_) (fun h1 => ?_)
  · refine Ru_iconst (pc := 13) (nI 1) dX11_isThingOrNone_13 rfl ?_
    refine Ru_goto (pc := 14) 18 dX11_isThingOrNone_14 (by decide) ?_
    refine Ru_zret (pc := 18) dX11_isThingOrNone_18 rfl ⟨Nat.le_refl _, Nat.le_refl _⟩ (Or.inr rfl) ?_
    refine r_qe (r_b_t ?_) k
    exact decide_eq_true (by omega)
  · refine Ru_aload_n (pc := 5) dX11_isThingOrNone_5 rfl rfl ?_
    refine Ru_iload_n (pc := 6) dX11_isThingOrNone_6 rfl rfl ?_
    refine Ru_cv1 (pc := 7) dX11_isThingOrNone_7 mv_X11_214 rfl (by decide) (Nat.le_of_ble_eq_true rfl) (c_X11_isThing hu hx wf ?_) 
    refine Ru_if_eqB (pc := 10) 17 dX11_isThingOrNone_10 (by decide) (fun h2 => ?_) (fun h2 => ?_)
    · replace h2 := of_decide_eq_false h2
      refine Ru_iconst (pc := 17) (nI 0) dX11_isThingOrNone_17 rfl ?_
      refine Ru_zret (pc := 18) dX11_isThingOrNone_18 rfl ⟨Nat.le_refl _, Nat.le_refl _⟩ (Or.inl rfl) ?_
      refine r_qe (r_b_f ?_) k
      exact decide_eq_false (by omega)
    · replace h2 := of_decide_eq_true h2
      refine Ru_iconst (pc := 13) (nI 1) dX11_isThingOrNone_13 rfl ?_
      refine Ru_goto (pc := 14) 18 dX11_isThingOrNone_14 (by decide) ?_
      refine Ru_zret (pc := 18) dX11_isThingOrNone_18 rfl ⟨Nat.le_refl _, Nat.le_refl _⟩ (Or.inr rfl) ?_
      refine r_qe (r_b_t ?_) k
      exact decide_eq_true (by omega)

theorem c_X11_isDay {Q : Rq} {M : Mem} {s : Int32} (k : Q (some (.int (r_b (decide (0 ≤ s.toInt ∧ s.toInt ≤ 999))))) GX M) : Ca 0 mt_X11_isDay 0 0 [.ref 0, .int s] GX M Q := by
  refine Ca_of rfl (Nat.le_of_ble_eq_true rfl) ?_
  refine Ru_iload_n (pc := 0) dX11_isDay_0 rfl rfl ?_
  refine Ru_if_ltT (pc := 1) 15 dX11_isDay_1 (by decide) (fun h1 => ?_) (fun h1 => ?_)
  · refine Ru_iconst (pc := 15) (nI 0) dX11_isDay_15 rfl ?_
    refine Ru_zret (pc := 16) dX11_isDay_16 rfl ⟨Nat.le_refl _, Nat.le_refl _⟩ (Or.inl rfl) ?_
    refine r_qe (r_b_f ?_) k
    exact decide_eq_false (by omega)
  · refine Ru_iload_n (pc := 4) dX11_isDay_4 rfl rfl ?_
    refine Ru_sipush (pc := 5) (nI 999) dX11_isDay_5 rfl ?_
    refine Ru_icmp_gtL (pc := 8) 15 dX11_isDay_8 (by decide) (by omega) (fun h2 => ?_) (fun h2 => ?_)
    · refine Ru_iconst (pc := 15) (nI 0) dX11_isDay_15 rfl ?_
      refine Ru_zret (pc := 16) dX11_isDay_16 rfl ⟨Nat.le_refl _, Nat.le_refl _⟩ (Or.inl rfl) ?_
      refine r_qe (r_b_f ?_) k
      exact decide_eq_false (by omega)
    · refine Ru_iconst (pc := 11) (nI 1) dX11_isDay_11 rfl ?_
      refine Ru_goto (pc := 12) 16 dX11_isDay_12 (by decide) ?_
      refine Ru_zret (pc := 16) dX11_isDay_16 rfl ⟨Nat.le_refl _, Nat.le_refl _⟩ (Or.inr rfl) ?_
      refine r_qe (r_b_t ?_) k
      exact decide_eq_true (by omega)

theorem c_X11_isDaysAhead {Q : Rq} {M : Mem} {s : Int32} (k : Q (some (.int (r_b (decide (1 ≤ s.toInt ∧ s.toInt ≤ 9))))) GX M) : Ca 0 mt_X11_isDaysAhead 0 0 [.ref 0, .int s] GX M Q := by
  refine Ca_of rfl (Nat.le_of_ble_eq_true rfl) ?_
  refine Ru_iload_n (pc := 0) dX11_isDaysAhead_0 rfl rfl ?_
  refine Ru_iconst (pc := 1) (nI 1) dX11_isDaysAhead_1 rfl ?_
  refine Ru_icmp_ltL (pc := 2) 15 dX11_isDaysAhead_2 (by decide) (by omega) (fun h1 => ?_) (fun h1 => ?_)
  · refine Ru_iconst (pc := 15) (nI 0) dX11_isDaysAhead_15 rfl ?_
    refine Ru_zret (pc := 16) dX11_isDaysAhead_16 rfl ⟨Nat.le_refl _, Nat.le_refl _⟩ (Or.inl rfl) ?_
    refine r_qe (r_b_f ?_) k
    exact decide_eq_false (by omega)
  · refine Ru_iload_n (pc := 5) dX11_isDaysAhead_5 rfl rfl ?_
    refine Ru_bipush (pc := 6) (nI 9) dX11_isDaysAhead_6 rfl ?_
    refine Ru_icmp_gtL (pc := 8) 15 dX11_isDaysAhead_8 (by decide) (by omega) (fun h2 => ?_) (fun h2 => ?_)
    · refine Ru_iconst (pc := 15) (nI 0) dX11_isDaysAhead_15 rfl ?_
      refine Ru_zret (pc := 16) dX11_isDaysAhead_16 rfl ⟨Nat.le_refl _, Nat.le_refl _⟩ (Or.inl rfl) ?_
      refine r_qe (r_b_f ?_) k
      exact decide_eq_false (by omega)
    · refine Ru_iconst (pc := 11) (nI 1) dX11_isDaysAhead_11 rfl ?_
      refine Ru_goto (pc := 12) 16 dX11_isDaysAhead_12 (by decide) ?_
      refine Ru_zret (pc := 16) dX11_isDaysAhead_16 rfl ⟨Nat.le_refl _, Nat.le_refl _⟩ (Or.inr rfl) ?_
      refine r_qe (r_b_t ?_) k
      exact decide_eq_true (by omega)
