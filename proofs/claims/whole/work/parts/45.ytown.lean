-- THE TOWN: what of it the reference keeps in one row
abbrev Td : Type := Nat → Nat
def Wf (d : Td) : Prop := (d 0 ≤ 8 ∧ d 1 ≤ 12 ∧ d 2 ≤ 6 ∧ d 3 ≤ 8 ∧ d 4 ≤ 24) ∧ (∀ i, i < 8 → d (5 + i) ≤ 1 ∧ d (13 + i) ≤ 1 ∧ d (21 + i) ≤ 1 ∧ d (131 + i) ≤ 1) ∧ (∀ i, d 0 ≤ i → i < 8 → d (5 + i) = 0 ∧ d (13 + i) = 0 ∧ d (21 + i) = 0) ∧ (∀ i, d 3 ≤ i → i < 8 → d (131 + i) = 0) ∧ (∀ m, m < d 1 → d (29 + m) < d 0 ∧ (1 ≤ d (41 + m) ∧ d (41 + m) ≤ 24) ∧ (1 ≤ d (53 + m) ∧ d (53 + m) ≤ 3) ∧ d (65 + m) < 2 ^ d 0 ∧ d (77 + m) < 2 ^ d 0 ∧ d (65 + m) &&& d (77 + m) = 0) ∧ (∀ p, p < d 2 → d (89 + p) ≤ 24 ∧ d (95 + p) ≤ 24 ∧ d (101 + p) ≤ 16) ∧ ∀ w, w < d 3 → d (107 + w) < d 0 ∧ d (115 + w) ≤ 24 ∧ 1 ≤ d (123 + w) ∧ d (123 + w) ≤ 999
def Y_tm (b : Nat) (d : Td) (M : Mem) : Prop := ∀ k, k < 521 → M.1 5 (650 * b + k) = nI (d k)
theorem Y_tm_dp (b : Nat) (d : Td) : r_dp [] [5] (Y_tm b d) := fun M M' h p k hk => (h 5 _ rfl).1.trans (p k hk)
theorem Y_tm_z {d : Td} {M : Mem} (h : Y_tm 0 d M) : ∀ k, k < 521 → M.1 5 k = nI (d k) := fun k hk => by
  have := h k hk
  rwa [Nat.mul_zero, Nat.zero_add] at this
def aw (f t h : Nat) : Bool := decide (f = t ∨ (f < t ∧ f ≤ h ∧ h < t) ∨ (t ≤ f ∧ (f ≤ h ∨ h < t)))
def twAw (d : Td) : Bool := (List.range (d 2)).any (fun p => aw (d (89 + p)) (d (95 + p)) 23 && aw (d (89 + p)) (d (95 + p)) 0)
def g_many (d : Td) (w : Int32) : Int32 × Nat := if 0 ≤ w.toInt ∧ w.toInt ≤ 4 then (nI (d w.toInt.toNat), 0) else if w.toInt = 5 then (r_b (twAw d), 0) else (-1, 5)
def g_thing (d : Td) (t w : Int32) : Int32 × Nat := if ¬ (0 ≤ t.toInt ∧ t.toInt < d 0) then (-1, 2) else if 0 ≤ w.toInt ∧ w.toInt ≤ 2 then (nI (d (5 + 8 * w.toInt.toNat + t.toInt.toNat)), 0) else (-1, 5)
def g_making (d : Td) (t w : Int32) : Int32 × Nat := if ¬ (0 ≤ t.toInt ∧ t.toInt < d 1) then (-1, 2) else if 0 ≤ w.toInt ∧ w.toInt ≤ 4 then (nI (d (29 + 12 * w.toInt.toNat + t.toInt.toNat)), 0) else (-1, 5)
def g_awake (d : Td) (p h : Int32) : Int32 × Nat := if ¬ (0 ≤ p.toInt ∧ p.toInt < d 2) then (-1, 2) else if 0 ≤ h.toInt ∧ h.toInt ≤ 23 then (r_b (aw (d (89 + p.toInt.toNat)) (d (95 + p.toInt.toNat)) h.toInt.toNat), 0) else (-1, 5)
def g_want (d : Td) (t w : Int32) : Int32 × Nat := if ¬ (0 ≤ t.toInt ∧ t.toInt < d 3) then (-1, 2) else if 0 ≤ w.toInt ∧ w.toInt ≤ 3 then (nI (d (107 + 8 * w.toInt.toNat + t.toInt.toNat)), 0) else (-1, 5)
theorem r_hi {n : Nat} (h : n < 1000000) : ((nI n - nI 1).toInt64).toInt = (n : Int) - 1 := by
  rw [Int32.toInt_toInt64, r_si (by rw [r_tn (by omega), r_tn (by omega)]; omega), r_tn (by omega), r_tn (by omega)]
  rfl
theorem r_hiK {n : Nat} (h : n < 1000000000) : ((nI n).toInt64).toInt = (n : Int) := by
  rw [Int32.toInt_toInt64, r_tn (by omega)]

theorem c_X12_isIn {Q : Rq} {M : Mem} {x : Int32} {lo hi : Int64} (l h : Int) (el : lo.toInt = l) (eh : hi.toInt = h) (k : Q (some (.int (r_b (decide (l ≤ x.toInt ∧ x.toInt ≤ h))))) GY M) : Ca 0 mt_X12_isIn 0 0 [.long x.toInt64, .long lo, .long hi] GY M Q := by
  refine Ca_of rfl (Nat.le_of_ble_eq_true rfl) ?_
  refine Ru_lload_n (pc := 0) dX12_isIn_0 rfl rfl ?_
  refine Ru_lload_n (pc := 1) dX12_isIn_1 rfl rfl ?_
  refine Ru_lcmp (pc := 2) dX12_isIn_2 ?_
  refine Ru_if_ltC (pc := 3) 17 dX12_isIn_3 (by decide) (fun h1 => ?_) (fun h1 => ?_)
  · refine Ru_iconst (pc := 17) (nI 0) dX12_isIn_17 rfl ?_
    refine Ru_zret (pc := 18) dX12_isIn_18 rfl ⟨Nat.le_refl _, Nat.le_refl _⟩ (Or.inl rfl) ?_
    refine r_qe (r_b_f ?_) k
    simp only [Int64.lt_iff_toInt_lt, Int64.le_iff_toInt_le, Int32.toInt_toInt64, el, eh] at *
    exact decide_eq_false (by omega)
  · refine Ru_lload_n (pc := 6) dX12_isIn_6 rfl rfl ?_
    refine Ru_lload (pc := 7) dX12_isIn_7 rfl ?_
    refine Ru_lcmp (pc := 9) dX12_isIn_9 ?_
    refine Ru_if_gtC (pc := 10) 17 dX12_isIn_10 (by decide) (fun h2 => ?_) (fun h2 => ?_)
    · refine Ru_iconst (pc := 17) (nI 0) dX12_isIn_17 rfl ?_
      refine Ru_zret (pc := 18) dX12_isIn_18 rfl ⟨Nat.le_refl _, Nat.le_refl _⟩ (Or.inl rfl) ?_
      refine r_qe (r_b_f ?_) k
      simp only [Int64.lt_iff_toInt_lt, Int64.le_iff_toInt_le, Int32.toInt_toInt64, el, eh] at *
      exact decide_eq_false (by omega)
    · refine Ru_iconst (pc := 13) (nI 1) dX12_isIn_13 rfl ?_
      refine Ru_goto (pc := 14) 18 dX12_isIn_14 (by decide) ?_
      refine Ru_zret (pc := 18) dX12_isIn_18 rfl ⟨Nat.le_refl _, Nat.le_refl _⟩ (Or.inr rfl) ?_
      refine r_qe (r_b_t ?_) k
      simp only [Int64.lt_iff_toInt_lt, Int64.le_iff_toInt_le, Int32.toInt_toInt64, el, eh] at *
      exact decide_eq_true (by omega)

theorem c_X12_isThing {Q : Rq} {M : Mem} {d : Td} {t : Int32} (h5 : ∀ k, k < 521 → M.1 5 k = nI (d k)) (wf : Wf d) (k : Q (some (.int (r_b (decide (0 ≤ t.toInt ∧ t.toInt < d 0))))) GY M) : Ca 1 mt_X12_isThing 0 0 [.ref 0, .int t] GY M Q := by
  refine Ca_of rfl (Nat.le_of_ble_eq_true rfl) ?_
  have hb := wf.1
  refine Ru_iload_n (pc := 0) dX12_isThing_0 rfl rfl ?_
  refine Ru_i2l (pc := 1) _ dX12_isThing_1 rfl ?_
  refine Ru_lconst (pc := 2) 0 dX12_isThing_2 rfl ?_
  refine Ru_aload_n (pc := 3) dX12_isThing_3 rfl rfl ?_
  refine Ru_getR (pc := 4) 5 dX12_isThing_4 fl_X12_35 rfl rfl rfl ?_
  refine Ru_iconst (pc := 7) (nI 0) dX12_isThing_7 rfl ?_
  refine Ru_iald (pc := 8) dX12_isThing_8 rfl (by omega) ?_
  refine Ru_top (h5 0 (by omega)) ?_
  refine Ru_iconst (pc := 9) (nI 1) dX12_isThing_9 rfl ?_
  refine Ru_isub (pc := 10) dX12_isThing_10 ?_
  refine Ru_i2l (pc := 11) _ dX12_isThing_11 rfl ?_
  refine Ru_cs3 (pc := 12) dX12_isThing_12 ms_X12_122 (by decide) (Nat.le_of_ble_eq_true rfl) (c_X12_isIn (0) ((((d 0) : Nat) : Int) - 1) rfl (r_hi (by omega)) ?_) 
  refine Ru_zret (pc := 15) dX12_isThing_15 rfl ⟨Nat.le_refl _, Nat.le_refl _⟩ (r_b_01 _) ?_
  refine r_qe (congrArg r_b ?_) k
  exact decide_eq_decide.mpr (by omega)

theorem c_X12_isMaking {Q : Rq} {M : Mem} {d : Td} {t : Int32} (h5 : ∀ k, k < 521 → M.1 5 k = nI (d k)) (wf : Wf d) (k : Q (some (.int (r_b (decide (0 ≤ t.toInt ∧ t.toInt < d 1))))) GY M) : Ca 1 mt_X12_isMaking 0 0 [.ref 0, .int t] GY M Q := by
  refine Ca_of rfl (Nat.le_of_ble_eq_true rfl) ?_
  have hb := wf.1
  refine Ru_iload_n (pc := 0) dX12_isMaking_0 rfl rfl ?_
  refine Ru_i2l (pc := 1) _ dX12_isMaking_1 rfl ?_
  refine Ru_lconst (pc := 2) 0 dX12_isMaking_2 rfl ?_
  refine Ru_aload_n (pc := 3) dX12_isMaking_3 rfl rfl ?_
  refine Ru_getR (pc := 4) 5 dX12_isMaking_4 fl_X12_35 rfl rfl rfl ?_
  refine Ru_iconst (pc := 7) (nI 1) dX12_isMaking_7 rfl ?_
  refine Ru_iald (pc := 8) dX12_isMaking_8 rfl (by omega) ?_
  refine Ru_top (h5 1 (by omega)) ?_
  refine Ru_iconst (pc := 9) (nI 1) dX12_isMaking_9 rfl ?_
  refine Ru_isub (pc := 10) dX12_isMaking_10 ?_
  refine Ru_i2l (pc := 11) _ dX12_isMaking_11 rfl ?_
  refine Ru_cs3 (pc := 12) dX12_isMaking_12 ms_X12_122 (by decide) (Nat.le_of_ble_eq_true rfl) (c_X12_isIn (0) ((((d 1) : Nat) : Int) - 1) rfl (r_hi (by omega)) ?_) 
  refine Ru_zret (pc := 15) dX12_isMaking_15 rfl ⟨Nat.le_refl _, Nat.le_refl _⟩ (r_b_01 _) ?_
  refine r_qe (congrArg r_b ?_) k
  exact decide_eq_decide.mpr (by omega)

theorem c_X12_isPerson {Q : Rq} {M : Mem} {d : Td} {t : Int32} (h5 : ∀ k, k < 521 → M.1 5 k = nI (d k)) (wf : Wf d) (k : Q (some (.int (r_b (decide (0 ≤ t.toInt ∧ t.toInt < d 2))))) GY M) : Ca 1 mt_X12_isPerson 0 0 [.ref 0, .int t] GY M Q := by
  refine Ca_of rfl (Nat.le_of_ble_eq_true rfl) ?_
  have hb := wf.1
  refine Ru_iload_n (pc := 0) dX12_isPerson_0 rfl rfl ?_
  refine Ru_i2l (pc := 1) _ dX12_isPerson_1 rfl ?_
  refine Ru_lconst (pc := 2) 0 dX12_isPerson_2 rfl ?_
  refine Ru_aload_n (pc := 3) dX12_isPerson_3 rfl rfl ?_
  refine Ru_getR (pc := 4) 5 dX12_isPerson_4 fl_X12_35 rfl rfl rfl ?_
  refine Ru_iconst (pc := 7) (nI 2) dX12_isPerson_7 rfl ?_
  refine Ru_iald (pc := 8) dX12_isPerson_8 rfl (by omega) ?_
  refine Ru_top (h5 2 (by omega)) ?_
  refine Ru_iconst (pc := 9) (nI 1) dX12_isPerson_9 rfl ?_
  refine Ru_isub (pc := 10) dX12_isPerson_10 ?_
  refine Ru_i2l (pc := 11) _ dX12_isPerson_11 rfl ?_
  refine Ru_cs3 (pc := 12) dX12_isPerson_12 ms_X12_122 (by decide) (Nat.le_of_ble_eq_true rfl) (c_X12_isIn (0) ((((d 2) : Nat) : Int) - 1) rfl (r_hi (by omega)) ?_) 
  refine Ru_zret (pc := 15) dX12_isPerson_15 rfl ⟨Nat.le_refl _, Nat.le_refl _⟩ (r_b_01 _) ?_
  refine r_qe (congrArg r_b ?_) k
  exact decide_eq_decide.mpr (by omega)

theorem c_X12_thing {Q : Rq} {M : Mem} {d : Td} {t w : Int32} (hy : Y_tm 0 d M) (wf : Wf d) (k : ∀ M', r_fx [(0, 0), (0, 1)] [] M M' → M'.1 0 0 = nI (g_thing d t w).2 → Q (some (.int (g_thing d t w).1)) GY M') : Ca 2 mt_X12_thing 0 0 [.ref 0, .int t, .int w] GY M Q := by
  refine Ca_of rfl (Nat.le_of_ble_eq_true rfl) ?_
  have hb := wf.1
  have h5 : ∀ k, k < 521 → (r_sI (r_sI M 0 1 (nI 0)) 0 0 (nI 0)).1 5 k = nI (d k) := fun k hk => (r_sI_n (by omega)).trans ((r_sI_n (by omega)).trans (Y_tm_z hy k hk))
  refine Ru_aload_n (pc := 0) dX12_thing_0 rfl rfl ?_
  refine Ru_iconst (pc := 1) (nI 0) dX12_thing_1 rfl ?_
  refine Ru_putI (pc := 2) rfl dX12_thing_2 fl_X12_87 rfl ?_
  refine Ru_aload_n (pc := 5) dX12_thing_5 rfl rfl ?_
  refine Ru_iconst (pc := 6) (nI 0) dX12_thing_6 rfl ?_
  refine Ru_putI (pc := 7) rfl dX12_thing_7 fl_X12_90 rfl ?_
  refine Ru_aload_n (pc := 10) dX12_thing_10 rfl rfl ?_
  refine Ru_iload_n (pc := 11) dX12_thing_11 rfl rfl ?_
  refine Ru_cv1 (pc := 12) dX12_thing_12 mv_X12_357 rfl (by decide) (Nat.le_of_ble_eq_true rfl) (c_X12_isThing h5 wf ?_) 
  refine Ru_if_neB (pc := 15) 24 dX12_thing_15 (by decide) (fun h1 => ?_) (fun h1 => ?_)
  · replace h1 := of_decide_eq_true h1
    refine Ru_iload_n (pc := 24) dX12_thing_24 rfl rfl ?_
    refine Ru_i2l (pc := 25) _ dX12_thing_25 rfl ?_
    refine Ru_lconst (pc := 26) 0 dX12_thing_26 rfl ?_
    refine Ru_ldc2 (pc := 27) dX12_thing_27 tw_1858 ?_
    refine Ru_cs3 (pc := 30) dX12_thing_30 ms_X12_122 (by decide) (Nat.le_of_ble_eq_true rfl) (c_X12_isIn (0) (2) rfl rfl ?_) 
    refine Ru_if_eqB (pc := 33) 52 dX12_thing_33 (by decide) (fun h2 => ?_) (fun h2 => ?_)
    · replace h2 := of_decide_eq_false h2
      refine Ru_aload_n (pc := 52) dX12_thing_52 rfl rfl ?_
      refine Ru_iconst (pc := 53) (nI 5) dX12_thing_53 rfl ?_
      refine Ru_cv1 (pc := 54) dX12_thing_54 mv_X12_351 rfl (by decide) (Nat.le_of_ble_eq_true rfl) (c_X12_refuse ?_) 
      refine Ru_iret (pc := 57) dX12_thing_57 rfl ⟨Nat.le_refl _, Nat.le_refl _⟩ ?_
      have e : g_thing d t w = (-1, 5) := by
        unfold g_thing
        repeat' split
        all_goals first | rfl | (exfalso; omega)
      rw [e] at k
      exact k _ (r_fx.sI rfl (r_fx.sI rfl (r_fx.sI rfl r_fx.rf))) r_sI_s
    · replace h2 := of_decide_eq_true h2
      obtain ⟨t', ht', rfl⟩ := r_nat (x := t) (n := 8) (by omega) (by omega)
      have et := r_tn (show t' < 2147483648 by omega)
      obtain ⟨w', hw', rfl⟩ := r_nat (x := w) (n := 3) (by omega) (by omega)
      have ew := r_tn (show w' < 2147483648 by omega)
      refine Ru_aload_n (pc := 36) dX12_thing_36 rfl rfl ?_
      refine Ru_getR (pc := 37) 5 dX12_thing_37 fl_X12_35 rfl rfl rfl ?_
      refine Ru_iconst (pc := 40) (nI 5) dX12_thing_40 rfl ?_
      refine Ru_bipush (pc := 41) (nI 8) dX12_thing_41 rfl ?_
      refine Ru_iload_n (pc := 43) dX12_thing_43 rfl rfl ?_
      refine Ru_imulN (pc := 44) dX12_thing_44 ?_
      refine Ru_iaddN (pc := 45) dX12_thing_45 ?_
      refine Ru_iload_n (pc := 46) dX12_thing_46 rfl rfl ?_
      refine Ru_iaddN (pc := 47) dX12_thing_47 ?_
      refine Ru_iald (pc := 48) dX12_thing_48 rfl (by omega) ?_
      refine Ru_top (h5 ((5 + (8 * w')) + t') (by omega)) ?_
      refine Ru_goto (pc := 49) 57 dX12_thing_49 (by decide) ?_
      refine Ru_iret (pc := 57) dX12_thing_57 rfl ⟨Nat.le_refl _, Nat.le_refl _⟩ ?_
      have e : g_thing d (nI t') (nI w') = ((nI (d ((5 + (8 * w')) + t'))), 0) := by
        unfold g_thing
        simp only [r_tn (show t' < 2147483648 by omega), Int.toNat_natCast, r_tn (show w' < 2147483648 by omega), Int.toNat_natCast]
        repeat' split
        all_goals first | rfl | (exfalso; omega)
      rw [e] at k
      exact k _ (r_fx.sI rfl (r_fx.sI rfl r_fx.rf)) r_sI_s
  · replace h1 := of_decide_eq_false h1
    refine Ru_aload_n (pc := 18) dX12_thing_18 rfl rfl ?_
    refine Ru_iconst (pc := 19) (nI 2) dX12_thing_19 rfl ?_
    refine Ru_cv1 (pc := 20) dX12_thing_20 mv_X12_351 rfl (by decide) (Nat.le_of_ble_eq_true rfl) (c_X12_refuse ?_) 
    refine Ru_iret (pc := 23) dX12_thing_23 rfl ⟨Nat.le_refl _, Nat.le_refl _⟩ ?_
    have e : g_thing d t w = (-1, 2) := by
      unfold g_thing
      repeat' split
      all_goals first | rfl | (exfalso; omega)
    rw [e] at k
    exact k _ (r_fx.sI rfl (r_fx.sI rfl (r_fx.sI rfl r_fx.rf))) r_sI_s

theorem c_X12_making {Q : Rq} {M : Mem} {d : Td} {t w : Int32} (hy : Y_tm 0 d M) (wf : Wf d) (k : ∀ M', r_fx [(0, 0), (0, 1)] [] M M' → M'.1 0 0 = nI (g_making d t w).2 → Q (some (.int (g_making d t w).1)) GY M') : Ca 2 mt_X12_making 0 0 [.ref 0, .int t, .int w] GY M Q := by
  refine Ca_of rfl (Nat.le_of_ble_eq_true rfl) ?_
  have hb := wf.1
  have h5 : ∀ k, k < 521 → (r_sI (r_sI M 0 1 (nI 0)) 0 0 (nI 0)).1 5 k = nI (d k) := fun k hk => (r_sI_n (by omega)).trans ((r_sI_n (by omega)).trans (Y_tm_z hy k hk))
  refine Ru_aload_n (pc := 0) dX12_making_0 rfl rfl ?_
  refine Ru_iconst (pc := 1) (nI 0) dX12_making_1 rfl ?_
  refine Ru_putI (pc := 2) rfl dX12_making_2 fl_X12_87 rfl ?_
  refine Ru_aload_n (pc := 5) dX12_making_5 rfl rfl ?_
  refine Ru_iconst (pc := 6) (nI 0) dX12_making_6 rfl ?_
  refine Ru_putI (pc := 7) rfl dX12_making_7 fl_X12_90 rfl ?_
  refine Ru_aload_n (pc := 10) dX12_making_10 rfl rfl ?_
  refine Ru_iload_n (pc := 11) dX12_making_11 rfl rfl ?_
  refine Ru_cv1 (pc := 12) dX12_making_12 mv_X12_362 rfl (by decide) (Nat.le_of_ble_eq_true rfl) (c_X12_isMaking h5 wf ?_) 
  refine Ru_if_neB (pc := 15) 24 dX12_making_15 (by decide) (fun h1 => ?_) (fun h1 => ?_)
  · replace h1 := of_decide_eq_true h1
    refine Ru_iload_n (pc := 24) dX12_making_24 rfl rfl ?_
    refine Ru_i2l (pc := 25) _ dX12_making_25 rfl ?_
    refine Ru_lconst (pc := 26) 0 dX12_making_26 rfl ?_
    refine Ru_ldc2 (pc := 27) dX12_making_27 tw_1867 ?_
    refine Ru_cs3 (pc := 30) dX12_making_30 ms_X12_122 (by decide) (Nat.le_of_ble_eq_true rfl) (c_X12_isIn (0) (4) rfl rfl ?_) 
    refine Ru_if_eqB (pc := 33) 53 dX12_making_33 (by decide) (fun h2 => ?_) (fun h2 => ?_)
    · replace h2 := of_decide_eq_false h2
      refine Ru_aload_n (pc := 53) dX12_making_53 rfl rfl ?_
      refine Ru_iconst (pc := 54) (nI 5) dX12_making_54 rfl ?_
      refine Ru_cv1 (pc := 55) dX12_making_55 mv_X12_351 rfl (by decide) (Nat.le_of_ble_eq_true rfl) (c_X12_refuse ?_) 
      refine Ru_iret (pc := 58) dX12_making_58 rfl ⟨Nat.le_refl _, Nat.le_refl _⟩ ?_
      have e : g_making d t w = (-1, 5) := by
        unfold g_making
        repeat' split
        all_goals first | rfl | (exfalso; omega)
      rw [e] at k
      exact k _ (r_fx.sI rfl (r_fx.sI rfl (r_fx.sI rfl r_fx.rf))) r_sI_s
    · replace h2 := of_decide_eq_true h2
      obtain ⟨t', ht', rfl⟩ := r_nat (x := t) (n := 12) (by omega) (by omega)
      have et := r_tn (show t' < 2147483648 by omega)
      obtain ⟨w', hw', rfl⟩ := r_nat (x := w) (n := 5) (by omega) (by omega)
      have ew := r_tn (show w' < 2147483648 by omega)
      refine Ru_aload_n (pc := 36) dX12_making_36 rfl rfl ?_
      refine Ru_getR (pc := 37) 5 dX12_making_37 fl_X12_35 rfl rfl rfl ?_
      refine Ru_bipush (pc := 40) (nI 29) dX12_making_40 rfl ?_
      refine Ru_bipush (pc := 42) (nI 12) dX12_making_42 rfl ?_
      refine Ru_iload_n (pc := 44) dX12_making_44 rfl rfl ?_
      refine Ru_imulN (pc := 45) dX12_making_45 ?_
      refine Ru_iaddN (pc := 46) dX12_making_46 ?_
      refine Ru_iload_n (pc := 47) dX12_making_47 rfl rfl ?_
      refine Ru_iaddN (pc := 48) dX12_making_48 ?_
      refine Ru_iald (pc := 49) dX12_making_49 rfl (by omega) ?_
      refine Ru_top (h5 ((29 + (12 * w')) + t') (by omega)) ?_
      refine Ru_goto (pc := 50) 58 dX12_making_50 (by decide) ?_
      refine Ru_iret (pc := 58) dX12_making_58 rfl ⟨Nat.le_refl _, Nat.le_refl _⟩ ?_
      have e : g_making d (nI t') (nI w') = ((nI (d ((29 + (12 * w')) + t'))), 0) := by
        unfold g_making
        simp only [r_tn (show t' < 2147483648 by omega), Int.toNat_natCast, r_tn (show w' < 2147483648 by omega), Int.toNat_natCast]
        repeat' split
        all_goals first | rfl | (exfalso; omega)
      rw [e] at k
      exact k _ (r_fx.sI rfl (r_fx.sI rfl r_fx.rf)) r_sI_s
  · replace h1 := of_decide_eq_false h1
    refine Ru_aload_n (pc := 18) dX12_making_18 rfl rfl ?_
    refine Ru_iconst (pc := 19) (nI 2) dX12_making_19 rfl ?_
    refine Ru_cv1 (pc := 20) dX12_making_20 mv_X12_351 rfl (by decide) (Nat.le_of_ble_eq_true rfl) (c_X12_refuse ?_) 
    refine Ru_iret (pc := 23) dX12_making_23 rfl ⟨Nat.le_refl _, Nat.le_refl _⟩ ?_
    have e : g_making d t w = (-1, 2) := by
      unfold g_making
      repeat' split
      all_goals first | rfl | (exfalso; omega)
    rw [e] at k
    exact k _ (r_fx.sI rfl (r_fx.sI rfl (r_fx.sI rfl r_fx.rf))) r_sI_s

theorem c_X12_want {Q : Rq} {M : Mem} {d : Td} {t w : Int32} (hy : Y_tm 0 d M) (wf : Wf d) (k : ∀ M', r_fx [(0, 0), (0, 1)] [] M M' → M'.1 0 0 = nI (g_want d t w).2 → Q (some (.int (g_want d t w).1)) GY M') : Ca 2 mt_X12_want 0 0 [.ref 0, .int t, .int w] GY M Q := by
  refine Ca_of rfl (Nat.le_of_ble_eq_true rfl) ?_
  have hb := wf.1
  have h5 : ∀ k, k < 521 → (r_sI (r_sI M 0 1 (nI 0)) 0 0 (nI 0)).1 5 k = nI (d k) := fun k hk => (r_sI_n (by omega)).trans ((r_sI_n (by omega)).trans (Y_tm_z hy k hk))
  refine Ru_aload_n (pc := 0) dX12_want_0 rfl rfl ?_
  refine Ru_iconst (pc := 1) (nI 0) dX12_want_1 rfl ?_
  refine Ru_putI (pc := 2) rfl dX12_want_2 fl_X12_87 rfl ?_
  refine Ru_aload_n (pc := 5) dX12_want_5 rfl rfl ?_
  refine Ru_iconst (pc := 6) (nI 0) dX12_want_6 rfl ?_
  refine Ru_putI (pc := 7) rfl dX12_want_7 fl_X12_90 rfl ?_
  refine Ru_iload_n (pc := 10) dX12_want_10 rfl rfl ?_
  refine Ru_i2l (pc := 11) _ dX12_want_11 rfl ?_
  refine Ru_lconst (pc := 12) 0 dX12_want_12 rfl ?_
  refine Ru_aload_n (pc := 13) dX12_want_13 rfl rfl ?_
  refine Ru_getR (pc := 14) 5 dX12_want_14 fl_X12_35 rfl rfl rfl ?_
  refine Ru_iconst (pc := 17) (nI 3) dX12_want_17 rfl ?_
  refine Ru_iald (pc := 18) dX12_want_18 rfl (by omega) ?_
  refine Ru_top (h5 3 (by omega)) ?_
  refine Ru_iconst (pc := 19) (nI 1) dX12_want_19 rfl ?_
  refine Ru_isub (pc := 20) dX12_want_20 ?_
  refine Ru_i2l (pc := 21) _ dX12_want_21 rfl ?_
  refine Ru_cs3 (pc := 22) dX12_want_22 ms_X12_122 (by decide) (Nat.le_of_ble_eq_true rfl) (c_X12_isIn (0) ((((d 3) : Nat) : Int) - 1) rfl (r_hi (by omega)) ?_) 
  refine Ru_if_neB (pc := 25) 34 dX12_want_25 (by decide) (fun h1 => ?_) (fun h1 => ?_)
  · replace h1 := of_decide_eq_true h1
    refine Ru_iload_n (pc := 34) dX12_want_34 rfl rfl ?_
    refine Ru_i2l (pc := 35) _ dX12_want_35 rfl ?_
    refine Ru_lconst (pc := 36) 0 dX12_want_36 rfl ?_
    refine Ru_ldc2 (pc := 37) dX12_want_37 tw_1881 ?_
    refine Ru_cs3 (pc := 40) dX12_want_40 ms_X12_122 (by decide) (Nat.le_of_ble_eq_true rfl) (c_X12_isIn (0) (3) rfl rfl ?_) 
    refine Ru_if_eqB (pc := 43) 63 dX12_want_43 (by decide) (fun h2 => ?_) (fun h2 => ?_)
    · replace h2 := of_decide_eq_false h2
      refine Ru_aload_n (pc := 63) dX12_want_63 rfl rfl ?_
      refine Ru_iconst (pc := 64) (nI 5) dX12_want_64 rfl ?_
      refine Ru_cv1 (pc := 65) dX12_want_65 mv_X12_351 rfl (by decide) (Nat.le_of_ble_eq_true rfl) (c_X12_refuse ?_) 
      refine Ru_iret (pc := 68) dX12_want_68 rfl ⟨Nat.le_refl _, Nat.le_refl _⟩ ?_
      have e : g_want d t w = (-1, 5) := by
        unfold g_want
        repeat' split
        all_goals first | rfl | (exfalso; omega)
      rw [e] at k
      exact k _ (r_fx.sI rfl (r_fx.sI rfl (r_fx.sI rfl r_fx.rf))) r_sI_s
    · replace h2 := of_decide_eq_true h2
      obtain ⟨t', ht', rfl⟩ := r_nat (x := t) (n := 8) (by omega) (by omega)
      have et := r_tn (show t' < 2147483648 by omega)
      obtain ⟨w', hw', rfl⟩ := r_nat (x := w) (n := 4) (by omega) (by omega)
      have ew := r_tn (show w' < 2147483648 by omega)
      refine Ru_aload_n (pc := 46) dX12_want_46 rfl rfl ?_
      refine Ru_getR (pc := 47) 5 dX12_want_47 fl_X12_35 rfl rfl rfl ?_
      refine Ru_bipush (pc := 50) (nI 107) dX12_want_50 rfl ?_
      refine Ru_bipush (pc := 52) (nI 8) dX12_want_52 rfl ?_
      refine Ru_iload_n (pc := 54) dX12_want_54 rfl rfl ?_
      refine Ru_imulN (pc := 55) dX12_want_55 ?_
      refine Ru_iaddN (pc := 56) dX12_want_56 ?_
      refine Ru_iload_n (pc := 57) dX12_want_57 rfl rfl ?_
      refine Ru_iaddN (pc := 58) dX12_want_58 ?_
      refine Ru_iald (pc := 59) dX12_want_59 rfl (by omega) ?_
      refine Ru_top (h5 ((107 + (8 * w')) + t') (by omega)) ?_
      refine Ru_goto (pc := 60) 68 dX12_want_60 (by decide) ?_
      refine Ru_iret (pc := 68) dX12_want_68 rfl ⟨Nat.le_refl _, Nat.le_refl _⟩ ?_
      have e : g_want d (nI t') (nI w') = ((nI (d ((107 + (8 * w')) + t'))), 0) := by
        unfold g_want
        simp only [r_tn (show t' < 2147483648 by omega), Int.toNat_natCast, r_tn (show w' < 2147483648 by omega), Int.toNat_natCast]
        repeat' split
        all_goals first | rfl | (exfalso; omega)
      rw [e] at k
      exact k _ (r_fx.sI rfl (r_fx.sI rfl r_fx.rf)) r_sI_s
  · replace h1 := of_decide_eq_false h1
    refine Ru_aload_n (pc := 28) dX12_want_28 rfl rfl ?_
    refine Ru_iconst (pc := 29) (nI 2) dX12_want_29 rfl ?_
    refine Ru_cv1 (pc := 30) dX12_want_30 mv_X12_351 rfl (by decide) (Nat.le_of_ble_eq_true rfl) (c_X12_refuse ?_) 
    refine Ru_iret (pc := 33) dX12_want_33 rfl ⟨Nat.le_refl _, Nat.le_refl _⟩ ?_
    have e : g_want d t w = (-1, 2) := by
      unfold g_want
      repeat' split
      all_goals first | rfl | (exfalso; omega)
    rw [e] at k
    exact k _ (r_fx.sI rfl (r_fx.sI rfl (r_fx.sI rfl r_fx.rf))) r_sI_s
