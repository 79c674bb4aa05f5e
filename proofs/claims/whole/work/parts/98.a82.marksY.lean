-- MARKS: the reference

theorem l_X12_copy1 {Q : Rq} {M0 : Mem} {a b : Nat} (hab : a ≤ 3 ∧ b ≤ 3 ∧ ¬ a = b) (k : ∀ M', (∀ k, k < 650 → M'.1 5 (650 * b + k) = M0.1 5 (650 * a + k)) → (∀ j, ¬ (650 * b ≤ j ∧ j < 650 * b + 650) → M'.1 5 j = M0.1 5 j) → r_fx [] [5] M0 M' → Ru 2 mt_X12_copy r_z 39 [(0, some (.ref 0)), (1, some (.int (nI a))), (2, some (.int (nI b)))] [] GY M' Q) : ∀ (zw : Nat) (q : Nat) (M : Mem), 650 - q = zw → (q ≤ 650) → (∀ k, k < q → M.1 5 (650 * b + k) = M0.1 5 (650 * a + k)) → (∀ j, ¬ (650 * b ≤ j ∧ j < 650 * b + 650) → M.1 5 j = M0.1 5 j) → (r_fx [] [5] M0 M) → Ru 2 mt_X12_copy r_z 2 [(0, some (.ref 0)), (1, some (.int (nI a))), (2, some (.int (nI b))), (3, some (.int (nI q)))] [] GY M Q := by
  intro zw
  induction zw using Nat.strongRecOn with
  | ind zw ih =>
    intro q M hw hn hc hz fx
    subst hw
    refine Ru_iload_n (pc := 2) dX12_copy_2 rfl rfl ?_
    refine Ru_sipush (pc := 3) (nI 650) dX12_copy_3 rfl ?_
    refine Ru_icmp_geN (pc := 6) 39 dX12_copy_6 (by decide) (by omega) (fun h1 => ?_) (fun h1 => ?_)
    · exact Ru_weak (k M (fun k hk => hc k (by omega)) hz fx) rfl
    · refine Ru_aload_n (pc := 9) dX12_copy_9 rfl rfl ?_
      refine Ru_getR (pc := 10) 5 dX12_copy_10 fl_X12_35 rfl rfl rfl ?_
      refine Ru_sipush (pc := 13) (nI 650) dX12_copy_13 rfl ?_
      refine Ru_iload_n (pc := 16) dX12_copy_16 rfl rfl ?_
      refine Ru_imulN (pc := 17) dX12_copy_17 ?_
      refine Ru_iload_n (pc := 18) dX12_copy_18 rfl rfl ?_
      refine Ru_iaddN (pc := 19) dX12_copy_19 ?_
      refine Ru_aload_n (pc := 20) dX12_copy_20 rfl rfl ?_
      refine Ru_getR (pc := 21) 5 dX12_copy_21 fl_X12_35 rfl rfl rfl ?_
      refine Ru_sipush (pc := 24) (nI 650) dX12_copy_24 rfl ?_
      refine Ru_iload_n (pc := 27) dX12_copy_27 rfl rfl ?_
      refine Ru_imulN (pc := 28) dX12_copy_28 ?_
      refine Ru_iload_n (pc := 29) dX12_copy_29 rfl rfl ?_
      refine Ru_iaddN (pc := 30) dX12_copy_30 ?_
      refine Ru_iald (pc := 31) dX12_copy_31 rfl (by omega) ?_
      refine Ru_top (hz (650 * a + q) (by omega)) ?_
      refine Ru_iast (pc := 32) rfl dX12_copy_32 rfl (by omega) ?_
      refine Ru_iincN (pc := 33) 1 dX12_copy_33 rfl rfl rfl (by decide) ?_
      refine Ru_goto (pc := 36) 2 dX12_copy_36 (by decide) ?_
      refine Ru_weak (ih (650 - (q + 1)) (by omega) (q + 1) _ rfl (by omega) (fun k hk => ?_) (fun j hj => (r_sI_n (by omega)).trans (hz j hj)) (r_fx.sI rfl fx)) rfl
      rw [r_sI_g]
      by_cases e : k = q
      · subst e
        rw [if_pos ⟨rfl, rfl⟩]
      · rw [if_neg (by omega)]
        exact hc k (by omega)

theorem l_X12_copy2 {Q : Rq} {M0 : Mem} {a b : Nat} (hab : a ≤ 3 ∧ b ≤ 3 ∧ ¬ a = b) (k : ∀ M', (∀ k, k < 26 → M'.2.1 6 (26 * b + k) = M0.2.1 6 (26 * a + k)) → (∀ j, ¬ (26 * b ≤ j ∧ j < 26 * b + 26) → M'.2.1 6 j = M0.2.1 6 j) → r_fx [] [6] M0 M' → Q none GY M') : ∀ (zw : Nat) (q : Nat) (M : Mem), 26 - q = zw → (q ≤ 26) → (∀ k, k < q → M.2.1 6 (26 * b + k) = M0.2.1 6 (26 * a + k)) → (∀ j, ¬ (26 * b ≤ j ∧ j < 26 * b + 26) → M.2.1 6 j = M0.2.1 6 j) → (r_fx [] [6] M0 M) → Ru 2 mt_X12_copy r_z 41 [(0, some (.ref 0)), (1, some (.int (nI a))), (2, some (.int (nI b))), (3, some (.int (nI q)))] [] GY M Q := by
  intro zw
  induction zw using Nat.strongRecOn with
  | ind zw ih =>
    intro q M hw hn hc hz fx
    subst hw
    refine Ru_iload_n (pc := 41) dX12_copy_41 rfl rfl ?_
    refine Ru_bipush (pc := 42) (nI 26) dX12_copy_42 rfl ?_
    refine Ru_icmp_geN (pc := 44) 75 dX12_copy_44 (by decide) (by omega) (fun h1 => ?_) (fun h1 => ?_)
    · refine Ru_vret (pc := 75) dX12_copy_75 rfl ⟨Nat.le_refl _, Nat.le_refl _⟩ ?_
      exact k M (fun k hk => hc k (by omega)) hz fx
    · refine Ru_aload_n (pc := 47) dX12_copy_47 rfl rfl ?_
      refine Ru_getR (pc := 48) 6 dX12_copy_48 fl_X12_38 rfl rfl rfl ?_
      refine Ru_bipush (pc := 51) (nI 26) dX12_copy_51 rfl ?_
      refine Ru_iload_n (pc := 53) dX12_copy_53 rfl rfl ?_
      refine Ru_imulN (pc := 54) dX12_copy_54 ?_
      refine Ru_iload_n (pc := 55) dX12_copy_55 rfl rfl ?_
      refine Ru_iaddN (pc := 56) dX12_copy_56 ?_
      refine Ru_aload_n (pc := 57) dX12_copy_57 rfl rfl ?_
      refine Ru_getR (pc := 58) 6 dX12_copy_58 fl_X12_38 rfl rfl rfl ?_
      refine Ru_bipush (pc := 61) (nI 26) dX12_copy_61 rfl ?_
      refine Ru_iload_n (pc := 63) dX12_copy_63 rfl rfl ?_
      refine Ru_imulN (pc := 64) dX12_copy_64 ?_
      refine Ru_iload_n (pc := 65) dX12_copy_65 rfl rfl ?_
      refine Ru_iaddN (pc := 66) dX12_copy_66 ?_
      refine Ru_lald (pc := 67) dX12_copy_67 rfl (by omega) ?_
      refine Ru_topL (hz (26 * a + q) (by omega)) ?_
      refine Ru_last (pc := 68) rfl dX12_copy_68 rfl (by omega) ?_
      refine Ru_iincN (pc := 69) 1 dX12_copy_69 rfl rfl rfl (by decide) ?_
      refine Ru_goto (pc := 72) 41 dX12_copy_72 (by decide) ?_
      refine Ru_weak (ih (26 - (q + 1)) (by omega) (q + 1) _ rfl (by omega) (fun k hk => ?_) (fun j hj => (r_sJ_n (by omega)).trans (hz j hj)) (r_fx.sJ rfl fx)) rfl
      rw [r_sJ_g]
      by_cases e : k = q
      · subst e
        rw [if_pos ⟨rfl, rfl⟩]
      · rw [if_neg (by omega)]
        exact hc k (by omega)

/-- block b is as block a was, all else as it was -/
def Y_cp (a b : Nat) (M M' : Mem) : Prop := (∀ k, k < 650 → M'.1 5 (650 * b + k) = M.1 5 (650 * a + k)) ∧ (∀ j, ¬ (650 * b ≤ j ∧ j < 650 * b + 650) → M'.1 5 j = M.1 5 j) ∧ (∀ k, k < 26 → M'.2.1 6 (26 * b + k) = M.2.1 6 (26 * a + k)) ∧ ∀ j, ¬ (26 * b ≤ j ∧ j < 26 * b + 26) → M'.2.1 6 j = M.2.1 6 j

theorem c_X12_copy {Q : Rq} {M : Mem} {a b : Nat} (hab : a ≤ 3 ∧ b ≤ 3 ∧ ¬ a = b) (k : ∀ M', r_fx [] [5, 6] M M' → Y_cp a b M M' → Q none GY M') : Ca 2 mt_X12_copy 0 0 [.ref 0, .int (nI a), .int (nI b)] GY M Q := by
  refine Ca_of rfl (Nat.le_of_ble_eq_true rfl) ?_
  refine Ru_iconst (pc := 0) (nI 0) dX12_copy_0 rfl ?_
  refine Ru_istore_n (pc := 1) dX12_copy_1 rfl rfl (by decide) ?_
  refine Ru_weak (l_X12_copy1 hab (fun M2 c2 z2 gx2 => ?_) 650 0 M rfl (Nat.zero_le _) (fun k hk => absurd hk (Nat.not_lt_zero _)) (fun _ _ => rfl) r_fx.rf) rfl
  refine Ru_iconst (pc := 39) (nI 0) dX12_copy_39 rfl ?_
  refine Ru_istore_n (pc := 40) dX12_copy_40 rfl rfl (by decide) ?_
  refine Ru_weak (l_X12_copy2 hab (fun M3 c3 z3 gx3 => ?_) 26 0 M2 rfl (Nat.zero_le _) (fun k hk => absurd hk (Nat.not_lt_zero _)) (fun _ _ => rfl) r_fx.rf) rfl
  exact k M3 ((gx2.mono rfl).tr (gx3.mono rfl)) ⟨fun q hq => (gx3 5 _ rfl).1.trans (c2 q hq), fun j hj => (gx3 5 j rfl).1.trans (z2 j hj), fun q hq => (c3 q hq).trans (gx2 6 _ rfl).2.1, fun j hj => (z3 j hj).trans (gx2 6 j rfl).2.1⟩

theorem c_X12_mark {Q : Rq} {M : Mem} {mk : Nat} (hmk : M.1 0 25 = nI mk) (hmk3 : mk ≤ 3) (k7 : mk = 3 → ∀ M', r_fx [(0, 0), (0, 1)] [] M M' → M'.1 0 0 = nI 7 → Q (some (.int (-1))) GY M') (k0 : mk < 3 → ∀ M', r_fx [(0, 0), (0, 1), (0, 25)] [5, 6] M M' → M'.1 0 0 = nI 0 → M'.1 0 25 = nI (mk + 1) → Y_cp 0 (mk + 1) M M' → Q (some (.int (nI (mk + 1)))) GY M') : Ca 4 mt_X12_mark 0 0 [.ref 0] GY M Q := by
  refine Ca_of rfl (Nat.le_of_ble_eq_true rfl) ?_
  refine Ru_aload_n (pc := 0) dX12_mark_0 rfl rfl ?_
  refine Ru_iconst (pc := 1) (nI 0) dX12_mark_1 rfl ?_
  refine Ru_putI (pc := 2) rfl dX12_mark_2 fl_X12_87 rfl ?_
  refine Ru_aload_n (pc := 5) dX12_mark_5 rfl rfl ?_
  refine Ru_iconst (pc := 6) (nI 0) dX12_mark_6 rfl ?_
  refine Ru_putI (pc := 7) rfl dX12_mark_7 fl_X12_90 rfl ?_
  refine Ru_aload_n (pc := 10) dX12_mark_10 rfl rfl ?_
  refine Ru_getI (pc := 11) dX12_mark_11 fl_X12_592 rfl rfl ?_
  refine Ru_top ((r_sI_n (by decide)).trans ((r_sI_n (by decide)).trans hmk)) ?_
  refine Ru_iconst (pc := 14) (nI 3) dX12_mark_14 rfl ?_
  refine Ru_icmp_neN (pc := 15) 25 dX12_mark_15 (by decide) (by omega) (fun h1 => ?_) (fun h1 => ?_)
  · refine Ru_aload_n (pc := 25) dX12_mark_25 rfl rfl ?_
    refine Ru_dup (pc := 26) dX12_mark_26 rfl ?_
    refine Ru_getI (pc := 27) dX12_mark_27 fl_X12_592 rfl rfl ?_
    refine Ru_top ((r_sI_n (by decide)).trans ((r_sI_n (by decide)).trans hmk)) ?_
    refine Ru_iconst (pc := 30) (nI 1) dX12_mark_30 rfl ?_
    refine Ru_iaddN (pc := 31) dX12_mark_31 ?_
    refine Ru_putI (pc := 32) rfl dX12_mark_32 fl_X12_592 rfl ?_
    refine Ru_aload_n (pc := 35) dX12_mark_35 rfl rfl ?_
    refine Ru_iconst (pc := 36) (nI 0) dX12_mark_36 rfl ?_
    refine Ru_aload_n (pc := 37) dX12_mark_37 rfl rfl ?_
    refine Ru_getI (pc := 38) dX12_mark_38 fl_X12_592 rfl rfl ?_
    refine Ru_top r_sI_s ?_
    refine Ru_cv2 (pc := 41) dX12_mark_41 mv_X12_595 rfl (by decide) (Nat.le_of_ble_eq_true rfl) (c_X12_copy (M := (r_sI (r_sI (r_sI M 0 1 (nI 0)) 0 0 (nI 0)) 0 25 (nI (mk + 1)))) (a := 0) (b := (mk + 1)) ⟨by omega, by omega, by omega⟩ (fun M2 gx2 cp2 => ?_)) 
    have c9 : Y_cp 0 (mk + 1) M M2 := ⟨fun k hk => (cp2.1 k hk).trans ((r_sI_n (by omega)).trans ((r_sI_n (by omega)).trans (r_sI_n (by omega)))), fun j hj => (cp2.2.1 j hj).trans ((r_sI_n (by omega)).trans ((r_sI_n (by omega)).trans (r_sI_n (by omega)))), cp2.2.2.1, cp2.2.2.2⟩
    have fx2 : r_fx [(0, 0), (0, 1), (0, 25)] [5, 6] M M2 := (r_fx.sI rfl (r_fx.sI rfl (r_fx.sI rfl r_fx.rf))).tr (gx2.mono rfl)
    have h25 : M2.1 0 25 = nI (mk + 1) := (gx2 0 25 rfl).1.trans r_sI_s
    have h00 : M2.1 0 0 = nI 0 := (gx2 0 0 rfl).1.trans ((r_sI_n (by decide)).trans r_sI_s)
    refine Ru_aload_n (pc := 44) dX12_mark_44 rfl rfl ?_
    refine Ru_getI (pc := 45) dX12_mark_45 fl_X12_592 rfl rfl ?_
    refine Ru_top h25 ?_
    refine Ru_iret (pc := 48) dX12_mark_48 rfl ⟨Nat.le_refl _, Nat.le_refl _⟩ ?_
    exact k0 (by omega) M2 fx2 h00 h25 c9
  · refine Ru_aload_n (pc := 18) dX12_mark_18 rfl rfl ?_
    refine Ru_bipush (pc := 19) (nI 7) dX12_mark_19 rfl ?_
    refine Ru_cv1 (pc := 21) dX12_mark_21 mv_X12_351 rfl (by decide) (Nat.le_of_ble_eq_true rfl) (c_X12_refuse ?_) 
    refine Ru_iret (pc := 24) dX12_mark_24 rfl ⟨Nat.le_refl _, Nat.le_refl _⟩ ?_
    exact k7 (by omega) _ (r_fx.sI rfl (r_fx.sI rfl (r_fx.sI rfl r_fx.rf))) r_sI_s

theorem c_X12_back {Q : Rq} {M : Mem} {mk : Nat} (hmk : M.1 0 25 = nI mk) (hmk3 : mk ≤ 3) (k8 : mk = 0 → ∀ M', r_fx [(0, 0), (0, 1)] [] M M' → M'.1 0 0 = nI 8 → Q (some (.int (-1))) GY M') (k0 : 0 < mk → ∀ M', r_fx [(0, 0), (0, 1), (0, 25)] [5, 6] M M' → M'.1 0 0 = nI 0 → M'.1 0 25 = nI (mk - 1) → Y_cp mk 0 M M' → Q (some (.int (nI (mk - 1)))) GY M') : Ca 4 mt_X12_back 0 0 [.ref 0] GY M Q := by
  refine Ca_of rfl (Nat.le_of_ble_eq_true rfl) ?_
  refine Ru_aload_n (pc := 0) dX12_back_0 rfl rfl ?_
  refine Ru_iconst (pc := 1) (nI 0) dX12_back_1 rfl ?_
  refine Ru_putI (pc := 2) rfl dX12_back_2 fl_X12_87 rfl ?_
  refine Ru_aload_n (pc := 5) dX12_back_5 rfl rfl ?_
  refine Ru_iconst (pc := 6) (nI 0) dX12_back_6 rfl ?_
  refine Ru_putI (pc := 7) rfl dX12_back_7 fl_X12_90 rfl ?_
  refine Ru_aload_n (pc := 10) dX12_back_10 rfl rfl ?_
  refine Ru_getI (pc := 11) dX12_back_11 fl_X12_592 rfl rfl ?_
  refine Ru_top ((r_sI_n (by decide)).trans ((r_sI_n (by decide)).trans hmk)) ?_
  refine Ru_if_neN (pc := 14) 24 dX12_back_14 (by decide) (by omega) (fun h1 => ?_) (fun h1 => ?_)
  · refine Ru_aload_n (pc := 24) dX12_back_24 rfl rfl ?_
    refine Ru_aload_n (pc := 25) dX12_back_25 rfl rfl ?_
    refine Ru_getI (pc := 26) dX12_back_26 fl_X12_592 rfl rfl ?_
    refine Ru_top ((r_sI_n (by decide)).trans ((r_sI_n (by decide)).trans hmk)) ?_
    refine Ru_iconst (pc := 29) (nI 0) dX12_back_29 rfl ?_
    refine Ru_cv2 (pc := 30) dX12_back_30 mv_X12_595 rfl (by decide) (Nat.le_of_ble_eq_true rfl) (c_X12_copy (M := (r_sI (r_sI M 0 1 (nI 0)) 0 0 (nI 0))) (a := mk) (b := 0) ⟨by omega, by omega, by omega⟩ (fun M2 gx2 cp2 => ?_)) 
    have c9 : Y_cp mk 0 M M2 := ⟨fun k hk => (cp2.1 k hk).trans ((r_sI_n (by omega)).trans (r_sI_n (by omega))), fun j hj => (cp2.2.1 j hj).trans ((r_sI_n (by omega)).trans (r_sI_n (by omega))), cp2.2.2.1, cp2.2.2.2⟩
    have fx2 : r_fx [(0, 0), (0, 1)] [5, 6] M M2 := (r_fx.sI rfl (r_fx.sI rfl r_fx.rf)).tr (gx2.mono rfl)
    have h25 : M2.1 0 25 = nI mk := (gx2 0 25 rfl).1.trans ((r_sI_n (by decide)).trans ((r_sI_n (by decide)).trans hmk))
    have h00 : M2.1 0 0 = nI 0 := (gx2 0 0 rfl).1.trans r_sI_s
    refine Ru_aload_n (pc := 33) dX12_back_33 rfl rfl ?_
    refine Ru_dup (pc := 34) dX12_back_34 rfl ?_
    refine Ru_getI (pc := 35) dX12_back_35 fl_X12_592 rfl rfl ?_
    refine Ru_top h25 ?_
    refine Ru_iconst (pc := 38) (nI 1) dX12_back_38 rfl ?_
    refine Ru_isubN (pc := 39) dX12_back_39 (by omega) ?_
    refine Ru_putI (pc := 40) rfl dX12_back_40 fl_X12_592 rfl ?_
    refine Ru_aload_n (pc := 43) dX12_back_43 rfl rfl ?_
    refine Ru_getI (pc := 44) dX12_back_44 fl_X12_592 rfl rfl ?_
    refine Ru_top r_sI_s ?_
    refine Ru_iret (pc := 47) dX12_back_47 rfl ⟨Nat.le_refl _, Nat.le_refl _⟩ ?_
    exact k0 (by omega) _ (r_fx.sI rfl (fx2.mono rfl)) ((r_sI_n (by decide)).trans h00) r_sI_s ⟨fun k hk => (r_sI_n (by omega)).trans (c9.1 k hk), fun j hj => (r_sI_n (by omega)).trans (c9.2.1 j hj), c9.2.2.1, c9.2.2.2⟩
  · refine Ru_aload_n (pc := 17) dX12_back_17 rfl rfl ?_
    refine Ru_bipush (pc := 18) (nI 8) dX12_back_18 rfl ?_
    refine Ru_cv1 (pc := 20) dX12_back_20 mv_X12_351 rfl (by decide) (Nat.le_of_ble_eq_true rfl) (c_X12_refuse ?_) 
    refine Ru_iret (pc := 23) dX12_back_23 rfl ⟨Nat.le_refl _, Nat.le_refl _⟩ ?_
    exact k8 (by omega) _ (r_fx.sI rfl (r_fx.sI rfl (r_fx.sI rfl r_fx.rf))) r_sI_s
