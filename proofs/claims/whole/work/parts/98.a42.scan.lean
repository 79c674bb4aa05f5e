-- TOKENS: the developers' own
/-- the text on the tape: a byte as it is kept, and as a number -/
def bB (c : Int32) (B : Nat) : Prop := -128 ≤ c.toInt ∧ c.toInt ≤ 127 ∧ (B : Int) = c.toInt % 256
def X_tx (T : Tx) (M : Mem) : Prop := ∀ k, k < T.2 → bB (M.1 41 k) (T.1 k)
/-- the reserved words -/
def X_rs (M : Mem) : Prop := ∀ k, k < 28 → M.2.1 42 k = nJ (cd 27 (RW.getD k []))
theorem X_tx_dp (T : Tx) : r_dp [] [41] (X_tx T) := fun _ _ q p k hk => by rw [(q 41 k (r_in_A rfl)).1]; exact p k hk
theorem X_rs_dp : r_dp [] [42] X_rs := fun _ _ q p k hk => (q 42 k (r_in_A rfl)).2.1.trans (p k hk)
theorem w_ltr27 {c B : Nat} {x : Int32} (hc : c < 1099511627776) (hx : 97 ≤ B ∧ B ≤ 122) (hb : bB x B) : r_longer (nJ c) x = nJ (c * 27 + (B - 96)) := by
  obtain ⟨h1, h2, h3⟩ := hb
  have e1 : (x - nI 97 + nI 1).toInt = (B : Int) - 96 := by
    rw [Int32.toInt_add, Int32.toInt_sub, r_tn (by decide), r_tn (by decide), Int.bmod_eq_of_le (n := x.toInt - (97 : Nat)) (by omega) (by omega), Int.bmod_eq_of_le (by omega) (by omega)]
    omega
  apply Int64.toInt_inj.mp
  have e27 : (27 : Int64).toInt = 27 := rfl
  show ((nJ c) * 27 + (x - nI 97 + nI 1).toInt64).toInt = _
  rw [Int64.toInt_add, Int64.toInt_mul, nJ_t (by omega), nJ_t (by omega), Int32.toInt_toInt64, e1, e27, Int.bmod_eq_of_le (n := (c : Int) * 27) (by omega) (by omega), Int.bmod_eq_of_le (by omega) (by omega)]
  omega
theorem cd27_pos {l : List Nat} (h : Lv l) (hl : ¬ l = []) : 0 < cd 27 l := by
  cases l with
  | nil => exact absurd rfl hl
  | cons c l =>
    have := h c (List.mem_cons_self ..)
    rw [cd]
    omega
theorem RW_ne : ∀ k, k < 28 → ¬ RW.getD k [] = [] := by decide +kernel
theorem RW_inj {i j : Nat} (hi : i < 28) (hj : j < 28) (h : RW.getD i [] = RW.getD j []) : i = j := by
  have h1 := RW_rs i hi
  have h2 := RW_rs j hj
  rw [h] at h1
  omega
theorem c255 : ∀ v, v < 256 → ((nI v).toUInt32 % 65536).toInt32 = nI v := by decide +kernel
theorem bq255 : ∀ v, v < 256 → ((nI v - nI 128) &&& nI 255).toInt = ((v : Int) - 128) % 256 := by decide +kernel
theorem bB_and {c : Int32} {B : Nat} (h : bB c B) : c &&& nI 255 = nI B := by
  obtain ⟨h1, h2, h3⟩ := h
  have e : c = nI (c.toInt + 128).toNat - nI 128 := by
    apply Int32.toInt_inj.mp
    rw [Int32.toInt_sub, r_tn (by omega), r_tn (by decide), Int.bmod_eq_of_le (by omega) (by omega)]
    omega
  have h4 := bq255 (c.toInt + 128).toNat (by omega)
  rw [← e] at h4
  apply Int32.toInt_inj.mp
  rw [h4, r_tn (by omega)]
  omega

theorem c_X8_isBlank {Q : Rq} {M : Mem} {c : Int32} {B : Nat} (h : bB c B) (k : Q (some (.int (r_b (isBk B)))) GX M) : Ca 0 mt_X8_isBlank 0 0 [.int c] GX M Q := by
  refine Ca_of rfl (Nat.le_of_ble_eq_true rfl) ?_
  obtain ⟨hl1, hl2, hl3⟩ := h
  refine Ru_iload_n (pc := 0) dX8_isBlank_0 rfl rfl ?_
  refine Ru_bipush (pc := 1) (nI 10) dX8_isBlank_1 rfl ?_
  refine Ru_icmp_eqL (pc := 3) 12 dX8_isBlank_3 (by decide) (by omega) (fun h1 => ?_) (fun h1 => ?_)
  · refine Ru_iconst (pc := 12) (nI 1) dX8_isBlank_12 rfl ?_
    refine Ru_goto (pc := 13) 17 dX8_isBlank_13 (by decide) ?_
    refine Ru_zret (pc := 17) dX8_isBlank_17 rfl ⟨Nat.le_refl _, Nat.le_refl _⟩ (Or.inr rfl) ?_
    refine r_qe (r_b_t ?_) k
    unfold isBk
    exact decide_eq_true (by omega)
  · refine Ru_iload_n (pc := 6) dX8_isBlank_6 rfl rfl ?_
    refine Ru_bipush (pc := 7) (nI 32) dX8_isBlank_7 rfl ?_
    refine Ru_icmp_neL (pc := 9) 16 dX8_isBlank_9 (by decide) (by omega) (fun h2 => ?_) (fun h2 => ?_)
    · refine Ru_iconst (pc := 16) (nI 0) dX8_isBlank_16 rfl ?_
      refine Ru_zret (pc := 17) dX8_isBlank_17 rfl ⟨Nat.le_refl _, Nat.le_refl _⟩ (Or.inl rfl) ?_
      refine r_qe (r_b_f ?_) k
      unfold isBk
      exact decide_eq_false (by omega)
    · refine Ru_iconst (pc := 12) (nI 1) dX8_isBlank_12 rfl ?_
      refine Ru_goto (pc := 13) 17 dX8_isBlank_13 (by decide) ?_
      refine Ru_zret (pc := 17) dX8_isBlank_17 rfl ⟨Nat.le_refl _, Nat.le_refl _⟩ (Or.inr rfl) ?_
      refine r_qe (r_b_t ?_) k
      unfold isBk
      exact decide_eq_true (by omega)

theorem c_X8_isLetter {Q : Rq} {M : Mem} {c : Int32} {B : Nat} (h : bB c B) (k : Q (some (.int (r_b (isLt B)))) GX M) : Ca 0 mt_X8_isLetter 0 0 [.int c] GX M Q := by
  refine Ca_of rfl (Nat.le_of_ble_eq_true rfl) ?_
  obtain ⟨hl1, hl2, hl3⟩ := h
  refine Ru_iload_n (pc := 0) dX8_isLetter_0 rfl rfl ?_
  refine Ru_bipush (pc := 1) (nI 97) dX8_isLetter_1 rfl ?_
  refine Ru_icmp_ltL (pc := 3) 16 dX8_isLetter_3 (by decide) (by omega) (fun h1 => ?_) (fun h1 => ?_)
  · refine Ru_iconst (pc := 16) (nI 0) dX8_isLetter_16 rfl ?_
    refine Ru_zret (pc := 17) dX8_isLetter_17 rfl ⟨Nat.le_refl _, Nat.le_refl _⟩ (Or.inl rfl) ?_
    refine r_qe (r_b_f ?_) k
    unfold isLt
    exact decide_eq_false (by omega)
  · refine Ru_iload_n (pc := 6) dX8_isLetter_6 rfl rfl ?_
    refine Ru_bipush (pc := 7) (nI 122) dX8_isLetter_7 rfl ?_
    refine Ru_icmp_gtL (pc := 9) 16 dX8_isLetter_9 (by decide) (by omega) (fun h2 => ?_) (fun h2 => ?_)
    · refine Ru_iconst (pc := 16) (nI 0) dX8_isLetter_16 rfl ?_
      refine Ru_zret (pc := 17) dX8_isLetter_17 rfl ⟨Nat.le_refl _, Nat.le_refl _⟩ (Or.inl rfl) ?_
      refine r_qe (r_b_f ?_) k
      unfold isLt
      exact decide_eq_false (by omega)
    · refine Ru_iconst (pc := 12) (nI 1) dX8_isLetter_12 rfl ?_
      refine Ru_goto (pc := 13) 17 dX8_isLetter_13 (by decide) ?_
      refine Ru_zret (pc := 17) dX8_isLetter_17 rfl ⟨Nat.le_refl _, Nat.le_refl _⟩ (Or.inr rfl) ?_
      refine r_qe (r_b_t ?_) k
      unfold isLt
      exact decide_eq_true (by omega)

theorem c_X8_isDigit {Q : Rq} {M : Mem} {c : Int32} {B : Nat} (h : bB c B) (k : Q (some (.int (r_b (isDg B)))) GX M) : Ca 0 mt_X8_isDigit 0 0 [.int c] GX M Q := by
  refine Ca_of rfl (Nat.le_of_ble_eq_true rfl) ?_
  obtain ⟨hl1, hl2, hl3⟩ := h
  refine Ru_iload_n (pc := 0) dX8_isDigit_0 rfl rfl ?_
  refine Ru_bipush (pc := 1) (nI 48) dX8_isDigit_1 rfl ?_
  refine Ru_icmp_ltL (pc := 3) 16 dX8_isDigit_3 (by decide) (by omega) (fun h1 => ?_) (fun h1 => ?_)
  · refine Ru_iconst (pc := 16) (nI 0) dX8_isDigit_16 rfl ?_
    refine Ru_zret (pc := 17) dX8_isDigit_17 rfl ⟨Nat.le_refl _, Nat.le_refl _⟩ (Or.inl rfl) ?_
    refine r_qe (r_b_f ?_) k
    unfold isDg
    exact decide_eq_false (by omega)
  · refine Ru_iload_n (pc := 6) dX8_isDigit_6 rfl rfl ?_
    refine Ru_bipush (pc := 7) (nI 57) dX8_isDigit_7 rfl ?_
    refine Ru_icmp_gtL (pc := 9) 16 dX8_isDigit_9 (by decide) (by omega) (fun h2 => ?_) (fun h2 => ?_)
    · refine Ru_iconst (pc := 16) (nI 0) dX8_isDigit_16 rfl ?_
      refine Ru_zret (pc := 17) dX8_isDigit_17 rfl ⟨Nat.le_refl _, Nat.le_refl _⟩ (Or.inl rfl) ?_
      refine r_qe (r_b_f ?_) k
      unfold isDg
      exact decide_eq_false (by omega)
    · refine Ru_iconst (pc := 12) (nI 1) dX8_isDigit_12 rfl ?_
      refine Ru_goto (pc := 13) 17 dX8_isDigit_13 (by decide) ?_
      refine Ru_zret (pc := 17) dX8_isDigit_17 rfl ⟨Nat.le_refl _, Nat.le_refl _⟩ (Or.inr rfl) ?_
      refine r_qe (r_b_t ?_) k
      unfold isDg
      exact decide_eq_true (by omega)

theorem l_X8_scanWord {Q : Rq} {M : Mem} {T : Tx} {q s : Nat} (tw : Tw T) (htx : X_tx T M) (hq : q ≤ 800) (k : ∀ m w, m = xL T s - s → (m ≤ 8 → w = nJ (cd 27 (wl T s m))) → (8 < m → w = nJ 0) → Ru 1 mt_X8_scanWord r_z 58 [(4, some (.int (nI (s + m)))), (5, some (.long w)), (0, some (.ref 40)), (1, some (.int (nI q))), (2, some (.int (nI s))), (3, some (.int (nI T.2)))] [] GX M Q) : ∀ (zw : Nat) (m : Nat) (w : Int64), T.2 - (s + m) = zw → (s + m ≤ T.2) → (∀ j, s ≤ j → j < s + m → isLt (T.1 j) = true) → (m ≤ 8 → w = nJ (cd 27 (wl T s m))) → (8 < m → w = nJ 0) → Ru 1 mt_X8_scanWord r_z 6 [(4, some (.int (nI (s + m)))), (5, some (.long w)), (0, some (.ref 40)), (1, some (.int (nI q))), (2, some (.int (nI s))), (3, some (.int (nI T.2)))] [] GX M Q := by
  intro zw
  induction zw using Nat.strongRecOn with
  | ind zw ih =>
    intro m w hw hn hall hw8 hw9
    subst hw
    have t8 := tw.1
    refine Ru_iload (pc := 6) dX8_scanWord_6 rfl ?_
    refine Ru_iload_n (pc := 8) dX8_scanWord_8 rfl rfl ?_
    refine Ru_icmp_geN (pc := 9) 58 dX8_scanWord_9 (by decide) (by omega) (fun h1 => ?_) (fun h1 => ?_)
    · have hnl : isLt (T.1 (s + m)) = false := by
        by_cases e : s + m < T.2
        · first | assumption | (exfalso; omega)
        · rw [tw.2.1 _ (by omega)]
          rfl
      have hm : xL T s = s + m := xL_eq tw (by omega) hn (fun j a b => hall j a b) hnl
      exact Ru_weak (k m w (by omega) hw8 hw9) rfl
    · refine Ru_aload_n (pc := 12) dX8_scanWord_12 rfl rfl ?_
      refine Ru_getR (pc := 13) 41 dX8_scanWord_13 fl_X8_9 rfl rfl (rfX_of (o := 40) (j := 1) rfl rfl) ?_
      refine Ru_iload (pc := 16) dX8_scanWord_16 rfl ?_
      refine Ru_bald (pc := 18) dX8_scanWord_18 rfl (by omega) ?_
      refine Ru_top (rfl : M.1 41 (s + m) = _) ?_
      refine Ru_cs1 (pc := 19) dX8_scanWord_19 ms_X8_72 (by decide) (Nat.le_of_ble_eq_true rfl) (c_X8_isLetter (B := T.1 (s + m)) (htx (s + m) (by omega)) ?_) 
      refine Ru_if_eqB (pc := 22) 58 dX8_scanWord_22 (by decide) (fun h2 => ?_) (fun h2 => ?_)
      · have hnl9 : isLt (T.1 (s + m)) = false := by assumption
        have hnl : isLt (T.1 (s + m)) = false := by
          by_cases e : s + m < T.2
          · first | assumption | (exfalso; omega)
          · rw [tw.2.1 _ (by omega)]
            rfl
        have hm : xL T s = s + m := xL_eq tw (by omega) hn (fun j a b => hall j a b) hnl
        exact Ru_weak (k m w (by omega) hw8 hw9) rfl
      · refine Ru_iload (pc := 25) dX8_scanWord_25 rfl ?_
        refine Ru_iload_n (pc := 27) dX8_scanWord_27 rfl rfl ?_
        refine Ru_isubN (pc := 28) dX8_scanWord_28 (by omega) ?_
        refine Ru_bipush (pc := 29) (nI 8) dX8_scanWord_29 rfl ?_
        refine Ru_icmp_geN (pc := 31) 49 dX8_scanWord_31 (by decide) (by omega) (fun h3 => ?_) (fun h3 => ?_)
        · refine Ru_lconst (pc := 49) 0 dX8_scanWord_49 rfl ?_
          refine Ru_lstore (pc := 50) dX8_scanWord_50 rfl (by decide) ?_
          refine Ru_iincN (pc := 52) 1 dX8_scanWord_52 rfl rfl rfl (by decide) ?_
          refine Ru_goto (pc := 55) 6 dX8_scanWord_55 (by decide) ?_
          have hlt9 : isLt (T.1 (s + m)) = true := by assumption
          refine Ru_weak (ih (T.2 - (s + m) - 1) (by omega) (m + 1) _ (by omega) (by omega) (fun j a b => ?_) (fun z => by omega) (fun _ => rfl)) rfl
          by_cases e : j = s + m
          · rw [e]
            exact hlt9
          · exact hall j a (by omega)
        · refine Ru_lload (pc := 34) dX8_scanWord_34 rfl ?_
          refine Ru_aload_n (pc := 36) dX8_scanWord_36 rfl rfl ?_
          refine Ru_getR (pc := 37) 41 dX8_scanWord_37 fl_X8_9 rfl rfl (rfX_of (o := 40) (j := 1) rfl rfl) ?_
          refine Ru_iload (pc := 40) dX8_scanWord_40 rfl ?_
          refine Ru_bald (pc := 42) dX8_scanWord_42 rfl (by omega) ?_
          refine Ru_top (rfl : M.1 41 (s + m) = _) ?_
          refine Ru_cs2 (pc := 43) dX8_scanWord_43 ms_X8_48 (by decide) (Nat.le_of_ble_eq_true rfl) (c_X8_longer ?_) 
          have hlt := of_decide_eq_true (show isLt (T.1 (s + m)) = true by assumption)
          have hc8 := cd_8 (b := 27) (by decide) (wl_v hall) (by rw [wl_len]; omega)
          refine Ru_topL (show r_longer w (M.1 41 (s + m)) = nJ (cd 27 (wl T s m) * 27 + (T.1 (s + m) - 96)) from by rw [hw8 (by omega)]; exact w_ltr27 hc8 hlt (htx _ (by omega))) ?_
          refine Ru_goto (pc := 46) 50 dX8_scanWord_46 (by decide) ?_
          refine Ru_lstore (pc := 50) dX8_scanWord_50 rfl (by decide) ?_
          refine Ru_iincN (pc := 52) 1 dX8_scanWord_52 rfl rfl rfl (by decide) ?_
          refine Ru_goto (pc := 55) 6 dX8_scanWord_55 (by decide) ?_
          have hlt9 : isLt (T.1 (s + m)) = true := by assumption
          refine Ru_weak (ih (T.2 - (s + m) - 1) (by omega) (m + 1) _ (by omega) (by omega) (fun j a b => ?_) (fun _ => rfl) (fun z => by omega)) rfl
          by_cases e : j = s + m
          · rw [e]
            exact hlt9
          · exact hall j a (by omega)

theorem l_X8_scanWord2 {Q : Rq} {M0 : Mem} {q e base s n : Nat} {w : Int64} {P : Nat → Bool} (hq : q ≤ 800) (hrs0 : X_rs M0) (hP : ∀ i, i < 28 → (nJ (cd 27 (RW.getD i [])) = w ↔ P i = true)) (hun : ∀ i j, i < 28 → j < 28 → P i = true → P j = true → i = j) (k : ∀ M', r_fx [] [43] M0 M' → (∀ j, ¬ j = q → M'.1 43 j = M0.1 43 j) → M'.1 43 q = nI (if fF P 28 = 0 then base else 127 + fF P 28) → Q (some (.int (nI e))) GX M') : ∀ (zw : Nat) (i : Nat) (M : Mem), 28 - i = zw → (i ≤ 28) → (M.1 43 q = nI (if fF P i = 0 then base else 127 + fF P i)) → (∀ j, ¬ j = q → M.1 43 j = M0.1 43 j) → (r_fx [] [43] M0 M) → Ru 1 mt_X8_scanWord r_z 89 [(7, some (.int (nI i))), (4, some (.int (nI e))), (5, some (.long w)), (0, some (.ref 40)), (1, some (.int (nI q))), (2, some (.int (nI s))), (3, some (.int (nI n)))] [] GX M Q := by
  intro zw
  induction zw using Nat.strongRecOn with
  | ind zw ih =>
    intro i M hw hn h43 hoth fx
    subst hw
    refine Ru_iload (pc := 89) dX8_scanWord_89 rfl ?_
    refine Ru_aload_n (pc := 91) dX8_scanWord_91 rfl rfl ?_
    refine Ru_getR (pc := 92) 42 dX8_scanWord_92 fl_X8_15 rfl rfl (rfX_of (o := 40) (j := 2) rfl rfl) ?_
    refine Ru_alen (pc := 95) dX8_scanWord_95 rfl (by decide) ?_
    refine Ru_icmp_geN (pc := 96) 130 dX8_scanWord_96 (by decide) (by omega) (fun h1 => ?_) (fun h1 => ?_)
    · refine Ru_iload (pc := 130) dX8_scanWord_130 rfl ?_
      refine Ru_iret (pc := 132) dX8_scanWord_132 rfl ⟨Nat.le_refl _, Nat.le_refl _⟩ ?_
      have ei : i = 28 := by omega
      subst ei
      exact k M fx hoth h43
    · refine Ru_aload_n (pc := 99) dX8_scanWord_99 rfl rfl ?_
      refine Ru_getR (pc := 100) 42 dX8_scanWord_100 fl_X8_15 rfl rfl (rfX_of (o := 40) (j := 2) rfl rfl) ?_
      refine Ru_iload (pc := 103) dX8_scanWord_103 rfl ?_
      refine Ru_lald (pc := 105) dX8_scanWord_105 rfl (by omega) ?_
      refine Ru_topL ((X_rs_dp.kp fx rfl hrs0) i (by omega)) ?_
      refine Ru_lload (pc := 106) dX8_scanWord_106 rfl ?_
      refine Ru_lcmp (pc := 108) dX8_scanWord_108 ?_
      refine Ru_if_neC (pc := 109) 124 dX8_scanWord_109 (by decide) (fun h2 => ?_) (fun h2 => ?_)
      · refine Ru_iincN (pc := 124) 1 dX8_scanWord_124 rfl rfl rfl (by decide) ?_
        refine Ru_goto (pc := 127) 89 dX8_scanWord_127 (by decide) ?_
        have hpi : P i = false := by
          cases z : P i
          · rfl
          · exact absurd ((hP i (by omega)).mpr z) (by assumption)
        have hf1 : fF P (i + 1) = fF P i := by
          rw [fF, hpi]
          split
          · rename_i z
            exact z.symm
          · rfl
        exact Ru_weak (ih (28 - (i + 1)) (by omega) (i + 1) M rfl (by omega) (by rw [hf1]; exact h43) hoth fx) rfl
      · refine Ru_aload_n (pc := 112) dX8_scanWord_112 rfl rfl ?_
        refine Ru_getR (pc := 113) 43 dX8_scanWord_113 fl_X8_19 rfl rfl (rfX_of (o := 40) (j := 3) rfl rfl) ?_
        refine Ru_iload_n (pc := 116) dX8_scanWord_116 rfl rfl ?_
        refine Ru_sipush (pc := 117) (nI 128) dX8_scanWord_117 rfl ?_
        refine Ru_iload (pc := 120) dX8_scanWord_120 rfl ?_
        refine Ru_iaddN (pc := 122) dX8_scanWord_122 ?_
        refine Ru_iast (pc := 123) rfl dX8_scanWord_123 rfl (by omega) ?_
        refine Ru_iincN (pc := 124) 1 dX8_scanWord_124 rfl rfl rfl (by decide) ?_
        refine Ru_goto (pc := 127) 89 dX8_scanWord_127 (by decide) ?_
        have hpi : P i = true := (hP i (by omega)).mp (by assumption)
        have hf0 : fF P i = 0 := fF_no (fun j hj => by
          cases hpj : P j
          · rfl
          · have := hun i j (by omega) (by omega) hpi hpj
            omega)
        have hf1 : fF P (i + 1) = i + 1 := by rw [fF, if_pos hf0, if_pos hpi]
        refine Ru_weak (ih (28 - (i + 1)) (by omega) (i + 1) _ rfl (by omega) ?_ (fun j hj => (r_sI_n (by omega)).trans (hoth j hj)) (r_fx.sI rfl fx)) rfl
        rw [hf1, if_neg (by omega)]
        refine r_sI_s.trans (congrArg nI ?_)
        omega
