theorem l_X12_tray {Q : Rq} {M : Mem} {j m : Nat} {s : Int32} (hj : j < 4) (hm : m ≤ 60) (k : ∀ M', r_fx [] [3] M M' → (∀ q, q < m → M'.2.1 3 (60 * j + q) = 0) → (∀ q, ¬ (60 * j ≤ q ∧ q < 60 * j + 60) → M'.2.1 3 q = M.2.1 3 q) → Q (some (.int (nI 1))) GY M') : ∀ (n i : Nat) (M1 : Mem), m - i = n → i ≤ m → r_fx [] [3] M M1 → (∀ q, q < i → M1.2.1 3 (60 * j + q) = 0) → (∀ q, ¬ (60 * j ≤ q ∧ q < 60 * j + 60) → M1.2.1 3 q = M.2.1 3 q) → Ru 1 mt_X12_tray r_z 74 [(4, some (.int (nI i))), (0, some (.ref 0)), (1, some (.int (nI j))), (2, some (.int s)), (3, some (.int (nI m)))] [] GY M1 Q := by
  intro n
  induction n using Nat.strongRecOn with
  | ind n ih =>
    intro i M1 hn hi e1 e2 e3
    subst hn
    refine Ru_iload (pc := 74) dX12_tray_74 rfl ?_
    refine Ru_iload_n (pc := 76) dX12_tray_76 rfl rfl ?_
    refine Ru_icmp_geN (pc := 77) 99 dX12_tray_77 (by decide) (by omega) (fun h1 => ?_) (fun h1 => ?_)
    · refine Ru_iconst (pc := 99) (nI 1) dX12_tray_99 rfl ?_
      refine Ru_zret (pc := 100) dX12_tray_100 rfl ⟨Nat.le_refl _, Nat.le_refl _⟩ (Or.inr rfl) ?_
      have him : i = m := by omega
      subst him
      exact k _ e1 e2 e3
    · refine Ru_aload_n (pc := 80) dX12_tray_80 rfl rfl ?_
      refine Ru_getR (pc := 81) 3 dX12_tray_81 fl_X12_20 rfl rfl rfl ?_
      refine Ru_bipush (pc := 84) (nI 60) dX12_tray_84 rfl ?_
      refine Ru_iload_n (pc := 86) dX12_tray_86 rfl rfl ?_
      refine Ru_imulN (pc := 87) dX12_tray_87 ?_
      refine Ru_iload (pc := 88) dX12_tray_88 rfl ?_
      refine Ru_iaddN (pc := 90) dX12_tray_90 ?_
      refine Ru_lconst (pc := 91) 0 dX12_tray_91 rfl ?_
      refine Ru_last (pc := 92) rfl dX12_tray_92 rfl (by omega) ?_
      refine Ru_iincN (pc := 93) 1 dX12_tray_93 rfl rfl rfl (by decide) ?_
      refine Ru_goto (pc := 96) 74 dX12_tray_96 (by decide) ?_
      refine Ru_weak (ih (m - (i + 1)) (by omega) (i + 1) _ rfl (by omega) (r_fx.sJ rfl e1) (fun q hq => ?_) (fun q hq => ?_)) rfl
      · rw [r_sJ_g]
        by_cases hqi : q = i
        · subst hqi
          rw [if_pos ⟨rfl, rfl⟩]
        · rw [if_neg (by omega)]
          exact e2 q (by omega)
      · rw [r_sJ_g, if_neg (by omega)]
        exact e3 q hq

theorem Y_tr_new {tr : Nat → Tr} {M M2 M' : Mem} {t n : Nat} {s : Int32} (hy : Y_tr tr M) (ht : t < 4) (hn : n ≤ 60) (e2 : M2 = r_sI (r_sI (r_sI (r_sI M 0 1 (nI 0)) 0 0 (nI 0)) 1 t s) 2 t (nI n)) (hf : r_fx [] [3] M2 M') (hz : ∀ q, q < n → M'.2.1 3 (60 * t + q) = 0) (ho : ∀ q, ¬ (60 * t ≤ q ∧ q < 60 * t + 60) → M'.2.1 3 q = M2.2.1 3 q) : Y_tr (fun j => if j = t then (s, nI n, fun _ => 0) else tr j) M' := by
  intro j hj
  obtain ⟨a, b, c, d⟩ := hy j hj
  have f1 := (hf 1 j rfl).1
  have f2 := (hf 2 j rfl).1
  subst e2
  rw [r_sI_n (by omega), r_sI_g, r_sI_n (by omega), r_sI_n (by omega)] at f1
  rw [r_sI_g, r_sI_n (by omega), r_sI_n (by omega), r_sI_n (by omega)] at f2
  by_cases hjt : j = t
  · subst hjt
    rw [if_pos ⟨rfl, rfl⟩] at f1 f2
    simp only [if_pos]
    have e := r_tn (show n < 2147483648 by omega)
    refine ⟨f1, f2, by rw [e]; omega, fun q hq => ?_⟩
    rw [e] at hq
    exact hz q (by omega)
  · rw [if_neg (by omega)] at f1 f2
    simp only [if_neg hjt]
    refine ⟨f1.trans a, f2.trans b, c, fun q hq => ?_⟩
    rw [ho _ (by omega)]
    exact d q hq

theorem c_X12_tray {Q : Rq} {M : Mem} {t s n : Int32} {tr : Nat → Tr} (hy : Y_tr tr M) (k : ∀ M', r_fx [(0, 0), (0, 1)] [1, 2, 3] M M' → M'.1 0 0 = (f_tray t s n tr).2.1 → Y_tr (f_tray t s n tr).2.2 M' → Q (some (.int (r_b (f_tray t s n tr).1))) GY M') : Ca 1 mt_X12_tray 0 0 [.ref 0, .int t, .int s, .int n] GY M Q := by
  refine Ca_of rfl (Nat.le_of_ble_eq_true rfl) ?_
  refine Ru_aload_n (pc := 0) dX12_tray_0 rfl rfl ?_
  refine Ru_iconst (pc := 1) (nI 0) dX12_tray_1 rfl ?_
  refine Ru_putI (pc := 2) rfl dX12_tray_2 fl_X12_87 rfl ?_
  refine Ru_aload_n (pc := 5) dX12_tray_5 rfl rfl ?_
  refine Ru_iconst (pc := 6) (nI 0) dX12_tray_6 rfl ?_
  refine Ru_putI (pc := 7) rfl dX12_tray_7 fl_X12_90 rfl ?_
  refine Ru_iload_n (pc := 10) dX12_tray_10 rfl rfl ?_
  refine Ru_if_ltT (pc := 11) 28 dX12_tray_11 (by decide) (fun h1 => ?_) (fun h1 => ?_)
  · refine Ru_aload_n (pc := 28) dX12_tray_28 rfl rfl ?_
    refine Ru_iconst (pc := 29) (nI 1) dX12_tray_29 rfl ?_
    refine Ru_cv1 (pc := 30) dX12_tray_30 mv_X12_102 rfl (by decide) (Nat.le_of_ble_eq_true rfl) (c_X12_no ?_) 
    refine Ru_zret (pc := 33) dX12_tray_33 rfl ⟨Nat.le_refl _, Nat.le_refl _⟩ (Or.inl rfl) ?_
    have e : f_tray t s n tr = (false, nI 1, tr) := by
      unfold f_tray
      repeat' split
      all_goals first | rfl | (exfalso; omega)
    rw [e] at k
    exact k _ (r_fx.sI rfl (r_fx.sI rfl (r_fx.sI rfl r_fx.rf))) r_sI_s (Y_tr_S (r_fx.sI rfl (r_fx.sI rfl (r_fx.sI rfl r_fx.rf))) hy)
  · refine Ru_iload_n (pc := 14) dX12_tray_14 rfl rfl ?_
    refine Ru_iconst (pc := 15) (nI 4) dX12_tray_15 rfl ?_
    refine Ru_icmp_geL (pc := 16) 28 dX12_tray_16 (by decide) (by omega) (fun h2 => ?_) (fun h2 => ?_)
    · refine Ru_aload_n (pc := 28) dX12_tray_28 rfl rfl ?_
      refine Ru_iconst (pc := 29) (nI 1) dX12_tray_29 rfl ?_
      refine Ru_cv1 (pc := 30) dX12_tray_30 mv_X12_102 rfl (by decide) (Nat.le_of_ble_eq_true rfl) (c_X12_no ?_) 
      refine Ru_zret (pc := 33) dX12_tray_33 rfl ⟨Nat.le_refl _, Nat.le_refl _⟩ (Or.inl rfl) ?_
      have e : f_tray t s n tr = (false, nI 1, tr) := by
        unfold f_tray
        repeat' split
        all_goals first | rfl | (exfalso; omega)
      rw [e] at k
      exact k _ (r_fx.sI rfl (r_fx.sI rfl (r_fx.sI rfl r_fx.rf))) r_sI_s (Y_tr_S (r_fx.sI rfl (r_fx.sI rfl (r_fx.sI rfl r_fx.rf))) hy)
    · refine Ru_iload_n (pc := 19) dX12_tray_19 rfl rfl ?_
      refine Ru_if_ltT (pc := 20) 28 dX12_tray_20 (by decide) (fun h3 => ?_) (fun h3 => ?_)
      · refine Ru_aload_n (pc := 28) dX12_tray_28 rfl rfl ?_
        refine Ru_iconst (pc := 29) (nI 1) dX12_tray_29 rfl ?_
        refine Ru_cv1 (pc := 30) dX12_tray_30 mv_X12_102 rfl (by decide) (Nat.le_of_ble_eq_true rfl) (c_X12_no ?_) 
        refine Ru_zret (pc := 33) dX12_tray_33 rfl ⟨Nat.le_refl _, Nat.le_refl _⟩ (Or.inl rfl) ?_
        have e : f_tray t s n tr = (false, nI 1, tr) := by
          unfold f_tray
          repeat' split
          all_goals first | rfl | (exfalso; omega)
        rw [e] at k
        exact k _ (r_fx.sI rfl (r_fx.sI rfl (r_fx.sI rfl r_fx.rf))) r_sI_s (Y_tr_S (r_fx.sI rfl (r_fx.sI rfl (r_fx.sI rfl r_fx.rf))) hy)
      · refine Ru_iload_n (pc := 23) dX12_tray_23 rfl rfl ?_
        refine Ru_iconst (pc := 24) (nI 3) dX12_tray_24 rfl ?_
        refine Ru_icmp_leL (pc := 25) 34 dX12_tray_25 (by decide) (by omega) (fun h4 => ?_) (fun h4 => ?_)
        · refine Ru_iload_n (pc := 34) dX12_tray_34 rfl rfl ?_
          refine Ru_bipush (pc := 35) (nI 60) dX12_tray_35 rfl ?_
          refine Ru_icmp_leL (pc := 37) 46 dX12_tray_37 (by decide) (by omega) (fun h5 => ?_) (fun h5 => ?_)
          · refine Ru_iload_n (pc := 46) dX12_tray_46 rfl rfl ?_
            refine Ru_if_geT (pc := 47) 57 dX12_tray_47 (by decide) (fun h6 => ?_) (fun h6 => ?_)
            · obtain ⟨t', ht', rfl⟩ := r_nat (x := t) (n := 4) (by omega) (by decide)
              obtain ⟨n', hn', rfl⟩ := r_nat (x := n) (n := 61) (by omega) (by decide)
              have et := r_tnn (show t' < 2147483648 by omega)
              have et2 := r_tn (show t' < 2147483648 by omega)
              have en2 := r_tn (show n' < 2147483648 by omega)
              refine Ru_aload_n (pc := 57) dX12_tray_57 rfl rfl ?_
              refine Ru_getR (pc := 58) 1 dX12_tray_58 fl_X12_13 rfl rfl rfl ?_
              refine Ru_iload_n (pc := 61) dX12_tray_61 rfl rfl ?_
              refine Ru_iload_n (pc := 62) dX12_tray_62 rfl rfl ?_
              refine Ru_iast (pc := 63) rfl dX12_tray_63 rfl (by omega) ?_
              refine Ru_aload_n (pc := 64) dX12_tray_64 rfl rfl ?_
              refine Ru_getR (pc := 65) 2 dX12_tray_65 fl_X12_17 rfl rfl rfl ?_
              refine Ru_iload_n (pc := 68) dX12_tray_68 rfl rfl ?_
              refine Ru_iload_n (pc := 69) dX12_tray_69 rfl rfl ?_
              refine Ru_iast (pc := 70) rfl dX12_tray_70 rfl (by omega) ?_
              refine Ru_iconst (pc := 71) (nI 0) dX12_tray_71 rfl ?_
              refine Ru_istore (pc := 72) dX12_tray_72 rfl (by decide) ?_
              have e : f_tray (nI t') s (nI n') tr = (true, nI 0, fun j => if j = t' then (s, nI n', fun _ => 0) else tr j) := by
                unfold f_tray
                rw [if_neg (by omega), if_neg (by omega), if_neg (by omega), et]
              rw [e] at k
              refine Ru_weak (l_X12_tray (s := s) (m := n') ht' (by omega) (fun M' hf hz ho => ?_) n' 0 _ (by omega) (by omega) r_fx.rf (fun q hq => absurd hq (Nat.not_lt_zero q)) (fun q _ => rfl)) rfl
              refine k M' ((r_fx.sI rfl (r_fx.sI rfl (r_fx.sI rfl (r_fx.sI rfl r_fx.rf)))).tr (hf.mono rfl)) ?_ (Y_tr_new hy ht' (by omega) rfl hf hz ho)
              rw [(hf 0 0 rfl).1]
              rfl
            · refine Ru_aload_n (pc := 50) dX12_tray_50 rfl rfl ?_
              refine Ru_bipush (pc := 51) (nI 6) dX12_tray_51 rfl ?_
              refine Ru_cv1 (pc := 53) dX12_tray_53 mv_X12_102 rfl (by decide) (Nat.le_of_ble_eq_true rfl) (c_X12_no ?_) 
              refine Ru_zret (pc := 56) dX12_tray_56 rfl ⟨Nat.le_refl _, Nat.le_refl _⟩ (Or.inl rfl) ?_
              have e : f_tray t s n tr = (false, nI 6, tr) := by
                unfold f_tray
                repeat' split
                all_goals first | rfl | (exfalso; omega)
              rw [e] at k
              exact k _ (r_fx.sI rfl (r_fx.sI rfl (r_fx.sI rfl r_fx.rf))) r_sI_s (Y_tr_S (r_fx.sI rfl (r_fx.sI rfl (r_fx.sI rfl r_fx.rf))) hy)
          · refine Ru_aload_n (pc := 40) dX12_tray_40 rfl rfl ?_
            refine Ru_iconst (pc := 41) (nI 5) dX12_tray_41 rfl ?_
            refine Ru_cv1 (pc := 42) dX12_tray_42 mv_X12_102 rfl (by decide) (Nat.le_of_ble_eq_true rfl) (c_X12_no ?_) 
            refine Ru_zret (pc := 45) dX12_tray_45 rfl ⟨Nat.le_refl _, Nat.le_refl _⟩ (Or.inl rfl) ?_
            have e : f_tray t s n tr = (false, nI 5, tr) := by
              unfold f_tray
              repeat' split
              all_goals first | rfl | (exfalso; omega)
            rw [e] at k
            exact k _ (r_fx.sI rfl (r_fx.sI rfl (r_fx.sI rfl r_fx.rf))) r_sI_s (Y_tr_S (r_fx.sI rfl (r_fx.sI rfl (r_fx.sI rfl r_fx.rf))) hy)
        · refine Ru_aload_n (pc := 28) dX12_tray_28 rfl rfl ?_
          refine Ru_iconst (pc := 29) (nI 1) dX12_tray_29 rfl ?_
          refine Ru_cv1 (pc := 30) dX12_tray_30 mv_X12_102 rfl (by decide) (Nat.le_of_ble_eq_true rfl) (c_X12_no ?_) 
          refine Ru_zret (pc := 33) dX12_tray_33 rfl ⟨Nat.le_refl _, Nat.le_refl _⟩ (Or.inl rfl) ?_
          have e : f_tray t s n tr = (false, nI 1, tr) := by
            unfold f_tray
            repeat' split
            all_goals first | rfl | (exfalso; omega)
          rw [e] at k
          exact k _ (r_fx.sI rfl (r_fx.sI rfl (r_fx.sI rfl r_fx.rf))) r_sI_s (Y_tr_S (r_fx.sI rfl (r_fx.sI rfl (r_fx.sI rfl r_fx.rf))) hy)
