theorem c_X11_isPlaces {Q : Rq} {M : Mem} {a : Int32} (k : Q (some (.int (r_b (decide (1 ≤ a.toInt ∧ a.toInt ≤ 24))))) GX M) : Ca 0 mt_X11_isPlaces 0 0 [.ref 0, .int a] GX M Q := by
  refine Ca_of rfl (Nat.le_of_ble_eq_true rfl) ?_
  refine Ru_iload_n (pc := 0) dX11_isPlaces_0 rfl rfl ?_
  refine Ru_iconst (pc := 1) (nI 1) dX11_isPlaces_1 rfl ?_
  refine Ru_icmp_ltL (pc := 2) 15 dX11_isPlaces_2 (by decide) (by omega) (fun h1 => ?_) (fun h1 => ?_)
  · refine Ru_iconst (pc := 15) (nI 0) dX11_isPlaces_15 rfl ?_
    refine Ru_zret (pc := 16) dX11_isPlaces_16 rfl ⟨Nat.le_refl _, Nat.le_refl _⟩ (Or.inl rfl) ?_
    refine r_qe (r_b_f ?_) k
    exact decide_eq_false (by omega)
  · refine Ru_iload_n (pc := 5) dX11_isPlaces_5 rfl rfl ?_
    refine Ru_bipush (pc := 6) (nI 24) dX11_isPlaces_6 rfl ?_
    refine Ru_icmp_gtL (pc := 8) 15 dX11_isPlaces_8 (by decide) (by omega) (fun h2 => ?_) (fun h2 => ?_)
    · refine Ru_iconst (pc := 15) (nI 0) dX11_isPlaces_15 rfl ?_
      refine Ru_zret (pc := 16) dX11_isPlaces_16 rfl ⟨Nat.le_refl _, Nat.le_refl _⟩ (Or.inl rfl) ?_
      refine r_qe (r_b_f ?_) k
      exact decide_eq_false (by omega)
    · refine Ru_iconst (pc := 11) (nI 1) dX11_isPlaces_11 rfl ?_
      refine Ru_goto (pc := 12) 16 dX11_isPlaces_12 (by decide) ?_
      refine Ru_zret (pc := 16) dX11_isPlaces_16 rfl ⟨Nat.le_refl _, Nat.le_refl _⟩ (Or.inr rfl) ?_
      refine r_qe (r_b_t ?_) k
      exact decide_eq_true (by omega)

theorem c_X12_west {Q : Rq} {M : Mem} {fr : Int64 × Int64} {a u l : Int32} (hy : Y_fr fr M) (k : ∀ M', r_fx [(0, 0), (0, 1), (0, 2), (0, 3)] [] M M' → M'.1 0 0 = nI (f_west a u l fr).2.1 → Y_fr (f_west a u l fr).2.2 M' → Q (some (.int (r_b (f_west a u l fr).1))) GY M') : Ca 2 mt_X12_west 0 0 [.ref 0, .int a, .int u, .int l] GY M Q := by
  refine Ca_of rfl (Nat.le_of_ble_eq_true rfl) ?_
  refine Ru_aload_n (pc := 0) dX12_west_0 rfl rfl ?_
  refine Ru_iconst (pc := 1) (nI 0) dX12_west_1 rfl ?_
  refine Ru_putI (pc := 2) rfl dX12_west_2 fl_X12_87 rfl ?_
  refine Ru_aload_n (pc := 5) dX12_west_5 rfl rfl ?_
  refine Ru_iconst (pc := 6) (nI 0) dX12_west_6 rfl ?_
  refine Ru_putI (pc := 7) rfl dX12_west_7 fl_X12_90 rfl ?_
  refine Ru_iload_n (pc := 10) dX12_west_10 rfl rfl ?_
  refine Ru_i2l (pc := 11) _ dX12_west_11 rfl ?_
  refine Ru_lconst (pc := 12) 1 dX12_west_12 rfl ?_
  refine Ru_ldc2 (pc := 13) dX12_west_13 tw_1939 ?_
  refine Ru_cs3 (pc := 16) dX12_west_16 ms_X12_122 (by decide) (Nat.le_of_ble_eq_true rfl) (c_X12_isIn (1) (24) rfl rfl ?_) 
  refine Ru_if_eqB (pc := 19) 51 dX12_west_19 (by decide) (fun h1 => ?_) (fun h1 => ?_)
  · replace h1 := of_decide_eq_false h1
    refine Ru_aload_n (pc := 51) dX12_west_51 rfl rfl ?_
    refine Ru_iconst (pc := 52) (nI 5) dX12_west_52 rfl ?_
    refine Ru_cv1 (pc := 53) dX12_west_53 mv_X12_102 rfl (by decide) (Nat.le_of_ble_eq_true rfl) (c_X12_no ?_) 
    refine Ru_zret (pc := 56) dX12_west_56 rfl ⟨Nat.le_refl _, Nat.le_refl _⟩ (Or.inl rfl) ?_
    have e : f_west a u l fr = (false, 5, fr) := by
      unfold f_west
      rw [if_pos (by omega)]
    rw [e] at k
    exact k _ (r_fx.sI rfl (r_fx.sI rfl (r_fx.sI rfl r_fx.rf))) r_sI_s ((Y_fr_dp fr).kp (F := [(0, 0), (0, 1)]) (A := []) (r_fx.sI rfl (r_fx.sI rfl (r_fx.sI rfl r_fx.rf))) rfl hy)
  · replace h1 := of_decide_eq_true h1
    refine Ru_iload_n (pc := 22) dX12_west_22 rfl rfl ?_
    refine Ru_i2l (pc := 23) _ dX12_west_23 rfl ?_
    refine Ru_lconst (pc := 24) 0 dX12_west_24 rfl ?_
    refine Ru_ldc2 (pc := 25) dX12_west_25 tw_2061 ?_
    refine Ru_cs3 (pc := 28) dX12_west_28 ms_X12_122 (by decide) (Nat.le_of_ble_eq_true rfl) (c_X12_isIn (0) (99) rfl rfl ?_) 
    refine Ru_if_eqB (pc := 31) 51 dX12_west_31 (by decide) (fun h2 => ?_) (fun h2 => ?_)
    · replace h2 := of_decide_eq_false h2
      refine Ru_aload_n (pc := 51) dX12_west_51 rfl rfl ?_
      refine Ru_iconst (pc := 52) (nI 5) dX12_west_52 rfl ?_
      refine Ru_cv1 (pc := 53) dX12_west_53 mv_X12_102 rfl (by decide) (Nat.le_of_ble_eq_true rfl) (c_X12_no ?_) 
      refine Ru_zret (pc := 56) dX12_west_56 rfl ⟨Nat.le_refl _, Nat.le_refl _⟩ (Or.inl rfl) ?_
      have e : f_west a u l fr = (false, 5, fr) := by
        unfold f_west
        rw [if_pos (by omega)]
      rw [e] at k
      exact k _ (r_fx.sI rfl (r_fx.sI rfl (r_fx.sI rfl r_fx.rf))) r_sI_s ((Y_fr_dp fr).kp (F := [(0, 0), (0, 1)]) (A := []) (r_fx.sI rfl (r_fx.sI rfl (r_fx.sI rfl r_fx.rf))) rfl hy)
    · replace h2 := of_decide_eq_true h2
      refine Ru_iload_n (pc := 34) dX12_west_34 rfl rfl ?_
      refine Ru_i2l (pc := 35) _ dX12_west_35 rfl ?_
      refine Ru_lconst (pc := 36) 1 dX12_west_36 rfl ?_
      refine Ru_ldc2 (pc := 37) dX12_west_37 tw_2061 ?_
      refine Ru_cs3 (pc := 40) dX12_west_40 ms_X12_122 (by decide) (Nat.le_of_ble_eq_true rfl) (c_X12_isIn (1) (99) rfl rfl ?_) 
      refine Ru_if_eqB (pc := 43) 51 dX12_west_43 (by decide) (fun h3 => ?_) (fun h3 => ?_)
      · replace h3 := of_decide_eq_false h3
        refine Ru_aload_n (pc := 51) dX12_west_51 rfl rfl ?_
        refine Ru_iconst (pc := 52) (nI 5) dX12_west_52 rfl ?_
        refine Ru_cv1 (pc := 53) dX12_west_53 mv_X12_102 rfl (by decide) (Nat.le_of_ble_eq_true rfl) (c_X12_no ?_) 
        refine Ru_zret (pc := 56) dX12_west_56 rfl ⟨Nat.le_refl _, Nat.le_refl _⟩ (Or.inl rfl) ?_
        have e : f_west a u l fr = (false, 5, fr) := by
          unfold f_west
          rw [if_pos (by omega)]
        rw [e] at k
        exact k _ (r_fx.sI rfl (r_fx.sI rfl (r_fx.sI rfl r_fx.rf))) r_sI_s ((Y_fr_dp fr).kp (F := [(0, 0), (0, 1)]) (A := []) (r_fx.sI rfl (r_fx.sI rfl (r_fx.sI rfl r_fx.rf))) rfl hy)
      · replace h3 := of_decide_eq_true h3
        refine Ru_iload_n (pc := 46) dX12_west_46 rfl rfl ?_
        refine Ru_iload_n (pc := 47) dX12_west_47 rfl rfl ?_
        refine Ru_icmp_ltT (pc := 48) 57 dX12_west_48 (by decide) (fun h4 => ?_) (fun h4 => ?_)
        · obtain ⟨a', ha', rfl⟩ := r_nat (x := a) (n := 25) (by omega) (by omega)
          have ea := r_tn (show a' < 2147483648 by omega)
          obtain ⟨u', hu', rfl⟩ := r_nat (x := u) (n := 100) (by omega) (by omega)
          have eu := r_tn (show u' < 2147483648 by omega)
          obtain ⟨l', hl', rfl⟩ := r_nat (x := l) (n := 100) (by omega) (by omega)
          have el := r_tn (show l' < 2147483648 by omega)
          refine Ru_aload_n (pc := 57) dX12_west_57 rfl rfl ?_
          refine Ru_iload_n (pc := 58) dX12_west_58 rfl rfl ?_
          refine Ru_i2lJ (pc := 59) dX12_west_59 (by omega) ?_
          refine Ru_iload_n (pc := 60) dX12_west_60 rfl rfl ?_
          refine Ru_i2lJ (pc := 61) dX12_west_61 (by omega) ?_
          refine Ru_lmulJ (pc := 62) dX12_west_62 (by omega) ?_
          refine Ru_iload_n (pc := 63) dX12_west_63 rfl rfl ?_
          refine Ru_iload_n (pc := 64) dX12_west_64 rfl rfl ?_
          refine Ru_isubN (pc := 65) dX12_west_65 (by omega) ?_
          refine Ru_i2lJ (pc := 66) dX12_west_66 (by omega) ?_
          refine Ru_cv2 (pc := 67) dX12_west_67 mv_X12_488 rfl (by decide) (Nat.le_of_ble_eq_true rfl) (c_X12_fraction (by have := Nat.mul_le_mul (show a' ≤ 24 by omega) (show l' ≤ 99 by omega); omega) (by omega) (by omega) ?_) 
          refine Ru_zret (pc := 70) dX12_west_70 rfl ⟨Nat.le_refl _, Nat.le_refl _⟩ (Or.inr rfl) ?_
          have e : f_west (nI a') (nI u') (nI l') fr = (true, 0, f_frac (a' * l') (l' - u')) := by
            unfold f_west
            rw [if_neg (by omega)]
            simp only [r_tnn (show a' < 2147483648 by omega), r_tnn (show u' < 2147483648 by omega), r_tnn (show l' < 2147483648 by omega)]
          rw [e] at k
          exact k _ (r_fx.sJ rfl (r_fx.sJ rfl (r_fx.sI rfl (r_fx.sI rfl r_fx.rf)))) (by rw [r_sJ_I, r_sJ_I]; exact r_sI_s) ⟨by simp [r_sJ_g, f_frac], by simp [r_sJ_g, f_frac]⟩
        · refine Ru_aload_n (pc := 51) dX12_west_51 rfl rfl ?_
          refine Ru_iconst (pc := 52) (nI 5) dX12_west_52 rfl ?_
          refine Ru_cv1 (pc := 53) dX12_west_53 mv_X12_102 rfl (by decide) (Nat.le_of_ble_eq_true rfl) (c_X12_no ?_) 
          refine Ru_zret (pc := 56) dX12_west_56 rfl ⟨Nat.le_refl _, Nat.le_refl _⟩ (Or.inl rfl) ?_
          have e : f_west a u l fr = (false, 5, fr) := by
            unfold f_west
            rw [if_pos (by omega)]
          rw [e] at k
          exact k _ (r_fx.sI rfl (r_fx.sI rfl (r_fx.sI rfl r_fx.rf))) r_sI_s ((Y_fr_dp fr).kp (F := [(0, 0), (0, 1)]) (A := []) (r_fx.sI rfl (r_fx.sI rfl (r_fx.sI rfl r_fx.rf))) rfl hy)

theorem c_X11_west {Q : Rq} {M : Mem} {fr : Int64 × Int64} {a u l : Int32} (hy : X_fr fr M) (k : ∀ M', r_fx [(0, 0), (0, 1), (0, 2)] [] M M' → M'.1 0 0 = nI (f_west a u l fr).2.1 → X_fr (f_west a u l fr).2.2 M' → Q (some (.int (r_b (f_west a u l fr).1))) GX M') : Ca 1 mt_X11_west 0 0 [.ref 0, .int a, .int u, .int l] GX M Q := by
  refine Ca_of rfl (Nat.le_of_ble_eq_true rfl) ?_
  refine Ru_aload_n (pc := 0) dX11_west_0 rfl rfl ?_
  refine Ru_iload_n (pc := 1) dX11_west_1 rfl rfl ?_
  refine Ru_cv1 (pc := 2) dX11_west_2 mv_X11_337 rfl (by decide) (Nat.le_of_ble_eq_true rfl) (c_X11_isPlaces ?_) 
  refine Ru_if_eqB (pc := 5) 34 dX11_west_5 (by decide) (fun h1 => ?_) (fun h1 => ?_)
  · replace h1 := of_decide_eq_false h1
    refine Ru_aload_n (pc := 34) dX11_west_34 rfl rfl ?_
    refine Ru_iconst (pc := 35) (nI 5) dX11_west_35 rfl ?_
    refine Ru_cv1 (pc := 36) dX11_west_36 mv_X11_91 rfl (by decide) (Nat.le_of_ble_eq_true rfl) (c_X11_refuse ?_) 
    refine Ru_zret (pc := 39) dX11_west_39 rfl ⟨Nat.le_refl _, Nat.le_refl _⟩ (Or.inl rfl) ?_
    have e : f_west a u l fr = (false, 5, fr) := by
      unfold f_west
      rw [if_pos (by omega)]
    rw [e] at k
    exact k _ (r_fx.sI rfl r_fx.rf) r_sI_s ((X_fr_dp fr).kp (F := [(0, 0)]) (A := []) (r_fx.sI rfl r_fx.rf) rfl hy)
  · replace h1 := of_decide_eq_true h1
    refine Ru_iload_n (pc := 8) dX11_west_8 rfl rfl ?_
    refine Ru_if_ltT (pc := 9) 34 dX11_west_9 (by decide) (fun h2 => ?_) (fun h2 => ?_)
    · refine Ru_aload_n (pc := 34) dX11_west_34 rfl rfl ?_
      refine Ru_iconst (pc := 35) (nI 5) dX11_west_35 rfl ?_
      refine Ru_cv1 (pc := 36) dX11_west_36 mv_X11_91 rfl (by decide) (Nat.le_of_ble_eq_true rfl) (c_X11_refuse ?_) 
      refine Ru_zret (pc := 39) dX11_west_39 rfl ⟨Nat.le_refl _, Nat.le_refl _⟩ (Or.inl rfl) ?_
      have e : f_west a u l fr = (false, 5, fr) := by
        unfold f_west
        rw [if_pos (by omega)]
      rw [e] at k
      exact k _ (r_fx.sI rfl r_fx.rf) r_sI_s ((X_fr_dp fr).kp (F := [(0, 0)]) (A := []) (r_fx.sI rfl r_fx.rf) rfl hy)
    · refine Ru_iload_n (pc := 12) dX11_west_12 rfl rfl ?_
      refine Ru_bipush (pc := 13) (nI 99) dX11_west_13 rfl ?_
      refine Ru_icmp_gtL (pc := 15) 34 dX11_west_15 (by decide) (by omega) (fun h3 => ?_) (fun h3 => ?_)
      · refine Ru_aload_n (pc := 34) dX11_west_34 rfl rfl ?_
        refine Ru_iconst (pc := 35) (nI 5) dX11_west_35 rfl ?_
        refine Ru_cv1 (pc := 36) dX11_west_36 mv_X11_91 rfl (by decide) (Nat.le_of_ble_eq_true rfl) (c_X11_refuse ?_) 
        refine Ru_zret (pc := 39) dX11_west_39 rfl ⟨Nat.le_refl _, Nat.le_refl _⟩ (Or.inl rfl) ?_
        have e : f_west a u l fr = (false, 5, fr) := by
          unfold f_west
          rw [if_pos (by omega)]
        rw [e] at k
        exact k _ (r_fx.sI rfl r_fx.rf) r_sI_s ((X_fr_dp fr).kp (F := [(0, 0)]) (A := []) (r_fx.sI rfl r_fx.rf) rfl hy)
      · refine Ru_iload_n (pc := 18) dX11_west_18 rfl rfl ?_
        refine Ru_iconst (pc := 19) (nI 1) dX11_west_19 rfl ?_
        refine Ru_icmp_ltL (pc := 20) 34 dX11_west_20 (by decide) (by omega) (fun h4 => ?_) (fun h4 => ?_)
        · refine Ru_aload_n (pc := 34) dX11_west_34 rfl rfl ?_
          refine Ru_iconst (pc := 35) (nI 5) dX11_west_35 rfl ?_
          refine Ru_cv1 (pc := 36) dX11_west_36 mv_X11_91 rfl (by decide) (Nat.le_of_ble_eq_true rfl) (c_X11_refuse ?_) 
          refine Ru_zret (pc := 39) dX11_west_39 rfl ⟨Nat.le_refl _, Nat.le_refl _⟩ (Or.inl rfl) ?_
          have e : f_west a u l fr = (false, 5, fr) := by
            unfold f_west
            rw [if_pos (by omega)]
          rw [e] at k
          exact k _ (r_fx.sI rfl r_fx.rf) r_sI_s ((X_fr_dp fr).kp (F := [(0, 0)]) (A := []) (r_fx.sI rfl r_fx.rf) rfl hy)
        · refine Ru_iload_n (pc := 23) dX11_west_23 rfl rfl ?_
          refine Ru_bipush (pc := 24) (nI 99) dX11_west_24 rfl ?_
          refine Ru_icmp_gtL (pc := 26) 34 dX11_west_26 (by decide) (by omega) (fun h5 => ?_) (fun h5 => ?_)
          · refine Ru_aload_n (pc := 34) dX11_west_34 rfl rfl ?_
            refine Ru_iconst (pc := 35) (nI 5) dX11_west_35 rfl ?_
            refine Ru_cv1 (pc := 36) dX11_west_36 mv_X11_91 rfl (by decide) (Nat.le_of_ble_eq_true rfl) (c_X11_refuse ?_) 
            refine Ru_zret (pc := 39) dX11_west_39 rfl ⟨Nat.le_refl _, Nat.le_refl _⟩ (Or.inl rfl) ?_
            have e : f_west a u l fr = (false, 5, fr) := by
              unfold f_west
              rw [if_pos (by omega)]
            rw [e] at k
            exact k _ (r_fx.sI rfl r_fx.rf) r_sI_s ((X_fr_dp fr).kp (F := [(0, 0)]) (A := []) (r_fx.sI rfl r_fx.rf) rfl hy)
          · refine Ru_iload_n (pc := 29) dX11_west_29 rfl rfl ?_
            refine Ru_iload_n (pc := 30) dX11_west_30 rfl rfl ?_
            refine Ru_icmp_ltT (pc := 31) 40 dX11_west_31 (by decide) (fun h6 => ?_) (fun h6 => ?_)
            · obtain ⟨a', ha', rfl⟩ := r_nat (x := a) (n := 25) (by omega) (by omega)
              have ea := r_tn (show a' < 2147483648 by omega)
              obtain ⟨u', hu', rfl⟩ := r_nat (x := u) (n := 100) (by omega) (by omega)
              have eu := r_tn (show u' < 2147483648 by omega)
              obtain ⟨l', hl', rfl⟩ := r_nat (x := l) (n := 100) (by omega) (by omega)
              have el := r_tn (show l' < 2147483648 by omega)
              refine Ru_aload_n (pc := 40) dX11_west_40 rfl rfl ?_
              refine Ru_iload_n (pc := 41) dX11_west_41 rfl rfl ?_
              refine Ru_i2lJ (pc := 42) dX11_west_42 (by omega) ?_
              refine Ru_iload_n (pc := 43) dX11_west_43 rfl rfl ?_
              refine Ru_i2lJ (pc := 44) dX11_west_44 (by omega) ?_
              refine Ru_lmulJ (pc := 45) dX11_west_45 (by omega) ?_
              refine Ru_iload_n (pc := 46) dX11_west_46 rfl rfl ?_
              refine Ru_iload_n (pc := 47) dX11_west_47 rfl rfl ?_
              refine Ru_isubN (pc := 48) dX11_west_48 (by omega) ?_
              refine Ru_i2lJ (pc := 49) dX11_west_49 (by omega) ?_
              refine Ru_cv2 (pc := 50) dX11_west_50 mv_X11_340 rfl (by decide) (Nat.le_of_ble_eq_true rfl) (c_X11_tellFraction (by have := Nat.mul_le_mul (show a' ≤ 24 by omega) (show l' ≤ 99 by omega); omega) (by omega) (by omega) ?_) 
              refine Ru_aload_n (pc := 53) dX11_west_53 rfl rfl ?_
              refine Ru_cv0 (pc := 54) dX11_west_54 mv_X11_98 rfl (by decide) (Nat.le_of_ble_eq_true rfl) (c_X11_accept ?_) 
              refine Ru_zret (pc := 57) dX11_west_57 rfl ⟨Nat.le_refl _, Nat.le_refl _⟩ (Or.inr rfl) ?_
              have e : f_west (nI a') (nI u') (nI l') fr = (true, 0, f_frac (a' * l') (l' - u')) := by
                unfold f_west
                rw [if_neg (by omega)]
                simp only [r_tnn (show a' < 2147483648 by omega), r_tnn (show u' < 2147483648 by omega), r_tnn (show l' < 2147483648 by omega)]
              rw [e] at k
              exact k _ (r_fx.sI rfl (r_fx.sJ rfl (r_fx.sJ rfl r_fx.rf))) r_sI_s ⟨by simp [r_sI_J, r_sJ_g, f_frac], by simp [r_sI_J, r_sJ_g, f_frac]⟩
            · refine Ru_aload_n (pc := 34) dX11_west_34 rfl rfl ?_
              refine Ru_iconst (pc := 35) (nI 5) dX11_west_35 rfl ?_
              refine Ru_cv1 (pc := 36) dX11_west_36 mv_X11_91 rfl (by decide) (Nat.le_of_ble_eq_true rfl) (c_X11_refuse ?_) 
              refine Ru_zret (pc := 39) dX11_west_39 rfl ⟨Nat.le_refl _, Nat.le_refl _⟩ (Or.inl rfl) ?_
              have e : f_west a u l fr = (false, 5, fr) := by
                unfold f_west
                rw [if_pos (by omega)]
              rw [e] at k
              exact k _ (r_fx.sI rfl r_fx.rf) r_sI_s ((X_fr_dp fr).kp (F := [(0, 0)]) (A := []) (r_fx.sI rfl r_fx.rf) rfl hy)

theorem c_X12_speed {Q : Rq} {M : Mem} {fr : Int64 × Int64} {a n : Int32} (hy : Y_fr fr M) (k : ∀ M', r_fx [(0, 0), (0, 1), (0, 2), (0, 3)] [] M M' → M'.1 0 0 = nI (f_speed a n fr).2.1 → Y_fr (f_speed a n fr).2.2 M' → Q (some (.int (r_b (f_speed a n fr).1))) GY M') : Ca 2 mt_X12_speed 0 0 [.ref 0, .int a, .int n] GY M Q := by
  refine Ca_of rfl (Nat.le_of_ble_eq_true rfl) ?_
  refine Ru_aload_n (pc := 0) dX12_speed_0 rfl rfl ?_
  refine Ru_iconst (pc := 1) (nI 0) dX12_speed_1 rfl ?_
  refine Ru_putI (pc := 2) rfl dX12_speed_2 fl_X12_87 rfl ?_
  refine Ru_aload_n (pc := 5) dX12_speed_5 rfl rfl ?_
  refine Ru_iconst (pc := 6) (nI 0) dX12_speed_6 rfl ?_
  refine Ru_putI (pc := 7) rfl dX12_speed_7 fl_X12_90 rfl ?_
  refine Ru_iload_n (pc := 10) dX12_speed_10 rfl rfl ?_
  refine Ru_i2l (pc := 11) _ dX12_speed_11 rfl ?_
  refine Ru_lconst (pc := 12) 1 dX12_speed_12 rfl ?_
  refine Ru_ldc2 (pc := 13) dX12_speed_13 tw_1939 ?_
  refine Ru_cs3 (pc := 16) dX12_speed_16 ms_X12_122 (by decide) (Nat.le_of_ble_eq_true rfl) (c_X12_isIn (1) (24) rfl rfl ?_) 
  refine Ru_if_eqB (pc := 19) 34 dX12_speed_19 (by decide) (fun h1 => ?_) (fun h1 => ?_)
  · replace h1 := of_decide_eq_false h1
    refine Ru_aload_n (pc := 34) dX12_speed_34 rfl rfl ?_
    refine Ru_iconst (pc := 35) (nI 5) dX12_speed_35 rfl ?_
    refine Ru_cv1 (pc := 36) dX12_speed_36 mv_X12_102 rfl (by decide) (Nat.le_of_ble_eq_true rfl) (c_X12_no ?_) 
    refine Ru_zret (pc := 39) dX12_speed_39 rfl ⟨Nat.le_refl _, Nat.le_refl _⟩ (Or.inl rfl) ?_
    have e : f_speed a n fr = (false, 5, fr) := by
      unfold f_speed
      rw [if_pos (by omega)]
    rw [e] at k
    exact k _ (r_fx.sI rfl (r_fx.sI rfl (r_fx.sI rfl r_fx.rf))) r_sI_s ((Y_fr_dp fr).kp (F := [(0, 0), (0, 1)]) (A := []) (r_fx.sI rfl (r_fx.sI rfl (r_fx.sI rfl r_fx.rf))) rfl hy)
  · replace h1 := of_decide_eq_true h1
    refine Ru_iload_n (pc := 22) dX12_speed_22 rfl rfl ?_
    refine Ru_i2l (pc := 23) _ dX12_speed_23 rfl ?_
    refine Ru_lconst (pc := 24) 1 dX12_speed_24 rfl ?_
    refine Ru_ldc2 (pc := 25) dX12_speed_25 tw_2073 ?_
    refine Ru_cs3 (pc := 28) dX12_speed_28 ms_X12_122 (by decide) (Nat.le_of_ble_eq_true rfl) (c_X12_isIn (1) (9999) rfl rfl ?_) 
    refine Ru_if_neB (pc := 31) 40 dX12_speed_31 (by decide) (fun h2 => ?_) (fun h2 => ?_)
    · replace h2 := of_decide_eq_true h2
      obtain ⟨a', ha', rfl⟩ := r_nat (x := a) (n := 25) (by omega) (by omega)
      have ea := r_tn (show a' < 2147483648 by omega)
      obtain ⟨n', hn', rfl⟩ := r_nat (x := n) (n := 10000) (by omega) (by omega)
      have en := r_tn (show n' < 2147483648 by omega)
      refine Ru_aload_n (pc := 40) dX12_speed_40 rfl rfl ?_
      refine Ru_iconst (pc := 41) (nI 0) dX12_speed_41 rfl ?_
      refine Ru_iload_n (pc := 42) dX12_speed_42 rfl rfl ?_
      refine Ru_iload_n (pc := 43) dX12_speed_43 rfl rfl ?_
      refine Ru_isub (pc := 44) dX12_speed_44 ?_
      refine Ru_cs2 (pc := 45) dX12_speed_45 ms_X12_410 (by decide) (Nat.le_of_ble_eq_true rfl) (c_Y_max _ (r_max0 (n := n') (a := a') (by omega) (by omega)) ?_) 
      refine Ru_i2lJ (pc := 48) dX12_speed_48 (by omega) ?_
      refine Ru_iload_n (pc := 49) dX12_speed_49 rfl rfl ?_
      refine Ru_i2lJ (pc := 50) dX12_speed_50 (by omega) ?_
      refine Ru_cv2 (pc := 51) dX12_speed_51 mv_X12_488 rfl (by decide) (Nat.le_of_ble_eq_true rfl) (c_X12_fraction (by omega) (by omega) (by omega) ?_) 
      refine Ru_zret (pc := 54) dX12_speed_54 rfl ⟨Nat.le_refl _, Nat.le_refl _⟩ (Or.inr rfl) ?_
      have e : f_speed (nI a') (nI n') fr = (true, 0, f_frac (n' - a') n') := by
        unfold f_speed
        rw [if_neg (by omega)]
        simp only [r_tnn (show a' < 2147483648 by omega), r_tnn (show n' < 2147483648 by omega)]
      rw [e] at k
      exact k _ (r_fx.sJ rfl (r_fx.sJ rfl (r_fx.sI rfl (r_fx.sI rfl r_fx.rf)))) (by rw [r_sJ_I, r_sJ_I]; exact r_sI_s) ⟨by simp [r_sJ_g, f_frac], by simp [r_sJ_g, f_frac]⟩
    · replace h2 := of_decide_eq_false h2
      refine Ru_aload_n (pc := 34) dX12_speed_34 rfl rfl ?_
      refine Ru_iconst (pc := 35) (nI 5) dX12_speed_35 rfl ?_
      refine Ru_cv1 (pc := 36) dX12_speed_36 mv_X12_102 rfl (by decide) (Nat.le_of_ble_eq_true rfl) (c_X12_no ?_) 
      refine Ru_zret (pc := 39) dX12_speed_39 rfl ⟨Nat.le_refl _, Nat.le_refl _⟩ (Or.inl rfl) ?_
      have e : f_speed a n fr = (false, 5, fr) := by
        unfold f_speed
        rw [if_pos (by omega)]
      rw [e] at k
      exact k _ (r_fx.sI rfl (r_fx.sI rfl (r_fx.sI rfl r_fx.rf))) r_sI_s ((Y_fr_dp fr).kp (F := [(0, 0), (0, 1)]) (A := []) (r_fx.sI rfl (r_fx.sI rfl (r_fx.sI rfl r_fx.rf))) rfl hy)

theorem c_X11_speed {Q : Rq} {M : Mem} {fr : Int64 × Int64} {a n : Int32} (hy : X_fr fr M) (k : ∀ M', r_fx [(0, 0), (0, 1), (0, 2)] [] M M' → M'.1 0 0 = nI (f_speed a n fr).2.1 → X_fr (f_speed a n fr).2.2 M' → Q (some (.int (r_b (f_speed a n fr).1))) GX M') : Ca 1 mt_X11_speed 0 0 [.ref 0, .int a, .int n] GX M Q := by
  refine Ca_of rfl (Nat.le_of_ble_eq_true rfl) ?_
  refine Ru_aload_n (pc := 0) dX11_speed_0 rfl rfl ?_
  refine Ru_iload_n (pc := 1) dX11_speed_1 rfl rfl ?_
  refine Ru_cv1 (pc := 2) dX11_speed_2 mv_X11_337 rfl (by decide) (Nat.le_of_ble_eq_true rfl) (c_X11_isPlaces ?_) 
  refine Ru_if_eqB (pc := 5) 20 dX11_speed_5 (by decide) (fun h1 => ?_) (fun h1 => ?_)
  · replace h1 := of_decide_eq_false h1
    refine Ru_aload_n (pc := 20) dX11_speed_20 rfl rfl ?_
    refine Ru_iconst (pc := 21) (nI 5) dX11_speed_21 rfl ?_
    refine Ru_cv1 (pc := 22) dX11_speed_22 mv_X11_91 rfl (by decide) (Nat.le_of_ble_eq_true rfl) (c_X11_refuse ?_) 
    refine Ru_zret (pc := 25) dX11_speed_25 rfl ⟨Nat.le_refl _, Nat.le_refl _⟩ (Or.inl rfl) ?_
    have e : f_speed a n fr = (false, 5, fr) := by
      unfold f_speed
      rw [if_pos (by omega)]
    rw [e] at k
    exact k _ (r_fx.sI rfl r_fx.rf) r_sI_s ((X_fr_dp fr).kp (F := [(0, 0)]) (A := []) (r_fx.sI rfl r_fx.rf) rfl hy)
  · replace h1 := of_decide_eq_true h1
    refine Ru_iload_n (pc := 8) dX11_speed_8 rfl rfl ?_
    refine Ru_iconst (pc := 9) (nI 1) dX11_speed_9 rfl ?_
    refine Ru_icmp_ltL (pc := 10) 20 dX11_speed_10 (by decide) (by omega) (fun h2 => ?_) (fun h2 => ?_)
    · refine Ru_aload_n (pc := 20) dX11_speed_20 rfl rfl ?_
      refine Ru_iconst (pc := 21) (nI 5) dX11_speed_21 rfl ?_
      refine Ru_cv1 (pc := 22) dX11_speed_22 mv_X11_91 rfl (by decide) (Nat.le_of_ble_eq_true rfl) (c_X11_refuse ?_) 
      refine Ru_zret (pc := 25) dX11_speed_25 rfl ⟨Nat.le_refl _, Nat.le_refl _⟩ (Or.inl rfl) ?_
      have e : f_speed a n fr = (false, 5, fr) := by
        unfold f_speed
        rw [if_pos (by omega)]
      rw [e] at k
      exact k _ (r_fx.sI rfl r_fx.rf) r_sI_s ((X_fr_dp fr).kp (F := [(0, 0)]) (A := []) (r_fx.sI rfl r_fx.rf) rfl hy)
    · refine Ru_iload_n (pc := 13) dX11_speed_13 rfl rfl ?_
      refine Ru_sipush (pc := 14) (nI 9999) dX11_speed_14 rfl ?_
      refine Ru_icmp_leL (pc := 17) 26 dX11_speed_17 (by decide) (by omega) (fun h3 => ?_) (fun h3 => ?_)
      · obtain ⟨a', ha', rfl⟩ := r_nat (x := a) (n := 25) (by omega) (by omega)
        have ea := r_tn (show a' < 2147483648 by omega)
        obtain ⟨n', hn', rfl⟩ := r_nat (x := n) (n := 10000) (by omega) (by omega)
        have en := r_tn (show n' < 2147483648 by omega)
        refine Ru_aload_n (pc := 26) dX11_speed_26 rfl rfl ?_
        refine Ru_iconst (pc := 27) (nI 0) dX11_speed_27 rfl ?_
        refine Ru_iload_n (pc := 28) dX11_speed_28 rfl rfl ?_
        refine Ru_iload_n (pc := 29) dX11_speed_29 rfl rfl ?_
        refine Ru_isub (pc := 30) dX11_speed_30 ?_
        refine Ru_cs2 (pc := 31) dX11_speed_31 ms_X11_344 (by decide) (Nat.le_of_ble_eq_true rfl) (c_X_max _ (r_max0 (n := n') (a := a') (by omega) (by omega)) ?_) 
        refine Ru_i2lJ (pc := 34) dX11_speed_34 (by omega) ?_
        refine Ru_iload_n (pc := 35) dX11_speed_35 rfl rfl ?_
        refine Ru_i2lJ (pc := 36) dX11_speed_36 (by omega) ?_
        refine Ru_cv2 (pc := 37) dX11_speed_37 mv_X11_340 rfl (by decide) (Nat.le_of_ble_eq_true rfl) (c_X11_tellFraction (by omega) (by omega) (by omega) ?_) 
        refine Ru_aload_n (pc := 40) dX11_speed_40 rfl rfl ?_
        refine Ru_cv0 (pc := 41) dX11_speed_41 mv_X11_98 rfl (by decide) (Nat.le_of_ble_eq_true rfl) (c_X11_accept ?_) 
        refine Ru_zret (pc := 44) dX11_speed_44 rfl ⟨Nat.le_refl _, Nat.le_refl _⟩ (Or.inr rfl) ?_
        have e : f_speed (nI a') (nI n') fr = (true, 0, f_frac (n' - a') n') := by
          unfold f_speed
          rw [if_neg (by omega)]
          simp only [r_tnn (show a' < 2147483648 by omega), r_tnn (show n' < 2147483648 by omega)]
        rw [e] at k
        exact k _ (r_fx.sI rfl (r_fx.sJ rfl (r_fx.sJ rfl r_fx.rf))) r_sI_s ⟨by simp [r_sI_J, r_sJ_g, f_frac], by simp [r_sI_J, r_sJ_g, f_frac]⟩
      · refine Ru_aload_n (pc := 20) dX11_speed_20 rfl rfl ?_
        refine Ru_iconst (pc := 21) (nI 5) dX11_speed_21 rfl ?_
        refine Ru_cv1 (pc := 22) dX11_speed_22 mv_X11_91 rfl (by decide) (Nat.le_of_ble_eq_true rfl) (c_X11_refuse ?_) 
        refine Ru_zret (pc := 25) dX11_speed_25 rfl ⟨Nat.le_refl _, Nat.le_refl _⟩ (Or.inl rfl) ?_
        have e : f_speed a n fr = (false, 5, fr) := by
          unfold f_speed
          rw [if_pos (by omega)]
        rw [e] at k
        exact k _ (r_fx.sI rfl r_fx.rf) r_sI_s ((X_fr_dp fr).kp (F := [(0, 0)]) (A := []) (r_fx.sI rfl r_fx.rf) rfl hy)
