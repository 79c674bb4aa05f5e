theorem l_X11_shift {Q : Rq} {M : Mem} {mk t lw pl : Nat} {d : Td} {h : Nat} (hu : X_cu mk t lw pl d M) (hx : X_tm t d M) (wf : Wf d) (hhs : h < 16777216) (k9 : shB d h (2 ^ d 2) = 0 → Q (some (.int (-1))) GX (r_sI M 0 0 (nI 9))) (k0 : ¬ shB d h (2 ^ d 2) = 0 → Q (some (.int (nM (shB d h (2 ^ d 2))))) GX (r_sI M 0 0 (nI 0))) : ∀ (w n : Nat), 2 ^ d 2 - n = w → n ≤ 2 ^ d 2 → Ru 1 mt_X11_shift r_z 33 [(3, some (.int (nM (shB d h n)))), (4, some (.int (nI n))), (0, some (.ref 0)), (1, some (.int (nI h))), (2, some (.int (nI (d 2))))] [] GX M Q := by
  intro w
  have hb := wf.1
  have em : (-1 : Int32).toInt = -1 := rfl
  have hp : 0 < 2 ^ d 2 ∧ 2 ^ d 2 ≤ 64 := ⟨Nat.two_pow_pos _, Nat.le_trans (Nat.pow_le_pow_right (by decide) hb.2.2.1) (by decide)⟩
  induction w using Nat.strongRecOn with
  | ind w ih =>
    intro n hw hn
    subst hw
    have hl := shB_le d h n
    have hz : (nM (shB d h n)).toInt = (shB d h n : Int) - 1 := nM_t (by omega)
    refine Ru_iload (pc := 33) dX11_shift_33 rfl ?_
    refine Ru_iconst (pc := 35) (nI 1) dX11_shift_35 rfl ?_
    refine Ru_iload_n (pc := 36) dX11_shift_36 rfl rfl ?_
    refine Ru_ishl1N (pc := 37) dX11_shift_37 (by omega) ?_
    refine Ru_icmp_geN (pc := 38) 95 dX11_shift_38 (by decide) (by omega) (fun h1 => ?_) (fun h1 => ?_)
    · refine Ru_iload_n (pc := 95) dX11_shift_95 rfl rfl ?_
      refine Ru_iconst (pc := 96) (-1) dX11_shift_96 rfl ?_
      refine Ru_icmp_neT (pc := 97) 109 dX11_shift_97 (by decide) (fun h2 => ?_) (fun h2 => ?_)
      · refine Ru_aload_n (pc := 109) dX11_shift_109 rfl rfl ?_
        refine Ru_iload_n (pc := 110) dX11_shift_110 rfl rfl ?_
        refine Ru_cv1 (pc := 111) dX11_shift_111 mv_X11_170 rfl (by decide) (Nat.le_of_ble_eq_true rfl) (c_X11_tell ?_) 
        refine Ru_iret (pc := 114) dX11_shift_114 rfl ⟨Nat.le_refl _, Nat.le_refl _⟩ ?_
        have en : n = 2 ^ d 2 := by omega
        have q : ¬ shB d h n = 0 := by omega
        rw [en] at q ⊢
        exact k0 q
      · refine Ru_aload_n (pc := 100) dX11_shift_100 rfl rfl ?_
        refine Ru_bipush (pc := 101) (nI 9) dX11_shift_101 rfl ?_
        refine Ru_cv1 (pc := 103) dX11_shift_103 mv_X11_112 rfl (by decide) (Nat.le_of_ble_eq_true rfl) (c_X11_fail ?_) 
        refine Ru_goto (pc := 106) 114 dX11_shift_106 (by decide) ?_
        refine Ru_iret (pc := 114) dX11_shift_114 rfl ⟨Nat.le_refl _, Nat.le_refl _⟩ ?_
        have en : n = 2 ^ d 2 := by omega
        have q : shB d h n = 0 := by omega
        rw [en] at q
        exact k9 q
    · refine Ru_iload_n (pc := 41) dX11_shift_41 rfl rfl ?_
      refine Ru_iconst (pc := 42) (-1) dX11_shift_42 rfl ?_
      refine Ru_icmp_eqT (pc := 43) 58 dX11_shift_43 (by decide) (fun h3 => ?_) (fun h3 => ?_)
      · refine Ru_iconst (pc := 58) (nI 1) dX11_shift_58 rfl ?_
        refine Ru_goto (pc := 59) 63 dX11_shift_59 (by decide) ?_
        refine Ru_istore (pc := 63) dX11_shift_63 rfl (by decide) ?_
        refine Ru_iload (pc := 65) dX11_shift_65 rfl ?_
        refine Ru_if_eqN (pc := 67) 89 dX11_shift_67 (by decide) (by omega) (fun h4 => ?_) (fun h4 => ?_)
        · exfalso
          omega
        · refine Ru_iload_n (pc := 70) dX11_shift_70 rfl rfl ?_
          refine Ru_aload_n (pc := 71) dX11_shift_71 rfl rfl ?_
          refine Ru_cv0 (pc := 72) dX11_shift_72 mv_X11_154 rfl (by decide) (Nat.le_of_ble_eq_true rfl) (c_X11_now hu ?_) 
          refine Ru_iload (pc := 75) dX11_shift_75 rfl ?_
          refine Ru_cv1 (pc := 77) dX11_shift_77 mv_X11_334 (shTown_0 hu.1.2.2.2) (by decide) (Nat.le_of_ble_eq_true rfl) (c_X9_awakeAmong hu.1.2.2.2 hx wf (by omega) ?_) 
          refine Ru_iconst (pc := 80) (-1) dX11_shift_80 rfl ?_
          refine Ru_ixor (pc := 81) dX11_shift_81 ?_
          refine Ru_idifN (pc := 82) dX11_shift_82 ?_
          refine Ru_if_neN (pc := 83) 89 dX11_shift_83 (by decide) (Nat.lt_of_le_of_lt (r_dif_le _ _) (by omega)) (fun h5 => ?_) (fun h5 => ?_)
          · refine Ru_iincN (pc := 89) 1 dX11_shift_89 rfl rfl rfl (by decide) ?_
            refine Ru_goto (pc := 92) 33 dX11_shift_92 (by decide) ?_
            have e : shB d h (n + 1) = shB d h n := by
              rw [shB]
              refine if_neg (fun z => ?_)
              have z2 := (dif_w hhs).mpr z.2
              first | (rw [hx1] at z; have z1 := z.1; rw [Nat.add_sub_cancel] at z1; omega) | omega
            have hr := ih (2 ^ d 2 - (n + 1)) (by omega) (n + 1) rfl (by omega)
            rw [e] at hr
            exact Ru_weak hr rfl
          · refine Ru_iload (pc := 86) dX11_shift_86 rfl ?_
            refine Ru_istore_n (pc := 88) dX11_shift_88 rfl rfl (by decide) ?_
            refine Ru_iincN (pc := 89) 1 dX11_shift_89 rfl rfl rfl (by decide) ?_
            refine Ru_goto (pc := 92) 33 dX11_shift_92 (by decide) ?_
            have e : shB d h (n + 1) = n + 1 := by
              rw [shB]
              refine if_pos ⟨?_, (dif_w hhs).mp (by assumption)⟩
              first | (left; omega) | (right; rw [hx1]; assumption)
            have hr := ih (2 ^ d 2 - (n + 1)) (by omega) (n + 1) rfl (by omega)
            rw [e] at hr
            exact Ru_weak hr rfl
      · refine Ru_iload (pc := 46) dX11_shift_46 rfl ?_
        refine Ru_cs1 (pc := 48) dX11_shift_48 ms_X11_182 (by decide) (Nat.le_of_ble_eq_true rfl) (c_bitCount_X (s := n) (by omega) ?_) 
        obtain ⟨x, hx1⟩ : ∃ x, shB d h n = x + 1 := ⟨shB d h n - 1, by omega⟩
        rw [hx1]
        have lx : x < n := by omega
        refine Ru_iload_n (pc := 51) dX11_shift_51 rfl rfl ?_
        refine Ru_cs1 (pc := 52) dX11_shift_52 ms_X11_182 (by decide) (Nat.le_of_ble_eq_true rfl) (c_bitCount_X (s := x) (by omega) ?_) 
        refine Ru_icmp_geN (pc := 55) 62 dX11_shift_55 (by decide) ⟨Nat.lt_of_le_of_lt (pop8_le _) (by decide), Nat.lt_of_le_of_lt (pop8_le _) (by decide)⟩ (fun h6 => ?_) (fun h6 => ?_)
        · refine Ru_iconst (pc := 62) (nI 0) dX11_shift_62 rfl ?_
          refine Ru_istore (pc := 63) dX11_shift_63 rfl (by decide) ?_
          refine Ru_iload (pc := 65) dX11_shift_65 rfl ?_
          refine Ru_if_eqN (pc := 67) 89 dX11_shift_67 (by decide) (by omega) (fun h7 => ?_) (fun h7 => ?_)
          · refine Ru_iincN (pc := 89) 1 dX11_shift_89 rfl rfl rfl (by decide) ?_
            refine Ru_goto (pc := 92) 33 dX11_shift_92 (by decide) ?_
            have e : shB d h (n + 1) = shB d h n := by
              rw [shB]
              refine if_neg (fun z => ?_)
              have z2 := (dif_w hhs).mpr z.2
              first | (rw [hx1] at z; have z1 := z.1; rw [Nat.add_sub_cancel] at z1; omega) | omega
            have hr := ih (2 ^ d 2 - (n + 1)) (by omega) (n + 1) rfl (by omega)
            rw [e] at hr
            rw [hx1] at hr
            exact Ru_weak hr rfl
          · exfalso
            omega
        · refine Ru_iconst (pc := 58) (nI 1) dX11_shift_58 rfl ?_
          refine Ru_goto (pc := 59) 63 dX11_shift_59 (by decide) ?_
          refine Ru_istore (pc := 63) dX11_shift_63 rfl (by decide) ?_
          refine Ru_iload (pc := 65) dX11_shift_65 rfl ?_
          refine Ru_if_eqN (pc := 67) 89 dX11_shift_67 (by decide) (by omega) (fun h8 => ?_) (fun h8 => ?_)
          · exfalso
            omega
          · refine Ru_iload_n (pc := 70) dX11_shift_70 rfl rfl ?_
            refine Ru_aload_n (pc := 71) dX11_shift_71 rfl rfl ?_
            refine Ru_cv0 (pc := 72) dX11_shift_72 mv_X11_154 rfl (by decide) (Nat.le_of_ble_eq_true rfl) (c_X11_now hu ?_) 
            refine Ru_iload (pc := 75) dX11_shift_75 rfl ?_
            refine Ru_cv1 (pc := 77) dX11_shift_77 mv_X11_334 (shTown_0 hu.1.2.2.2) (by decide) (Nat.le_of_ble_eq_true rfl) (c_X9_awakeAmong hu.1.2.2.2 hx wf (by omega) ?_) 
            refine Ru_iconst (pc := 80) (-1) dX11_shift_80 rfl ?_
            refine Ru_ixor (pc := 81) dX11_shift_81 ?_
            refine Ru_idifN (pc := 82) dX11_shift_82 ?_
            refine Ru_if_neN (pc := 83) 89 dX11_shift_83 (by decide) (Nat.lt_of_le_of_lt (r_dif_le _ _) (by omega)) (fun h9 => ?_) (fun h9 => ?_)
            · refine Ru_iincN (pc := 89) 1 dX11_shift_89 rfl rfl rfl (by decide) ?_
              refine Ru_goto (pc := 92) 33 dX11_shift_92 (by decide) ?_
              have e : shB d h (n + 1) = shB d h n := by
                rw [shB]
                refine if_neg (fun z => ?_)
                have z2 := (dif_w hhs).mpr z.2
                first | (rw [hx1] at z; have z1 := z.1; rw [Nat.add_sub_cancel] at z1; omega) | omega
              have hr := ih (2 ^ d 2 - (n + 1)) (by omega) (n + 1) rfl (by omega)
              rw [e] at hr
              rw [hx1] at hr
              exact Ru_weak hr rfl
            · refine Ru_iload (pc := 86) dX11_shift_86 rfl ?_
              refine Ru_istore_n (pc := 88) dX11_shift_88 rfl rfl (by decide) ?_
              refine Ru_iincN (pc := 89) 1 dX11_shift_89 rfl rfl rfl (by decide) ?_
              refine Ru_goto (pc := 92) 33 dX11_shift_92 (by decide) ?_
              have e : shB d h (n + 1) = n + 1 := by
                rw [shB]
                refine if_pos ⟨?_, (dif_w hhs).mp (by assumption)⟩
                first | (left; omega) | (right; rw [hx1]; assumption)
              have hr := ih (2 ^ d 2 - (n + 1)) (by omega) (n + 1) rfl (by omega)
              rw [e] at hr
              exact Ru_weak hr rfl

theorem c_X11_shift {Q : Rq} {M : Mem} {mk t lw pl : Nat} {d : Td} {h : Int32} (hu : X_cu mk t lw pl d M) (hx : X_tm t d M) (wf : Wf d) (k : ∀ M', r_fx [(0, 0)] [] M M' → M'.1 0 0 = nI (g_shift d h).2 → Q (some (.int (g_shift d h).1)) GX M') : Ca 1 mt_X11_shift 0 0 [.ref 0, .int h] GX M Q := by
  refine Ca_of rfl (Nat.le_of_ble_eq_true rfl) ?_
  have hb := wf.1
  have e9 : (16777215 : Int32).toInt = 16777215 := rfl
  refine Ru_iload_n (pc := 0) dX11_shift_0 rfl rfl ?_
  refine Ru_if_ltT (pc := 1) 11 dX11_shift_1 (by decide) (fun h1 => ?_) (fun h1 => ?_)
  · refine Ru_aload_n (pc := 11) dX11_shift_11 rfl rfl ?_
    refine Ru_iconst (pc := 12) (nI 5) dX11_shift_12 rfl ?_
    refine Ru_cv1 (pc := 13) dX11_shift_13 mv_X11_112 rfl (by decide) (Nat.le_of_ble_eq_true rfl) (c_X11_fail ?_) 
    refine Ru_iret (pc := 16) dX11_shift_16 rfl ⟨Nat.le_refl _, Nat.le_refl _⟩ ?_
    have e : g_shift d h = (-1, 5) := by
      unfold g_shift
      rw [if_pos (by omega)]
    rw [e] at k
    exact k _ (r_fx.sI rfl r_fx.rf) r_sI_s
  · refine Ru_iload_n (pc := 4) dX11_shift_4 rfl rfl ?_
    refine Ru_ldcw (pc := 5) dX11_shift_5 tw_1217 ?_
    refine Ru_icmp_leT (pc := 8) 17 dX11_shift_8 (by decide) (fun h2 => ?_) (fun h2 => ?_)
    · obtain ⟨h', hh', rfl⟩ := r_nat (x := h) (n := 16777216) (by omega) (by omega)
      have eh := r_tn (show h' < 2147483648 by omega)
      refine Ru_aload_n (pc := 17) dX11_shift_17 rfl rfl ?_
      refine Ru_cv0 (pc := 18) dX11_shift_18 mv_X11_154 rfl (by decide) (Nat.le_of_ble_eq_true rfl) (c_X11_now hu ?_) 
      refine Ru_getR (pc := 21) (t + 10) dX11_shift_21 fl_X11_205 (shTown_0 hu.1.2.2.2) rfl (rfX_of (o := t) (j := 10) (shTown_0 hu.1.2.2.2) rfl) ?_
      refine Ru_getI (pc := 24) dX11_shift_24 fl_X11_165 (shNames_0 (isNames_t hu.1.2.2.2).2.2) rfl ?_
      refine Ru_top hx.1.2.2.1 ?_
      refine Ru_istore_n (pc := 27) dX11_shift_27 rfl rfl (by decide) ?_
      refine Ru_iconst (pc := 28) (-1) dX11_shift_28 rfl ?_
      refine Ru_istore_n (pc := 29) dX11_shift_29 rfl rfl (by decide) ?_
      refine Ru_iconst (pc := 30) (nI 0) dX11_shift_30 rfl ?_
      refine Ru_istore (pc := 31) dX11_shift_31 rfl (by decide) ?_
      refine Ru_weak (l_X11_shift hu hx wf (h := h') (by omega) (fun z => ?_) (fun z => ?_) (2 ^ d 2) 0 rfl (Nat.zero_le _)) rfl
      · have e : g_shift d (nI h') = (-1, 9) := by
          unfold g_shift
          rw [if_neg (by omega), r_tnn (by omega), if_pos z]
        rw [e] at k
        exact k _ (r_fx.sI rfl r_fx.rf) r_sI_s
      · have e : g_shift d (nI h') = (nM (shB d h' (2 ^ d 2)), 0) := by
          unfold g_shift
          rw [if_neg (by omega), r_tnn (by omega), if_neg z]
        rw [e] at k
        exact k _ (r_fx.sI rfl r_fx.rf) r_sI_s
    · refine Ru_aload_n (pc := 11) dX11_shift_11 rfl rfl ?_
      refine Ru_iconst (pc := 12) (nI 5) dX11_shift_12 rfl ?_
      refine Ru_cv1 (pc := 13) dX11_shift_13 mv_X11_112 rfl (by decide) (Nat.le_of_ble_eq_true rfl) (c_X11_fail ?_) 
      refine Ru_iret (pc := 16) dX11_shift_16 rfl ⟨Nat.le_refl _, Nat.le_refl _⟩ ?_
      have e : g_shift d h = (-1, 5) := by
        unfold g_shift
        rw [if_pos (by omega)]
      rw [e] at k
      exact k _ (r_fx.sI rfl r_fx.rf) r_sI_s
