theorem c_X11_making {Q : Rq} {M : Mem} {mk t lw pl : Nat} {d : Td} {a w : Int32} (hu : X_cu mk t lw pl d M) (hx : X_tm t d M) (wf : Wf d) (k : ∀ M', r_fx [(0, 0)] [] M M' → M'.1 0 0 = nI (g_making d a w).2 → Q (some (.int (g_making d a w).1)) GX M') : Ca 1 mt_X11_making 0 0 [.ref 0, .int a, .int w] GX M Q := by
  refine Ca_of rfl (Nat.le_of_ble_eq_true rfl) ?_
  have hb := wf.1
  refine Ru_iload_n (pc := 0) dX11_making_0 rfl rfl ?_
  refine Ru_if_ltT (pc := 1) 18 dX11_making_1 (by decide) (fun h1 => ?_) (fun h1 => ?_)
  · refine Ru_aload_n (pc := 18) dX11_making_18 rfl rfl ?_
    refine Ru_iconst (pc := 19) (nI 2) dX11_making_19 rfl ?_
    refine Ru_cv1 (pc := 20) dX11_making_20 mv_X11_112 rfl (by decide) (Nat.le_of_ble_eq_true rfl) (c_X11_fail ?_) 
    refine Ru_iret (pc := 23) dX11_making_23 rfl ⟨Nat.le_refl _, Nat.le_refl _⟩ ?_
    have e : g_making d a w = (-1, 2) := by
      unfold g_making
      repeat' split
      all_goals first | rfl | (exfalso; omega) | (congr 3; omega) | (simp_all; done)
    rw [e] at k
    exact k _ (r_fx.sI rfl r_fx.rf) r_sI_s
  · refine Ru_iload_n (pc := 4) dX11_making_4 rfl rfl ?_
    refine Ru_aload_n (pc := 5) dX11_making_5 rfl rfl ?_
    refine Ru_cv0 (pc := 6) dX11_making_6 mv_X11_154 rfl (by decide) (Nat.le_of_ble_eq_true rfl) (c_X11_now hu ?_) 
    refine Ru_getR (pc := 9) (t + 3) dX11_making_9 fl_X11_202 (shTown_0 hu.1.2.2.2) rfl (rfX_of (o := t) (j := 3) (shTown_0 hu.1.2.2.2) rfl) ?_
    refine Ru_getI (pc := 12) dX11_making_12 fl_X11_165 (shNames_0 (isNames_t hu.1.2.2.2).2.1) rfl ?_
    refine Ru_top hx.1.2.1 ?_
    refine Ru_icmp_ltL (pc := 15) 24 dX11_making_15 (by decide) (by omega) (fun h2 => ?_) (fun h2 => ?_)
    · obtain ⟨a', ha', rfl⟩ := r_nat (x := a) (n := 12) (by omega) (by omega)
      have ea := r_tn (show a' < 2147483648 by omega)
      refine Ru_iload_n (pc := 24) dX11_making_24 rfl rfl ?_
      by_cases hs3 : w.toInt = 0
      · refine Ru_tableIn (pc := 25) 60 dX11_making_25 (by omega) (by omega) (by rw [hs3]; rfl) (by decide) ?_
        refine Ru_aload_n (pc := 60) dX11_making_60 rfl rfl ?_
        refine Ru_aload_n (pc := 61) dX11_making_61 rfl rfl ?_
        refine Ru_cv0 (pc := 62) dX11_making_62 mv_X11_154 rfl (by decide) (Nat.le_of_ble_eq_true rfl) (c_X11_now hu ?_) 
        refine Ru_getR (pc := 65) (t + 5) dX11_making_65 fl_X11_223 (shTown_0 hu.1.2.2.2) rfl (rfX_of (o := t) (j := 5) (shTown_0 hu.1.2.2.2) rfl) ?_
        refine Ru_iload_n (pc := 68) dX11_making_68 rfl rfl ?_
        refine Ru_iald (pc := 69) dX11_making_69 (shTown_5 hu.1.2.2.2) (by omega) ?_
        refine Ru_top (hx.2.2.1 a' (by omega)).1 ?_
        refine Ru_cv1 (pc := 70) dX11_making_70 mv_X11_170 rfl (by decide) (Nat.le_of_ble_eq_true rfl) (c_X11_tell ?_) 
        refine Ru_iret (pc := 73) dX11_making_73 rfl ⟨Nat.le_refl _, Nat.le_refl _⟩ ?_
        have e : g_making d (nI a') w = ((nI (d (29 + a'))), 0) := by
          unfold g_making
          simp only [r_tn (show a' < 2147483648 by omega), Int.toNat_natCast]
          repeat' split
          all_goals first | rfl | (exfalso; omega) | (congr 3; omega) | (simp_all; done)
        rw [e] at k
        exact k _ (r_fx.sI rfl r_fx.rf) r_sI_s
      by_cases hs4 : w.toInt = 1
      · refine Ru_tableIn (pc := 25) 74 dX11_making_25 (by omega) (by omega) (by rw [hs4]; rfl) (by decide) ?_
        refine Ru_aload_n (pc := 74) dX11_making_74 rfl rfl ?_
        refine Ru_aload_n (pc := 75) dX11_making_75 rfl rfl ?_
        refine Ru_cv0 (pc := 76) dX11_making_76 mv_X11_154 rfl (by decide) (Nat.le_of_ble_eq_true rfl) (c_X11_now hu ?_) 
        refine Ru_getR (pc := 79) (t + 6) dX11_making_79 fl_X11_227 (shTown_0 hu.1.2.2.2) rfl (rfX_of (o := t) (j := 6) (shTown_0 hu.1.2.2.2) rfl) ?_
        refine Ru_iload_n (pc := 82) dX11_making_82 rfl rfl ?_
        refine Ru_iald (pc := 83) dX11_making_83 (shTown_6 hu.1.2.2.2) (by omega) ?_
        refine Ru_top (hx.2.2.1 a' (by omega)).2.1 ?_
        refine Ru_cv1 (pc := 84) dX11_making_84 mv_X11_170 rfl (by decide) (Nat.le_of_ble_eq_true rfl) (c_X11_tell ?_) 
        refine Ru_iret (pc := 87) dX11_making_87 rfl ⟨Nat.le_refl _, Nat.le_refl _⟩ ?_
        have e : g_making d (nI a') w = ((nI (d (41 + a'))), 0) := by
          unfold g_making
          simp only [r_tn (show a' < 2147483648 by omega), Int.toNat_natCast]
          repeat' split
          all_goals first | rfl | (exfalso; omega) | (congr 3; omega) | (simp_all; done)
        rw [e] at k
        exact k _ (r_fx.sI rfl r_fx.rf) r_sI_s
      by_cases hs5 : w.toInt = 2
      · refine Ru_tableIn (pc := 25) 88 dX11_making_25 (by omega) (by omega) (by rw [hs5]; rfl) (by decide) ?_
        refine Ru_aload_n (pc := 88) dX11_making_88 rfl rfl ?_
        refine Ru_aload_n (pc := 89) dX11_making_89 rfl rfl ?_
        refine Ru_cv0 (pc := 90) dX11_making_90 mv_X11_154 rfl (by decide) (Nat.le_of_ble_eq_true rfl) (c_X11_now hu ?_) 
        refine Ru_getR (pc := 93) (t + 7) dX11_making_93 fl_X11_230 (shTown_0 hu.1.2.2.2) rfl (rfX_of (o := t) (j := 7) (shTown_0 hu.1.2.2.2) rfl) ?_
        refine Ru_iload_n (pc := 96) dX11_making_96 rfl rfl ?_
        refine Ru_iald (pc := 97) dX11_making_97 (shTown_7 hu.1.2.2.2) (by omega) ?_
        refine Ru_top (hx.2.2.1 a' (by omega)).2.2.1 ?_
        refine Ru_cv1 (pc := 98) dX11_making_98 mv_X11_170 rfl (by decide) (Nat.le_of_ble_eq_true rfl) (c_X11_tell ?_) 
        refine Ru_iret (pc := 101) dX11_making_101 rfl ⟨Nat.le_refl _, Nat.le_refl _⟩ ?_
        have e : g_making d (nI a') w = ((nI (d (53 + a'))), 0) := by
          unfold g_making
          simp only [r_tn (show a' < 2147483648 by omega), Int.toNat_natCast]
          repeat' split
          all_goals first | rfl | (exfalso; omega) | (congr 3; omega) | (simp_all; done)
        rw [e] at k
        exact k _ (r_fx.sI rfl r_fx.rf) r_sI_s
      by_cases hs6 : w.toInt = 3
      · refine Ru_tableIn (pc := 25) 102 dX11_making_25 (by omega) (by omega) (by rw [hs6]; rfl) (by decide) ?_
        refine Ru_aload_n (pc := 102) dX11_making_102 rfl rfl ?_
        refine Ru_aload_n (pc := 103) dX11_making_103 rfl rfl ?_
        refine Ru_cv0 (pc := 104) dX11_making_104 mv_X11_154 rfl (by decide) (Nat.le_of_ble_eq_true rfl) (c_X11_now hu ?_) 
        refine Ru_getR (pc := 107) (t + 8) dX11_making_107 fl_X11_233 (shTown_0 hu.1.2.2.2) rfl (rfX_of (o := t) (j := 8) (shTown_0 hu.1.2.2.2) rfl) ?_
        refine Ru_iload_n (pc := 110) dX11_making_110 rfl rfl ?_
        refine Ru_iald (pc := 111) dX11_making_111 (shTown_8 hu.1.2.2.2) (by omega) ?_
        refine Ru_top (hx.2.2.1 a' (by omega)).2.2.2.1 ?_
        refine Ru_cv1 (pc := 112) dX11_making_112 mv_X11_170 rfl (by decide) (Nat.le_of_ble_eq_true rfl) (c_X11_tell ?_) 
        refine Ru_iret (pc := 115) dX11_making_115 rfl ⟨Nat.le_refl _, Nat.le_refl _⟩ ?_
        have e : g_making d (nI a') w = ((nI (d (65 + a'))), 0) := by
          unfold g_making
          simp only [r_tn (show a' < 2147483648 by omega), Int.toNat_natCast]
          repeat' split
          all_goals first | rfl | (exfalso; omega) | (congr 3; omega) | (simp_all; done)
        rw [e] at k
        exact k _ (r_fx.sI rfl r_fx.rf) r_sI_s
      by_cases hs7 : w.toInt = 4
      · refine Ru_tableIn (pc := 25) 116 dX11_making_25 (by omega) (by omega) (by rw [hs7]; rfl) (by decide) ?_
        refine Ru_aload_n (pc := 116) dX11_making_116 rfl rfl ?_
        refine Ru_aload_n (pc := 117) dX11_making_117 rfl rfl ?_
        refine Ru_cv0 (pc := 118) dX11_making_118 mv_X11_154 rfl (by decide) (Nat.le_of_ble_eq_true rfl) (c_X11_now hu ?_) 
        refine Ru_getR (pc := 121) (t + 9) dX11_making_121 fl_X11_236 (shTown_0 hu.1.2.2.2) rfl (rfX_of (o := t) (j := 9) (shTown_0 hu.1.2.2.2) rfl) ?_
        refine Ru_iload_n (pc := 124) dX11_making_124 rfl rfl ?_
        refine Ru_iald (pc := 125) dX11_making_125 (shTown_9 hu.1.2.2.2) (by omega) ?_
        refine Ru_top (hx.2.2.1 a' (by omega)).2.2.2.2 ?_
        refine Ru_cv1 (pc := 126) dX11_making_126 mv_X11_170 rfl (by decide) (Nat.le_of_ble_eq_true rfl) (c_X11_tell ?_) 
        refine Ru_iret (pc := 129) dX11_making_129 rfl ⟨Nat.le_refl _, Nat.le_refl _⟩ ?_
        have e : g_making d (nI a') w = ((nI (d (77 + a'))), 0) := by
          unfold g_making
          simp only [r_tn (show a' < 2147483648 by omega), Int.toNat_natCast]
          repeat' split
          all_goals first | rfl | (exfalso; omega) | (congr 3; omega) | (simp_all; done)
        rw [e] at k
        exact k _ (r_fx.sI rfl r_fx.rf) r_sI_s
      refine Ru_tableOut (pc := 25) 130 dX11_making_25 (by omega) (by decide) ?_
      refine Ru_aload_n (pc := 130) dX11_making_130 rfl rfl ?_
      refine Ru_iconst (pc := 131) (nI 5) dX11_making_131 rfl ?_
      refine Ru_cv1 (pc := 132) dX11_making_132 mv_X11_112 rfl (by decide) (Nat.le_of_ble_eq_true rfl) (c_X11_fail ?_) 
      refine Ru_iret (pc := 135) dX11_making_135 rfl ⟨Nat.le_refl _, Nat.le_refl _⟩ ?_
      have e : g_making d (nI a') w = (-1, 5) := by
        unfold g_making
        simp only [r_tn (show a' < 2147483648 by omega), Int.toNat_natCast]
        repeat' split
        all_goals first | rfl | (exfalso; omega) | (congr 3; omega) | (simp_all; done)
      rw [e] at k
      exact k _ (r_fx.sI rfl r_fx.rf) r_sI_s
    · refine Ru_aload_n (pc := 18) dX11_making_18 rfl rfl ?_
      refine Ru_iconst (pc := 19) (nI 2) dX11_making_19 rfl ?_
      refine Ru_cv1 (pc := 20) dX11_making_20 mv_X11_112 rfl (by decide) (Nat.le_of_ble_eq_true rfl) (c_X11_fail ?_) 
      refine Ru_iret (pc := 23) dX11_making_23 rfl ⟨Nat.le_refl _, Nat.le_refl _⟩ ?_
      have e : g_making d a w = (-1, 2) := by
        unfold g_making
        repeat' split
        all_goals first | rfl | (exfalso; omega) | (congr 3; omega) | (simp_all; done)
      rw [e] at k
      exact k _ (r_fx.sI rfl r_fx.rf) r_sI_s

theorem c_X11_want {Q : Rq} {M : Mem} {mk t lw pl : Nat} {d : Td} {a w : Int32} (hu : X_cu mk t lw pl d M) (hx : X_tm t d M) (wf : Wf d) (k : ∀ M', r_fx [(0, 0)] [] M M' → M'.1 0 0 = nI (g_want d a w).2 → Q (some (.int (g_want d a w).1)) GX M') : Ca 1 mt_X11_want 0 0 [.ref 0, .int a, .int w] GX M Q := by
  refine Ca_of rfl (Nat.le_of_ble_eq_true rfl) ?_
  have hb := wf.1
  refine Ru_iload_n (pc := 0) dX11_want_0 rfl rfl ?_
  refine Ru_if_ltT (pc := 1) 15 dX11_want_1 (by decide) (fun h1 => ?_) (fun h1 => ?_)
  · refine Ru_aload_n (pc := 15) dX11_want_15 rfl rfl ?_
    refine Ru_iconst (pc := 16) (nI 2) dX11_want_16 rfl ?_
    refine Ru_cv1 (pc := 17) dX11_want_17 mv_X11_112 rfl (by decide) (Nat.le_of_ble_eq_true rfl) (c_X11_fail ?_) 
    refine Ru_iret (pc := 20) dX11_want_20 rfl ⟨Nat.le_refl _, Nat.le_refl _⟩ ?_
    have e : g_want d a w = (-1, 2) := by
      unfold g_want
      repeat' split
      all_goals first | rfl | (exfalso; omega) | (congr 3; omega) | (simp_all; done)
    rw [e] at k
    exact k _ (r_fx.sI rfl r_fx.rf) r_sI_s
  · refine Ru_iload_n (pc := 4) dX11_want_4 rfl rfl ?_
    refine Ru_aload_n (pc := 5) dX11_want_5 rfl rfl ?_
    refine Ru_cv0 (pc := 6) dX11_want_6 mv_X11_154 rfl (by decide) (Nat.le_of_ble_eq_true rfl) (c_X11_now hu ?_) 
    refine Ru_getI (pc := 9) dX11_want_9 fl_X11_208 (shTown_0 hu.1.2.2.2) rfl ?_
    refine Ru_top hx.1.2.2.2 ?_
    refine Ru_icmp_ltL (pc := 12) 21 dX11_want_12 (by decide) (by omega) (fun h2 => ?_) (fun h2 => ?_)
    · obtain ⟨a', ha', rfl⟩ := r_nat (x := a) (n := 8) (by omega) (by omega)
      have ea := r_tn (show a' < 2147483648 by omega)
      refine Ru_iload_n (pc := 21) dX11_want_21 rfl rfl ?_
      by_cases hs3 : w.toInt = 0
      · refine Ru_tableIn (pc := 22) 52 dX11_want_22 (by omega) (by omega) (by rw [hs3]; rfl) (by decide) ?_
        refine Ru_aload_n (pc := 52) dX11_want_52 rfl rfl ?_
        refine Ru_aload_n (pc := 53) dX11_want_53 rfl rfl ?_
        refine Ru_cv0 (pc := 54) dX11_want_54 mv_X11_154 rfl (by decide) (Nat.le_of_ble_eq_true rfl) (c_X11_now hu ?_) 
        refine Ru_getR (pc := 57) (t + 14) dX11_want_57 fl_X11_242 (shTown_0 hu.1.2.2.2) rfl (rfX_of (o := t) (j := 14) (shTown_0 hu.1.2.2.2) rfl) ?_
        refine Ru_iload_n (pc := 60) dX11_want_60 rfl rfl ?_
        refine Ru_iald (pc := 61) dX11_want_61 (shTown_14 hu.1.2.2.2) (by omega) ?_
        refine Ru_top (hx.2.2.2.2.1 a' (by omega)).1 ?_
        refine Ru_cv1 (pc := 62) dX11_want_62 mv_X11_170 rfl (by decide) (Nat.le_of_ble_eq_true rfl) (c_X11_tell ?_) 
        refine Ru_iret (pc := 65) dX11_want_65 rfl ⟨Nat.le_refl _, Nat.le_refl _⟩ ?_
        have e : g_want d (nI a') w = ((nI (d (107 + a'))), 0) := by
          unfold g_want
          simp only [r_tn (show a' < 2147483648 by omega), Int.toNat_natCast]
          repeat' split
          all_goals first | rfl | (exfalso; omega) | (congr 3; omega) | (simp_all; done)
        rw [e] at k
        exact k _ (r_fx.sI rfl r_fx.rf) r_sI_s
      by_cases hs4 : w.toInt = 1
      · refine Ru_tableIn (pc := 22) 66 dX11_want_22 (by omega) (by omega) (by rw [hs4]; rfl) (by decide) ?_
        refine Ru_aload_n (pc := 66) dX11_want_66 rfl rfl ?_
        refine Ru_aload_n (pc := 67) dX11_want_67 rfl rfl ?_
        refine Ru_cv0 (pc := 68) dX11_want_68 mv_X11_154 rfl (by decide) (Nat.le_of_ble_eq_true rfl) (c_X11_now hu ?_) 
        refine Ru_getR (pc := 71) (t + 15) dX11_want_71 fl_X11_245 (shTown_0 hu.1.2.2.2) rfl (rfX_of (o := t) (j := 15) (shTown_0 hu.1.2.2.2) rfl) ?_
        refine Ru_iload_n (pc := 74) dX11_want_74 rfl rfl ?_
        refine Ru_iald (pc := 75) dX11_want_75 (shTown_15 hu.1.2.2.2) (by omega) ?_
        refine Ru_top (hx.2.2.2.2.1 a' (by omega)).2.1 ?_
        refine Ru_cv1 (pc := 76) dX11_want_76 mv_X11_170 rfl (by decide) (Nat.le_of_ble_eq_true rfl) (c_X11_tell ?_) 
        refine Ru_iret (pc := 79) dX11_want_79 rfl ⟨Nat.le_refl _, Nat.le_refl _⟩ ?_
        have e : g_want d (nI a') w = ((nI (d (115 + a'))), 0) := by
          unfold g_want
          simp only [r_tn (show a' < 2147483648 by omega), Int.toNat_natCast]
          repeat' split
          all_goals first | rfl | (exfalso; omega) | (congr 3; omega) | (simp_all; done)
        rw [e] at k
        exact k _ (r_fx.sI rfl r_fx.rf) r_sI_s
      by_cases hs5 : w.toInt = 2
      · refine Ru_tableIn (pc := 22) 80 dX11_want_22 (by omega) (by omega) (by rw [hs5]; rfl) (by decide) ?_
        refine Ru_aload_n (pc := 80) dX11_want_80 rfl rfl ?_
        refine Ru_aload_n (pc := 81) dX11_want_81 rfl rfl ?_
        refine Ru_cv0 (pc := 82) dX11_want_82 mv_X11_154 rfl (by decide) (Nat.le_of_ble_eq_true rfl) (c_X11_now hu ?_) 
        refine Ru_getR (pc := 85) (t + 16) dX11_want_85 fl_X11_248 (shTown_0 hu.1.2.2.2) rfl (rfX_of (o := t) (j := 16) (shTown_0 hu.1.2.2.2) rfl) ?_
        refine Ru_iload_n (pc := 88) dX11_want_88 rfl rfl ?_
        refine Ru_iald (pc := 89) dX11_want_89 (shTown_16 hu.1.2.2.2) (by omega) ?_
        refine Ru_top (hx.2.2.2.2.1 a' (by omega)).2.2 ?_
        refine Ru_cv1 (pc := 90) dX11_want_90 mv_X11_170 rfl (by decide) (Nat.le_of_ble_eq_true rfl) (c_X11_tell ?_) 
        refine Ru_iret (pc := 93) dX11_want_93 rfl ⟨Nat.le_refl _, Nat.le_refl _⟩ ?_
        have e : g_want d (nI a') w = ((nI (d (123 + a'))), 0) := by
          unfold g_want
          simp only [r_tn (show a' < 2147483648 by omega), Int.toNat_natCast]
          repeat' split
          all_goals first | rfl | (exfalso; omega) | (congr 3; omega) | (simp_all; done)
        rw [e] at k
        exact k _ (r_fx.sI rfl r_fx.rf) r_sI_s
      by_cases hs6 : w.toInt = 3
      · refine Ru_tableIn (pc := 22) 94 dX11_want_22 (by omega) (by omega) (by rw [hs6]; rfl) (by decide) ?_
        refine Ru_aload_n (pc := 94) dX11_want_94 rfl rfl ?_
        refine Ru_aload_n (pc := 95) dX11_want_95 rfl rfl ?_
        refine Ru_cv0 (pc := 96) dX11_want_96 mv_X11_154 rfl (by decide) (Nat.le_of_ble_eq_true rfl) (c_X11_now hu ?_) 
        refine Ru_getI (pc := 99) dX11_want_99 fl_X11_251 (shTown_0 hu.1.2.2.2) rfl ?_
        refine Ru_top hx.2.1.2.2 ?_
        refine Ru_iload_n (pc := 102) dX11_want_102 rfl rfl ?_
        refine Ru_ishrN (pc := 103) dX11_want_103 ⟨Nat.lt_trans (bt_lt (f := fun i => d (131 + i)) (n := 8) (fun i hi => by have := wf.2.1 i hi; omega)) (by decide), by omega⟩ ?_
        refine Ru_iconst (pc := 104) (nI 1) dX11_want_104 rfl ?_
        refine Ru_iandN (pc := 105) dX11_want_105 ?_
        refine Ru_top (congrArg nI (bt_bit (f := fun i => d (131 + i)) (n := 8) (t := a') (fun i hi => by have := wf.2.1 i hi; omega) (by omega))) ?_
        refine Ru_cv1 (pc := 106) dX11_want_106 mv_X11_170 rfl (by decide) (Nat.le_of_ble_eq_true rfl) (c_X11_tell ?_) 
        refine Ru_iret (pc := 109) dX11_want_109 rfl ⟨Nat.le_refl _, Nat.le_refl _⟩ ?_
        have e : g_want d (nI a') w = ((nI (d (131 + a'))), 0) := by
          unfold g_want
          simp only [r_tn (show a' < 2147483648 by omega), Int.toNat_natCast]
          repeat' split
          all_goals first | rfl | (exfalso; omega) | (congr 3; omega) | (simp_all; done)
        rw [e] at k
        exact k _ (r_fx.sI rfl r_fx.rf) r_sI_s
      refine Ru_tableOut (pc := 22) 110 dX11_want_22 (by omega) (by decide) ?_
      refine Ru_aload_n (pc := 110) dX11_want_110 rfl rfl ?_
      refine Ru_iconst (pc := 111) (nI 5) dX11_want_111 rfl ?_
      refine Ru_cv1 (pc := 112) dX11_want_112 mv_X11_112 rfl (by decide) (Nat.le_of_ble_eq_true rfl) (c_X11_fail ?_) 
      refine Ru_iret (pc := 115) dX11_want_115 rfl ⟨Nat.le_refl _, Nat.le_refl _⟩ ?_
      have e : g_want d (nI a') w = (-1, 5) := by
        unfold g_want
        simp only [r_tn (show a' < 2147483648 by omega), Int.toNat_natCast]
        repeat' split
        all_goals first | rfl | (exfalso; omega) | (congr 3; omega) | (simp_all; done)
      rw [e] at k
      exact k _ (r_fx.sI rfl r_fx.rf) r_sI_s
    · refine Ru_aload_n (pc := 15) dX11_want_15 rfl rfl ?_
      refine Ru_iconst (pc := 16) (nI 2) dX11_want_16 rfl ?_
      refine Ru_cv1 (pc := 17) dX11_want_17 mv_X11_112 rfl (by decide) (Nat.le_of_ble_eq_true rfl) (c_X11_fail ?_) 
      refine Ru_iret (pc := 20) dX11_want_20 rfl ⟨Nat.le_refl _, Nat.le_refl _⟩ ?_
      have e : g_want d a w = (-1, 2) := by
        unfold g_want
        repeat' split
        all_goals first | rfl | (exfalso; omega) | (congr 3; omega) | (simp_all; done)
      rw [e] at k
      exact k _ (r_fx.sI rfl r_fx.rf) r_sI_s

theorem c_X11_awake {Q : Rq} {M : Mem} {mk t lw pl : Nat} {d : Td} {a w : Int32} (hu : X_cu mk t lw pl d M) (hx : X_tm t d M) (wf : Wf d) (k : ∀ M', r_fx [(0, 0)] [] M M' → M'.1 0 0 = nI (g_awake d a w).2 → Q (some (.int (g_awake d a w).1)) GX M') : Ca 1 mt_X11_awake 0 0 [.ref 0, .int a, .int w] GX M Q := by
  refine Ca_of rfl (Nat.le_of_ble_eq_true rfl) ?_
  have hb := wf.1
  refine Ru_iload_n (pc := 0) dX11_awake_0 rfl rfl ?_
  refine Ru_if_ltT (pc := 1) 18 dX11_awake_1 (by decide) (fun h1 => ?_) (fun h1 => ?_)
  · refine Ru_aload_n (pc := 18) dX11_awake_18 rfl rfl ?_
    refine Ru_iconst (pc := 19) (nI 2) dX11_awake_19 rfl ?_
    refine Ru_cv1 (pc := 20) dX11_awake_20 mv_X11_112 rfl (by decide) (Nat.le_of_ble_eq_true rfl) (c_X11_fail ?_) 
    refine Ru_iret (pc := 23) dX11_awake_23 rfl ⟨Nat.le_refl _, Nat.le_refl _⟩ ?_
    have e : g_awake d a w = (-1, 2) := by
      unfold g_awake
      repeat' split
      all_goals first | rfl | (exfalso; omega) | (congr 3; omega) | (simp_all; done)
    rw [e] at k
    exact k _ (r_fx.sI rfl r_fx.rf) r_sI_s
  · refine Ru_iload_n (pc := 4) dX11_awake_4 rfl rfl ?_
    refine Ru_aload_n (pc := 5) dX11_awake_5 rfl rfl ?_
    refine Ru_cv0 (pc := 6) dX11_awake_6 mv_X11_154 rfl (by decide) (Nat.le_of_ble_eq_true rfl) (c_X11_now hu ?_) 
    refine Ru_getR (pc := 9) (t + 10) dX11_awake_9 fl_X11_205 (shTown_0 hu.1.2.2.2) rfl (rfX_of (o := t) (j := 10) (shTown_0 hu.1.2.2.2) rfl) ?_
    refine Ru_getI (pc := 12) dX11_awake_12 fl_X11_165 (shNames_0 (isNames_t hu.1.2.2.2).2.2) rfl ?_
    refine Ru_top hx.1.2.2.1 ?_
    refine Ru_icmp_ltL (pc := 15) 24 dX11_awake_15 (by decide) (by omega) (fun h2 => ?_) (fun h2 => ?_)
    · obtain ⟨a', ha', rfl⟩ := r_nat (x := a) (n := 6) (by omega) (by omega)
      have ea := r_tn (show a' < 2147483648 by omega)
      refine Ru_iload_n (pc := 24) dX11_awake_24 rfl rfl ?_
      refine Ru_if_ltT (pc := 25) 34 dX11_awake_25 (by decide) (fun h3 => ?_) (fun h3 => ?_)
      · refine Ru_aload_n (pc := 34) dX11_awake_34 rfl rfl ?_
        refine Ru_iconst (pc := 35) (nI 5) dX11_awake_35 rfl ?_
        refine Ru_cv1 (pc := 36) dX11_awake_36 mv_X11_112 rfl (by decide) (Nat.le_of_ble_eq_true rfl) (c_X11_fail ?_) 
        refine Ru_iret (pc := 39) dX11_awake_39 rfl ⟨Nat.le_refl _, Nat.le_refl _⟩ ?_
        have e : g_awake d (nI a') w = (-1, 5) := by
          unfold g_awake
          simp only [r_tn (show a' < 2147483648 by omega), Int.toNat_natCast]
          repeat' split
          all_goals first | rfl | (exfalso; omega) | (congr 3; omega) | (simp_all; done)
        rw [e] at k
        exact k _ (r_fx.sI rfl r_fx.rf) r_sI_s
      · refine Ru_iload_n (pc := 28) dX11_awake_28 rfl rfl ?_
        refine Ru_bipush (pc := 29) (nI 24) dX11_awake_29 rfl ?_
        refine Ru_icmp_ltL (pc := 31) 40 dX11_awake_31 (by decide) (by omega) (fun h4 => ?_) (fun h4 => ?_)
        · obtain ⟨w', hw', rfl⟩ := r_nat (x := w) (n := 24) (by omega) (by omega)
          have ew := r_tn (show w' < 2147483648 by omega)
          refine Ru_aload_n (pc := 40) dX11_awake_40 rfl rfl ?_
          refine Ru_aload_n (pc := 41) dX11_awake_41 rfl rfl ?_
          refine Ru_cv0 (pc := 42) dX11_awake_42 mv_X11_154 rfl (by decide) (Nat.le_of_ble_eq_true rfl) (c_X11_now hu ?_) 
          refine Ru_getR (pc := 45) (t + 12) dX11_awake_45 fl_X11_239 (shTown_0 hu.1.2.2.2) rfl (rfX_of (o := t) (j := 12) (shTown_0 hu.1.2.2.2) rfl) ?_
          refine Ru_iload_n (pc := 48) dX11_awake_48 rfl rfl ?_
          refine Ru_iald (pc := 49) dX11_awake_49 (shTown_12 hu.1.2.2.2) (by omega) ?_
          refine Ru_top (hx.2.2.2.1 a' (by omega)).1 ?_
          refine Ru_iload_n (pc := 50) dX11_awake_50 rfl rfl ?_
          refine Ru_ishrN (pc := 51) dX11_awake_51 ⟨Nat.lt_trans (bt_lt (fun i _ => awB_le _ _ i)) (by decide), by omega⟩ ?_
          refine Ru_iconst (pc := 52) (nI 1) dX11_awake_52 rfl ?_
          refine Ru_iandN (pc := 53) dX11_awake_53 ?_
          refine Ru_top (show nI _ = r_b (aw (d (89 + a')) (d (95 + a')) w') from ?_) ?_
          · rw [bt_bit (fun i _ => awB_le _ _ i) (by omega)]
            unfold awB
            cases aw (d (89 + a')) (d (95 + a')) w' <;> rfl
          refine Ru_cv1 (pc := 54) dX11_awake_54 mv_X11_170 rfl (by decide) (Nat.le_of_ble_eq_true rfl) (c_X11_tell ?_) 
          refine Ru_iret (pc := 57) dX11_awake_57 rfl ⟨Nat.le_refl _, Nat.le_refl _⟩ ?_
          have e : g_awake d (nI a') (nI w') = ((r_b (aw (d (89 + a')) (d (95 + a')) w')), 0) := by
            unfold g_awake
            simp only [r_tn (show a' < 2147483648 by omega), Int.toNat_natCast, r_tn (show w' < 2147483648 by omega), Int.toNat_natCast]
            repeat' split
            all_goals first | rfl | (exfalso; omega) | (congr 3; omega) | (simp_all; done)
          rw [e] at k
          exact k _ (r_fx.sI rfl r_fx.rf) r_sI_s
        · refine Ru_aload_n (pc := 34) dX11_awake_34 rfl rfl ?_
          refine Ru_iconst (pc := 35) (nI 5) dX11_awake_35 rfl ?_
          refine Ru_cv1 (pc := 36) dX11_awake_36 mv_X11_112 rfl (by decide) (Nat.le_of_ble_eq_true rfl) (c_X11_fail ?_) 
          refine Ru_iret (pc := 39) dX11_awake_39 rfl ⟨Nat.le_refl _, Nat.le_refl _⟩ ?_
          have e : g_awake d (nI a') w = (-1, 5) := by
            unfold g_awake
            simp only [r_tn (show a' < 2147483648 by omega), Int.toNat_natCast]
            repeat' split
            all_goals first | rfl | (exfalso; omega) | (congr 3; omega) | (simp_all; done)
          rw [e] at k
          exact k _ (r_fx.sI rfl r_fx.rf) r_sI_s
    · refine Ru_aload_n (pc := 18) dX11_awake_18 rfl rfl ?_
      refine Ru_iconst (pc := 19) (nI 2) dX11_awake_19 rfl ?_
      refine Ru_cv1 (pc := 20) dX11_awake_20 mv_X11_112 rfl (by decide) (Nat.le_of_ble_eq_true rfl) (c_X11_fail ?_) 
      refine Ru_iret (pc := 23) dX11_awake_23 rfl ⟨Nat.le_refl _, Nat.le_refl _⟩ ?_
      have e : g_awake d a w = (-1, 2) := by
        unfold g_awake
        repeat' split
        all_goals first | rfl | (exfalso; omega) | (congr 3; omega) | (simp_all; done)
      rw [e] at k
      exact k _ (r_fx.sI rfl r_fx.rf) r_sI_s

theorem aw_and {f : Nat → Nat} (h : ∀ i, i < 24 → f i ≤ 1) : (bt f 24 &&& 8388609 = 8388609) ↔ (f 23 = 1 ∧ f 0 = 1) := by
  have e0 := bt_tb h (show 0 < 24 by decide)
  have e23 := bt_tb h (show 23 < 24 by decide)
  constructor
  · intro hq
    have a0 : (bt f 24 &&& 8388609).testBit 0 = true := by rw [hq]; decide
    have a23 : (bt f 24 &&& 8388609).testBit 23 = true := by rw [hq]; decide
    rw [Nat.testBit_and] at a0 a23
    simp only [Bool.and_eq_true] at a0 a23
    rw [e0] at a0
    rw [e23] at a23
    exact ⟨of_decide_eq_true a23.1, of_decide_eq_true a0.1⟩
  · rintro ⟨h1, h2⟩
    apply Nat.eq_of_testBit_eq
    intro i
    rw [Nat.testBit_and]
    by_cases hi : i = 0
    · subst hi
      rw [e0, h2]
      decide
    · by_cases hi2 : i = 23
      · subst hi2
        rw [e23, h1]
        decide
      · have : Nat.testBit 8388609 i = false := by
          have e : (8388609 : Nat) = 2 ^ 23 + 1 := by decide
          by_cases hl : i < 24
          · have : ∀ j, j < 24 → j ≠ 0 → j ≠ 23 → Nat.testBit 8388609 j = false := by decide
            exact this i hl hi hi2
          · exact Nat.testBit_lt_two_pow (Nat.lt_of_lt_of_le (show 8388609 < 2 ^ 24 by decide) (Nat.pow_le_pow_right (by decide) (by omega)))
        rw [this, Bool.and_false]
theorem awB_1 {f t h : Nat} : awB f t h = 1 ↔ aw f t h = true := by
  unfold awB
  cases aw f t h <;> simp

theorem l_X9_isAwake {Q : Rq} {M : Mem} {t : Nat} {d : Td} (ht : isTown t) (hx : X_tm t d M) (wf : Wf d) (k : Q (some (.int (r_b (twAw d)))) GX M) : ∀ (w p : Nat), d 2 - p = w → p ≤ d 2 → (∀ q, q < p → ¬ (aw (d (89 + q)) (d (95 + q)) 23 = true ∧ aw (d (89 + q)) (d (95 + q)) 0 = true)) → Ru 0 mt_X9_isAwake r_z 5 [(2, some (.int (nI p))), (1, some (.int (nI 8388609))), (0, some (.ref t))] [] GX M Q := by
  intro w
  have hb := wf.1
  induction w using Nat.strongRecOn with
  | ind w ih =>
    intro p hw hp e1
    subst hw
    refine Ru_iload_n (pc := 5) dX9_isAwake_5 rfl rfl ?_
    refine Ru_aload_n (pc := 6) dX9_isAwake_6 rfl rfl ?_
    refine Ru_getR (pc := 7) (t + 10) dX9_isAwake_7 fl_X9_39 (shTown_0 ht) rfl (rfX_of (o := t) (j := 10) (shTown_0 ht) rfl) ?_
    refine Ru_getI (pc := 10) dX9_isAwake_10 fl_X9_93 (shNames_0 (isNames_t ht).2.2) rfl ?_
    refine Ru_top hx.1.2.2.1 ?_
    refine Ru_icmp_geN (pc := 13) 36 dX9_isAwake_13 (by decide) (by omega) (fun h1 => ?_) (fun h1 => ?_)
    · refine Ru_iconst (pc := 36) (nI 0) dX9_isAwake_36 rfl ?_
      refine Ru_zret (pc := 37) dX9_isAwake_37 rfl ⟨Nat.le_refl _, Nat.le_refl _⟩ (Or.inl rfl) ?_
      exact r_qe (r_b_f (twAw_f (fun p2 hp2 => e1 p2 (by omega)))) k
    · refine Ru_aload_n (pc := 16) dX9_isAwake_16 rfl rfl ?_
      refine Ru_getR (pc := 17) (t + 12) dX9_isAwake_17 fl_X9_42 (shTown_0 ht) rfl (rfX_of (o := t) (j := 12) (shTown_0 ht) rfl) ?_
      refine Ru_iload_n (pc := 20) dX9_isAwake_20 rfl rfl ?_
      refine Ru_iald (pc := 21) dX9_isAwake_21 (shTown_12 ht) (by omega) ?_
      refine Ru_top (hx.2.2.2.1 p (by omega)).1 ?_
      refine Ru_iload_n (pc := 22) dX9_isAwake_22 rfl rfl ?_
      refine Ru_iandN (pc := 23) dX9_isAwake_23 ?_
      refine Ru_iload_n (pc := 24) dX9_isAwake_24 rfl rfl ?_
      refine Ru_icmp_neN (pc := 25) 30 dX9_isAwake_25 (by decide) ⟨Nat.lt_of_le_of_lt (Nat.and_le_right) (by decide), by decide⟩ (fun h2 => ?_) (fun h2 => ?_)
      · refine Ru_iincN (pc := 30) 1 dX9_isAwake_30 rfl rfl rfl (by decide) ?_
        refine Ru_goto (pc := 33) 5 dX9_isAwake_33 (by decide) ?_
        refine Ru_weak (ih (d 2 - (p + 1)) (by omega) (p + 1) rfl (by omega) (fun q hq => ?_)) rfl
        by_cases hqp : q = p
        · subst hqp
          intro z
          exact absurd ((aw_and (fun i _ => awB_le _ _ i)).mpr ⟨awB_1.mpr z.1, awB_1.mpr z.2⟩) ‹_›
        · exact e1 q (by omega)
      · refine Ru_iconst (pc := 28) (nI 1) dX9_isAwake_28 rfl ?_
        refine Ru_zret (pc := 29) dX9_isAwake_29 rfl ⟨Nat.le_refl _, Nat.le_refl _⟩ (Or.inr rfl) ?_
        have z := (aw_and (fun i _ => awB_le _ _ i)).mp ‹_ &&& _ = _›
        exact r_qe (r_b_t (twAw_t (by omega) (awB_1.mp z.1) (awB_1.mp z.2))) k

theorem c_X9_isAwake {Q : Rq} {M : Mem} {t : Nat} {d : Td} (ht : isTown t) (hx : X_tm t d M) (wf : Wf d) (k : Q (some (.int (r_b (twAw d)))) GX M) : Ca 0 mt_X9_isAwake 0 0 [.ref t] GX M Q := by
  refine Ca_of rfl (Nat.le_of_ble_eq_true rfl) ?_
  refine Ru_ldc (pc := 0) dX9_isAwake_0 tw_955 ?_
  refine Ru_top (show _ = nI 8388609 from by decide) ?_
  refine Ru_istore_n (pc := 2) dX9_isAwake_2 rfl rfl (by decide) ?_
  refine Ru_iconst (pc := 3) (nI 0) dX9_isAwake_3 rfl ?_
  refine Ru_istore_n (pc := 4) dX9_isAwake_4 rfl rfl (by decide) ?_
  exact Ru_weak (l_X9_isAwake ht hx wf k (d 2) 0 rfl (by omega) (fun q hq => absurd hq (Nat.not_lt_zero q))) rfl

theorem c_X11_many {Q : Rq} {M : Mem} {mk t lw pl : Nat} {d : Td} {w : Int32} (hu : X_cu mk t lw pl d M) (hx : X_tm t d M) (wf : Wf d) (k : ∀ M', r_fx [(0, 0)] [] M M' → M'.1 0 0 = nI (g_many d w).2 → Q (some (.int (g_many d w).1)) GX M') : Ca 1 mt_X11_many 0 0 [.ref 0, .int w] GX M Q := by
  refine Ca_of rfl (Nat.le_of_ble_eq_true rfl) ?_
  have hb := wf.1
  refine Ru_iload_n (pc := 0) dX11_many_0 rfl rfl ?_
  by_cases hs1 : w.toInt = 0
  · refine Ru_tableIn (pc := 1) 40 dX11_many_1 (by omega) (by omega) (by rw [hs1]; rfl) (by decide) ?_
    refine Ru_aload_n (pc := 40) dX11_many_40 rfl rfl ?_
    refine Ru_aload_n (pc := 41) dX11_many_41 rfl rfl ?_
    refine Ru_cv0 (pc := 42) dX11_many_42 mv_X11_154 rfl (by decide) (Nat.le_of_ble_eq_true rfl) (c_X11_now hu ?_) 
    refine Ru_getR (pc := 45) (t + 1) dX11_many_45 fl_X11_161 (shTown_0 hu.1.2.2.2) rfl (rfX_of (o := t) (j := 1) (shTown_0 hu.1.2.2.2) rfl) ?_
    refine Ru_getI (pc := 48) dX11_many_48 fl_X11_165 (shNames_0 (isNames_t hu.1.2.2.2).1) rfl ?_
    refine Ru_top hx.1.1 ?_
    refine Ru_cv1 (pc := 51) dX11_many_51 mv_X11_170 rfl (by decide) (Nat.le_of_ble_eq_true rfl) (c_X11_tell ?_) 
    refine Ru_iret (pc := 54) dX11_many_54 rfl ⟨Nat.le_refl _, Nat.le_refl _⟩ ?_
    have e : g_many d w = ((nI (d 0)), 0) := by
      unfold g_many
      repeat' split
      all_goals first | rfl | (exfalso; omega) | (simp_all; done)
    rw [e] at k
    exact k _ (r_fx.sI rfl r_fx.rf) r_sI_s
  by_cases hs2 : w.toInt = 1
  · refine Ru_tableIn (pc := 1) 55 dX11_many_1 (by omega) (by omega) (by rw [hs2]; rfl) (by decide) ?_
    refine Ru_aload_n (pc := 55) dX11_many_55 rfl rfl ?_
    refine Ru_aload_n (pc := 56) dX11_many_56 rfl rfl ?_
    refine Ru_cv0 (pc := 57) dX11_many_57 mv_X11_154 rfl (by decide) (Nat.le_of_ble_eq_true rfl) (c_X11_now hu ?_) 
    refine Ru_getR (pc := 60) (t + 3) dX11_many_60 fl_X11_202 (shTown_0 hu.1.2.2.2) rfl (rfX_of (o := t) (j := 3) (shTown_0 hu.1.2.2.2) rfl) ?_
    refine Ru_getI (pc := 63) dX11_many_63 fl_X11_165 (shNames_0 (isNames_t hu.1.2.2.2).2.1) rfl ?_
    refine Ru_top hx.1.2.1 ?_
    refine Ru_cv1 (pc := 66) dX11_many_66 mv_X11_170 rfl (by decide) (Nat.le_of_ble_eq_true rfl) (c_X11_tell ?_) 
    refine Ru_iret (pc := 69) dX11_many_69 rfl ⟨Nat.le_refl _, Nat.le_refl _⟩ ?_
    have e : g_many d w = ((nI (d 1)), 0) := by
      unfold g_many
      repeat' split
      all_goals first | rfl | (exfalso; omega) | (simp_all; done)
    rw [e] at k
    exact k _ (r_fx.sI rfl r_fx.rf) r_sI_s
  by_cases hs3 : w.toInt = 2
  · refine Ru_tableIn (pc := 1) 70 dX11_many_1 (by omega) (by omega) (by rw [hs3]; rfl) (by decide) ?_
    refine Ru_aload_n (pc := 70) dX11_many_70 rfl rfl ?_
    refine Ru_aload_n (pc := 71) dX11_many_71 rfl rfl ?_
    refine Ru_cv0 (pc := 72) dX11_many_72 mv_X11_154 rfl (by decide) (Nat.le_of_ble_eq_true rfl) (c_X11_now hu ?_) 
    refine Ru_getR (pc := 75) (t + 10) dX11_many_75 fl_X11_205 (shTown_0 hu.1.2.2.2) rfl (rfX_of (o := t) (j := 10) (shTown_0 hu.1.2.2.2) rfl) ?_
    refine Ru_getI (pc := 78) dX11_many_78 fl_X11_165 (shNames_0 (isNames_t hu.1.2.2.2).2.2) rfl ?_
    refine Ru_top hx.1.2.2.1 ?_
    refine Ru_cv1 (pc := 81) dX11_many_81 mv_X11_170 rfl (by decide) (Nat.le_of_ble_eq_true rfl) (c_X11_tell ?_) 
    refine Ru_iret (pc := 84) dX11_many_84 rfl ⟨Nat.le_refl _, Nat.le_refl _⟩ ?_
    have e : g_many d w = ((nI (d 2)), 0) := by
      unfold g_many
      repeat' split
      all_goals first | rfl | (exfalso; omega) | (simp_all; done)
    rw [e] at k
    exact k _ (r_fx.sI rfl r_fx.rf) r_sI_s
  by_cases hs4 : w.toInt = 3
  · refine Ru_tableIn (pc := 1) 85 dX11_many_1 (by omega) (by omega) (by rw [hs4]; rfl) (by decide) ?_
    refine Ru_aload_n (pc := 85) dX11_many_85 rfl rfl ?_
    refine Ru_aload_n (pc := 86) dX11_many_86 rfl rfl ?_
    refine Ru_cv0 (pc := 87) dX11_many_87 mv_X11_154 rfl (by decide) (Nat.le_of_ble_eq_true rfl) (c_X11_now hu ?_) 
    refine Ru_getI (pc := 90) dX11_many_90 fl_X11_208 (shTown_0 hu.1.2.2.2) rfl ?_
    refine Ru_top hx.1.2.2.2 ?_
    refine Ru_cv1 (pc := 93) dX11_many_93 mv_X11_170 rfl (by decide) (Nat.le_of_ble_eq_true rfl) (c_X11_tell ?_) 
    refine Ru_iret (pc := 96) dX11_many_96 rfl ⟨Nat.le_refl _, Nat.le_refl _⟩ ?_
    have e : g_many d w = ((nI (d 3)), 0) := by
      unfold g_many
      repeat' split
      all_goals first | rfl | (exfalso; omega) | (simp_all; done)
    rw [e] at k
    exact k _ (r_fx.sI rfl r_fx.rf) r_sI_s
  by_cases hs5 : w.toInt = 4
  · refine Ru_tableIn (pc := 1) 97 dX11_many_1 (by omega) (by omega) (by rw [hs5]; rfl) (by decide) ?_
    refine Ru_aload_n (pc := 97) dX11_many_97 rfl rfl ?_
    refine Ru_aload_n (pc := 98) dX11_many_98 rfl rfl ?_
    refine Ru_cv0 (pc := 99) dX11_many_99 mv_X11_154 rfl (by decide) (Nat.le_of_ble_eq_true rfl) (c_X11_now hu ?_) 
    refine Ru_getR (pc := 102) pl dX11_many_102 fl_X11_190 (shTown_0 hu.1.2.2.2) rfl ((rfX_mut (shTown_0 hu.1.2.2.2) rfl).trans hu.2.2.1) ?_
    refine Ru_getI (pc := 105) dX11_many_105 fl_X11_193 (shPlan_0 hu.2.2.2.1) rfl ?_
    refine Ru_top hu.2.2.2.2.2 ?_
    refine Ru_cv1 (pc := 108) dX11_many_108 mv_X11_170 rfl (by decide) (Nat.le_of_ble_eq_true rfl) (c_X11_tell ?_) 
    refine Ru_iret (pc := 111) dX11_many_111 rfl ⟨Nat.le_refl _, Nat.le_refl _⟩ ?_
    have e : g_many d w = ((nI (d 4)), 0) := by
      unfold g_many
      repeat' split
      all_goals first | rfl | (exfalso; omega) | (simp_all; done)
    rw [e] at k
    exact k _ (r_fx.sI rfl r_fx.rf) r_sI_s
  by_cases hs6 : w.toInt = 5
  · refine Ru_tableIn (pc := 1) 112 dX11_many_1 (by omega) (by omega) (by rw [hs6]; rfl) (by decide) ?_
    refine Ru_aload_n (pc := 112) dX11_many_112 rfl rfl ?_
    refine Ru_aload_n (pc := 113) dX11_many_113 rfl rfl ?_
    refine Ru_cv0 (pc := 114) dX11_many_114 mv_X11_154 rfl (by decide) (Nat.le_of_ble_eq_true rfl) (c_X11_now hu ?_) 
    refine Ru_cv0 (pc := 117) dX11_many_117 mv_X11_211 (shTown_0 hu.1.2.2.2) (by decide) (Nat.le_of_ble_eq_true rfl) (c_X9_isAwake hu.1.2.2.2 hx wf ?_) 
    refine Ru_if_eqB (pc := 120) 127 dX11_many_120 (by decide) (fun h7 => ?_) (fun h7 => ?_)
    · refine Ru_iconst (pc := 127) (nI 0) dX11_many_127 rfl ?_
      refine Ru_cv1 (pc := 128) dX11_many_128 mv_X11_170 rfl (by decide) (Nat.le_of_ble_eq_true rfl) (c_X11_tell ?_) 
      refine Ru_iret (pc := 131) dX11_many_131 rfl ⟨Nat.le_refl _, Nat.le_refl _⟩ ?_
      have e : g_many d w = (r_b (twAw d), 0) := by
        unfold g_many
        repeat' split
        all_goals first | rfl | (exfalso; omega) | (simp_all; done)
      rw [e, ‹twAw d = false›] at k
      exact k _ (r_fx.sI rfl r_fx.rf) r_sI_s
    · refine Ru_iconst (pc := 123) (nI 1) dX11_many_123 rfl ?_
      refine Ru_goto (pc := 124) 128 dX11_many_124 (by decide) ?_
      refine Ru_cv1 (pc := 128) dX11_many_128 mv_X11_170 rfl (by decide) (Nat.le_of_ble_eq_true rfl) (c_X11_tell ?_) 
      refine Ru_iret (pc := 131) dX11_many_131 rfl ⟨Nat.le_refl _, Nat.le_refl _⟩ ?_
      have e : g_many d w = (r_b (twAw d), 0) := by
        unfold g_many
        repeat' split
        all_goals first | rfl | (exfalso; omega) | (simp_all; done)
      rw [e, ‹twAw d = true›] at k
      exact k _ (r_fx.sI rfl r_fx.rf) r_sI_s
  refine Ru_tableOut (pc := 1) 132 dX11_many_1 (by omega) (by decide) ?_
  refine Ru_aload_n (pc := 132) dX11_many_132 rfl rfl ?_
  refine Ru_iconst (pc := 133) (nI 5) dX11_many_133 rfl ?_
  refine Ru_cv1 (pc := 134) dX11_many_134 mv_X11_112 rfl (by decide) (Nat.le_of_ble_eq_true rfl) (c_X11_fail ?_) 
  refine Ru_iret (pc := 137) dX11_many_137 rfl ⟨Nat.le_refl _, Nat.le_refl _⟩ ?_
  have e : g_many d w = (-1, 5) := by
    unfold g_many
    repeat' split
    all_goals first | rfl | (exfalso; omega) | (simp_all; done)
  rw [e] at k
  exact k _ (r_fx.sI rfl r_fx.rf) r_sI_s
