theorem c_X11_pour {Q : Rq} {M : Mem} {t i u j n : Int32} {tr : Nat → Tr} (hy : X_tr tr M) (k : ∀ M', r_fx [(0, 0)] trA M M' → M'.1 0 0 = (f_pour t i u j n tr).2.1 → X_tr (f_pour t i u j n tr).2.2 M' → Q (some (.int (r_b (f_pour t i u j n tr).1))) GX M') : Ca 2 mt_X11_pour 0 0 [.ref 0, .int t, .int i, .int u, .int j, .int n] GX M Q := by
  refine Ca_of rfl (Nat.le_of_ble_eq_true rfl) ?_
  refine Ru_aload_n (pc := 0) dX11_pour_0 rfl rfl ?_
  refine Ru_iload_n (pc := 1) dX11_pour_1 rfl rfl ?_
  refine Ru_cv1 (pc := 2) dX11_pour_2 mv_X11_87 rfl (by decide) (Nat.le_of_ble_eq_true rfl) (c_X11_isTray ?_) 
  refine Ru_if_eqB (pc := 5) 16 dX11_pour_5 (by decide) (fun h1 => ?_) (fun h1 => ?_)
  · replace h1 := of_decide_eq_false h1
    refine Ru_aload_n (pc := 16) dX11_pour_16 rfl rfl ?_
    refine Ru_iconst (pc := 17) (nI 1) dX11_pour_17 rfl ?_
    refine Ru_cv1 (pc := 18) dX11_pour_18 mv_X11_91 rfl (by decide) (Nat.le_of_ble_eq_true rfl) (c_X11_refuse ?_) 
    refine Ru_zret (pc := 21) dX11_pour_21 rfl ⟨Nat.le_refl _, Nat.le_refl _⟩ (Or.inl rfl) ?_
    have e : f_pour t i u j n tr = (false, nI 1, tr) := by
      unfold f_pour
      repeat' split
      all_goals first | rfl | (exfalso; omega)
    rw [e] at k
    exact k _ (r_fx.sI rfl r_fx.rf) r_sI_s (X_tr_S (r_fx.sI rfl r_fx.rf) hy)
  · replace h1 := of_decide_eq_true h1
    refine Ru_aload_n (pc := 8) dX11_pour_8 rfl rfl ?_
    refine Ru_iload_n (pc := 9) dX11_pour_9 rfl rfl ?_
    refine Ru_cv1 (pc := 10) dX11_pour_10 mv_X11_87 rfl (by decide) (Nat.le_of_ble_eq_true rfl) (c_X11_isTray ?_) 
    refine Ru_if_neB (pc := 13) 22 dX11_pour_13 (by decide) (fun h2 => ?_) (fun h2 => ?_)
    · replace h2 := of_decide_eq_true h2
      obtain ⟨t', ht', rfl⟩ := r_nat (x := t) (n := 4) (by omega) (by decide)
      obtain ⟨u', hu', rfl⟩ := r_nat (x := u) (n := 4) (by omega) (by decide)
      have et := r_tnn (show t' < 2147483648 by omega)
      have et2 := r_tn (show t' < 2147483648 by omega)
      have eu := r_tnn (show u' < 2147483648 by omega)
      have eu2 := r_tn (show u' < 2147483648 by omega)
      have lt := (hy t' ht').2.2.2.1
      have lu := (hy u' hu').2.2.2.1
      refine Ru_aload_n (pc := 22) dX11_pour_22 rfl rfl ?_
      refine Ru_getR (pc := 23) 1 dX11_pour_23 fl_X11_15 rfl rfl (rfX_of (o := 0) (j := 1) rfl rfl) ?_
      refine Ru_iload_n (pc := 26) dX11_pour_26 rfl rfl ?_
      refine Ru_aald (pc := 27) dX11_pour_27 rfl (by decide) (by omega) (hy t' ht').1 ?_
      refine Ru_astore (pc := 28) dX11_pour_28 rfl (by decide) ?_
      refine Ru_aload_n (pc := 30) dX11_pour_30 rfl rfl ?_
      refine Ru_getR (pc := 31) 1 dX11_pour_31 fl_X11_15 rfl rfl (rfX_of (o := 0) (j := 1) rfl rfl) ?_
      refine Ru_iload_n (pc := 34) dX11_pour_34 rfl rfl ?_
      refine Ru_aald (pc := 35) dX11_pour_35 rfl (by decide) (by omega) (hy u' hu').1 ?_
      refine Ru_astore (pc := 36) dX11_pour_36 rfl (by decide) ?_
      refine Ru_aload (pc := 38) dX11_pour_38 rfl ?_
      refine Ru_cv0 (pc := 40) dX11_pour_40 mv_X11_102 (shTray_0 (isTray_of ht')) (by decide) (Nat.le_of_ble_eq_true rfl) (c_X10_isMissing (isTray_of ht') (hy t' ht').2.2.1 ?_) 
      refine Ru_if_neB (pc := 43) 54 dX11_pour_43 (by decide) (fun h3 => ?_) (fun h3 => ?_)
      · replace h3 := of_decide_eq_true h3
        refine Ru_aload_n (pc := 54) dX11_pour_54 rfl rfl ?_
        refine Ru_iconst (pc := 55) (nI 3) dX11_pour_55 rfl ?_
        refine Ru_cv1 (pc := 56) dX11_pour_56 mv_X11_91 rfl (by decide) (Nat.le_of_ble_eq_true rfl) (c_X11_refuse ?_) 
        refine Ru_zret (pc := 59) dX11_pour_59 rfl ⟨Nat.le_refl _, Nat.le_refl _⟩ (Or.inl rfl) ?_
        have e : f_pour (nI t') i (nI u') j n tr = (false, nI 3, tr) := by
          unfold f_pour
          rw [et, eu]
          repeat' split
          all_goals first | rfl | (exfalso; omega)
        rw [e] at k
        exact k _ (r_fx.sI rfl r_fx.rf) r_sI_s (X_tr_S (r_fx.sI rfl r_fx.rf) hy)
      · replace h3 := of_decide_eq_false h3
        refine Ru_aload (pc := 46) dX11_pour_46 rfl ?_
        refine Ru_cv0 (pc := 48) dX11_pour_48 mv_X11_102 (shTray_0 (isTray_of hu')) (by decide) (Nat.le_of_ble_eq_true rfl) (c_X10_isMissing (isTray_of hu') (hy u' hu').2.2.1 ?_) 
        refine Ru_if_eqB (pc := 51) 60 dX11_pour_51 (by decide) (fun h4 => ?_) (fun h4 => ?_)
        · replace h4 := of_decide_eq_false h4
          refine Ru_aload (pc := 60) dX11_pour_60 rfl ?_
          refine Ru_getI (pc := 62) dX11_pour_62 fl_X11_120 (shTray_0 (isTray_of ht')) rfl ?_
          refine Ru_top (hy t' ht').2.1 ?_
          refine Ru_aload (pc := 65) dX11_pour_65 rfl ?_
          refine Ru_getI (pc := 67) dX11_pour_67 fl_X11_120 (shTray_0 (isTray_of hu')) rfl ?_
          refine Ru_top (hy u' hu').2.1 ?_
          refine Ru_icmp_eqT (pc := 70) 80 dX11_pour_70 (by decide) (fun h5 => ?_) (fun h5 => ?_)
          · refine Ru_iload (pc := 80) dX11_pour_80 rfl ?_
            refine Ru_if_geT (pc := 82) 92 dX11_pour_82 (by decide) (fun h6 => ?_) (fun h6 => ?_)
            · refine Ru_aload (pc := 92) dX11_pour_92 rfl ?_
              refine Ru_iload_n (pc := 94) dX11_pour_94 rfl rfl ?_
              refine Ru_iload (pc := 95) dX11_pour_95 rfl ?_
              refine Ru_cv2 (pc := 97) dX11_pour_97 mv_X11_123 (shTray_0 (isTray_of ht')) (by decide) (Nat.le_of_ble_eq_true rfl) (c_X10_hasRun (isTray_of ht') (hy t' ht').2.2.1 (by omega) (by omega) ?_) 
              refine Ru_if_eqB (pc := 100) 115 dX11_pour_100 (by decide) (fun h7 => ?_) (fun h7 => ?_)
              · replace h7 := of_decide_eq_false h7
                refine Ru_aload_n (pc := 115) dX11_pour_115 rfl rfl ?_
                refine Ru_iconst (pc := 116) (nI 4) dX11_pour_116 rfl ?_
                refine Ru_cv1 (pc := 117) dX11_pour_117 mv_X11_91 rfl (by decide) (Nat.le_of_ble_eq_true rfl) (c_X11_refuse ?_) 
                refine Ru_zret (pc := 120) dX11_pour_120 rfl ⟨Nat.le_refl _, Nat.le_refl _⟩ (Or.inl rfl) ?_
                have e : f_pour (nI t') i (nI u') j n tr = (false, nI 4, tr) := by
                  unfold f_pour
                  rw [et, eu]
                  repeat' split
                  all_goals first | rfl | (exfalso; omega)
                rw [e] at k
                exact k _ (r_fx.sI rfl r_fx.rf) r_sI_s (X_tr_S (r_fx.sI rfl r_fx.rf) hy)
              · replace h7 := of_decide_eq_true h7
                refine Ru_aload (pc := 103) dX11_pour_103 rfl ?_
                refine Ru_iload (pc := 105) dX11_pour_105 rfl ?_
                refine Ru_iload (pc := 107) dX11_pour_107 rfl ?_
                refine Ru_cv2 (pc := 109) dX11_pour_109 mv_X11_123 (shTray_0 (isTray_of hu')) (by decide) (Nat.le_of_ble_eq_true rfl) (c_X10_hasRun (isTray_of hu') (hy u' hu').2.2.1 (by omega) (by omega) ?_) 
                refine Ru_if_neB (pc := 112) 121 dX11_pour_112 (by decide) (fun h8 => ?_) (fun h8 => ?_)
                · replace h8 := of_decide_eq_true h8
                  obtain ⟨n', hn', rfl⟩ := r_nat (x := n) (n := 61) (by omega) (by decide)
                  obtain ⟨i', hi', rfl⟩ := r_nat (x := i) (n := 61) (by omega) (by decide)
                  obtain ⟨j', hj', rfl⟩ := r_nat (x := j) (n := 61) (by omega) (by decide)
                  have en := r_tn (show n' < 2147483648 by omega)
                  have ei := r_tn (show i' < 2147483648 by omega)
                  have ej := r_tn (show j' < 2147483648 by omega)
                  have en2 := r_tnn (show n' < 2147483648 by omega)
                  have ei2 := r_tnn (show i' < 2147483648 by omega)
                  have ej2 := r_tnn (show j' < 2147483648 by omega)
                  refine Ru_aload (pc := 121) dX11_pour_121 rfl ?_
                  refine Ru_getR (pc := 123) ((75 + 2 * t') + 1) dX11_pour_123 fl_X11_127 (shTray_0 (isTray_of ht')) rfl (rfX_of (o := (75 + 2 * t')) (j := 1) (shTray_0 (isTray_of ht')) rfl) ?_
                  refine Ru_iload_n (pc := 126) dX11_pour_126 rfl rfl ?_
                  refine Ru_aload (pc := 127) dX11_pour_127 rfl ?_
                  refine Ru_getR (pc := 129) ((75 + 2 * u') + 1) dX11_pour_129 fl_X11_127 (shTray_0 (isTray_of hu')) rfl (rfX_of (o := (75 + 2 * u')) (j := 1) (shTray_0 (isTray_of hu')) rfl) ?_
                  refine Ru_iload (pc := 132) dX11_pour_132 rfl ?_
                  refine Ru_iload (pc := 134) dX11_pour_134 rfl ?_
                  refine Ru_copyJ (pc := 136) rfl dX11_pour_136 cp_X11 (shTray_1 (isTray_of ht')) (shTray_1 (isTray_of hu')) (by omega) (by omega) (by decide) (Nat.le_of_ble_eq_true rfl) ?_
                  refine Ru_aload_n (pc := 139) dX11_pour_139 rfl rfl ?_
                  refine Ru_cv0 (pc := 140) dX11_pour_140 mv_X11_98 rfl (by decide) (Nat.le_of_ble_eq_true rfl) (c_X11_accept ?_) 
                  refine Ru_zret (pc := 143) dX11_pour_143 rfl ⟨Nat.le_refl _, Nat.le_refl _⟩ (Or.inr rfl) ?_
                  have e : f_pour (nI t') (nI i') (nI u') (nI j') (nI n') tr = (true, nI 0, fun q => if q = u' then ((tr q).1, (tr q).2.1, fun k => if j' ≤ k ∧ k < j' + n' then (tr t').2.2 (i' + (k - j')) else (tr q).2.2 k) else tr q) := by
                    unfold f_pour
                    rw [et, eu, if_neg (by omega), if_neg (by omega), if_neg (by omega), if_neg (by omega), if_neg (by omega), en2, ei2, ej2]
                  rw [e] at k
                  exact k _ (r_fx.sI rfl (r_fx.wJ (fun q => (tr_in (isTray_of hu') q).2) r_fx.rf)) r_sI_s (X_tr_S (r_fx.sI rfl r_fx.rf) (X_tr_pour hy ht' hu' (by omega)))
                · replace h8 := of_decide_eq_false h8
                  refine Ru_aload_n (pc := 115) dX11_pour_115 rfl rfl ?_
                  refine Ru_iconst (pc := 116) (nI 4) dX11_pour_116 rfl ?_
                  refine Ru_cv1 (pc := 117) dX11_pour_117 mv_X11_91 rfl (by decide) (Nat.le_of_ble_eq_true rfl) (c_X11_refuse ?_) 
                  refine Ru_zret (pc := 120) dX11_pour_120 rfl ⟨Nat.le_refl _, Nat.le_refl _⟩ (Or.inl rfl) ?_
                  have e : f_pour (nI t') i (nI u') j n tr = (false, nI 4, tr) := by
                    unfold f_pour
                    rw [et, eu]
                    repeat' split
                    all_goals first | rfl | (exfalso; omega)
                  rw [e] at k
                  exact k _ (r_fx.sI rfl r_fx.rf) r_sI_s (X_tr_S (r_fx.sI rfl r_fx.rf) hy)
            · refine Ru_aload_n (pc := 85) dX11_pour_85 rfl rfl ?_
              refine Ru_bipush (pc := 86) (nI 6) dX11_pour_86 rfl ?_
              refine Ru_cv1 (pc := 88) dX11_pour_88 mv_X11_91 rfl (by decide) (Nat.le_of_ble_eq_true rfl) (c_X11_refuse ?_) 
              refine Ru_zret (pc := 91) dX11_pour_91 rfl ⟨Nat.le_refl _, Nat.le_refl _⟩ (Or.inl rfl) ?_
              have e : f_pour (nI t') i (nI u') j n tr = (false, nI 6, tr) := by
                unfold f_pour
                rw [et, eu]
                repeat' split
                all_goals first | rfl | (exfalso; omega)
              rw [e] at k
              exact k _ (r_fx.sI rfl r_fx.rf) r_sI_s (X_tr_S (r_fx.sI rfl r_fx.rf) hy)
          · refine Ru_aload_n (pc := 73) dX11_pour_73 rfl rfl ?_
            refine Ru_bipush (pc := 74) (nI 11) dX11_pour_74 rfl ?_
            refine Ru_cv1 (pc := 76) dX11_pour_76 mv_X11_91 rfl (by decide) (Nat.le_of_ble_eq_true rfl) (c_X11_refuse ?_) 
            refine Ru_zret (pc := 79) dX11_pour_79 rfl ⟨Nat.le_refl _, Nat.le_refl _⟩ (Or.inl rfl) ?_
            have e : f_pour (nI t') i (nI u') j n tr = (false, nI 11, tr) := by
              unfold f_pour
              rw [et, eu]
              repeat' split
              all_goals first | rfl | (exfalso; omega)
            rw [e] at k
            exact k _ (r_fx.sI rfl r_fx.rf) r_sI_s (X_tr_S (r_fx.sI rfl r_fx.rf) hy)
        · replace h4 := of_decide_eq_true h4
          refine Ru_aload_n (pc := 54) dX11_pour_54 rfl rfl ?_
          refine Ru_iconst (pc := 55) (nI 3) dX11_pour_55 rfl ?_
          refine Ru_cv1 (pc := 56) dX11_pour_56 mv_X11_91 rfl (by decide) (Nat.le_of_ble_eq_true rfl) (c_X11_refuse ?_) 
          refine Ru_zret (pc := 59) dX11_pour_59 rfl ⟨Nat.le_refl _, Nat.le_refl _⟩ (Or.inl rfl) ?_
          have e : f_pour (nI t') i (nI u') j n tr = (false, nI 3, tr) := by
            unfold f_pour
            rw [et, eu]
            repeat' split
            all_goals first | rfl | (exfalso; omega)
          rw [e] at k
          exact k _ (r_fx.sI rfl r_fx.rf) r_sI_s (X_tr_S (r_fx.sI rfl r_fx.rf) hy)
    · replace h2 := of_decide_eq_false h2
      refine Ru_aload_n (pc := 16) dX11_pour_16 rfl rfl ?_
      refine Ru_iconst (pc := 17) (nI 1) dX11_pour_17 rfl ?_
      refine Ru_cv1 (pc := 18) dX11_pour_18 mv_X11_91 rfl (by decide) (Nat.le_of_ble_eq_true rfl) (c_X11_refuse ?_) 
      refine Ru_zret (pc := 21) dX11_pour_21 rfl ⟨Nat.le_refl _, Nat.le_refl _⟩ (Or.inl rfl) ?_
      have e : f_pour t i u j n tr = (false, nI 1, tr) := by
        unfold f_pour
        repeat' split
        all_goals first | rfl | (exfalso; omega)
      rw [e] at k
      exact k _ (r_fx.sI rfl r_fx.rf) r_sI_s (X_tr_S (r_fx.sI rfl r_fx.rf) hy)
