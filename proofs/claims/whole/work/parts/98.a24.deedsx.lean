-- JUDGED, DONE, LIVES, ILL: the developers' own

theorem c_X11_done {Q : Rq} {M : Mem} {mk t lw pl : Nat} {d : Td} {s y : Int32} {x : Tl} (hxx : X_th x M) (hu : X_cu mk t lw pl d M) (hx : X_tm t d M) (hlw : X_lw lw d M) (wf : Wf d) (hwl : Wl d) (wj : Wj d) (wn : Wn d) (hpj : X_pj pl d M) (k : ∀ M', r_fx [(0, 0), (46, 0), (46, 2), (67, 2), (67, 3), (67, 4), (70, 0), (70, 1), (70, 2)] [47, 48, 68, 71, 72, 73, 74] M M' → M'.1 0 0 = nI (g_done d s y).2 → X_th (f_done d s y x) M' → Q (some (.int (g_done d s y).1)) GX M') : Ca 6 mt_X11_done 0 0 [.ref 0, .int s, .int y] GX M Q := by
  refine Ca_of rfl (Nat.le_of_ble_eq_true rfl) ?_
  have hb := wf.1
  have hp := pw_le hb.1
  have ht : isTown t := hu.1.2.2.2
  have em : (-1 : Int32).toInt = -1 := rfl
  have hT : t = 3 ∨ t = 83 ∨ t = 111 ∨ t = 139 ∨ t = 167 := ht
  have hlwi : isLaw lw := hu.2.1.2.1
  have hpl : isPlan pl := hu.2.2.2.1
  have hwn := wn.1
  refine Ru_aload_n (pc := 0) dX11_done_0 rfl rfl ?_
  refine Ru_iload_n (pc := 1) dX11_done_1 rfl rfl ?_
  refine Ru_cv1 (pc := 2) dX11_done_2 mv_X11_254 rfl (by decide) (Nat.le_of_ble_eq_true rfl) (c_X11_isSet hu hx wf ?_) 
  refine Ru_if_neB (pc := 5) 14 dX11_done_5 (by decide) (fun h1 => ?_) (fun h1 => ?_)
  · replace h1 := of_decide_eq_true h1
    refine Ru_aload_n (pc := 14) dX11_done_14 rfl rfl ?_
    refine Ru_iload_n (pc := 15) dX11_done_15 rfl rfl ?_
    refine Ru_cv1 (pc := 16) dX11_done_16 mv_X11_260 rfl (by decide) (Nat.le_of_ble_eq_true rfl) (c_X11_isDay ?_) 
    refine Ru_if_neB (pc := 19) 28 dX11_done_19 (by decide) (fun h2 => ?_) (fun h2 => ?_)
    · replace h2 := of_decide_eq_true h2
      obtain ⟨s', hs', rfl⟩ := r_nat (x := s) (n := 256) (by omega) (by omega)
      have es := r_tn (show s' < 2147483648 by omega)
      obtain ⟨y', hy', rfl⟩ := r_nat (x := y) (n := 1000) (by omega) (by omega)
      have ey := r_tn (show y' < 2147483648 by omega)
      refine Ru_aload_n (pc := 28) dX11_done_28 rfl rfl ?_
      refine Ru_cv0 (pc := 29) dX11_done_29 mv_X11_154 rfl (by decide) (Nat.le_of_ble_eq_true rfl) (c_X11_now hu ?_) 
      refine Ru_getR (pc := 32) pl dX11_done_32 fl_X11_190 (shTown_0 ht) rfl ((rfX_mut (shTown_0 ht) rfl).trans hu.2.2.1) ?_
      refine Ru_getI (pc := 35) dX11_done_35 fl_X11_368 (shPlan_0 hpl) rfl ?_
      refine Ru_top hu.2.2.2.2.1 ?_
      refine Ru_if_neN (pc := 38) 48 dX11_done_38 (by decide) (by omega) (fun h3 => ?_) (fun h3 => ?_)
      · refine Ru_aload_n (pc := 48) dX11_done_48 rfl rfl ?_
        refine Ru_aload_n (pc := 49) dX11_done_49 rfl rfl ?_
        refine Ru_getR (pc := 50) 67 dX11_done_50 fl_X11_75 rfl rfl (rfX_of (o := 0) (j := 67) rfl rfl) ?_
        refine Ru_aload_n (pc := 53) dX11_done_53 rfl rfl ?_
        refine Ru_cv0 (pc := 54) dX11_done_54 mv_X11_154 rfl (by decide) (Nat.le_of_ble_eq_true rfl) (c_X11_now hu ?_) 
        refine Ru_aload_n (pc := 57) dX11_done_57 rfl rfl ?_
        refine Ru_getR (pc := 58) 46 dX11_done_58 fl_X11_54 rfl rfl (rfX_of (o := 0) (j := 46) rfl rfl) ?_
        refine Ru_iload_n (pc := 61) dX11_done_61 rfl rfl ?_
        refine Ru_iload_n (pc := 62) dX11_done_62 rfl rfl ?_
        refine Ru_cv4 (pc := 63) dX11_done_63 mv_X11_371 rfl (by decide) (Nat.le_of_ble_eq_true rfl) (c_X1_doDay (s := s') (y := y') hu hx wf wj hpj hlw hwl (by omega) (by omega) (fun M9 gx9 hr9 => ?_)) 
        refine Ru_cv1 (pc := 66) dX11_done_66 mv_X11_170 rfl (by decide) (Nat.le_of_ble_eq_true rfl) (c_X11_tell ?_) 
        refine Ru_iret (pc := 69) dX11_done_69 rfl ⟨Nat.le_refl _, Nat.le_refl _⟩ ?_
        have e : g_done d (nI s') (nI y') = ((nI (jX d s' 0).2.1), 0) := by
          unfold g_done
          rw [if_neg (by omega), if_neg (by omega), if_neg (by omega), r_tnn (show s' < 2147483648 by omega)]
        have e2 : f_done d (nI s') (nI y') x = (true, fun t => nI (jSn d s' y' 0 t)) := by
          unfold f_done
          rw [if_neg (by omega), if_neg (by omega), if_neg (by omega), r_tnn (show s' < 2147483648 by omega), r_tnn (show y' < 2147483648 by omega)]
        rw [e, e2] at k
        exact k _ (r_fx.sI rfl (gx9.mono rfl)) r_sI_s ((X_th_dp _).kp (F := [(0, 0)]) (A := []) (r_fx.sI rfl r_fx.rf) rfl hr9)
      · refine Ru_aload_n (pc := 41) dX11_done_41 rfl rfl ?_
        refine Ru_bipush (pc := 42) (nI 8) dX11_done_42 rfl ?_
        refine Ru_cv1 (pc := 44) dX11_done_44 mv_X11_112 rfl (by decide) (Nat.le_of_ble_eq_true rfl) (c_X11_fail ?_) 
        refine Ru_iret (pc := 47) dX11_done_47 rfl ⟨Nat.le_refl _, Nat.le_refl _⟩ ?_
        have e : g_done d (nI s') (nI y') = (-1, 8) := by
          unfold g_done
          rw [if_neg (by omega), if_neg (by omega), if_pos (by omega)]
        have e2 : f_done d (nI s') (nI y') x = x := by
          unfold f_done
          rw [if_neg (by omega), if_neg (by omega), if_pos (by omega)]
        rw [e, e2] at k
        exact k _ (r_fx.sI rfl r_fx.rf) r_sI_s ((X_th_dp _).kp (F := [(0, 0)]) (A := []) (r_fx.sI rfl r_fx.rf) rfl hxx)
    · replace h2 := of_decide_eq_false h2
      refine Ru_aload_n (pc := 22) dX11_done_22 rfl rfl ?_
      refine Ru_iconst (pc := 23) (nI 5) dX11_done_23 rfl ?_
      refine Ru_cv1 (pc := 24) dX11_done_24 mv_X11_112 rfl (by decide) (Nat.le_of_ble_eq_true rfl) (c_X11_fail ?_) 
      refine Ru_iret (pc := 27) dX11_done_27 rfl ⟨Nat.le_refl _, Nat.le_refl _⟩ ?_
      have e : g_done d s y = (-1, 5) := by
        unfold g_done
        rw [if_neg (by omega), if_pos (by omega)]
      have e2 : f_done d s y x = x := by
        unfold f_done
        rw [if_neg (by omega), if_pos (by omega)]
      rw [e, e2] at k
      exact k _ (r_fx.sI rfl r_fx.rf) r_sI_s ((X_th_dp _).kp (F := [(0, 0)]) (A := []) (r_fx.sI rfl r_fx.rf) rfl hxx)
  · replace h1 := of_decide_eq_false h1
    refine Ru_aload_n (pc := 8) dX11_done_8 rfl rfl ?_
    refine Ru_iconst (pc := 9) (nI 2) dX11_done_9 rfl ?_
    refine Ru_cv1 (pc := 10) dX11_done_10 mv_X11_112 rfl (by decide) (Nat.le_of_ble_eq_true rfl) (c_X11_fail ?_) 
    refine Ru_iret (pc := 13) dX11_done_13 rfl ⟨Nat.le_refl _, Nat.le_refl _⟩ ?_
    have e : g_done d s y = (-1, 2) := by
      unfold g_done
      rw [if_pos (by omega)]
    have e2 : f_done d s y x = x := by
      unfold f_done
      rw [if_pos (by omega)]
    rw [e, e2] at k
    exact k _ (r_fx.sI rfl r_fx.rf) r_sI_s ((X_th_dp _).kp (F := [(0, 0)]) (A := []) (r_fx.sI rfl r_fx.rf) rfl hxx)

theorem c_X11_lives {Q : Rq} {M : Mem} {mk t lw pl : Nat} {d : Td} {n : Int32} {x : Tl} (hxx : X_lv x M) (hu : X_cu mk t lw pl d M) (hx : X_tm t d M) (hlw : X_lw lw d M) (wf : Wf d) (hwl : Wl d) (wj : Wj d) (wn : Wn d) (hpj : X_pj pl d M) (k : ∀ M', r_fx [(0, 0), (46, 0), (46, 2), (67, 2), (67, 3), (67, 6), (70, 0), (70, 1), (70, 2)] [47, 48, 69, 71, 72, 73, 74] M M' → M'.1 0 0 = nI (g_lives d n).2 → X_lv (f_lives d n x) M' → Q (some (.int (g_lives d n).1)) GX M') : Ca 6 mt_X11_lives 0 0 [.ref 0, .int n] GX M Q := by
  refine Ca_of rfl (Nat.le_of_ble_eq_true rfl) ?_
  have hb := wf.1
  have hp := pw_le hb.1
  have ht : isTown t := hu.1.2.2.2
  have em : (-1 : Int32).toInt = -1 := rfl
  have hT : t = 3 ∨ t = 83 ∨ t = 111 ∨ t = 139 ∨ t = 167 := ht
  have hlwi : isLaw lw := hu.2.1.2.1
  have hpl : isPlan pl := hu.2.2.2.1
  have hwn := wn.1
  refine Ru_iload_n (pc := 0) dX11_lives_0 rfl rfl ?_
  refine Ru_iconst (pc := 1) (nI 1) dX11_lives_1 rfl ?_
  refine Ru_icmp_ltL (pc := 2) 11 dX11_lives_2 (by decide) (by omega) (fun h1 => ?_) (fun h1 => ?_)
  · refine Ru_aload_n (pc := 11) dX11_lives_11 rfl rfl ?_
    refine Ru_iconst (pc := 12) (nI 5) dX11_lives_12 rfl ?_
    refine Ru_cv1 (pc := 13) dX11_lives_13 mv_X11_112 rfl (by decide) (Nat.le_of_ble_eq_true rfl) (c_X11_fail ?_) 
    refine Ru_iret (pc := 16) dX11_lives_16 rfl ⟨Nat.le_refl _, Nat.le_refl _⟩ ?_
    have e : g_lives d n = (-1, 5) := by
      unfold g_lives
      rw [if_pos (by omega)]
    have e2 : f_lives d n x = x := by
      unfold f_lives
      rw [if_pos (by omega)]
    rw [e, e2] at k
    exact k _ (r_fx.sI rfl r_fx.rf) r_sI_s ((X_lv_dp _).kp (F := [(0, 0)]) (A := []) (r_fx.sI rfl r_fx.rf) rfl hxx)
  · refine Ru_iload_n (pc := 5) dX11_lives_5 rfl rfl ?_
    refine Ru_bipush (pc := 6) (nI 99) dX11_lives_6 rfl ?_
    refine Ru_icmp_leL (pc := 8) 17 dX11_lives_8 (by decide) (by omega) (fun h2 => ?_) (fun h2 => ?_)
    · obtain ⟨n', hn', rfl⟩ := r_nat (x := n) (n := 100) (by omega) (by omega)
      have en := r_tn (show n' < 2147483648 by omega)
      refine Ru_aload_n (pc := 17) dX11_lives_17 rfl rfl ?_
      refine Ru_cv0 (pc := 18) dX11_lives_18 mv_X11_154 rfl (by decide) (Nat.le_of_ble_eq_true rfl) (c_X11_now hu ?_) 
      refine Ru_getR (pc := 21) pl dX11_lives_21 fl_X11_190 (shTown_0 ht) rfl ((rfX_mut (shTown_0 ht) rfl).trans hu.2.2.1) ?_
      refine Ru_getI (pc := 24) dX11_lives_24 fl_X11_368 (shPlan_0 hpl) rfl ?_
      refine Ru_top hu.2.2.2.2.1 ?_
      refine Ru_if_neN (pc := 27) 37 dX11_lives_27 (by decide) (by omega) (fun h3 => ?_) (fun h3 => ?_)
      · refine Ru_aload_n (pc := 37) dX11_lives_37 rfl rfl ?_
        refine Ru_aload_n (pc := 38) dX11_lives_38 rfl rfl ?_
        refine Ru_getR (pc := 39) 67 dX11_lives_39 fl_X11_75 rfl rfl (rfX_of (o := 0) (j := 67) rfl rfl) ?_
        refine Ru_aload_n (pc := 42) dX11_lives_42 rfl rfl ?_
        refine Ru_cv0 (pc := 43) dX11_lives_43 mv_X11_154 rfl (by decide) (Nat.le_of_ble_eq_true rfl) (c_X11_now hu ?_) 
        refine Ru_aload_n (pc := 46) dX11_lives_46 rfl rfl ?_
        refine Ru_getR (pc := 47) 46 dX11_lives_47 fl_X11_54 rfl rfl (rfX_of (o := 0) (j := 46) rfl rfl) ?_
        refine Ru_iload_n (pc := 50) dX11_lives_50 rfl rfl ?_
        refine Ru_iconst (pc := 51) (-1) dX11_lives_51 rfl ?_
        refine Ru_cv4 (pc := 52) dX11_lives_52 mv_X11_381 rfl (by decide) (Nat.le_of_ble_eq_true rfl) (c_X1_doDays_f (n9 := n') hu hx wf wj hpj hlw hwl (by omega) (fun M9 gx9 hr9 => ?_)) 
        refine Ru_cv1 (pc := 55) dX11_lives_55 mv_X11_170 rfl (by decide) (Nat.le_of_ble_eq_true rfl) (c_X11_tell ?_) 
        refine Ru_iret (pc := 58) dX11_lives_58 rfl ⟨Nat.le_refl _, Nat.le_refl _⟩ ?_
        have e : g_lives d (nI n') = ((nI (jV d false 0 n').1.2.2), 0) := by
          unfold g_lives
          rw [if_neg (by omega), if_neg (by omega), r_tnn (show n' < 2147483648 by omega)]
        have e2 : f_lives d (nI n') x = f_lv (jV d false 0 n') := by
          unfold f_lives
          rw [if_neg (by omega), if_neg (by omega), r_tnn (show n' < 2147483648 by omega)]
        rw [e, e2] at k
        exact k _ (r_fx.sI rfl (gx9.mono rfl)) r_sI_s ((X_lv_dp _).kp (F := [(0, 0)]) (A := []) (r_fx.sI rfl r_fx.rf) rfl hr9)
      · refine Ru_aload_n (pc := 30) dX11_lives_30 rfl rfl ?_
        refine Ru_bipush (pc := 31) (nI 8) dX11_lives_31 rfl ?_
        refine Ru_cv1 (pc := 33) dX11_lives_33 mv_X11_112 rfl (by decide) (Nat.le_of_ble_eq_true rfl) (c_X11_fail ?_) 
        refine Ru_iret (pc := 36) dX11_lives_36 rfl ⟨Nat.le_refl _, Nat.le_refl _⟩ ?_
        have e : g_lives d (nI n') = (-1, 8) := by
          unfold g_lives
          rw [if_neg (by omega), if_pos (by omega)]
        have e2 : f_lives d (nI n') x = x := by
          unfold f_lives
          rw [if_neg (by omega), if_pos (by omega)]
        rw [e, e2] at k
        exact k _ (r_fx.sI rfl r_fx.rf) r_sI_s ((X_lv_dp _).kp (F := [(0, 0)]) (A := []) (r_fx.sI rfl r_fx.rf) rfl hxx)
    · refine Ru_aload_n (pc := 11) dX11_lives_11 rfl rfl ?_
      refine Ru_iconst (pc := 12) (nI 5) dX11_lives_12 rfl ?_
      refine Ru_cv1 (pc := 13) dX11_lives_13 mv_X11_112 rfl (by decide) (Nat.le_of_ble_eq_true rfl) (c_X11_fail ?_) 
      refine Ru_iret (pc := 16) dX11_lives_16 rfl ⟨Nat.le_refl _, Nat.le_refl _⟩ ?_
      have e : g_lives d n = (-1, 5) := by
        unfold g_lives
        rw [if_pos (by omega)]
      have e2 : f_lives d n x = x := by
        unfold f_lives
        rw [if_pos (by omega)]
      rw [e, e2] at k
      exact k _ (r_fx.sI rfl r_fx.rf) r_sI_s ((X_lv_dp _).kp (F := [(0, 0)]) (A := []) (r_fx.sI rfl r_fx.rf) rfl hxx)

theorem c_X11_ill {Q : Rq} {M : Mem} {mk t lw pl : Nat} {d : Td} {s n : Int32} {x : Tl} (hxx : X_lv x M) (hu : X_cu mk t lw pl d M) (hx : X_tm t d M) (hlw : X_lw lw d M) (wf : Wf d) (hwl : Wl d) (wj : Wj d) (wn : Wn d) (hpj : X_pj pl d M) (k : ∀ M', r_fx [(0, 0), (46, 0), (46, 2), (67, 2), (67, 3), (67, 6), (70, 0), (70, 1), (70, 2)] [47, 48, 69, 71, 72, 73, 74] M M' → M'.1 0 0 = nI (g_ill d s n).2 → X_lv (f_ill d s n x) M' → Q (some (.int (g_ill d s n).1)) GX M') : Ca 6 mt_X11_ill 0 0 [.ref 0, .int s, .int n] GX M Q := by
  refine Ca_of rfl (Nat.le_of_ble_eq_true rfl) ?_
  have hb := wf.1
  have hp := pw_le hb.1
  have ht : isTown t := hu.1.2.2.2
  have em : (-1 : Int32).toInt = -1 := rfl
  have hT : t = 3 ∨ t = 83 ∨ t = 111 ∨ t = 139 ∨ t = 167 := ht
  have hlwi : isLaw lw := hu.2.1.2.1
  have hpl : isPlan pl := hu.2.2.2.1
  have hwn := wn.1
  refine Ru_iload_n (pc := 0) dX11_ill_0 rfl rfl ?_
  refine Ru_if_ltT (pc := 1) 22 dX11_ill_1 (by decide) (fun h1 => ?_) (fun h1 => ?_)
  · refine Ru_aload_n (pc := 22) dX11_ill_22 rfl rfl ?_
    refine Ru_iconst (pc := 23) (nI 5) dX11_ill_23 rfl ?_
    refine Ru_cv1 (pc := 24) dX11_ill_24 mv_X11_112 rfl (by decide) (Nat.le_of_ble_eq_true rfl) (c_X11_fail ?_) 
    refine Ru_iret (pc := 27) dX11_ill_27 rfl ⟨Nat.le_refl _, Nat.le_refl _⟩ ?_
    have e : g_ill d s n = (-1, 5) := by
      unfold g_ill
      rw [if_pos (by omega)]
    have e2 : f_ill d s n x = x := by
      unfold f_ill
      rw [if_pos (by omega)]
    rw [e, e2] at k
    exact k _ (r_fx.sI rfl r_fx.rf) r_sI_s ((X_lv_dp _).kp (F := [(0, 0)]) (A := []) (r_fx.sI rfl r_fx.rf) rfl hxx)
  · refine Ru_iload_n (pc := 4) dX11_ill_4 rfl rfl ?_
    refine Ru_sipush (pc := 5) (nI 9999) dX11_ill_5 rfl ?_
    refine Ru_icmp_gtL (pc := 8) 22 dX11_ill_8 (by decide) (by omega) (fun h2 => ?_) (fun h2 => ?_)
    · refine Ru_aload_n (pc := 22) dX11_ill_22 rfl rfl ?_
      refine Ru_iconst (pc := 23) (nI 5) dX11_ill_23 rfl ?_
      refine Ru_cv1 (pc := 24) dX11_ill_24 mv_X11_112 rfl (by decide) (Nat.le_of_ble_eq_true rfl) (c_X11_fail ?_) 
      refine Ru_iret (pc := 27) dX11_ill_27 rfl ⟨Nat.le_refl _, Nat.le_refl _⟩ ?_
      have e : g_ill d s n = (-1, 5) := by
        unfold g_ill
        rw [if_pos (by omega)]
      have e2 : f_ill d s n x = x := by
        unfold f_ill
        rw [if_pos (by omega)]
      rw [e, e2] at k
      exact k _ (r_fx.sI rfl r_fx.rf) r_sI_s ((X_lv_dp _).kp (F := [(0, 0)]) (A := []) (r_fx.sI rfl r_fx.rf) rfl hxx)
    · refine Ru_iload_n (pc := 11) dX11_ill_11 rfl rfl ?_
      refine Ru_iconst (pc := 12) (nI 1) dX11_ill_12 rfl ?_
      refine Ru_icmp_ltL (pc := 13) 22 dX11_ill_13 (by decide) (by omega) (fun h3 => ?_) (fun h3 => ?_)
      · refine Ru_aload_n (pc := 22) dX11_ill_22 rfl rfl ?_
        refine Ru_iconst (pc := 23) (nI 5) dX11_ill_23 rfl ?_
        refine Ru_cv1 (pc := 24) dX11_ill_24 mv_X11_112 rfl (by decide) (Nat.le_of_ble_eq_true rfl) (c_X11_fail ?_) 
        refine Ru_iret (pc := 27) dX11_ill_27 rfl ⟨Nat.le_refl _, Nat.le_refl _⟩ ?_
        have e : g_ill d s n = (-1, 5) := by
          unfold g_ill
          rw [if_pos (by omega)]
        have e2 : f_ill d s n x = x := by
          unfold f_ill
          rw [if_pos (by omega)]
        rw [e, e2] at k
        exact k _ (r_fx.sI rfl r_fx.rf) r_sI_s ((X_lv_dp _).kp (F := [(0, 0)]) (A := []) (r_fx.sI rfl r_fx.rf) rfl hxx)
      · refine Ru_iload_n (pc := 16) dX11_ill_16 rfl rfl ?_
        refine Ru_bipush (pc := 17) (nI 99) dX11_ill_17 rfl ?_
        refine Ru_icmp_leL (pc := 19) 28 dX11_ill_19 (by decide) (by omega) (fun h4 => ?_) (fun h4 => ?_)
        · obtain ⟨s', hs', rfl⟩ := r_nat (x := s) (n := 10000) (by omega) (by omega)
          have es := r_tn (show s' < 2147483648 by omega)
          obtain ⟨n', hn', rfl⟩ := r_nat (x := n) (n := 100) (by omega) (by omega)
          have en := r_tn (show n' < 2147483648 by omega)
          refine Ru_aload_n (pc := 28) dX11_ill_28 rfl rfl ?_
          refine Ru_cv0 (pc := 29) dX11_ill_29 mv_X11_154 rfl (by decide) (Nat.le_of_ble_eq_true rfl) (c_X11_now hu ?_) 
          refine Ru_getR (pc := 32) pl dX11_ill_32 fl_X11_190 (shTown_0 ht) rfl ((rfX_mut (shTown_0 ht) rfl).trans hu.2.2.1) ?_
          refine Ru_getI (pc := 35) dX11_ill_35 fl_X11_368 (shPlan_0 hpl) rfl ?_
          refine Ru_top hu.2.2.2.2.1 ?_
          refine Ru_if_neN (pc := 38) 48 dX11_ill_38 (by decide) (by omega) (fun h5 => ?_) (fun h5 => ?_)
          · refine Ru_aload_n (pc := 48) dX11_ill_48 rfl rfl ?_
            refine Ru_aload_n (pc := 49) dX11_ill_49 rfl rfl ?_
            refine Ru_getR (pc := 50) 67 dX11_ill_50 fl_X11_75 rfl rfl (rfX_of (o := 0) (j := 67) rfl rfl) ?_
            refine Ru_aload_n (pc := 53) dX11_ill_53 rfl rfl ?_
            refine Ru_cv0 (pc := 54) dX11_ill_54 mv_X11_154 rfl (by decide) (Nat.le_of_ble_eq_true rfl) (c_X11_now hu ?_) 
            refine Ru_aload_n (pc := 57) dX11_ill_57 rfl rfl ?_
            refine Ru_getR (pc := 58) 46 dX11_ill_58 fl_X11_54 rfl rfl (rfX_of (o := 0) (j := 46) rfl rfl) ?_
            refine Ru_iload_n (pc := 61) dX11_ill_61 rfl rfl ?_
            refine Ru_iload_n (pc := 62) dX11_ill_62 rfl rfl ?_
            refine Ru_cv4 (pc := 63) dX11_ill_63 mv_X11_381 rfl (by decide) (Nat.le_of_ble_eq_true rfl) (c_X1_doDays_t (n9 := n') (sd := s') hu hx wf wj hpj hlw hwl (by omega) (by omega) (fun M9 gx9 hr9 => ?_)) 
            refine Ru_cv1 (pc := 66) dX11_ill_66 mv_X11_170 rfl (by decide) (Nat.le_of_ble_eq_true rfl) (c_X11_tell ?_) 
            refine Ru_iret (pc := 69) dX11_ill_69 rfl ⟨Nat.le_refl _, Nat.le_refl _⟩ ?_
            have e : g_ill d (nI s') (nI n') = ((nI (jV d true s' n').1.2.2), 0) := by
              unfold g_ill
              rw [if_neg (by omega), if_neg (by omega), r_tnn (show s' < 2147483648 by omega), r_tnn (show n' < 2147483648 by omega)]
            have e2 : f_ill d (nI s') (nI n') x = f_lv (jV d true s' n') := by
              unfold f_ill
              rw [if_neg (by omega), if_neg (by omega), r_tnn (show s' < 2147483648 by omega), r_tnn (show n' < 2147483648 by omega)]
            rw [e, e2] at k
            exact k _ (r_fx.sI rfl (gx9.mono rfl)) r_sI_s ((X_lv_dp _).kp (F := [(0, 0)]) (A := []) (r_fx.sI rfl r_fx.rf) rfl hr9)
          · refine Ru_aload_n (pc := 41) dX11_ill_41 rfl rfl ?_
            refine Ru_bipush (pc := 42) (nI 8) dX11_ill_42 rfl ?_
            refine Ru_cv1 (pc := 44) dX11_ill_44 mv_X11_112 rfl (by decide) (Nat.le_of_ble_eq_true rfl) (c_X11_fail ?_) 
            refine Ru_iret (pc := 47) dX11_ill_47 rfl ⟨Nat.le_refl _, Nat.le_refl _⟩ ?_
            have e : g_ill d (nI s') (nI n') = (-1, 8) := by
              unfold g_ill
              rw [if_neg (by omega), if_pos (by omega)]
            have e2 : f_ill d (nI s') (nI n') x = x := by
              unfold f_ill
              rw [if_neg (by omega), if_pos (by omega)]
            rw [e, e2] at k
            exact k _ (r_fx.sI rfl r_fx.rf) r_sI_s ((X_lv_dp _).kp (F := [(0, 0)]) (A := []) (r_fx.sI rfl r_fx.rf) rfl hxx)
        · refine Ru_aload_n (pc := 22) dX11_ill_22 rfl rfl ?_
          refine Ru_iconst (pc := 23) (nI 5) dX11_ill_23 rfl ?_
          refine Ru_cv1 (pc := 24) dX11_ill_24 mv_X11_112 rfl (by decide) (Nat.le_of_ble_eq_true rfl) (c_X11_fail ?_) 
          refine Ru_iret (pc := 27) dX11_ill_27 rfl ⟨Nat.le_refl _, Nat.le_refl _⟩ ?_
          have e : g_ill d s n = (-1, 5) := by
            unfold g_ill
            rw [if_pos (by omega)]
          have e2 : f_ill d s n x = x := by
            unfold f_ill
            rw [if_pos (by omega)]
          rw [e, e2] at k
          exact k _ (r_fx.sI rfl r_fx.rf) r_sI_s ((X_lv_dp _).kp (F := [(0, 0)]) (A := []) (r_fx.sI rfl r_fx.rf) rfl hxx)

theorem c_X11_judged {Q : Rq} {M : Mem} {mk t lw pl : Nat} {d : Td} {w : Int32} (hu : X_cu mk t lw pl d M) (hx : X_tm t d M) (hlw : X_lw lw d M) (wf : Wf d) (hwl : Wl d) (wj : Wj d) (wn : Wn d) (hpj : X_pj pl d M) (k : ∀ M', r_fx [(0, 0), (46, 0), (46, 2), (67, 0), (67, 1), (67, 2), (67, 3), (70, 0), (70, 1), (70, 2)] [47, 48, 71, 72, 73, 74] M M' → M'.1 0 0 = nI (g_judged d w).2 → Q (some (.int (g_judged d w).1)) GX M') : Ca 6 mt_X11_judged 0 0 [.ref 0, .int w] GX M Q := by
  refine Ca_of rfl (Nat.le_of_ble_eq_true rfl) ?_
  have hb := wf.1
  have hp := pw_le hb.1
  have ht : isTown t := hu.1.2.2.2
  have em : (-1 : Int32).toInt = -1 := rfl
  have hT : t = 3 ∨ t = 83 ∨ t = 111 ∨ t = 139 ∨ t = 167 := ht
  have hlwi : isLaw lw := hu.2.1.2.1
  have hpl : isPlan pl := hu.2.2.2.1
  have hwn := wn.1
  refine Ru_iload_n (pc := 0) dX11_judged_0 rfl rfl ?_
  refine Ru_if_ltT (pc := 1) 9 dX11_judged_1 (by decide) (fun h1 => ?_) (fun h1 => ?_)
  · refine Ru_aload_n (pc := 9) dX11_judged_9 rfl rfl ?_
    refine Ru_iconst (pc := 10) (nI 5) dX11_judged_10 rfl ?_
    refine Ru_cv1 (pc := 11) dX11_judged_11 mv_X11_112 rfl (by decide) (Nat.le_of_ble_eq_true rfl) (c_X11_fail ?_) 
    refine Ru_iret (pc := 14) dX11_judged_14 rfl ⟨Nat.le_refl _, Nat.le_refl _⟩ ?_
    have e : g_judged d w = (-1, 5) := by
      unfold g_judged
      rw [if_pos (by omega)]
    rw [e] at k
    exact k _ (r_fx.sI rfl r_fx.rf) r_sI_s
  · refine Ru_iload_n (pc := 4) dX11_judged_4 rfl rfl ?_
    refine Ru_iconst (pc := 5) (nI 2) dX11_judged_5 rfl ?_
    refine Ru_icmp_leL (pc := 6) 15 dX11_judged_6 (by decide) (by omega) (fun h2 => ?_) (fun h2 => ?_)
    · obtain ⟨w', hw', rfl⟩ := r_nat (x := w) (n := 3) (by omega) (by omega)
      have ew := r_tn (show w' < 2147483648 by omega)
      have ew : (nI w').toInt = (w' : Int) := r_tn (by omega)
      refine Ru_aload_n (pc := 15) dX11_judged_15 rfl rfl ?_
      refine Ru_getR (pc := 16) 67 dX11_judged_16 fl_X11_75 rfl rfl (rfX_of (o := 0) (j := 67) rfl rfl) ?_
      refine Ru_aload_n (pc := 19) dX11_judged_19 rfl rfl ?_
      refine Ru_cv0 (pc := 20) dX11_judged_20 mv_X11_154 rfl (by decide) (Nat.le_of_ble_eq_true rfl) (c_X11_now hu ?_) 
      refine Ru_aload_n (pc := 23) dX11_judged_23 rfl rfl ?_
      refine Ru_getR (pc := 24) 46 dX11_judged_24 fl_X11_54 rfl rfl (rfX_of (o := 0) (j := 46) rfl rfl) ?_
      refine Ru_cv2 (pc := 27) dX11_judged_27 mv_X11_355 rfl (by decide) (Nat.le_of_ble_eq_true rfl) (c_X1_judge hu hx wf wj hpj hlw hwl (fun M9 gx9 hr9 => ?_)) 
      rcases hr9 with ⟨n9, hn9, hF9, hv9, hj9⟩ | ⟨hF9, hl9, hv9⟩ | ⟨hF9, hl9, hv9, hj9, ht9, hb9⟩
      · have hW9 := jW_le d n9
        have hnz := jF_nz hF9
        refine Ru_iload_n (pc := 30) dX11_judged_30 rfl rfl ?_
        refine Ru_if_neN (pc := 31) 46 dX11_judged_31 (by decide) (by omega) (fun h1 => ?_) (fun h1 => ?_)
        · refine Ru_iload_n (pc := 46) dX11_judged_46 rfl rfl ?_
          refine Ru_iconst (pc := 47) (nI 1) dX11_judged_47 rfl ?_
          refine Ru_icmp_neN (pc := 48) 82 dX11_judged_48 (by decide) (by omega) (fun h2 => ?_) (fun h2 => ?_)
          · refine Ru_aload_n (pc := 82) dX11_judged_82 rfl rfl ?_
            refine Ru_getR (pc := 83) 67 dX11_judged_83 fl_X11_75 rfl rfl (rfX_of (o := 0) (j := 67) rfl rfl) ?_
            refine Ru_getI (pc := 86) dX11_judged_86 fl_X11_359 rfl rfl ?_
            refine Ru_top hv9 ?_
            refine Ru_bipush (pc := 89) (nI 6) dX11_judged_89 rfl ?_
            refine Ru_icmp_neN (pc := 91) 108 dX11_judged_91 (by decide) (by omega) (fun h3 => ?_) (fun h3 => ?_)
            · refine Ru_aload_n (pc := 108) dX11_judged_108 rfl rfl ?_
              refine Ru_bipush (pc := 109) (nI 8) dX11_judged_109 rfl ?_
              refine Ru_cv1 (pc := 111) dX11_judged_111 mv_X11_112 rfl (by decide) (Nat.le_of_ble_eq_true rfl) (c_X11_fail ?_) 
              refine Ru_iret (pc := 114) dX11_judged_114 rfl ⟨Nat.le_refl _, Nat.le_refl _⟩ ?_
              have e : g_judged d (nI w') = (-1, 8) := by
                unfold g_judged
                rw [if_neg (by omega), if_pos (by omega), hF9, Nat.add_sub_cancel, ew]
                rw [if_neg (by omega), if_neg (by omega)]
              rw [e] at k
              exact k _ (r_fx.sI rfl (gx9.mono rfl)) r_sI_s
            · exfalso
              omega
          · refine Ru_aload_n (pc := 51) dX11_judged_51 rfl rfl ?_
            refine Ru_getR (pc := 52) 67 dX11_judged_52 fl_X11_75 rfl rfl (rfX_of (o := 0) (j := 67) rfl rfl) ?_
            refine Ru_getI (pc := 55) dX11_judged_55 fl_X11_359 rfl rfl ?_
            refine Ru_top hv9 ?_
            refine Ru_if_neN (pc := 58) 70 dX11_judged_58 (by decide) (by omega) (fun h4 => ?_) (fun h4 => ?_)
            · refine Ru_aload_n (pc := 70) dX11_judged_70 rfl rfl ?_
              refine Ru_aload_n (pc := 71) dX11_judged_71 rfl rfl ?_
              refine Ru_getR (pc := 72) 67 dX11_judged_72 fl_X11_75 rfl rfl (rfX_of (o := 0) (j := 67) rfl rfl) ?_
              refine Ru_getI (pc := 75) dX11_judged_75 fl_X11_362 rfl rfl ?_
              refine Ru_top hj9 ?_
              refine Ru_cv1 (pc := 78) dX11_judged_78 mv_X11_170 rfl (by decide) (Nat.le_of_ble_eq_true rfl) (c_X11_tell ?_) 
              refine Ru_iret (pc := 81) dX11_judged_81 rfl ⟨Nat.le_refl _, Nat.le_refl _⟩ ?_
              have e : g_judged d (nI w') = ((nI n9), 0) := by
                unfold g_judged
                rw [if_neg (by omega), if_pos (by omega), hF9, Nat.add_sub_cancel, ew]
                rw [if_neg (by omega), if_pos (by omega)]
              rw [e] at k
              exact k _ (r_fx.sI rfl (gx9.mono rfl)) r_sI_s
            · exact absurd h4 hnz
        · refine Ru_aload_n (pc := 34) dX11_judged_34 rfl rfl ?_
          refine Ru_aload_n (pc := 35) dX11_judged_35 rfl rfl ?_
          refine Ru_getR (pc := 36) 67 dX11_judged_36 fl_X11_75 rfl rfl (rfX_of (o := 0) (j := 67) rfl rfl) ?_
          refine Ru_getI (pc := 39) dX11_judged_39 fl_X11_359 rfl rfl ?_
          refine Ru_top hv9 ?_
          refine Ru_cv1 (pc := 42) dX11_judged_42 mv_X11_170 rfl (by decide) (Nat.le_of_ble_eq_true rfl) (c_X11_tell ?_) 
          refine Ru_iret (pc := 45) dX11_judged_45 rfl ⟨Nat.le_refl _, Nat.le_refl _⟩ ?_
          have e : g_judged d (nI w') = ((nI (jW d n9)), 0) := by
            unfold g_judged
            rw [if_neg (by omega), if_pos (by omega), hF9, Nat.add_sub_cancel, ew]
            rw [if_pos (by omega)]
          rw [e] at k
          exact k _ (r_fx.sI rfl (gx9.mono rfl)) r_sI_s
      · refine Ru_iload_n (pc := 30) dX11_judged_30 rfl rfl ?_
        refine Ru_if_neN (pc := 31) 46 dX11_judged_31 (by decide) (by omega) (fun h1 => ?_) (fun h1 => ?_)
        · refine Ru_iload_n (pc := 46) dX11_judged_46 rfl rfl ?_
          refine Ru_iconst (pc := 47) (nI 1) dX11_judged_47 rfl ?_
          refine Ru_icmp_neN (pc := 48) 82 dX11_judged_48 (by decide) (by omega) (fun h2 => ?_) (fun h2 => ?_)
          · refine Ru_aload_n (pc := 82) dX11_judged_82 rfl rfl ?_
            refine Ru_getR (pc := 83) 67 dX11_judged_83 fl_X11_75 rfl rfl (rfX_of (o := 0) (j := 67) rfl rfl) ?_
            refine Ru_getI (pc := 86) dX11_judged_86 fl_X11_359 rfl rfl ?_
            refine Ru_top hv9 ?_
            refine Ru_bipush (pc := 89) (nI 6) dX11_judged_89 rfl ?_
            refine Ru_icmp_neN (pc := 91) 108 dX11_judged_91 (by decide) (by omega) (fun h3 => ?_) (fun h3 => ?_)
            · refine Ru_aload_n (pc := 108) dX11_judged_108 rfl rfl ?_
              refine Ru_bipush (pc := 109) (nI 8) dX11_judged_109 rfl ?_
              refine Ru_cv1 (pc := 111) dX11_judged_111 mv_X11_112 rfl (by decide) (Nat.le_of_ble_eq_true rfl) (c_X11_fail ?_) 
              refine Ru_iret (pc := 114) dX11_judged_114 rfl ⟨Nat.le_refl _, Nat.le_refl _⟩ ?_
              have e : g_judged d (nI w') = (-1, 8) := by
                unfold g_judged
                rw [if_neg (by omega), if_neg (by omega), if_pos hl9, ew]
                rw [if_neg (by omega)]
              rw [e] at k
              exact k _ (r_fx.sI rfl (gx9.mono rfl)) r_sI_s
            · exfalso
              omega
          · refine Ru_aload_n (pc := 51) dX11_judged_51 rfl rfl ?_
            refine Ru_getR (pc := 52) 67 dX11_judged_52 fl_X11_75 rfl rfl (rfX_of (o := 0) (j := 67) rfl rfl) ?_
            refine Ru_getI (pc := 55) dX11_judged_55 fl_X11_359 rfl rfl ?_
            refine Ru_top hv9 ?_
            refine Ru_if_neN (pc := 58) 70 dX11_judged_58 (by decide) (by omega) (fun h4 => ?_) (fun h4 => ?_)
            · exfalso
              omega
            · refine Ru_aload_n (pc := 61) dX11_judged_61 rfl rfl ?_
              refine Ru_bipush (pc := 62) (nI 8) dX11_judged_62 rfl ?_
              refine Ru_cv1 (pc := 64) dX11_judged_64 mv_X11_112 rfl (by decide) (Nat.le_of_ble_eq_true rfl) (c_X11_fail ?_) 
              refine Ru_goto (pc := 67) 81 dX11_judged_67 (by decide) ?_
              refine Ru_iret (pc := 81) dX11_judged_81 rfl ⟨Nat.le_refl _, Nat.le_refl _⟩ ?_
              have e : g_judged d (nI w') = (-1, 8) := by
                unfold g_judged
                rw [if_neg (by omega), if_neg (by omega), if_pos hl9, ew]
                rw [if_neg (by omega)]
              rw [e] at k
              exact k _ (r_fx.sI rfl (gx9.mono rfl)) r_sI_s
        · refine Ru_aload_n (pc := 34) dX11_judged_34 rfl rfl ?_
          refine Ru_aload_n (pc := 35) dX11_judged_35 rfl rfl ?_
          refine Ru_getR (pc := 36) 67 dX11_judged_36 fl_X11_75 rfl rfl (rfX_of (o := 0) (j := 67) rfl rfl) ?_
          refine Ru_getI (pc := 39) dX11_judged_39 fl_X11_359 rfl rfl ?_
          refine Ru_top hv9 ?_
          refine Ru_cv1 (pc := 42) dX11_judged_42 mv_X11_170 rfl (by decide) (Nat.le_of_ble_eq_true rfl) (c_X11_tell ?_) 
          refine Ru_iret (pc := 45) dX11_judged_45 rfl ⟨Nat.le_refl _, Nat.le_refl _⟩ ?_
          have e : g_judged d (nI w') = ((nI 0), 0) := by
            unfold g_judged
            rw [if_neg (by omega), if_neg (by omega), if_pos hl9, ew]
            rw [if_pos (by omega)]
          rw [e] at k
          exact k _ (r_fx.sI rfl (gx9.mono rfl)) r_sI_s
      · obtain ⟨z9, hz9⟩ : ∃ z9, (jQ d 0 0).2.2.1 = z9 + 1 := ⟨(jQ d 0 0).2.2.1 - 1, by omega⟩
        rw [hz9] at hj9
        refine Ru_iload_n (pc := 30) dX11_judged_30 rfl rfl ?_
        refine Ru_if_neN (pc := 31) 46 dX11_judged_31 (by decide) (by omega) (fun h1 => ?_) (fun h1 => ?_)
        · refine Ru_iload_n (pc := 46) dX11_judged_46 rfl rfl ?_
          refine Ru_iconst (pc := 47) (nI 1) dX11_judged_47 rfl ?_
          refine Ru_icmp_neN (pc := 48) 82 dX11_judged_48 (by decide) (by omega) (fun h2 => ?_) (fun h2 => ?_)
          · refine Ru_aload_n (pc := 82) dX11_judged_82 rfl rfl ?_
            refine Ru_getR (pc := 83) 67 dX11_judged_83 fl_X11_75 rfl rfl (rfX_of (o := 0) (j := 67) rfl rfl) ?_
            refine Ru_getI (pc := 86) dX11_judged_86 fl_X11_359 rfl rfl ?_
            refine Ru_top hv9 ?_
            refine Ru_bipush (pc := 89) (nI 6) dX11_judged_89 rfl ?_
            refine Ru_icmp_neN (pc := 91) 108 dX11_judged_91 (by decide) (by omega) (fun h3 => ?_) (fun h3 => ?_)
            · exfalso
              omega
            · refine Ru_aload_n (pc := 94) dX11_judged_94 rfl rfl ?_
              refine Ru_aload_n (pc := 95) dX11_judged_95 rfl rfl ?_
              refine Ru_getR (pc := 96) 67 dX11_judged_96 fl_X11_75 rfl rfl (rfX_of (o := 0) (j := 67) rfl rfl) ?_
              refine Ru_getI (pc := 99) dX11_judged_99 fl_X11_365 rfl rfl ?_
              refine Ru_top ht9 ?_
              refine Ru_cv1 (pc := 102) dX11_judged_102 mv_X11_170 rfl (by decide) (Nat.le_of_ble_eq_true rfl) (c_X11_tell ?_) 
              refine Ru_goto (pc := 105) 114 dX11_judged_105 (by decide) ?_
              refine Ru_iret (pc := 114) dX11_judged_114 rfl ⟨Nat.le_refl _, Nat.le_refl _⟩ ?_
              have e : g_judged d (nI w') = ((nI (jQ d 0 0).2.2.2), 0) := by
                unfold g_judged
                rw [if_neg (by omega), if_neg (by omega), if_neg hl9, hz9, Nat.add_sub_cancel, ew]
                rw [if_neg (by omega), if_neg (by omega)]
              rw [e] at k
              exact k _ (r_fx.sI rfl (gx9.mono rfl)) r_sI_s
          · refine Ru_aload_n (pc := 51) dX11_judged_51 rfl rfl ?_
            refine Ru_getR (pc := 52) 67 dX11_judged_52 fl_X11_75 rfl rfl (rfX_of (o := 0) (j := 67) rfl rfl) ?_
            refine Ru_getI (pc := 55) dX11_judged_55 fl_X11_359 rfl rfl ?_
            refine Ru_top hv9 ?_
            refine Ru_if_neN (pc := 58) 70 dX11_judged_58 (by decide) (by omega) (fun h4 => ?_) (fun h4 => ?_)
            · refine Ru_aload_n (pc := 70) dX11_judged_70 rfl rfl ?_
              refine Ru_aload_n (pc := 71) dX11_judged_71 rfl rfl ?_
              refine Ru_getR (pc := 72) 67 dX11_judged_72 fl_X11_75 rfl rfl (rfX_of (o := 0) (j := 67) rfl rfl) ?_
              refine Ru_getI (pc := 75) dX11_judged_75 fl_X11_362 rfl rfl ?_
              refine Ru_top hj9 ?_
              refine Ru_cv1 (pc := 78) dX11_judged_78 mv_X11_170 rfl (by decide) (Nat.le_of_ble_eq_true rfl) (c_X11_tell ?_) 
              refine Ru_iret (pc := 81) dX11_judged_81 rfl ⟨Nat.le_refl _, Nat.le_refl _⟩ ?_
              have e : g_judged d (nI w') = ((nI z9), 0) := by
                unfold g_judged
                rw [if_neg (by omega), if_neg (by omega), if_neg hl9, hz9, Nat.add_sub_cancel, ew]
                rw [if_neg (by omega), if_pos (by omega)]
              rw [e] at k
              exact k _ (r_fx.sI rfl (gx9.mono rfl)) r_sI_s
            · exfalso
              omega
        · refine Ru_aload_n (pc := 34) dX11_judged_34 rfl rfl ?_
          refine Ru_aload_n (pc := 35) dX11_judged_35 rfl rfl ?_
          refine Ru_getR (pc := 36) 67 dX11_judged_36 fl_X11_75 rfl rfl (rfX_of (o := 0) (j := 67) rfl rfl) ?_
          refine Ru_getI (pc := 39) dX11_judged_39 fl_X11_359 rfl rfl ?_
          refine Ru_top hv9 ?_
          refine Ru_cv1 (pc := 42) dX11_judged_42 mv_X11_170 rfl (by decide) (Nat.le_of_ble_eq_true rfl) (c_X11_tell ?_) 
          refine Ru_iret (pc := 45) dX11_judged_45 rfl ⟨Nat.le_refl _, Nat.le_refl _⟩ ?_
          have e : g_judged d (nI w') = ((nI 6), 0) := by
            unfold g_judged
            rw [if_neg (by omega), if_neg (by omega), if_neg hl9, hz9, Nat.add_sub_cancel, ew]
            rw [if_pos (by omega)]
          rw [e] at k
          exact k _ (r_fx.sI rfl (gx9.mono rfl)) r_sI_s
    · refine Ru_aload_n (pc := 9) dX11_judged_9 rfl rfl ?_
      refine Ru_iconst (pc := 10) (nI 5) dX11_judged_10 rfl ?_
      refine Ru_cv1 (pc := 11) dX11_judged_11 mv_X11_112 rfl (by decide) (Nat.le_of_ble_eq_true rfl) (c_X11_fail ?_) 
      refine Ru_iret (pc := 14) dX11_judged_14 rfl ⟨Nat.le_refl _, Nat.le_refl _⟩ ?_
      have e : g_judged d w = (-1, 5) := by
        unfold g_judged
        rw [if_pos (by omega)]
      rw [e] at k
      exact k _ (r_fx.sI rfl r_fx.rf) r_sI_s
