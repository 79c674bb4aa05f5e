-- JUDGED, DONE, LIVES, ILL: the reference

theorem l_X12_done {Q : Rq} {M0 : Mem} {d : Td} {s' y' : Nat} (h21 : ∀ t, t < 25 → M0.1 21 t = nI (jSn d s' y' 0 t)) (k : ∀ M', (∀ t, t < 25 → M'.1 16 t = nI (jSn d s' y' 0 t)) → r_fx [] [16] M0 M' → Ru 6 mt_X12_done r_z 103 [(0, some (.ref 0)), (1, some (.int (nI s'))), (2, some (.int (nI y'))), (3, some (.int (nI (jNt d y' (jQ d s' 0)))))] [] GY M' Q) : ∀ (zw : Nat) (n : Nat) (M : Mem), 25 - n = zw → (n ≤ 25) → (∀ t, t < n → M.1 16 t = nI (jSn d s' y' 0 t)) → (r_fx [] [16] M0 M) → Ru 6 mt_X12_done r_z 76 [(0, some (.ref 0)), (1, some (.int (nI s'))), (2, some (.int (nI y'))), (3, some (.int (nI (jNt d y' (jQ d s' 0))))), (4, some (.int (nI n)))] [] GY M Q := by
  intro zw
  induction zw using Nat.strongRecOn with
  | ind zw ih =>
    intro n M hw hn h16 fx
    subst hw
    refine Ru_iload (pc := 76) dX12_done_76 rfl ?_
    refine Ru_bipush (pc := 78) (nI 25) dX12_done_78 rfl ?_
    refine Ru_icmp_geN (pc := 80) 103 dX12_done_80 (by decide) (by omega) (fun h1 => ?_) (fun h1 => ?_)
    · exact Ru_weak (k M (fun t ht => h16 t (by omega)) fx) rfl
    · refine Ru_aload_n (pc := 83) dX12_done_83 rfl rfl ?_
      refine Ru_getR (pc := 84) 16 dX12_done_84 fl_X12_69 rfl rfl rfl ?_
      refine Ru_iload (pc := 87) dX12_done_87 rfl ?_
      refine Ru_aload_n (pc := 89) dX12_done_89 rfl rfl ?_
      refine Ru_getR (pc := 90) 21 dX12_done_90 fl_X12_84 rfl rfl rfl ?_
      refine Ru_iload (pc := 93) dX12_done_93 rfl ?_
      refine Ru_iald (pc := 95) dX12_done_95 rfl (by omega) ?_
      refine Ru_top ((fx 21 n rfl).1.trans (h21 n (by omega))) ?_
      refine Ru_iast (pc := 96) rfl dX12_done_96 rfl (by omega) ?_
      refine Ru_iincN (pc := 97) 1 dX12_done_97 rfl rfl rfl (by decide) ?_
      refine Ru_goto (pc := 100) 76 dX12_done_100 (by decide) ?_
      refine Ru_weak (ih (25 - (n + 1)) (by omega) (n + 1) _ rfl (by omega) (fun i hi => ?_) (r_fx.sI rfl fx)) rfl
      rw [r_sI_g]
      by_cases e : i = n
      · subst e
        rw [if_pos ⟨rfl, rfl⟩]
      · rw [if_neg (fun z => e z.2)]
        exact h16 i (by omega)

theorem c_X12_done {Q : Rq} {M : Mem} {d : Td} {s y : Int32} {x : Tl} (hxx : Y_th x M) (hy : Y_tm 0 d M) (wf : Wf d) (hwl : Wl d) (wj : Wj d) (wn : Wn d) (hpj : Y_pj d M) (k : ∀ M', r_fx [(0, 0), (0, 1), (0, 29), (0, 43), (0, 45), (0, 46), (0, 47), (0, 52), (0, 53), (0, 54), (0, 55), (0, 56), (0, 57)] [7, 16, 20, 21] M M' → M'.1 0 0 = nI (g_done d s y).2 → Y_th (f_done d s y x) M' → Q (some (.int (g_done d s y).1)) GY M') : Ca 6 mt_X12_done 0 0 [.ref 0, .int s, .int y] GY M Q := by
  refine Ca_of rfl (Nat.le_of_ble_eq_true rfl) ?_
  have hb := wf.1
  have hp := pw_le hb.1
  have hc : ∀ k, k < 521 → M.1 5 k = nI (d k) := Y_tm_z hy
  have hwn := wn.1
  refine Ru_aload_n (pc := 0) dX12_done_0 rfl rfl ?_
  refine Ru_iconst (pc := 1) (nI 0) dX12_done_1 rfl ?_
  refine Ru_putI (pc := 2) rfl dX12_done_2 fl_X12_87 rfl ?_
  refine Ru_aload_n (pc := 5) dX12_done_5 rfl rfl ?_
  refine Ru_iconst (pc := 6) (nI 0) dX12_done_6 rfl ?_
  refine Ru_putI (pc := 7) rfl dX12_done_7 fl_X12_90 rfl ?_
  refine Ru_aload_n (pc := 10) dX12_done_10 rfl rfl ?_
  refine Ru_iload_n (pc := 11) dX12_done_11 rfl rfl ?_
  refine Ru_cv1 (pc := 12) dX12_done_12 mv_X12_386 rfl (by decide) (Nat.le_of_ble_eq_true rfl) (c_X12_isSet (fun k hk => ((r_sI_n (by omega)).trans ((r_sI_n (by omega)).trans (hc k hk)))) wf ?_) 
  refine Ru_if_neB (pc := 15) 24 dX12_done_15 (by decide) (fun h1 => ?_) (fun h1 => ?_)
  · replace h1 := of_decide_eq_true h1
    refine Ru_iload_n (pc := 24) dX12_done_24 rfl rfl ?_
    refine Ru_i2l (pc := 25) _ dX12_done_25 rfl ?_
    refine Ru_lconst (pc := 26) 0 dX12_done_26 rfl ?_
    refine Ru_ldc2 (pc := 27) dX12_done_27 tw_1894 ?_
    refine Ru_cs3 (pc := 30) dX12_done_30 ms_X12_122 (by decide) (Nat.le_of_ble_eq_true rfl) (c_X12_isIn (0) (999) rfl rfl ?_) 
    refine Ru_if_neB (pc := 33) 42 dX12_done_33 (by decide) (fun h2 => ?_) (fun h2 => ?_)
    · replace h2 := of_decide_eq_true h2
      obtain ⟨s', hs', rfl⟩ := r_nat (x := s) (n := 256) (by omega) (by omega)
      have es := r_tn (show s' < 2147483648 by omega)
      obtain ⟨y', hy', rfl⟩ := r_nat (x := y) (n := 1000) (by omega) (by omega)
      have ey := r_tn (show y' < 2147483648 by omega)
      refine Ru_aload_n (pc := 42) dX12_done_42 rfl rfl ?_
      refine Ru_getR (pc := 43) 5 dX12_done_43 fl_X12_35 rfl rfl rfl ?_
      refine Ru_sipush (pc := 46) (nI 520) dX12_done_46 rfl ?_
      refine Ru_iald (pc := 49) dX12_done_49 rfl (by omega) ?_
      refine Ru_top ((r_sI_n (by decide)).trans ((r_sI_n (by decide)).trans (hc 520 (by omega)))) ?_
      refine Ru_if_neN (pc := 50) 60 dX12_done_50 (by decide) (by omega) (fun h3 => ?_) (fun h3 => ?_)
      · refine Ru_aload_n (pc := 60) dX12_done_60 rfl rfl ?_
        refine Ru_iconst (pc := 61) (nI 0) dX12_done_61 rfl ?_
        refine Ru_putI (pc := 62) rfl dX12_done_62 fl_X12_375 rfl ?_
        have fx1 : r_fx [(0, 0), (0, 1), (0, 29), (0, 43), (0, 45), (0, 46), (0, 47), (0, 52), (0, 53), (0, 54), (0, 55), (0, 56), (0, 57)] [7, 16, 20, 21] M (r_sI (r_sI (r_sI M 0 1 (nI 0)) 0 0 (nI 0)) 0 29 (nI 0)) := r_fx.sI rfl (r_fx.sI rfl (r_fx.sI rfl r_fx.rf))
        have hc1 : ∀ k, k < 521 → (r_sI (r_sI (r_sI M 0 1 (nI 0)) 0 0 (nI 0)) 0 29 (nI 0)).1 5 k = nI (d k) := fun k hk => (fx1 5 k rfl).1.trans (hc k hk)
        have hpj1 : Y_pj d (r_sI (r_sI (r_sI M 0 1 (nI 0)) 0 0 (nI 0)) 0 29 (nI 0)) := (Y_pj_dp d).kp fx1 rfl hpj
        have hst1 : (r_sI (r_sI (r_sI M 0 1 (nI 0)) 0 0 (nI 0)) 0 29 (nI 0)).1 0 0 = nI 0 := (r_sI_n (by omega)).trans r_sI_s
        refine Ru_aload_n (pc := 65) dX12_done_65 rfl rfl ?_
        refine Ru_iload_n (pc := 66) dX12_done_66 rfl rfl ?_
        refine Ru_iload_n (pc := 67) dX12_done_67 rfl rfl ?_
        refine Ru_iconst (pc := 68) (nI 0) dX12_done_68 rfl ?_
        refine Ru_cv3 (pc := 69) dX12_done_69 mv_X12_558 rfl (by decide) (Nat.le_of_ble_eq_true rfl) (c_X12_doDay (s := s') (y := y') (ill := 0) hc1 wf wj wn hwl hpj1 r_sI_s (by omega) (by omega) (by decide) (fun M2 gx2 k52 k53 k54 k55 k56 k21 => ?_)) 
        have fx2 : r_fx [(0, 0), (0, 1), (0, 29), (0, 43), (0, 45), (0, 46), (0, 47), (0, 52), (0, 53), (0, 54), (0, 55), (0, 56), (0, 57)] [7, 16, 20, 21] M M2 := fx1.tr (gx2.mono rfl)
        have hst2 : M2.1 0 0 = nI 0 := (gx2 0 0 rfl).1.trans hst1
        refine Ru_istore_n (pc := 72) dX12_done_72 rfl rfl (by decide) ?_
        refine Ru_iconst (pc := 73) (nI 0) dX12_done_73 rfl ?_
        refine Ru_istore (pc := 74) dX12_done_74 rfl (by decide) ?_
        refine Ru_weak (l_X12_done (s' := s') (y' := y') k21 (fun M3 h163 gx3 => ?_) 25 0 M2 rfl (Nat.zero_le _) (fun i hi => by omega) r_fx.rf) rfl
        have fx3 : r_fx [(0, 0), (0, 1), (0, 29), (0, 43), (0, 45), (0, 46), (0, 47), (0, 52), (0, 53), (0, 54), (0, 55), (0, 56), (0, 57)] [7, 16, 20, 21] M M3 := fx2.tr (gx3.mono rfl)
        have hst3 : M3.1 0 0 = nI 0 := (gx3 0 0 rfl).1.trans hst2
        have h523 : M3.1 0 52 = nI (jX d s' 0).2.1 := (gx3 0 52 rfl).1.trans k52
        have eS : jSn d s' y' 0 25 = jNt d y' (jQ d s' 0) := rfl
        refine Ru_aload_n (pc := 103) dX12_done_103 rfl rfl ?_
        refine Ru_getR (pc := 104) 16 dX12_done_104 fl_X12_69 rfl rfl rfl ?_
        refine Ru_bipush (pc := 107) (nI 25) dX12_done_107 rfl ?_
        refine Ru_iload_n (pc := 109) dX12_done_109 rfl rfl ?_
        refine Ru_iast (pc := 110) rfl dX12_done_110 rfl (by omega) ?_
        refine Ru_aload_n (pc := 111) dX12_done_111 rfl rfl ?_
        refine Ru_iconst (pc := 112) (nI 1) dX12_done_112 rfl ?_
        refine Ru_putZ (pc := 113) rfl dX12_done_113 fl_X12_561 rfl (Or.inr rfl) ?_
        refine Ru_aload_n (pc := 116) dX12_done_116 rfl rfl ?_
        refine Ru_getI (pc := 117) dX12_done_117 fl_X12_534 rfl rfl ?_
        refine Ru_top ((r_sI_n (by decide)).trans ((r_sI_n (by decide)).trans h523)) ?_
        refine Ru_iret (pc := 120) dX12_done_120 rfl ⟨Nat.le_refl _, Nat.le_refl _⟩ ?_
        have e : g_done d (nI s') (nI y') = ((nI (jX d s' 0).2.1), 0) := by
          unfold g_done
          rw [if_neg (by omega), if_neg (by omega), if_neg (by omega), r_tnn (show s' < 2147483648 by omega)]
        have e2 : f_done d (nI s') (nI y') x = (true, fun t => nI (jSn d s' y' 0 t)) := by
          unfold f_done
          rw [if_neg (by omega), if_neg (by omega), if_neg (by omega), r_tnn (show s' < 2147483648 by omega), r_tnn (show y' < 2147483648 by omega)]
        rw [e, e2] at k
        exact k _ (r_fx.sI rfl (r_fx.sI rfl fx3)) ((r_sI_n (by decide)).trans ((r_sI_n (by decide)).trans hst3)) ⟨r_sI_s, fun _ t ht9 => by
      rw [r_sI_n (by omega), r_sI_g]
      by_cases e9 : t = 25
      · subst e9
        rw [if_pos ⟨rfl, rfl⟩]
        rfl
      · rw [if_neg (fun z => e9 z.2)]
        exact h163 t (by omega)⟩
      · refine Ru_aload_n (pc := 53) dX12_done_53 rfl rfl ?_
        refine Ru_bipush (pc := 54) (nI 8) dX12_done_54 rfl ?_
        refine Ru_cv1 (pc := 56) dX12_done_56 mv_X12_351 rfl (by decide) (Nat.le_of_ble_eq_true rfl) (c_X12_refuse ?_) 
        refine Ru_iret (pc := 59) dX12_done_59 rfl ⟨Nat.le_refl _, Nat.le_refl _⟩ ?_
        have e : g_done d (nI s') (nI y') = (-1, 8) := by
          unfold g_done
          rw [if_neg (by omega), if_neg (by omega), if_pos (by omega)]
        have e2 : f_done d (nI s') (nI y') x = x := by
          unfold f_done
          rw [if_neg (by omega), if_neg (by omega), if_pos (by omega)]
        rw [e, e2] at k
        exact k _ (r_fx.sI rfl (r_fx.sI rfl (r_fx.sI rfl r_fx.rf))) r_sI_s ((Y_th_dp _).kp (F := [(0, 0), (0, 1)]) (A := []) (r_fx.sI rfl (r_fx.sI rfl (r_fx.sI rfl r_fx.rf))) rfl hxx)
    · replace h2 := of_decide_eq_false h2
      refine Ru_aload_n (pc := 36) dX12_done_36 rfl rfl ?_
      refine Ru_iconst (pc := 37) (nI 5) dX12_done_37 rfl ?_
      refine Ru_cv1 (pc := 38) dX12_done_38 mv_X12_351 rfl (by decide) (Nat.le_of_ble_eq_true rfl) (c_X12_refuse ?_) 
      refine Ru_iret (pc := 41) dX12_done_41 rfl ⟨Nat.le_refl _, Nat.le_refl _⟩ ?_
      have e : g_done d s y = (-1, 5) := by
        unfold g_done
        rw [if_neg (by omega), if_pos (by omega)]
      have e2 : f_done d s y x = x := by
        unfold f_done
        rw [if_neg (by omega), if_pos (by omega)]
      rw [e, e2] at k
      exact k _ (r_fx.sI rfl (r_fx.sI rfl (r_fx.sI rfl r_fx.rf))) r_sI_s ((Y_th_dp _).kp (F := [(0, 0), (0, 1)]) (A := []) (r_fx.sI rfl (r_fx.sI rfl (r_fx.sI rfl r_fx.rf))) rfl hxx)
  · replace h1 := of_decide_eq_false h1
    refine Ru_aload_n (pc := 18) dX12_done_18 rfl rfl ?_
    refine Ru_iconst (pc := 19) (nI 2) dX12_done_19 rfl ?_
    refine Ru_cv1 (pc := 20) dX12_done_20 mv_X12_351 rfl (by decide) (Nat.le_of_ble_eq_true rfl) (c_X12_refuse ?_) 
    refine Ru_iret (pc := 23) dX12_done_23 rfl ⟨Nat.le_refl _, Nat.le_refl _⟩ ?_
    have e : g_done d s y = (-1, 2) := by
      unfold g_done
      rw [if_pos (by omega)]
    have e2 : f_done d s y x = x := by
      unfold f_done
      rw [if_pos (by omega)]
    rw [e, e2] at k
    exact k _ (r_fx.sI rfl (r_fx.sI rfl (r_fx.sI rfl r_fx.rf))) r_sI_s ((Y_th_dp _).kp (F := [(0, 0), (0, 1)]) (A := []) (r_fx.sI rfl (r_fx.sI rfl (r_fx.sI rfl r_fx.rf))) rfl hxx)

theorem c_X12_lives {Q : Rq} {M : Mem} {d : Td} {n : Int32} {x : Tl} (hxx : Y_lv x M) (hy : Y_tm 0 d M) (wf : Wf d) (hwl : Wl d) (wj : Wj d) (wn : Wn d) (hpj : Y_pj d M) (k : ∀ M', r_fx [(0, 0), (0, 1), (0, 29), (0, 38), (0, 39), (0, 40), (0, 41), (0, 44), (0, 45), (0, 46), (0, 47), (0, 52), (0, 53), (0, 54), (0, 55), (0, 56), (0, 57), (0, 59)] [7, 20, 21] M M' → M'.1 0 0 = nI (g_lives d n).2 → Y_lv (f_lives d n x) M' → Q (some (.int (g_lives d n).1)) GY M') : Ca 6 mt_X12_lives 0 0 [.ref 0, .int n] GY M Q := by
  refine Ca_of rfl (Nat.le_of_ble_eq_true rfl) ?_
  have hb := wf.1
  have hp := pw_le hb.1
  have hc : ∀ k, k < 521 → M.1 5 k = nI (d k) := Y_tm_z hy
  have hwn := wn.1
  refine Ru_aload_n (pc := 0) dX12_lives_0 rfl rfl ?_
  refine Ru_iconst (pc := 1) (nI 0) dX12_lives_1 rfl ?_
  refine Ru_putI (pc := 2) rfl dX12_lives_2 fl_X12_87 rfl ?_
  refine Ru_aload_n (pc := 5) dX12_lives_5 rfl rfl ?_
  refine Ru_iconst (pc := 6) (nI 0) dX12_lives_6 rfl ?_
  refine Ru_putI (pc := 7) rfl dX12_lives_7 fl_X12_90 rfl ?_
  refine Ru_iload_n (pc := 10) dX12_lives_10 rfl rfl ?_
  refine Ru_i2l (pc := 11) _ dX12_lives_11 rfl ?_
  refine Ru_lconst (pc := 12) 1 dX12_lives_12 rfl ?_
  refine Ru_ldc2 (pc := 13) dX12_lives_13 tw_2061 ?_
  refine Ru_cs3 (pc := 16) dX12_lives_16 ms_X12_122 (by decide) (Nat.le_of_ble_eq_true rfl) (c_X12_isIn (1) (99) rfl rfl ?_) 
  refine Ru_if_neB (pc := 19) 28 dX12_lives_19 (by decide) (fun h1 => ?_) (fun h1 => ?_)
  · replace h1 := of_decide_eq_true h1
    obtain ⟨n', hn', rfl⟩ := r_nat (x := n) (n := 100) (by omega) (by omega)
    have en := r_tn (show n' < 2147483648 by omega)
    refine Ru_aload_n (pc := 28) dX12_lives_28 rfl rfl ?_
    refine Ru_getR (pc := 29) 5 dX12_lives_29 fl_X12_35 rfl rfl rfl ?_
    refine Ru_sipush (pc := 32) (nI 520) dX12_lives_32 rfl ?_
    refine Ru_iald (pc := 35) dX12_lives_35 rfl (by omega) ?_
    refine Ru_top ((r_sI_n (by decide)).trans ((r_sI_n (by decide)).trans (hc 520 (by omega)))) ?_
    refine Ru_if_neN (pc := 36) 48 dX12_lives_36 (by decide) (by omega) (fun h2 => ?_) (fun h2 => ?_)
    · have fx1 : r_fx [(0, 0), (0, 1), (0, 29), (0, 38), (0, 39), (0, 40), (0, 41), (0, 44), (0, 45), (0, 46), (0, 47), (0, 52), (0, 53), (0, 54), (0, 55), (0, 56), (0, 57), (0, 59)] [7, 20, 21] M (r_sI (r_sI M 0 1 (nI 0)) 0 0 (nI 0)) := (r_fx.sI rfl (r_fx.sI rfl r_fx.rf))
      have hc1 : ∀ k, k < 521 → (r_sI (r_sI M 0 1 (nI 0)) 0 0 (nI 0)).1 5 k = nI (d k) := fun k hk => (fx1 5 k rfl).1.trans (hc k hk)
      have hpj1 : Y_pj d (r_sI (r_sI M 0 1 (nI 0)) 0 0 (nI 0)) := (Y_pj_dp d).kp fx1 rfl hpj
      have hst1 : (r_sI (r_sI M 0 1 (nI 0)) 0 0 (nI 0)).1 0 0 = nI 0 := r_sI_s
      refine Ru_aload_n (pc := 48) dX12_lives_48 rfl rfl ?_
      refine Ru_iload_n (pc := 49) dX12_lives_49 rfl rfl ?_
      refine Ru_iconst (pc := 50) (nI 0) dX12_lives_50 rfl ?_
      refine Ru_cv2 (pc := 51) dX12_lives_51 mv_X12_588 rfl (by decide) (Nat.le_of_ble_eq_true rfl) (c_X12_liveDays_f (n9 := n') hc1 wf wj wn hwl hpj1 (by omega) (fun M2 gx2 h29 hr9 => ?_)) 
      have fx2 : r_fx [(0, 0), (0, 1), (0, 29), (0, 38), (0, 39), (0, 40), (0, 41), (0, 44), (0, 45), (0, 46), (0, 47), (0, 52), (0, 53), (0, 54), (0, 55), (0, 56), (0, 57), (0, 59)] [7, 20, 21] M M2 := fx1.tr (gx2.mono rfl)
      have hst2 : M2.1 0 0 = nI 0 := (gx2 0 0 rfl).1.trans hst1
      refine Ru_iret (pc := 54) dX12_lives_54 rfl ⟨Nat.le_refl _, Nat.le_refl _⟩ ?_
      have e : g_lives d (nI n') = ((nI (jV d false 0 n').1.2.2), 0) := by
        unfold g_lives
        rw [if_neg (by omega), if_neg (by omega), r_tnn (show n' < 2147483648 by omega)]
      have e2 : f_lives d (nI n') x = f_lv (jV d false 0 n') := by
        unfold f_lives
        rw [if_neg (by omega), if_neg (by omega), r_tnn (show n' < 2147483648 by omega)]
      rw [e, e2] at k
      exact k _ fx2 hst2 hr9
    · refine Ru_aload_n (pc := 39) dX12_lives_39 rfl rfl ?_
      refine Ru_bipush (pc := 40) (nI 8) dX12_lives_40 rfl ?_
      refine Ru_cv1 (pc := 42) dX12_lives_42 mv_X12_351 rfl (by decide) (Nat.le_of_ble_eq_true rfl) (c_X12_refuse ?_) 
      refine Ru_goto (pc := 45) 54 dX12_lives_45 (by decide) ?_
      refine Ru_iret (pc := 54) dX12_lives_54 rfl ⟨Nat.le_refl _, Nat.le_refl _⟩ ?_
      have e : g_lives d (nI n') = (-1, 8) := by
        unfold g_lives
        rw [if_neg (by omega), if_pos (by omega)]
      have e2 : f_lives d (nI n') x = x := by
        unfold f_lives
        rw [if_neg (by omega), if_pos (by omega)]
      rw [e, e2] at k
      exact k _ (r_fx.sI rfl (r_fx.sI rfl (r_fx.sI rfl r_fx.rf))) r_sI_s ((Y_lv_dp _).kp (F := [(0, 0), (0, 1)]) (A := []) (r_fx.sI rfl (r_fx.sI rfl (r_fx.sI rfl r_fx.rf))) rfl hxx)
  · replace h1 := of_decide_eq_false h1
    refine Ru_aload_n (pc := 22) dX12_lives_22 rfl rfl ?_
    refine Ru_iconst (pc := 23) (nI 5) dX12_lives_23 rfl ?_
    refine Ru_cv1 (pc := 24) dX12_lives_24 mv_X12_351 rfl (by decide) (Nat.le_of_ble_eq_true rfl) (c_X12_refuse ?_) 
    refine Ru_iret (pc := 27) dX12_lives_27 rfl ⟨Nat.le_refl _, Nat.le_refl _⟩ ?_
    have e : g_lives d n = (-1, 5) := by
      unfold g_lives
      rw [if_pos (by omega)]
    have e2 : f_lives d n x = x := by
      unfold f_lives
      rw [if_pos (by omega)]
    rw [e, e2] at k
    exact k _ (r_fx.sI rfl (r_fx.sI rfl (r_fx.sI rfl r_fx.rf))) r_sI_s ((Y_lv_dp _).kp (F := [(0, 0), (0, 1)]) (A := []) (r_fx.sI rfl (r_fx.sI rfl (r_fx.sI rfl r_fx.rf))) rfl hxx)

theorem c_X12_ill {Q : Rq} {M : Mem} {d : Td} {s n : Int32} {x : Tl} (hxx : Y_lv x M) (hy : Y_tm 0 d M) (wf : Wf d) (hwl : Wl d) (wj : Wj d) (wn : Wn d) (hpj : Y_pj d M) (k : ∀ M', r_fx [(0, 0), (0, 1), (0, 29), (0, 38), (0, 39), (0, 40), (0, 41), (0, 44), (0, 45), (0, 46), (0, 47), (0, 52), (0, 53), (0, 54), (0, 55), (0, 56), (0, 57), (0, 59)] [7, 20, 21] M M' → M'.1 0 0 = nI (g_ill d s n).2 → Y_lv (f_ill d s n x) M' → Q (some (.int (g_ill d s n).1)) GY M') : Ca 6 mt_X12_ill 0 0 [.ref 0, .int s, .int n] GY M Q := by
  refine Ca_of rfl (Nat.le_of_ble_eq_true rfl) ?_
  have hb := wf.1
  have hp := pw_le hb.1
  have hc : ∀ k, k < 521 → M.1 5 k = nI (d k) := Y_tm_z hy
  have hwn := wn.1
  refine Ru_aload_n (pc := 0) dX12_ill_0 rfl rfl ?_
  refine Ru_iconst (pc := 1) (nI 0) dX12_ill_1 rfl ?_
  refine Ru_putI (pc := 2) rfl dX12_ill_2 fl_X12_87 rfl ?_
  refine Ru_aload_n (pc := 5) dX12_ill_5 rfl rfl ?_
  refine Ru_iconst (pc := 6) (nI 0) dX12_ill_6 rfl ?_
  refine Ru_putI (pc := 7) rfl dX12_ill_7 fl_X12_90 rfl ?_
  refine Ru_iload_n (pc := 10) dX12_ill_10 rfl rfl ?_
  refine Ru_i2l (pc := 11) _ dX12_ill_11 rfl ?_
  refine Ru_lconst (pc := 12) 0 dX12_ill_12 rfl ?_
  refine Ru_ldc2 (pc := 13) dX12_ill_13 tw_2073 ?_
  refine Ru_cs3 (pc := 16) dX12_ill_16 ms_X12_122 (by decide) (Nat.le_of_ble_eq_true rfl) (c_X12_isIn (0) (9999) rfl rfl ?_) 
  refine Ru_if_eqB (pc := 19) 34 dX12_ill_19 (by decide) (fun h1 => ?_) (fun h1 => ?_)
  · replace h1 := of_decide_eq_false h1
    refine Ru_aload_n (pc := 34) dX12_ill_34 rfl rfl ?_
    refine Ru_iconst (pc := 35) (nI 5) dX12_ill_35 rfl ?_
    refine Ru_cv1 (pc := 36) dX12_ill_36 mv_X12_351 rfl (by decide) (Nat.le_of_ble_eq_true rfl) (c_X12_refuse ?_) 
    refine Ru_iret (pc := 39) dX12_ill_39 rfl ⟨Nat.le_refl _, Nat.le_refl _⟩ ?_
    have e : g_ill d s n = (-1, 5) := by
      unfold g_ill
      rw [if_pos (by omega)]
    have e2 : f_ill d s n x = x := by
      unfold f_ill
      rw [if_pos (by omega)]
    rw [e, e2] at k
    exact k _ (r_fx.sI rfl (r_fx.sI rfl (r_fx.sI rfl r_fx.rf))) r_sI_s ((Y_lv_dp _).kp (F := [(0, 0), (0, 1)]) (A := []) (r_fx.sI rfl (r_fx.sI rfl (r_fx.sI rfl r_fx.rf))) rfl hxx)
  · replace h1 := of_decide_eq_true h1
    refine Ru_iload_n (pc := 22) dX12_ill_22 rfl rfl ?_
    refine Ru_i2l (pc := 23) _ dX12_ill_23 rfl ?_
    refine Ru_lconst (pc := 24) 1 dX12_ill_24 rfl ?_
    refine Ru_ldc2 (pc := 25) dX12_ill_25 tw_2061 ?_
    refine Ru_cs3 (pc := 28) dX12_ill_28 ms_X12_122 (by decide) (Nat.le_of_ble_eq_true rfl) (c_X12_isIn (1) (99) rfl rfl ?_) 
    refine Ru_if_neB (pc := 31) 40 dX12_ill_31 (by decide) (fun h2 => ?_) (fun h2 => ?_)
    · replace h2 := of_decide_eq_true h2
      obtain ⟨s', hs', rfl⟩ := r_nat (x := s) (n := 10000) (by omega) (by omega)
      have es := r_tn (show s' < 2147483648 by omega)
      obtain ⟨n', hn', rfl⟩ := r_nat (x := n) (n := 100) (by omega) (by omega)
      have en := r_tn (show n' < 2147483648 by omega)
      refine Ru_aload_n (pc := 40) dX12_ill_40 rfl rfl ?_
      refine Ru_getR (pc := 41) 5 dX12_ill_41 fl_X12_35 rfl rfl rfl ?_
      refine Ru_sipush (pc := 44) (nI 520) dX12_ill_44 rfl ?_
      refine Ru_iald (pc := 47) dX12_ill_47 rfl (by omega) ?_
      refine Ru_top ((r_sI_n (by decide)).trans ((r_sI_n (by decide)).trans (hc 520 (by omega)))) ?_
      refine Ru_if_neN (pc := 48) 58 dX12_ill_48 (by decide) (by omega) (fun h3 => ?_) (fun h3 => ?_)
      · refine Ru_aload_n (pc := 58) dX12_ill_58 rfl rfl ?_
        refine Ru_iload_n (pc := 59) dX12_ill_59 rfl rfl ?_
        refine Ru_putI (pc := 60) rfl dX12_ill_60 fl_X12_566 rfl ?_
        have fx1 : r_fx [(0, 0), (0, 1), (0, 29), (0, 38), (0, 39), (0, 40), (0, 41), (0, 44), (0, 45), (0, 46), (0, 47), (0, 52), (0, 53), (0, 54), (0, 55), (0, 56), (0, 57), (0, 59)] [7, 20, 21] M (r_sI (r_sI (r_sI M 0 1 (nI 0)) 0 0 (nI 0)) 0 59 (nI s')) := (r_fx.sI rfl (r_fx.sI rfl (r_fx.sI rfl r_fx.rf)))
        have hc1 : ∀ k, k < 521 → (r_sI (r_sI (r_sI M 0 1 (nI 0)) 0 0 (nI 0)) 0 59 (nI s')).1 5 k = nI (d k) := fun k hk => (fx1 5 k rfl).1.trans (hc k hk)
        have hpj1 : Y_pj d (r_sI (r_sI (r_sI M 0 1 (nI 0)) 0 0 (nI 0)) 0 59 (nI s')) := (Y_pj_dp d).kp fx1 rfl hpj
        have hst1 : (r_sI (r_sI (r_sI M 0 1 (nI 0)) 0 0 (nI 0)) 0 59 (nI s')).1 0 0 = nI 0 := ((r_sI_n (by decide)).trans r_sI_s)
        refine Ru_aload_n (pc := 63) dX12_ill_63 rfl rfl ?_
        refine Ru_iload_n (pc := 64) dX12_ill_64 rfl rfl ?_
        refine Ru_iconst (pc := 65) (nI 1) dX12_ill_65 rfl ?_
        refine Ru_cv2 (pc := 66) dX12_ill_66 mv_X12_588 rfl (by decide) (Nat.le_of_ble_eq_true rfl) (c_X12_liveDays_t (n9 := n') (sd := s') hc1 wf wj wn hwl hpj1 (by omega) (by omega) r_sI_s (fun M2 gx2 h29 hr9 => ?_)) 
        have fx2 : r_fx [(0, 0), (0, 1), (0, 29), (0, 38), (0, 39), (0, 40), (0, 41), (0, 44), (0, 45), (0, 46), (0, 47), (0, 52), (0, 53), (0, 54), (0, 55), (0, 56), (0, 57), (0, 59)] [7, 20, 21] M M2 := fx1.tr (gx2.mono rfl)
        have hst2 : M2.1 0 0 = nI 0 := (gx2 0 0 rfl).1.trans hst1
        refine Ru_iret (pc := 69) dX12_ill_69 rfl ⟨Nat.le_refl _, Nat.le_refl _⟩ ?_
        have e : g_ill d (nI s') (nI n') = ((nI (jV d true s' n').1.2.2), 0) := by
          unfold g_ill
          rw [if_neg (by omega), if_neg (by omega), r_tnn (show s' < 2147483648 by omega), r_tnn (show n' < 2147483648 by omega)]
        have e2 : f_ill d (nI s') (nI n') x = f_lv (jV d true s' n') := by
          unfold f_ill
          rw [if_neg (by omega), if_neg (by omega), r_tnn (show s' < 2147483648 by omega), r_tnn (show n' < 2147483648 by omega)]
        rw [e, e2] at k
        exact k _ fx2 hst2 hr9
      · refine Ru_aload_n (pc := 51) dX12_ill_51 rfl rfl ?_
        refine Ru_bipush (pc := 52) (nI 8) dX12_ill_52 rfl ?_
        refine Ru_cv1 (pc := 54) dX12_ill_54 mv_X12_351 rfl (by decide) (Nat.le_of_ble_eq_true rfl) (c_X12_refuse ?_) 
        refine Ru_iret (pc := 57) dX12_ill_57 rfl ⟨Nat.le_refl _, Nat.le_refl _⟩ ?_
        have e : g_ill d (nI s') (nI n') = (-1, 8) := by
          unfold g_ill
          rw [if_neg (by omega), if_pos (by omega)]
        have e2 : f_ill d (nI s') (nI n') x = x := by
          unfold f_ill
          rw [if_neg (by omega), if_pos (by omega)]
        rw [e, e2] at k
        exact k _ (r_fx.sI rfl (r_fx.sI rfl (r_fx.sI rfl r_fx.rf))) r_sI_s ((Y_lv_dp _).kp (F := [(0, 0), (0, 1)]) (A := []) (r_fx.sI rfl (r_fx.sI rfl (r_fx.sI rfl r_fx.rf))) rfl hxx)
    · replace h2 := of_decide_eq_false h2
      refine Ru_aload_n (pc := 34) dX12_ill_34 rfl rfl ?_
      refine Ru_iconst (pc := 35) (nI 5) dX12_ill_35 rfl ?_
      refine Ru_cv1 (pc := 36) dX12_ill_36 mv_X12_351 rfl (by decide) (Nat.le_of_ble_eq_true rfl) (c_X12_refuse ?_) 
      refine Ru_iret (pc := 39) dX12_ill_39 rfl ⟨Nat.le_refl _, Nat.le_refl _⟩ ?_
      have e : g_ill d s n = (-1, 5) := by
        unfold g_ill
        rw [if_pos (by omega)]
      have e2 : f_ill d s n x = x := by
        unfold f_ill
        rw [if_pos (by omega)]
      rw [e, e2] at k
      exact k _ (r_fx.sI rfl (r_fx.sI rfl (r_fx.sI rfl r_fx.rf))) r_sI_s ((Y_lv_dp _).kp (F := [(0, 0), (0, 1)]) (A := []) (r_fx.sI rfl (r_fx.sI rfl (r_fx.sI rfl r_fx.rf))) rfl hxx)

theorem l_X12_judged {Q : Rq} {M : Mem} {d : Td} {w' : Nat} (hc : ∀ k, k < 521 → M.1 5 k = nI (d k)) (wf : Wf d) (hwl : Wl d) (wj : Wj d) (wn : Wn d) (hpj : Y_pj d M) (hst0 : M.1 0 0 = nI 0) (hw' : w' < 3) (ew : (nI w').toInt = (w' : Int)) (k : ∀ M', r_fx [(0, 0), (0, 1), (0, 29), (0, 45), (0, 46), (0, 47), (0, 52), (0, 53), (0, 54), (0, 55), (0, 56), (0, 57)] [7, 20, 21] M M' → M'.1 0 0 = nI (g_judged d (nI w')).2 → Q (some (.int (g_judged d (nI w')).1)) GY M') : ∀ (zw : Nat) (n : Nat), d 4 - n = zw → (n ≤ d 4) → (jF d n = 0) → Ru 6 mt_X12_judged r_z 30 [(0, some (.ref 0)), (1, some (.int (nI w'))), (2, some (.int (nI n)))] [] GY M Q := by
  intro zw
  induction zw using Nat.strongRecOn with
  | ind zw ih =>
    intro n hw hn hF
    subst hw
    have hb := wf.1
    have hp := pw_le hb.1
    have fx0 : r_fx [(0, 0), (0, 1), (0, 29), (0, 45), (0, 46), (0, 47), (0, 52), (0, 53), (0, 54), (0, 55), (0, 56), (0, 57)] [7, 20, 21] M M := r_fx.rf
    refine Ru_iload_n (pc := 30) dX12_judged_30 rfl rfl ?_
    refine Ru_aload_n (pc := 31) dX12_judged_31 rfl rfl ?_
    refine Ru_getR (pc := 32) 5 dX12_judged_32 fl_X12_35 rfl rfl rfl ?_
    refine Ru_iconst (pc := 35) (nI 4) dX12_judged_35 rfl ?_
    refine Ru_iald (pc := 36) dX12_judged_36 rfl (by omega) ?_
    refine Ru_top (hc 4 (by omega)) ?_
    refine Ru_icmp_geN (pc := 37) 80 dX12_judged_37 (by decide) (by omega) (fun h1 => ?_) (fun h1 => ?_)
    · have hFe : jF d (d 4) = 0 := by
        have en : n = d 4 := by omega
        rw [← en]
        exact hF
      refine Ru_aload_n (pc := 80) dX12_judged_80 rfl rfl ?_
      refine Ru_iconst (pc := 81) (nI 0) dX12_judged_81 rfl ?_
      refine Ru_putI (pc := 82) rfl dX12_judged_82 fl_X12_375 rfl ?_
      have hFz : jF d (d 4) = 0 := hFe
      have fx1 : r_fx [(0, 0), (0, 1), (0, 29), (0, 45), (0, 46), (0, 47), (0, 52), (0, 53), (0, 54), (0, 55), (0, 56), (0, 57)] [7, 20, 21] M (r_sI M 0 29 (nI 0)) := r_fx.sI rfl r_fx.rf
      have hc1 : ∀ k, k < 521 → (r_sI M 0 29 (nI 0)).1 5 k = nI (d k) := fun k hk => (fx1 5 k rfl).1.trans (hc k hk)
      have hpj1 : Y_pj d (r_sI M 0 29 (nI 0)) := (Y_pj_dp d).kp fx1 rfl hpj
      have hst1 : (r_sI M 0 29 (nI 0)).1 0 0 = nI 0 := (r_sI_n (by omega)).trans hst0
      have hp0 := Nat.two_pow_pos (d 0)
      refine Ru_aload_n (pc := 85) dX12_judged_85 rfl rfl ?_
      refine Ru_iconst (pc := 86) (nI 0) dX12_judged_86 rfl ?_
      refine Ru_iconst (pc := 87) (nI 0) dX12_judged_87 rfl ?_
      refine Ru_iconst (pc := 88) (nI 0) dX12_judged_88 rfl ?_
      refine Ru_cv3 (pc := 89) dX12_judged_89 mv_X12_558 rfl (by decide) (Nat.le_of_ble_eq_true rfl) (c_X12_doDay (s := 0) (y := 0) (ill := 0) hc1 wf wj wn hwl hpj1 r_sI_s (by omega) (by omega) (by decide) (fun M2 gx2 k52 k53 k54 k55 k56 k21 => ?_)) 
      have fx2 : r_fx [(0, 0), (0, 1), (0, 29), (0, 45), (0, 46), (0, 47), (0, 52), (0, 53), (0, 54), (0, 55), (0, 56), (0, 57)] [7, 20, 21] M M2 := fx1.tr (gx2.mono rfl)
      have hst2 : M2.1 0 0 = nI 0 := (gx2 0 0 rfl).1.trans hst1
      refine Ru_pop (pc := 92) dX12_judged_92 rfl ?_
      refine Ru_aload_n (pc := 93) dX12_judged_93 rfl rfl ?_
      refine Ru_getI (pc := 94) dX12_judged_94 fl_X12_524 rfl rfl ?_
      refine Ru_top k55.1 ?_
      refine Ru_if_geT (pc := 97) 115 dX12_judged_97 (by decide) (fun h2 => ?_) (fun h2 => ?_)
      · have z9e : ¬ (jQ d 0 0).2.2.1 = 0 := by
          have z := nM_t (k := (jQ d 0 0).2.2.1) (by have := k55.2; omega)
          omega
        obtain ⟨z9, hz9⟩ : ∃ z9, (jQ d 0 0).2.2.1 = z9 + 1 := ⟨(jQ d 0 0).2.2.1 - 1, by omega⟩
        have k55b := k55.1
        rw [hz9] at k55b
        have k56b := k56 z9e
        refine Ru_iload_n (pc := 115) dX12_judged_115 rfl rfl ?_
        refine Ru_if_neN (pc := 116) 124 dX12_judged_116 (by decide) (by omega) (fun h3 => ?_) (fun h3 => ?_)
        · refine Ru_iload_n (pc := 124) dX12_judged_124 rfl rfl ?_
          refine Ru_iconst (pc := 125) (nI 1) dX12_judged_125 rfl ?_
          refine Ru_icmp_neN (pc := 126) 136 dX12_judged_126 (by decide) (by omega) (fun h4 => ?_) (fun h4 => ?_)
          · refine Ru_aload_n (pc := 136) dX12_judged_136 rfl rfl ?_
            refine Ru_getI (pc := 137) dX12_judged_137 fl_X12_527 rfl rfl ?_
            refine Ru_top k56b ?_
            refine Ru_iret (pc := 140) dX12_judged_140 rfl ⟨Nat.le_refl _, Nat.le_refl _⟩ ?_
            have e : g_judged d (nI w') = ((nI (jQ d 0 0).2.2.2), 0) := by
              unfold g_judged
              rw [if_neg (by omega), if_neg (by omega), if_neg (by omega), hz9, Nat.add_sub_cancel, ew]
              rw [if_neg (by omega), if_neg (by omega)]
            rw [e] at k
            exact k _ fx2 hst2
          · refine Ru_aload_n (pc := 129) dX12_judged_129 rfl rfl ?_
            refine Ru_getI (pc := 130) dX12_judged_130 fl_X12_524 rfl rfl ?_
            refine Ru_top k55b ?_
            refine Ru_goto (pc := 133) 140 dX12_judged_133 (by decide) ?_
            refine Ru_iret (pc := 140) dX12_judged_140 rfl ⟨Nat.le_refl _, Nat.le_refl _⟩ ?_
            have e : g_judged d (nI w') = ((nI z9), 0) := by
              unfold g_judged
              rw [if_neg (by omega), if_neg (by omega), if_neg (by omega), hz9, Nat.add_sub_cancel, ew]
              rw [if_neg (by omega), if_pos (by omega)]
            rw [e] at k
            exact k _ fx2 hst2
        · refine Ru_bipush (pc := 119) (nI 6) dX12_judged_119 rfl ?_
          refine Ru_goto (pc := 121) 140 dX12_judged_121 (by decide) ?_
          refine Ru_iret (pc := 140) dX12_judged_140 rfl ⟨Nat.le_refl _, Nat.le_refl _⟩ ?_
          have e : g_judged d (nI w') = ((nI 6), 0) := by
            unfold g_judged
            rw [if_neg (by omega), if_neg (by omega), if_neg (by omega), hz9, Nat.add_sub_cancel, ew]
            rw [if_pos (by omega)]
          rw [e] at k
          exact k _ fx2 hst2
      · have hlz : (jQ d 0 0).2.2.1 = 0 := by
          have z := nM_t (k := (jQ d 0 0).2.2.1) (by have := k55.2; omega)
          omega
        refine Ru_iload_n (pc := 100) dX12_judged_100 rfl rfl ?_
        refine Ru_if_neN (pc := 101) 108 dX12_judged_101 (by decide) (by omega) (fun h5 => ?_) (fun h5 => ?_)
        · refine Ru_aload_n (pc := 108) dX12_judged_108 rfl rfl ?_
          refine Ru_bipush (pc := 109) (nI 8) dX12_judged_109 rfl ?_
          refine Ru_cv1 (pc := 111) dX12_judged_111 mv_X12_351 rfl (by decide) (Nat.le_of_ble_eq_true rfl) (c_X12_refuse ?_) 
          refine Ru_iret (pc := 114) dX12_judged_114 rfl ⟨Nat.le_refl _, Nat.le_refl _⟩ ?_
          have e : g_judged d (nI w') = (-1, 8) := by
            unfold g_judged
            rw [if_neg (by omega), if_neg (by omega), if_pos hlz, ew]
            rw [if_neg (by omega)]
          rw [e] at k
          exact k _ (r_fx.sI rfl fx2) r_sI_s
        · refine Ru_iconst (pc := 104) (nI 0) dX12_judged_104 rfl ?_
          refine Ru_goto (pc := 105) 114 dX12_judged_105 (by decide) ?_
          refine Ru_iret (pc := 114) dX12_judged_114 rfl ⟨Nat.le_refl _, Nat.le_refl _⟩ ?_
          have e : g_judged d (nI w') = ((nI 0), 0) := by
            unfold g_judged
            rw [if_neg (by omega), if_neg (by omega), if_pos hlz, ew]
            rw [if_pos (by omega)]
          rw [e] at k
          exact k _ fx2 hst2
    · refine Ru_aload_n (pc := 40) dX12_judged_40 rfl rfl ?_
      refine Ru_iload_n (pc := 41) dX12_judged_41 rfl rfl ?_
      refine Ru_cv1 (pc := 42) dX12_judged_42 mv_X12_540 rfl (by decide) (Nat.le_of_ble_eq_true rfl) (c_X12_wrongOf hc wf wj hpj (j := n) (by omega) ?_) 
      refine Ru_istore_n (pc := 45) dX12_judged_45 rfl rfl (by decide) ?_
      refine Ru_iload_n (pc := 46) dX12_judged_46 rfl rfl ?_
      refine Ru_if_leN (pc := 47) 74 dX12_judged_47 (by decide) (by have := jW_le d n; omega) (fun h6 => ?_) (fun h6 => ?_)
      · refine Ru_iincN (pc := 74) 1 dX12_judged_74 rfl rfl rfl (by decide) ?_
        refine Ru_goto (pc := 77) 30 dX12_judged_77 (by decide) ?_
        exact Ru_weak (ih (d 4 - (n + 1)) (by omega) (n + 1) rfl (by omega) (jF_s hF (by omega))) rfl
      · refine Ru_iload_n (pc := 50) dX12_judged_50 rfl rfl ?_
        refine Ru_if_neN (pc := 51) 58 dX12_judged_51 (by decide) (by omega) (fun h7 => ?_) (fun h7 => ?_)
        · refine Ru_iload_n (pc := 58) dX12_judged_58 rfl rfl ?_
          refine Ru_iconst (pc := 59) (nI 1) dX12_judged_59 rfl ?_
          refine Ru_icmp_neN (pc := 60) 67 dX12_judged_60 (by decide) (by omega) (fun h8 => ?_) (fun h8 => ?_)
          · refine Ru_aload_n (pc := 67) dX12_judged_67 rfl rfl ?_
            refine Ru_bipush (pc := 68) (nI 8) dX12_judged_68 rfl ?_
            refine Ru_cv1 (pc := 70) dX12_judged_70 mv_X12_351 rfl (by decide) (Nat.le_of_ble_eq_true rfl) (c_X12_refuse ?_) 
            refine Ru_iret (pc := 73) dX12_judged_73 rfl ⟨Nat.le_refl _, Nat.le_refl _⟩ ?_
            have hF9 : jF d (d 4) = n + 1 := (jF_st (m := n + 1) (by rw [jF_f hF (by omega)]; omega) (d 4) (by omega)).trans (jF_f hF (by omega))
            have e : g_judged d (nI w') = (-1, 8) := by
              unfold g_judged
              rw [if_neg (by omega), if_pos (by omega), hF9, Nat.add_sub_cancel, ew]
              rw [if_neg (by omega), if_neg (by omega)]
            rw [e] at k
            exact k _ (r_fx.sI rfl fx0) r_sI_s
          · refine Ru_iload_n (pc := 63) dX12_judged_63 rfl rfl ?_
            refine Ru_goto (pc := 64) 73 dX12_judged_64 (by decide) ?_
            refine Ru_iret (pc := 73) dX12_judged_73 rfl ⟨Nat.le_refl _, Nat.le_refl _⟩ ?_
            have hF9 : jF d (d 4) = n + 1 := (jF_st (m := n + 1) (by rw [jF_f hF (by omega)]; omega) (d 4) (by omega)).trans (jF_f hF (by omega))
            have e : g_judged d (nI w') = ((nI n), 0) := by
              unfold g_judged
              rw [if_neg (by omega), if_pos (by omega), hF9, Nat.add_sub_cancel, ew]
              rw [if_neg (by omega), if_pos (by omega)]
            rw [e] at k
            exact k _ fx0 hst0
        · refine Ru_iload_n (pc := 54) dX12_judged_54 rfl rfl ?_
          refine Ru_goto (pc := 55) 73 dX12_judged_55 (by decide) ?_
          refine Ru_iret (pc := 73) dX12_judged_73 rfl ⟨Nat.le_refl _, Nat.le_refl _⟩ ?_
          have hF9 : jF d (d 4) = n + 1 := (jF_st (m := n + 1) (by rw [jF_f hF (by omega)]; omega) (d 4) (by omega)).trans (jF_f hF (by omega))
          have e : g_judged d (nI w') = ((nI (jW d n)), 0) := by
            unfold g_judged
            rw [if_neg (by omega), if_pos (by omega), hF9, Nat.add_sub_cancel, ew]
            rw [if_pos (by omega)]
          rw [e] at k
          exact k _ fx0 hst0

theorem c_X12_judged {Q : Rq} {M : Mem} {d : Td} {w : Int32} (hy : Y_tm 0 d M) (wf : Wf d) (hwl : Wl d) (wj : Wj d) (wn : Wn d) (hpj : Y_pj d M) (k : ∀ M', r_fx [(0, 0), (0, 1), (0, 29), (0, 45), (0, 46), (0, 47), (0, 52), (0, 53), (0, 54), (0, 55), (0, 56), (0, 57)] [7, 20, 21] M M' → M'.1 0 0 = nI (g_judged d w).2 → Q (some (.int (g_judged d w).1)) GY M') : Ca 6 mt_X12_judged 0 0 [.ref 0, .int w] GY M Q := by
  refine Ca_of rfl (Nat.le_of_ble_eq_true rfl) ?_
  have hb := wf.1
  have hp := pw_le hb.1
  have hc : ∀ k, k < 521 → M.1 5 k = nI (d k) := Y_tm_z hy
  have hwn := wn.1
  refine Ru_aload_n (pc := 0) dX12_judged_0 rfl rfl ?_
  refine Ru_iconst (pc := 1) (nI 0) dX12_judged_1 rfl ?_
  refine Ru_putI (pc := 2) rfl dX12_judged_2 fl_X12_87 rfl ?_
  refine Ru_aload_n (pc := 5) dX12_judged_5 rfl rfl ?_
  refine Ru_iconst (pc := 6) (nI 0) dX12_judged_6 rfl ?_
  refine Ru_putI (pc := 7) rfl dX12_judged_7 fl_X12_90 rfl ?_
  refine Ru_iload_n (pc := 10) dX12_judged_10 rfl rfl ?_
  refine Ru_i2l (pc := 11) _ dX12_judged_11 rfl ?_
  refine Ru_lconst (pc := 12) 0 dX12_judged_12 rfl ?_
  refine Ru_ldc2 (pc := 13) dX12_judged_13 tw_1858 ?_
  refine Ru_cs3 (pc := 16) dX12_judged_16 ms_X12_122 (by decide) (Nat.le_of_ble_eq_true rfl) (c_X12_isIn (0) (2) rfl rfl ?_) 
  refine Ru_if_neB (pc := 19) 28 dX12_judged_19 (by decide) (fun h1 => ?_) (fun h1 => ?_)
  · replace h1 := of_decide_eq_true h1
    obtain ⟨w', hw', rfl⟩ := r_nat (x := w) (n := 3) (by omega) (by omega)
    have ew := r_tn (show w' < 2147483648 by omega)
    have ew : (nI w').toInt = (w' : Int) := r_tn (by omega)
    refine Ru_iconst (pc := 28) (nI 0) dX12_judged_28 rfl ?_
    refine Ru_istore_n (pc := 29) dX12_judged_29 rfl rfl (by decide) ?_
    have fx1 : r_fx [(0, 0), (0, 1), (0, 29), (0, 45), (0, 46), (0, 47), (0, 52), (0, 53), (0, 54), (0, 55), (0, 56), (0, 57)] [7, 20, 21] M (r_sI (r_sI M 0 1 (nI 0)) 0 0 (nI 0)) := r_fx.sI rfl (r_fx.sI rfl r_fx.rf)
    refine Ru_weak (l_X12_judged (M := (r_sI (r_sI M 0 1 (nI 0)) 0 0 (nI 0))) (w' := w') (fun k hk => (fx1 5 k rfl).1.trans (hc k hk)) wf hwl wj wn ((Y_pj_dp d).kp fx1 rfl hpj) r_sI_s hw' ew (fun M2 gx2 h1 => k M2 (fx1.tr gx2) h1) (d 4) 0 rfl (Nat.zero_le _) rfl) rfl
  · replace h1 := of_decide_eq_false h1
    refine Ru_aload_n (pc := 22) dX12_judged_22 rfl rfl ?_
    refine Ru_iconst (pc := 23) (nI 5) dX12_judged_23 rfl ?_
    refine Ru_cv1 (pc := 24) dX12_judged_24 mv_X12_351 rfl (by decide) (Nat.le_of_ble_eq_true rfl) (c_X12_refuse ?_) 
    refine Ru_iret (pc := 27) dX12_judged_27 rfl ⟨Nat.le_refl _, Nat.le_refl _⟩ ?_
    have e : g_judged d w = (-1, 5) := by
      unfold g_judged
      rw [if_pos (by omega)]
    rw [e] at k
    exact k _ (r_fx.sI rfl (r_fx.sI rfl (r_fx.sI rfl r_fx.rf))) r_sI_s
