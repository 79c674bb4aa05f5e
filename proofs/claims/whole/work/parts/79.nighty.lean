-- NIGHT: the reference
theorem nM_c {w : Nat} (h : w < 2147483648) : ((nM w).toInt + 1).toNat = w := by
  rw [nM_t h]
  omega
theorem stays_eq {d : Td} {A s r w h v k : Nat} : (s.testBit k && (A.testBit k || (decide (d (21 + k) = 1) && (nFin d s r k).testBit (nWy k w h v)))) = (s.testBit k && (A.testBit k || (nS d s r k).testBit (nWy k w h v))) := by
  cases hb : s.testBit k
  · rfl
  · unfold nS
    by_cases e : d (21 + k) = 1
    · rw [if_pos ⟨hb, e⟩]
      simp [e]
    · rw [if_neg (fun z => e z.2)]
      simp [e]

theorem l_X12_staysOf {Q : Rq} {M0 : Mem} {d : Td} {s w h v y A : Nat} (hc0 : ∀ k, k < 521 → M0.1 5 k = nI (d k)) (wf : Wf d) (hs : s < 256) (hcd : w ≤ 8 ∧ h ≤ 8 ∧ v ≤ 8) (hy : y < 2000) (hA : A < 256) (hwl : Wl d) (hal0 : M0.1 0 29 = nI A) (k : ∀ M', r_fx [] [7] M0 M' → Q (some (.int (nI (stA d A s (y % 7) w h v)))) GY M') : ∀ (zw : Nat) (n : Nat) (M : Mem), d 0 - n = zw → (n ≤ d 0) → (r_fx [] [7] M0 M) → Ru 3 mt_X12_staysOf r_z 6 [(6, some (.int (nI (orB (fun k => s.testBit k && (A.testBit k || (nS d s (y % 7) k).testBit (nWy k w h v))) n)))), (7, some (.int (nI n))), (0, some (.ref 0)), (1, some (.int (nI s))), (2, some (.int (nM w))), (3, some (.int (nM h))), (4, some (.int (nM v))), (5, some (.int (nI y)))] [] GY M Q := by
  intro zw
  induction zw using Nat.strongRecOn with
  | ind zw ih =>
    intro n M hw hn fx
    subst hw
    have hb := wf.1
    have hc : ∀ k, k < 521 → M.1 5 k = nI (d k) := fun k hk => (fx 5 k rfl).1.trans (hc0 k hk)
    have hal : M.1 0 29 = nI A := (fx 0 29 rfl).1.trans hal0
    refine Ru_iload (pc := 6) dX12_staysOf_6 rfl ?_
    refine Ru_aload_n (pc := 8) dX12_staysOf_8 rfl rfl ?_
    refine Ru_getR (pc := 9) 5 dX12_staysOf_9 fl_X12_35 rfl rfl rfl ?_
    refine Ru_iconst (pc := 12) (nI 0) dX12_staysOf_12 rfl ?_
    refine Ru_iald (pc := 13) dX12_staysOf_13 rfl (by omega) ?_
    refine Ru_top (hc 0 (by omega)) ?_
    refine Ru_icmp_geN (pc := 14) 57 dX12_staysOf_14 (by decide) (by omega) (fun h1 => ?_) (fun h1 => ?_)
    · refine Ru_iload (pc := 57) dX12_staysOf_57 rfl ?_
      refine Ru_iret (pc := 59) dX12_staysOf_59 rfl ⟨Nat.le_refl _, Nat.le_refl _⟩ ?_
      have en : n = d 0 := by omega
      subst en
      exact k _ fx
    · refine Ru_iload_n (pc := 17) dX12_staysOf_17 rfl rfl ?_
      refine Ru_iload (pc := 18) dX12_staysOf_18 rfl ?_
      refine Ru_cs2 (pc := 20) dX12_staysOf_20 ms_X12_372 (by decide) (Nat.le_of_ble_eq_true rfl) (c_X12_has (by omega) (by omega) ?_) 
      refine Ru_if_eqB (pc := 23) 51 dX12_staysOf_23 (by decide) (fun h2 => ?_) (fun h2 => ?_)
      · refine Ru_iincN (pc := 51) 1 dX12_staysOf_51 rfl rfl rfl (by decide) ?_
        refine Ru_goto (pc := 54) 6 dX12_staysOf_54 (by decide) ?_
        have e : orB (fun k => s.testBit k && (A.testBit k || (nS d s (y % 7) k).testBit (nWy k w h v))) (n + 1) = (orB (fun k => s.testBit k && (A.testBit k || (nS d s (y % 7) k).testBit (nWy k w h v))) n) := by
          rw [orB]
          refine if_neg ?_
          show ¬((s.testBit n && (A.testBit n || (nS d s (y % 7) n).testBit (nWy n w h v))) = true)
          rw [← stays_eq]
          simp_all
        have hr := ih (d 0 - (n + 1)) (by omega) (n + 1) M rfl (by omega) fx
        rw [e] at hr
        exact Ru_weak hr rfl
      · refine Ru_aload_n (pc := 26) dX12_staysOf_26 rfl rfl ?_
        refine Ru_iload (pc := 27) dX12_staysOf_27 rfl ?_
        refine Ru_iload_n (pc := 29) dX12_staysOf_29 rfl rfl ?_
        refine Ru_iload_n (pc := 30) dX12_staysOf_30 rfl rfl ?_
        refine Ru_iload_n (pc := 31) dX12_staysOf_31 rfl rfl ?_
        refine Ru_iload (pc := 32) dX12_staysOf_32 rfl ?_
        refine Ru_iload (pc := 34) dX12_staysOf_34 rfl ?_
        refine Ru_cv6 (pc := 36) dX12_staysOf_36 mv_X12_382 rfl (by decide) (Nat.le_of_ble_eq_true rfl) (c_X12_stays hc wf hs (by omega) hcd hy hA hwl hal (fun M2 fx2 => ?_)) 
        have fx3 : r_fx [] [7] M0 M2 := fx.tr fx2
        refine Ru_if_eqB (pc := 39) 51 dX12_staysOf_39 (by decide) (fun h3 => ?_) (fun h3 => ?_)
        · refine Ru_iincN (pc := 51) 1 dX12_staysOf_51 rfl rfl rfl (by decide) ?_
          refine Ru_goto (pc := 54) 6 dX12_staysOf_54 (by decide) ?_
          have e : orB (fun k => s.testBit k && (A.testBit k || (nS d s (y % 7) k).testBit (nWy k w h v))) (n + 1) = (orB (fun k => s.testBit k && (A.testBit k || (nS d s (y % 7) k).testBit (nWy k w h v))) n) := by
            rw [orB]
            refine if_neg ?_
            show ¬((s.testBit n && (A.testBit n || (nS d s (y % 7) n).testBit (nWy n w h v))) = true)
            rw [← stays_eq]
            simp_all
          have hr := ih (d 0 - (n + 1)) (by omega) (n + 1) M2 rfl (by omega) fx3
          rw [e] at hr
          exact Ru_weak hr rfl
        · refine Ru_iload (pc := 42) dX12_staysOf_42 rfl ?_
          refine Ru_iconst (pc := 44) (nI 1) dX12_staysOf_44 rfl ?_
          refine Ru_iload (pc := 45) dX12_staysOf_45 rfl ?_
          refine Ru_ishl1N (pc := 47) dX12_staysOf_47 (by omega) ?_
          refine Ru_iorN (pc := 48) dX12_staysOf_48 ?_
          refine Ru_istore (pc := 49) dX12_staysOf_49 rfl (by decide) ?_
          refine Ru_iincN (pc := 51) 1 dX12_staysOf_51 rfl rfl rfl (by decide) ?_
          refine Ru_goto (pc := 54) 6 dX12_staysOf_54 (by decide) ?_
          have e : orB (fun k => s.testBit k && (A.testBit k || (nS d s (y % 7) k).testBit (nWy k w h v))) (n + 1) = ((orB (fun k => s.testBit k && (A.testBit k || (nS d s (y % 7) k).testBit (nWy k w h v))) n) ||| (2 ^ n)) := by
            rw [orB]
            refine if_pos ?_
            show ((s.testBit n && (A.testBit n || (nS d s (y % 7) n).testBit (nWy n w h v))) = true)
            rw [← stays_eq]
            simp_all
          have hr := ih (d 0 - (n + 1)) (by omega) (n + 1) M2 rfl (by omega) fx3
          rw [e] at hr
          exact Ru_weak hr rfl

theorem c_X12_staysOf {Q : Rq} {M : Mem} {d : Td} {s w h v y A : Nat} (hc0 : ∀ k, k < 521 → M.1 5 k = nI (d k)) (wf : Wf d) (hs : s < 256) (hcd : w ≤ 8 ∧ h ≤ 8 ∧ v ≤ 8) (hy : y < 2000) (hA : A < 256) (hwl : Wl d) (hal0 : M.1 0 29 = nI A) (k : ∀ M', r_fx [] [7] M M' → Q (some (.int (nI (stA d A s (y % 7) w h v)))) GY M') : Ca 3 mt_X12_staysOf 0 0 [.ref 0, .int (nI s), .int (nM w), .int (nM h), .int (nM v), .int (nI y)] GY M Q := by
  refine Ca_of rfl (Nat.le_of_ble_eq_true rfl) ?_
  refine Ru_iconst (pc := 0) (nI 0) dX12_staysOf_0 rfl ?_
  refine Ru_istore (pc := 1) dX12_staysOf_1 rfl (by decide) ?_
  refine Ru_iconst (pc := 3) (nI 0) dX12_staysOf_3 rfl ?_
  refine Ru_istore (pc := 4) dX12_staysOf_4 rfl (by decide) ?_
  exact Ru_weak (l_X12_staysOf hc0 wf hs hcd hy hA hwl hal0 k (d 0) 0 M rfl (Nat.zero_le _) r_fx.rf) rfl

theorem c_X12_night {Q : Rq} {M : Mem} {d : Td} {s w h v y : Int32} (hy : Y_tm 0 d M) (wf : Wf d) (hwl : Wl d) (k : ∀ M', r_fx [(0, 0), (0, 1), (0, 29)] [7] M M' → M'.1 0 0 = nI (g_night d s w h v y).2 → Q (some (.int (g_night d s w h v y).1)) GY M') : Ca 4 mt_X12_night 0 0 [.ref 0, .int s, .int w, .int h, .int v, .int y] GY M Q := by
  refine Ca_of rfl (Nat.le_of_ble_eq_true rfl) ?_
  have hb := wf.1
  have hp := pw_le hb.1
  have hc : ∀ k, k < 521 → M.1 5 k = nI (d k) := Y_tm_z hy
  refine Ru_aload_n (pc := 0) dX12_night_0 rfl rfl ?_
  refine Ru_iconst (pc := 1) (nI 0) dX12_night_1 rfl ?_
  refine Ru_putI (pc := 2) rfl dX12_night_2 fl_X12_87 rfl ?_
  refine Ru_aload_n (pc := 5) dX12_night_5 rfl rfl ?_
  refine Ru_iconst (pc := 6) (nI 0) dX12_night_6 rfl ?_
  refine Ru_putI (pc := 7) rfl dX12_night_7 fl_X12_90 rfl ?_
  refine Ru_aload_n (pc := 10) dX12_night_10 rfl rfl ?_
  refine Ru_iload_n (pc := 11) dX12_night_11 rfl rfl ?_
  refine Ru_cv1 (pc := 12) dX12_night_12 mv_X12_386 rfl (by decide) (Nat.le_of_ble_eq_true rfl) (c_X12_isSet (fun k hk => ((r_sI_n (by omega)).trans ((r_sI_n (by omega)).trans (hc k hk)))) wf ?_) 
  refine Ru_if_eqB (pc := 15) 43 dX12_night_15 (by decide) (fun h1 => ?_) (fun h1 => ?_)
  · replace h1 := of_decide_eq_false h1
    refine Ru_aload_n (pc := 43) dX12_night_43 rfl rfl ?_
    refine Ru_iconst (pc := 44) (nI 2) dX12_night_44 rfl ?_
    refine Ru_cv1 (pc := 45) dX12_night_45 mv_X12_351 rfl (by decide) (Nat.le_of_ble_eq_true rfl) (c_X12_refuse ?_) 
    refine Ru_iret (pc := 48) dX12_night_48 rfl ⟨Nat.le_refl _, Nat.le_refl _⟩ ?_
    have e : g_night d s w h v y = (-1, 2) := by
      unfold g_night
      rw [if_pos (by omega)]
    rw [e] at k
    exact k _ (r_fx.sI rfl (r_fx.sI rfl (r_fx.sI rfl r_fx.rf))) r_sI_s
  · replace h1 := of_decide_eq_true h1
    refine Ru_aload_n (pc := 18) dX12_night_18 rfl rfl ?_
    refine Ru_iload_n (pc := 19) dX12_night_19 rfl rfl ?_
    refine Ru_cv1 (pc := 20) dX12_night_20 mv_X12_389 rfl (by decide) (Nat.le_of_ble_eq_true rfl) (c_X12_isThingOrNone (fun k hk => ((r_sI_n (by omega)).trans ((r_sI_n (by omega)).trans (hc k hk)))) wf ?_) 
    refine Ru_if_eqB (pc := 23) 43 dX12_night_23 (by decide) (fun h2 => ?_) (fun h2 => ?_)
    · replace h2 := of_decide_eq_false h2
      refine Ru_aload_n (pc := 43) dX12_night_43 rfl rfl ?_
      refine Ru_iconst (pc := 44) (nI 2) dX12_night_44 rfl ?_
      refine Ru_cv1 (pc := 45) dX12_night_45 mv_X12_351 rfl (by decide) (Nat.le_of_ble_eq_true rfl) (c_X12_refuse ?_) 
      refine Ru_iret (pc := 48) dX12_night_48 rfl ⟨Nat.le_refl _, Nat.le_refl _⟩ ?_
      have e : g_night d s w h v y = (-1, 2) := by
        unfold g_night
        rw [if_pos (by omega)]
      rw [e] at k
      exact k _ (r_fx.sI rfl (r_fx.sI rfl (r_fx.sI rfl r_fx.rf))) r_sI_s
    · replace h2 := of_decide_eq_true h2
      refine Ru_aload_n (pc := 26) dX12_night_26 rfl rfl ?_
      refine Ru_iload_n (pc := 27) dX12_night_27 rfl rfl ?_
      refine Ru_cv1 (pc := 28) dX12_night_28 mv_X12_389 rfl (by decide) (Nat.le_of_ble_eq_true rfl) (c_X12_isThingOrNone (fun k hk => ((r_sI_n (by omega)).trans ((r_sI_n (by omega)).trans (hc k hk)))) wf ?_) 
      refine Ru_if_eqB (pc := 31) 43 dX12_night_31 (by decide) (fun h3 => ?_) (fun h3 => ?_)
      · replace h3 := of_decide_eq_false h3
        refine Ru_aload_n (pc := 43) dX12_night_43 rfl rfl ?_
        refine Ru_iconst (pc := 44) (nI 2) dX12_night_44 rfl ?_
        refine Ru_cv1 (pc := 45) dX12_night_45 mv_X12_351 rfl (by decide) (Nat.le_of_ble_eq_true rfl) (c_X12_refuse ?_) 
        refine Ru_iret (pc := 48) dX12_night_48 rfl ⟨Nat.le_refl _, Nat.le_refl _⟩ ?_
        have e : g_night d s w h v y = (-1, 2) := by
          unfold g_night
          rw [if_pos (by omega)]
        rw [e] at k
        exact k _ (r_fx.sI rfl (r_fx.sI rfl (r_fx.sI rfl r_fx.rf))) r_sI_s
      · replace h3 := of_decide_eq_true h3
        refine Ru_aload_n (pc := 34) dX12_night_34 rfl rfl ?_
        refine Ru_iload (pc := 35) dX12_night_35 rfl ?_
        refine Ru_cv1 (pc := 37) dX12_night_37 mv_X12_389 rfl (by decide) (Nat.le_of_ble_eq_true rfl) (c_X12_isThingOrNone (fun k hk => ((r_sI_n (by omega)).trans ((r_sI_n (by omega)).trans (hc k hk)))) wf ?_) 
        refine Ru_if_neB (pc := 40) 49 dX12_night_40 (by decide) (fun h4 => ?_) (fun h4 => ?_)
        · replace h4 := of_decide_eq_true h4
          refine Ru_iload (pc := 49) dX12_night_49 rfl ?_
          refine Ru_i2l (pc := 51) _ dX12_night_51 rfl ?_
          refine Ru_lconst (pc := 52) 0 dX12_night_52 rfl ?_
          refine Ru_ldc2 (pc := 53) dX12_night_53 tw_1894 ?_
          refine Ru_cs3 (pc := 56) dX12_night_56 ms_X12_122 (by decide) (Nat.le_of_ble_eq_true rfl) (c_X12_isIn (0) (999) rfl rfl ?_) 
          refine Ru_if_neB (pc := 59) 68 dX12_night_59 (by decide) (fun h5 => ?_) (fun h5 => ?_)
          · replace h5 := of_decide_eq_true h5
            obtain ⟨s', hs', rfl⟩ := r_nat (x := s) (n := 256) (by omega) (by omega)
            have es := r_tn (show s' < 2147483648 by omega)
            obtain ⟨w', hw', rfl⟩ := nM_of (x := w) (n := d 0) (by omega) (by omega)
            have ew := nM_t (show w' < 2147483648 by omega)
            have ew2 := nM_c (show w' < 2147483648 by omega)
            obtain ⟨h', hh', rfl⟩ := nM_of (x := h) (n := d 0) (by omega) (by omega)
            have eh := nM_t (show h' < 2147483648 by omega)
            have eh2 := nM_c (show h' < 2147483648 by omega)
            obtain ⟨v', hv', rfl⟩ := nM_of (x := v) (n := d 0) (by omega) (by omega)
            have ev := nM_t (show v' < 2147483648 by omega)
            have ev2 := nM_c (show v' < 2147483648 by omega)
            obtain ⟨y', hy', rfl⟩ := r_nat (x := y) (n := 1000) (by omega) (by omega)
            have ey := r_tn (show y' < 2147483648 by omega)
            refine Ru_aload_n (pc := 68) dX12_night_68 rfl rfl ?_
            refine Ru_iload_n (pc := 69) dX12_night_69 rfl rfl ?_
            refine Ru_iload_n (pc := 70) dX12_night_70 rfl rfl ?_
            refine Ru_cv2 (pc := 71) dX12_night_71 mv_X12_394 rfl (by decide) (Nat.le_of_ble_eq_true rfl) (c_X12_mayWear w' (fun k hk => ((r_sI_n (by omega)).trans ((r_sI_n (by omega)).trans (hc k hk)))) wf (by omega) (by omega) ?_) 
            refine Ru_if_eqB (pc := 74) 96 dX12_night_74 (by decide) (fun h6 => ?_) (fun h6 => ?_)
            · refine Ru_aload_n (pc := 96) dX12_night_96 rfl rfl ?_
              refine Ru_bipush (pc := 97) (nI 9) dX12_night_97 rfl ?_
              refine Ru_cv1 (pc := 99) dX12_night_99 mv_X12_351 rfl (by decide) (Nat.le_of_ble_eq_true rfl) (c_X12_refuse ?_) 
              refine Ru_iret (pc := 102) dX12_night_102 rfl ⟨Nat.le_refl _, Nat.le_refl _⟩ ?_
              have e : g_night d (nI s') (nM w') (nM h') (nM v') (nI y') = (-1, 9) := by
                unfold g_night
                rw [if_neg (by omega), if_neg (by omega), r_tnn (show s' < 2147483648 by omega), r_tnn (show y' < 2147483648 by omega), ew2, eh2, ev2]
                rw [if_pos]
                intro z
                obtain ⟨z1, z2, z3⟩ := z
                simp_all
              rw [e] at k
              exact k _ (r_fx.sI rfl (r_fx.sI rfl (r_fx.sI rfl r_fx.rf))) r_sI_s
            · refine Ru_aload_n (pc := 77) dX12_night_77 rfl rfl ?_
              refine Ru_iload_n (pc := 78) dX12_night_78 rfl rfl ?_
              refine Ru_iload_n (pc := 79) dX12_night_79 rfl rfl ?_
              refine Ru_cv2 (pc := 80) dX12_night_80 mv_X12_397 rfl (by decide) (Nat.le_of_ble_eq_true rfl) (c_X12_mayHold h' (fun k hk => ((r_sI_n (by omega)).trans ((r_sI_n (by omega)).trans (hc k hk)))) wf (by omega) (by omega) ?_) 
              refine Ru_if_eqB (pc := 83) 96 dX12_night_83 (by decide) (fun h7 => ?_) (fun h7 => ?_)
              · refine Ru_aload_n (pc := 96) dX12_night_96 rfl rfl ?_
                refine Ru_bipush (pc := 97) (nI 9) dX12_night_97 rfl ?_
                refine Ru_cv1 (pc := 99) dX12_night_99 mv_X12_351 rfl (by decide) (Nat.le_of_ble_eq_true rfl) (c_X12_refuse ?_) 
                refine Ru_iret (pc := 102) dX12_night_102 rfl ⟨Nat.le_refl _, Nat.le_refl _⟩ ?_
                have e : g_night d (nI s') (nM w') (nM h') (nM v') (nI y') = (-1, 9) := by
                  unfold g_night
                  rw [if_neg (by omega), if_neg (by omega), r_tnn (show s' < 2147483648 by omega), r_tnn (show y' < 2147483648 by omega), ew2, eh2, ev2]
                  rw [if_pos]
                  intro z
                  obtain ⟨z1, z2, z3⟩ := z
                  simp_all
                rw [e] at k
                exact k _ (r_fx.sI rfl (r_fx.sI rfl (r_fx.sI rfl r_fx.rf))) r_sI_s
              · refine Ru_aload_n (pc := 86) dX12_night_86 rfl rfl ?_
                refine Ru_iload (pc := 87) dX12_night_87 rfl ?_
                refine Ru_iload_n (pc := 89) dX12_night_89 rfl rfl ?_
                refine Ru_cv2 (pc := 90) dX12_night_90 mv_X12_400 rfl (by decide) (Nat.le_of_ble_eq_true rfl) (c_X12_maySend v' (fun k hk => ((r_sI_n (by omega)).trans ((r_sI_n (by omega)).trans (hc k hk)))) wf (by omega) (by omega) ?_) 
                refine Ru_if_neB (pc := 93) 103 dX12_night_93 (by decide) (fun h8 => ?_) (fun h8 => ?_)
                · refine Ru_aload_n (pc := 103) dX12_night_103 rfl rfl ?_
                  refine Ru_iconst (pc := 104) (nI 0) dX12_night_104 rfl ?_
                  refine Ru_putI (pc := 105) rfl dX12_night_105 fl_X12_375 rfl ?_
                  refine Ru_aload_n (pc := 108) dX12_night_108 rfl rfl ?_
                  refine Ru_iload_n (pc := 109) dX12_night_109 rfl rfl ?_
                  refine Ru_iload_n (pc := 110) dX12_night_110 rfl rfl ?_
                  refine Ru_iload_n (pc := 111) dX12_night_111 rfl rfl ?_
                  refine Ru_iload (pc := 112) dX12_night_112 rfl ?_
                  refine Ru_iload (pc := 114) dX12_night_114 rfl ?_
                  refine Ru_cv5 (pc := 116) dX12_night_116 mv_X12_403 rfl (by decide) (Nat.le_of_ble_eq_true rfl) (c_X12_staysOf (A := 0) (fun k hk => ((r_sI_n (by omega)).trans ((r_sI_n (by omega)).trans ((r_sI_n (by omega)).trans (hc k hk))))) wf (by omega) ⟨by omega, by omega, by omega⟩ (by omega) (by decide) hwl r_sI_s (fun M2 gx => ?_)) 
                  have fx2 := ((r_fx.sI rfl (r_fx.sI rfl (r_fx.sI rfl r_fx.rf))) : r_fx [(0, 0), (0, 1), (0, 29)] [7] M (r_sI (r_sI (r_sI M 0 1 (nI 0)) 0 0 (nI 0)) 0 29 (nI 0))).tr (gx.mono rfl)
                  have hst2 : M2.1 0 0 = nI 0 := (gx 0 0 rfl).1.trans ((r_sI_n (by decide)).trans r_sI_s)
                  refine Ru_iret (pc := 119) dX12_night_119 rfl ⟨Nat.le_refl _, Nat.le_refl _⟩ ?_
                  have e : g_night d (nI s') (nM w') (nM h') (nM v') (nI y') = ((nI (stA d 0 s' (y' % 7) w' h' v')), 0) := by
                    unfold g_night
                    rw [if_neg (by omega), if_neg (by omega), r_tnn (show s' < 2147483648 by omega), r_tnn (show y' < 2147483648 by omega), ew2, eh2, ev2]
                    rw [if_neg (fun z => z ⟨by assumption, by assumption, by assumption⟩)]
                  rw [e] at k
                  exact k _ fx2 hst2
                · refine Ru_aload_n (pc := 96) dX12_night_96 rfl rfl ?_
                  refine Ru_bipush (pc := 97) (nI 9) dX12_night_97 rfl ?_
                  refine Ru_cv1 (pc := 99) dX12_night_99 mv_X12_351 rfl (by decide) (Nat.le_of_ble_eq_true rfl) (c_X12_refuse ?_) 
                  refine Ru_iret (pc := 102) dX12_night_102 rfl ⟨Nat.le_refl _, Nat.le_refl _⟩ ?_
                  have e : g_night d (nI s') (nM w') (nM h') (nM v') (nI y') = (-1, 9) := by
                    unfold g_night
                    rw [if_neg (by omega), if_neg (by omega), r_tnn (show s' < 2147483648 by omega), r_tnn (show y' < 2147483648 by omega), ew2, eh2, ev2]
                    rw [if_pos]
                    intro z
                    obtain ⟨z1, z2, z3⟩ := z
                    simp_all
                  rw [e] at k
                  exact k _ (r_fx.sI rfl (r_fx.sI rfl (r_fx.sI rfl r_fx.rf))) r_sI_s
          · replace h5 := of_decide_eq_false h5
            refine Ru_aload_n (pc := 62) dX12_night_62 rfl rfl ?_
            refine Ru_iconst (pc := 63) (nI 5) dX12_night_63 rfl ?_
            refine Ru_cv1 (pc := 64) dX12_night_64 mv_X12_351 rfl (by decide) (Nat.le_of_ble_eq_true rfl) (c_X12_refuse ?_) 
            refine Ru_iret (pc := 67) dX12_night_67 rfl ⟨Nat.le_refl _, Nat.le_refl _⟩ ?_
            have e : g_night d s w h v y = (-1, 5) := by
              unfold g_night
              rw [if_neg (by omega), if_pos (by omega)]
            rw [e] at k
            exact k _ (r_fx.sI rfl (r_fx.sI rfl (r_fx.sI rfl r_fx.rf))) r_sI_s
        · replace h4 := of_decide_eq_false h4
          refine Ru_aload_n (pc := 43) dX12_night_43 rfl rfl ?_
          refine Ru_iconst (pc := 44) (nI 2) dX12_night_44 rfl ?_
          refine Ru_cv1 (pc := 45) dX12_night_45 mv_X12_351 rfl (by decide) (Nat.le_of_ble_eq_true rfl) (c_X12_refuse ?_) 
          refine Ru_iret (pc := 48) dX12_night_48 rfl ⟨Nat.le_refl _, Nat.le_refl _⟩ ?_
          have e : g_night d s w h v y = (-1, 2) := by
            unfold g_night
            rw [if_pos (by omega)]
          rw [e] at k
          exact k _ (r_fx.sI rfl (r_fx.sI rfl (r_fx.sI rfl r_fx.rf))) r_sI_s
