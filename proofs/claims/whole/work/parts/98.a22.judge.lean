-- DEEDS OF THE DEVELOPERS' OWN: judged, done, lives, ill
theorem jF_le (d : Td) : ∀ n, jF d n ≤ n
  | 0 => Nat.le_refl _
  | n + 1 => by
    have := jF_le d n
    rw [jF]
    repeat' split
    all_goals omega
theorem jF_st {d : Td} {m : Nat} (h : ¬ jF d m = 0) : ∀ n, m ≤ n → jF d n = jF d m
  | 0, q => by rw [show m = 0 by omega]
  | n + 1, q => by
    by_cases e : m = n + 1
    · rw [e]
    · have ih := jF_st h n (by omega)
      rw [jF, ih, if_neg h]
theorem jF_W {d : Td} : ∀ n, (∀ i, i < n → jW d i = 0) → jF d n = 0
  | 0, _ => rfl
  | n + 1, h => by rw [jF, jF_W n (fun i hi => h i (by omega)), if_pos rfl, h n (by omega), if_pos rfl]
theorem jF_s {d : Td} {n : Nat} (h : jF d n = 0) (h2 : jW d n = 0) : jF d (n + 1) = 0 := by rw [jF, if_pos h, if_pos h2]
theorem jF_f {d : Td} {n : Nat} (h : jF d n = 0) (h2 : ¬ jW d n = 0) : jF d (n + 1) = n + 1 := by rw [jF, if_pos h, if_neg h2]

theorem l_X1_judge {Q : Rq} {M0 : Mem} {mk t lw pl : Nat} {d : Td} (hu0 : X_cu mk t lw pl d M0) (hx0 : X_tm t d M0) (wf : Wf d) (wj : Wj d) (hpj0 : X_pj pl d M0) (hw0 : ∀ j, j < d 4 → M0.1 71 j = nI (jW d j)) (kz : ∀ M, jF d (d 4) = 0 → M.1 67 0 = nI 0 → r_fx [(67, 0), (67, 1)] [] M0 M → Ru 5 mt_X1_judge r_z 56 [(0, some (.ref 67)), (1, some (.ref t)), (2, some (.ref 46)), (3, some (.int (nI (d 4))))] [] GX M Q) (kf : ∀ M n, n < d 4 → jF d (d 4) = n + 1 → M.1 67 0 = nI (jW d n) → M.1 67 1 = nI n → r_fx [(67, 0), (67, 1)] [] M0 M → Ru 5 mt_X1_judge r_z 56 [(0, some (.ref 67)), (1, some (.ref t)), (2, some (.ref 46)), (3, some (.int (nI (n + 1))))] [] GX M Q) : ∀ (zw : Nat) (n : Nat) (M : Mem), d 4 - n = zw → (n ≤ d 4) → (jF d n = 0) → (M.1 67 0 = nI 0) → (r_fx [(67, 0), (67, 1)] [] M0 M) → Ru 5 mt_X1_judge r_z 17 [(0, some (.ref 67)), (1, some (.ref t)), (2, some (.ref 46)), (3, some (.int (nI n)))] [] GX M Q := by
  intro zw
  induction zw using Nat.strongRecOn with
  | ind zw ih =>
    intro n M hw hn hF hv fx
    subst hw
    have hb := wf.1
    have ht : isTown t := hu0.1.2.2.2
    have hpl : isPlan pl := hu0.2.2.2.1
    have hT : t = 3 ∨ t = 83 ∨ t = 111 ∨ t = 139 ∨ t = 167 := ht
    have hP : pl = 26 ∨ pl = 35 ∨ pl = 106 ∨ pl = 134 ∨ pl = 162 ∨ pl = 190 := hpl
    have hu : X_cu mk t lw pl d M := (X_cu_dp mk t lw pl d).kp fx rfl hu0
    have hx : X_tm t d M := (X_tm_dp ht d).kp fx rfl hx0
    refine Ru_iload_n (pc := 17) dX1_judge_17 rfl rfl ?_
    refine Ru_aload_n (pc := 18) dX1_judge_18 rfl rfl ?_
    refine Ru_getR (pc := 19) pl dX1_judge_19 fl_X1_49 (shTown_0 ht) rfl ((rfX_mut (shTown_0 ht) rfl).trans hu.2.2.1) ?_
    refine Ru_getI (pc := 22) dX1_judge_22 fl_X1_55 (shPlan_0 hpl) rfl ?_
    refine Ru_top hu.2.2.2.2.2 ?_
    refine Ru_icmp_geN (pc := 25) 56 dX1_judge_25 (by decide) (by omega) (fun h1 => ?_) (fun h1 => ?_)
    · have en : n = d 4 := by omega
      subst en
      exact Ru_weak (kz M hF hv fx) rfl
    · refine Ru_aload_n (pc := 28) dX1_judge_28 rfl rfl ?_
      refine Ru_getI (pc := 29) dX1_judge_29 fl_X1_42 rfl rfl ?_
      refine Ru_top hv ?_
      refine Ru_if_neN (pc := 32) 56 dX1_judge_32 (by decide) (by omega) (fun h2 => ?_) (fun h2 => ?_)
      · exfalso
        omega
      · refine Ru_aload_n (pc := 35) dX1_judge_35 rfl rfl ?_
        refine Ru_aload_n (pc := 36) dX1_judge_36 rfl rfl ?_
        refine Ru_getR (pc := 37) 71 dX1_judge_37 fl_X1_25 rfl rfl (rfX_of (o := 67) (j := 4) rfl rfl) ?_
        refine Ru_iload_n (pc := 40) dX1_judge_40 rfl rfl ?_
        refine Ru_iald (pc := 41) dX1_judge_41 rfl (by omega) ?_
        refine Ru_top ((fx 71 n rfl).1.trans (hw0 n (by omega))) ?_
        refine Ru_putI (pc := 42) rfl dX1_judge_42 fl_X1_42 rfl ?_
        refine Ru_aload_n (pc := 45) dX1_judge_45 rfl rfl ?_
        refine Ru_iload_n (pc := 46) dX1_judge_46 rfl rfl ?_
        refine Ru_putI (pc := 47) rfl dX1_judge_47 fl_X1_46 rfl ?_
        refine Ru_iincN (pc := 50) 1 dX1_judge_50 rfl rfl rfl (by decide) ?_
        refine Ru_goto (pc := 53) 17 dX1_judge_53 (by decide) ?_
        have hM7 : ∃ M7, M7 = (r_sI (r_sI M 67 0 (nI (jW d n))) 67 1 (nI n)) := ⟨_, rfl⟩
        obtain ⟨M7, e7⟩ := hM7
        rw [← e7]
        have fx7 : r_fx [(67, 0), (67, 1)] [] M0 M7 := by
          rw [e7]
          exact r_fx.sI rfl (r_fx.sI rfl fx)
        have hv7 : M7.1 67 0 = nI (jW d n) := by
          rw [e7]
          exact (r_sI_n (by omega)).trans r_sI_s
        have hj7 : M7.1 67 1 = nI n := by
          rw [e7]
          exact r_sI_s
        by_cases hz : jW d n = 0
        · rw [hz] at hv7
          exact Ru_weak (ih (d 4 - (n + 1)) (by omega) (n + 1) M7 rfl (by omega) (jF_s hF hz) hv7 fx7) rfl
        · have hF7 : jF d (d 4) = n + 1 := (jF_st (m := n + 1) (by rw [jF_f hF hz]; omega) (d 4) (by omega)).trans (jF_f hF hz)
          have hu7 : X_cu mk t lw pl d M7 := (X_cu_dp mk t lw pl d).kp fx7 rfl hu0
          refine Ru_iload_n (pc := 17) dX1_judge_17 rfl rfl ?_
          refine Ru_aload_n (pc := 18) dX1_judge_18 rfl rfl ?_
          refine Ru_getR (pc := 19) pl dX1_judge_19 fl_X1_49 (shTown_0 ht) rfl ((rfX_mut (shTown_0 ht) rfl).trans hu7.2.2.1) ?_
          refine Ru_getI (pc := 22) dX1_judge_22 fl_X1_55 (shPlan_0 hpl) rfl ?_
          refine Ru_top hu7.2.2.2.2.2 ?_
          refine Ru_icmp_geN (pc := 25) 56 dX1_judge_25 (by decide) (by omega) (fun h1 => ?_) (fun h1 => ?_)
          · exact Ru_weak (kf M7 n (by omega) hF7 hv7 hj7 fx7) rfl
          · refine Ru_aload_n (pc := 28) dX1_judge_28 rfl rfl ?_
            refine Ru_getI (pc := 29) dX1_judge_29 fl_X1_42 rfl rfl ?_
            refine Ru_top hv7 ?_
            refine Ru_if_neN (pc := 32) 56 dX1_judge_32 (by decide) (by have := jW_le d n; omega) (fun h2 => ?_) (fun h2 => ?_)
            · exact Ru_weak (kf M7 n (by omega) hF7 hv7 hj7 fx7) rfl
            · exact absurd h2 hz

theorem jF_nz {d : Td} : ∀ {m n : Nat}, jF d m = n + 1 → ¬ jW d n = 0
  | 0, n, h => by
    rw [jF] at h
    omega
  | m + 1, n, h => by
    rw [jF] at h
    split at h
    · split at h
      · omega
      · rename_i z
        rw [show n = m by omega]
        exact z
    · exact jF_nz h

theorem c_X1_judge {Q : Rq} {M : Mem} {mk t lw pl : Nat} {d : Td} (hu : X_cu mk t lw pl d M) (hx : X_tm t d M) (wf : Wf d) (wj : Wj d) (hpj : X_pj pl d M) (hlw : X_lw lw d M) (hwl : Wl d) (k : ∀ M', r_fx [(46, 0), (46, 2), (67, 0), (67, 1), (67, 2), (67, 3), (70, 0), (70, 1), (70, 2)] [47, 48, 71, 72, 73, 74] M M' → ((∃ n, n < d 4 ∧ jF d (d 4) = n + 1 ∧ M'.1 67 0 = nI (jW d n) ∧ M'.1 67 1 = nI n) ∨ (jF d (d 4) = 0 ∧ (jQ d 0 0).2.2.1 = 0 ∧ M'.1 67 0 = nI 0) ∨ (jF d (d 4) = 0 ∧ (¬ (jQ d 0 0).2.2.1 = 0) ∧ M'.1 67 0 = nI 6 ∧ M'.1 67 1 = nM (jQ d 0 0).2.2.1 ∧ M'.1 67 2 = nI (jQ d 0 0).2.2.2 ∧ (jQ d 0 0).2.2.1 ≤ 24)) → Q none GX M') : Ca 5 mt_X1_judge 0 0 [.ref 67, .ref t, .ref 46] GX M Q := by
  refine Ca_of rfl (Nat.le_of_ble_eq_true rfl) ?_
  have hb := wf.1
  have ht : isTown t := hu.1.2.2.2
  have hpl : isPlan pl := hu.2.2.2.1
  have hT : t = 3 ∨ t = 83 ∨ t = 111 ∨ t = 139 ∨ t = 167 := ht
  have hP : pl = 26 ∨ pl = 35 ∨ pl = 106 ∨ pl = 134 ∨ pl = 162 ∨ pl = 190 := hpl
  have hlwi : isLaw lw := hu.2.1.2.1
  have hp := pw_le hb.1
  refine Ru_aload_n (pc := 0) dX1_judge_0 rfl rfl ?_
  refine Ru_aload_n (pc := 1) dX1_judge_1 rfl rfl ?_
  refine Ru_cv1 (pc := 2) dX1_judge_2 mv_X1_38 rfl (by decide) (Nat.le_of_ble_eq_true rfl) (c_X1_judgeJobs hu hx wf wj hpj (fun M1 gx1 hw1 => ?_)) 
  have hu1 : X_cu mk t lw pl d M1 := (X_cu_dp mk t lw pl d).kp gx1 rfl hu
  have hx1 : X_tm t d M1 := (X_tm_dp ht d).kp gx1 rfl hx
  have hpj1 : X_pj pl d M1 := (X_pj_dp hpl d).kp gx1 rfl hpj
  have hlw1 : X_lw lw d M1 := (X_lw_dp hlwi d).kp gx1 rfl hlw
  refine Ru_aload_n (pc := 5) dX1_judge_5 rfl rfl ?_
  refine Ru_iconst (pc := 6) (nI 0) dX1_judge_6 rfl ?_
  refine Ru_putI (pc := 7) rfl dX1_judge_7 fl_X1_42 rfl ?_
  refine Ru_aload_n (pc := 10) dX1_judge_10 rfl rfl ?_
  refine Ru_iconst (pc := 11) (-1) dX1_judge_11 rfl ?_
  refine Ru_putI (pc := 12) rfl dX1_judge_12 fl_X1_46 rfl ?_
  refine Ru_iconst (pc := 15) (nI 0) dX1_judge_15 rfl ?_
  refine Ru_istore_n (pc := 16) dX1_judge_16 rfl rfl (by decide) ?_
  have hM2 : ∃ M2, M2 = (r_sI (r_sI M1 67 0 (nI 0)) 67 1 (-1)) := ⟨_, rfl⟩
  obtain ⟨M2, e2⟩ := hM2
  rw [← e2]
  have gx2 : r_fx [(67, 0), (67, 1)] [] M1 M2 := by
    rw [e2]
    exact r_fx.sI rfl (r_fx.sI rfl r_fx.rf)
  have fx2 : r_fx [(67, 0), (67, 1)] [71] M M2 := (gx1.mono rfl).tr (gx2.mono rfl)
  have hv2 : M2.1 67 0 = nI 0 := by
    rw [e2]
    exact (r_sI_n (by omega)).trans r_sI_s
  have hw2 : ∀ j, j < d 4 → M2.1 71 j = nI (jW d j) := fun j hj => (gx2 71 j rfl).1.trans (hw1 j hj)
  have hu2 : X_cu mk t lw pl d M2 := (X_cu_dp mk t lw pl d).kp fx2 rfl hu
  have hx2 : X_tm t d M2 := (X_tm_dp ht d).kp fx2 rfl hx
  have hpj2 : X_pj pl d M2 := (X_pj_dp hpl d).kp fx2 rfl hpj
  have hlw2 : X_lw lw d M2 := (X_lw_dp hlwi d).kp fx2 rfl hlw
  refine Ru_weak (l_X1_judge hu2 hx2 wf wj hpj2 hw2 (fun M3 hF3 hv3 gx3 => ?_) (fun M3 n3 hn3 hF3 hv3 hj3 gx3 => ?_) (d 4) 0 M2 rfl (Nat.zero_le _) rfl hv2 r_fx.rf) rfl
  · have fx3 : r_fx [(67, 0), (67, 1)] [71] M M3 := fx2.tr (gx3.mono rfl)
    have hw3 : ∀ j, j < d 4 → M3.1 71 j = nI (jW d j) := fun j hj => (gx3 71 j rfl).1.trans (hw2 j hj)
    have hu3 : X_cu mk t lw pl d M3 := (X_cu_dp mk t lw pl d).kp fx3 rfl hu
    have hx3 : X_tm t d M3 := (X_tm_dp ht d).kp fx3 rfl hx
    have hpj3 : X_pj pl d M3 := (X_pj_dp hpl d).kp fx3 rfl hpj
    have hlw3 : X_lw lw d M3 := (X_lw_dp hlwi d).kp fx3 rfl hlw
    refine Ru_aload_n (pc := 56) dX1_judge_56 rfl rfl ?_
    refine Ru_getI (pc := 57) dX1_judge_57 fl_X1_42 rfl rfl ?_
    refine Ru_top hv3 ?_
    refine Ru_if_neN (pc := 60) 106 dX1_judge_60 (by decide) (by omega) (fun h1 => ?_) (fun h1 => ?_)
    · exfalso
      omega
    · refine Ru_aload_n (pc := 63) dX1_judge_63 rfl rfl ?_
      refine Ru_getR (pc := 64) 70 dX1_judge_64 fl_X1_21 rfl rfl (rfX_of (o := 67) (j := 3) rfl rfl) ?_
      refine Ru_iconst (pc := 67) (nI 0) dX1_judge_67 rfl ?_
      refine Ru_cv1 (pc := 68) dX1_judge_68 mv_X1_60 rfl (by decide) (Nat.le_of_ble_eq_true rfl) (c_X6_begin_70 (fun M4 gx4 h70 h71 h72 => ?_)) 
      have fx4 : r_fx [(67, 0), (67, 1), (70, 0), (70, 1), (70, 2)] [71] M M4 := (fx3.mono rfl).tr (gx4.mono rfl)
      have hw4 : ∀ j, j < d 4 → M4.1 71 j = nI (jW d j) := fun j hj => (gx4 71 j rfl).1.trans (hw3 j hj)
      have hu4 : X_cu mk t lw pl d M4 := (X_cu_dp mk t lw pl d).kp fx4 rfl hu
      have hx4 : X_tm t d M4 := (X_tm_dp ht d).kp fx4 rfl hx
      have hpj4 : X_pj pl d M4 := (X_pj_dp hpl d).kp fx4 rfl hpj
      have hlw4 : X_lw lw d M4 := (X_lw_dp hlwi d).kp fx4 rfl hlw
      refine Ru_aload_n (pc := 71) dX1_judge_71 rfl rfl ?_
      refine Ru_aload_n (pc := 72) dX1_judge_72 rfl rfl ?_
      refine Ru_aload_n (pc := 73) dX1_judge_73 rfl rfl ?_
      refine Ru_iconst (pc := 74) (nI 0) dX1_judge_74 rfl ?_
      refine Ru_iconst (pc := 75) (nI 0) dX1_judge_75 rfl ?_
      refine Ru_cv4 (pc := 76) dX1_judge_76 mv_X1_64 rfl (by decide) (Nat.le_of_ble_eq_true rfl) (c_X1_live (y := 0) (s := 0) (ill := 0) (W0 := 0) (H0 := 0) hu4 hx4 wf wj hpj4 hlw4 hwl (by omega) (by omega) (by decide) hw4 h70 h71 h72 (fun M5 gx5 hs5 ha5 hb5 hl5 hl6 hsn5 => ?_)) 
      have fx5 : r_fx [(46, 0), (46, 2), (67, 0), (67, 1), (67, 2), (67, 3), (70, 0), (70, 1), (70, 2)] [47, 48, 71, 72, 73, 74] M M5 := (fx4.mono rfl).tr (gx5.mono rfl)
      rw [Nat.zero_add] at ha5 hb5
      refine Ru_pop (pc := 79) dX1_judge_79 rfl ?_
      refine Ru_aload_n (pc := 80) dX1_judge_80 rfl rfl ?_
      refine Ru_aload_n (pc := 81) dX1_judge_81 rfl rfl ?_
      refine Ru_getI (pc := 82) dX1_judge_82 fl_X1_68 rfl rfl ?_
      refine Ru_top hl5.1 ?_
      refine Ru_iconst (pc := 85) (-1) dX1_judge_85 rfl ?_
      refine Ru_icmp_neT (pc := 86) 93 dX1_judge_86 (by decide) (fun h2 => ?_) (fun h2 => ?_)
      · have hlz : ¬ (jQ d 0 0).2.2.1 = 0 := fun z => h2 ((nM_iff (by omega)).mpr z)
        refine Ru_bipush (pc := 93) (nI 6) dX1_judge_93 rfl ?_
        refine Ru_putI (pc := 95) rfl dX1_judge_95 fl_X1_42 rfl ?_
        refine Ru_aload_n (pc := 98) dX1_judge_98 rfl rfl ?_
        refine Ru_aload_n (pc := 99) dX1_judge_99 rfl rfl ?_
        refine Ru_getI (pc := 100) dX1_judge_100 fl_X1_68 rfl rfl ?_
        refine Ru_top ((r_sI_n (by decide)).trans hl5.1) ?_
        refine Ru_putI (pc := 103) rfl dX1_judge_103 fl_X1_46 rfl ?_
        refine Ru_vret (pc := 106) dX1_judge_106 rfl ⟨Nat.le_refl _, Nat.le_refl _⟩ ?_
        refine k _ (r_fx.sI rfl (r_fx.sI rfl (fx5.mono rfl))) (Or.inr (Or.inr ⟨hF3, hlz, ?_, ?_, ?_, hl5.2⟩))
        · exact (r_sI_n (by omega)).trans r_sI_s
        · exact r_sI_s
        · exact (r_sI_n (by omega)).trans ((r_sI_n (by omega)).trans (hl6 hlz))
      · have hlz : (jQ d 0 0).2.2.1 = 0 := (nM_iff (by omega)).mp h2
        refine Ru_iconst (pc := 89) (nI 0) dX1_judge_89 rfl ?_
        refine Ru_goto (pc := 90) 95 dX1_judge_90 (by decide) ?_
        refine Ru_putI (pc := 95) rfl dX1_judge_95 fl_X1_42 rfl ?_
        refine Ru_aload_n (pc := 98) dX1_judge_98 rfl rfl ?_
        refine Ru_aload_n (pc := 99) dX1_judge_99 rfl rfl ?_
        refine Ru_getI (pc := 100) dX1_judge_100 fl_X1_68 rfl rfl ?_
        refine Ru_top ((r_sI_n (by decide)).trans hl5.1) ?_
        refine Ru_putI (pc := 103) rfl dX1_judge_103 fl_X1_46 rfl ?_
        refine Ru_vret (pc := 106) dX1_judge_106 rfl ⟨Nat.le_refl _, Nat.le_refl _⟩ ?_
        refine k _ (r_fx.sI rfl (r_fx.sI rfl (fx5.mono rfl))) (Or.inr (Or.inl ⟨hF3, hlz, ?_⟩))
        exact (r_sI_n (by omega)).trans r_sI_s
  · have fx3 : r_fx [(67, 0), (67, 1)] [71] M M3 := fx2.tr (gx3.mono rfl)
    refine Ru_aload_n (pc := 56) dX1_judge_56 rfl rfl ?_
    refine Ru_getI (pc := 57) dX1_judge_57 fl_X1_42 rfl rfl ?_
    refine Ru_top hv3 ?_
    refine Ru_if_neN (pc := 60) 106 dX1_judge_60 (by decide) (by have := jW_le d n3; omega) (fun h1 => ?_) (fun h1 => ?_)
    · refine Ru_vret (pc := 106) dX1_judge_106 rfl ⟨Nat.le_refl _, Nat.le_refl _⟩ ?_
      exact k M3 (fx3.mono rfl) (Or.inl ⟨n3, hn3, hF3, hv3, hj3⟩)
    · exfalso
      have := jF_nz hF3
      omega

theorem c_X1_doDay {Q : Rq} {M : Mem} {mk t lw pl : Nat} {d : Td} (hu : X_cu mk t lw pl d M) (hx : X_tm t d M) (wf : Wf d) (wj : Wj d) (hpj : X_pj pl d M) (hlw : X_lw lw d M) (hwl : Wl d) {s y : Nat} (hs : s < 2 ^ d 0) (hy : y ≤ 999) (k : ∀ M', r_fx [(46, 0), (46, 2), (67, 2), (67, 3), (67, 4), (70, 0), (70, 1), (70, 2)] [47, 48, 68, 71, 72, 73, 74] M M' → X_th (true, fun t => nI (jSn d s y 0 t)) M' → Q (some (.int (nI (jX d s 0).2.1))) GX M') : Ca 5 mt_X1_doDay 0 0 [.ref 67, .ref t, .ref 46, .int (nI s), .int (nI y)] GX M Q := by
  refine Ca_of rfl (Nat.le_of_ble_eq_true rfl) ?_
  have hb := wf.1
  have ht : isTown t := hu.1.2.2.2
  have hpl : isPlan pl := hu.2.2.2.1
  have hT : t = 3 ∨ t = 83 ∨ t = 111 ∨ t = 139 ∨ t = 167 := ht
  have hP : pl = 26 ∨ pl = 35 ∨ pl = 106 ∨ pl = 134 ∨ pl = 162 ∨ pl = 190 := hpl
  have hlwi : isLaw lw := hu.2.1.2.1
  have hp := pw_le hb.1
  refine Ru_aload_n (pc := 0) dX1_doDay_0 rfl rfl ?_
  refine Ru_aload_n (pc := 1) dX1_doDay_1 rfl rfl ?_
  refine Ru_cv1 (pc := 2) dX1_doDay_2 mv_X1_38 rfl (by decide) (Nat.le_of_ble_eq_true rfl) (c_X1_judgeJobs hu hx wf wj hpj (fun M1 gx1 hw1 => ?_)) 
  have hu1 : X_cu mk t lw pl d M1 := (X_cu_dp mk t lw pl d).kp gx1 rfl hu
  have hx1 : X_tm t d M1 := (X_tm_dp ht d).kp gx1 rfl hx
  have hpj1 : X_pj pl d M1 := (X_pj_dp hpl d).kp gx1 rfl hpj
  have hlw1 : X_lw lw d M1 := (X_lw_dp hlwi d).kp gx1 rfl hlw
  refine Ru_aload_n (pc := 5) dX1_doDay_5 rfl rfl ?_
  refine Ru_getR (pc := 6) 70 dX1_doDay_6 fl_X1_21 rfl rfl (rfX_of (o := 67) (j := 3) rfl rfl) ?_
  refine Ru_iload_n (pc := 9) dX1_doDay_9 rfl rfl ?_
  refine Ru_cv1 (pc := 10) dX1_doDay_10 mv_X1_60 rfl (by decide) (Nat.le_of_ble_eq_true rfl) (c_X6_begin_70 (fun M4 gx4 h70 h71 h72 => ?_)) 
  have fx4 : r_fx [(70, 0), (70, 1), (70, 2)] [71] M M4 := (gx1.mono rfl).tr (gx4.mono rfl)
  have hw4 : ∀ j, j < d 4 → M4.1 71 j = nI (jW d j) := fun j hj => (gx4 71 j rfl).1.trans (hw1 j hj)
  have hu4 : X_cu mk t lw pl d M4 := (X_cu_dp mk t lw pl d).kp fx4 rfl hu
  have hx4 : X_tm t d M4 := (X_tm_dp ht d).kp fx4 rfl hx
  have hpj4 : X_pj pl d M4 := (X_pj_dp hpl d).kp fx4 rfl hpj
  have hlw4 : X_lw lw d M4 := (X_lw_dp hlwi d).kp fx4 rfl hlw
  refine Ru_aload_n (pc := 13) dX1_doDay_13 rfl rfl ?_
  refine Ru_aload_n (pc := 14) dX1_doDay_14 rfl rfl ?_
  refine Ru_aload_n (pc := 15) dX1_doDay_15 rfl rfl ?_
  refine Ru_iload (pc := 16) dX1_doDay_16 rfl ?_
  refine Ru_iconst (pc := 18) (nI 0) dX1_doDay_18 rfl ?_
  refine Ru_cv4 (pc := 19) dX1_doDay_19 mv_X1_64 rfl (by decide) (Nat.le_of_ble_eq_true rfl) (c_X1_live (y := y) (s := s) (ill := 0) (W0 := 0) (H0 := 0) hu4 hx4 wf wj hpj4 hlw4 hwl (by omega) (by omega) (by decide) hw4 h70 h71 h72 (fun M5 gx5 hs5 ha5 hb5 hl5 hl6 hsn5 => ?_)) 
  have fx5 : r_fx [(46, 0), (46, 2), (67, 2), (67, 3), (67, 4), (70, 0), (70, 1), (70, 2)] [47, 48, 68, 71, 72, 73, 74] M M5 := (fx4.mono rfl).tr (gx5.mono rfl)
  rw [Nat.zero_add] at ha5 hb5
  refine Ru_pop (pc := 22) dX1_doDay_22 rfl ?_
  refine Ru_aload_n (pc := 23) dX1_doDay_23 rfl rfl ?_
  refine Ru_getR (pc := 24) 74 dX1_doDay_24 fl_X1_35 rfl rfl (rfX_of (o := 67) (j := 7) rfl rfl) ?_
  refine Ru_iconst (pc := 27) (nI 0) dX1_doDay_27 rfl ?_
  refine Ru_aload_n (pc := 28) dX1_doDay_28 rfl rfl ?_
  refine Ru_getR (pc := 29) 68 dX1_doDay_29 fl_X1_9 rfl rfl (rfX_of (o := 67) (j := 1) rfl rfl) ?_
  refine Ru_iconst (pc := 32) (nI 0) dX1_doDay_32 rfl ?_
  refine Ru_aload_n (pc := 33) dX1_doDay_33 rfl rfl ?_
  refine Ru_getR (pc := 34) 68 dX1_doDay_34 fl_X1_9 rfl rfl (rfX_of (o := 67) (j := 1) rfl rfl) ?_
  refine Ru_alen (pc := 37) dX1_doDay_37 rfl (by decide) ?_
  refine Ru_copyI (pc := 38) rfl dX1_doDay_38 cp_X1 rfl rfl (by omega) (by omega) (by decide) (Nat.le_of_ble_eq_true rfl) ?_
  refine Ru_aload_n (pc := 41) dX1_doDay_41 rfl rfl ?_
  refine Ru_iconst (pc := 42) (nI 1) dX1_doDay_42 rfl ?_
  refine Ru_putZ (pc := 43) rfl dX1_doDay_43 fl_X1_77 rfl (Or.inr rfl) ?_
  refine Ru_aload_n (pc := 46) dX1_doDay_46 rfl rfl ?_
  refine Ru_getR (pc := 47) 70 dX1_doDay_47 fl_X1_21 rfl rfl (rfX_of (o := 67) (j := 3) rfl rfl) ?_
  refine Ru_getI (pc := 50) dX1_doDay_50 fl_X1_81 rfl rfl ?_
  refine Ru_top ((r_sI_n (by omega)).trans ((r_wI_n (by decide)).trans ha5)) ?_
  refine Ru_iret (pc := 53) dX1_doDay_53 rfl ⟨Nat.le_refl _, Nat.le_refl _⟩ ?_
  refine k _ (r_fx.sI rfl (r_fx.wI (fun k => r_in_A rfl) fx5)) ⟨r_sI_s, fun _ t ht9 => ?_⟩
  refine (r_sI_n (by omega)).trans ?_
  rw [r_wI_s, pk_cpy_in (by omega) (by omega), Nat.zero_add, Nat.sub_zero]
  exact hsn5 t (by omega)
