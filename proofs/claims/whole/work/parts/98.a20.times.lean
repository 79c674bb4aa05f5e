-- DEEDS OF THE DEVELOPERS' OWN: the times of a day

theorem l_X1_live_c {Q : Rq} {M0 : Mem} {mk t lw pl : Nat} {d : Td} (hu0 : X_cu mk t lw pl d M0) (hx0 : X_tm t d M0) (wf : Wf d) (wj : Wj d) (hpj0 : X_pj pl d M0) {y ill W0 H0 : Nat} {x0 : Jt × Nat × Nat} (hLE : ∀ i, i < d 4 → x0.1.2.1 i = false → d (521 + 5 * i) = 0 → jE d i ≤ 24) (k : ∀ M, X_jt (d 4) (jT d x0 25).1 M → M.1 70 1 = nI (W0 + (jT d x0 25).2.1) → M.1 70 2 = nI (H0 + (jT d x0 25).2.2) → (∀ i, i < 25 → M.1 74 i = nI (jT d x0 (i + 1)).1.1) → r_fx [(67, 2), (67, 3), (70, 0), (70, 1), (70, 2)] [72, 73, 74] M0 M → Ru 4 mt_X1_live r_z 213 [(0, some (.ref 67)), (1, some (.ref t)), (2, some (.ref 46)), (3, some (.int (nI y))), (4, some (.int (nI ill))), (5, some (.ref pl))] [] GX M Q) : ∀ (zw : Nat) (tm : Nat) (M : Mem), 25 - tm = zw → (tm ≤ 25) → (X_jt (d 4) (jT d x0 tm).1 M) → (M.1 70 1 = nI (W0 + (jT d x0 tm).2.1)) → (M.1 70 2 = nI (H0 + (jT d x0 tm).2.2)) → (∀ e, e ≤ 24 → M.1 73 e = nI (jG d (jPg d (jT d x0 tm).1.2.1 tm 0) e (d 4))) → (∀ i, i < tm → M.1 74 i = nI (jT d x0 (i + 1)).1.1) → (r_fx [(67, 2), (67, 3), (70, 0), (70, 1), (70, 2)] [72, 73, 74] M0 M) → Ru 4 mt_X1_live r_z 93 [(0, some (.ref 67)), (1, some (.ref t)), (2, some (.ref 46)), (3, some (.int (nI y))), (4, some (.int (nI ill))), (5, some (.ref pl)), (6, some (.int (nI tm)))] [] GX M Q := by
  intro zw
  induction zw using Nat.strongRecOn with
  | ind zw ih =>
    intro tm M hw hn hq hww hh hg hsn fx
    subst hw
    have hb := wf.1
    have ht : isTown t := hu0.1.2.2.2
    have hpl : isPlan pl := hu0.2.2.2.1
    have hT : t = 3 ∨ t = 83 ∨ t = 111 ∨ t = 139 ∨ t = 167 := ht
    have hP : pl = 26 ∨ pl = 35 ∨ pl = 106 ∨ pl = 134 ∨ pl = 162 ∨ pl = 190 := hpl
    have hu : X_cu mk t lw pl d M := (X_cu_dp mk t lw pl d).kp fx rfl hu0
    have hx : X_tm t d M := (X_tm_dp ht d).kp fx rfl hx0
    have hLt : ∀ i, i < d 4 → (jT d x0 tm).1.2.1 i = false → d (521 + 5 * i) = 0 → jE d i ≤ 24 := fun i q1 z1 z2 => hLE i q1 (by
      cases z : x0.1.2.1 i
      · rfl
      · rw [jT_L z tm] at z1
        cases z1) z2
    refine Ru_iload (pc := 93) dX1_live_93 rfl ?_
    refine Ru_bipush (pc := 95) (nI 24) dX1_live_95 rfl ?_
    refine Ru_icmp_gtN (pc := 97) 213 dX1_live_97 (by decide) (by omega) (fun h1 => ?_) (fun h1 => ?_)
    · have en : tm = 25 := by omega
      subst en
      exact Ru_weak (k M hq hww hh hsn fx) rfl
    · refine Ru_aload_n (pc := 100) dX1_live_100 rfl rfl ?_
      refine Ru_getR (pc := 101) 70 dX1_live_101 fl_X1_21 rfl rfl (rfX_of (o := 67) (j := 3) rfl rfl) ?_
      refine Ru_dup (pc := 104) dX1_live_104 rfl ?_
      refine Ru_getI (pc := 105) dX1_live_105 fl_X1_103 rfl rfl ?_
      refine Ru_top hq.1 ?_
      refine Ru_aload_n (pc := 108) dX1_live_108 rfl rfl ?_
      refine Ru_getR (pc := 109) 73 dX1_live_109 fl_X1_32 rfl rfl (rfX_of (o := 67) (j := 6) rfl rfl) ?_
      refine Ru_iload (pc := 112) dX1_live_112 rfl ?_
      refine Ru_iald (pc := 114) dX1_live_114 rfl (by omega) ?_
      refine Ru_top (hg tm (by omega)) ?_
      refine Ru_iorN (pc := 115) dX1_live_115 ?_
      refine Ru_putI (pc := 116) rfl dX1_live_116 fl_X1_103 rfl ?_
      have hM1 : ∃ M1, M1 = r_sI M 70 0 (nI ((jT d x0 tm).1.1 ||| (jG d (jPg d (jT d x0 tm).1.2.1 tm 0) tm (d 4)))) := ⟨_, rfl⟩
      obtain ⟨M1, eM1⟩ := hM1
      rw [← eM1]
      have fx1 : r_fx [(67, 2), (67, 3), (70, 0), (70, 1), (70, 2)] [72, 73, 74] M0 M1 := by
        rw [eM1]
        exact r_fx.sI rfl fx
      have h70a : M1.1 70 0 = nI ((jT d x0 tm).1.1 ||| jG d (jGo d (jT d x0 tm).1.2.1) tm (d 4)) := by
        rw [eM1, jPg_0 wf wj (Nat.le_refl _)]
        exact r_sI_s
      have h71a : M1.1 70 1 = nI (W0 + (jT d x0 tm).2.1) := by
        rw [eM1]
        exact (r_sI_n (by omega)).trans hww
      have h72a : M1.1 70 2 = nI (H0 + (jT d x0 tm).2.2) := by
        rw [eM1]
        exact (r_sI_n (by omega)).trans hh
      have gx1 : r_fx [(70, 0)] [] M M1 := by
        rw [eM1]
        exact r_fx.sI rfl r_fx.rf
      have hx1 : X_tm t d M1 := (X_tm_dp ht d).kp gx1 rfl hx
      clear eM1
      refine Ru_aload_n (pc := 119) dX1_live_119 rfl rfl ?_
      refine Ru_getR (pc := 120) 70 dX1_live_120 fl_X1_21 rfl rfl (rfX_of (o := 67) (j := 3) rfl rfl) ?_
      refine Ru_aload_n (pc := 123) dX1_live_123 rfl rfl ?_
      refine Ru_iload (pc := 124) dX1_live_124 rfl ?_
      refine Ru_iload (pc := 126) dX1_live_126 rfl ?_
      refine Ru_iconst (pc := 128) (nI 1) dX1_live_128 rfl ?_
      refine Ru_iaddN (pc := 129) dX1_live_129 ?_
      refine Ru_cv3 (pc := 130) dX1_live_130 mv_X1_157 rfl (by decide) (Nat.le_of_ble_eq_true rfl) (c_X6_serve_70 (f := tm) (n := 1) (((jT d x0 tm).1.1 ||| jG d (jGo d (jT d x0 tm).1.2.1) tm (d 4)), W0 + (jT d x0 tm).2.1, H0 + (jT d x0 tm).2.2) ht hx1 wf (by omega) h70a h71a h72a (fun M2 gx2 h70b h71b h72b => ?_)) 
      have eW : wR d (((jT d x0 tm).1.1 ||| jG d (jGo d (jT d x0 tm).1.2.1) tm (d 4)), W0 + (jT d x0 tm).2.1, H0 + (jT d x0 tm).2.2) tm 1 = ((wT d tm ((jT d x0 tm).1.1 ||| jG d (jGo d (jT d x0 tm).1.2.1) tm (d 4))).1, (wT d tm ((jT d x0 tm).1.1 ||| jG d (jGo d (jT d x0 tm).1.2.1) tm (d 4))).2.1 + (W0 + (jT d x0 tm).2.1), (wT d tm ((jT d x0 tm).1.1 ||| jG d (jGo d (jT d x0 tm).1.2.1) tm (d 4))).2.2 + (H0 + (jT d x0 tm).2.2)) := wAll1_p d tm _
      rw [eW] at h70b h71b h72b
      have gx12 : r_fx [(70, 0), (70, 1), (70, 2)] [] M M2 := (gx1.mono rfl).tr (gx2.mono rfl)
      have fx2 : r_fx [(67, 2), (67, 3), (70, 0), (70, 1), (70, 2)] [72, 73, 74] M0 M2 := fx.tr (gx12.mono rfl)
      have hq2 : X_jt (d 4) ((wT d tm ((jT d x0 tm).1.1 ||| jG d (jGo d (jT d x0 tm).1.2.1) tm (d 4))).1, (jT d x0 tm).1.2) M2 := ⟨h70b, fun i hi => (gx12 72 i rfl).1.trans (hq.2.1 i hi), ⟨(gx12 67 3 rfl).1.trans hq.2.2.1.1, hq.2.2.1.2⟩, fun z => (gx12 67 2 rfl).1.trans (hq.2.2.2 z)⟩
      have hg2 : ∀ e, e ≤ 24 → M2.1 73 e = nI (jG d (jPg d (((wT d tm ((jT d x0 tm).1.1 ||| jG d (jGo d (jT d x0 tm).1.2.1) tm (d 4))).1, (jT d x0 tm).1.2) : Jt).2.1 tm 0) e (d 4)) := fun e he => (gx12 73 e rfl).1.trans (hg e he)
      have hu2 : X_cu mk t lw pl d M2 := (X_cu_dp mk t lw pl d).kp fx2 rfl hu0
      have hx2 : X_tm t d M2 := (X_tm_dp ht d).kp fx2 rfl hx0
      have hpj2 : X_pj pl d M2 := (X_pj_dp hpl d).kp fx2 rfl hpj0
      refine Ru_iconst (pc := 133) (nI 0) dX1_live_133 rfl ?_
      refine Ru_istore (pc := 134) dX1_live_134 rfl (by decide) ?_
      refine Ru_weak (l_X1_live_d (q0 := ((wT d tm ((jT d x0 tm).1.1 ||| jG d (jGo d (jT d x0 tm).1.2.1) tm (d 4))).1, (jT d x0 tm).1.2)) (tm := tm) (y := y) (ill := ill) hu2 hx2 wf wj hpj2 (by omega) hLt (fun M3 hq3 hg3 gx3 => ?_) (d 4) 0 M2 rfl (Nat.zero_le _) hq2 hg2 r_fx.rf) rfl
      have hu3 : X_cu mk t lw pl d M3 := (X_cu_dp mk t lw pl d).kp gx3 rfl hu2
      refine Ru_aload_n (pc := 193) dX1_live_193 rfl rfl ?_
      refine Ru_getR (pc := 194) 74 dX1_live_194 fl_X1_35 rfl rfl (rfX_of (o := 67) (j := 7) rfl rfl) ?_
      refine Ru_iload (pc := 197) dX1_live_197 rfl ?_
      refine Ru_aload_n (pc := 199) dX1_live_199 rfl rfl ?_
      refine Ru_getR (pc := 200) 70 dX1_live_200 fl_X1_21 rfl rfl (rfX_of (o := 67) (j := 3) rfl rfl) ?_
      refine Ru_getI (pc := 203) dX1_live_203 fl_X1_103 rfl rfl ?_
      refine Ru_top hq3.1 ?_
      refine Ru_iast (pc := 206) rfl dX1_live_206 rfl (by omega) ?_
      refine Ru_iincN (pc := 207) 1 dX1_live_207 rfl rfl rfl (by decide) ?_
      refine Ru_goto (pc := 210) 93 dX1_live_210 (by decide) ?_
      refine Ru_weak (ih (25 - (tm + 1)) (by omega) (tm + 1) _ rfl (by omega) ?_ ?_ ?_ (fun e he => ?_) (fun i hi => ?_) (r_fx.sI rfl (fx2.tr (gx3.mono rfl)))) rfl
      · exact X_jt_cp hq3 (r_sI_n (by omega)) (fun i => r_sI_n (by omega)) (r_sI_n (by omega)) (r_sI_n (by omega))
      · refine (r_sI_n (by omega)).trans (((gx3 70 1 rfl).1.trans h71b).trans (congrArg nI ?_))
        show _ + (W0 + _) = W0 + (_ + _)
        omega
      · refine (r_sI_n (by omega)).trans (((gx3 70 2 rfl).1.trans h72b).trans (congrArg nI ?_))
        show _ + (H0 + _) = H0 + (_ + _)
        omega
      · refine (r_sI_n (by omega)).trans ((hg3 e he).trans (congrArg nI ?_))
        exact jPg_n
      · rw [r_sI_g]
        by_cases e : i = tm
        · subst e
          rw [if_pos ⟨rfl, rfl⟩]
          rfl
        · rw [if_neg (fun z => e z.2)]
          exact (gx3 74 i rfl).1.trans ((gx12 74 i rfl).1.trans (hsn i (by omega)))

theorem l_X1_overNight {Q : Rq} {M0 : Mem} {mk t lw pl : Nat} {d : Td} (hu0 : X_cu mk t lw pl d M0) (hx0 : X_tm t d M0) (wf : Wf d) (wj : Wj d) (hpj0 : X_pj pl d M0) {y : Nat} {q : Jt} (k : ∀ M, X_jt (d 4) (jN d q (d 4)) M → r_fx [(67, 2), (67, 3)] [72] M0 M → Ru 3 mt_X1_overNight r_z 141 [(0, some (.ref 67)), (1, some (.ref t)), (2, some (.ref 46)), (3, some (.int (nI y))), (4, some (.ref pl)), (5, some (.int (nM (jTo d (jN d q (d 4)).2.1 1 (d 4))))), (6, some (.int (nM (jTo d (jN d q (d 4)).2.1 2 (d 4))))), (7, some (.int (nM (jTo d (jN d q (d 4)).2.1 3 (d 4)))))] [] GX M Q) : ∀ (zw : Nat) (n : Nat) (M : Mem), d 4 - n = zw → (n ≤ d 4) → (X_jt (d 4) (jN d q n) M) → (r_fx [(67, 2), (67, 3)] [72] M0 M) → Ru 3 mt_X1_overNight r_z 18 [(0, some (.ref 67)), (1, some (.ref t)), (2, some (.ref 46)), (3, some (.int (nI y))), (4, some (.ref pl)), (5, some (.int (nM (jTo d (jN d q n).2.1 1 n)))), (6, some (.int (nM (jTo d (jN d q n).2.1 2 n)))), (7, some (.int (nM (jTo d (jN d q n).2.1 3 n)))), (8, some (.int (nI n)))] [] GX M Q := by
  intro zw
  induction zw using Nat.strongRecOn with
  | ind zw ih =>
    intro n M hw hn hq fx
    subst hw
    have hb := wf.1
    have ht : isTown t := hu0.1.2.2.2
    have hpl : isPlan pl := hu0.2.2.2.1
    have hT : t = 3 ∨ t = 83 ∨ t = 111 ∨ t = 139 ∨ t = 167 := ht
    have hP : pl = 26 ∨ pl = 35 ∨ pl = 106 ∨ pl = 134 ∨ pl = 162 ∨ pl = 190 := hpl
    have hp := pw_le hb.1
    have hu : X_cu mk t lw pl d M := (X_cu_dp mk t lw pl d).kp fx rfl hu0
    have hx : X_tm t d M := (X_tm_dp ht d).kp fx rfl hx0
    have hpj : X_pj pl d M := (X_pj_dp hpl d).kp fx rfl hpj0
    refine Ru_iload (pc := 18) dX1_overNight_18 rfl ?_
    refine Ru_aload (pc := 20) dX1_overNight_20 rfl ?_
    refine Ru_getI (pc := 22) dX1_overNight_22 fl_X1_55 (shPlan_0 hpl) rfl ?_
    refine Ru_top hu.2.2.2.2.2 ?_
    refine Ru_icmp_geN (pc := 25) 141 dX1_overNight_25 (by decide) (by omega) (fun h1 => ?_) (fun h1 => ?_)
    · have en : n = d 4 := by omega
      subst en
      exact Ru_weak (k M hq fx) rfl
    · refine Ru_aload (pc := 28) dX1_overNight_28 rfl ?_
      refine Ru_getR (pc := 30) (pl + 3) dX1_overNight_30 fl_X1_119 (shPlan_0 hpl) rfl (rfX_of (o := pl) (j := 3) (shPlan_0 hpl) rfl) ?_
      refine Ru_iload (pc := 33) dX1_overNight_33 rfl ?_
      refine Ru_iald (pc := 35) dX1_overNight_35 (shPlan_3 hpl) (by omega) ?_
      refine Ru_top (hpj n (by omega)).2.2.1 ?_
      refine Ru_istore (pc := 36) dX1_overNight_36 rfl (by decide) ?_
      refine Ru_aload (pc := 38) dX1_overNight_38 rfl ?_
      refine Ru_getR (pc := 40) (pl + 1) dX1_overNight_40 fl_X1_109 (shPlan_0 hpl) rfl (rfX_of (o := pl) (j := 1) (shPlan_0 hpl) rfl) ?_
      refine Ru_iload (pc := 43) dX1_overNight_43 rfl ?_
      refine Ru_iald (pc := 45) dX1_overNight_45 (shPlan_1 hpl) (by omega) ?_
      refine Ru_top (hpj n (by omega)).1 ?_
      refine Ru_if_eqN (pc := 46) 135 dX1_overNight_46 (by decide) (by have := (wj n (by omega)).1; omega) (fun h2 => ?_) (fun h2 => ?_)
      · refine Ru_iincN (pc := 135) 1 dX1_overNight_135 rfl rfl rfl (by decide) ?_
        refine Ru_goto (pc := 138) 18 dX1_overNight_138 (by decide) ?_
        have ej : jN d q (n + 1) = (jN d q n) := by
          rw [jN, if_neg]
          rintro ⟨z1, z2⟩
          simp_all
        have et : ∀ kd, ¬ kd = 0 → jTo d (jN d q (n + 1)).2.1 kd (n + 1) = jTo d (jN d q n).2.1 kd n := fun kd hkd => jTo_no hkd (by
          rw [ej]
          by_cases z1 : d (521 + 5 * n) = 0
          · left
            omega
          · right
            simp_all)
        have hr := ih (d 4 - (n + 1)) (by omega) (n + 1) M rfl (by omega) (by rw [ej]; exact hq) fx
        rw [et 1 (by decide), et 2 (by decide), et 3 (by decide)] at hr
        exact Ru_weak hr rfl
      · have hk1n : ¬ d (521 + 5 * n) = 0 := h2
        have hw0 := (wj n (by omega)).2.2 hk1n
        have hw9 := (wj n (by omega)).1
        refine Ru_aload_n (pc := 49) dX1_overNight_49 rfl rfl ?_
        refine Ru_getR (pc := 50) 72 dX1_overNight_50 fl_X1_28 rfl rfl (rfX_of (o := 67) (j := 5) rfl rfl) ?_
        refine Ru_iload (pc := 53) dX1_overNight_53 rfl ?_
        refine Ru_zald (pc := 55) dX1_overNight_55 rfl (by omega) ?_
        refine Ru_top (hq.2.1 n (by omega)) ?_
        refine Ru_if_neB (pc := 56) 135 dX1_overNight_56 (by decide) (fun h3 => ?_) (fun h3 => ?_)
        · refine Ru_iincN (pc := 135) 1 dX1_overNight_135 rfl rfl rfl (by decide) ?_
          refine Ru_goto (pc := 138) 18 dX1_overNight_138 (by decide) ?_
          have ej : jN d q (n + 1) = (jN d q n) := by
            rw [jN, if_neg]
            rintro ⟨z1, z2⟩
            simp_all
          have et : ∀ kd, ¬ kd = 0 → jTo d (jN d q (n + 1)).2.1 kd (n + 1) = jTo d (jN d q n).2.1 kd n := fun kd hkd => jTo_no hkd (by
            rw [ej]
            by_cases z1 : d (521 + 5 * n) = 0
            · left
              omega
            · right
              simp_all)
          have hr := ih (d 4 - (n + 1)) (by omega) (n + 1) M rfl (by omega) (by rw [ej]; exact hq) fx
          rw [et 1 (by decide), et 2 (by decide), et 3 (by decide)] at hr
          exact Ru_weak hr rfl
        · refine Ru_aload_n (pc := 59) dX1_overNight_59 rfl rfl ?_
          refine Ru_iload (pc := 60) dX1_overNight_60 rfl ?_
          refine Ru_iconst (pc := 62) (nI 1) dX1_overNight_62 rfl ?_
          refine Ru_iload (pc := 63) dX1_overNight_63 rfl ?_
          refine Ru_ishl1N (pc := 65) dX1_overNight_65 (by omega) ?_
          refine Ru_cv2 (pc := 66) dX1_overNight_66 mv_X1_171 rfl (by decide) (Nat.le_of_ble_eq_true rfl) (c_X1_areThere hq (j := n) (by omega) (Nat.lt_of_lt_of_le (Nat.pow_lt_pow_right (by decide) hw0.1) hp.2) (fun M2 gx2 hq2 => ?_)) 
          have hu2 : X_cu mk t lw pl d M2 := (X_cu_dp mk t lw pl d).kp gx2 rfl hu
          have hpj2 : X_pj pl d M2 := (X_pj_dp hpl d).kp gx2 rfl hpj
          have fx2 : r_fx [(67, 2), (67, 3)] [72] M0 M2 := fx.tr gx2
          refine Ru_if_eqB (pc := 69) 135 dX1_overNight_69 (by decide) (fun h4 => ?_) (fun h4 => ?_)
          · replace h4 := of_decide_eq_false h4
            refine Ru_iincN (pc := 135) 1 dX1_overNight_135 rfl rfl rfl (by decide) ?_
            refine Ru_goto (pc := 138) 18 dX1_overNight_138 (by decide) ?_
            have hk1 : ¬ d (521 + 5 * n) = 0 := by assumption
            have hlf : (jN d q n).2.1 n = false := by assumption
            have ej : jN d q (n + 1) = jL (jN d q n) n (2 ^ d (523 + 5 * n)) := by
              rw [jN, if_pos ⟨hk1, hlf⟩]
            have et : ∀ kd, ¬ kd = 0 → jTo d (jN d q (n + 1)).2.1 kd (n + 1) = jTo d (jN d q n).2.1 kd n := fun kd hkd => jTo_no hkd (Or.inr (by
              rw [ej]
              exact jL_lack (by assumption)))
            have hr := ih (d 4 - (n + 1)) (by omega) (n + 1) M2 rfl (by omega) (by rw [ej]; exact hq2) fx2
            rw [et 1 (by decide), et 2 (by decide), et 3 (by decide)] at hr
            exact Ru_weak hr rfl
          · replace h4 := of_decide_eq_true h4
            refine Ru_aload (pc := 72) dX1_overNight_72 rfl ?_
            refine Ru_getR (pc := 74) (pl + 1) dX1_overNight_74 fl_X1_109 (shPlan_0 hpl) rfl (rfX_of (o := pl) (j := 1) (shPlan_0 hpl) rfl) ?_
            refine Ru_iload (pc := 77) dX1_overNight_77 rfl ?_
            refine Ru_iald (pc := 79) dX1_overNight_79 (shPlan_1 hpl) (by omega) ?_
            refine Ru_top (hpj2 n (by omega)).1 ?_
            refine Ru_iconst (pc := 80) (nI 1) dX1_overNight_80 rfl ?_
            refine Ru_icmp_neN (pc := 81) 89 dX1_overNight_81 (by decide) (by omega) (fun h5 => ?_) (fun h5 => ?_)
            · refine Ru_iload (pc := 89) dX1_overNight_89 rfl ?_
              refine Ru_istore (pc := 91) dX1_overNight_91 rfl (by decide) ?_
              refine Ru_aload (pc := 93) dX1_overNight_93 rfl ?_
              refine Ru_getR (pc := 95) (pl + 1) dX1_overNight_95 fl_X1_109 (shPlan_0 hpl) rfl (rfX_of (o := pl) (j := 1) (shPlan_0 hpl) rfl) ?_
              refine Ru_iload (pc := 98) dX1_overNight_98 rfl ?_
              refine Ru_iald (pc := 100) dX1_overNight_100 (shPlan_1 hpl) (by omega) ?_
              refine Ru_top (hpj2 n (by omega)).1 ?_
              refine Ru_iconst (pc := 101) (nI 2) dX1_overNight_101 rfl ?_
              refine Ru_icmp_neN (pc := 102) 110 dX1_overNight_102 (by decide) (by omega) (fun h6 => ?_) (fun h6 => ?_)
              · refine Ru_iload (pc := 110) dX1_overNight_110 rfl ?_
                refine Ru_istore (pc := 112) dX1_overNight_112 rfl (by decide) ?_
                refine Ru_aload (pc := 114) dX1_overNight_114 rfl ?_
                refine Ru_getR (pc := 116) (pl + 1) dX1_overNight_116 fl_X1_109 (shPlan_0 hpl) rfl (rfX_of (o := pl) (j := 1) (shPlan_0 hpl) rfl) ?_
                refine Ru_iload (pc := 119) dX1_overNight_119 rfl ?_
                refine Ru_iald (pc := 121) dX1_overNight_121 (shPlan_1 hpl) (by omega) ?_
                refine Ru_top (hpj2 n (by omega)).1 ?_
                refine Ru_iconst (pc := 122) (nI 3) dX1_overNight_122 rfl ?_
                refine Ru_icmp_neN (pc := 123) 131 dX1_overNight_123 (by decide) (by omega) (fun h7 => ?_) (fun h7 => ?_)
                · refine Ru_iload (pc := 131) dX1_overNight_131 rfl ?_
                  refine Ru_istore (pc := 133) dX1_overNight_133 rfl (by decide) ?_
                  refine Ru_iincN (pc := 135) 1 dX1_overNight_135 rfl rfl rfl (by decide) ?_
                  refine Ru_goto (pc := 138) 18 dX1_overNight_138 (by decide) ?_
                  have hk1 : ¬ d (521 + 5 * n) = 0 := by assumption
                  have hlf : (jN d q n).2.1 n = false := by assumption
                  have ej : jN d q (n + 1) = jL (jN d q n) n (2 ^ d (523 + 5 * n)) := by
                    rw [jN, if_pos ⟨hk1, hlf⟩]
                  have hr0 : r_dif (2 ^ d (523 + 5 * n)) (jN d q n).1 = 0 := by assumption
                  have hl2 : (jN d q (n + 1)).2.1 n = false := by
                    rw [ej, jL_no hr0]
                    exact hlf
                  have et1 : jTo d (jN d q (n + 1)).2.1 1 (n + 1) = jTo d (jN d q n).2.1 1 n := jTo_no (by decide) (Or.inl (by omega))
                  have et2 : jTo d (jN d q (n + 1)).2.1 2 (n + 1) = jTo d (jN d q n).2.1 2 n := jTo_no (by decide) (Or.inl (by omega))
                  have et3 : jTo d (jN d q (n + 1)).2.1 3 (n + 1) = jTo d (jN d q n).2.1 3 n := jTo_no (by decide) (Or.inl (by omega))
                  have hr := ih (d 4 - (n + 1)) (by omega) (n + 1) M2 rfl (by omega) (by rw [ej]; exact hq2) fx2
                  rw [et1, et2, et3] at hr
                  exact Ru_weak hr rfl
                · refine Ru_iload (pc := 126) dX1_overNight_126 rfl ?_
                  refine Ru_goto (pc := 128) 133 dX1_overNight_128 (by decide) ?_
                  refine Ru_istore (pc := 133) dX1_overNight_133 rfl (by decide) ?_
                  refine Ru_iincN (pc := 135) 1 dX1_overNight_135 rfl rfl rfl (by decide) ?_
                  refine Ru_goto (pc := 138) 18 dX1_overNight_138 (by decide) ?_
                  have hk1 : ¬ d (521 + 5 * n) = 0 := by assumption
                  have hlf : (jN d q n).2.1 n = false := by assumption
                  have ej : jN d q (n + 1) = jL (jN d q n) n (2 ^ d (523 + 5 * n)) := by
                    rw [jN, if_pos ⟨hk1, hlf⟩]
                  have hr0 : r_dif (2 ^ d (523 + 5 * n)) (jN d q n).1 = 0 := by assumption
                  have hl2 : (jN d q (n + 1)).2.1 n = false := by
                    rw [ej, jL_no hr0]
                    exact hlf
                  have et1 : jTo d (jN d q (n + 1)).2.1 1 (n + 1) = jTo d (jN d q n).2.1 1 n := jTo_no (by decide) (Or.inl (by omega))
                  have et2 : jTo d (jN d q (n + 1)).2.1 2 (n + 1) = jTo d (jN d q n).2.1 2 n := jTo_no (by decide) (Or.inl (by omega))
                  have et3 : jTo d (jN d q (n + 1)).2.1 3 (n + 1) = d (523 + 5 * n) + 1 := jTo_yes (by omega) hl2
                  have hr := ih (d 4 - (n + 1)) (by omega) (n + 1) M2 rfl (by omega) (by rw [ej]; exact hq2) fx2
                  rw [et1, et2, et3] at hr
                  exact Ru_weak hr rfl
              · refine Ru_iload (pc := 105) dX1_overNight_105 rfl ?_
                refine Ru_goto (pc := 107) 112 dX1_overNight_107 (by decide) ?_
                refine Ru_istore (pc := 112) dX1_overNight_112 rfl (by decide) ?_
                refine Ru_aload (pc := 114) dX1_overNight_114 rfl ?_
                refine Ru_getR (pc := 116) (pl + 1) dX1_overNight_116 fl_X1_109 (shPlan_0 hpl) rfl (rfX_of (o := pl) (j := 1) (shPlan_0 hpl) rfl) ?_
                refine Ru_iload (pc := 119) dX1_overNight_119 rfl ?_
                refine Ru_iald (pc := 121) dX1_overNight_121 (shPlan_1 hpl) (by omega) ?_
                refine Ru_top (hpj2 n (by omega)).1 ?_
                refine Ru_iconst (pc := 122) (nI 3) dX1_overNight_122 rfl ?_
                refine Ru_icmp_neN (pc := 123) 131 dX1_overNight_123 (by decide) (by omega) (fun h8 => ?_) (fun h8 => ?_)
                · refine Ru_iload (pc := 131) dX1_overNight_131 rfl ?_
                  refine Ru_istore (pc := 133) dX1_overNight_133 rfl (by decide) ?_
                  refine Ru_iincN (pc := 135) 1 dX1_overNight_135 rfl rfl rfl (by decide) ?_
                  refine Ru_goto (pc := 138) 18 dX1_overNight_138 (by decide) ?_
                  have hk1 : ¬ d (521 + 5 * n) = 0 := by assumption
                  have hlf : (jN d q n).2.1 n = false := by assumption
                  have ej : jN d q (n + 1) = jL (jN d q n) n (2 ^ d (523 + 5 * n)) := by
                    rw [jN, if_pos ⟨hk1, hlf⟩]
                  have hr0 : r_dif (2 ^ d (523 + 5 * n)) (jN d q n).1 = 0 := by assumption
                  have hl2 : (jN d q (n + 1)).2.1 n = false := by
                    rw [ej, jL_no hr0]
                    exact hlf
                  have et1 : jTo d (jN d q (n + 1)).2.1 1 (n + 1) = jTo d (jN d q n).2.1 1 n := jTo_no (by decide) (Or.inl (by omega))
                  have et2 : jTo d (jN d q (n + 1)).2.1 2 (n + 1) = d (523 + 5 * n) + 1 := jTo_yes (by omega) hl2
                  have et3 : jTo d (jN d q (n + 1)).2.1 3 (n + 1) = jTo d (jN d q n).2.1 3 n := jTo_no (by decide) (Or.inl (by omega))
                  have hr := ih (d 4 - (n + 1)) (by omega) (n + 1) M2 rfl (by omega) (by rw [ej]; exact hq2) fx2
                  rw [et1, et2, et3] at hr
                  exact Ru_weak hr rfl
                · refine Ru_iload (pc := 126) dX1_overNight_126 rfl ?_
                  refine Ru_goto (pc := 128) 133 dX1_overNight_128 (by decide) ?_
                  refine Ru_istore (pc := 133) dX1_overNight_133 rfl (by decide) ?_
                  refine Ru_iincN (pc := 135) 1 dX1_overNight_135 rfl rfl rfl (by decide) ?_
                  refine Ru_goto (pc := 138) 18 dX1_overNight_138 (by decide) ?_
                  have hk1 : ¬ d (521 + 5 * n) = 0 := by assumption
                  have hlf : (jN d q n).2.1 n = false := by assumption
                  have ej : jN d q (n + 1) = jL (jN d q n) n (2 ^ d (523 + 5 * n)) := by
                    rw [jN, if_pos ⟨hk1, hlf⟩]
                  have hr0 : r_dif (2 ^ d (523 + 5 * n)) (jN d q n).1 = 0 := by assumption
                  have hl2 : (jN d q (n + 1)).2.1 n = false := by
                    rw [ej, jL_no hr0]
                    exact hlf
                  have et1 : jTo d (jN d q (n + 1)).2.1 1 (n + 1) = jTo d (jN d q n).2.1 1 n := jTo_no (by decide) (Or.inl (by omega))
                  have et2 : jTo d (jN d q (n + 1)).2.1 2 (n + 1) = d (523 + 5 * n) + 1 := jTo_yes (by omega) hl2
                  have et3 : jTo d (jN d q (n + 1)).2.1 3 (n + 1) = d (523 + 5 * n) + 1 := jTo_yes (by omega) hl2
                  have hr := ih (d 4 - (n + 1)) (by omega) (n + 1) M2 rfl (by omega) (by rw [ej]; exact hq2) fx2
                  rw [et1, et2, et3] at hr
                  exact Ru_weak hr rfl
            · refine Ru_iload (pc := 84) dX1_overNight_84 rfl ?_
              refine Ru_goto (pc := 86) 91 dX1_overNight_86 (by decide) ?_
              refine Ru_istore (pc := 91) dX1_overNight_91 rfl (by decide) ?_
              refine Ru_aload (pc := 93) dX1_overNight_93 rfl ?_
              refine Ru_getR (pc := 95) (pl + 1) dX1_overNight_95 fl_X1_109 (shPlan_0 hpl) rfl (rfX_of (o := pl) (j := 1) (shPlan_0 hpl) rfl) ?_
              refine Ru_iload (pc := 98) dX1_overNight_98 rfl ?_
              refine Ru_iald (pc := 100) dX1_overNight_100 (shPlan_1 hpl) (by omega) ?_
              refine Ru_top (hpj2 n (by omega)).1 ?_
              refine Ru_iconst (pc := 101) (nI 2) dX1_overNight_101 rfl ?_
              refine Ru_icmp_neN (pc := 102) 110 dX1_overNight_102 (by decide) (by omega) (fun h9 => ?_) (fun h9 => ?_)
              · refine Ru_iload (pc := 110) dX1_overNight_110 rfl ?_
                refine Ru_istore (pc := 112) dX1_overNight_112 rfl (by decide) ?_
                refine Ru_aload (pc := 114) dX1_overNight_114 rfl ?_
                refine Ru_getR (pc := 116) (pl + 1) dX1_overNight_116 fl_X1_109 (shPlan_0 hpl) rfl (rfX_of (o := pl) (j := 1) (shPlan_0 hpl) rfl) ?_
                refine Ru_iload (pc := 119) dX1_overNight_119 rfl ?_
                refine Ru_iald (pc := 121) dX1_overNight_121 (shPlan_1 hpl) (by omega) ?_
                refine Ru_top (hpj2 n (by omega)).1 ?_
                refine Ru_iconst (pc := 122) (nI 3) dX1_overNight_122 rfl ?_
                refine Ru_icmp_neN (pc := 123) 131 dX1_overNight_123 (by decide) (by omega) (fun h10 => ?_) (fun h10 => ?_)
                · refine Ru_iload (pc := 131) dX1_overNight_131 rfl ?_
                  refine Ru_istore (pc := 133) dX1_overNight_133 rfl (by decide) ?_
                  refine Ru_iincN (pc := 135) 1 dX1_overNight_135 rfl rfl rfl (by decide) ?_
                  refine Ru_goto (pc := 138) 18 dX1_overNight_138 (by decide) ?_
                  have hk1 : ¬ d (521 + 5 * n) = 0 := by assumption
                  have hlf : (jN d q n).2.1 n = false := by assumption
                  have ej : jN d q (n + 1) = jL (jN d q n) n (2 ^ d (523 + 5 * n)) := by
                    rw [jN, if_pos ⟨hk1, hlf⟩]
                  have hr0 : r_dif (2 ^ d (523 + 5 * n)) (jN d q n).1 = 0 := by assumption
                  have hl2 : (jN d q (n + 1)).2.1 n = false := by
                    rw [ej, jL_no hr0]
                    exact hlf
                  have et1 : jTo d (jN d q (n + 1)).2.1 1 (n + 1) = d (523 + 5 * n) + 1 := jTo_yes (by omega) hl2
                  have et2 : jTo d (jN d q (n + 1)).2.1 2 (n + 1) = jTo d (jN d q n).2.1 2 n := jTo_no (by decide) (Or.inl (by omega))
                  have et3 : jTo d (jN d q (n + 1)).2.1 3 (n + 1) = jTo d (jN d q n).2.1 3 n := jTo_no (by decide) (Or.inl (by omega))
                  have hr := ih (d 4 - (n + 1)) (by omega) (n + 1) M2 rfl (by omega) (by rw [ej]; exact hq2) fx2
                  rw [et1, et2, et3] at hr
                  exact Ru_weak hr rfl
                · refine Ru_iload (pc := 126) dX1_overNight_126 rfl ?_
                  refine Ru_goto (pc := 128) 133 dX1_overNight_128 (by decide) ?_
                  refine Ru_istore (pc := 133) dX1_overNight_133 rfl (by decide) ?_
                  refine Ru_iincN (pc := 135) 1 dX1_overNight_135 rfl rfl rfl (by decide) ?_
                  refine Ru_goto (pc := 138) 18 dX1_overNight_138 (by decide) ?_
                  have hk1 : ¬ d (521 + 5 * n) = 0 := by assumption
                  have hlf : (jN d q n).2.1 n = false := by assumption
                  have ej : jN d q (n + 1) = jL (jN d q n) n (2 ^ d (523 + 5 * n)) := by
                    rw [jN, if_pos ⟨hk1, hlf⟩]
                  have hr0 : r_dif (2 ^ d (523 + 5 * n)) (jN d q n).1 = 0 := by assumption
                  have hl2 : (jN d q (n + 1)).2.1 n = false := by
                    rw [ej, jL_no hr0]
                    exact hlf
                  have et1 : jTo d (jN d q (n + 1)).2.1 1 (n + 1) = d (523 + 5 * n) + 1 := jTo_yes (by omega) hl2
                  have et2 : jTo d (jN d q (n + 1)).2.1 2 (n + 1) = jTo d (jN d q n).2.1 2 n := jTo_no (by decide) (Or.inl (by omega))
                  have et3 : jTo d (jN d q (n + 1)).2.1 3 (n + 1) = d (523 + 5 * n) + 1 := jTo_yes (by omega) hl2
                  have hr := ih (d 4 - (n + 1)) (by omega) (n + 1) M2 rfl (by omega) (by rw [ej]; exact hq2) fx2
                  rw [et1, et2, et3] at hr
                  exact Ru_weak hr rfl
              · refine Ru_iload (pc := 105) dX1_overNight_105 rfl ?_
                refine Ru_goto (pc := 107) 112 dX1_overNight_107 (by decide) ?_
                refine Ru_istore (pc := 112) dX1_overNight_112 rfl (by decide) ?_
                refine Ru_aload (pc := 114) dX1_overNight_114 rfl ?_
                refine Ru_getR (pc := 116) (pl + 1) dX1_overNight_116 fl_X1_109 (shPlan_0 hpl) rfl (rfX_of (o := pl) (j := 1) (shPlan_0 hpl) rfl) ?_
                refine Ru_iload (pc := 119) dX1_overNight_119 rfl ?_
                refine Ru_iald (pc := 121) dX1_overNight_121 (shPlan_1 hpl) (by omega) ?_
                refine Ru_top (hpj2 n (by omega)).1 ?_
                refine Ru_iconst (pc := 122) (nI 3) dX1_overNight_122 rfl ?_
                refine Ru_icmp_neN (pc := 123) 131 dX1_overNight_123 (by decide) (by omega) (fun h11 => ?_) (fun h11 => ?_)
                · refine Ru_iload (pc := 131) dX1_overNight_131 rfl ?_
                  refine Ru_istore (pc := 133) dX1_overNight_133 rfl (by decide) ?_
                  refine Ru_iincN (pc := 135) 1 dX1_overNight_135 rfl rfl rfl (by decide) ?_
                  refine Ru_goto (pc := 138) 18 dX1_overNight_138 (by decide) ?_
                  have hk1 : ¬ d (521 + 5 * n) = 0 := by assumption
                  have hlf : (jN d q n).2.1 n = false := by assumption
                  have ej : jN d q (n + 1) = jL (jN d q n) n (2 ^ d (523 + 5 * n)) := by
                    rw [jN, if_pos ⟨hk1, hlf⟩]
                  have hr0 : r_dif (2 ^ d (523 + 5 * n)) (jN d q n).1 = 0 := by assumption
                  have hl2 : (jN d q (n + 1)).2.1 n = false := by
                    rw [ej, jL_no hr0]
                    exact hlf
                  have et1 : jTo d (jN d q (n + 1)).2.1 1 (n + 1) = d (523 + 5 * n) + 1 := jTo_yes (by omega) hl2
                  have et2 : jTo d (jN d q (n + 1)).2.1 2 (n + 1) = d (523 + 5 * n) + 1 := jTo_yes (by omega) hl2
                  have et3 : jTo d (jN d q (n + 1)).2.1 3 (n + 1) = jTo d (jN d q n).2.1 3 n := jTo_no (by decide) (Or.inl (by omega))
                  have hr := ih (d 4 - (n + 1)) (by omega) (n + 1) M2 rfl (by omega) (by rw [ej]; exact hq2) fx2
                  rw [et1, et2, et3] at hr
                  exact Ru_weak hr rfl
                · refine Ru_iload (pc := 126) dX1_overNight_126 rfl ?_
                  refine Ru_goto (pc := 128) 133 dX1_overNight_128 (by decide) ?_
                  refine Ru_istore (pc := 133) dX1_overNight_133 rfl (by decide) ?_
                  refine Ru_iincN (pc := 135) 1 dX1_overNight_135 rfl rfl rfl (by decide) ?_
                  refine Ru_goto (pc := 138) 18 dX1_overNight_138 (by decide) ?_
                  have hk1 : ¬ d (521 + 5 * n) = 0 := by assumption
                  have hlf : (jN d q n).2.1 n = false := by assumption
                  have ej : jN d q (n + 1) = jL (jN d q n) n (2 ^ d (523 + 5 * n)) := by
                    rw [jN, if_pos ⟨hk1, hlf⟩]
                  have hr0 : r_dif (2 ^ d (523 + 5 * n)) (jN d q n).1 = 0 := by assumption
                  have hl2 : (jN d q (n + 1)).2.1 n = false := by
                    rw [ej, jL_no hr0]
                    exact hlf
                  have et1 : jTo d (jN d q (n + 1)).2.1 1 (n + 1) = d (523 + 5 * n) + 1 := jTo_yes (by omega) hl2
                  have et2 : jTo d (jN d q (n + 1)).2.1 2 (n + 1) = d (523 + 5 * n) + 1 := jTo_yes (by omega) hl2
                  have et3 : jTo d (jN d q (n + 1)).2.1 3 (n + 1) = d (523 + 5 * n) + 1 := jTo_yes (by omega) hl2
                  have hr := ih (d 4 - (n + 1)) (by omega) (n + 1) M2 rfl (by omega) (by rw [ej]; exact hq2) fx2
                  rw [et1, et2, et3] at hr
                  exact Ru_weak hr rfl

theorem c_X1_overNight {Q : Rq} {M : Mem} {mk t lw pl : Nat} {d : Td} (hu : X_cu mk t lw pl d M) (hx : X_tm t d M) (wf : Wf d) (wj : Wj d) (hpj : X_pj pl d M) (hlw : X_lw lw d M) (hwl : Wl d) {y : Nat} {q : Jt} (hy : y < 2000) (hq8 : q.1 < 256) (hq : X_jt (d 4) q M) (k : ∀ M', r_fx [(46, 0), (46, 2), (67, 2), (67, 3)] [47, 48, 72] M M' → X_jt (d 4) (jN d q (d 4)) M' → Q (some (.int (nI (jNt d y (jN d q (d 4)))))) GX M') : Ca 3 mt_X1_overNight 0 0 [.ref 67, .ref t, .ref 46, .int (nI y)] GX M Q := by
  refine Ca_of rfl (Nat.le_of_ble_eq_true rfl) ?_
  have hb := wf.1
  have ht : isTown t := hu.1.2.2.2
  have hpl : isPlan pl := hu.2.2.2.1
  have hT : t = 3 ∨ t = 83 ∨ t = 111 ∨ t = 139 ∨ t = 167 := ht
  have hP : pl = 26 ∨ pl = 35 ∨ pl = 106 ∨ pl = 134 ∨ pl = 162 ∨ pl = 190 := hpl
  have hlwi : isLaw lw := hu.2.1.2.1
  refine Ru_aload_n (pc := 0) dX1_overNight_0 rfl rfl ?_
  refine Ru_getR (pc := 1) pl dX1_overNight_1 fl_X1_49 (shTown_0 ht) rfl ((rfX_mut (shTown_0 ht) rfl).trans hu.2.2.1) ?_
  refine Ru_astore (pc := 4) dX1_overNight_4 rfl (by decide) ?_
  refine Ru_iconst (pc := 6) (-1) dX1_overNight_6 rfl ?_
  refine Ru_istore (pc := 7) dX1_overNight_7 rfl (by decide) ?_
  refine Ru_iconst (pc := 9) (-1) dX1_overNight_9 rfl ?_
  refine Ru_istore (pc := 10) dX1_overNight_10 rfl (by decide) ?_
  refine Ru_iconst (pc := 12) (-1) dX1_overNight_12 rfl ?_
  refine Ru_istore (pc := 13) dX1_overNight_13 rfl (by decide) ?_
  refine Ru_iconst (pc := 15) (nI 0) dX1_overNight_15 rfl ?_
  refine Ru_istore (pc := 16) dX1_overNight_16 rfl (by decide) ?_
  refine Ru_weak (l_X1_overNight (y := y) (q := q) hu hx wf wj hpj (fun M2 hq2 gx2 => ?_) (d 4) 0 M rfl (Nat.zero_le _) hq r_fx.rf) rfl
  have hu2 : X_cu mk t lw pl d M2 := (X_cu_dp mk t lw pl d).kp gx2 rfl hu
  have hx2 : X_tm t d M2 := (X_tm_dp ht d).kp gx2 rfl hx
  have hlw2 : X_lw lw d M2 := (X_lw_dp hlwi d).kp gx2 rfl hlw
  refine Ru_aload_n (pc := 141) dX1_overNight_141 rfl rfl ?_
  refine Ru_aload_n (pc := 142) dX1_overNight_142 rfl rfl ?_
  refine Ru_aload_n (pc := 143) dX1_overNight_143 rfl rfl ?_
  refine Ru_getR (pc := 144) 70 dX1_overNight_144 fl_X1_21 rfl rfl (rfX_of (o := 67) (j := 3) rfl rfl) ?_
  refine Ru_getI (pc := 147) dX1_overNight_147 fl_X1_103 rfl rfl ?_
  refine Ru_top hq2.1 ?_
  refine Ru_iload_n (pc := 150) dX1_overNight_150 rfl rfl ?_
  refine Ru_bipush (pc := 151) (nI 7) dX1_overNight_151 rfl ?_
  refine Ru_iremN (pc := 153) dX1_overNight_153 (by omega) ?_
  refine Ru_cv3 (pc := 154) dX1_overNight_154 mv_X1_187 rfl (by decide) (Nat.le_of_ble_eq_true rfl) (c_X4_look hu2 hx2 hlw2 wf hwl (s := (jN d q (d 4)).1) (r := y % 7) (by rw [jN_1]; omega) (Nat.mod_lt _ (by decide)) (fun M3 h47 hth hpl3 gx3 => ?_)) 
  have fx3 : r_fx [(46, 0), (46, 2), (67, 2), (67, 3)] [47, 48, 72] M M3 := (gx2.mono rfl).tr (gx3.mono rfl)
  have hq3 : X_jt (d 4) (jN d q (d 4)) M3 := X_jt_fx gx3 hq2 (fun _ => rfl) rfl rfl rfl
  refine Ru_aload_n (pc := 157) dX1_overNight_157 rfl rfl ?_
  refine Ru_iload (pc := 158) dX1_overNight_158 rfl ?_
  refine Ru_iload (pc := 160) dX1_overNight_160 rfl ?_
  refine Ru_iload (pc := 162) dX1_overNight_162 rfl ?_
  refine Ru_cv3 (pc := 164) dX1_overNight_164 mv_X1_192 rfl (by decide) (Nat.le_of_ble_eq_true rfl) (c_X4_left (s := (jN d q (d 4)).1) (r := y % 7) (w := (jTo d (jN d q (d 4)).2.1 1 (d 4))) (h := (jTo d (jN d q (d 4)).2.1 2 (d 4))) (v := (jTo d (jN d q (d 4)).2.1 3 (d 4))) hb.1 h47 hth hpl3 ⟨jTo_le wj (by decide) _ (Nat.le_refl _), jTo_le wj (by decide) _ (Nat.le_refl _), jTo_le wj (by decide) _ (Nat.le_refl _)⟩ ?_) 
  refine Ru_iret (pc := 167) dX1_overNight_167 rfl ⟨Nat.le_refl _, Nat.le_refl _⟩ ?_
  exact k M3 fx3 hq3
