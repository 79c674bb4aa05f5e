-- DEEDS OF THE DEVELOPERS' OWN: one day and its night
theorem pw8_6 {d : Td} (wf : Wf d) : 2 ^ d 2 ≤ 64 := Nat.le_trans (Nat.pow_le_pow_right (by decide) wf.1.2.2.1) (by decide)

theorem l_X1_live_a {Q : Rq} {M0 : Mem} {mk t lw pl : Nat} {d : Td} (hu0 : X_cu mk t lw pl d M0) (hx0 : X_tm t d M0) (wf : Wf d) (wj : Wj d) (hpj0 : X_pj pl d M0) {y ill : Nat} (hill : ill < 64) (hw0 : ∀ j, j < d 4 → M0.1 71 j = nI (jW d j)) (k : ∀ M, (∀ i, i < d 4 → M.1 72 i = r_b (jL0 d ill i)) → r_fx [] [72] M0 M → Ru 4 mt_X1_live r_z 66 [(0, some (.ref 67)), (1, some (.ref t)), (2, some (.ref 46)), (3, some (.int (nI y))), (4, some (.int (nI ill))), (5, some (.ref pl))] [] GX M Q) : ∀ (zw : Nat) (n : Nat) (M : Mem), d 4 - n = zw → (n ≤ d 4) → (∀ i, i < n → M.1 72 i = r_b (jL0 d ill i)) → (r_fx [] [72] M0 M) → Ru 4 mt_X1_live r_z 14 [(0, some (.ref 67)), (1, some (.ref t)), (2, some (.ref 46)), (3, some (.int (nI y))), (4, some (.int (nI ill))), (5, some (.ref pl)), (6, some (.int (nI n)))] [] GX M Q := by
  intro zw
  induction zw using Nat.strongRecOn with
  | ind zw ih =>
    intro n M hw hn hls fx
    subst hw
    have hb := wf.1
    have ht : isTown t := hu0.1.2.2.2
    have hpl : isPlan pl := hu0.2.2.2.1
    have hT : t = 3 ∨ t = 83 ∨ t = 111 ∨ t = 139 ∨ t = 167 := ht
    have hP : pl = 26 ∨ pl = 35 ∨ pl = 106 ∨ pl = 134 ∨ pl = 162 ∨ pl = 190 := hpl
    have hu : X_cu mk t lw pl d M := (X_cu_dp mk t lw pl d).kp fx rfl hu0
    have hx : X_tm t d M := (X_tm_dp ht d).kp fx rfl hx0
    have hpj : X_pj pl d M := (X_pj_dp hpl d).kp fx rfl hpj0
    refine Ru_iload (pc := 14) dX1_live_14 rfl ?_
    refine Ru_aload (pc := 16) dX1_live_16 rfl ?_
    refine Ru_getI (pc := 18) dX1_live_18 fl_X1_55 (shPlan_0 hpl) rfl ?_
    refine Ru_top hu.2.2.2.2.2 ?_
    refine Ru_icmp_geN (pc := 21) 66 dX1_live_21 (by decide) (by omega) (fun h1 => ?_) (fun h1 => ?_)
    · have en : n = d 4 := by omega
      subst en
      exact Ru_weak (k M hls fx) rfl
    · refine Ru_aload_n (pc := 24) dX1_live_24 rfl rfl ?_
      refine Ru_getR (pc := 25) 72 dX1_live_25 fl_X1_28 rfl rfl (rfX_of (o := 67) (j := 5) rfl rfl) ?_
      refine Ru_iload (pc := 28) dX1_live_28 rfl ?_
      refine Ru_aload_n (pc := 30) dX1_live_30 rfl rfl ?_
      refine Ru_getR (pc := 31) 71 dX1_live_31 fl_X1_25 rfl rfl (rfX_of (o := 67) (j := 4) rfl rfl) ?_
      refine Ru_iload (pc := 34) dX1_live_34 rfl ?_
      refine Ru_iald (pc := 36) dX1_live_36 rfl (by omega) ?_
      refine Ru_top ((fx 71 n rfl).1.trans (hw0 n (by omega))) ?_
      refine Ru_if_neN (pc := 37) 54 dX1_live_37 (by decide) (by have := jW_le d n; omega) (fun h2 => ?_) (fun h2 => ?_)
      · refine Ru_iconst (pc := 54) (nI 1) dX1_live_54 rfl ?_
        refine Ru_goto (pc := 55) 59 dX1_live_55 (by decide) ?_
        refine Ru_zast (pc := 59) rfl dX1_live_59 rfl (by omega) (Or.inr rfl) ?_
        refine Ru_iincN (pc := 60) 1 dX1_live_60 rfl rfl rfl (by decide) ?_
        refine Ru_goto (pc := 63) 14 dX1_live_63 (by decide) ?_
        refine Ru_weak (ih (d 4 - (n + 1)) (by omega) (n + 1) _ rfl (by omega) (fun i hi => ?_) (r_fx.sI rfl fx)) rfl
        rw [r_sI_g]
        by_cases e : i = n
        · subst e
          rw [if_pos ⟨rfl, rfl⟩]
          have ej : jL0 d ill i = true := by
            unfold jL0
            rw [decide_eq_true (show ¬ jW d i = 0 by assumption), Bool.true_or]
          rw [ej]
          rfl
        · rw [if_neg (fun z => e z.2)]
          exact hls i (by omega)
      · refine Ru_aload (pc := 40) dX1_live_40 rfl ?_
        refine Ru_getR (pc := 42) (pl + 4) dX1_live_42 fl_X1_122 (shPlan_0 hpl) rfl (rfX_of (o := pl) (j := 4) (shPlan_0 hpl) rfl) ?_
        refine Ru_iload (pc := 45) dX1_live_45 rfl ?_
        refine Ru_iald (pc := 47) dX1_live_47 (shPlan_4 hpl) (by omega) ?_
        refine Ru_top (hpj n (by omega)).2.2.2 ?_
        refine Ru_iload (pc := 48) dX1_live_48 rfl ?_
        refine Ru_iandN (pc := 50) dX1_live_50 ?_
        refine Ru_if_eqN (pc := 51) 58 dX1_live_51 (by decide) (Nat.lt_of_le_of_lt Nat.and_le_right (by omega)) (fun h3 => ?_) (fun h3 => ?_)
        · refine Ru_iconst (pc := 58) (nI 0) dX1_live_58 rfl ?_
          refine Ru_zast (pc := 59) rfl dX1_live_59 rfl (by omega) (Or.inl rfl) ?_
          refine Ru_iincN (pc := 60) 1 dX1_live_60 rfl rfl rfl (by decide) ?_
          refine Ru_goto (pc := 63) 14 dX1_live_63 (by decide) ?_
          refine Ru_weak (ih (d 4 - (n + 1)) (by omega) (n + 1) _ rfl (by omega) (fun i hi => ?_) (r_fx.sI rfl fx)) rfl
          rw [r_sI_g]
          by_cases e : i = n
          · subst e
            rw [if_pos ⟨rfl, rfl⟩]
            have ej : jL0 d ill i = false := by
              unfold jL0
              rw [decide_eq_false (fun z => z (show jW d i = 0 by assumption)), decide_eq_false (fun z => z (show d (524 + 5 * i) &&& ill = 0 by assumption))]
              rfl
            rw [ej]
            rfl
          · rw [if_neg (fun z => e z.2)]
            exact hls i (by omega)
        · refine Ru_iconst (pc := 54) (nI 1) dX1_live_54 rfl ?_
          refine Ru_goto (pc := 55) 59 dX1_live_55 (by decide) ?_
          refine Ru_zast (pc := 59) rfl dX1_live_59 rfl (by omega) (Or.inr rfl) ?_
          refine Ru_iincN (pc := 60) 1 dX1_live_60 rfl rfl rfl (by decide) ?_
          refine Ru_goto (pc := 63) 14 dX1_live_63 (by decide) ?_
          refine Ru_weak (ih (d 4 - (n + 1)) (by omega) (n + 1) _ rfl (by omega) (fun i hi => ?_) (r_fx.sI rfl fx)) rfl
          rw [r_sI_g]
          by_cases e : i = n
          · subst e
            rw [if_pos ⟨rfl, rfl⟩]
            have ej : jL0 d ill i = true := by
              unfold jL0
              rw [decide_eq_true (show ¬ d (524 + 5 * i) &&& ill = 0 by assumption), Bool.or_true]
            rw [ej]
            rfl
          · rw [if_neg (fun z => e z.2)]
            exact hls i (by omega)

theorem l_X1_live_b {Q : Rq} {M0 : Mem} {t pl y ill : Nat} (k : ∀ M, (∀ e, e ≤ 24 → M.1 73 e = nI 0) → r_fx [] [73] M0 M → Ru 4 mt_X1_live r_z 90 [(0, some (.ref 67)), (1, some (.ref t)), (2, some (.ref 46)), (3, some (.int (nI y))), (4, some (.int (nI ill))), (5, some (.ref pl))] [] GX M Q) : ∀ (zw : Nat) (n : Nat) (M : Mem), 25 - n = zw → (n ≤ 25) → (∀ i, i < n → M.1 73 i = nI 0) → (r_fx [] [73] M0 M) → Ru 4 mt_X1_live r_z 69 [(0, some (.ref 67)), (1, some (.ref t)), (2, some (.ref 46)), (3, some (.int (nI y))), (4, some (.int (nI ill))), (5, some (.ref pl)), (6, some (.int (nI n)))] [] GX M Q := by
  intro zw
  induction zw using Nat.strongRecOn with
  | ind zw ih =>
    intro n M hw hn hgs fx
    subst hw
    refine Ru_iload (pc := 69) dX1_live_69 rfl ?_
    refine Ru_bipush (pc := 71) (nI 24) dX1_live_71 rfl ?_
    refine Ru_icmp_gtN (pc := 73) 90 dX1_live_73 (by decide) (by omega) (fun h1 => ?_) (fun h1 => ?_)
    · exact Ru_weak (k M (fun e he => hgs e (by omega)) fx) rfl
    · refine Ru_aload_n (pc := 76) dX1_live_76 rfl rfl ?_
      refine Ru_getR (pc := 77) 73 dX1_live_77 fl_X1_32 rfl rfl (rfX_of (o := 67) (j := 6) rfl rfl) ?_
      refine Ru_iload (pc := 80) dX1_live_80 rfl ?_
      refine Ru_iconst (pc := 82) (nI 0) dX1_live_82 rfl ?_
      refine Ru_iast (pc := 83) rfl dX1_live_83 rfl (by omega) ?_
      refine Ru_iincN (pc := 84) 1 dX1_live_84 rfl rfl rfl (by decide) ?_
      refine Ru_goto (pc := 87) 69 dX1_live_87 (by decide) ?_
      refine Ru_weak (ih (25 - (n + 1)) (by omega) (n + 1) _ rfl (by omega) (fun i hi => ?_) (r_fx.sI rfl fx)) rfl
      rw [r_sI_g]
      by_cases e : i = n
      · subst e
        rw [if_pos ⟨rfl, rfl⟩]
      · rw [if_neg (fun z => e z.2)]
        exact hgs i (by omega)

theorem l_X1_live_e {Q : Rq} {M : Mem} {mk t lw pl : Nat} {d : Td} {y ill : Nat} {L : Nat → Bool} (hu : X_cu mk t lw pl d M) (wf : Wf d) (hL : ∀ i, i < d 4 → M.1 72 i = r_b (L i)) (k : Q (some (.int (nI (jCt L (d 4))))) GX M) : ∀ (zw : Nat) (n : Nat), d 4 - n = zw → (n ≤ d 4) → Ru 4 mt_X1_live r_z 247 [(0, some (.ref 67)), (1, some (.ref t)), (2, some (.ref 46)), (3, some (.int (nI y))), (4, some (.int (nI ill))), (5, some (.ref pl)), (6, some (.int (nI (jCt L n)))), (7, some (.int (nI n)))] [] GX M Q := by
  intro zw
  induction zw using Nat.strongRecOn with
  | ind zw ih =>
    intro n hw hn
    subst hw
    have hb := wf.1
    have ht : isTown t := hu.1.2.2.2
    have hpl : isPlan pl := hu.2.2.2.1
    refine Ru_iload (pc := 247) dX1_live_247 rfl ?_
    refine Ru_aload (pc := 249) dX1_live_249 rfl ?_
    refine Ru_getI (pc := 251) dX1_live_251 fl_X1_55 (shPlan_0 hpl) rfl ?_
    refine Ru_top hu.2.2.2.2.2 ?_
    refine Ru_icmp_geN (pc := 254) 283 dX1_live_254 (by decide) (by omega) (fun h1 => ?_) (fun h1 => ?_)
    · refine Ru_iload (pc := 283) dX1_live_283 rfl ?_
      refine Ru_iret (pc := 285) dX1_live_285 rfl ⟨Nat.le_refl _, Nat.le_refl _⟩ ?_
      have en : n = d 4 := by omega
      subst en
      exact k
    · refine Ru_iload (pc := 257) dX1_live_257 rfl ?_
      refine Ru_aload_n (pc := 259) dX1_live_259 rfl rfl ?_
      refine Ru_getR (pc := 260) 72 dX1_live_260 fl_X1_28 rfl rfl (rfX_of (o := 67) (j := 5) rfl rfl) ?_
      refine Ru_iload (pc := 263) dX1_live_263 rfl ?_
      refine Ru_zald (pc := 265) dX1_live_265 rfl (by omega) ?_
      refine Ru_top (hL n (by omega)) ?_
      refine Ru_if_eqB (pc := 266) 273 dX1_live_266 (by decide) (fun h2 => ?_) (fun h2 => ?_)
      · refine Ru_iconst (pc := 273) (nI 0) dX1_live_273 rfl ?_
        refine Ru_iaddN (pc := 274) dX1_live_274 ?_
        refine Ru_istore (pc := 275) dX1_live_275 rfl (by decide) ?_
        refine Ru_iincN (pc := 277) 1 dX1_live_277 rfl rfl rfl (by decide) ?_
        refine Ru_goto (pc := 280) 247 dX1_live_280 (by decide) ?_
        have e : jCt L (n + 1) = ((jCt L n) + 0) := by
          rw [jCt, if_neg (nb_f (by assumption))]
        have hr := ih (d 4 - (n + 1)) (by omega) (n + 1) rfl (by omega)
        rw [e] at hr
        exact Ru_weak hr rfl
      · refine Ru_iconst (pc := 269) (nI 1) dX1_live_269 rfl ?_
        refine Ru_goto (pc := 270) 274 dX1_live_270 (by decide) ?_
        refine Ru_iaddN (pc := 274) dX1_live_274 ?_
        refine Ru_istore (pc := 275) dX1_live_275 rfl (by decide) ?_
        refine Ru_iincN (pc := 277) 1 dX1_live_277 rfl rfl rfl (by decide) ?_
        refine Ru_goto (pc := 280) 247 dX1_live_280 (by decide) ?_
        have e : jCt L (n + 1) = ((jCt L n) + 1) := by
          rw [jCt, if_pos (by assumption)]
        have hr := ih (d 4 - (n + 1)) (by omega) (n + 1) rfl (by omega)
        rw [e] at hr
        exact Ru_weak hr rfl

theorem c_X1_live {Q : Rq} {M : Mem} {mk t lw pl : Nat} {d : Td} (hu : X_cu mk t lw pl d M) (hx : X_tm t d M) (wf : Wf d) (wj : Wj d) (hpj : X_pj pl d M) (hlw : X_lw lw d M) (hwl : Wl d) {y s ill W0 H0 : Nat} (hy : y < 2000) (hs : s < 2 ^ d 0) (hill : ill < 64) (hwy : ∀ j, j < d 4 → M.1 71 j = nI (jW d j)) (h0 : M.1 70 0 = nI s) (h1 : M.1 70 1 = nI W0) (h2 : M.1 70 2 = nI H0) (k : ∀ M', r_fx [(46, 0), (46, 2), (67, 2), (67, 3), (70, 0), (70, 1), (70, 2)] [47, 48, 72, 73, 74] M M' → M'.1 70 0 = nI (jNt d y (jQ d s ill)) → M'.1 70 1 = nI (W0 + (jX d s ill).2.1) → M'.1 70 2 = nI (H0 + (jX d s ill).2.2) → (M'.1 67 3 = nM (jQ d s ill).2.2.1 ∧ (jQ d s ill).2.2.1 ≤ 24) → (¬ (jQ d s ill).2.2.1 = 0 → M'.1 67 2 = nI (jQ d s ill).2.2.2) → (∀ t, t ≤ 25 → M'.1 74 t = nI (jSn d s y ill t)) → Q (some (.int (nI (jCt (jQ d s ill).2.1 (d 4))))) GX M') : Ca 4 mt_X1_live 0 0 [.ref 67, .ref t, .ref 46, .int (nI y), .int (nI ill)] GX M Q := by
  refine Ca_of rfl (Nat.le_of_ble_eq_true rfl) ?_
  have hb := wf.1
  have ht : isTown t := hu.1.2.2.2
  have hpl : isPlan pl := hu.2.2.2.1
  have hT : t = 3 ∨ t = 83 ∨ t = 111 ∨ t = 139 ∨ t = 167 := ht
  have hP : pl = 26 ∨ pl = 35 ∨ pl = 106 ∨ pl = 134 ∨ pl = 162 ∨ pl = 190 := hpl
  have hlwi : isLaw lw := hu.2.1.2.1
  have hp := pw_le hb.1
  refine Ru_aload_n (pc := 0) dX1_live_0 rfl rfl ?_
  refine Ru_getR (pc := 1) pl dX1_live_1 fl_X1_49 (shTown_0 ht) rfl ((rfX_mut (shTown_0 ht) rfl).trans hu.2.2.1) ?_
  refine Ru_astore (pc := 4) dX1_live_4 rfl (by decide) ?_
  refine Ru_aload_n (pc := 6) dX1_live_6 rfl rfl ?_
  refine Ru_iconst (pc := 7) (-1) dX1_live_7 rfl ?_
  refine Ru_putI (pc := 8) rfl dX1_live_8 fl_X1_68 rfl ?_
  refine Ru_iconst (pc := 11) (nI 0) dX1_live_11 rfl ?_
  refine Ru_istore (pc := 12) dX1_live_12 rfl (by decide) ?_
  have hM1 : ∃ M1, M1 = r_sI M 67 3 (-1) := ⟨_, rfl⟩
  obtain ⟨M1, eM1⟩ := hM1
  rw [← eM1]
  have gx1 : r_fx [(67, 3)] [] M M1 := by
    rw [eM1]
    exact r_fx.sI rfl r_fx.rf
  have hm1 : M1.1 67 3 = nM 0 := by
    rw [eM1]
    exact r_sI_s
  have hw1 : ∀ j, j < d 4 → M1.1 71 j = nI (jW d j) := fun j hj => (gx1 71 j rfl).1.trans (hwy j hj)
  have hu1 : X_cu mk t lw pl d M1 := (X_cu_dp mk t lw pl d).kp gx1 rfl hu
  have hx1 : X_tm t d M1 := (X_tm_dp ht d).kp gx1 rfl hx
  have hpj1 : X_pj pl d M1 := (X_pj_dp hpl d).kp gx1 rfl hpj
  have hlw1 : X_lw lw d M1 := (X_lw_dp hlwi d).kp gx1 rfl hlw
  refine Ru_weak (l_X1_live_a (y := y) (ill := ill) hu1 hx1 wf wj hpj1 hill hw1 (fun M2 hls2 gx2 => ?_) (d 4) 0 M1 rfl (Nat.zero_le _) (fun i hi => by omega) r_fx.rf) rfl
  have fx2 : r_fx [(67, 3)] [72] M M2 := (gx1.mono rfl).tr (gx2.mono rfl)
  refine Ru_iconst (pc := 66) (nI 0) dX1_live_66 rfl ?_
  refine Ru_istore (pc := 67) dX1_live_67 rfl (by decide) ?_
  refine Ru_weak (l_X1_live_b (t := t) (pl := pl) (y := y) (ill := ill) (fun M3 hgs3 gx3 => ?_) 25 0 M2 rfl (Nat.zero_le _) (fun i hi => by omega) r_fx.rf) rfl
  have fx3 : r_fx [(67, 3)] [72, 73] M M3 := (fx2.mono rfl).tr (gx3.mono rfl)
  have hu3 : X_cu mk t lw pl d M3 := (X_cu_dp mk t lw pl d).kp fx3 rfl hu
  have hx3 : X_tm t d M3 := (X_tm_dp ht d).kp fx3 rfl hx
  have hpj3 : X_pj pl d M3 := (X_pj_dp hpl d).kp fx3 rfl hpj
  have hlw3 : X_lw lw d M3 := (X_lw_dp hlwi d).kp fx3 rfl hlw
  have hq3 : X_jt (d 4) (jX0 d s ill).1 M3 := ⟨(fx3 70 0 rfl).1.trans h0, fun i hi => (gx3 72 i rfl).1.trans (hls2 i hi), ⟨(gx3 67 3 rfl).1.trans ((gx2 67 3 rfl).1.trans hm1), Nat.zero_le _⟩, fun z => absurd rfl z⟩
  refine Ru_iconst (pc := 90) (nI 0) dX1_live_90 rfl ?_
  refine Ru_istore (pc := 91) dX1_live_91 rfl (by decide) ?_
  have hLE0 : ∀ i, i < d 4 → (jX0 d s ill).1.2.1 i = false → d (521 + 5 * i) = 0 → jE d i ≤ 24 := fun i _ z1 z2 => by
    refine jW_end ?_ z2
    apply Classical.byContradiction
    intro z3
    have z4 : jL0 d ill i = false := z1
    unfold jL0 at z4
    rw [decide_eq_true z3, Bool.true_or] at z4
    cases z4
  refine Ru_weak (l_X1_live_c (y := y) (ill := ill) (W0 := W0) (H0 := H0) (x0 := (jX0 d s ill)) hu3 hx3 wf wj hpj3 hLE0 (fun M4 hq4 h71d h72d hsn4 gx4 => ?_) 25 0 M3 rfl (Nat.zero_le _) hq3 ((fx3 70 1 rfl).1.trans h1) ((fx3 70 2 rfl).1.trans h2) (fun e he => (hgs3 e he).trans (congrArg nI (jPg_z _).symm)) (fun i hi => by omega) r_fx.rf) rfl
  have fx4 : r_fx [(67, 2), (67, 3), (70, 0), (70, 1), (70, 2)] [72, 73, 74] M M4 := (fx3.mono rfl).tr gx4
  have hu4 : X_cu mk t lw pl d M4 := (X_cu_dp mk t lw pl d).kp fx4 rfl hu
  have hx4 : X_tm t d M4 := (X_tm_dp ht d).kp fx4 rfl hx
  have hpj4 : X_pj pl d M4 := (X_pj_dp hpl d).kp fx4 rfl hpj
  have hlw4 : X_lw lw d M4 := (X_lw_dp hlwi d).kp fx4 rfl hlw
  have hj8 : (jT d (jX0 d s ill) 25).1.1 < 2 ^ d 0 := jT_lt wf wj hs 25
  refine Ru_aload_n (pc := 213) dX1_live_213 rfl rfl ?_
  refine Ru_getR (pc := 214) 70 dX1_live_214 fl_X1_21 rfl rfl (rfX_of (o := 67) (j := 3) rfl rfl) ?_
  refine Ru_aload_n (pc := 217) dX1_live_217 rfl rfl ?_
  refine Ru_aload_n (pc := 218) dX1_live_218 rfl rfl ?_
  refine Ru_aload_n (pc := 219) dX1_live_219 rfl rfl ?_
  refine Ru_iload_n (pc := 220) dX1_live_220 rfl rfl ?_
  refine Ru_cv3 (pc := 221) dX1_live_221 mv_X1_164 rfl (by decide) (Nat.le_of_ble_eq_true rfl) (c_X1_overNight hu4 hx4 wf wj hpj4 hlw4 hwl hy (by omega) hq4 (fun M5 gx5 hq5 => ?_)) 
  have fx5 : r_fx [(46, 0), (46, 2), (67, 2), (67, 3), (70, 0), (70, 1), (70, 2)] [47, 48, 72, 73, 74] M M5 := (fx4.mono rfl).tr (gx5.mono rfl)
  have hu5 : X_cu mk t lw pl d M5 := (X_cu_dp mk t lw pl d).kp fx5 rfl hu
  refine Ru_putI (pc := 224) rfl dX1_live_224 fl_X1_103 rfl ?_
  refine Ru_aload_n (pc := 227) dX1_live_227 rfl rfl ?_
  refine Ru_getR (pc := 228) 74 dX1_live_228 fl_X1_35 rfl rfl (rfX_of (o := 67) (j := 7) rfl rfl) ?_
  refine Ru_bipush (pc := 231) (nI 25) dX1_live_231 rfl ?_
  refine Ru_aload_n (pc := 233) dX1_live_233 rfl rfl ?_
  refine Ru_getR (pc := 234) 70 dX1_live_234 fl_X1_21 rfl rfl (rfX_of (o := 67) (j := 3) rfl rfl) ?_
  refine Ru_getI (pc := 237) dX1_live_237 fl_X1_103 rfl rfl ?_
  refine Ru_top r_sI_s ?_
  refine Ru_iast (pc := 240) rfl dX1_live_240 rfl (by omega) ?_
  refine Ru_iconst (pc := 241) (nI 0) dX1_live_241 rfl ?_
  refine Ru_istore (pc := 242) dX1_live_242 rfl (by decide) ?_
  refine Ru_iconst (pc := 244) (nI 0) dX1_live_244 rfl ?_
  refine Ru_istore (pc := 245) dX1_live_245 rfl (by decide) ?_
  have hu6 : X_cu mk t lw pl d (r_sI (r_sI M5 70 0 (nI (jNt d y (jQ d s ill)))) 74 25 (nI (jNt d y (jQ d s ill)))) := (X_cu_dp mk t lw pl d).kp (F := [(46, 0), (46, 2), (67, 2), (67, 3), (70, 0), (70, 1), (70, 2)]) (A := [47, 48, 72, 73, 74]) (r_fx.sI rfl (r_fx.sI rfl fx5)) rfl hu
  refine Ru_weak (l_X1_live_e (M := (r_sI (r_sI M5 70 0 (nI (jNt d y (jQ d s ill)))) 74 25 (nI (jNt d y (jQ d s ill))))) (L := (jQ d s ill).2.1) (y := y) (ill := ill) hu6 wf (fun i hi => ?_) ?_ (d 4) 0 rfl (Nat.zero_le _)) rfl
  · exact (r_sI_n (by omega)).trans ((r_sI_n (by omega)).trans (hq5.2.1 i hi))
  · refine k _ (r_fx.sI rfl (r_fx.sI rfl fx5)) ?_ ?_ ?_ ⟨?_, hq5.2.2.1.2⟩ (fun z => ?_) (fun u hu9 => ?_)
    · exact (r_sI_n (by omega)).trans r_sI_s
    · exact (r_sI_n (by omega)).trans ((r_sI_n (by omega)).trans ((gx5 70 1 rfl).1.trans h71d))
    · exact (r_sI_n (by omega)).trans ((r_sI_n (by omega)).trans ((gx5 70 2 rfl).1.trans h72d))
    · exact (r_sI_n (by omega)).trans ((r_sI_n (by omega)).trans hq5.2.2.1.1)
    · exact (r_sI_n (by omega)).trans ((r_sI_n (by omega)).trans (hq5.2.2.2 z))
    · unfold jSn
      rw [r_sI_g]
      by_cases e : u = 25
      · subst e
        rw [if_pos ⟨rfl, rfl⟩, if_neg (by omega)]
      · rw [if_neg (fun z => e z.2), r_sI_g, if_neg (by omega), if_pos (by omega)]
        exact (gx5 74 u rfl).1.trans (hsn4 u (by omega))
