def bgN (d : Td) (V : Vt) (m tm s : Nat) : Nat := if r_dif (sNd d m) s = 0 then dBm d V m tm s + 1 else 0
theorem c_X0_begun1 {Q : Rq} {M : Mem} {t m tm s : Nat} {d : Td} {V : Vt} (ht : isTown t) (hx : X_tm t d M) (wf : Wf d) (htw : M.2.2 55 0 = some t) (hm : m < d 1) (hte : tm + d (41 + m) ≤ 24) (hs : s < 2 ^ d 0) (hV : ∀ t' s', tm < t' → t' ≤ 24 → s' < 2 ^ d 0 → M.1 56 (t' * 256 + s') = nI (V t' s')) (k : ∀ M', r_fx [(61, 0), (61, 1), (61, 2)] [] M M' → Q (some (.int (nM (bgN d V m tm s)))) GX M') : Ca 2 mt_X0_begun 0 0 [.ref 55, .int (nI m), .int (nI tm), .int (nI s)] GX M Q := by
  refine c_X0_begun ht hx wf htw hm hte hs hV (fun z => ?_) (fun M' z fx => ?_)
  · have h := k M r_fx.rf
    unfold bgN at h
    rw [if_neg z] at h
    exact h
  · have h := k M' fx
    unfold bgN at h
    rw [if_pos z] at h
    exact h

theorem c_X0_bestFrom {Q : Rq} {M : Mem} {a b v : Nat} (ha : a ≤ 24) (hb : b < 256) (hv : M.1 56 (a * 256 + b) = nI v) (k : Q (some (.int (nI v))) GX M) : Ca 0 mt_X0_bestFrom 0 0 [.ref 55, .int (nI a), .int (nI b)] GX M Q := by
  refine Ca_of rfl (Nat.le_of_ble_eq_true rfl) ?_
  refine Ru_aload_n (pc := 0) dX0_bestFrom_0 rfl rfl ?_
  refine Ru_getR (pc := 1) 56 dX0_bestFrom_1 fl_X0_9 rfl rfl (rfX_of (o := 55) (j := 1) rfl rfl) ?_
  refine Ru_iload_n (pc := 4) dX0_bestFrom_4 rfl rfl ?_
  refine Ru_sipush (pc := 5) (nI 256) dX0_bestFrom_5 rfl ?_
  refine Ru_imulN (pc := 8) dX0_bestFrom_8 ?_
  refine Ru_iload_n (pc := 9) dX0_bestFrom_9 rfl rfl ?_
  refine Ru_iaddN (pc := 10) dX0_bestFrom_10 ?_
  refine Ru_iald (pc := 11) dX0_bestFrom_11 rfl (by omega) ?_
  refine Ru_top hv ?_
  refine Ru_iret (pc := 12) dX0_bestFrom_12 rfl ⟨Nat.le_refl _, Nat.le_refl _⟩ ?_
  exact k

theorem c_X0_alwaysIn {Q : Rq} {M : Mem} {a b : Nat} (ha : a ≤ 8) (hb : b < 256) (k : ∀ M', r_fx [] [59] M M' → (∀ i, M'.1 59 i = if i = a ∧ 0 < a then nI b else M.1 59 i) → Q none GX M') : Ca 0 mt_X0_alwaysIn 0 0 [.ref 55, .int (nI a), .int (nI b)] GX M Q := by
  refine Ca_of rfl (Nat.le_of_ble_eq_true rfl) ?_
  refine Ru_iload_n (pc := 0) dX0_alwaysIn_0 rfl rfl ?_
  refine Ru_if_leN (pc := 1) 17 dX0_alwaysIn_1 (by decide) (by omega) (fun h1 => ?_) (fun h1 => ?_)
  · refine Ru_vret (pc := 17) dX0_alwaysIn_17 rfl ⟨Nat.le_refl _, Nat.le_refl _⟩ ?_
    refine k _ r_fx.rf (fun i => ?_)
    rw [if_neg (by omega)]
  · refine Ru_iload_n (pc := 4) dX0_alwaysIn_4 rfl rfl ?_
    refine Ru_bipush (pc := 5) (nI 9) dX0_alwaysIn_5 rfl ?_
    refine Ru_icmp_geN (pc := 7) 17 dX0_alwaysIn_7 (by decide) (by omega) (fun h2 => ?_) (fun h2 => ?_)
    · refine Ru_vret (pc := 17) dX0_alwaysIn_17 rfl ⟨Nat.le_refl _, Nat.le_refl _⟩ ?_
      refine k _ r_fx.rf (fun i => ?_)
      rw [if_neg (by omega)]
    · refine Ru_aload_n (pc := 10) dX0_alwaysIn_10 rfl rfl ?_
      refine Ru_getR (pc := 11) 59 dX0_alwaysIn_11 fl_X0_21 rfl rfl (rfX_of (o := 55) (j := 4) rfl rfl) ?_
      refine Ru_iload_n (pc := 14) dX0_alwaysIn_14 rfl rfl ?_
      refine Ru_iload_n (pc := 15) dX0_alwaysIn_15 rfl rfl ?_
      refine Ru_iast (pc := 16) rfl dX0_alwaysIn_16 rfl (by omega) ?_
      refine Ru_vret (pc := 17) dX0_alwaysIn_17 rfl ⟨Nat.le_refl _, Nat.le_refl _⟩ ?_
      refine k _ (r_fx.sI rfl r_fx.rf) (fun i => ?_)
      by_cases e : i = a
      · subst e
        rw [if_pos ⟨rfl, by omega⟩]
        simp [r_sI_g]
      · rw [if_neg (fun z => e z.1)]
        simp [r_sI_g, e]

theorem l_X0_firstBest {Q : Rq} {M0 : Mem} {t tm s : Nat} {d : Td} {V : Vt} (ht : isTown t) (hx0 : X_tm t d M0) (wf : Wf d) (htw0 : M0.2.2 55 0 = some t) (htm : tm < 24) (hs : s < 2 ^ d 0) (hV0 : ∀ t' s', tm < t' → t' ≤ 24 → s' < 2 ^ d 0 → M0.1 56 (t' * 256 + s') = nI (V t' s')) (hVb : ∀ t' s', V t' s' ≤ 100000000) (k : ∀ M', r_fx [(61, 0), (61, 1), (61, 2)] [] M0 M' → Q (some (.int (nM (dFs d V tm s (dMf d V tm s (d 1)) (d 1))))) GX M') : ∀ (zw : Nat) (m : Nat) (M : Mem), d 1 - m = zw → (m ≤ d 1) → (r_fx [(61, 0), (61, 1), (61, 2)] [] M0 M) → Ru 3 mt_X0_firstBest r_z 21 [(3, some (.int (nM (dFs d V tm s (dMf d V tm s m) m)))), (4, some (.int (nI (dMf d V tm s m)))), (5, some (.int (nI m))), (0, some (.ref 55)), (1, some (.int (nI tm))), (2, some (.int (nI s)))] [] GX M Q := by
  intro zw
  induction zw using Nat.strongRecOn with
  | ind zw ih =>
    intro m M hw hn fx
    subst hw
    have hb := wf.1
    have hp := pw_le hb.1
    have hx : X_tm t d M := (X_tm_dp ht d).kp fx rfl hx0
    have htw : M.2.2 55 0 = some t := (fx 55 0 rfl).2.2.trans htw0
    have hV : ∀ t' s', tm < t' → t' ≤ 24 → s' < 2 ^ d 0 → M.1 56 (t' * 256 + s') = nI (V t' s') := fun t' s' h1 h2 h3 => (fx 56 _ rfl).1.trans (hV0 t' s' h1 h2 h3)
    have em1 : (-1 : Int32).toInt = -1 := rfl
    have hmb := dMf_b2 wf (t := tm) (s := s) hVb m hn
    have hst := dFs_st (d := d) (V := V) (t := tm) (s := s) (m := m)
    have hz0 : (nM (dFs d V tm s (dMf d V tm s m) m)).toInt = ((dFs d V tm s (dMf d V tm s m) m) : Int) - 1 := nM_t (by have := dFs_le (d := d) (V := V) (t := tm) (s := s) (due := dMf d V tm s m) m; omega)
    refine Ru_iload (pc := 21) dX0_firstBest_21 rfl ?_
    refine Ru_aload_n (pc := 23) dX0_firstBest_23 rfl rfl ?_
    refine Ru_getR (pc := 24) t dX0_firstBest_24 fl_X0_50 rfl rfl ((rfX_mut rfl rfl).trans htw) ?_
    refine Ru_getR (pc := 27) (t + 3) dX0_firstBest_27 fl_X0_100 (shTown_0 ht) rfl (rfX_of (o := t) (j := 3) (shTown_0 ht) rfl) ?_
    refine Ru_getI (pc := 30) dX0_firstBest_30 fl_X0_104 (shNames_0 (isNames_t ht).2.1) rfl ?_
    refine Ru_top hx.1.2.1 ?_
    refine Ru_icmp_geN (pc := 33) 92 dX0_firstBest_33 (by decide) (by omega) (fun h1 => ?_) (fun h1 => ?_)
    · refine Ru_iload_n (pc := 92) dX0_firstBest_92 rfl rfl ?_
      refine Ru_iret (pc := 93) dX0_firstBest_93 rfl ⟨Nat.le_refl _, Nat.le_refl _⟩ ?_
      have em : m = d 1 := by omega
      subst em
      exact k M fx
    · refine Ru_aload_n (pc := 36) dX0_firstBest_36 rfl rfl ?_
      refine Ru_iload (pc := 37) dX0_firstBest_37 rfl ?_
      refine Ru_iload_n (pc := 39) dX0_firstBest_39 rfl rfl ?_
      refine Ru_cv2 (pc := 40) dX0_firstBest_40 mv_X0_109 rfl (by decide) (Nat.le_of_ble_eq_true rfl) (c_X0_canBegin ht hx wf htw (by omega) (by omega) ?_) 
      refine Ru_if_eqB (pc := 43) 57 dX0_firstBest_43 (by decide) (fun h2 => ?_) (fun h2 => ?_)
      · replace h2 := of_decide_eq_false h2
        refine Ru_iconst (pc := 57) (-1) dX0_firstBest_57 rfl ?_
        refine Ru_istore (pc := 58) dX0_firstBest_58 rfl (by decide) ?_
        refine Ru_iload (pc := 60) dX0_firstBest_60 rfl ?_
        refine Ru_iload (pc := 62) dX0_firstBest_62 rfl ?_
        refine Ru_icmp_gtL (pc := 64) 79 dX0_firstBest_64 (by decide) (by omega) (fun h3 => ?_) (fun h3 => ?_)
        · refine Ru_iload (pc := 79) dX0_firstBest_79 rfl ?_
          refine Ru_istore_n (pc := 81) dX0_firstBest_81 rfl rfl (by decide) ?_
          refine Ru_iload (pc := 82) dX0_firstBest_82 rfl ?_
          refine Ru_istore (pc := 84) dX0_firstBest_84 rfl (by decide) ?_
          refine Ru_iincN (pc := 86) 1 dX0_firstBest_86 rfl rfl rfl (by decide) ?_
          refine Ru_goto (pc := 89) 21 dX0_firstBest_89 (by decide) ?_
          exfalso
          omega
        · refine Ru_iload (pc := 67) dX0_firstBest_67 rfl ?_
          refine Ru_iload (pc := 69) dX0_firstBest_69 rfl ?_
          refine Ru_icmp_neL (pc := 71) 86 dX0_firstBest_71 (by decide) (by omega) (fun h4 => ?_) (fun h4 => ?_)
          · refine Ru_iincN (pc := 86) 1 dX0_firstBest_86 rfl rfl rfl (by decide) ?_
            refine Ru_goto (pc := 89) 21 dX0_firstBest_89 (by decide) ?_
            have hcn : ¬ (d (53 + m) = 1 ∧ tm + d (41 + m) ≤ 24) := by omega
            have hno : ¬ (lCan d m s = true ∧ tm + d (41 + m) ≤ 24) := fun z => hcn ⟨by
                have z1 := z.1
                unfold lCan at z1
                rw [Bool.and_eq_true] at z1
                exact of_decide_eq_true z1.1, z.2⟩
            have z2 : dMf d V tm s (m + 1) = dMf d V tm s m := by
              rw [dMf, if_neg hno]
            have z1 : dFs d V tm s (dMf d V tm s (m + 1)) (m + 1) = dFs d V tm s (dMf d V tm s m) m := by
              rw [hst, if_neg (fun z => hno z.1)]
            have hr := ih (d 1 - (m + 1)) (by omega) (m + 1) M rfl (by omega) fx
            rw [z1, z2] at hr
            exact Ru_weak hr rfl
          · refine Ru_iload_n (pc := 74) dX0_firstBest_74 rfl rfl ?_
            refine Ru_iconst (pc := 75) (-1) dX0_firstBest_75 rfl ?_
            refine Ru_icmp_neT (pc := 76) 86 dX0_firstBest_76 (by decide) (fun h5 => ?_) (fun h5 => ?_)
            · refine Ru_iincN (pc := 86) 1 dX0_firstBest_86 rfl rfl rfl (by decide) ?_
              refine Ru_goto (pc := 89) 21 dX0_firstBest_89 (by decide) ?_
              have hcn : ¬ (d (53 + m) = 1 ∧ tm + d (41 + m) ≤ 24) := by omega
              have hno : ¬ (lCan d m s = true ∧ tm + d (41 + m) ≤ 24) := fun z => hcn ⟨by
                  have z1 := z.1
                  unfold lCan at z1
                  rw [Bool.and_eq_true] at z1
                  exact of_decide_eq_true z1.1, z.2⟩
              have z2 : dMf d V tm s (m + 1) = dMf d V tm s m := by
                rw [dMf, if_neg hno]
              have z1 : dFs d V tm s (dMf d V tm s (m + 1)) (m + 1) = dFs d V tm s (dMf d V tm s m) m := by
                rw [hst, if_neg (fun z => hno z.1)]
              have hr := ih (d 1 - (m + 1)) (by omega) (m + 1) M rfl (by omega) fx
              rw [z1, z2] at hr
              exact Ru_weak hr rfl
            · refine Ru_iload (pc := 79) dX0_firstBest_79 rfl ?_
              refine Ru_istore_n (pc := 81) dX0_firstBest_81 rfl rfl (by decide) ?_
              refine Ru_iload (pc := 82) dX0_firstBest_82 rfl ?_
              refine Ru_istore (pc := 84) dX0_firstBest_84 rfl (by decide) ?_
              refine Ru_iincN (pc := 86) 1 dX0_firstBest_86 rfl rfl rfl (by decide) ?_
              refine Ru_goto (pc := 89) 21 dX0_firstBest_89 (by decide) ?_
              exfalso
              omega
      · replace h2 := of_decide_eq_true h2
        refine Ru_aload_n (pc := 46) dX0_firstBest_46 rfl rfl ?_
        refine Ru_iload (pc := 47) dX0_firstBest_47 rfl ?_
        refine Ru_iload_n (pc := 49) dX0_firstBest_49 rfl rfl ?_
        refine Ru_iload_n (pc := 50) dX0_firstBest_50 rfl rfl ?_
        refine Ru_cv3 (pc := 51) dX0_firstBest_51 mv_X0_127 rfl (by decide) (Nat.le_of_ble_eq_true rfl) (c_X0_begun1 (V := V) ht hx wf htw (by omega) (by omega) hs hV (fun M2 gx2 => ?_)) 
        have fx2 : r_fx [(61, 0), (61, 1), (61, 2)] [] M0 M2 := fx.tr gx2
        have hx2 : X_tm t d M2 := (X_tm_dp ht d).kp fx2 rfl hx0
        have htw2 : M2.2.2 55 0 = some t := (fx2 55 0 rfl).2.2.trans htw0
        have hbb := dBm_b2 wf (t := tm) (s := s) (show m < d 1 by omega) hVb
        have hbt : (nM (bgN d V m tm s)).toInt = (bgN d V m tm s : Int) - 1 := nM_t (by
          unfold bgN
          split <;> omega)
        refine Ru_goto (pc := 54) 58 dX0_firstBest_54 (by decide) ?_
        refine Ru_istore (pc := 58) dX0_firstBest_58 rfl (by decide) ?_
        refine Ru_iload (pc := 60) dX0_firstBest_60 rfl ?_
        refine Ru_iload (pc := 62) dX0_firstBest_62 rfl ?_
        refine Ru_icmp_gtL (pc := 64) 79 dX0_firstBest_64 (by decide) (by omega) (fun h6 => ?_) (fun h6 => ?_)
        · refine Ru_iload (pc := 79) dX0_firstBest_79 rfl ?_
          refine Ru_istore_n (pc := 81) dX0_firstBest_81 rfl rfl (by decide) ?_
          refine Ru_iload (pc := 82) dX0_firstBest_82 rfl ?_
          refine Ru_istore (pc := 84) dX0_firstBest_84 rfl (by decide) ?_
          refine Ru_iincN (pc := 86) 1 dX0_firstBest_86 rfl rfl rfl (by decide) ?_
          refine Ru_goto (pc := 89) 21 dX0_firstBest_89 (by decide) ?_
          have hcn : d (53 + m) = 1 ∧ tm + d (41 + m) ≤ 24 := by omega
          by_cases hq : r_dif (sNd d m) s = 0
          · have hl := lCan_of hcn.1 hq
            have eb : bgN d V m tm s = dBm d V m tm s + 1 := if_pos hq
            have z2 : dMf d V tm s (m + 1) = dBm d V m tm s := by
              rw [dMf, if_pos ⟨hl, hcn.2⟩]
              omega
            have z1 : dFs d V tm s (dMf d V tm s (m + 1)) (m + 1) = m + 1 := by
              rw [hst, if_pos]
              refine ⟨⟨hl, hcn.2⟩, ?_⟩
              have z0 := hz0
              omega
            have hr := ih (d 1 - (m + 1)) (by omega) (m + 1) M2 rfl (by omega) fx2
            rw [z1, z2] at hr
            rw [eb]
            exact Ru_weak hr rfl
          · have eb : bgN d V m tm s = 0 := if_neg hq
            exfalso
            omega
        · refine Ru_iload (pc := 67) dX0_firstBest_67 rfl ?_
          refine Ru_iload (pc := 69) dX0_firstBest_69 rfl ?_
          refine Ru_icmp_neL (pc := 71) 86 dX0_firstBest_71 (by decide) (by omega) (fun h7 => ?_) (fun h7 => ?_)
          · refine Ru_iincN (pc := 86) 1 dX0_firstBest_86 rfl rfl rfl (by decide) ?_
            refine Ru_goto (pc := 89) 21 dX0_firstBest_89 (by decide) ?_
            have hcn : d (53 + m) = 1 ∧ tm + d (41 + m) ≤ 24 := by omega
            by_cases hq : r_dif (sNd d m) s = 0
            · have hl := lCan_of hcn.1 hq
              have eb : bgN d V m tm s = dBm d V m tm s + 1 := if_pos hq
              have z2 : dMf d V tm s (m + 1) = dMf d V tm s m := by
                rw [dMf, if_pos ⟨hl, hcn.2⟩]
                omega
              have z1 : dFs d V tm s (dMf d V tm s (m + 1)) (m + 1) = dFs d V tm s (dMf d V tm s m) m := by
                rw [hst, if_neg]
                rintro ⟨_, z⟩
                omega
              have hr := ih (d 1 - (m + 1)) (by omega) (m + 1) M2 rfl (by omega) fx2
              rw [z1, z2] at hr
              exact Ru_weak hr rfl
            · have z2 : dMf d V tm s (m + 1) = dMf d V tm s m := dMf_no (fun z => hq (lCan_in z))
              have z1 : dFs d V tm s (dMf d V tm s (m + 1)) (m + 1) = dFs d V tm s (dMf d V tm s m) m := by
                rw [hst, if_neg (fun z => hq (lCan_in z.1.1))]
              have hr := ih (d 1 - (m + 1)) (by omega) (m + 1) M2 rfl (by omega) fx2
              rw [z1, z2] at hr
              exact Ru_weak hr rfl
          · refine Ru_iload_n (pc := 74) dX0_firstBest_74 rfl rfl ?_
            refine Ru_iconst (pc := 75) (-1) dX0_firstBest_75 rfl ?_
            refine Ru_icmp_neT (pc := 76) 86 dX0_firstBest_76 (by decide) (fun h8 => ?_) (fun h8 => ?_)
            · refine Ru_iincN (pc := 86) 1 dX0_firstBest_86 rfl rfl rfl (by decide) ?_
              refine Ru_goto (pc := 89) 21 dX0_firstBest_89 (by decide) ?_
              have hcn : d (53 + m) = 1 ∧ tm + d (41 + m) ≤ 24 := by omega
              by_cases hq : r_dif (sNd d m) s = 0
              · have hl := lCan_of hcn.1 hq
                have eb : bgN d V m tm s = dBm d V m tm s + 1 := if_pos hq
                have z2 : dMf d V tm s (m + 1) = dMf d V tm s m := by
                  rw [dMf, if_pos ⟨hl, hcn.2⟩]
                  omega
                have z1 : dFs d V tm s (dMf d V tm s (m + 1)) (m + 1) = dFs d V tm s (dMf d V tm s m) m := by
                  rw [hst, if_neg]
                  rintro ⟨_, z⟩
                  omega
                have hr := ih (d 1 - (m + 1)) (by omega) (m + 1) M2 rfl (by omega) fx2
                rw [z1, z2] at hr
                exact Ru_weak hr rfl
              · have z2 : dMf d V tm s (m + 1) = dMf d V tm s m := dMf_no (fun z => hq (lCan_in z))
                have z1 : dFs d V tm s (dMf d V tm s (m + 1)) (m + 1) = dFs d V tm s (dMf d V tm s m) m := by
                  rw [hst, if_neg (fun z => hq (lCan_in z.1.1))]
                have hr := ih (d 1 - (m + 1)) (by omega) (m + 1) M2 rfl (by omega) fx2
                rw [z1, z2] at hr
                exact Ru_weak hr rfl
            · refine Ru_iload (pc := 79) dX0_firstBest_79 rfl ?_
              refine Ru_istore_n (pc := 81) dX0_firstBest_81 rfl rfl (by decide) ?_
              refine Ru_iload (pc := 82) dX0_firstBest_82 rfl ?_
              refine Ru_istore (pc := 84) dX0_firstBest_84 rfl (by decide) ?_
              refine Ru_iincN (pc := 86) 1 dX0_firstBest_86 rfl rfl rfl (by decide) ?_
              refine Ru_goto (pc := 89) 21 dX0_firstBest_89 (by decide) ?_
              have hcn : d (53 + m) = 1 ∧ tm + d (41 + m) ≤ 24 := by omega
              by_cases hq : r_dif (sNd d m) s = 0
              · have hl := lCan_of hcn.1 hq
                have eb : bgN d V m tm s = dBm d V m tm s + 1 := if_pos hq
                have z2 : dMf d V tm s (m + 1) = dBm d V m tm s := by
                  rw [dMf, if_pos ⟨hl, hcn.2⟩]
                  omega
                have z1 : dFs d V tm s (dMf d V tm s (m + 1)) (m + 1) = m + 1 := by
                  rw [hst, if_pos]
                  refine ⟨⟨hl, hcn.2⟩, ?_⟩
                  have z0 := hz0
                  omega
                have hr := ih (d 1 - (m + 1)) (by omega) (m + 1) M2 rfl (by omega) fx2
                rw [z1, z2] at hr
                rw [eb]
                exact Ru_weak hr rfl
              · have eb : bgN d V m tm s = 0 := if_neg hq
                exfalso
                omega

theorem c_X0_firstBest {Q : Rq} {M : Mem} {t tm s : Nat} {d : Td} {V : Vt} (ht : isTown t) (hx : X_tm t d M) (wf : Wf d) (htw : M.2.2 55 0 = some t) (htm : tm < 24) (hs : s < 2 ^ d 0) (hV : ∀ t' s', tm < t' → t' ≤ 24 → s' < 2 ^ d 0 → M.1 56 (t' * 256 + s') = nI (V t' s')) (hVb : ∀ t' s', V t' s' ≤ 100000000) (k : ∀ M', r_fx [(61, 0), (61, 1), (61, 2)] [] M M' → Q (some (.int (nM (dFs d V tm s (dMf d V tm s (d 1)) (d 1))))) GX M') : Ca 3 mt_X0_firstBest 0 0 [.ref 55, .int (nI tm), .int (nI s)] GX M Q := by
  refine Ca_of rfl (Nat.le_of_ble_eq_true rfl) ?_
  have hb := wf.1
  have hp := pw_le hb.1
  refine Ru_iconst (pc := 0) (-1) dX0_firstBest_0 rfl ?_
  refine Ru_istore_n (pc := 1) dX0_firstBest_1 rfl rfl (by decide) ?_
  refine Ru_aload_n (pc := 2) dX0_firstBest_2 rfl rfl ?_
  refine Ru_getR (pc := 3) 56 dX0_firstBest_3 fl_X0_9 rfl rfl (rfX_of (o := 55) (j := 1) rfl rfl) ?_
  refine Ru_iload_n (pc := 6) dX0_firstBest_6 rfl rfl ?_
  refine Ru_iconst (pc := 7) (nI 1) dX0_firstBest_7 rfl ?_
  refine Ru_iaddN (pc := 8) dX0_firstBest_8 ?_
  refine Ru_sipush (pc := 9) (nI 256) dX0_firstBest_9 rfl ?_
  refine Ru_imulN (pc := 12) dX0_firstBest_12 ?_
  refine Ru_iload_n (pc := 13) dX0_firstBest_13 rfl rfl ?_
  refine Ru_iaddN (pc := 14) dX0_firstBest_14 ?_
  refine Ru_iald (pc := 15) dX0_firstBest_15 rfl (by omega) ?_
  refine Ru_top (hV (tm + 1) s (by omega) (by omega) hs) ?_
  refine Ru_istore (pc := 16) dX0_firstBest_16 rfl (by decide) ?_
  refine Ru_iconst (pc := 18) (nI 0) dX0_firstBest_18 rfl ?_
  refine Ru_istore (pc := 19) dX0_firstBest_19 rfl (by decide) ?_
  exact Ru_weak (l_X0_firstBest (M0 := M) ht hx wf htw htm hs hV hVb k (d 1) 0 M rfl (Nat.zero_le _) r_fx.rf) rfl
