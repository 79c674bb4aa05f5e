-- DEEDS: the reference, what can't be
theorem Y_pj_dp (d : Td) : r_dp [] [5] (Y_pj d) := by
  intro M M' q p j hj
  have g : ∀ k, M'.1 5 k = M.1 5 k := fun k => (q 5 k (r_in_A rfl)).1
  obtain ⟨a, b, c, e⟩ := p j hj
  exact ⟨(g _).trans a, fun z => (g _).trans (b z), (g _).trans c, (g _).trans e⟩
theorem neg_b {b : Bool} (h : b = true) : nI 0 = r_b (!b) := by subst h; rfl
theorem neg_f {b : Bool} (h : b = false) : nI 1 = r_b (!b) := by subst h; rfl

theorem l_X12_areAwake2 {Q : Rq} {M : Mem} {d : Td} {j : Nat} (hc : ∀ k, k < 521 → M.1 5 k = nI (d k)) (wf : Wf d) (wj : Wj d) (hpj : Y_pj d M) (hj : j < d 4) {p : Nat} (hp : p < d 2) (hk0 : d (521 + 5 * j) = 0) (k9 : jAp d j p = false → Ru 2 mt_X12_areAwake r_z 84 [(0, some (.ref 0)), (1, some (.int (nI j))), (2, some (.int (nI (min 24 ((d (522 + 5 * j)) + (d (41 + (d (523 + 5 * j))))))))), (3, some (.int (nI p))), (4, some (.int (nI (min 24 ((d (522 + 5 * j)) + (d (41 + (d (523 + 5 * j)))))))))] [] GY M Q) (k : Q (some (.int (r_b (!anB (jAp d j) (d 2))))) GY M) : ∀ (zw : Nat) (h : Nat), (min 24 ((d (522 + 5 * j)) + (d (41 + (d (523 + 5 * j)))))) - h = zw → (h ≤ (min 24 ((d (522 + 5 * j)) + (d (41 + (d (523 + 5 * j))))))) → (d (522 + 5 * j) ≤ h) → ((d (524 + 5 * j)).testBit p = true → ∀ i, d (522 + 5 * j) ≤ i → i < h → aw (d (89 + p)) (d (95 + p)) i = true) → Ru 2 mt_X12_areAwake r_z 47 [(0, some (.ref 0)), (1, some (.int (nI j))), (2, some (.int (nI (min 24 ((d (522 + 5 * j)) + (d (41 + (d (523 + 5 * j))))))))), (3, some (.int (nI p))), (4, some (.int (nI h)))] [] GY M Q := by
  intro zw
  induction zw using Nat.strongRecOn with
  | ind zw ih =>
    intro h hw hn hn2 hhs
    subst hw
    have hb := wf.1
    have hw0 := (wj j hj).2.1 hk0
    have hw3 := wf.2.2.2.2.1 _ hw0.2.1
    have h64 := pw8_6 wf
    have hpp := wf.2.2.2.2.2.1
    refine Ru_iload (pc := 47) dX12_areAwake_47 rfl ?_
    refine Ru_iload_n (pc := 49) dX12_areAwake_49 rfl rfl ?_
    refine Ru_icmp_geN (pc := 50) 84 dX12_areAwake_50 (by decide) (by omega) (fun h1 => ?_) (fun h1 => ?_)
    · have eh : h = (min 24 ((d (522 + 5 * j)) + (d (41 + (d (523 + 5 * j)))))) := by omega
      subst eh
      exact Ru_weak (k9 (jAp_f (fun hbt i q0 q1 q2 => hhs hbt i q1 (by unfold jE at q2; omega)))) rfl
    · refine Ru_aload_n (pc := 53) dX12_areAwake_53 rfl rfl ?_
      refine Ru_iload_n (pc := 54) dX12_areAwake_54 rfl rfl ?_
      refine Ru_iconst (pc := 55) (nI 3) dX12_areAwake_55 rfl ?_
      refine Ru_cv2 (pc := 56) dX12_areAwake_56 mv_X12_512 rfl (by decide) (Nat.le_of_ble_eq_true rfl) (c_X12_jobCell (by omega) (by decide) (hpj j (by omega)).2.2.2 ?_) 
      refine Ru_iload_n (pc := 59) dX12_areAwake_59 rfl rfl ?_
      refine Ru_cs2 (pc := 60) dX12_areAwake_60 ms_X12_372 (by decide) (Nat.le_of_ble_eq_true rfl) (c_X12_has (by omega) (by omega) ?_) 
      refine Ru_if_eqB (pc := 63) 78 dX12_areAwake_63 (by decide) (fun h2 => ?_) (fun h2 => ?_)
      · refine Ru_iincN (pc := 78) 1 dX12_areAwake_78 rfl rfl rfl (by decide) ?_
        refine Ru_goto (pc := 81) 47 dX12_areAwake_81 (by decide) ?_
        refine Ru_weak (ih ((min 24 ((d (522 + 5 * j)) + (d (41 + (d (523 + 5 * j)))))) - (h + 1)) (by omega) (h + 1) rfl (by omega) (by omega) (fun hbt i q1 q2 => ?_)) rfl
        by_cases e : i = h
        · subst e
          first | assumption | exact absurd hbt (nb_f (by assumption))
        · exact hhs hbt i q1 (by omega)
      · refine Ru_aload_n (pc := 66) dX12_areAwake_66 rfl rfl ?_
        refine Ru_iload_n (pc := 67) dX12_areAwake_67 rfl rfl ?_
        refine Ru_iload (pc := 68) dX12_areAwake_68 rfl ?_
        refine Ru_cv2 (pc := 70) dX12_areAwake_70 mv_X12_346 rfl (by decide) (Nat.le_of_ble_eq_true rfl) (c_X12_isAwakeIn hc wf (by omega) (by omega) ?_) 
        refine Ru_if_neB (pc := 73) 78 dX12_areAwake_73 (by decide) (fun h3 => ?_) (fun h3 => ?_)
        · refine Ru_iincN (pc := 78) 1 dX12_areAwake_78 rfl rfl rfl (by decide) ?_
          refine Ru_goto (pc := 81) 47 dX12_areAwake_81 (by decide) ?_
          refine Ru_weak (ih ((min 24 ((d (522 + 5 * j)) + (d (41 + (d (523 + 5 * j)))))) - (h + 1)) (by omega) (h + 1) rfl (by omega) (by omega) (fun hbt i q1 q2 => ?_)) rfl
          by_cases e : i = h
          · subst e
            first | assumption | exact absurd hbt (nb_f (by assumption))
          · exact hhs hbt i q1 (by omega)
        · refine Ru_iconst (pc := 76) (nI 0) dX12_areAwake_76 rfl ?_
          refine Ru_zret (pc := 77) dX12_areAwake_77 rfl ⟨Nat.le_refl _, Nat.le_refl _⟩ (Or.inl rfl) ?_
          refine r_qe (neg_b (anB_t (i := p) (jAp_t (i := h) (by assumption) (by omega) (by omega) (by unfold jE; omega) (by assumption)) (by omega))) k

theorem l_X12_areAwake1 {Q : Rq} {M : Mem} {d : Td} {j : Nat} (hc : ∀ k, k < 521 → M.1 5 k = nI (d k)) (wf : Wf d) (wj : Wj d) (hpj : Y_pj d M) (hj : j < d 4) (hk0 : d (521 + 5 * j) = 0) (k : Q (some (.int (r_b (!anB (jAp d j) (d 2))))) GY M) : ∀ (zw : Nat) (p : Nat), d 2 - p = zw → (p ≤ d 2) → (∀ i, i < p → jAp d j i = false) → Ru 2 mt_X12_areAwake r_z 29 [(0, some (.ref 0)), (1, some (.int (nI j))), (2, some (.int (nI (min 24 ((d (522 + 5 * j)) + (d (41 + (d (523 + 5 * j))))))))), (3, some (.int (nI p)))] [] GY M Q := by
  intro zw
  induction zw using Nat.strongRecOn with
  | ind zw ih =>
    intro p hw hn hps
    subst hw
    have hb := wf.1
    have hw0 := (wj j hj).2.1 hk0
    have hw3 := wf.2.2.2.2.1 _ hw0.2.1
    have h64 := pw8_6 wf
    have hpp := wf.2.2.2.2.2.1
    refine Ru_iload_n (pc := 29) dX12_areAwake_29 rfl rfl ?_
    refine Ru_aload_n (pc := 30) dX12_areAwake_30 rfl rfl ?_
    refine Ru_getR (pc := 31) 5 dX12_areAwake_31 fl_X12_35 rfl rfl rfl ?_
    refine Ru_iconst (pc := 34) (nI 2) dX12_areAwake_34 rfl ?_
    refine Ru_iald (pc := 35) dX12_areAwake_35 rfl (by omega) ?_
    refine Ru_top (hc 2 (by omega)) ?_
    refine Ru_icmp_geN (pc := 36) 90 dX12_areAwake_36 (by decide) (by omega) (fun h1 => ?_) (fun h1 => ?_)
    · refine Ru_iconst (pc := 90) (nI 1) dX12_areAwake_90 rfl ?_
      refine Ru_zret (pc := 91) dX12_areAwake_91 rfl ⟨Nat.le_refl _, Nat.le_refl _⟩ (Or.inr rfl) ?_
      refine r_qe (neg_f (anB_f (fun i hi => hps i (by omega)))) k
    · refine Ru_aload_n (pc := 39) dX12_areAwake_39 rfl rfl ?_
      refine Ru_iload_n (pc := 40) dX12_areAwake_40 rfl rfl ?_
      refine Ru_iconst (pc := 41) (nI 1) dX12_areAwake_41 rfl ?_
      refine Ru_cv2 (pc := 42) dX12_areAwake_42 mv_X12_512 rfl (by decide) (Nat.le_of_ble_eq_true rfl) (c_X12_jobCell (by omega) (by decide) ((hpj j (by omega)).2.1 (by assumption)) ?_) 
      refine Ru_istore (pc := 45) dX12_areAwake_45 rfl (by decide) ?_
      refine Ru_weak (l_X12_areAwake2 (p := p) hc wf wj hpj hj (by omega) hk0 (fun hap => ?_) k ((min 24 ((d (522 + 5 * j)) + (d (41 + (d (523 + 5 * j)))))) - d (522 + 5 * j)) (d (522 + 5 * j)) rfl (by omega) (Nat.le_refl _) (fun _ i q1 q2 => by omega)) rfl
      refine Ru_iincN (pc := 84) 1 dX12_areAwake_84 rfl rfl rfl (by decide) ?_
      refine Ru_goto (pc := 87) 29 dX12_areAwake_87 (by decide) ?_
      refine Ru_weak (ih (d 2 - (p + 1)) (by omega) (p + 1) rfl (by omega) (fun i hi => ?_)) rfl
      by_cases e : i = p
      · subst e
        exact hap
      · exact hps i (by omega)

theorem c_X12_areAwake {Q : Rq} {M : Mem} {d : Td} {j : Nat} (hc : ∀ k, k < 521 → M.1 5 k = nI (d k)) (wf : Wf d) (wj : Wj d) (hpj : Y_pj d M) (hj : j < d 4) (hk0 : d (521 + 5 * j) = 0) (k : Q (some (.int (r_b (!anB (jAp d j) (d 2))))) GY M) : Ca 2 mt_X12_areAwake 0 0 [.ref 0, .int (nI j)] GY M Q := by
  refine Ca_of rfl (Nat.le_of_ble_eq_true rfl) ?_
  have hb := wf.1
  have hw0 := (wj j hj).2.1 hk0
  have hw3 := wf.2.2.2.2.1 _ hw0.2.1
  have h64 := pw8_6 wf
  have hpp := wf.2.2.2.2.2.1
  refine Ru_bipush (pc := 0) (nI 24) dX12_areAwake_0 rfl ?_
  refine Ru_aload_n (pc := 2) dX12_areAwake_2 rfl rfl ?_
  refine Ru_iload_n (pc := 3) dX12_areAwake_3 rfl rfl ?_
  refine Ru_iconst (pc := 4) (nI 1) dX12_areAwake_4 rfl ?_
  refine Ru_cv2 (pc := 5) dX12_areAwake_5 mv_X12_512 rfl (by decide) (Nat.le_of_ble_eq_true rfl) (c_X12_jobCell (by omega) (by decide) ((hpj j (by omega)).2.1 (by assumption)) ?_) 
  refine Ru_aload_n (pc := 8) dX12_areAwake_8 rfl rfl ?_
  refine Ru_getR (pc := 9) 5 dX12_areAwake_9 fl_X12_35 rfl rfl rfl ?_
  refine Ru_bipush (pc := 12) (nI 41) dX12_areAwake_12 rfl ?_
  refine Ru_aload_n (pc := 14) dX12_areAwake_14 rfl rfl ?_
  refine Ru_iload_n (pc := 15) dX12_areAwake_15 rfl rfl ?_
  refine Ru_iconst (pc := 16) (nI 2) dX12_areAwake_16 rfl ?_
  refine Ru_cv2 (pc := 17) dX12_areAwake_17 mv_X12_512 rfl (by decide) (Nat.le_of_ble_eq_true rfl) (c_X12_jobCell (by omega) (by decide) (hpj j (by omega)).2.2.1 ?_) 
  refine Ru_iaddN (pc := 20) dX12_areAwake_20 ?_
  refine Ru_iald (pc := 21) dX12_areAwake_21 rfl (by omega) ?_
  refine Ru_top (hc (41 + (d (523 + 5 * j))) (by omega)) ?_
  refine Ru_iaddN (pc := 22) dX12_areAwake_22 ?_
  refine Ru_cs2 (pc := 23) dX12_areAwake_23 ms_X12_515 (by decide) (Nat.le_of_ble_eq_true rfl) (c_Y_minN (by omega) (by omega) ?_) 
  refine Ru_istore_n (pc := 26) dX12_areAwake_26 rfl rfl (by decide) ?_
  refine Ru_iconst (pc := 27) (nI 0) dX12_areAwake_27 rfl ?_
  refine Ru_istore_n (pc := 28) dX12_areAwake_28 rfl rfl (by decide) ?_
  refine Ru_weak (l_X12_areAwake1 hc wf wj hpj hj hk0 k (d 2) 0 rfl (Nat.zero_le _) (fun i hi => by omega)) rfl

theorem l_X12_isBusyAhead {Q : Rq} {M : Mem} {d : Td} {j : Nat} (hc : ∀ k, k < 521 → M.1 5 k = nI (d k)) (wf : Wf d) (wj : Wj d) (hpj : Y_pj d M) (hj : j < d 4) (hk0 : d (521 + 5 * j) = 0) (k : Q (some (.int (r_b (anB (jBi d j) j)))) GY M) : ∀ (zw : Nat) (n : Nat), j - n = zw → (n ≤ j) → (∀ i, i < n → jBi d j i = false) → Ru 1 mt_X12_isBusyAhead r_z 27 [(0, some (.ref 0)), (1, some (.int (nI j))), (2, some (.int (nI (d (522 + 5 * j))))), (3, some (.int (nI ((d (522 + 5 * j)) + (d (41 + (d (523 + 5 * j)))))))), (4, some (.int (nI n)))] [] GY M Q := by
  intro zw
  induction zw using Nat.strongRecOn with
  | ind zw ih =>
    intro n hw hn hbs
    subst hw
    have hb := wf.1
    have hw0 := (wj j hj).2.1 hk0
    have hw3 := wf.2.2.2.2.1 _ hw0.2.1
    have h64 := pw8_6 wf
    have hpp := wf.2.2.2.2.2.1
    refine Ru_iload (pc := 27) dX12_isBusyAhead_27 rfl ?_
    refine Ru_iload_n (pc := 29) dX12_isBusyAhead_29 rfl rfl ?_
    refine Ru_icmp_geN (pc := 30) 108 dX12_isBusyAhead_30 (by decide) (by omega) (fun h1 => ?_) (fun h1 => ?_)
    · refine Ru_iconst (pc := 108) (nI 0) dX12_isBusyAhead_108 rfl ?_
      refine Ru_zret (pc := 109) dX12_isBusyAhead_109 rfl ⟨Nat.le_refl _, Nat.le_refl _⟩ (Or.inl rfl) ?_
      refine r_qe (r_b_f (anB_f (fun i hi => hbs i (by omega)))) k
    · refine Ru_aload_n (pc := 33) dX12_isBusyAhead_33 rfl rfl ?_
      refine Ru_iload (pc := 34) dX12_isBusyAhead_34 rfl ?_
      refine Ru_iconst (pc := 36) (nI 0) dX12_isBusyAhead_36 rfl ?_
      refine Ru_cv2 (pc := 37) dX12_isBusyAhead_37 mv_X12_512 rfl (by decide) (Nat.le_of_ble_eq_true rfl) (c_X12_jobCell (by omega) (by decide) (hpj n (by omega)).1 ?_) 
      refine Ru_if_neN (pc := 40) 102 dX12_isBusyAhead_40 (by decide) (by have := (wj n (by omega)).1; omega) (fun h2 => ?_) (fun h2 => ?_)
      · have hbi : jBi d j n = false := jBi_k h2
        refine Ru_iincN (pc := 102) 1 dX12_isBusyAhead_102 rfl rfl rfl (by decide) ?_
        refine Ru_goto (pc := 105) 27 dX12_isBusyAhead_105 (by decide) ?_
        refine Ru_weak (ih (j - (n + 1)) (by omega) (n + 1) rfl (by omega) (fun i hi => ?_)) rfl
        by_cases e : i = n
        · subst e
          exact hbi
        · exact hbs i (by omega)
      · have hkn : d (521 + 5 * n) = 0 := h2
        have hwn := (wj n (by omega)).2.1 hkn
        have hwn3 := wf.2.2.2.2.1 _ hwn.2.1
        refine Ru_aload_n (pc := 43) dX12_isBusyAhead_43 rfl rfl ?_
        refine Ru_iload (pc := 44) dX12_isBusyAhead_44 rfl ?_
        refine Ru_iconst (pc := 46) (nI 3) dX12_isBusyAhead_46 rfl ?_
        refine Ru_cv2 (pc := 47) dX12_isBusyAhead_47 mv_X12_512 rfl (by decide) (Nat.le_of_ble_eq_true rfl) (c_X12_jobCell (by omega) (by decide) (hpj n (by omega)).2.2.2 ?_) 
        refine Ru_aload_n (pc := 50) dX12_isBusyAhead_50 rfl rfl ?_
        refine Ru_iload_n (pc := 51) dX12_isBusyAhead_51 rfl rfl ?_
        refine Ru_iconst (pc := 52) (nI 3) dX12_isBusyAhead_52 rfl ?_
        refine Ru_cv2 (pc := 53) dX12_isBusyAhead_53 mv_X12_512 rfl (by decide) (Nat.le_of_ble_eq_true rfl) (c_X12_jobCell (by omega) (by decide) (hpj j (by omega)).2.2.2 ?_) 
        refine Ru_iandN (pc := 56) dX12_isBusyAhead_56 ?_
        refine Ru_if_neN (pc := 57) 63 dX12_isBusyAhead_57 (by decide) (Nat.lt_of_le_of_lt Nat.and_le_right (by omega)) (fun h3 => ?_) (fun h3 => ?_)
        · have hwh := h3
          refine Ru_aload_n (pc := 63) dX12_isBusyAhead_63 rfl rfl ?_
          refine Ru_iload (pc := 64) dX12_isBusyAhead_64 rfl ?_
          refine Ru_iconst (pc := 66) (nI 1) dX12_isBusyAhead_66 rfl ?_
          refine Ru_cv2 (pc := 67) dX12_isBusyAhead_67 mv_X12_512 rfl (by decide) (Nat.le_of_ble_eq_true rfl) (c_X12_jobCell (by omega) (by decide) ((hpj n (by omega)).2.1 (by assumption)) ?_) 
          refine Ru_istore (pc := 70) dX12_isBusyAhead_70 rfl (by decide) ?_
          refine Ru_iload (pc := 72) dX12_isBusyAhead_72 rfl ?_
          refine Ru_iload_n (pc := 74) dX12_isBusyAhead_74 rfl rfl ?_
          refine Ru_icmp_geN (pc := 75) 102 dX12_isBusyAhead_75 (by decide) (by omega) (fun h4 => ?_) (fun h4 => ?_)
          · have hbi : jBi d j n = false := by
              cases z : jBi d j n
              · rfl
              · have z2 := (jBi_iff (by omega) (by omega) (by omega) (by omega) hkn).mp z
                have z3 := z2.2.1
                have z4 := z2.2.2
                unfold jE at z3 z4
                omega
            refine Ru_iincN (pc := 102) 1 dX12_isBusyAhead_102 rfl rfl rfl (by decide) ?_
            refine Ru_goto (pc := 105) 27 dX12_isBusyAhead_105 (by decide) ?_
            refine Ru_weak (ih (j - (n + 1)) (by omega) (n + 1) rfl (by omega) (fun i hi => ?_)) rfl
            by_cases e : i = n
            · subst e
              exact hbi
            · exact hbs i (by omega)
          · refine Ru_iload_n (pc := 78) dX12_isBusyAhead_78 rfl rfl ?_
            refine Ru_iload (pc := 79) dX12_isBusyAhead_79 rfl ?_
            refine Ru_aload_n (pc := 81) dX12_isBusyAhead_81 rfl rfl ?_
            refine Ru_getR (pc := 82) 5 dX12_isBusyAhead_82 fl_X12_35 rfl rfl rfl ?_
            refine Ru_bipush (pc := 85) (nI 41) dX12_isBusyAhead_85 rfl ?_
            refine Ru_aload_n (pc := 87) dX12_isBusyAhead_87 rfl rfl ?_
            refine Ru_iload (pc := 88) dX12_isBusyAhead_88 rfl ?_
            refine Ru_iconst (pc := 90) (nI 2) dX12_isBusyAhead_90 rfl ?_
            refine Ru_cv2 (pc := 91) dX12_isBusyAhead_91 mv_X12_512 rfl (by decide) (Nat.le_of_ble_eq_true rfl) (c_X12_jobCell (by omega) (by decide) (hpj n (by omega)).2.2.1 ?_) 
            refine Ru_iaddN (pc := 94) dX12_isBusyAhead_94 ?_
            refine Ru_iald (pc := 95) dX12_isBusyAhead_95 rfl (by omega) ?_
            refine Ru_top (hc (41 + (d (523 + 5 * n))) (by omega)) ?_
            refine Ru_iaddN (pc := 96) dX12_isBusyAhead_96 ?_
            refine Ru_icmp_geN (pc := 97) 102 dX12_isBusyAhead_97 (by decide) (by omega) (fun h5 => ?_) (fun h5 => ?_)
            · have hbi : jBi d j n = false := by
                cases z : jBi d j n
                · rfl
                · have z2 := (jBi_iff (by omega) (by omega) (by omega) (by omega) hkn).mp z
                  have z3 := z2.2.1
                  have z4 := z2.2.2
                  unfold jE at z3 z4
                  omega
              refine Ru_iincN (pc := 102) 1 dX12_isBusyAhead_102 rfl rfl rfl (by decide) ?_
              refine Ru_goto (pc := 105) 27 dX12_isBusyAhead_105 (by decide) ?_
              refine Ru_weak (ih (j - (n + 1)) (by omega) (n + 1) rfl (by omega) (fun i hi => ?_)) rfl
              by_cases e : i = n
              · subst e
                exact hbi
              · exact hbs i (by omega)
            · refine Ru_iconst (pc := 100) (nI 1) dX12_isBusyAhead_100 rfl ?_
              refine Ru_zret (pc := 101) dX12_isBusyAhead_101 rfl ⟨Nat.le_refl _, Nat.le_refl _⟩ (Or.inr rfl) ?_
              refine r_qe (r_b_t (anB_t (i := n) ((jBi_iff (by omega) (by omega) (by omega) (by omega) hkn).mpr ⟨hwh, ?_, ?_⟩) (by omega))) k
              · unfold jE
                omega
              · unfold jE
                omega
        · have hbi : jBi d j n = false := by
            unfold jBi
            rw [decide_eq_false (show ¬ ¬ d (524 + 5 * n) &&& d (524 + 5 * j) = 0 from fun z => z h3), Bool.false_and, Bool.and_false]
          refine Ru_goto (pc := 60) 102 dX12_isBusyAhead_60 (by decide) ?_
          refine Ru_iincN (pc := 102) 1 dX12_isBusyAhead_102 rfl rfl rfl (by decide) ?_
          refine Ru_goto (pc := 105) 27 dX12_isBusyAhead_105 (by decide) ?_
          refine Ru_weak (ih (j - (n + 1)) (by omega) (n + 1) rfl (by omega) (fun i hi => ?_)) rfl
          by_cases e : i = n
          · subst e
            exact hbi
          · exact hbs i (by omega)

theorem c_X12_isBusyAhead {Q : Rq} {M : Mem} {d : Td} {j : Nat} (hc : ∀ k, k < 521 → M.1 5 k = nI (d k)) (wf : Wf d) (wj : Wj d) (hpj : Y_pj d M) (hj : j < d 4) (hk0 : d (521 + 5 * j) = 0) (k : Q (some (.int (r_b (anB (jBi d j) j)))) GY M) : Ca 1 mt_X12_isBusyAhead 0 0 [.ref 0, .int (nI j)] GY M Q := by
  refine Ca_of rfl (Nat.le_of_ble_eq_true rfl) ?_
  have hb := wf.1
  have hw0 := (wj j hj).2.1 hk0
  have hw3 := wf.2.2.2.2.1 _ hw0.2.1
  have h64 := pw8_6 wf
  have hpp := wf.2.2.2.2.2.1
  refine Ru_aload_n (pc := 0) dX12_isBusyAhead_0 rfl rfl ?_
  refine Ru_iload_n (pc := 1) dX12_isBusyAhead_1 rfl rfl ?_
  refine Ru_iconst (pc := 2) (nI 1) dX12_isBusyAhead_2 rfl ?_
  refine Ru_cv2 (pc := 3) dX12_isBusyAhead_3 mv_X12_512 rfl (by decide) (Nat.le_of_ble_eq_true rfl) (c_X12_jobCell (by omega) (by decide) ((hpj j (by omega)).2.1 (by assumption)) ?_) 
  refine Ru_istore_n (pc := 6) dX12_isBusyAhead_6 rfl rfl (by decide) ?_
  refine Ru_iload_n (pc := 7) dX12_isBusyAhead_7 rfl rfl ?_
  refine Ru_aload_n (pc := 8) dX12_isBusyAhead_8 rfl rfl ?_
  refine Ru_getR (pc := 9) 5 dX12_isBusyAhead_9 fl_X12_35 rfl rfl rfl ?_
  refine Ru_bipush (pc := 12) (nI 41) dX12_isBusyAhead_12 rfl ?_
  refine Ru_aload_n (pc := 14) dX12_isBusyAhead_14 rfl rfl ?_
  refine Ru_iload_n (pc := 15) dX12_isBusyAhead_15 rfl rfl ?_
  refine Ru_iconst (pc := 16) (nI 2) dX12_isBusyAhead_16 rfl ?_
  refine Ru_cv2 (pc := 17) dX12_isBusyAhead_17 mv_X12_512 rfl (by decide) (Nat.le_of_ble_eq_true rfl) (c_X12_jobCell (by omega) (by decide) (hpj j (by omega)).2.2.1 ?_) 
  refine Ru_iaddN (pc := 20) dX12_isBusyAhead_20 ?_
  refine Ru_iald (pc := 21) dX12_isBusyAhead_21 rfl (by omega) ?_
  refine Ru_top (hc (41 + (d (523 + 5 * j))) (by omega)) ?_
  refine Ru_iaddN (pc := 22) dX12_isBusyAhead_22 ?_
  refine Ru_istore_n (pc := 23) dX12_isBusyAhead_23 rfl rfl (by decide) ?_
  refine Ru_iconst (pc := 24) (nI 0) dX12_isBusyAhead_24 rfl ?_
  refine Ru_istore (pc := 25) dX12_isBusyAhead_25 rfl (by decide) ?_
  refine Ru_weak (l_X12_isBusyAhead hc wf wj hpj hj hk0 k j 0 rfl (Nat.zero_le _) (fun i hi => by omega)) rfl

theorem c_X12_wrongOf {Q : Rq} {M : Mem} {d : Td} {j : Nat} (hc : ∀ k, k < 521 → M.1 5 k = nI (d k)) (wf : Wf d) (wj : Wj d) (hpj : Y_pj d M) (hj : j < d 4) (k : Q (some (.int (nI (jW d j)))) GY M) : Ca 3 mt_X12_wrongOf 0 0 [.ref 0, .int (nI j)] GY M Q := by
  refine Ca_of rfl (Nat.le_of_ble_eq_true rfl) ?_
  have hb := wf.1
  have hkb := (wj j hj).1
  refine Ru_aload_n (pc := 0) dX12_wrongOf_0 rfl rfl ?_
  refine Ru_iload_n (pc := 1) dX12_wrongOf_1 rfl rfl ?_
  refine Ru_iconst (pc := 2) (nI 0) dX12_wrongOf_2 rfl ?_
  refine Ru_cv2 (pc := 3) dX12_wrongOf_3 mv_X12_512 rfl (by decide) (Nat.le_of_ble_eq_true rfl) (c_X12_jobCell (by omega) (by decide) (hpj j (by omega)).1 ?_) 
  refine Ru_istore_n (pc := 6) dX12_wrongOf_6 rfl rfl (by decide) ?_
  refine Ru_aload_n (pc := 7) dX12_wrongOf_7 rfl rfl ?_
  refine Ru_iload_n (pc := 8) dX12_wrongOf_8 rfl rfl ?_
  refine Ru_iconst (pc := 9) (nI 2) dX12_wrongOf_9 rfl ?_
  refine Ru_cv2 (pc := 10) dX12_wrongOf_10 mv_X12_512 rfl (by decide) (Nat.le_of_ble_eq_true rfl) (c_X12_jobCell (by omega) (by decide) (hpj j (by omega)).2.2.1 ?_) 
  refine Ru_istore_n (pc := 13) dX12_wrongOf_13 rfl rfl (by decide) ?_
  refine Ru_iload_n (pc := 14) dX12_wrongOf_14 rfl rfl ?_
  refine Ru_iconst (pc := 15) (nI 1) dX12_wrongOf_15 rfl ?_
  refine Ru_icmp_neN (pc := 16) 37 dX12_wrongOf_16 (by decide) (by omega) (fun h1 => ?_) (fun h1 => ?_)
  · refine Ru_iload_n (pc := 37) dX12_wrongOf_37 rfl rfl ?_
    refine Ru_iconst (pc := 38) (nI 2) dX12_wrongOf_38 rfl ?_
    refine Ru_icmp_neN (pc := 39) 55 dX12_wrongOf_39 (by decide) (by omega) (fun h2 => ?_) (fun h2 => ?_)
    · refine Ru_iload_n (pc := 55) dX12_wrongOf_55 rfl rfl ?_
      refine Ru_iconst (pc := 56) (nI 3) dX12_wrongOf_56 rfl ?_
      refine Ru_icmp_neN (pc := 57) 79 dX12_wrongOf_57 (by decide) (by omega) (fun h3 => ?_) (fun h3 => ?_)
      · have hk0 : d (521 + 5 * j) = 0 := by omega
        have hw0 := (wj j hj).2.1 hk0
        have hw3 := wf.2.2.2.2.1 _ hw0.2.1
        have h64 := pw8_6 wf
        have hpp := wf.2.2.2.2.2.1
        refine Ru_aload_n (pc := 79) dX12_wrongOf_79 rfl rfl ?_
        refine Ru_iload_n (pc := 80) dX12_wrongOf_80 rfl rfl ?_
        refine Ru_iconst (pc := 81) (nI 3) dX12_wrongOf_81 rfl ?_
        refine Ru_cv2 (pc := 82) dX12_wrongOf_82 mv_X12_512 rfl (by decide) (Nat.le_of_ble_eq_true rfl) (c_X12_jobCell (by omega) (by decide) (hpj j (by omega)).2.2.2 ?_) 
        refine Ru_cs1 (pc := 85) dX12_wrongOf_85 ms_X12_480 (by decide) (Nat.le_of_ble_eq_true rfl) (c_X12_bits (s := (d (524 + 5 * j))) (by omega) ?_) 
        refine Ru_aload_n (pc := 88) dX12_wrongOf_88 rfl rfl ?_
        refine Ru_getR (pc := 89) 5 dX12_wrongOf_89 fl_X12_35 rfl rfl rfl ?_
        refine Ru_bipush (pc := 92) (nI 53) dX12_wrongOf_92 rfl ?_
        refine Ru_iload_n (pc := 94) dX12_wrongOf_94 rfl rfl ?_
        refine Ru_iaddN (pc := 95) dX12_wrongOf_95 ?_
        refine Ru_iald (pc := 96) dX12_wrongOf_96 rfl (by omega) ?_
        refine Ru_top (hc (53 + (d (523 + 5 * j))) (by omega)) ?_
        refine Ru_icmp_eqN (pc := 97) 102 dX12_wrongOf_97 (by decide) ⟨Nat.lt_of_le_of_lt (pop8_le _) (by decide), by omega⟩ (fun h4 => ?_) (fun h4 => ?_)
        · have hpop := h4
          refine Ru_aload_n (pc := 102) dX12_wrongOf_102 rfl rfl ?_
          refine Ru_iload_n (pc := 103) dX12_wrongOf_103 rfl rfl ?_
          refine Ru_cv1 (pc := 104) dX12_wrongOf_104 mv_X12_518 rfl (by decide) (Nat.le_of_ble_eq_true rfl) (c_X12_areAwake hc wf wj hpj hj (by assumption) ?_) 
          refine Ru_if_neB (pc := 107) 112 dX12_wrongOf_107 (by decide) (fun h5 => ?_) (fun h5 => ?_)
          · have hA : anB (jAp d j) (d 2) = false := by
              cases z : anB (jAp d j) (d 2)
              · rfl
              · rw [z] at h5
                exact absurd h5 (by decide)
            refine Ru_aload_n (pc := 112) dX12_wrongOf_112 rfl rfl ?_
            refine Ru_iload_n (pc := 113) dX12_wrongOf_113 rfl rfl ?_
            refine Ru_cv1 (pc := 114) dX12_wrongOf_114 mv_X12_521 rfl (by decide) (Nat.le_of_ble_eq_true rfl) (c_X12_isBusyAhead hc wf wj hpj hj (by assumption) ?_) 
            refine Ru_if_eqB (pc := 117) 122 dX12_wrongOf_117 (by decide) (fun h6 => ?_) (fun h6 => ?_)
            · have hB : anB (jBi d j) j = false := h6
              refine Ru_aload_n (pc := 122) dX12_wrongOf_122 rfl rfl ?_
              refine Ru_iload_n (pc := 123) dX12_wrongOf_123 rfl rfl ?_
              refine Ru_iconst (pc := 124) (nI 1) dX12_wrongOf_124 rfl ?_
              refine Ru_cv2 (pc := 125) dX12_wrongOf_125 mv_X12_512 rfl (by decide) (Nat.le_of_ble_eq_true rfl) (c_X12_jobCell (by omega) (by decide) ((hpj j (by omega)).2.1 (by assumption)) ?_) 
              refine Ru_aload_n (pc := 128) dX12_wrongOf_128 rfl rfl ?_
              refine Ru_getR (pc := 129) 5 dX12_wrongOf_129 fl_X12_35 rfl rfl rfl ?_
              refine Ru_bipush (pc := 132) (nI 41) dX12_wrongOf_132 rfl ?_
              refine Ru_iload_n (pc := 134) dX12_wrongOf_134 rfl rfl ?_
              refine Ru_iaddN (pc := 135) dX12_wrongOf_135 ?_
              refine Ru_iald (pc := 136) dX12_wrongOf_136 rfl (by omega) ?_
              refine Ru_top (hc (41 + (d (523 + 5 * j))) (by omega)) ?_
              refine Ru_iaddN (pc := 137) dX12_wrongOf_137 ?_
              refine Ru_bipush (pc := 138) (nI 24) dX12_wrongOf_138 rfl ?_
              refine Ru_icmp_leN (pc := 140) 147 dX12_wrongOf_140 (by decide) (by omega) (fun h7 => ?_) (fun h7 => ?_)
              · refine Ru_iconst (pc := 147) (nI 0) dX12_wrongOf_147 rfl ?_
                refine Ru_iret (pc := 148) dX12_wrongOf_148 rfl ⟨Nat.le_refl _, Nat.le_refl _⟩ ?_
                have e : jW d j = 0 := by
                  unfold jW
                  rw [if_pos hk0]
                  unfold jM
                  rw [if_neg (fun z => z hpop), if_neg (by rw [hA]; decide), if_neg (by rw [hB]; decide), if_neg (by unfold jE; omega)]
                rw [e] at k
                exact k
              · refine Ru_iconst (pc := 143) (nI 4) dX12_wrongOf_143 rfl ?_
                refine Ru_goto (pc := 144) 148 dX12_wrongOf_144 (by decide) ?_
                refine Ru_iret (pc := 148) dX12_wrongOf_148 rfl ⟨Nat.le_refl _, Nat.le_refl _⟩ ?_
                have e : jW d j = 4 := by
                  unfold jW
                  rw [if_pos hk0]
                  unfold jM
                  rw [if_neg (fun z => z hpop), if_neg (by rw [hA]; decide), if_neg (by rw [hB]; decide), if_pos (by unfold jE; omega)]
                rw [e] at k
                exact k
            · have hB : anB (jBi d j) j = true := h6
              refine Ru_iconst (pc := 120) (nI 3) dX12_wrongOf_120 rfl ?_
              refine Ru_iret (pc := 121) dX12_wrongOf_121 rfl ⟨Nat.le_refl _, Nat.le_refl _⟩ ?_
              have e : jW d j = 3 := by
                unfold jW
                rw [if_pos hk0]
                unfold jM
                rw [if_neg (fun z => z hpop), if_neg (by rw [hA]; decide), if_pos hB]
              rw [e] at k
              exact k
          · have hA : anB (jAp d j) (d 2) = true := by
              cases z : anB (jAp d j) (d 2)
              · rw [z] at h5
                exact absurd h5 (by decide)
              · rfl
            refine Ru_iconst (pc := 110) (nI 2) dX12_wrongOf_110 rfl ?_
            refine Ru_iret (pc := 111) dX12_wrongOf_111 rfl ⟨Nat.le_refl _, Nat.le_refl _⟩ ?_
            have e : jW d j = 2 := by
              unfold jW
              rw [if_pos hk0]
              unfold jM
              rw [if_neg (fun z => z hpop), if_pos hA]
            rw [e] at k
            exact k
        · refine Ru_iconst (pc := 100) (nI 1) dX12_wrongOf_100 rfl ?_
          refine Ru_iret (pc := 101) dX12_wrongOf_101 rfl ⟨Nat.le_refl _, Nat.le_refl _⟩ ?_
          have e : jW d j = 1 := by
            unfold jW
            rw [if_pos hk0]
            unfold jM
            rw [if_pos (by assumption)]
          rw [e] at k
          exact k
      · have hwk := (wj j hj).2.2 (by omega)
        refine Ru_aload_n (pc := 60) dX12_wrongOf_60 rfl rfl ?_
        refine Ru_getR (pc := 61) 5 dX12_wrongOf_61 fl_X12_35 rfl rfl rfl ?_
        refine Ru_bipush (pc := 64) (nI 13) dX12_wrongOf_64 rfl ?_
        refine Ru_iload_n (pc := 66) dX12_wrongOf_66 rfl rfl ?_
        refine Ru_iaddN (pc := 67) dX12_wrongOf_67 ?_
        refine Ru_iald (pc := 68) dX12_wrongOf_68 rfl (by omega) ?_
        refine Ru_top (hc (13 + (d (523 + 5 * j))) (by omega)) ?_
        refine Ru_iconst (pc := 69) (nI 1) dX12_wrongOf_69 rfl ?_
        refine Ru_icmp_neN (pc := 70) 77 dX12_wrongOf_70 (by decide) (by have h5 := wf.2.1 (d (523 + 5 * j)) (by omega); omega) (fun h8 => ?_) (fun h8 => ?_)
        · refine Ru_iconst (pc := 77) (nI 5) dX12_wrongOf_77 rfl ?_
          refine Ru_iret (pc := 78) dX12_wrongOf_78 rfl ⟨Nat.le_refl _, Nat.le_refl _⟩ ?_
          have e : jW d j = 5 := by
            unfold jW
            rw [if_neg (by omega)]
            unfold jK
            rw [if_neg (by omega), if_pos (by omega), if_neg (by assumption)]
          rw [e] at k
          exact k
        · refine Ru_iconst (pc := 73) (nI 0) dX12_wrongOf_73 rfl ?_
          refine Ru_goto (pc := 74) 78 dX12_wrongOf_74 (by decide) ?_
          refine Ru_iret (pc := 78) dX12_wrongOf_78 rfl ⟨Nat.le_refl _, Nat.le_refl _⟩ ?_
          have e : jW d j = 0 := by
            unfold jW
            rw [if_neg (by omega)]
            unfold jK
            rw [if_neg (by omega), if_pos (by omega), if_pos (by assumption)]
          rw [e] at k
          exact k
    · refine Ru_aload_n (pc := 42) dX12_wrongOf_42 rfl rfl ?_
      refine Ru_cv0 (pc := 43) dX12_wrongOf_43 mv_X12_354 rfl (by decide) (Nat.le_of_ble_eq_true rfl) (c_X12_isTownAwake hc wf ?_) 
      refine Ru_if_eqB (pc := 46) 53 dX12_wrongOf_46 (by decide) (fun h9 => ?_) (fun h9 => ?_)
      · refine Ru_iconst (pc := 53) (nI 5) dX12_wrongOf_53 rfl ?_
        refine Ru_iret (pc := 54) dX12_wrongOf_54 rfl ⟨Nat.le_refl _, Nat.le_refl _⟩ ?_
        have e : jW d j = 5 := by
          unfold jW
          rw [if_neg (by omega)]
          unfold jK
          rw [if_neg (by omega), if_neg (by omega)]
          first | rw [if_pos (show twAw d = true by assumption)] | rw [if_neg (by rw [show twAw d = false by assumption]; decide)]
        rw [e] at k
        exact k
      · refine Ru_iconst (pc := 49) (nI 0) dX12_wrongOf_49 rfl ?_
        refine Ru_goto (pc := 50) 54 dX12_wrongOf_50 (by decide) ?_
        refine Ru_iret (pc := 54) dX12_wrongOf_54 rfl ⟨Nat.le_refl _, Nat.le_refl _⟩ ?_
        have e : jW d j = 0 := by
          unfold jW
          rw [if_neg (by omega)]
          unfold jK
          rw [if_neg (by omega), if_neg (by omega)]
          first | rw [if_pos (show twAw d = true by assumption)] | rw [if_neg (by rw [show twAw d = false by assumption]; decide)]
        rw [e] at k
        exact k
  · have hwk := (wj j hj).2.2 (by omega)
    refine Ru_aload_n (pc := 19) dX12_wrongOf_19 rfl rfl ?_
    refine Ru_getR (pc := 20) 5 dX12_wrongOf_20 fl_X12_35 rfl rfl rfl ?_
    refine Ru_iconst (pc := 23) (nI 5) dX12_wrongOf_23 rfl ?_
    refine Ru_iload_n (pc := 24) dX12_wrongOf_24 rfl rfl ?_
    refine Ru_iaddN (pc := 25) dX12_wrongOf_25 ?_
    refine Ru_iald (pc := 26) dX12_wrongOf_26 rfl (by omega) ?_
    refine Ru_top (hc (5 + (d (523 + 5 * j))) (by omega)) ?_
    refine Ru_iconst (pc := 27) (nI 1) dX12_wrongOf_27 rfl ?_
    refine Ru_icmp_neN (pc := 28) 35 dX12_wrongOf_28 (by decide) (by have h5 := wf.2.1 (d (523 + 5 * j)) (by omega); omega) (fun h10 => ?_) (fun h10 => ?_)
    · refine Ru_iconst (pc := 35) (nI 5) dX12_wrongOf_35 rfl ?_
      refine Ru_iret (pc := 36) dX12_wrongOf_36 rfl ⟨Nat.le_refl _, Nat.le_refl _⟩ ?_
      have e : jW d j = 5 := by
        unfold jW
        rw [if_neg (by omega)]
        unfold jK
        rw [if_pos (by omega), if_neg (by assumption)]
      rw [e] at k
      exact k
    · refine Ru_iconst (pc := 31) (nI 0) dX12_wrongOf_31 rfl ?_
      refine Ru_goto (pc := 32) 36 dX12_wrongOf_32 (by decide) ?_
      refine Ru_iret (pc := 36) dX12_wrongOf_36 rfl ⟨Nat.le_refl _, Nat.le_refl _⟩ ?_
      have e : jW d j = 0 := by
        unfold jW
        rw [if_neg (by omega)]
        unfold jK
        rw [if_pos (by omega), if_pos (by assumption)]
      rw [e] at k
      exact k
