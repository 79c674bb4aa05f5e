-- DEEDS: the reference, a day
def Y_jt (n : Nat) (q : Jt) (M : Mem) : Prop := (∀ i, i < n → M.1 20 i = r_b (q.2.1 i)) ∧ (M.1 0 55 = nM q.2.2.1 ∧ q.2.2.1 ≤ 24) ∧ (¬ q.2.2.1 = 0 → M.1 0 56 = nI q.2.2.2)
theorem Y_jt_fx {n : Nat} {q : Jt} {M M' : Mem} {F : List (Nat × Nat)} {A : List Nat} (fx : r_fx F A M M') (h : Y_jt n q M) (hi : ∀ k, r_in F A 20 k = false) (h3 : r_in F A 0 55 = false) (h2 : r_in F A 0 56 = false) : Y_jt n q M' := ⟨fun i hi2 => (fx 20 i (hi i)).1.trans (h.1 i hi2), ⟨(fx 0 55 h3).1.trans h.2.1.1, h.2.1.2⟩, fun z => (fx 0 56 h2).1.trans (h.2.2 z)⟩

theorem l_X12_lack {Q : Rq} {M0 : Mem} {v s j : Nat} (hv : v < 256) (hz : ¬ r_dif v s = 0) (k : ∀ M', r_fx [(0, 56)] [] M0 M' → M'.1 0 56 = nI (tz (r_dif v s)) → Q none GY M') : ∀ (zw : Nat) (m : Nat) (M : Mem), m = zw → (m ≤ 8) → (m ≤ tz (r_dif v s) → M.1 0 56 = nI (tz (r_dif v s))) → (r_fx [(0, 56)] [] M0 M) → Ru 1 mt_X12_lack r_z 24 [(0, some (.ref 0)), (1, some (.int (nI j))), (2, some (.int (nI s))), (3, some (.int (nI v))), (4, some (.int (nM m)))] [] GY M Q := by
  intro zw
  induction zw using Nat.strongRecOn with
  | ind zw ih =>
    intro m M hw hn hlt fx
    subst hw
    have hdl := r_dif_le v s
    have ht8 := tz_le (r_dif v s) (by omega) (by omega)
    have hzm : (nM m).toInt = (m : Int) - 1 := nM_t (by omega)
    refine Ru_iload (pc := 24) dX12_lack_24 rfl ?_
    refine Ru_if_ltT (pc := 26) 54 dX12_lack_26 (by decide) (fun h1 => ?_) (fun h1 => ?_)
    · refine Ru_vret (pc := 54) dX12_lack_54 rfl ⟨Nat.le_refl _, Nat.le_refl _⟩ ?_
      exact k M fx (hlt (by omega))
    · obtain ⟨i, rfl⟩ : ∃ i, m = i + 1 := ⟨m - 1, by omega⟩
      refine Ru_weak (L' := [(0, some (.ref 0)), (1, some (.int (nI j))), (2, some (.int (nI s))), (3, some (.int (nI v))), (4, some (.int (nI i)))]) ?_ rfl
      refine Ru_iload_n (pc := 29) dX12_lack_29 rfl rfl ?_
      refine Ru_iload_n (pc := 30) dX12_lack_30 rfl rfl ?_
      refine Ru_iconst (pc := 31) (-1) dX12_lack_31 rfl ?_
      refine Ru_ixor (pc := 32) dX12_lack_32 ?_
      refine Ru_idifN (pc := 33) dX12_lack_33 ?_
      refine Ru_iload (pc := 34) dX12_lack_34 rfl ?_
      refine Ru_cs2 (pc := 36) dX12_lack_36 ms_X12_372 (by decide) (Nat.le_of_ble_eq_true rfl) (c_X12_has (by omega) (by omega) ?_) 
      refine Ru_if_eqB (pc := 39) 48 dX12_lack_39 (by decide) (fun h2 => ?_) (fun h2 => ?_)
      · refine Ru_iinc (pc := 48) _ dX12_lack_48 rfl rfl rfl (by decide) ?_
        refine Ru_goto (pc := 51) 24 dX12_lack_51 (by decide) ?_
        rw [nM_dec (by omega)]
        refine Ru_weak (ih i (by omega) i M rfl (by omega) (fun q => hlt ?_) fx) rfl
        have z1 : (r_dif v s).testBit i = false := by assumption
        by_cases z2 : i = tz (r_dif v s)
        · have z3 := ht8.2.1
          rw [← z2, z1] at z3
          cases z3
        · omega
      · refine Ru_aload_n (pc := 42) dX12_lack_42 rfl rfl ?_
        refine Ru_iload (pc := 43) dX12_lack_43 rfl ?_
        refine Ru_putI (pc := 45) rfl dX12_lack_45 fl_X12_527 rfl ?_
        refine Ru_iinc (pc := 48) _ dX12_lack_48 rfl rfl rfl (by decide) ?_
        refine Ru_goto (pc := 51) 24 dX12_lack_51 (by decide) ?_
        rw [nM_dec (by omega)]
        refine Ru_weak (ih i (by omega) i _ rfl (by omega) (fun q => ?_) (r_fx.sI rfl fx)) rfl
        have z1 : (r_dif v s).testBit i = true := by assumption
        have z2 : i = tz (r_dif v s) := by
          apply Classical.byContradiction
          intro z3
          have z4 := ht8.2.2 i (by omega)
          rw [z1] at z4
          cases z4
        rw [← z2]
        exact r_sI_s

theorem c_X12_lack {Q : Rq} {M : Mem} {j v n : Nat} {q : Jt} (hq : Y_jt n q M) (hj : j < 24) (hv : v < 256) (hz : ¬ r_dif v q.1 = 0) (k : ∀ M', r_fx [(0, 55), (0, 56)] [20] M M' → Y_jt n (jL q j v) M' → Q none GY M') : Ca 1 mt_X12_lack 0 0 [.ref 0, .int (nI j), .int (nI q.1), .int (nI v)] GY M Q := by
  refine Ca_of rfl (Nat.le_of_ble_eq_true rfl) ?_
  have hdl := r_dif_le v q.1
  have hq24 := hq.2.1.2
  have ht8 := tz_le (r_dif v q.1) (by omega) (by omega)
  refine Ru_aload_n (pc := 0) dX12_lack_0 rfl rfl ?_
  refine Ru_getR (pc := 1) 20 dX12_lack_1 fl_X12_81 rfl rfl rfl ?_
  refine Ru_iload_n (pc := 4) dX12_lack_4 rfl rfl ?_
  refine Ru_iconst (pc := 5) (nI 1) dX12_lack_5 rfl ?_
  refine Ru_zast (pc := 6) rfl dX12_lack_6 rfl (by omega) (Or.inr rfl) ?_
  refine Ru_aload_n (pc := 7) dX12_lack_7 rfl rfl ?_
  refine Ru_getI (pc := 8) dX12_lack_8 fl_X12_524 rfl rfl ?_
  refine Ru_top ((r_sI_n (by omega)).trans hq.2.1.1) ?_
  refine Ru_if_ltT (pc := 11) 15 dX12_lack_11 (by decide) (fun h1 => ?_) (fun h1 => ?_)
  · have hnz : q.2.2.1 = 0 := by
      have z := nM_t (k := q.2.2.1) (by omega)
      omega
    refine Ru_aload_n (pc := 15) dX12_lack_15 rfl rfl ?_
    refine Ru_iload_n (pc := 16) dX12_lack_16 rfl rfl ?_
    refine Ru_putI (pc := 17) rfl dX12_lack_17 fl_X12_524 rfl ?_
    refine Ru_bipush (pc := 20) (nI 7) dX12_lack_20 rfl ?_
    refine Ru_istore (pc := 22) dX12_lack_22 rfl (by decide) ?_
    have hnz : q.2.2.1 = 0 := by assumption
    rw [show jL q j v = (q.1, (fun i => if i = j then true else q.2.1 i), (j + 1, tz (r_dif v q.1))) from by unfold jL; rw [if_neg hz, if_pos hnz]] at k
    refine Ru_weak (l_X12_lack (M0 := (r_sI (r_sI M 20 j (nI 1)) 0 55 (nI j))) (v := v) (s := q.1) (j := j) hv hz (fun M2 gx2 h56 => k M2 ((r_fx.sI rfl (r_fx.sI rfl r_fx.rf)).tr (gx2.mono rfl)) ⟨fun i hi => ?_, ⟨(gx2 0 55 rfl).1.trans r_sI_s, by show j + 1 ≤ 24; omega⟩, fun _ => h56⟩) 8 8 _ rfl (Nat.le_refl _) (fun q9 => by omega) r_fx.rf) rfl
    refine (gx2 20 i rfl).1.trans ((r_sI_n (by omega)).trans ?_)
    rw [r_sI_g]
    by_cases e : i = j
    · subst e
      rw [if_pos ⟨rfl, rfl⟩]
      show _ = r_b (if i = i then true else _)
      rw [if_pos rfl]
      rfl
    · rw [if_neg (fun z => e z.2)]
      show _ = r_b (if i = j then true else _)
      rw [if_neg e]
      exact hq.1 i hi
  · have hnz : ¬ q.2.2.1 = 0 := by
      have z := nM_t (k := q.2.2.1) (by omega)
      omega
    refine Ru_vret (pc := 14) dX12_lack_14 rfl ⟨Nat.le_refl _, Nat.le_refl _⟩ ?_
    have hnz : ¬ q.2.2.1 = 0 := by assumption
    rw [show jL q j v = (q.1, (fun i => if i = j then true else q.2.1 i), q.2.2) from by unfold jL; rw [if_neg hz, if_neg hnz]] at k
    refine k _ (r_fx.sI rfl r_fx.rf) ⟨fun i hi => ?_, ⟨(r_sI_n (by omega)).trans hq.2.1.1, hq.2.1.2⟩, fun z => (r_sI_n (by omega)).trans (hq.2.2 z)⟩
    rw [r_sI_g]
    by_cases e : i = j
    · subst e
      rw [if_pos ⟨rfl, rfl⟩]
      show _ = r_b (if i = i then true else _)
      rw [if_pos rfl]
      rfl
    · rw [if_neg (fun z => e z.2)]
      show _ = r_b (if i = j then true else _)
      rw [if_neg e]
      exact hq.1 i hi

theorem l_X12_begin {Q : Rq} {M0 : Mem} {d : Td} (hc0 : ∀ k, k < 521 → M0.1 5 k = nI (d k)) (wf : Wf d) (wj : Wj d) (hpj0 : Y_pj d M0) {tm : Nat} {q0 : Jt} (htm : tm ≤ 24) (hq8 : q0.1 < 256) (k : ∀ M', r_fx [(0, 55), (0, 56)] [20] M0 M' → Y_jt (d 4) (jBn d tm q0 (d 4)) M' → Q (some (.int (nI (jBn d tm q0 (d 4)).1))) GY M') : ∀ (zw : Nat) (n : Nat) (M : Mem), d 4 - n = zw → (n ≤ d 4) → (Y_jt (d 4) (jBn d tm q0 n) M) → (r_fx [(0, 55), (0, 56)] [20] M0 M) → Ru 2 mt_X12_begin r_z 5 [(0, some (.ref 0)), (1, some (.int (nI tm))), (2, some (.int (nI q0.1))), (3, some (.int (nI (jBn d tm q0 n).1))), (4, some (.int (nI n)))] [] GY M Q := by
  intro zw
  induction zw using Nat.strongRecOn with
  | ind zw ih =>
    intro n M hw hn hq fx
    subst hw
    have hb := wf.1
    have hp := pw_le hb.1
    have hc : ∀ k, k < 521 → M.1 5 k = nI (d k) := fun k hk => (fx 5 k rfl).1.trans (hc0 k hk)
    have hpj : Y_pj d M := (Y_pj_dp d).kp fx rfl hpj0
    have hle : (jBn d tm q0 n).1 ≤ q0.1 := jBn_le n
    refine Ru_iload (pc := 5) dX12_begin_5 rfl ?_
    refine Ru_aload_n (pc := 7) dX12_begin_7 rfl rfl ?_
    refine Ru_getR (pc := 8) 5 dX12_begin_8 fl_X12_35 rfl rfl rfl ?_
    refine Ru_iconst (pc := 11) (nI 4) dX12_begin_11 rfl ?_
    refine Ru_iald (pc := 12) dX12_begin_12 rfl (by omega) ?_
    refine Ru_top (hc 4 (by omega)) ?_
    refine Ru_icmp_geN (pc := 13) 109 dX12_begin_13 (by decide) (by omega) (fun h1 => ?_) (fun h1 => ?_)
    · refine Ru_iload_n (pc := 109) dX12_begin_109 rfl rfl ?_
      refine Ru_iret (pc := 110) dX12_begin_110 rfl ⟨Nat.le_refl _, Nat.le_refl _⟩ ?_
      have en : n = d 4 := by omega
      subst en
      exact k M fx hq
    · refine Ru_aload_n (pc := 16) dX12_begin_16 rfl rfl ?_
      refine Ru_iload (pc := 17) dX12_begin_17 rfl ?_
      refine Ru_iconst (pc := 19) (nI 0) dX12_begin_19 rfl ?_
      refine Ru_cv2 (pc := 20) dX12_begin_20 mv_X12_512 rfl (by decide) (Nat.le_of_ble_eq_true rfl) (c_X12_jobCell (by omega) (by decide) (hpj n (by omega)).1 ?_) 
      refine Ru_if_neN (pc := 23) 103 dX12_begin_23 (by decide) (by have := (wj n (by omega)).1; omega) (fun h2 => ?_) (fun h2 => ?_)
      · refine Ru_iincN (pc := 103) 1 dX12_begin_103 rfl rfl rfl (by decide) ?_
        refine Ru_goto (pc := 106) 5 dX12_begin_106 (by decide) ?_
        have e1 : jBn d tm q0 (n + 1) = (jBn d tm q0 n) := by
          show jB1 d tm (jBn d tm q0 n) n = _
          unfold jB1
          refine if_neg ?_
          rintro ⟨z1, z2, z3⟩
          simp_all
        have hr := ih (d 4 - (n + 1)) (by omega) (n + 1) M rfl (by omega) (by rw [e1]; exact hq) fx
        rw [e1] at hr
        exact Ru_weak hr rfl
      · have hk0n : d (521 + 5 * n) = 0 := h2
        have hw0 := (wj n (by omega)).2.1 hk0n
        have hsn := sNd_lt wf hw0.2.1
        refine Ru_aload_n (pc := 26) dX12_begin_26 rfl rfl ?_
        refine Ru_getR (pc := 27) 20 dX12_begin_27 fl_X12_81 rfl rfl rfl ?_
        refine Ru_iload (pc := 30) dX12_begin_30 rfl ?_
        refine Ru_zald (pc := 32) dX12_begin_32 rfl (by omega) ?_
        refine Ru_top (hq.1 n (by omega)) ?_
        refine Ru_if_neB (pc := 33) 103 dX12_begin_33 (by decide) (fun h3 => ?_) (fun h3 => ?_)
        · refine Ru_iincN (pc := 103) 1 dX12_begin_103 rfl rfl rfl (by decide) ?_
          refine Ru_goto (pc := 106) 5 dX12_begin_106 (by decide) ?_
          have e1 : jBn d tm q0 (n + 1) = (jBn d tm q0 n) := by
            show jB1 d tm (jBn d tm q0 n) n = _
            unfold jB1
            refine if_neg ?_
            rintro ⟨z1, z2, z3⟩
            simp_all
          have hr := ih (d 4 - (n + 1)) (by omega) (n + 1) M rfl (by omega) (by rw [e1]; exact hq) fx
          rw [e1] at hr
          exact Ru_weak hr rfl
        · refine Ru_aload_n (pc := 36) dX12_begin_36 rfl rfl ?_
          refine Ru_iload (pc := 37) dX12_begin_37 rfl ?_
          refine Ru_iconst (pc := 39) (nI 1) dX12_begin_39 rfl ?_
          refine Ru_cv2 (pc := 40) dX12_begin_40 mv_X12_512 rfl (by decide) (Nat.le_of_ble_eq_true rfl) (c_X12_jobCell (by omega) (by decide) ((hpj n (by omega)).2.1 (by assumption)) ?_) 
          refine Ru_iload_n (pc := 43) dX12_begin_43 rfl rfl ?_
          refine Ru_icmp_eqN (pc := 44) 50 dX12_begin_44 (by decide) (by omega) (fun h4 => ?_) (fun h4 => ?_)
          · refine Ru_aload_n (pc := 50) dX12_begin_50 rfl rfl ?_
            refine Ru_iload (pc := 51) dX12_begin_51 rfl ?_
            refine Ru_iconst (pc := 53) (nI 2) dX12_begin_53 rfl ?_
            refine Ru_cv2 (pc := 54) dX12_begin_54 mv_X12_512 rfl (by decide) (Nat.le_of_ble_eq_true rfl) (c_X12_jobCell (by omega) (by decide) (hpj n (by omega)).2.2.1 ?_) 
            refine Ru_istore (pc := 57) dX12_begin_57 rfl (by decide) ?_
            refine Ru_aload_n (pc := 59) dX12_begin_59 rfl rfl ?_
            refine Ru_iload (pc := 60) dX12_begin_60 rfl ?_
            refine Ru_cv1 (pc := 62) dX12_begin_62 mv_X12_407 rfl (by decide) (Nat.le_of_ble_eq_true rfl) (c_X12_needsS hc wf (by omega) ?_) 
            refine Ru_iload_n (pc := 65) dX12_begin_65 rfl rfl ?_
            refine Ru_iconst (pc := 66) (-1) dX12_begin_66 rfl ?_
            refine Ru_ixor (pc := 67) dX12_begin_67 ?_
            refine Ru_idifN (pc := 68) dX12_begin_68 ?_
            refine Ru_if_eqN (pc := 69) 88 dX12_begin_69 (by decide) (Nat.lt_of_le_of_lt (r_dif_le _ _) (by omega)) (fun h5 => ?_) (fun h5 => ?_)
            · refine Ru_iload_n (pc := 88) dX12_begin_88 rfl rfl ?_
              refine Ru_aload_n (pc := 89) dX12_begin_89 rfl rfl ?_
              refine Ru_getR (pc := 90) 5 dX12_begin_90 fl_X12_35 rfl rfl rfl ?_
              refine Ru_bipush (pc := 93) (nI 65) dX12_begin_93 rfl ?_
              refine Ru_iload (pc := 95) dX12_begin_95 rfl ?_
              refine Ru_iaddN (pc := 97) dX12_begin_97 ?_
              refine Ru_iald (pc := 98) dX12_begin_98 rfl (by omega) ?_
              refine Ru_top (hc (65 + (d (523 + 5 * n))) (by omega)) ?_
              refine Ru_iconst (pc := 99) (-1) dX12_begin_99 rfl ?_
              refine Ru_ixor (pc := 100) dX12_begin_100 ?_
              refine Ru_idifN (pc := 101) dX12_begin_101 ?_
              refine Ru_istore_n (pc := 102) dX12_begin_102 rfl rfl (by decide) ?_
              refine Ru_iincN (pc := 103) 1 dX12_begin_103 rfl rfl rfl (by decide) ?_
              refine Ru_goto (pc := 106) 5 dX12_begin_106 (by decide) ?_
              have e1 : jBn d tm q0 (n + 1) = (r_dif (jBn d tm q0 n).1 (d (65 + (d (523 + 5 * n)))), (jBn d tm q0 n).2) := by
                show jB1 d tm (jBn d tm q0 n) n = _
                unfold jB1
                rw [if_pos ⟨by assumption, by assumption, by assumption⟩, if_pos (show r_dif (sNd d (d (523 + 5 * n))) (jBn d tm q0 n).1 = 0 by assumption)]
              have e2 : (jBn d tm q0 (n + 1)).1 = (r_dif (jBn d tm q0 n).1 (d (65 + (d (523 + 5 * n))))) := by
                rw [e1]
              have hr := ih (d 4 - (n + 1)) (by omega) (n + 1) M rfl (by omega) (by rw [e1]; exact hq) fx
              rw [e2] at hr
              exact Ru_weak hr rfl
            · refine Ru_aload_n (pc := 72) dX12_begin_72 rfl rfl ?_
              refine Ru_iload (pc := 73) dX12_begin_73 rfl ?_
              refine Ru_iload_n (pc := 75) dX12_begin_75 rfl rfl ?_
              refine Ru_aload_n (pc := 76) dX12_begin_76 rfl rfl ?_
              refine Ru_iload (pc := 77) dX12_begin_77 rfl ?_
              refine Ru_cv1 (pc := 79) dX12_begin_79 mv_X12_407 rfl (by decide) (Nat.le_of_ble_eq_true rfl) (c_X12_needsS hc wf (by omega) ?_) 
              refine Ru_cv3 (pc := 82) dX12_begin_82 mv_X12_530 rfl (by decide) (Nat.le_of_ble_eq_true rfl) (c_X12_lack hq (j := n) (by omega) (by omega) (by assumption) (fun M2 gx2 hq2 => ?_)) 
              have fx2 := fx.tr gx2
              refine Ru_goto (pc := 85) 103 dX12_begin_85 (by decide) ?_
              refine Ru_iincN (pc := 103) 1 dX12_begin_103 rfl rfl rfl (by decide) ?_
              refine Ru_goto (pc := 106) 5 dX12_begin_106 (by decide) ?_
              have e1 : jBn d tm q0 (n + 1) = jL (jBn d tm q0 n) n (sNd d (d (523 + 5 * n))) := by
                show jB1 d tm (jBn d tm q0 n) n = _
                unfold jB1
                rw [if_pos ⟨by assumption, by assumption, by assumption⟩, if_neg (show ¬ r_dif (sNd d (d (523 + 5 * n))) (jBn d tm q0 n).1 = 0 by assumption)]
              have e2 : (jBn d tm q0 (n + 1)).1 = (jBn d tm q0 n).1 := by
                rw [e1]
                exact jL_1 _ _ _
              have hr := ih (d 4 - (n + 1)) (by omega) (n + 1) M2 rfl (by omega) (by rw [e1]; exact hq2) fx2
              rw [e2] at hr
              exact Ru_weak hr rfl
          · refine Ru_goto (pc := 47) 103 dX12_begin_47 (by decide) ?_
            refine Ru_iincN (pc := 103) 1 dX12_begin_103 rfl rfl rfl (by decide) ?_
            refine Ru_goto (pc := 106) 5 dX12_begin_106 (by decide) ?_
            have e1 : jBn d tm q0 (n + 1) = (jBn d tm q0 n) := by
              show jB1 d tm (jBn d tm q0 n) n = _
              unfold jB1
              refine if_neg ?_
              rintro ⟨z1, z2, z3⟩
              simp_all
            have hr := ih (d 4 - (n + 1)) (by omega) (n + 1) M rfl (by omega) (by rw [e1]; exact hq) fx
            rw [e1] at hr
            exact Ru_weak hr rfl

theorem c_X12_begin {Q : Rq} {M : Mem} {d : Td} (hc : ∀ k, k < 521 → M.1 5 k = nI (d k)) (wf : Wf d) (wj : Wj d) (hpj : Y_pj d M) {tm : Nat} {q0 : Jt} (htm : tm ≤ 24) (hq8 : q0.1 < 256) (hq : Y_jt (d 4) q0 M) (k : ∀ M', r_fx [(0, 55), (0, 56)] [20] M M' → Y_jt (d 4) (jBn d tm q0 (d 4)) M' → Q (some (.int (nI (jBn d tm q0 (d 4)).1))) GY M') : Ca 2 mt_X12_begin 0 0 [.ref 0, .int (nI tm), .int (nI q0.1)] GY M Q := by
  refine Ca_of rfl (Nat.le_of_ble_eq_true rfl) ?_
  refine Ru_iload_n (pc := 0) dX12_begin_0 rfl rfl ?_
  refine Ru_istore_n (pc := 1) dX12_begin_1 rfl rfl (by decide) ?_
  refine Ru_iconst (pc := 2) (nI 0) dX12_begin_2 rfl ?_
  refine Ru_istore (pc := 3) dX12_begin_3 rfl (by decide) ?_
  refine Ru_weak (l_X12_begin hc wf wj hpj htm hq8 k (d 4) 0 M rfl (Nat.zero_le _) hq r_fx.rf) rfl

theorem l_X12_end {Q : Rq} {M : Mem} {d : Td} {tm s : Nat} {L : Nat → Bool} (hc : ∀ k, k < 521 → M.1 5 k = nI (d k)) (wf : Wf d) (wj : Wj d) (hpj : Y_pj d M) (hL : ∀ i, i < d 4 → M.1 20 i = r_b (L i)) (htm : tm ≤ 24) (k : Q (some (.int (nI (s ||| jG d (jGo d L) tm (d 4))))) GY M) : ∀ (zw : Nat) (n : Nat), d 4 - n = zw → (n ≤ d 4) → Ru 1 mt_X12_end r_z 5 [(0, some (.ref 0)), (1, some (.int (nI tm))), (2, some (.int (nI s))), (3, some (.int (nI (s ||| jG d (jGo d L) tm n)))), (4, some (.int (nI n)))] [] GY M Q := by
  intro zw
  induction zw using Nat.strongRecOn with
  | ind zw ih =>
    intro n hw hn
    subst hw
    have hb := wf.1
    refine Ru_iload (pc := 5) dX12_end_5 rfl ?_
    refine Ru_aload_n (pc := 7) dX12_end_7 rfl rfl ?_
    refine Ru_getR (pc := 8) 5 dX12_end_8 fl_X12_35 rfl rfl rfl ?_
    refine Ru_iconst (pc := 11) (nI 4) dX12_end_11 rfl ?_
    refine Ru_iald (pc := 12) dX12_end_12 rfl (by omega) ?_
    refine Ru_top (hc 4 (by omega)) ?_
    refine Ru_icmp_geN (pc := 13) 89 dX12_end_13 (by decide) (by omega) (fun h1 => ?_) (fun h1 => ?_)
    · refine Ru_iload_n (pc := 89) dX12_end_89 rfl rfl ?_
      refine Ru_iret (pc := 90) dX12_end_90 rfl ⟨Nat.le_refl _, Nat.le_refl _⟩ ?_
      have en : n = d 4 := by omega
      subst en
      exact k
    · refine Ru_aload_n (pc := 16) dX12_end_16 rfl rfl ?_
      refine Ru_iload (pc := 17) dX12_end_17 rfl ?_
      refine Ru_iconst (pc := 19) (nI 0) dX12_end_19 rfl ?_
      refine Ru_cv2 (pc := 20) dX12_end_20 mv_X12_512 rfl (by decide) (Nat.le_of_ble_eq_true rfl) (c_X12_jobCell (by omega) (by decide) (hpj n (by omega)).1 ?_) 
      refine Ru_if_neN (pc := 23) 83 dX12_end_23 (by decide) (by have := (wj n (by omega)).1; omega) (fun h2 => ?_) (fun h2 => ?_)
      · refine Ru_iincN (pc := 83) 1 dX12_end_83 rfl rfl rfl (by decide) ?_
        refine Ru_goto (pc := 86) 5 dX12_end_86 (by decide) ?_
        have e : s ||| jG d (jGo d L) tm (n + 1) = (s ||| jG d (jGo d L) tm n) := by
          rw [jG]
          rw [if_neg]
          rintro ⟨z1, z2⟩
          unfold jGo at z1
          unfold jE at z2
          rw [Bool.and_eq_true] at z1
          have z3 := of_decide_eq_true z1.1
          have z4 := z1.2
          simp_all
        have hr := ih (d 4 - (n + 1)) (by omega) (n + 1) rfl (by omega)
        rw [e] at hr
        exact Ru_weak hr rfl
      · have hk0n : d (521 + 5 * n) = 0 := h2
        have hw0 := (wj n (by omega)).2.1 hk0n
        have hw3 := wf.2.2.2.2.1 _ hw0.2.1
        refine Ru_aload_n (pc := 26) dX12_end_26 rfl rfl ?_
        refine Ru_getR (pc := 27) 20 dX12_end_27 fl_X12_81 rfl rfl rfl ?_
        refine Ru_iload (pc := 30) dX12_end_30 rfl ?_
        refine Ru_zald (pc := 32) dX12_end_32 rfl (by omega) ?_
        refine Ru_top (hL n (by omega)) ?_
        refine Ru_if_neB (pc := 33) 83 dX12_end_33 (by decide) (fun h3 => ?_) (fun h3 => ?_)
        · refine Ru_iincN (pc := 83) 1 dX12_end_83 rfl rfl rfl (by decide) ?_
          refine Ru_goto (pc := 86) 5 dX12_end_86 (by decide) ?_
          have e : s ||| jG d (jGo d L) tm (n + 1) = (s ||| jG d (jGo d L) tm n) := by
            rw [jG]
            rw [if_neg]
            rintro ⟨z1, z2⟩
            unfold jGo at z1
            unfold jE at z2
            rw [Bool.and_eq_true] at z1
            have z3 := of_decide_eq_true z1.1
            have z4 := z1.2
            simp_all
          have hr := ih (d 4 - (n + 1)) (by omega) (n + 1) rfl (by omega)
          rw [e] at hr
          exact Ru_weak hr rfl
        · refine Ru_aload_n (pc := 36) dX12_end_36 rfl rfl ?_
          refine Ru_iload (pc := 37) dX12_end_37 rfl ?_
          refine Ru_iconst (pc := 39) (nI 1) dX12_end_39 rfl ?_
          refine Ru_cv2 (pc := 40) dX12_end_40 mv_X12_512 rfl (by decide) (Nat.le_of_ble_eq_true rfl) (c_X12_jobCell (by omega) (by decide) ((hpj n (by omega)).2.1 (by assumption)) ?_) 
          refine Ru_aload_n (pc := 43) dX12_end_43 rfl rfl ?_
          refine Ru_getR (pc := 44) 5 dX12_end_44 fl_X12_35 rfl rfl rfl ?_
          refine Ru_bipush (pc := 47) (nI 41) dX12_end_47 rfl ?_
          refine Ru_aload_n (pc := 49) dX12_end_49 rfl rfl ?_
          refine Ru_iload (pc := 50) dX12_end_50 rfl ?_
          refine Ru_iconst (pc := 52) (nI 2) dX12_end_52 rfl ?_
          refine Ru_cv2 (pc := 53) dX12_end_53 mv_X12_512 rfl (by decide) (Nat.le_of_ble_eq_true rfl) (c_X12_jobCell (by omega) (by decide) (hpj n (by omega)).2.2.1 ?_) 
          refine Ru_iaddN (pc := 56) dX12_end_56 ?_
          refine Ru_iald (pc := 57) dX12_end_57 rfl (by omega) ?_
          refine Ru_top (hc (41 + (d (523 + 5 * n))) (by omega)) ?_
          refine Ru_iaddN (pc := 58) dX12_end_58 ?_
          refine Ru_iload_n (pc := 59) dX12_end_59 rfl rfl ?_
          refine Ru_icmp_neN (pc := 60) 83 dX12_end_60 (by decide) (by omega) (fun h4 => ?_) (fun h4 => ?_)
          · refine Ru_iincN (pc := 83) 1 dX12_end_83 rfl rfl rfl (by decide) ?_
            refine Ru_goto (pc := 86) 5 dX12_end_86 (by decide) ?_
            have e : s ||| jG d (jGo d L) tm (n + 1) = (s ||| jG d (jGo d L) tm n) := by
              rw [jG]
              rw [if_neg]
              rintro ⟨z1, z2⟩
              unfold jGo at z1
              unfold jE at z2
              rw [Bool.and_eq_true] at z1
              have z3 := of_decide_eq_true z1.1
              have z4 := z1.2
              simp_all
            have hr := ih (d 4 - (n + 1)) (by omega) (n + 1) rfl (by omega)
            rw [e] at hr
            exact Ru_weak hr rfl
          · refine Ru_iload_n (pc := 63) dX12_end_63 rfl rfl ?_
            refine Ru_iconst (pc := 64) (nI 1) dX12_end_64 rfl ?_
            refine Ru_aload_n (pc := 65) dX12_end_65 rfl rfl ?_
            refine Ru_getR (pc := 66) 5 dX12_end_66 fl_X12_35 rfl rfl rfl ?_
            refine Ru_bipush (pc := 69) (nI 29) dX12_end_69 rfl ?_
            refine Ru_aload_n (pc := 71) dX12_end_71 rfl rfl ?_
            refine Ru_iload (pc := 72) dX12_end_72 rfl ?_
            refine Ru_iconst (pc := 74) (nI 2) dX12_end_74 rfl ?_
            refine Ru_cv2 (pc := 75) dX12_end_75 mv_X12_512 rfl (by decide) (Nat.le_of_ble_eq_true rfl) (c_X12_jobCell (by omega) (by decide) (hpj n (by omega)).2.2.1 ?_) 
            refine Ru_iaddN (pc := 78) dX12_end_78 ?_
            refine Ru_iald (pc := 79) dX12_end_79 rfl (by omega) ?_
            refine Ru_top (hc (29 + (d (523 + 5 * n))) (by omega)) ?_
            refine Ru_ishl1N (pc := 80) dX12_end_80 (by omega) ?_
            refine Ru_iorN (pc := 81) dX12_end_81 ?_
            refine Ru_istore_n (pc := 82) dX12_end_82 rfl rfl (by decide) ?_
            refine Ru_iincN (pc := 83) 1 dX12_end_83 rfl rfl rfl (by decide) ?_
            refine Ru_goto (pc := 86) 5 dX12_end_86 (by decide) ?_
            have e : s ||| jG d (jGo d L) tm (n + 1) = ((s ||| jG d (jGo d L) tm n) ||| (2 ^ (d (29 + (d (523 + 5 * n)))))) := by
              rw [jG]
              rw [if_pos ⟨by unfold jGo; rw [decide_eq_true (show d (521 + 5 * n) = 0 by assumption), show L n = false by assumption]; rfl, by unfold jE; assumption⟩, Nat.or_assoc]
            have hr := ih (d 4 - (n + 1)) (by omega) (n + 1) rfl (by omega)
            rw [e] at hr
            exact Ru_weak hr rfl

theorem c_X12_end {Q : Rq} {M : Mem} {d : Td} {tm s : Nat} {L : Nat → Bool} (hc : ∀ k, k < 521 → M.1 5 k = nI (d k)) (wf : Wf d) (wj : Wj d) (hpj : Y_pj d M) (hL : ∀ i, i < d 4 → M.1 20 i = r_b (L i)) (htm : tm ≤ 24) (k : Q (some (.int (nI (s ||| jG d (jGo d L) tm (d 4))))) GY M) : Ca 1 mt_X12_end 0 0 [.ref 0, .int (nI tm), .int (nI s)] GY M Q := by
  refine Ca_of rfl (Nat.le_of_ble_eq_true rfl) ?_
  refine Ru_iload_n (pc := 0) dX12_end_0 rfl rfl ?_
  refine Ru_istore_n (pc := 1) dX12_end_1 rfl rfl (by decide) ?_
  refine Ru_iconst (pc := 2) (nI 0) dX12_end_2 rfl ?_
  refine Ru_istore (pc := 3) dX12_end_3 rfl (by decide) ?_
  have e0 : s ||| jG d (jGo d L) tm 0 = s := Nat.or_zero s
  have hr := l_X12_end hc wf wj hpj hL htm k (d 4) 0 rfl (Nat.zero_le _)
  rw [e0] at hr
  exact Ru_weak hr rfl

theorem l_X12_toldNight {Q : Rq} {M : Mem} {d : Td} {kd s : Nat} {L : Nat → Bool} (hc : ∀ k, k < 521 → M.1 5 k = nI (d k)) (wf : Wf d) (wj : Wj d) (wn : Wn d) (hpj : Y_pj d M) (hL : ∀ i, i < d 4 → M.1 20 i = r_b (L i)) (hk : 1 ≤ kd ∧ kd ≤ 3) (hs : s < 256) (hh : ∀ i, i < d 4 → (¬ d (521 + 5 * i) = 0) → L i = false → s.testBit (d (523 + 5 * i)) = true) (k : Q (some (.int (nM (jTo d L kd (d 4))))) GY M) : ∀ (zw : Nat) (n : Nat), d 4 - n = zw → (n ≤ d 4) → (∀ i, i < n → ¬ (d (521 + 5 * i) = kd ∧ L i = false)) → Ru 1 mt_X12_toldNight r_z 2 [(0, some (.ref 0)), (1, some (.int (nI kd))), (2, some (.int (nI s))), (3, some (.int (nI n)))] [] GY M Q := by
  intro zw
  induction zw using Nat.strongRecOn with
  | ind zw ih =>
    intro n hw hn hno
    subst hw
    have hb := wf.1
    refine Ru_iload_n (pc := 2) dX12_toldNight_2 rfl rfl ?_
    refine Ru_aload_n (pc := 3) dX12_toldNight_3 rfl rfl ?_
    refine Ru_getR (pc := 4) 5 dX12_toldNight_4 fl_X12_35 rfl rfl rfl ?_
    refine Ru_iconst (pc := 7) (nI 4) dX12_toldNight_7 rfl ?_
    refine Ru_iald (pc := 8) dX12_toldNight_8 rfl (by omega) ?_
    refine Ru_top (hc 4 (by omega)) ?_
    refine Ru_icmp_geN (pc := 9) 60 dX12_toldNight_9 (by decide) (by omega) (fun h1 => ?_) (fun h1 => ?_)
    · refine Ru_iconst (pc := 60) (-1) dX12_toldNight_60 rfl ?_
      refine Ru_iret (pc := 61) dX12_toldNight_61 rfl ⟨Nat.le_refl _, Nat.le_refl _⟩ ?_
      refine r_qe ?_ k
      rw [jTo_z (d 4) (fun i hi => hno i (by omega))]
      rfl
    · refine Ru_aload_n (pc := 12) dX12_toldNight_12 rfl rfl ?_
      refine Ru_iload_n (pc := 13) dX12_toldNight_13 rfl rfl ?_
      refine Ru_iconst (pc := 14) (nI 0) dX12_toldNight_14 rfl ?_
      refine Ru_cv2 (pc := 15) dX12_toldNight_15 mv_X12_512 rfl (by decide) (Nat.le_of_ble_eq_true rfl) (c_X12_jobCell (by omega) (by decide) (hpj n (by omega)).1 ?_) 
      refine Ru_iload_n (pc := 18) dX12_toldNight_18 rfl rfl ?_
      refine Ru_icmp_neN (pc := 19) 54 dX12_toldNight_19 (by decide) (by have := (wj n (by omega)).1; omega) (fun h2 => ?_) (fun h2 => ?_)
      · refine Ru_iincN (pc := 54) 1 dX12_toldNight_54 rfl rfl rfl (by decide) ?_
        refine Ru_goto (pc := 57) 2 dX12_toldNight_57 (by decide) ?_
        refine Ru_weak (ih (d 4 - (n + 1)) (by omega) (n + 1) rfl (by omega) (fun i hi => ?_)) rfl
        by_cases e : i = n
        · subst e
          rintro ⟨z1, z2⟩
          simp_all
        · exact hno i (by omega)
      · have hkn : d (521 + 5 * n) = kd := h2
        have hw0 := (wj n (by omega)).2.2 (by omega)
        refine Ru_aload_n (pc := 22) dX12_toldNight_22 rfl rfl ?_
        refine Ru_getR (pc := 23) 20 dX12_toldNight_23 fl_X12_81 rfl rfl rfl ?_
        refine Ru_iload_n (pc := 26) dX12_toldNight_26 rfl rfl ?_
        refine Ru_zald (pc := 27) dX12_toldNight_27 rfl (by omega) ?_
        refine Ru_top (hL n (by omega)) ?_
        refine Ru_if_eqB (pc := 28) 34 dX12_toldNight_28 (by decide) (fun h3 => ?_) (fun h3 => ?_)
        · refine Ru_iload_n (pc := 34) dX12_toldNight_34 rfl rfl ?_
          refine Ru_aload_n (pc := 35) dX12_toldNight_35 rfl rfl ?_
          refine Ru_iload_n (pc := 36) dX12_toldNight_36 rfl rfl ?_
          refine Ru_iconst (pc := 37) (nI 2) dX12_toldNight_37 rfl ?_
          refine Ru_cv2 (pc := 38) dX12_toldNight_38 mv_X12_512 rfl (by decide) (Nat.le_of_ble_eq_true rfl) (c_X12_jobCell (by omega) (by decide) (hpj n (by omega)).2.2.1 ?_) 
          refine Ru_cs2 (pc := 41) dX12_toldNight_41 ms_X12_372 (by decide) (Nat.le_of_ble_eq_true rfl) (c_X12_has (by omega) (by omega) ?_) 
          refine Ru_if_eqB (pc := 44) 54 dX12_toldNight_44 (by decide) (fun h4 => ?_) (fun h4 => ?_)
          · have z9 := hh n (by omega) (by omega) (by assumption)
            rw [z9] at h4
            cases h4
          · refine Ru_aload_n (pc := 47) dX12_toldNight_47 rfl rfl ?_
            refine Ru_iload_n (pc := 48) dX12_toldNight_48 rfl rfl ?_
            refine Ru_iconst (pc := 49) (nI 2) dX12_toldNight_49 rfl ?_
            refine Ru_cv2 (pc := 50) dX12_toldNight_50 mv_X12_512 rfl (by decide) (Nat.le_of_ble_eq_true rfl) (c_X12_jobCell (by omega) (by decide) (hpj n (by omega)).2.2.1 ?_) 
            refine Ru_iret (pc := 53) dX12_toldNight_53 rfl ⟨Nat.le_refl _, Nat.le_refl _⟩ ?_
            have hkn : d (521 + 5 * n) = kd := by assumption
            refine r_qe ?_ k
            rw [jTo_u (j := n) (fun i z1 z2 => wn.2 i n z2 (by omega) (by omega) (by omega)) hkn (by assumption) (d 4) (by omega) (Nat.le_refl _)]
            rfl
        · refine Ru_goto (pc := 31) 54 dX12_toldNight_31 (by decide) ?_
          refine Ru_iincN (pc := 54) 1 dX12_toldNight_54 rfl rfl rfl (by decide) ?_
          refine Ru_goto (pc := 57) 2 dX12_toldNight_57 (by decide) ?_
          refine Ru_weak (ih (d 4 - (n + 1)) (by omega) (n + 1) rfl (by omega) (fun i hi => ?_)) rfl
          by_cases e : i = n
          · subst e
            rintro ⟨z1, z2⟩
            simp_all
          · exact hno i (by omega)

theorem c_X12_toldNight {Q : Rq} {M : Mem} {d : Td} {kd s : Nat} {L : Nat → Bool} (hc : ∀ k, k < 521 → M.1 5 k = nI (d k)) (wf : Wf d) (wj : Wj d) (wn : Wn d) (hpj : Y_pj d M) (hL : ∀ i, i < d 4 → M.1 20 i = r_b (L i)) (hk : 1 ≤ kd ∧ kd ≤ 3) (hs : s < 256) (hh : ∀ i, i < d 4 → (¬ d (521 + 5 * i) = 0) → L i = false → s.testBit (d (523 + 5 * i)) = true) (k : Q (some (.int (nM (jTo d L kd (d 4))))) GY M) : Ca 1 mt_X12_toldNight 0 0 [.ref 0, .int (nI kd), .int (nI s)] GY M Q := by
  refine Ca_of rfl (Nat.le_of_ble_eq_true rfl) ?_
  refine Ru_iconst (pc := 0) (nI 0) dX12_toldNight_0 rfl ?_
  refine Ru_istore_n (pc := 1) dX12_toldNight_1 rfl rfl (by decide) ?_
  refine Ru_weak (l_X12_toldNight hc wf wj wn hpj hL hk hs hh k (d 4) 0 rfl (Nat.zero_le _) (fun i hi => by omega)) rfl
