-- DEEDS: the reference, one day and its night

theorem l_X12_doDay_a {Q : Rq} {M0 : Mem} {d : Td} (hc0 : ∀ k, k < 521 → M0.1 5 k = nI (d k)) (wf : Wf d) (wj : Wj d) (hpj0 : Y_pj d M0) {s y ill : Nat} (hill : ill < 64) (k : ∀ M, (∀ i, i < d 4 → M.1 20 i = r_b (jL0 d ill i)) → r_fx [] [20] M0 M → Ru 4 mt_X12_doDay r_z 83 [(0, some (.ref 0)), (1, some (.int (nI s))), (2, some (.int (nI y))), (3, some (.int (nI ill)))] [] GY M Q) : ∀ (zw : Nat) (n : Nat) (M : Mem), d 4 - n = zw → (n ≤ d 4) → (∀ i, i < n → M.1 20 i = r_b (jL0 d ill i)) → (r_fx [] [20] M0 M) → Ru 4 mt_X12_doDay r_z 23 [(0, some (.ref 0)), (1, some (.int (nI s))), (2, some (.int (nI y))), (3, some (.int (nI ill))), (4, some (.int (nI n)))] [] GY M Q := by
  intro zw
  induction zw using Nat.strongRecOn with
  | ind zw ih =>
    intro n M hw hn hls fx
    subst hw
    have hb := wf.1
    have hp := pw_le hb.1
    have hc : ∀ k, k < 521 → M.1 5 k = nI (d k) := fun k hk => (fx 5 k rfl).1.trans (hc0 k hk)
    have hpj : Y_pj d M := (Y_pj_dp d).kp fx rfl hpj0
    refine Ru_iload (pc := 23) dX12_doDay_23 rfl ?_
    refine Ru_aload_n (pc := 25) dX12_doDay_25 rfl rfl ?_
    refine Ru_getR (pc := 26) 5 dX12_doDay_26 fl_X12_35 rfl rfl rfl ?_
    refine Ru_iconst (pc := 29) (nI 4) dX12_doDay_29 rfl ?_
    refine Ru_iald (pc := 30) dX12_doDay_30 rfl (by omega) ?_
    refine Ru_top (hc 4 (by omega)) ?_
    refine Ru_icmp_geN (pc := 31) 83 dX12_doDay_31 (by decide) (by omega) (fun h1 => ?_) (fun h1 => ?_)
    · have en : n = d 4 := by omega
      subst en
      exact Ru_weak (k M hls fx) rfl
    · refine Ru_aload_n (pc := 34) dX12_doDay_34 rfl rfl ?_
      refine Ru_getR (pc := 35) 20 dX12_doDay_35 fl_X12_81 rfl rfl rfl ?_
      refine Ru_iload (pc := 38) dX12_doDay_38 rfl ?_
      refine Ru_aload_n (pc := 40) dX12_doDay_40 rfl rfl ?_
      refine Ru_iload (pc := 41) dX12_doDay_41 rfl ?_
      refine Ru_cv1 (pc := 43) dX12_doDay_43 mv_X12_540 rfl (by decide) (Nat.le_of_ble_eq_true rfl) (c_X12_wrongOf hc wf wj hpj (j := n) (by omega) ?_) 
      refine Ru_if_gtN (pc := 46) 71 dX12_doDay_46 (by decide) (by have := jW_le d n; omega) (fun h2 => ?_) (fun h2 => ?_)
      · refine Ru_iconst (pc := 71) (nI 1) dX12_doDay_71 rfl ?_
        refine Ru_goto (pc := 72) 76 dX12_doDay_72 (by decide) ?_
        refine Ru_zast (pc := 76) rfl dX12_doDay_76 rfl (by omega) (Or.inr rfl) ?_
        refine Ru_iincN (pc := 77) 1 dX12_doDay_77 rfl rfl rfl (by decide) ?_
        refine Ru_goto (pc := 80) 23 dX12_doDay_80 (by decide) ?_
        refine Ru_weak (ih (d 4 - (n + 1)) (by omega) (n + 1) _ rfl (by omega) (fun i hi => ?_) (r_fx.sI rfl fx)) rfl
        rw [r_sI_g]
        by_cases e : i = n
        · subst e
          rw [if_pos ⟨rfl, rfl⟩]
          have ej : jL0 d ill i = true := by
            unfold jL0
            rw [decide_eq_true (show ¬ jW d i = 0 by omega), Bool.true_or]
          rw [ej]
          rfl
        · rw [if_neg (fun z => e z.2)]
          exact hls i (by omega)
      · refine Ru_aload_n (pc := 49) dX12_doDay_49 rfl rfl ?_
        refine Ru_iload (pc := 50) dX12_doDay_50 rfl ?_
        refine Ru_iconst (pc := 52) (nI 0) dX12_doDay_52 rfl ?_
        refine Ru_cv2 (pc := 53) dX12_doDay_53 mv_X12_512 rfl (by decide) (Nat.le_of_ble_eq_true rfl) (c_X12_jobCell (by omega) (by decide) (hpj n (by omega)).1 ?_) 
        refine Ru_if_neN (pc := 56) 75 dX12_doDay_56 (by decide) (by have := (wj n (by omega)).1; omega) (fun h3 => ?_) (fun h3 => ?_)
        · refine Ru_iconst (pc := 75) (nI 0) dX12_doDay_75 rfl ?_
          refine Ru_zast (pc := 76) rfl dX12_doDay_76 rfl (by omega) (Or.inl rfl) ?_
          refine Ru_iincN (pc := 77) 1 dX12_doDay_77 rfl rfl rfl (by decide) ?_
          refine Ru_goto (pc := 80) 23 dX12_doDay_80 (by decide) ?_
          refine Ru_weak (ih (d 4 - (n + 1)) (by omega) (n + 1) _ rfl (by omega) (fun i hi => ?_) (r_fx.sI rfl fx)) rfl
          rw [r_sI_g]
          by_cases e : i = n
          · subst e
            rw [if_pos ⟨rfl, rfl⟩]
            have ej : jL0 d ill i = false := by
              unfold jL0
              rw [decide_eq_false (fun z => z (show jW d i = 0 by omega)), ((wj i (by omega)).2.2 (by assumption)).2, Nat.zero_and]
              rfl
            rw [ej]
            rfl
          · rw [if_neg (fun z => e z.2)]
            exact hls i (by omega)
        · refine Ru_aload_n (pc := 59) dX12_doDay_59 rfl rfl ?_
          refine Ru_iload (pc := 60) dX12_doDay_60 rfl ?_
          refine Ru_iconst (pc := 62) (nI 3) dX12_doDay_62 rfl ?_
          refine Ru_cv2 (pc := 63) dX12_doDay_63 mv_X12_512 rfl (by decide) (Nat.le_of_ble_eq_true rfl) (c_X12_jobCell (by omega) (by decide) (hpj n (by omega)).2.2.2 ?_) 
          refine Ru_iload_n (pc := 66) dX12_doDay_66 rfl rfl ?_
          refine Ru_iandN (pc := 67) dX12_doDay_67 ?_
          refine Ru_if_eqN (pc := 68) 75 dX12_doDay_68 (by decide) (Nat.lt_of_le_of_lt Nat.and_le_right (by omega)) (fun h4 => ?_) (fun h4 => ?_)
          · refine Ru_iconst (pc := 75) (nI 0) dX12_doDay_75 rfl ?_
            refine Ru_zast (pc := 76) rfl dX12_doDay_76 rfl (by omega) (Or.inl rfl) ?_
            refine Ru_iincN (pc := 77) 1 dX12_doDay_77 rfl rfl rfl (by decide) ?_
            refine Ru_goto (pc := 80) 23 dX12_doDay_80 (by decide) ?_
            refine Ru_weak (ih (d 4 - (n + 1)) (by omega) (n + 1) _ rfl (by omega) (fun i hi => ?_) (r_fx.sI rfl fx)) rfl
            rw [r_sI_g]
            by_cases e : i = n
            · subst e
              rw [if_pos ⟨rfl, rfl⟩]
              have ej : jL0 d ill i = false := by
                unfold jL0
                rw [decide_eq_false (fun z => z (show jW d i = 0 by omega)), decide_eq_false (fun z => z (show d (524 + 5 * i) &&& ill = 0 by assumption))]
                rfl
              rw [ej]
              rfl
            · rw [if_neg (fun z => e z.2)]
              exact hls i (by omega)
          · refine Ru_iconst (pc := 71) (nI 1) dX12_doDay_71 rfl ?_
            refine Ru_goto (pc := 72) 76 dX12_doDay_72 (by decide) ?_
            refine Ru_zast (pc := 76) rfl dX12_doDay_76 rfl (by omega) (Or.inr rfl) ?_
            refine Ru_iincN (pc := 77) 1 dX12_doDay_77 rfl rfl rfl (by decide) ?_
            refine Ru_goto (pc := 80) 23 dX12_doDay_80 (by decide) ?_
            refine Ru_weak (ih (d 4 - (n + 1)) (by omega) (n + 1) _ rfl (by omega) (fun i hi => ?_) (r_fx.sI rfl fx)) rfl
            rw [r_sI_g]
            by_cases e : i = n
            · subst e
              rw [if_pos ⟨rfl, rfl⟩]
              have ej : jL0 d ill i = true := by
                unfold jL0
                rw [decide_eq_true (show ¬ d (524 + 5 * i) &&& ill = 0 by assumption), Bool.or_true]
              rw [ej]
              rfl
            · rw [if_neg (fun z => e z.2)]
              exact hls i (by omega)

theorem l_X12_doDay_c {Q : Rq} {M0 : Mem} {d : Td} (hc0 : ∀ k, k < 521 → M0.1 5 k = nI (d k)) (wf : Wf d) (wj : Wj d) (hpj0 : Y_pj d M0) {s y ill : Nat} {x0 : Jt × Nat × Nat} (hx8 : x0.1.1 < 2 ^ d 0) (k : ∀ M, Y_jt (d 4) (jT d x0 25).1 M → M.1 0 52 = nI (jT d x0 25).2.1 → M.1 0 53 = nI (jT d x0 25).2.2 → (∀ i, i < 25 → M.1 21 i = nI (jT d x0 (i + 1)).1.1) → r_fx [(0, 45), (0, 46), (0, 47), (0, 52), (0, 53), (0, 55), (0, 56)] [20, 21] M0 M → Ru 4 mt_X12_doDay r_z 167 [(0, some (.ref 0)), (1, some (.int (nI s))), (2, some (.int (nI y))), (3, some (.int (nI ill))), (4, some (.int (nI (jT d x0 25).1.1))), (5, some (.int (nI 25)))] [] GY M Q) : ∀ (zw : Nat) (tm : Nat) (M : Mem), 25 - tm = zw → (tm ≤ 25) → (Y_jt (d 4) (jT d x0 tm).1 M) → (M.1 0 52 = nI (jT d x0 tm).2.1) → (M.1 0 53 = nI (jT d x0 tm).2.2) → (∀ i, i < tm → M.1 21 i = nI (jT d x0 (i + 1)).1.1) → (r_fx [(0, 45), (0, 46), (0, 47), (0, 52), (0, 53), (0, 55), (0, 56)] [20, 21] M0 M) → Ru 4 mt_X12_doDay r_z 89 [(0, some (.ref 0)), (1, some (.int (nI s))), (2, some (.int (nI y))), (3, some (.int (nI ill))), (4, some (.int (nI (jT d x0 tm).1.1))), (5, some (.int (nI tm)))] [] GY M Q := by
  intro zw
  induction zw using Nat.strongRecOn with
  | ind zw ih =>
    intro tm M hw hn hq h52 h53 hsn fx
    subst hw
    have hb := wf.1
    have hp := pw_le hb.1
    have hc : ∀ k, k < 521 → M.1 5 k = nI (d k) := fun k hk => (fx 5 k rfl).1.trans (hc0 k hk)
    have hpj : Y_pj d M := (Y_pj_dp d).kp fx rfl hpj0
    have hT8 := jT_lt wf wj hx8 tm
    have hG8 := jG_lt wf wj (P := jGo d (jT d x0 tm).1.2.1) (fun j => jGo_k) tm (d 4) (Nat.le_refl _)
    have hS8 := Nat.or_lt_two_pow hT8 hG8
    have hW8 := wT_le d tm ((jT d x0 tm).1.1 ||| jG d (jGo d (jT d x0 tm).1.2.1) tm (d 4))
    refine Ru_iload (pc := 89) dX12_doDay_89 rfl ?_
    refine Ru_bipush (pc := 91) (nI 25) dX12_doDay_91 rfl ?_
    refine Ru_icmp_geN (pc := 93) 167 dX12_doDay_93 (by decide) (by omega) (fun h1 => ?_) (fun h1 => ?_)
    · have en : tm = 25 := by omega
      subst en
      exact Ru_weak (k M hq h52 h53 hsn fx) rfl
    · refine Ru_aload_n (pc := 96) dX12_doDay_96 rfl rfl ?_
      refine Ru_iload (pc := 97) dX12_doDay_97 rfl ?_
      refine Ru_iload (pc := 99) dX12_doDay_99 rfl ?_
      refine Ru_cv2 (pc := 101) dX12_doDay_101 mv_X12_543 rfl (by decide) (Nat.le_of_ble_eq_true rfl) (c_X12_end (L := (jT d x0 tm).1.2.1) hc wf wj hpj hq.1 (by omega) ?_) 
      refine Ru_istore (pc := 104) dX12_doDay_104 rfl (by decide) ?_
      refine Ru_aload_n (pc := 106) dX12_doDay_106 rfl rfl ?_
      refine Ru_iload (pc := 107) dX12_doDay_107 rfl ?_
      refine Ru_iload (pc := 109) dX12_doDay_109 rfl ?_
      refine Ru_cv2 (pc := 111) dX12_doDay_111 mv_X12_436 rfl (by decide) (Nat.le_of_ble_eq_true rfl) (c_X12_take hc wf (by omega) (by omega) (fun M2 gx2 g45 g46 g47 => ?_)) 
      have fx2 : r_fx [(0, 45), (0, 46), (0, 47), (0, 52), (0, 53), (0, 55), (0, 56)] [20, 21] M0 M2 := fx.tr (gx2.mono rfl)
      have h522 : M2.1 0 52 = nI (jT d x0 tm).2.1 := (gx2 0 52 rfl).1.trans h52
      have h532 : M2.1 0 53 = nI (jT d x0 tm).2.2 := (gx2 0 53 rfl).1.trans h53
      refine Ru_aload_n (pc := 114) dX12_doDay_114 rfl rfl ?_
      refine Ru_dup (pc := 115) dX12_doDay_115 rfl ?_
      refine Ru_getI (pc := 116) dX12_doDay_116 fl_X12_534 rfl rfl ?_
      refine Ru_top h522 ?_
      refine Ru_aload_n (pc := 119) dX12_doDay_119 rfl rfl ?_
      refine Ru_getI (pc := 120) dX12_doDay_120 fl_X12_427 rfl rfl ?_
      refine Ru_top g45 ?_
      refine Ru_iaddN (pc := 123) dX12_doDay_123 ?_
      refine Ru_putI (pc := 124) rfl dX12_doDay_124 fl_X12_534 rfl ?_
      refine Ru_aload_n (pc := 127) dX12_doDay_127 rfl rfl ?_
      refine Ru_dup (pc := 128) dX12_doDay_128 rfl ?_
      refine Ru_getI (pc := 129) dX12_doDay_129 fl_X12_537 rfl rfl ?_
      refine Ru_top ((r_sI_n (by decide)).trans h532) ?_
      refine Ru_aload_n (pc := 132) dX12_doDay_132 rfl rfl ?_
      refine Ru_getI (pc := 133) dX12_doDay_133 fl_X12_433 rfl rfl ?_
      refine Ru_top ((r_sI_n (by decide)).trans g47) ?_
      refine Ru_iaddN (pc := 136) dX12_doDay_136 ?_
      refine Ru_putI (pc := 137) rfl dX12_doDay_137 fl_X12_537 rfl ?_
      have fx3 : r_fx [(0, 45), (0, 46), (0, 47), (0, 52), (0, 53), (0, 55), (0, 56)] [20, 21] M0 (r_sI (r_sI M2 0 52 (nI ((jT d x0 tm).2.1 + (wT d tm ((jT d x0 tm).1.1 ||| jG d (jGo d (jT d x0 tm).1.2.1) tm (d 4))).2.1))) 0 53 (nI ((jT d x0 tm).2.2 + (wT d tm ((jT d x0 tm).1.1 ||| jG d (jGo d (jT d x0 tm).1.2.1) tm (d 4))).2.2))) := r_fx.sI rfl (r_fx.sI rfl fx2)
      have hc3 : ∀ k, k < 521 → (r_sI (r_sI M2 0 52 (nI ((jT d x0 tm).2.1 + (wT d tm ((jT d x0 tm).1.1 ||| jG d (jGo d (jT d x0 tm).1.2.1) tm (d 4))).2.1))) 0 53 (nI ((jT d x0 tm).2.2 + (wT d tm ((jT d x0 tm).1.1 ||| jG d (jGo d (jT d x0 tm).1.2.1) tm (d 4))).2.2))).1 5 k = nI (d k) := fun k hk => (fx3 5 k rfl).1.trans (hc0 k hk)
      have hpj3 : Y_pj d (r_sI (r_sI M2 0 52 (nI ((jT d x0 tm).2.1 + (wT d tm ((jT d x0 tm).1.1 ||| jG d (jGo d (jT d x0 tm).1.2.1) tm (d 4))).2.1))) 0 53 (nI ((jT d x0 tm).2.2 + (wT d tm ((jT d x0 tm).1.1 ||| jG d (jGo d (jT d x0 tm).1.2.1) tm (d 4))).2.2))) := (Y_pj_dp d).kp fx3 rfl hpj0
      have gx3 : r_fx [(0, 45), (0, 46), (0, 47), (0, 52), (0, 53)] [] M (r_sI (r_sI M2 0 52 (nI ((jT d x0 tm).2.1 + (wT d tm ((jT d x0 tm).1.1 ||| jG d (jGo d (jT d x0 tm).1.2.1) tm (d 4))).2.1))) 0 53 (nI ((jT d x0 tm).2.2 + (wT d tm ((jT d x0 tm).1.1 ||| jG d (jGo d (jT d x0 tm).1.2.1) tm (d 4))).2.2))) := r_fx.sI rfl (r_fx.sI rfl (gx2.mono rfl))
      have hq3 : Y_jt (d 4) ((wT d tm ((jT d x0 tm).1.1 ||| jG d (jGo d (jT d x0 tm).1.2.1) tm (d 4))).1, (jT d x0 tm).1.2) (r_sI (r_sI M2 0 52 (nI ((jT d x0 tm).2.1 + (wT d tm ((jT d x0 tm).1.1 ||| jG d (jGo d (jT d x0 tm).1.2.1) tm (d 4))).2.1))) 0 53 (nI ((jT d x0 tm).2.2 + (wT d tm ((jT d x0 tm).1.1 ||| jG d (jGo d (jT d x0 tm).1.2.1) tm (d 4))).2.2))) := Y_jt_fx (q := (jT d x0 tm).1) gx3 hq (fun _ => rfl) rfl rfl
      refine Ru_aload_n (pc := 140) dX12_doDay_140 rfl rfl ?_
      refine Ru_iload (pc := 141) dX12_doDay_141 rfl ?_
      refine Ru_aload_n (pc := 143) dX12_doDay_143 rfl rfl ?_
      refine Ru_getI (pc := 144) dX12_doDay_144 fl_X12_430 rfl rfl ?_
      refine Ru_top ((r_sI_n (by decide)).trans ((r_sI_n (by decide)).trans g46)) ?_
      refine Ru_cv2 (pc := 147) dX12_doDay_147 mv_X12_546 rfl (by decide) (Nat.le_of_ble_eq_true rfl) (c_X12_begin (q0 := ((wT d tm ((jT d x0 tm).1.1 ||| jG d (jGo d (jT d x0 tm).1.2.1) tm (d 4))).1, (jT d x0 tm).1.2)) (tm := tm) hc3 wf wj hpj3 (by omega) (by omega) hq3 (fun M4 gx4 hq4 => ?_)) 
      have fx4 : r_fx [(0, 45), (0, 46), (0, 47), (0, 52), (0, 53), (0, 55), (0, 56)] [20, 21] M0 M4 := fx3.tr (gx4.mono rfl)
      refine Ru_istore (pc := 150) dX12_doDay_150 rfl (by decide) ?_
      refine Ru_aload_n (pc := 152) dX12_doDay_152 rfl rfl ?_
      refine Ru_getR (pc := 153) 21 dX12_doDay_153 fl_X12_84 rfl rfl rfl ?_
      refine Ru_iload (pc := 156) dX12_doDay_156 rfl ?_
      refine Ru_iload (pc := 158) dX12_doDay_158 rfl ?_
      refine Ru_iast (pc := 160) rfl dX12_doDay_160 rfl (by omega) ?_
      refine Ru_iincN (pc := 161) 1 dX12_doDay_161 rfl rfl rfl (by decide) ?_
      refine Ru_goto (pc := 164) 89 dX12_doDay_164 (by decide) ?_
      refine Ru_weak (ih (25 - (tm + 1)) (by omega) (tm + 1) _ rfl (by omega) ?_ ?_ ?_ (fun i hi => ?_) (r_fx.sI rfl fx4)) rfl
      · exact Y_jt_fx (F := []) (A := [21]) (r_fx.sI rfl r_fx.rf) hq4 (fun _ => rfl) rfl rfl
      · exact (r_sI_n (by omega)).trans ((gx4 0 52 rfl).1.trans ((r_sI_n (by omega)).trans r_sI_s))
      · exact (r_sI_n (by omega)).trans ((gx4 0 53 rfl).1.trans r_sI_s)
      · rw [r_sI_g]
        by_cases e : i = tm
        · subst e
          rw [if_pos ⟨rfl, rfl⟩]
          rfl
        · rw [if_neg (fun z => e z.2)]
          exact (gx4 21 i rfl).1.trans ((gx3 21 i rfl).1.trans (hsn i (by omega)))

theorem c_X12_lackS {Q : Rq} {M : Mem} {j v n q1 : Nat} {q : Jt} (e : q.1 = q1) (hq : Y_jt n q M) (hj : j < 24) (hv : v < 256) (hz : ¬ r_dif v q.1 = 0) (k : ∀ M', r_fx [(0, 55), (0, 56)] [20] M M' → Y_jt n (jL q j v) M' → Q none GY M') : Ca 1 mt_X12_lack 0 0 [.ref 0, .int (nI j), .int (nI q1), .int (nI v)] GY M Q := by
  subst e
  exact c_X12_lack hq hj hv hz k
theorem r_dif_p2 {s t : Nat} : r_dif (2 ^ t) s = 0 ↔ s.testBit t = true := by
  constructor
  · intro z
    have z1 : (r_dif (2 ^ t) s).testBit t = false := by rw [z, Nat.zero_testBit]
    rw [r_dif_bit, Nat.testBit_two_pow, decide_eq_true rfl, Bool.true_and] at z1
    cases y : s.testBit t
    · rw [y] at z1
      cases z1
    · rfl
  · intro z
    apply Nat.eq_of_testBit_eq
    intro i
    rw [r_dif_bit, Nat.zero_testBit, Nat.testBit_two_pow]
    by_cases e : t = i
    · subst e
      rw [z]
      simp
    · rw [decide_eq_false e]
      rfl

theorem l_X12_doDay_n {Q : Rq} {M0 : Mem} {d : Td} (hc0 : ∀ k, k < 521 → M0.1 5 k = nI (d k)) (wf : Wf d) (wj : Wj d) (hpj0 : Y_pj d M0) {s y ill : Nat} {q : Jt} (hq8 : q.1 < 256) (k : ∀ M, Y_jt (d 4) (jN d q (d 4)) M → r_fx [(0, 55), (0, 56)] [20] M0 M → Ru 4 mt_X12_doDay r_z 239 [(0, some (.ref 0)), (1, some (.int (nI s))), (2, some (.int (nI y))), (3, some (.int (nI ill))), (4, some (.int (nI q.1))), (5, some (.int (nI (d 4))))] [] GY M Q) : ∀ (zw : Nat) (n : Nat) (M : Mem), d 4 - n = zw → (n ≤ d 4) → (Y_jt (d 4) (jN d q n) M) → (r_fx [(0, 55), (0, 56)] [20] M0 M) → Ru 4 mt_X12_doDay r_z 170 [(0, some (.ref 0)), (1, some (.int (nI s))), (2, some (.int (nI y))), (3, some (.int (nI ill))), (4, some (.int (nI q.1))), (5, some (.int (nI n)))] [] GY M Q := by
  intro zw
  induction zw using Nat.strongRecOn with
  | ind zw ih =>
    intro n M hw hn hq fx
    subst hw
    have hb := wf.1
    have hp := pw_le hb.1
    have hc : ∀ k, k < 521 → M.1 5 k = nI (d k) := fun k hk => (fx 5 k rfl).1.trans (hc0 k hk)
    have hpj : Y_pj d M := (Y_pj_dp d).kp fx rfl hpj0
    refine Ru_iload (pc := 170) dX12_doDay_170 rfl ?_
    refine Ru_aload_n (pc := 172) dX12_doDay_172 rfl rfl ?_
    refine Ru_getR (pc := 173) 5 dX12_doDay_173 fl_X12_35 rfl rfl rfl ?_
    refine Ru_iconst (pc := 176) (nI 4) dX12_doDay_176 rfl ?_
    refine Ru_iald (pc := 177) dX12_doDay_177 rfl (by omega) ?_
    refine Ru_top (hc 4 (by omega)) ?_
    refine Ru_icmp_geN (pc := 178) 239 dX12_doDay_178 (by decide) (by omega) (fun h1 => ?_) (fun h1 => ?_)
    · have en : n = d 4 := by omega
      subst en
      exact Ru_weak (k M hq fx) rfl
    · refine Ru_aload_n (pc := 181) dX12_doDay_181 rfl rfl ?_
      refine Ru_iload (pc := 182) dX12_doDay_182 rfl ?_
      refine Ru_iconst (pc := 184) (nI 0) dX12_doDay_184 rfl ?_
      refine Ru_cv2 (pc := 185) dX12_doDay_185 mv_X12_512 rfl (by decide) (Nat.le_of_ble_eq_true rfl) (c_X12_jobCell (by omega) (by decide) (hpj n (by omega)).1 ?_) 
      refine Ru_if_eqN (pc := 188) 233 dX12_doDay_188 (by decide) (by have := (wj n (by omega)).1; omega) (fun h2 => ?_) (fun h2 => ?_)
      · refine Ru_iincN (pc := 233) 1 dX12_doDay_233 rfl rfl rfl (by decide) ?_
        refine Ru_goto (pc := 236) 170 dX12_doDay_236 (by decide) ?_
        have e1 : jN d q (n + 1) = (jN d q n) := by
          rw [jN, if_neg]
          rintro ⟨z1, z2⟩
          simp_all
        exact Ru_weak (ih (d 4 - (n + 1)) (by omega) (n + 1) M rfl (by omega) (by rw [e1]; exact hq) fx) rfl
      · have hk1 : ¬ d (521 + 5 * n) = 0 := h2
        have hw0 := (wj n (by omega)).2.2 hk1
        refine Ru_aload_n (pc := 191) dX12_doDay_191 rfl rfl ?_
        refine Ru_getR (pc := 192) 20 dX12_doDay_192 fl_X12_81 rfl rfl rfl ?_
        refine Ru_iload (pc := 195) dX12_doDay_195 rfl ?_
        refine Ru_zald (pc := 197) dX12_doDay_197 rfl (by omega) ?_
        refine Ru_top (hq.1 n (by omega)) ?_
        refine Ru_if_neB (pc := 198) 233 dX12_doDay_198 (by decide) (fun h3 => ?_) (fun h3 => ?_)
        · refine Ru_iincN (pc := 233) 1 dX12_doDay_233 rfl rfl rfl (by decide) ?_
          refine Ru_goto (pc := 236) 170 dX12_doDay_236 (by decide) ?_
          have e1 : jN d q (n + 1) = (jN d q n) := by
            rw [jN, if_neg]
            rintro ⟨z1, z2⟩
            simp_all
          exact Ru_weak (ih (d 4 - (n + 1)) (by omega) (n + 1) M rfl (by omega) (by rw [e1]; exact hq) fx) rfl
        · refine Ru_iload (pc := 201) dX12_doDay_201 rfl ?_
          refine Ru_aload_n (pc := 203) dX12_doDay_203 rfl rfl ?_
          refine Ru_iload (pc := 204) dX12_doDay_204 rfl ?_
          refine Ru_iconst (pc := 206) (nI 2) dX12_doDay_206 rfl ?_
          refine Ru_cv2 (pc := 207) dX12_doDay_207 mv_X12_512 rfl (by decide) (Nat.le_of_ble_eq_true rfl) (c_X12_jobCell (by omega) (by decide) (hpj n (by omega)).2.2.1 ?_) 
          refine Ru_cs2 (pc := 210) dX12_doDay_210 ms_X12_372 (by decide) (Nat.le_of_ble_eq_true rfl) (c_X12_has (by omega) (by omega) ?_) 
          refine Ru_if_neB (pc := 213) 233 dX12_doDay_213 (by decide) (fun h4 => ?_) (fun h4 => ?_)
          · have hbt : q.1.testBit (d (523 + 5 * n)) = true := h4
            refine Ru_iincN (pc := 233) 1 dX12_doDay_233 rfl rfl rfl (by decide) ?_
            refine Ru_goto (pc := 236) 170 dX12_doDay_236 (by decide) ?_
            have e1 : jN d q (n + 1) = (jN d q n) := by
              rw [jN, if_pos ⟨by assumption, by assumption⟩]
              exact jL_no (by rw [jN_1]; exact r_dif_p2.mpr hbt)
            exact Ru_weak (ih (d 4 - (n + 1)) (by omega) (n + 1) M rfl (by omega) (by rw [e1]; exact hq) fx) rfl
          · have hrd : ¬ r_dif (2 ^ d (523 + 5 * n)) (jN d q n).1 = 0 := by
              rw [jN_1]
              intro z
              have z2 := r_dif_p2.mp z
              have z3 : q.1.testBit (d (523 + 5 * n)) = false := h4
              rw [z2] at z3
              cases z3
            refine Ru_aload_n (pc := 216) dX12_doDay_216 rfl rfl ?_
            refine Ru_iload (pc := 217) dX12_doDay_217 rfl ?_
            refine Ru_iload (pc := 219) dX12_doDay_219 rfl ?_
            refine Ru_iconst (pc := 221) (nI 1) dX12_doDay_221 rfl ?_
            refine Ru_aload_n (pc := 222) dX12_doDay_222 rfl rfl ?_
            refine Ru_iload (pc := 223) dX12_doDay_223 rfl ?_
            refine Ru_iconst (pc := 225) (nI 2) dX12_doDay_225 rfl ?_
            refine Ru_cv2 (pc := 226) dX12_doDay_226 mv_X12_512 rfl (by decide) (Nat.le_of_ble_eq_true rfl) (c_X12_jobCell (by omega) (by decide) (hpj n (by omega)).2.2.1 ?_) 
            refine Ru_ishl1N (pc := 229) dX12_doDay_229 (by omega) ?_
            refine Ru_cv3 (pc := 230) dX12_doDay_230 mv_X12_530 rfl (by decide) (Nat.le_of_ble_eq_true rfl) (c_X12_lackS (q := (jN d q n)) (q1 := q.1) (jN_1 d q n) hq (j := n) (by omega) (Nat.lt_of_lt_of_le (Nat.pow_lt_pow_right (by decide) hw0.1) hp.2) hrd (fun M2 gx2 hq2 => ?_)) 
            have fx2 := fx.tr gx2
            refine Ru_iincN (pc := 233) 1 dX12_doDay_233 rfl rfl rfl (by decide) ?_
            refine Ru_goto (pc := 236) 170 dX12_doDay_236 (by decide) ?_
            have e1 : jN d q (n + 1) = jL (jN d q n) n (2 ^ d (523 + 5 * n)) := by
              rw [jN, if_pos ⟨by assumption, by assumption⟩]
            exact Ru_weak (ih (d 4 - (n + 1)) (by omega) (n + 1) M2 rfl (by omega) (by rw [e1]; exact hq2) fx2) rfl

theorem l_X12_doDay_e {Q : Rq} {M0 : Mem} {d : Td} {s y ill s4 z : Nat} {L : Nat → Bool} (hc0 : ∀ k, k < 521 → M0.1 5 k = nI (d k)) (wf : Wf d) (hL : ∀ i, i < d 4 → M0.1 20 i = r_b (L i)) (h57 : M0.1 0 57 = nI z) (k : ∀ M', r_fx [(0, 54)] [] M0 M' → M'.1 0 54 = nI (jCt L (d 4)) → Q (some (.int (nI z))) GY M') : ∀ (zw : Nat) (n : Nat) (M : Mem), d 4 - n = zw → (n ≤ d 4) → (M.1 0 54 = nI (jCt L n)) → (r_fx [(0, 54)] [] M0 M) → Ru 4 mt_X12_doDay r_z 279 [(0, some (.ref 0)), (1, some (.int (nI s))), (2, some (.int (nI y))), (3, some (.int (nI ill))), (4, some (.int (nI s4))), (5, some (.int (nI n)))] [] GY M Q := by
  intro zw
  induction zw using Nat.strongRecOn with
  | ind zw ih =>
    intro n M hw hn h54 fx
    subst hw
    have hb := wf.1
    have hc : ∀ k, k < 521 → M.1 5 k = nI (d k) := fun k hk => (fx 5 k rfl).1.trans (hc0 k hk)
    refine Ru_iload (pc := 279) dX12_doDay_279 rfl ?_
    refine Ru_aload_n (pc := 281) dX12_doDay_281 rfl rfl ?_
    refine Ru_getR (pc := 282) 5 dX12_doDay_282 fl_X12_35 rfl rfl rfl ?_
    refine Ru_iconst (pc := 285) (nI 4) dX12_doDay_285 rfl ?_
    refine Ru_iald (pc := 286) dX12_doDay_286 rfl (by omega) ?_
    refine Ru_top (hc 4 (by omega)) ?_
    refine Ru_icmp_geN (pc := 287) 320 dX12_doDay_287 (by decide) (by omega) (fun h1 => ?_) (fun h1 => ?_)
    · refine Ru_aload_n (pc := 320) dX12_doDay_320 rfl rfl ?_
      refine Ru_getI (pc := 321) dX12_doDay_321 fl_X12_552 rfl rfl ?_
      refine Ru_top ((fx 0 57 rfl).1.trans h57) ?_
      refine Ru_iret (pc := 324) dX12_doDay_324 rfl ⟨Nat.le_refl _, Nat.le_refl _⟩ ?_
      have en : n = d 4 := by omega
      subst en
      exact k M fx h54
    · refine Ru_aload_n (pc := 290) dX12_doDay_290 rfl rfl ?_
      refine Ru_dup (pc := 291) dX12_doDay_291 rfl ?_
      refine Ru_getI (pc := 292) dX12_doDay_292 fl_X12_555 rfl rfl ?_
      refine Ru_top h54 ?_
      refine Ru_aload_n (pc := 295) dX12_doDay_295 rfl rfl ?_
      refine Ru_getR (pc := 296) 20 dX12_doDay_296 fl_X12_81 rfl rfl rfl ?_
      refine Ru_iload (pc := 299) dX12_doDay_299 rfl ?_
      refine Ru_zald (pc := 301) dX12_doDay_301 rfl (by omega) ?_
      refine Ru_top ((fx 20 n rfl).1.trans (hL n (by omega))) ?_
      refine Ru_if_eqB (pc := 302) 309 dX12_doDay_302 (by decide) (fun h2 => ?_) (fun h2 => ?_)
      · refine Ru_iconst (pc := 309) (nI 0) dX12_doDay_309 rfl ?_
        refine Ru_iaddN (pc := 310) dX12_doDay_310 ?_
        refine Ru_putI (pc := 311) rfl dX12_doDay_311 fl_X12_555 rfl ?_
        refine Ru_iincN (pc := 314) 1 dX12_doDay_314 rfl rfl rfl (by decide) ?_
        refine Ru_goto (pc := 317) 279 dX12_doDay_317 (by decide) ?_
        have e : jCt L (n + 1) = (jCt L n + 0) := by
          rw [jCt, if_neg (nb_f (by assumption))]
        exact Ru_weak (ih (d 4 - (n + 1)) (by omega) (n + 1) _ rfl (by omega) (by rw [e]; exact r_sI_s) (r_fx.sI rfl fx)) rfl
      · refine Ru_iconst (pc := 305) (nI 1) dX12_doDay_305 rfl ?_
        refine Ru_goto (pc := 306) 310 dX12_doDay_306 (by decide) ?_
        refine Ru_iaddN (pc := 310) dX12_doDay_310 ?_
        refine Ru_putI (pc := 311) rfl dX12_doDay_311 fl_X12_555 rfl ?_
        refine Ru_iincN (pc := 314) 1 dX12_doDay_314 rfl rfl rfl (by decide) ?_
        refine Ru_goto (pc := 317) 279 dX12_doDay_317 (by decide) ?_
        have e : jCt L (n + 1) = (jCt L n + 1) := by
          rw [jCt, if_pos (by assumption)]
        exact Ru_weak (ih (d 4 - (n + 1)) (by omega) (n + 1) _ rfl (by omega) (by rw [e]; exact r_sI_s) (r_fx.sI rfl fx)) rfl

theorem c_X12_doDay {Q : Rq} {M : Mem} {d : Td} (hc : ∀ k, k < 521 → M.1 5 k = nI (d k)) (wf : Wf d) (wj : Wj d) (wn : Wn d) (hwl : Wl d) (hpj : Y_pj d M) (hal : M.1 0 29 = nI 0) {s y ill : Nat} (hs : s < 2 ^ d 0) (hy : y < 2000) (hill : ill < 64) (k : ∀ M', r_fx [(0, 45), (0, 46), (0, 47), (0, 52), (0, 53), (0, 54), (0, 55), (0, 56), (0, 57)] [7, 20, 21] M M' → M'.1 0 52 = nI (jX d s ill).2.1 → M'.1 0 53 = nI (jX d s ill).2.2 → M'.1 0 54 = nI (jCt (jQ d s ill).2.1 (d 4)) → (M'.1 0 55 = nM (jQ d s ill).2.2.1 ∧ (jQ d s ill).2.2.1 ≤ 24) → (¬ (jQ d s ill).2.2.1 = 0 → M'.1 0 56 = nI (jQ d s ill).2.2.2) → (∀ t, t < 25 → M'.1 21 t = nI (jSn d s y ill t)) → Q (some (.int (nI (jNt d y (jQ d s ill))))) GY M') : Ca 4 mt_X12_doDay 0 0 [.ref 0, .int (nI s), .int (nI y), .int (nI ill)] GY M Q := by
  refine Ca_of rfl (Nat.le_of_ble_eq_true rfl) ?_
  have hb := wf.1
  have hp := pw_le hb.1
  refine Ru_aload_n (pc := 0) dX12_doDay_0 rfl rfl ?_
  refine Ru_iconst (pc := 1) (nI 0) dX12_doDay_1 rfl ?_
  refine Ru_putI (pc := 2) rfl dX12_doDay_2 fl_X12_534 rfl ?_
  refine Ru_aload_n (pc := 5) dX12_doDay_5 rfl rfl ?_
  refine Ru_iconst (pc := 6) (nI 0) dX12_doDay_6 rfl ?_
  refine Ru_putI (pc := 7) rfl dX12_doDay_7 fl_X12_537 rfl ?_
  refine Ru_aload_n (pc := 10) dX12_doDay_10 rfl rfl ?_
  refine Ru_iconst (pc := 11) (-1) dX12_doDay_11 rfl ?_
  refine Ru_putI (pc := 12) rfl dX12_doDay_12 fl_X12_524 rfl ?_
  refine Ru_aload_n (pc := 15) dX12_doDay_15 rfl rfl ?_
  refine Ru_iconst (pc := 16) (-1) dX12_doDay_16 rfl ?_
  refine Ru_putI (pc := 17) rfl dX12_doDay_17 fl_X12_527 rfl ?_
  refine Ru_iconst (pc := 20) (nI 0) dX12_doDay_20 rfl ?_
  refine Ru_istore (pc := 21) dX12_doDay_21 rfl (by decide) ?_
  have hM1 : ∃ M1, M1 = (r_sI (r_sI (r_sI (r_sI M 0 52 (nI 0)) 0 53 (nI 0)) 0 55 (-1)) 0 56 (-1)) := ⟨_, rfl⟩
  obtain ⟨M1, e1⟩ := hM1
  rw [← e1]
  have fx1 : r_fx [(0, 45), (0, 46), (0, 47), (0, 52), (0, 53), (0, 54), (0, 55), (0, 56), (0, 57)] [7, 20, 21] M M1 := by
    rw [e1]
    exact r_fx.sI rfl (r_fx.sI rfl (r_fx.sI rfl (r_fx.sI rfl r_fx.rf)))
  have h521 : M1.1 0 52 = nI 0 := by
    rw [e1]
    simp [r_sI_g]
  have h531 : M1.1 0 53 = nI 0 := by
    rw [e1]
    simp [r_sI_g]
  have h551 : M1.1 0 55 = nM 0 := by
    rw [e1]
    exact (r_sI_n (by omega)).trans r_sI_s
  have hc1 : ∀ k, k < 521 → M1.1 5 k = nI (d k) := fun k hk => (fx1 5 k rfl).1.trans (hc k hk)
  have hpj1 : Y_pj d M1 := (Y_pj_dp d).kp fx1 rfl hpj
  refine Ru_weak (l_X12_doDay_a (s := s) (y := y) (ill := ill) hc1 wf wj hpj1 hill (fun M2 hls2 gx2 => ?_) (d 4) 0 M1 rfl (Nat.zero_le _) (fun i hi => by omega) r_fx.rf) rfl
  have fx2 : r_fx [(0, 45), (0, 46), (0, 47), (0, 52), (0, 53), (0, 54), (0, 55), (0, 56), (0, 57)] [7, 20, 21] M M2 := fx1.tr (gx2.mono rfl)
  have hc2 : ∀ k, k < 521 → M2.1 5 k = nI (d k) := fun k hk => (fx2 5 k rfl).1.trans (hc k hk)
  have hpj2 : Y_pj d M2 := (Y_pj_dp d).kp fx2 rfl hpj
  have hq2 : Y_jt (d 4) (jX0 d s ill).1 M2 := ⟨hls2, ⟨(gx2 0 55 rfl).1.trans h551, Nat.zero_le _⟩, fun z => absurd rfl z⟩
  refine Ru_iload_n (pc := 83) dX12_doDay_83 rfl rfl ?_
  refine Ru_istore (pc := 84) dX12_doDay_84 rfl (by decide) ?_
  refine Ru_iconst (pc := 86) (nI 0) dX12_doDay_86 rfl ?_
  refine Ru_istore (pc := 87) dX12_doDay_87 rfl (by decide) ?_
  refine Ru_weak (l_X12_doDay_c (s := s) (y := y) (ill := ill) (x0 := (jX0 d s ill)) hc2 wf wj hpj2 hs (fun M3 hq3 h523 h533 hsn3 gx3 => ?_) 25 0 M2 rfl (Nat.zero_le _) hq2 ((gx2 0 52 rfl).1.trans h521) ((gx2 0 53 rfl).1.trans h531) (fun i hi => by omega) r_fx.rf) rfl
  have fx3 : r_fx [(0, 45), (0, 46), (0, 47), (0, 52), (0, 53), (0, 54), (0, 55), (0, 56), (0, 57)] [7, 20, 21] M M3 := fx2.tr (gx3.mono rfl)
  have hc3 : ∀ k, k < 521 → M3.1 5 k = nI (d k) := fun k hk => (fx3 5 k rfl).1.trans (hc k hk)
  have hpj3 : Y_pj d M3 := (Y_pj_dp d).kp fx3 rfl hpj
  have hj8 : (jT d (jX0 d s ill) 25).1.1 < 2 ^ d 0 := jT_lt wf wj hs 25
  refine Ru_iconst (pc := 167) (nI 0) dX12_doDay_167 rfl ?_
  refine Ru_istore (pc := 168) dX12_doDay_168 rfl (by decide) ?_
  refine Ru_weak (l_X12_doDay_n (s := s) (y := y) (ill := ill) (q := (jX d s ill).1) hc3 wf wj hpj3 (Nat.lt_of_lt_of_le hj8 hp.2) (fun M4 hq4 gx4 => ?_) (d 4) 0 M3 rfl (Nat.zero_le _) hq3 r_fx.rf) rfl
  have fx4 : r_fx [(0, 45), (0, 46), (0, 47), (0, 52), (0, 53), (0, 54), (0, 55), (0, 56), (0, 57)] [7, 20, 21] M M4 := fx3.tr (gx4.mono rfl)
  have hc4 : ∀ k, k < 521 → M4.1 5 k = nI (d k) := fun k hk => (fx4 5 k rfl).1.trans (hc k hk)
  have hpj4 : Y_pj d M4 := (Y_pj_dp d).kp fx4 rfl hpj
  have hal4 : M4.1 0 29 = nI 0 := (fx4 0 29 rfl).1.trans hal
  have eq1 : (jQ d s ill).1 = (jX d s ill).1.1 := jN_1 _ _ _
  have hq1b : (jX d s ill).1.1 < 256 := Nat.lt_of_lt_of_le hj8 hp.2
  have hhas : ∀ i, i < d 4 → (¬ d (521 + 5 * i) = 0) → (jQ d s ill).2.1 i = false → (jX d s ill).1.1.testBit (d (523 + 5 * i)) = true := fun i z1 z2 z3 => jN_has z1 z2 z3
  refine Ru_aload_n (pc := 239) dX12_doDay_239 rfl rfl ?_
  refine Ru_aload_n (pc := 240) dX12_doDay_240 rfl rfl ?_
  refine Ru_iload (pc := 241) dX12_doDay_241 rfl ?_
  refine Ru_aload_n (pc := 243) dX12_doDay_243 rfl rfl ?_
  refine Ru_iconst (pc := 244) (nI 1) dX12_doDay_244 rfl ?_
  refine Ru_iload (pc := 245) dX12_doDay_245 rfl ?_
  refine Ru_cv2 (pc := 247) dX12_doDay_247 mv_X12_549 rfl (by decide) (Nat.le_of_ble_eq_true rfl) (c_X12_toldNight (kd := 1) (L := (jQ d s ill).2.1) hc4 wf wj wn hpj4 hq4.1 (by decide) hq1b hhas ?_) 
  refine Ru_aload_n (pc := 250) dX12_doDay_250 rfl rfl ?_
  refine Ru_iconst (pc := 251) (nI 2) dX12_doDay_251 rfl ?_
  refine Ru_iload (pc := 252) dX12_doDay_252 rfl ?_
  refine Ru_cv2 (pc := 254) dX12_doDay_254 mv_X12_549 rfl (by decide) (Nat.le_of_ble_eq_true rfl) (c_X12_toldNight (kd := 2) (L := (jQ d s ill).2.1) hc4 wf wj wn hpj4 hq4.1 (by decide) hq1b hhas ?_) 
  refine Ru_aload_n (pc := 257) dX12_doDay_257 rfl rfl ?_
  refine Ru_iconst (pc := 258) (nI 3) dX12_doDay_258 rfl ?_
  refine Ru_iload (pc := 259) dX12_doDay_259 rfl ?_
  refine Ru_cv2 (pc := 261) dX12_doDay_261 mv_X12_549 rfl (by decide) (Nat.le_of_ble_eq_true rfl) (c_X12_toldNight (kd := 3) (L := (jQ d s ill).2.1) hc4 wf wj wn hpj4 hq4.1 (by decide) hq1b hhas ?_) 
  refine Ru_iload_n (pc := 264) dX12_doDay_264 rfl rfl ?_
  refine Ru_cv5 (pc := 265) dX12_doDay_265 mv_X12_403 rfl (by decide) (Nat.le_of_ble_eq_true rfl) (c_X12_staysOf (A := 0) (w := (jTo d (jQ d s ill).2.1 1 (d 4))) (h := (jTo d (jQ d s ill).2.1 2 (d 4))) (v := (jTo d (jQ d s ill).2.1 3 (d 4))) hc4 wf hq1b ⟨by have := jTo_le wj (L := (jQ d s ill).2.1) (kd := 1) (by decide) (d 4) (Nat.le_refl _); omega, by have := jTo_le wj (L := (jQ d s ill).2.1) (kd := 2) (by decide) (d 4) (Nat.le_refl _); omega, by have := jTo_le wj (L := (jQ d s ill).2.1) (kd := 3) (by decide) (d 4) (Nat.le_refl _); omega⟩ hy (by decide) hwl hal4 (fun M5 gx5 => ?_)) 
  refine Ru_top (show nI (stA d 0 (jX d s ill).1.1 (y % 7) (jTo d (jQ d s ill).2.1 1 (d 4)) (jTo d (jQ d s ill).2.1 2 (d 4)) (jTo d (jQ d s ill).2.1 3 (d 4))) = nI (jNt d y (jQ d s ill)) from by unfold jNt; rw [eq1]) ?_
  have fx5 : r_fx [(0, 45), (0, 46), (0, 47), (0, 52), (0, 53), (0, 54), (0, 55), (0, 56), (0, 57)] [7, 20, 21] M M5 := fx4.tr (gx5.mono rfl)
  refine Ru_putI (pc := 268) rfl dX12_doDay_268 fl_X12_552 rfl ?_
  refine Ru_aload_n (pc := 271) dX12_doDay_271 rfl rfl ?_
  refine Ru_iconst (pc := 272) (nI 0) dX12_doDay_272 rfl ?_
  refine Ru_putI (pc := 273) rfl dX12_doDay_273 fl_X12_555 rfl ?_
  refine Ru_iconst (pc := 276) (nI 0) dX12_doDay_276 rfl ?_
  refine Ru_istore (pc := 277) dX12_doDay_277 rfl (by decide) ?_
  have hM6 : ∃ M6, M6 = (r_sI (r_sI M5 0 57 (nI (jNt d y (jQ d s ill)))) 0 54 (nI 0)) := ⟨_, rfl⟩
  obtain ⟨M6, e6⟩ := hM6
  have gx6 : r_fx [(0, 54), (0, 57)] [] M5 M6 := by
    rw [e6]
    exact r_fx.sI rfl (r_fx.sI rfl r_fx.rf)
  have h576 : M6.1 0 57 = nI (jNt d y (jQ d s ill)) := by
    rw [e6]
    exact (r_sI_n (by omega)).trans r_sI_s
  have h546 : M6.1 0 54 = nI 0 := by
    rw [e6]
    exact r_sI_s
  have fx6 : r_fx [(0, 45), (0, 46), (0, 47), (0, 52), (0, 53), (0, 54), (0, 55), (0, 56), (0, 57)] [7, 20, 21] M M6 := fx5.tr (gx6.mono rfl)
  have hc6 : ∀ k, k < 521 → M6.1 5 k = nI (d k) := fun k hk => (fx6 5 k rfl).1.trans (hc k hk)
  have hpj6 : Y_pj d M6 := (Y_pj_dp d).kp fx6 rfl hpj
  have gx46 : r_fx [(0, 54), (0, 57)] [7] M4 M6 := (gx5.mono rfl).tr (gx6.mono rfl)
  have hk9 : ∀ M7, r_fx [(0, 54)] [] M6 M7 → M7.1 0 54 = nI (jCt (jQ d s ill).2.1 (d 4)) → Q (some (.int (nI (jNt d y (jQ d s ill))))) GY M7 := by
    intro M7 gx7 h547
    have gx47 : r_fx [(0, 54), (0, 57)] [7] M4 M7 := gx46.tr (gx7.mono rfl)
    refine k M7 (fx6.tr (gx7.mono rfl)) ?_ ?_ h547 ⟨(gx47 0 55 rfl).1.trans hq4.2.1.1, hq4.2.1.2⟩ (fun z => (gx47 0 56 rfl).1.trans (hq4.2.2 z)) (fun u hu9 => ?_)
    · exact (gx47 0 52 rfl).1.trans ((gx4 0 52 rfl).1.trans h523)
    · exact (gx47 0 53 rfl).1.trans ((gx4 0 53 rfl).1.trans h533)
    · unfold jSn
      rw [if_pos hu9]
      exact (gx47 21 u rfl).1.trans ((gx4 21 u rfl).1.trans (hsn3 u hu9))
  have hr := l_X12_doDay_e (Q := Q) (s := s) (y := y) (ill := ill) (s4 := (jX d s ill).1.1) (L := (jQ d s ill).2.1) hc6 wf (fun i hi => (gx46 20 i rfl).1.trans (hq4.1 i hi)) h576 hk9 (d 4) 0 M6 rfl (Nat.zero_le _) h546 r_fx.rf
  rw [e6] at hr
  exact Ru_weak hr rfl
