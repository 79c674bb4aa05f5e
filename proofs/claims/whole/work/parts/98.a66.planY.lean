-- READING: the reference, a plan: its rows of people
theorem l_X12_mrow {Q : Rq} {M0 : Mem} {T : Tx} {x : St9} {c9 : Nat} {R : Nat × Ps} (tw : Tw T) (hc20 : M0.1 5 2 = nI (x.1 2)) (hw20 : ∀ k, k < x.1 2 → M0.2.1 6 (20 + k) = nJ (cd 32 (x.2 (20 + k))) ∧ Lv (x.2 (20 + k)) ∧ (x.2 (20 + k)).length ≤ 8) (hx6 : x.1 2 ≤ 6) (k : ∀ M' v, r_fx [(0, 12), (0, 13), (0, 14), (0, 15), (0, 16), (0, 17), (0, 18), (0, 21)] [] M0 M' → Y_rd T R.2 M' → (R.2.2 = 0 → v = nI R.1) → Ru 6 mt_X12_readMake r_z 134 [(0, some (.ref 0)), (1, some (.int (nI c9))), (2, some (.int v))] [] GY M' Q) : ∀ (zw : Nat) (j : Nat) (set : Nat) (M : Mem), 801 - j = zw → (set < 2 ^ x.1 2) → (j ≤ 800) → (Y_rd T (j, 0) M) → (sRw T x.2 20 (x.1 2) 0 0 (801 - j) set (j, 0) = R) → (r_fx [(0, 12), (0, 13), (0, 14), (0, 15), (0, 16), (0, 17), (0, 18), (0, 21)] [] M0 M) → Ru 6 mt_X12_readMake r_z 59 [(0, some (.ref 0)), (1, some (.int (nI c9))), (2, some (.int (nI set))), (3, some (.int (nI 1)))] [] GY M Q := by
  intro zw
  induction zw using Nat.strongRecOn with
  | ind zw ih =>
    intro j set M hw hset hj hr he fx
    subst hw
    have hp := pw_le (n := x.1 2) (by omega)
    have hb0 := hr.2.2.2.2
    have hc2 : M.1 5 2 = nI (x.1 2) := (fx 5 _ rfl).1.trans hc20
    have hw2 : ∀ k, k < x.1 2 → M.2.1 6 (20 + k) = nJ (cd 32 (x.2 (20 + k))) ∧ Lv (x.2 (20 + k)) ∧ (x.2 (20 + k)).length ≤ 8 := fun k hk => ⟨(fx 6 _ rfl).2.1.trans (hw20 k hk).1, (hw20 k hk).2⟩
    have hfl := fN_le x.2 (tL T j) 20 (x.1 2)
    refine Ru_iload_n (pc := 59) dX12_readMake_59 rfl rfl ?_
    refine Ru_if_eqN (pc := 60) 134 dX12_readMake_60 (by decide) (by omega) (fun h1 => ?_) (fun h1 => ?_)
    · exfalso
      omega
    · refine Ru_aload_n (pc := 63) dX12_readMake_63 rfl rfl ?_
      refine Ru_getI (pc := 64) dX12_readMake_64 fl_X12_251 rfl rfl ?_
      refine Ru_top (show _ = nI 0 from hr.2.2.1) ?_
      refine Ru_if_neN (pc := 67) 134 dX12_readMake_67 (by decide) (by omega) (fun h2 => ?_) (fun h2 => ?_)
      · exfalso
        omega
      · refine Ru_aload_n (pc := 70) dX12_readMake_70 rfl rfl ?_
        refine Ru_iconst (pc := 71) (nI 0) dX12_readMake_71 rfl ?_
        refine Ru_iconst (pc := 72) (nI 2) dX12_readMake_72 rfl ?_
        refine Ru_bipush (pc := 73) (nI 20) dX12_readMake_73 rfl ?_
        refine Ru_cv3 (pc := 75) dX12_readMake_75 mv_X12_287 rfl (by decide) (Nat.le_of_ble_eq_true rfl) (c_X12_readOld (s := (j, 0)) (W := x.2) (b := 0) (th := 2) (f := 20) (w0 := 20) (n := x.1 2) tw hr (by omega) (by decide) (by omega) hc2 hw2 (fun M2 v2 gx2 hr2 hv2 => ?_)) 
        have fx2 : r_fx [(0, 12), (0, 13), (0, 14), (0, 15), (0, 16), (0, 17), (0, 18), (0, 21)] [] M M2 := gx2.mono rfl
        have hb2 := hr2.2.2.2.2
        have ht2 := tTok_b (tK T (sOld T x.2 20 (x.1 2) (j, 0)).1)
        refine Ru_istore (pc := 78) dX12_readMake_78 rfl (by decide) ?_
        refine Ru_aload_n (pc := 80) dX12_readMake_80 rfl rfl ?_
        refine Ru_getI (pc := 81) dX12_readMake_81 fl_X12_251 rfl rfl ?_
        refine Ru_top hr2.2.2.1 ?_
        refine Ru_if_neN (pc := 84) 105 dX12_readMake_84 (by decide) (by omega) (fun h3 => ?_) (fun h3 => ?_)
        · refine Ru_aload_n (pc := 105) dX12_readMake_105 rfl rfl ?_
          refine Ru_iconst (pc := 106) (nI 1) dX12_readMake_106 rfl ?_
          refine Ru_cv1 (pc := 107) dX12_readMake_107 mv_X12_290 rfl (by decide) (Nat.le_of_ble_eq_true rfl) (c_X12_must (s := (sOld T x.2 20 (x.1 2) (j, 0))) (b := true) tw hr2 (fun M3 gx3 hr3 => ?_)) 
          rw [sMust_f (show ¬ (sOld T x.2 20 (x.1 2) (j, 0)).2 = 0 by assumption)] at hr3
          have fx3 : r_fx [(0, 12), (0, 13), (0, 14), (0, 15), (0, 16), (0, 17), (0, 18), (0, 21)] [] M M3 := fx2.tr (gx3.mono rfl)
          have hb3 := hr3.2.2.2.2
          have ht3 := tTok_b (tK T (sOld T x.2 20 (x.1 2) (j, 0)).1)
          refine Ru_iload_n (pc := 110) dX12_readMake_110 rfl rfl ?_
          refine Ru_iconst (pc := 111) (nI 1) dX12_readMake_111 rfl ?_
          refine Ru_iload (pc := 112) dX12_readMake_112 rfl ?_
          refine Ru_ishl (pc := 114) dX12_readMake_114 ?_
          refine Ru_ior (pc := 115) dX12_readMake_115 ?_
          refine Ru_istore_n (pc := 116) dX12_readMake_116 rfl rfl (by decide) ?_
          refine Ru_aload_n (pc := 117) dX12_readMake_117 rfl rfl ?_
          refine Ru_getI (pc := 118) dX12_readMake_118 fl_X12_138 rfl rfl ?_
          refine Ru_top hr3.2.1.2.2.1 ?_
          refine Ru_iconst (pc := 121) (nI 1) dX12_readMake_121 rfl ?_
          refine Ru_icmp_neN (pc := 122) 129 dX12_readMake_122 (by decide) (by omega) (fun h4 => ?_) (fun h4 => ?_)
          · refine Ru_iconst (pc := 129) (nI 0) dX12_readMake_129 rfl ?_
            refine Ru_istore_n (pc := 130) dX12_readMake_130 rfl rfl (by decide) ?_
            refine Ru_goto (pc := 131) 59 dX12_readMake_131 (by decide) ?_
            refine Ru_iload_n (pc := 59) dX12_readMake_59 rfl rfl ?_
            refine Ru_if_eqN (pc := 60) 134 dX12_readMake_60 (by decide) (by omega) (fun h5 => ?_) (fun h5 => ?_)
            · have he2 : (0, (sOld T x.2 20 (x.1 2) (j, 0))) = R := by
                rw [← he]
                by_cases h9 : j < 801
                · rw [show 801 - j = (801 - (j + 1)) + 1 by omega, sRw, if_pos (show ¬ (sOld T x.2 20 (x.1 2) (j, 0)).2 = 0 by assumption)]
                · exact absurd h9 (by omega)
              subst he2
              exact Ru_weak (k M3 _ (fx.tr fx3) hr3 (fun z => absurd z (by assumption))) rfl
            · exfalso
              omega
          · refine Ru_iconst (pc := 125) (nI 1) dX12_readMake_125 rfl ?_
            refine Ru_goto (pc := 126) 130 dX12_readMake_126 (by decide) ?_
            refine Ru_istore_n (pc := 130) dX12_readMake_130 rfl rfl (by decide) ?_
            refine Ru_goto (pc := 131) 59 dX12_readMake_131 (by decide) ?_
            refine Ru_iload_n (pc := 59) dX12_readMake_59 rfl rfl ?_
            refine Ru_if_eqN (pc := 60) 134 dX12_readMake_60 (by decide) (by omega) (fun h6 => ?_) (fun h6 => ?_)
            · exfalso
              omega
            · refine Ru_aload_n (pc := 63) dX12_readMake_63 rfl rfl ?_
              refine Ru_getI (pc := 64) dX12_readMake_64 fl_X12_251 rfl rfl ?_
              refine Ru_top hr3.2.2.1 ?_
              refine Ru_if_neN (pc := 67) 134 dX12_readMake_67 (by decide) (by omega) (fun h7 => ?_) (fun h7 => ?_)
              · have he2 : (0, (sOld T x.2 20 (x.1 2) (j, 0))) = R := by
                  rw [← he]
                  by_cases h9 : j < 801
                  · rw [show 801 - j = (801 - (j + 1)) + 1 by omega, sRw, if_pos (show ¬ (sOld T x.2 20 (x.1 2) (j, 0)).2 = 0 by assumption)]
                  · exact absurd h9 (by omega)
                subst he2
                exact Ru_weak (k M3 _ (fx.tr fx3) hr3 (fun z => absurd z (by assumption))) rfl
              · exfalso
                omega
        · have hok := sOld_ok (show (sOld T x.2 20 (x.1 2) (j, 0)).2 = 0 by assumption)
          have hv9 : v2 = nI ((fN x.2 (tL T j) 20 (x.1 2)) - 1) := hv2 (by assumption)
          subst hv9
          have hr2 : Y_rd T (j, 0) M2 := by
            rw [hok.1] at hr2
            exact hr2
          have hK3 : tK T j = 3 := hok.2.2.1
          have hf0 : ¬ (fN x.2 (tL T j) 20 (x.1 2)) = 0 := hok.2.2.2
          have hj8 := (tK_i tw (i := j) (by omega)).1
          refine Ru_iload_n (pc := 87) dX12_readMake_87 rfl rfl ?_
          refine Ru_iload (pc := 88) dX12_readMake_88 rfl ?_
          refine Ru_cs2 (pc := 90) dX12_readMake_90 ms_X12_372 (by decide) (Nat.le_of_ble_eq_true rfl) (c_X12_has (by omega) (by omega) ?_) 
          refine Ru_if_eqB (pc := 93) 105 dX12_readMake_93 (by decide) (fun h8 => ?_) (fun h8 => ?_)
          · have hbit : set.testBit ((fN x.2 (tL T j) 20 (x.1 2)) - 1) = false := h8
            refine Ru_aload_n (pc := 105) dX12_readMake_105 rfl rfl ?_
            refine Ru_iconst (pc := 106) (nI 1) dX12_readMake_106 rfl ?_
            refine Ru_cv1 (pc := 107) dX12_readMake_107 mv_X12_290 rfl (by decide) (Nat.le_of_ble_eq_true rfl) (c_X12_must (s := (j, 0)) (b := true) tw hr2 (fun M3 gx3 (hr3 : Y_rd T (j + 1, 0) M3) => ?_)) 
            have fx3 : r_fx [(0, 12), (0, 13), (0, 14), (0, 15), (0, 16), (0, 17), (0, 18), (0, 21)] [] M M3 := fx2.tr (gx3.mono rfl)
            have hb3 := hr3.2.2.2.2
            have ht3 := tTok_b (tK T (j + 1))
            refine Ru_iload_n (pc := 110) dX12_readMake_110 rfl rfl ?_
            refine Ru_iconst (pc := 111) (nI 1) dX12_readMake_111 rfl ?_
            refine Ru_iload (pc := 112) dX12_readMake_112 rfl ?_
            refine Ru_ishl1N (pc := 114) dX12_readMake_114 (by omega) ?_
            refine Ru_iorN (pc := 115) dX12_readMake_115 ?_
            refine Ru_istore_n (pc := 116) dX12_readMake_116 rfl rfl (by decide) ?_
            refine Ru_aload_n (pc := 117) dX12_readMake_117 rfl rfl ?_
            refine Ru_getI (pc := 118) dX12_readMake_118 fl_X12_138 rfl rfl ?_
            refine Ru_top (show _ = nI (tTok (tK T (j + 1))) from hr3.2.1.2.2.1) ?_
            refine Ru_iconst (pc := 121) (nI 1) dX12_readMake_121 rfl ?_
            refine Ru_icmp_neN (pc := 122) 129 dX12_readMake_122 (by decide) (by omega) (fun h9 => ?_) (fun h9 => ?_)
            · refine Ru_iconst (pc := 129) (nI 0) dX12_readMake_129 rfl ?_
              refine Ru_istore_n (pc := 130) dX12_readMake_130 rfl rfl (by decide) ?_
              refine Ru_goto (pc := 131) 59 dX12_readMake_131 (by decide) ?_
              refine Ru_iload_n (pc := 59) dX12_readMake_59 rfl rfl ?_
              refine Ru_if_eqN (pc := 60) 134 dX12_readMake_60 (by decide) (by omega) (fun h10 => ?_) (fun h10 => ?_)
              · have hwk : ¬ (isWk (tK T (j + 1)) = true ∧ ¬ tK T (j + 1) = 0) := by
                  rintro ⟨z1, z2⟩
                  exact absurd (tTok_1.mpr (of_decide_eq_true z1)) (by assumption)
                rw [show 801 - j = (801 - (j + 1)) + 1 by omega, sRw, if_neg (fun z => z (show (sOld T x.2 20 (x.1 2) (j, 0)).2 = 0 by assumption)), Nat.or_zero, if_neg (nb_f hbit), if_neg hwk] at he
                subst he
                exact Ru_weak (k M3 _ (fx.tr fx3) hr3 (fun _ => rfl)) rfl
              · exfalso
                omega
            · refine Ru_iconst (pc := 125) (nI 1) dX12_readMake_125 rfl ?_
              refine Ru_goto (pc := 126) 130 dX12_readMake_126 (by decide) ?_
              refine Ru_istore_n (pc := 130) dX12_readMake_130 rfl rfl (by decide) ?_
              refine Ru_goto (pc := 131) 59 dX12_readMake_131 (by decide) ?_
              have hwk : isWk (tK T (j + 1)) = true := decide_eq_true (tTok_1.mp (by assumption))
              have hw0 : ¬ tK T (j + 1) = 0 := fun z => by
                rw [z] at hwk
                exact absurd hwk (by decide)
              rw [show 801 - j = (801 - (j + 1)) + 1 by omega, sRw, if_neg (fun z => z (show (sOld T x.2 20 (x.1 2) (j, 0)).2 = 0 by assumption)), Nat.or_zero, if_neg (nb_f hbit), if_pos ⟨hwk, hw0⟩] at he
              exact Ru_weak (ih (801 - (j + 1)) (by omega) (j + 1) (set ||| 2 ^ ((fN x.2 (tL T j) 20 (x.1 2)) - 1)) M3 rfl (Nat.or_lt_two_pow hset (Nat.pow_lt_pow_right (by decide) (by omega))) (by omega) hr3 he (fx.tr fx3)) rfl
          · have hbit : set.testBit ((fN x.2 (tL T j) 20 (x.1 2)) - 1) = true := h8
            refine Ru_aload_n (pc := 96) dX12_readMake_96 rfl rfl ?_
            refine Ru_iconst (pc := 97) (nI 5) dX12_readMake_97 rfl ?_
            refine Ru_aload_n (pc := 98) dX12_readMake_98 rfl rfl ?_
            refine Ru_getI (pc := 99) dX12_readMake_99 fl_X12_132 rfl rfl ?_
            refine Ru_top (show _ = nI (tA T (j)) from hr2.2.1.1) ?_
            refine Ru_cv2 (pc := 102) dX12_readMake_102 mv_X12_257 rfl (by decide) (Nat.le_of_ble_eq_true rfl) (c_X12_fail (f := 5) (s := (j, 0)) tw hr2 (by decide) (fun M3 gx3 hr3 => ?_)) 
            have fx3 : r_fx [(0, 12), (0, 13), (0, 14), (0, 15), (0, 16), (0, 17), (0, 18), (0, 21)] [] M M3 := fx2.tr (gx3.mono rfl)
            have hb3 := hr3.2.2.2.2
            have ht3 := tTok_b (tK T (sFail 5 (j, 0)).1)
            have hn3 := sFail_n (f := 5) (by decide) (show (j, 0).2 = 0 from rfl)
            refine Ru_aload_n (pc := 105) dX12_readMake_105 rfl rfl ?_
            refine Ru_iconst (pc := 106) (nI 1) dX12_readMake_106 rfl ?_
            refine Ru_cv1 (pc := 107) dX12_readMake_107 mv_X12_290 rfl (by decide) (Nat.le_of_ble_eq_true rfl) (c_X12_must (s := (sFail 5 (j, 0))) (b := true) tw hr3 (fun M4 gx4 hr4 => ?_)) 
            rw [sMust_f (show ¬ (sFail 5 (j, 0)).2 = 0 by assumption)] at hr4
            have fx4 : r_fx [(0, 12), (0, 13), (0, 14), (0, 15), (0, 16), (0, 17), (0, 18), (0, 21)] [] M M4 := fx3.tr (gx4.mono rfl)
            have hb4 := hr4.2.2.2.2
            have ht4 := tTok_b (tK T (sFail 5 (j, 0)).1)
            refine Ru_iload_n (pc := 110) dX12_readMake_110 rfl rfl ?_
            refine Ru_iconst (pc := 111) (nI 1) dX12_readMake_111 rfl ?_
            refine Ru_iload (pc := 112) dX12_readMake_112 rfl ?_
            refine Ru_ishl1N (pc := 114) dX12_readMake_114 (by omega) ?_
            refine Ru_iorN (pc := 115) dX12_readMake_115 ?_
            refine Ru_istore_n (pc := 116) dX12_readMake_116 rfl rfl (by decide) ?_
            refine Ru_aload_n (pc := 117) dX12_readMake_117 rfl rfl ?_
            refine Ru_getI (pc := 118) dX12_readMake_118 fl_X12_138 rfl rfl ?_
            refine Ru_top hr4.2.1.2.2.1 ?_
            refine Ru_iconst (pc := 121) (nI 1) dX12_readMake_121 rfl ?_
            refine Ru_icmp_neN (pc := 122) 129 dX12_readMake_122 (by decide) (by omega) (fun h11 => ?_) (fun h11 => ?_)
            · refine Ru_iconst (pc := 129) (nI 0) dX12_readMake_129 rfl ?_
              refine Ru_istore_n (pc := 130) dX12_readMake_130 rfl rfl (by decide) ?_
              refine Ru_goto (pc := 131) 59 dX12_readMake_131 (by decide) ?_
              refine Ru_iload_n (pc := 59) dX12_readMake_59 rfl rfl ?_
              refine Ru_if_eqN (pc := 60) 134 dX12_readMake_60 (by decide) (by omega) (fun h12 => ?_) (fun h12 => ?_)
              · rw [show 801 - j = (801 - (j + 1)) + 1 by omega, sRw, if_neg (fun z => z (show (sOld T x.2 20 (x.1 2) (j, 0)).2 = 0 by assumption)), Nat.or_zero, if_pos hbit] at he
                subst he
                exact Ru_weak (k M4 _ (fx.tr fx4) (by rw [show sFail 5 (j, 0) = (j, 5) from rfl] at hr4; exact hr4) (fun z => Nat.noConfusion z)) rfl
              · exfalso
                omega
            · refine Ru_iconst (pc := 125) (nI 1) dX12_readMake_125 rfl ?_
              refine Ru_goto (pc := 126) 130 dX12_readMake_126 (by decide) ?_
              refine Ru_istore_n (pc := 130) dX12_readMake_130 rfl rfl (by decide) ?_
              refine Ru_goto (pc := 131) 59 dX12_readMake_131 (by decide) ?_
              refine Ru_iload_n (pc := 59) dX12_readMake_59 rfl rfl ?_
              refine Ru_if_eqN (pc := 60) 134 dX12_readMake_60 (by decide) (by omega) (fun h13 => ?_) (fun h13 => ?_)
              · exfalso
                omega
              · refine Ru_aload_n (pc := 63) dX12_readMake_63 rfl rfl ?_
                refine Ru_getI (pc := 64) dX12_readMake_64 fl_X12_251 rfl rfl ?_
                refine Ru_top hr4.2.2.1 ?_
                refine Ru_if_neN (pc := 67) 134 dX12_readMake_67 (by decide) (by omega) (fun h14 => ?_) (fun h14 => ?_)
                · rw [show 801 - j = (801 - (j + 1)) + 1 by omega, sRw, if_neg (fun z => z (show (sOld T x.2 20 (x.1 2) (j, 0)).2 = 0 by assumption)), Nat.or_zero, if_pos hbit] at he
                  subst he
                  exact Ru_weak (k M4 _ (fx.tr fx4) (by rw [show sFail 5 (j, 0) = (j, 5) from rfl] at hr4; exact hr4) (fun z => Nat.noConfusion z)) rfl
                · exfalso
                  omega
