-- READING: the reference, names
def Y_b4 (d : Td) (M : Mem) : Prop := ∀ k, k < 521 → M.1 5 (2600 + k) = nI (d k)
def Y_w4 (x : St9) (M : Mem) : Prop := (∀ k, k < x.1 0 → M.2.1 6 (104 + k) = nJ (cd 32 (x.2 (0 + k))) ∧ Lv (x.2 (0 + k)) ∧ (x.2 (0 + k)).length ≤ 8) ∧ (∀ k, k < x.1 1 → M.2.1 6 (112 + k) = nJ (cd 32 (x.2 (8 + k))) ∧ Lv (x.2 (8 + k)) ∧ (x.2 (8 + k)).length ≤ 8) ∧ (∀ k, k < x.1 2 → M.2.1 6 (124 + k) = nJ (cd 32 (x.2 (20 + k))) ∧ Lv (x.2 (20 + k)) ∧ (x.2 (20 + k)).length ≤ 8) ∧ x.1 0 ≤ 8 ∧ x.1 1 ≤ 12 ∧ x.1 2 ≤ 6 ∧ x.1 3 ≤ 8
theorem Y_b4_dp (d : Td) : r_dp [] [5] (Y_b4 d) := fun _ _ q p k hk => (q 5 _ (r_in_A rfl)).1.trans (p k hk)
theorem Y_w4_dp (x : St9) : r_dp [] [6] (Y_w4 x) := by
  intro M M' q p
  have g : ∀ k, M'.2.1 6 k = M.2.1 6 k := fun k => (q 6 k (r_in_A rfl)).2.1
  exact ⟨fun k hk => ⟨(g _).trans (p.1 k hk).1, (p.1 k hk).2⟩, fun k hk => ⟨(g _).trans (p.2.1 k hk).1, (p.2.1 k hk).2⟩, fun k hk => ⟨(g _).trans (p.2.2.1 k hk).1, (p.2.2.1 k hk).2⟩, p.2.2.2⟩

theorem c_X12_isTaken {Q : Rq} {M : Mem} {T : Tx} {s : Ps} (tw : Tw T) (hr : Y_rd T s M) {x : St9} (hb4 : Y_b4 x.1 M) (hw4 : Y_w4 x M) (h3 : tK T s.1 = 3) (k : Q (some (.int (r_b (tkn x (tL T s.1))))) GY M) : Ca 1 mt_X12_isTaken 0 0 [.ref 0] GY M Q := by
  refine Ca_of rfl (Nat.le_of_ble_eq_true rfl) ?_
  have hcb := hw4.2.2.2
  have hf0 := fN_le x.2 (tL T s.1) 0 (x.1 0)
  have hf8 := fN_le x.2 (tL T s.1) 8 (x.1 1)
  have hf20 := fN_le x.2 (tL T s.1) 20 (x.1 2)
  have hn0 := nM_t (k := fN x.2 (tL T s.1) 0 (x.1 0)) (by omega)
  have hn8 := nM_t (k := fN x.2 (tL T s.1) 8 (x.1 1)) (by omega)
  have hn20 := nM_t (k := fN x.2 (tL T s.1) 20 (x.1 2)) (by omega)
  refine Ru_aload_n (pc := 0) dX12_isTaken_0 rfl rfl ?_
  refine Ru_iconst (pc := 1) (nI 4) dX12_isTaken_1 rfl ?_
  refine Ru_iconst (pc := 2) (nI 0) dX12_isTaken_2 rfl ?_
  refine Ru_aload_n (pc := 3) dX12_isTaken_3 rfl rfl ?_
  refine Ru_getR (pc := 4) 5 dX12_isTaken_4 fl_X12_35 rfl rfl rfl ?_
  refine Ru_sipush (pc := 7) (nI 2600) dX12_isTaken_7 rfl ?_
  refine Ru_iald (pc := 10) dX12_isTaken_10 rfl (by omega) ?_
  refine Ru_top (hb4 0 (by decide)) ?_
  refine Ru_cv3 (pc := 11) dX12_isTaken_11 mv_X12_274 rfl (by decide) (Nat.le_of_ble_eq_true rfl) (c_X12_named (i := s.1) (W := x.2) (w0 := 0) tw hr.2.1 h3 (by omega) hw4.1 ?_) 
  refine Ru_if_geT (pc := 14) 53 dX12_isTaken_14 (by decide) (fun h1 => ?_) (fun h1 => ?_)
  · refine Ru_iconst (pc := 53) (nI 1) dX12_isTaken_53 rfl ?_
    refine Ru_goto (pc := 54) 58 dX12_isTaken_54 (by decide) ?_
    refine Ru_zret (pc := 58) dX12_isTaken_58 rfl ⟨Nat.le_refl _, Nat.le_refl _⟩ (Or.inr rfl) ?_
    refine r_qe (r_b_t ?_) k
    unfold tkn
    simp only [Bool.or_eq_true, decide_eq_true_iff]
    omega
  · refine Ru_aload_n (pc := 17) dX12_isTaken_17 rfl rfl ?_
    refine Ru_iconst (pc := 18) (nI 4) dX12_isTaken_18 rfl ?_
    refine Ru_bipush (pc := 19) (nI 8) dX12_isTaken_19 rfl ?_
    refine Ru_aload_n (pc := 21) dX12_isTaken_21 rfl rfl ?_
    refine Ru_getR (pc := 22) 5 dX12_isTaken_22 fl_X12_35 rfl rfl rfl ?_
    refine Ru_sipush (pc := 25) (nI 2601) dX12_isTaken_25 rfl ?_
    refine Ru_iald (pc := 28) dX12_isTaken_28 rfl (by omega) ?_
    refine Ru_top (hb4 1 (by decide)) ?_
    refine Ru_cv3 (pc := 29) dX12_isTaken_29 mv_X12_274 rfl (by decide) (Nat.le_of_ble_eq_true rfl) (c_X12_named (i := s.1) (W := x.2) (w0 := 8) tw hr.2.1 h3 (by omega) hw4.2.1 ?_) 
    refine Ru_if_geT (pc := 32) 53 dX12_isTaken_32 (by decide) (fun h2 => ?_) (fun h2 => ?_)
    · refine Ru_iconst (pc := 53) (nI 1) dX12_isTaken_53 rfl ?_
      refine Ru_goto (pc := 54) 58 dX12_isTaken_54 (by decide) ?_
      refine Ru_zret (pc := 58) dX12_isTaken_58 rfl ⟨Nat.le_refl _, Nat.le_refl _⟩ (Or.inr rfl) ?_
      refine r_qe (r_b_t ?_) k
      unfold tkn
      simp only [Bool.or_eq_true, decide_eq_true_iff]
      omega
    · refine Ru_aload_n (pc := 35) dX12_isTaken_35 rfl rfl ?_
      refine Ru_iconst (pc := 36) (nI 4) dX12_isTaken_36 rfl ?_
      refine Ru_bipush (pc := 37) (nI 20) dX12_isTaken_37 rfl ?_
      refine Ru_aload_n (pc := 39) dX12_isTaken_39 rfl rfl ?_
      refine Ru_getR (pc := 40) 5 dX12_isTaken_40 fl_X12_35 rfl rfl rfl ?_
      refine Ru_sipush (pc := 43) (nI 2602) dX12_isTaken_43 rfl ?_
      refine Ru_iald (pc := 46) dX12_isTaken_46 rfl (by omega) ?_
      refine Ru_top (hb4 2 (by decide)) ?_
      refine Ru_cv3 (pc := 47) dX12_isTaken_47 mv_X12_274 rfl (by decide) (Nat.le_of_ble_eq_true rfl) (c_X12_named (i := s.1) (W := x.2) (w0 := 20) tw hr.2.1 h3 (by omega) hw4.2.2.1 ?_) 
      refine Ru_if_ltT (pc := 50) 57 dX12_isTaken_50 (by decide) (fun h3 => ?_) (fun h3 => ?_)
      · refine Ru_iconst (pc := 57) (nI 0) dX12_isTaken_57 rfl ?_
        refine Ru_zret (pc := 58) dX12_isTaken_58 rfl ⟨Nat.le_refl _, Nat.le_refl _⟩ (Or.inl rfl) ?_
        refine r_qe (r_b_f ?_) k
        unfold tkn
        simp only [Bool.or_eq_false_iff, decide_eq_false_iff_not]
        omega
      · refine Ru_iconst (pc := 53) (nI 1) dX12_isTaken_53 rfl ?_
        refine Ru_goto (pc := 54) 58 dX12_isTaken_54 (by decide) ?_
        refine Ru_zret (pc := 58) dX12_isTaken_58 rfl ⟨Nat.le_refl _, Nat.le_refl _⟩ (Or.inr rfl) ?_
        refine r_qe (r_b_t ?_) k
        unfold tkn
        simp only [Bool.or_eq_true, decide_eq_true_iff]
        omega

theorem c_X12_readNew_0 {Q : Rq} {M : Mem} {T : Tx} {s : Ps} (tw : Tw T) (hr : Y_rd T s M) {x : St9} (hb4 : Y_b4 x.1 M) (hw4 : Y_w4 x M) (k : ∀ M' v, r_fx [(0, 12), (0, 13), (0, 14), (0, 15), (0, 16), (0, 17), (0, 18), (0, 21)] [6] M M' → (∀ j, ¬ j = 104 + 0 + x.1 0 → M'.2.1 6 j = M.2.1 6 j) → Y_rd T (sNew T 0 8 x s) M' → ((sNew T 0 8 x s).2 = 0 → v = nI (x.1 0) ∧ M'.2.1 6 (104 + 0 + x.1 0) = nJ (cd 32 (tL T (s.1 + 1)))) → Q (some (.int v)) GY M') : Ca 4 mt_X12_readNew 0 0 [.ref 0, .int (nI 0), .int (nI 8), .int (nI 0)] GY M Q := by
  refine Ca_of rfl (Nat.le_of_ble_eq_true rfl) ?_
  have hb0 := hr.2.2.2.2
  have ht0 := tTok_b (tK T s.1)
  have hcb := hw4.2.2.2
  refine Ru_aload_n (pc := 0) dX12_readNew_0 rfl rfl ?_
  refine Ru_getR (pc := 1) 5 dX12_readNew_1 fl_X12_35 rfl rfl rfl ?_
  refine Ru_sipush (pc := 4) (nI 2600) dX12_readNew_4 rfl ?_
  refine Ru_iload_n (pc := 7) dX12_readNew_7 rfl rfl ?_
  refine Ru_iaddN (pc := 8) dX12_readNew_8 ?_
  refine Ru_iald (pc := 9) dX12_readNew_9 rfl (by omega) ?_
  refine Ru_top (hb4 0 (by decide)) ?_
  refine Ru_istore (pc := 10) dX12_readNew_10 rfl (by decide) ?_
  refine Ru_aload_n (pc := 12) dX12_readNew_12 rfl rfl ?_
  refine Ru_getI (pc := 13) dX12_readNew_13 fl_X12_251 rfl rfl ?_
  refine Ru_top hr.2.2.1 ?_
  refine Ru_if_neN (pc := 16) 35 dX12_readNew_16 (by decide) (by omega) (fun h1 => ?_) (fun h1 => ?_)
  · refine Ru_aload_n (pc := 35) dX12_readNew_35 rfl rfl ?_
    refine Ru_getI (pc := 36) dX12_readNew_36 fl_X12_251 rfl rfl ?_
    refine Ru_top hr.2.2.1 ?_
    refine Ru_if_leN (pc := 39) 44 dX12_readNew_39 (by decide) (by omega) (fun h2 => ?_) (fun h2 => ?_)
    · exfalso
      omega
    · refine Ru_iconst (pc := 42) (nI 0) dX12_readNew_42 rfl ?_
      refine Ru_iret (pc := 43) dX12_readNew_43 rfl ⟨Nat.le_refl _, Nat.le_refl _⟩ ?_
      have e : (sNew T 0 8 x s) = s := sNew_f (by omega)
      refine k M _ r_fx.rf (fun j _ => rfl) (by rw [e]; exact hr) (fun z => ?_)
      exfalso
      rw [e] at z
      first | exact absurd z (by assumption) | omega
  · refine Ru_iload (pc := 19) dX12_readNew_19 rfl ?_
    refine Ru_iload_n (pc := 21) dX12_readNew_21 rfl rfl ?_
    refine Ru_icmp_neN (pc := 22) 35 dX12_readNew_22 (by decide) (by omega) (fun h3 => ?_) (fun h3 => ?_)
    · refine Ru_aload_n (pc := 35) dX12_readNew_35 rfl rfl ?_
      refine Ru_getI (pc := 36) dX12_readNew_36 fl_X12_251 rfl rfl ?_
      refine Ru_top hr.2.2.1 ?_
      refine Ru_if_leN (pc := 39) 44 dX12_readNew_39 (by decide) (by omega) (fun h4 => ?_) (fun h4 => ?_)
      · refine Ru_aload_n (pc := 44) dX12_readNew_44 rfl rfl ?_
        refine Ru_cv0 (pc := 45) dX12_readNew_45 mv_X12_261 rfl (by decide) (Nat.le_of_ble_eq_true rfl) (c_X12_nextS (s := s) tw hr (by first | rfl | assumption | omega) (fun M2 gx2 (hr2 : Y_rd T (s.1 + 1, 0) M2) => ?_)) 
        have fx20 : r_fx [(0, 12), (0, 13), (0, 14), (0, 15), (0, 16), (0, 17), (0, 18), (0, 21)] [] M M2 := gx2.mono rfl
        have fx2 : r_fx [(0, 12), (0, 13), (0, 14), (0, 15), (0, 16), (0, 17), (0, 18), (0, 21)] [6] M M2 := gx2.mono rfl
        have hb2 := hr2.2.2.2.2
        have ht2 := tTok_b (tK T (s.1 + 1))
        have hb42 : Y_b4 x.1 M2 := (Y_b4_dp x.1).kp fx20 rfl hb4
        have hw42 : Y_w4 x M2 := (Y_w4_dp x).kp fx20 rfl hw4
        refine Ru_aload_n (pc := 48) dX12_readNew_48 rfl rfl ?_
        refine Ru_cv0 (pc := 49) dX12_readNew_49 mv_X12_278 rfl (by decide) (Nat.le_of_ble_eq_true rfl) (c_X12_isTownName (i := (s.1 + 1)) tw hr2.2.1 ?_) 
        refine Ru_if_neB (pc := 52) 59 dX12_readNew_52 (by decide) (fun h5 => ?_) (fun h5 => ?_)
        · replace h5 := of_decide_eq_true h5
          refine Ru_aload_n (pc := 59) dX12_readNew_59 rfl rfl ?_
          refine Ru_getI (pc := 60) dX12_readNew_60 fl_X12_251 rfl rfl ?_
          refine Ru_top (show _ = nI 0 from hr2.2.2.1) ?_
          refine Ru_if_neN (pc := 63) 82 dX12_readNew_63 (by decide) (by omega) (fun h6 => ?_) (fun h6 => ?_)
          · exfalso
            omega
          · refine Ru_aload_n (pc := 66) dX12_readNew_66 rfl rfl ?_
            refine Ru_cv0 (pc := 67) dX12_readNew_67 mv_X12_281 rfl (by decide) (Nat.le_of_ble_eq_true rfl) (c_X12_isTaken (s := (s.1 + 1, 0)) (x := x) tw hr2 hb42 hw42 (by assumption) ?_) 
            refine Ru_if_eqB (pc := 70) 82 dX12_readNew_70 (by decide) (fun h7 => ?_) (fun h7 => ?_)
            · refine Ru_aload_n (pc := 82) dX12_readNew_82 rfl rfl ?_
              refine Ru_getI (pc := 83) dX12_readNew_83 fl_X12_251 rfl rfl ?_
              refine Ru_top (show _ = nI 0 from hr2.2.2.1) ?_
              refine Ru_if_leN (pc := 86) 91 dX12_readNew_86 (by decide) (by omega) (fun h8 => ?_) (fun h8 => ?_)
              · refine Ru_aload_n (pc := 91) dX12_readNew_91 rfl rfl ?_
                refine Ru_getR (pc := 92) 6 dX12_readNew_92 fl_X12_38 rfl rfl rfl ?_
                refine Ru_bipush (pc := 95) (nI 104) dX12_readNew_95 rfl ?_
                refine Ru_iload_n (pc := 97) dX12_readNew_97 rfl rfl ?_
                refine Ru_iaddN (pc := 98) dX12_readNew_98 ?_
                refine Ru_iload (pc := 99) dX12_readNew_99 rfl ?_
                refine Ru_iaddN (pc := 101) dX12_readNew_101 ?_
                refine Ru_aload_n (pc := 102) dX12_readNew_102 rfl rfl ?_
                refine Ru_getJ (pc := 103) dX12_readNew_103 fl_X12_144 rfl ?_
                refine Ru_topL (hr2.2.1.2.2.2.1 (Or.inl (by assumption))).1 ?_
                refine Ru_last (pc := 106) rfl dX12_readNew_106 rfl (by omega) ?_
                refine Ru_aload_n (pc := 107) dX12_readNew_107 rfl rfl ?_
                refine Ru_cv0 (pc := 108) dX12_readNew_108 mv_X12_261 rfl (by decide) (Nat.le_of_ble_eq_true rfl) (c_X12_nextS (s := (s.1 + 1, 0)) tw ((Y_rd_dp T (s.1 + 1, 0)).kp (F := []) (A := [5, 6]) (r_fx.sJ rfl r_fx.rf) rfl hr2) (by first | rfl | assumption | omega) (fun M3 gx3 (hr3 : Y_rd T (s.1 + 1 + 1, 0) M3) => ?_)) 
                have fx3 : r_fx [(0, 12), (0, 13), (0, 14), (0, 15), (0, 16), (0, 17), (0, 18), (0, 21)] [6] M M3 := ((r_fx.sJ rfl fx2) : r_fx [(0, 12), (0, 13), (0, 14), (0, 15), (0, 16), (0, 17), (0, 18), (0, 21)] [6] M _).tr (gx3.mono rfl)
                have hb3 := hr3.2.2.2.2
                have ht3 := tTok_b (tK T (s.1 + 1 + 1))
                refine Ru_iload (pc := 111) dX12_readNew_111 rfl ?_
                refine Ru_iret (pc := 113) dX12_readNew_113 rfl ⟨Nat.le_refl _, Nat.le_refl _⟩ ?_
                have e : (sNew T 0 8 x s) = (s.1 + 1 + 1, 0) := by
                  unfold sNew
                  rw [if_neg (by omega), if_neg (by omega), if_neg (by omega), if_neg (nb_f (by assumption))]
                refine k M3 _ fx3 (fun j hj => ?_) (by rw [e]; exact hr3) (fun _ => ⟨rfl, ?_⟩)
                · exact (gx3 6 j rfl).2.1.trans ((r_sJ_n (by omega)).trans (fx20 6 j rfl).2.1)
                · exact (gx3 6 _ rfl).2.1.trans r_sJ_s
              · exfalso
                omega
            · refine Ru_aload_n (pc := 73) dX12_readNew_73 rfl rfl ?_
              refine Ru_iconst (pc := 74) (nI 3) dX12_readNew_74 rfl ?_
              refine Ru_aload_n (pc := 75) dX12_readNew_75 rfl rfl ?_
              refine Ru_getI (pc := 76) dX12_readNew_76 fl_X12_132 rfl rfl ?_
              refine Ru_top (show _ = nI (tA T (s.1 + 1)) from hr2.2.1.1) ?_
              refine Ru_cv2 (pc := 79) dX12_readNew_79 mv_X12_257 rfl (by decide) (Nat.le_of_ble_eq_true rfl) (c_X12_fail (f := 3) (s := (s.1 + 1, 0)) tw hr2 (by decide) (fun M3 gx3 hr3 => ?_)) 
              have fx30 : r_fx [(0, 12), (0, 13), (0, 14), (0, 15), (0, 16), (0, 17), (0, 18), (0, 21)] [] M M3 := fx20.tr (gx3.mono rfl)
              have fx3 : r_fx [(0, 12), (0, 13), (0, 14), (0, 15), (0, 16), (0, 17), (0, 18), (0, 21)] [6] M M3 := fx2.tr (gx3.mono rfl)
              have hb3 := hr3.2.2.2.2
              have ht3 := tTok_b (tK T (sFail 3 (s.1 + 1, 0)).1)
              have hb43 : Y_b4 x.1 M3 := (Y_b4_dp x.1).kp fx30 rfl hb4
              have hw43 : Y_w4 x M3 := (Y_w4_dp x).kp fx30 rfl hw4
              have hn3 := sFail_n (f := 3) (by decide) (show (s.1 + 1, 0).2 = 0 from rfl)
              refine Ru_aload_n (pc := 82) dX12_readNew_82 rfl rfl ?_
              refine Ru_getI (pc := 83) dX12_readNew_83 fl_X12_251 rfl rfl ?_
              refine Ru_top hr3.2.2.1 ?_
              refine Ru_if_leN (pc := 86) 91 dX12_readNew_86 (by decide) (by omega) (fun h9 => ?_) (fun h9 => ?_)
              · exfalso
                omega
              · refine Ru_iconst (pc := 89) (nI 0) dX12_readNew_89 rfl ?_
                refine Ru_iret (pc := 90) dX12_readNew_90 rfl ⟨Nat.le_refl _, Nat.le_refl _⟩ ?_
                have e : (sNew T 0 8 x s) = sFail 3 (s.1 + 1, 0) := by
                  unfold sNew
                  rw [if_neg (by omega), if_neg (by omega), if_neg (by omega), if_pos (by assumption)]
                  rfl
                refine k M3 _ (fx30.mono rfl) (fun j _ => (fx30 6 j rfl).2.1) (by rw [e]; exact hr3) (fun z => ?_)
                exfalso
                rw [e] at z
                first | exact absurd z (by assumption) | omega
        · replace h5 := of_decide_eq_false h5
          refine Ru_aload_n (pc := 55) dX12_readNew_55 rfl rfl ?_
          refine Ru_cv0 (pc := 56) dX12_readNew_56 mv_X12_264 rfl (by decide) (Nat.le_of_ble_eq_true rfl) (c_X12_wrong (s := (s.1 + 1, 0)) tw hr2 (fun M3 gx3 hr3 => ?_)) 
          have fx30 : r_fx [(0, 12), (0, 13), (0, 14), (0, 15), (0, 16), (0, 17), (0, 18), (0, 21)] [] M M3 := fx20.tr (gx3.mono rfl)
          have fx3 : r_fx [(0, 12), (0, 13), (0, 14), (0, 15), (0, 16), (0, 17), (0, 18), (0, 21)] [6] M M3 := fx2.tr (gx3.mono rfl)
          have hb3 := hr3.2.2.2.2
          have ht3 := tTok_b (tK T (sWrong T (s.1 + 1, 0)).1)
          have hb43 : Y_b4 x.1 M3 := (Y_b4_dp x.1).kp fx30 rfl hb4
          have hw43 : Y_w4 x M3 := (Y_w4_dp x).kp fx30 rfl hw4
          have hn3 := (sWrong_n (T := T) (show (s.1 + 1, 0).2 = 0 from rfl)).1
          refine Ru_aload_n (pc := 59) dX12_readNew_59 rfl rfl ?_
          refine Ru_getI (pc := 60) dX12_readNew_60 fl_X12_251 rfl rfl ?_
          refine Ru_top hr3.2.2.1 ?_
          refine Ru_if_neN (pc := 63) 82 dX12_readNew_63 (by decide) (by omega) (fun h10 => ?_) (fun h10 => ?_)
          · refine Ru_aload_n (pc := 82) dX12_readNew_82 rfl rfl ?_
            refine Ru_getI (pc := 83) dX12_readNew_83 fl_X12_251 rfl rfl ?_
            refine Ru_top hr3.2.2.1 ?_
            refine Ru_if_leN (pc := 86) 91 dX12_readNew_86 (by decide) (by omega) (fun h11 => ?_) (fun h11 => ?_)
            · exfalso
              omega
            · refine Ru_iconst (pc := 89) (nI 0) dX12_readNew_89 rfl ?_
              refine Ru_iret (pc := 90) dX12_readNew_90 rfl ⟨Nat.le_refl _, Nat.le_refl _⟩ ?_
              have e : (sNew T 0 8 x s) = sWrong T (s.1 + 1, 0) := by
                unfold sNew
                rw [if_neg (by omega), if_neg (by omega), if_pos (by omega)]
              refine k M3 _ (fx30.mono rfl) (fun j _ => (fx30 6 j rfl).2.1) (by rw [e]; exact hr3) (fun z => ?_)
              exfalso
              rw [e] at z
              first | exact absurd z (by assumption) | omega
          · exfalso
            omega
      · exfalso
        omega
    · refine Ru_aload_n (pc := 25) dX12_readNew_25 rfl rfl ?_
      refine Ru_bipush (pc := 26) (nI 6) dX12_readNew_26 rfl ?_
      refine Ru_aload_n (pc := 28) dX12_readNew_28 rfl rfl ?_
      refine Ru_getI (pc := 29) dX12_readNew_29 fl_X12_132 rfl rfl ?_
      refine Ru_top hr.2.1.1 ?_
      refine Ru_cv2 (pc := 32) dX12_readNew_32 mv_X12_257 rfl (by decide) (Nat.le_of_ble_eq_true rfl) (c_X12_fail (f := 6) (s := s) tw hr (by decide) (fun M2 gx2 hr2 => ?_)) 
      have fx20 : r_fx [(0, 12), (0, 13), (0, 14), (0, 15), (0, 16), (0, 17), (0, 18), (0, 21)] [] M M2 := gx2.mono rfl
      have fx2 : r_fx [(0, 12), (0, 13), (0, 14), (0, 15), (0, 16), (0, 17), (0, 18), (0, 21)] [6] M M2 := gx2.mono rfl
      have hb2 := hr2.2.2.2.2
      have ht2 := tTok_b (tK T (sFail 6 s).1)
      have hb42 : Y_b4 x.1 M2 := (Y_b4_dp x.1).kp fx20 rfl hb4
      have hw42 : Y_w4 x M2 := (Y_w4_dp x).kp fx20 rfl hw4
      have hn2 := sFail_n (f := 6) (by decide) (show s.2 = 0 by assumption)
      refine Ru_aload_n (pc := 35) dX12_readNew_35 rfl rfl ?_
      refine Ru_getI (pc := 36) dX12_readNew_36 fl_X12_251 rfl rfl ?_
      refine Ru_top hr2.2.2.1 ?_
      refine Ru_if_leN (pc := 39) 44 dX12_readNew_39 (by decide) (by omega) (fun h12 => ?_) (fun h12 => ?_)
      · exfalso
        omega
      · refine Ru_iconst (pc := 42) (nI 0) dX12_readNew_42 rfl ?_
        refine Ru_iret (pc := 43) dX12_readNew_43 rfl ⟨Nat.le_refl _, Nat.le_refl _⟩ ?_
        have e : (sNew T 0 8 x s) = sFail 6 s := by
          unfold sNew sFail
          rw [if_neg (by omega), if_pos (by omega), if_pos (by omega)]
        refine k M2 _ (fx20.mono rfl) (fun j _ => (fx20 6 j rfl).2.1) (by rw [e]; exact hr2) (fun z => ?_)
        exfalso
        rw [e] at z
        first | exact absurd z (by assumption) | omega

theorem c_X12_readNew_1 {Q : Rq} {M : Mem} {T : Tx} {s : Ps} (tw : Tw T) (hr : Y_rd T s M) {x : St9} (hb4 : Y_b4 x.1 M) (hw4 : Y_w4 x M) (k : ∀ M' v, r_fx [(0, 12), (0, 13), (0, 14), (0, 15), (0, 16), (0, 17), (0, 18), (0, 21)] [6] M M' → (∀ j, ¬ j = 104 + 8 + x.1 1 → M'.2.1 6 j = M.2.1 6 j) → Y_rd T (sNew T 1 12 x s) M' → ((sNew T 1 12 x s).2 = 0 → v = nI (x.1 1) ∧ M'.2.1 6 (104 + 8 + x.1 1) = nJ (cd 32 (tL T (s.1 + 1)))) → Q (some (.int v)) GY M') : Ca 4 mt_X12_readNew 0 0 [.ref 0, .int (nI 1), .int (nI 12), .int (nI 8)] GY M Q := by
  refine Ca_of rfl (Nat.le_of_ble_eq_true rfl) ?_
  have hb0 := hr.2.2.2.2
  have ht0 := tTok_b (tK T s.1)
  have hcb := hw4.2.2.2
  refine Ru_aload_n (pc := 0) dX12_readNew_0 rfl rfl ?_
  refine Ru_getR (pc := 1) 5 dX12_readNew_1 fl_X12_35 rfl rfl rfl ?_
  refine Ru_sipush (pc := 4) (nI 2600) dX12_readNew_4 rfl ?_
  refine Ru_iload_n (pc := 7) dX12_readNew_7 rfl rfl ?_
  refine Ru_iaddN (pc := 8) dX12_readNew_8 ?_
  refine Ru_iald (pc := 9) dX12_readNew_9 rfl (by omega) ?_
  refine Ru_top (hb4 1 (by decide)) ?_
  refine Ru_istore (pc := 10) dX12_readNew_10 rfl (by decide) ?_
  refine Ru_aload_n (pc := 12) dX12_readNew_12 rfl rfl ?_
  refine Ru_getI (pc := 13) dX12_readNew_13 fl_X12_251 rfl rfl ?_
  refine Ru_top hr.2.2.1 ?_
  refine Ru_if_neN (pc := 16) 35 dX12_readNew_16 (by decide) (by omega) (fun h1 => ?_) (fun h1 => ?_)
  · refine Ru_aload_n (pc := 35) dX12_readNew_35 rfl rfl ?_
    refine Ru_getI (pc := 36) dX12_readNew_36 fl_X12_251 rfl rfl ?_
    refine Ru_top hr.2.2.1 ?_
    refine Ru_if_leN (pc := 39) 44 dX12_readNew_39 (by decide) (by omega) (fun h2 => ?_) (fun h2 => ?_)
    · exfalso
      omega
    · refine Ru_iconst (pc := 42) (nI 0) dX12_readNew_42 rfl ?_
      refine Ru_iret (pc := 43) dX12_readNew_43 rfl ⟨Nat.le_refl _, Nat.le_refl _⟩ ?_
      have e : (sNew T 1 12 x s) = s := sNew_f (by omega)
      refine k M _ r_fx.rf (fun j _ => rfl) (by rw [e]; exact hr) (fun z => ?_)
      exfalso
      rw [e] at z
      first | exact absurd z (by assumption) | omega
  · refine Ru_iload (pc := 19) dX12_readNew_19 rfl ?_
    refine Ru_iload_n (pc := 21) dX12_readNew_21 rfl rfl ?_
    refine Ru_icmp_neN (pc := 22) 35 dX12_readNew_22 (by decide) (by omega) (fun h3 => ?_) (fun h3 => ?_)
    · refine Ru_aload_n (pc := 35) dX12_readNew_35 rfl rfl ?_
      refine Ru_getI (pc := 36) dX12_readNew_36 fl_X12_251 rfl rfl ?_
      refine Ru_top hr.2.2.1 ?_
      refine Ru_if_leN (pc := 39) 44 dX12_readNew_39 (by decide) (by omega) (fun h4 => ?_) (fun h4 => ?_)
      · refine Ru_aload_n (pc := 44) dX12_readNew_44 rfl rfl ?_
        refine Ru_cv0 (pc := 45) dX12_readNew_45 mv_X12_261 rfl (by decide) (Nat.le_of_ble_eq_true rfl) (c_X12_nextS (s := s) tw hr (by first | rfl | assumption | omega) (fun M2 gx2 (hr2 : Y_rd T (s.1 + 1, 0) M2) => ?_)) 
        have fx20 : r_fx [(0, 12), (0, 13), (0, 14), (0, 15), (0, 16), (0, 17), (0, 18), (0, 21)] [] M M2 := gx2.mono rfl
        have fx2 : r_fx [(0, 12), (0, 13), (0, 14), (0, 15), (0, 16), (0, 17), (0, 18), (0, 21)] [6] M M2 := gx2.mono rfl
        have hb2 := hr2.2.2.2.2
        have ht2 := tTok_b (tK T (s.1 + 1))
        have hb42 : Y_b4 x.1 M2 := (Y_b4_dp x.1).kp fx20 rfl hb4
        have hw42 : Y_w4 x M2 := (Y_w4_dp x).kp fx20 rfl hw4
        refine Ru_aload_n (pc := 48) dX12_readNew_48 rfl rfl ?_
        refine Ru_cv0 (pc := 49) dX12_readNew_49 mv_X12_278 rfl (by decide) (Nat.le_of_ble_eq_true rfl) (c_X12_isTownName (i := (s.1 + 1)) tw hr2.2.1 ?_) 
        refine Ru_if_neB (pc := 52) 59 dX12_readNew_52 (by decide) (fun h5 => ?_) (fun h5 => ?_)
        · replace h5 := of_decide_eq_true h5
          refine Ru_aload_n (pc := 59) dX12_readNew_59 rfl rfl ?_
          refine Ru_getI (pc := 60) dX12_readNew_60 fl_X12_251 rfl rfl ?_
          refine Ru_top (show _ = nI 0 from hr2.2.2.1) ?_
          refine Ru_if_neN (pc := 63) 82 dX12_readNew_63 (by decide) (by omega) (fun h6 => ?_) (fun h6 => ?_)
          · exfalso
            omega
          · refine Ru_aload_n (pc := 66) dX12_readNew_66 rfl rfl ?_
            refine Ru_cv0 (pc := 67) dX12_readNew_67 mv_X12_281 rfl (by decide) (Nat.le_of_ble_eq_true rfl) (c_X12_isTaken (s := (s.1 + 1, 0)) (x := x) tw hr2 hb42 hw42 (by assumption) ?_) 
            refine Ru_if_eqB (pc := 70) 82 dX12_readNew_70 (by decide) (fun h7 => ?_) (fun h7 => ?_)
            · refine Ru_aload_n (pc := 82) dX12_readNew_82 rfl rfl ?_
              refine Ru_getI (pc := 83) dX12_readNew_83 fl_X12_251 rfl rfl ?_
              refine Ru_top (show _ = nI 0 from hr2.2.2.1) ?_
              refine Ru_if_leN (pc := 86) 91 dX12_readNew_86 (by decide) (by omega) (fun h8 => ?_) (fun h8 => ?_)
              · refine Ru_aload_n (pc := 91) dX12_readNew_91 rfl rfl ?_
                refine Ru_getR (pc := 92) 6 dX12_readNew_92 fl_X12_38 rfl rfl rfl ?_
                refine Ru_bipush (pc := 95) (nI 104) dX12_readNew_95 rfl ?_
                refine Ru_iload_n (pc := 97) dX12_readNew_97 rfl rfl ?_
                refine Ru_iaddN (pc := 98) dX12_readNew_98 ?_
                refine Ru_iload (pc := 99) dX12_readNew_99 rfl ?_
                refine Ru_iaddN (pc := 101) dX12_readNew_101 ?_
                refine Ru_aload_n (pc := 102) dX12_readNew_102 rfl rfl ?_
                refine Ru_getJ (pc := 103) dX12_readNew_103 fl_X12_144 rfl ?_
                refine Ru_topL (hr2.2.1.2.2.2.1 (Or.inl (by assumption))).1 ?_
                refine Ru_last (pc := 106) rfl dX12_readNew_106 rfl (by omega) ?_
                refine Ru_aload_n (pc := 107) dX12_readNew_107 rfl rfl ?_
                refine Ru_cv0 (pc := 108) dX12_readNew_108 mv_X12_261 rfl (by decide) (Nat.le_of_ble_eq_true rfl) (c_X12_nextS (s := (s.1 + 1, 0)) tw ((Y_rd_dp T (s.1 + 1, 0)).kp (F := []) (A := [5, 6]) (r_fx.sJ rfl r_fx.rf) rfl hr2) (by first | rfl | assumption | omega) (fun M3 gx3 (hr3 : Y_rd T (s.1 + 1 + 1, 0) M3) => ?_)) 
                have fx3 : r_fx [(0, 12), (0, 13), (0, 14), (0, 15), (0, 16), (0, 17), (0, 18), (0, 21)] [6] M M3 := ((r_fx.sJ rfl fx2) : r_fx [(0, 12), (0, 13), (0, 14), (0, 15), (0, 16), (0, 17), (0, 18), (0, 21)] [6] M _).tr (gx3.mono rfl)
                have hb3 := hr3.2.2.2.2
                have ht3 := tTok_b (tK T (s.1 + 1 + 1))
                refine Ru_iload (pc := 111) dX12_readNew_111 rfl ?_
                refine Ru_iret (pc := 113) dX12_readNew_113 rfl ⟨Nat.le_refl _, Nat.le_refl _⟩ ?_
                have e : (sNew T 1 12 x s) = (s.1 + 1 + 1, 0) := by
                  unfold sNew
                  rw [if_neg (by omega), if_neg (by omega), if_neg (by omega), if_neg (nb_f (by assumption))]
                refine k M3 _ fx3 (fun j hj => ?_) (by rw [e]; exact hr3) (fun _ => ⟨rfl, ?_⟩)
                · exact (gx3 6 j rfl).2.1.trans ((r_sJ_n (by omega)).trans (fx20 6 j rfl).2.1)
                · exact (gx3 6 _ rfl).2.1.trans r_sJ_s
              · exfalso
                omega
            · refine Ru_aload_n (pc := 73) dX12_readNew_73 rfl rfl ?_
              refine Ru_iconst (pc := 74) (nI 3) dX12_readNew_74 rfl ?_
              refine Ru_aload_n (pc := 75) dX12_readNew_75 rfl rfl ?_
              refine Ru_getI (pc := 76) dX12_readNew_76 fl_X12_132 rfl rfl ?_
              refine Ru_top (show _ = nI (tA T (s.1 + 1)) from hr2.2.1.1) ?_
              refine Ru_cv2 (pc := 79) dX12_readNew_79 mv_X12_257 rfl (by decide) (Nat.le_of_ble_eq_true rfl) (c_X12_fail (f := 3) (s := (s.1 + 1, 0)) tw hr2 (by decide) (fun M3 gx3 hr3 => ?_)) 
              have fx30 : r_fx [(0, 12), (0, 13), (0, 14), (0, 15), (0, 16), (0, 17), (0, 18), (0, 21)] [] M M3 := fx20.tr (gx3.mono rfl)
              have fx3 : r_fx [(0, 12), (0, 13), (0, 14), (0, 15), (0, 16), (0, 17), (0, 18), (0, 21)] [6] M M3 := fx2.tr (gx3.mono rfl)
              have hb3 := hr3.2.2.2.2
              have ht3 := tTok_b (tK T (sFail 3 (s.1 + 1, 0)).1)
              have hb43 : Y_b4 x.1 M3 := (Y_b4_dp x.1).kp fx30 rfl hb4
              have hw43 : Y_w4 x M3 := (Y_w4_dp x).kp fx30 rfl hw4
              have hn3 := sFail_n (f := 3) (by decide) (show (s.1 + 1, 0).2 = 0 from rfl)
              refine Ru_aload_n (pc := 82) dX12_readNew_82 rfl rfl ?_
              refine Ru_getI (pc := 83) dX12_readNew_83 fl_X12_251 rfl rfl ?_
              refine Ru_top hr3.2.2.1 ?_
              refine Ru_if_leN (pc := 86) 91 dX12_readNew_86 (by decide) (by omega) (fun h9 => ?_) (fun h9 => ?_)
              · exfalso
                omega
              · refine Ru_iconst (pc := 89) (nI 0) dX12_readNew_89 rfl ?_
                refine Ru_iret (pc := 90) dX12_readNew_90 rfl ⟨Nat.le_refl _, Nat.le_refl _⟩ ?_
                have e : (sNew T 1 12 x s) = sFail 3 (s.1 + 1, 0) := by
                  unfold sNew
                  rw [if_neg (by omega), if_neg (by omega), if_neg (by omega), if_pos (by assumption)]
                  rfl
                refine k M3 _ (fx30.mono rfl) (fun j _ => (fx30 6 j rfl).2.1) (by rw [e]; exact hr3) (fun z => ?_)
                exfalso
                rw [e] at z
                first | exact absurd z (by assumption) | omega
        · replace h5 := of_decide_eq_false h5
          refine Ru_aload_n (pc := 55) dX12_readNew_55 rfl rfl ?_
          refine Ru_cv0 (pc := 56) dX12_readNew_56 mv_X12_264 rfl (by decide) (Nat.le_of_ble_eq_true rfl) (c_X12_wrong (s := (s.1 + 1, 0)) tw hr2 (fun M3 gx3 hr3 => ?_)) 
          have fx30 : r_fx [(0, 12), (0, 13), (0, 14), (0, 15), (0, 16), (0, 17), (0, 18), (0, 21)] [] M M3 := fx20.tr (gx3.mono rfl)
          have fx3 : r_fx [(0, 12), (0, 13), (0, 14), (0, 15), (0, 16), (0, 17), (0, 18), (0, 21)] [6] M M3 := fx2.tr (gx3.mono rfl)
          have hb3 := hr3.2.2.2.2
          have ht3 := tTok_b (tK T (sWrong T (s.1 + 1, 0)).1)
          have hb43 : Y_b4 x.1 M3 := (Y_b4_dp x.1).kp fx30 rfl hb4
          have hw43 : Y_w4 x M3 := (Y_w4_dp x).kp fx30 rfl hw4
          have hn3 := (sWrong_n (T := T) (show (s.1 + 1, 0).2 = 0 from rfl)).1
          refine Ru_aload_n (pc := 59) dX12_readNew_59 rfl rfl ?_
          refine Ru_getI (pc := 60) dX12_readNew_60 fl_X12_251 rfl rfl ?_
          refine Ru_top hr3.2.2.1 ?_
          refine Ru_if_neN (pc := 63) 82 dX12_readNew_63 (by decide) (by omega) (fun h10 => ?_) (fun h10 => ?_)
          · refine Ru_aload_n (pc := 82) dX12_readNew_82 rfl rfl ?_
            refine Ru_getI (pc := 83) dX12_readNew_83 fl_X12_251 rfl rfl ?_
            refine Ru_top hr3.2.2.1 ?_
            refine Ru_if_leN (pc := 86) 91 dX12_readNew_86 (by decide) (by omega) (fun h11 => ?_) (fun h11 => ?_)
            · exfalso
              omega
            · refine Ru_iconst (pc := 89) (nI 0) dX12_readNew_89 rfl ?_
              refine Ru_iret (pc := 90) dX12_readNew_90 rfl ⟨Nat.le_refl _, Nat.le_refl _⟩ ?_
              have e : (sNew T 1 12 x s) = sWrong T (s.1 + 1, 0) := by
                unfold sNew
                rw [if_neg (by omega), if_neg (by omega), if_pos (by omega)]
              refine k M3 _ (fx30.mono rfl) (fun j _ => (fx30 6 j rfl).2.1) (by rw [e]; exact hr3) (fun z => ?_)
              exfalso
              rw [e] at z
              first | exact absurd z (by assumption) | omega
          · exfalso
            omega
      · exfalso
        omega
    · refine Ru_aload_n (pc := 25) dX12_readNew_25 rfl rfl ?_
      refine Ru_bipush (pc := 26) (nI 6) dX12_readNew_26 rfl ?_
      refine Ru_aload_n (pc := 28) dX12_readNew_28 rfl rfl ?_
      refine Ru_getI (pc := 29) dX12_readNew_29 fl_X12_132 rfl rfl ?_
      refine Ru_top hr.2.1.1 ?_
      refine Ru_cv2 (pc := 32) dX12_readNew_32 mv_X12_257 rfl (by decide) (Nat.le_of_ble_eq_true rfl) (c_X12_fail (f := 6) (s := s) tw hr (by decide) (fun M2 gx2 hr2 => ?_)) 
      have fx20 : r_fx [(0, 12), (0, 13), (0, 14), (0, 15), (0, 16), (0, 17), (0, 18), (0, 21)] [] M M2 := gx2.mono rfl
      have fx2 : r_fx [(0, 12), (0, 13), (0, 14), (0, 15), (0, 16), (0, 17), (0, 18), (0, 21)] [6] M M2 := gx2.mono rfl
      have hb2 := hr2.2.2.2.2
      have ht2 := tTok_b (tK T (sFail 6 s).1)
      have hb42 : Y_b4 x.1 M2 := (Y_b4_dp x.1).kp fx20 rfl hb4
      have hw42 : Y_w4 x M2 := (Y_w4_dp x).kp fx20 rfl hw4
      have hn2 := sFail_n (f := 6) (by decide) (show s.2 = 0 by assumption)
      refine Ru_aload_n (pc := 35) dX12_readNew_35 rfl rfl ?_
      refine Ru_getI (pc := 36) dX12_readNew_36 fl_X12_251 rfl rfl ?_
      refine Ru_top hr2.2.2.1 ?_
      refine Ru_if_leN (pc := 39) 44 dX12_readNew_39 (by decide) (by omega) (fun h12 => ?_) (fun h12 => ?_)
      · exfalso
        omega
      · refine Ru_iconst (pc := 42) (nI 0) dX12_readNew_42 rfl ?_
        refine Ru_iret (pc := 43) dX12_readNew_43 rfl ⟨Nat.le_refl _, Nat.le_refl _⟩ ?_
        have e : (sNew T 1 12 x s) = sFail 6 s := by
          unfold sNew sFail
          rw [if_neg (by omega), if_pos (by omega), if_pos (by omega)]
        refine k M2 _ (fx20.mono rfl) (fun j _ => (fx20 6 j rfl).2.1) (by rw [e]; exact hr2) (fun z => ?_)
        exfalso
        rw [e] at z
        first | exact absurd z (by assumption) | omega

theorem c_X12_readNew_2 {Q : Rq} {M : Mem} {T : Tx} {s : Ps} (tw : Tw T) (hr : Y_rd T s M) {x : St9} (hb4 : Y_b4 x.1 M) (hw4 : Y_w4 x M) (k : ∀ M' v, r_fx [(0, 12), (0, 13), (0, 14), (0, 15), (0, 16), (0, 17), (0, 18), (0, 21)] [6] M M' → (∀ j, ¬ j = 104 + 20 + x.1 2 → M'.2.1 6 j = M.2.1 6 j) → Y_rd T (sNew T 2 6 x s) M' → ((sNew T 2 6 x s).2 = 0 → v = nI (x.1 2) ∧ M'.2.1 6 (104 + 20 + x.1 2) = nJ (cd 32 (tL T (s.1 + 1)))) → Q (some (.int v)) GY M') : Ca 4 mt_X12_readNew 0 0 [.ref 0, .int (nI 2), .int (nI 6), .int (nI 20)] GY M Q := by
  refine Ca_of rfl (Nat.le_of_ble_eq_true rfl) ?_
  have hb0 := hr.2.2.2.2
  have ht0 := tTok_b (tK T s.1)
  have hcb := hw4.2.2.2
  refine Ru_aload_n (pc := 0) dX12_readNew_0 rfl rfl ?_
  refine Ru_getR (pc := 1) 5 dX12_readNew_1 fl_X12_35 rfl rfl rfl ?_
  refine Ru_sipush (pc := 4) (nI 2600) dX12_readNew_4 rfl ?_
  refine Ru_iload_n (pc := 7) dX12_readNew_7 rfl rfl ?_
  refine Ru_iaddN (pc := 8) dX12_readNew_8 ?_
  refine Ru_iald (pc := 9) dX12_readNew_9 rfl (by omega) ?_
  refine Ru_top (hb4 2 (by decide)) ?_
  refine Ru_istore (pc := 10) dX12_readNew_10 rfl (by decide) ?_
  refine Ru_aload_n (pc := 12) dX12_readNew_12 rfl rfl ?_
  refine Ru_getI (pc := 13) dX12_readNew_13 fl_X12_251 rfl rfl ?_
  refine Ru_top hr.2.2.1 ?_
  refine Ru_if_neN (pc := 16) 35 dX12_readNew_16 (by decide) (by omega) (fun h1 => ?_) (fun h1 => ?_)
  · refine Ru_aload_n (pc := 35) dX12_readNew_35 rfl rfl ?_
    refine Ru_getI (pc := 36) dX12_readNew_36 fl_X12_251 rfl rfl ?_
    refine Ru_top hr.2.2.1 ?_
    refine Ru_if_leN (pc := 39) 44 dX12_readNew_39 (by decide) (by omega) (fun h2 => ?_) (fun h2 => ?_)
    · exfalso
      omega
    · refine Ru_iconst (pc := 42) (nI 0) dX12_readNew_42 rfl ?_
      refine Ru_iret (pc := 43) dX12_readNew_43 rfl ⟨Nat.le_refl _, Nat.le_refl _⟩ ?_
      have e : (sNew T 2 6 x s) = s := sNew_f (by omega)
      refine k M _ r_fx.rf (fun j _ => rfl) (by rw [e]; exact hr) (fun z => ?_)
      exfalso
      rw [e] at z
      first | exact absurd z (by assumption) | omega
  · refine Ru_iload (pc := 19) dX12_readNew_19 rfl ?_
    refine Ru_iload_n (pc := 21) dX12_readNew_21 rfl rfl ?_
    refine Ru_icmp_neN (pc := 22) 35 dX12_readNew_22 (by decide) (by omega) (fun h3 => ?_) (fun h3 => ?_)
    · refine Ru_aload_n (pc := 35) dX12_readNew_35 rfl rfl ?_
      refine Ru_getI (pc := 36) dX12_readNew_36 fl_X12_251 rfl rfl ?_
      refine Ru_top hr.2.2.1 ?_
      refine Ru_if_leN (pc := 39) 44 dX12_readNew_39 (by decide) (by omega) (fun h4 => ?_) (fun h4 => ?_)
      · refine Ru_aload_n (pc := 44) dX12_readNew_44 rfl rfl ?_
        refine Ru_cv0 (pc := 45) dX12_readNew_45 mv_X12_261 rfl (by decide) (Nat.le_of_ble_eq_true rfl) (c_X12_nextS (s := s) tw hr (by first | rfl | assumption | omega) (fun M2 gx2 (hr2 : Y_rd T (s.1 + 1, 0) M2) => ?_)) 
        have fx20 : r_fx [(0, 12), (0, 13), (0, 14), (0, 15), (0, 16), (0, 17), (0, 18), (0, 21)] [] M M2 := gx2.mono rfl
        have fx2 : r_fx [(0, 12), (0, 13), (0, 14), (0, 15), (0, 16), (0, 17), (0, 18), (0, 21)] [6] M M2 := gx2.mono rfl
        have hb2 := hr2.2.2.2.2
        have ht2 := tTok_b (tK T (s.1 + 1))
        have hb42 : Y_b4 x.1 M2 := (Y_b4_dp x.1).kp fx20 rfl hb4
        have hw42 : Y_w4 x M2 := (Y_w4_dp x).kp fx20 rfl hw4
        refine Ru_aload_n (pc := 48) dX12_readNew_48 rfl rfl ?_
        refine Ru_cv0 (pc := 49) dX12_readNew_49 mv_X12_278 rfl (by decide) (Nat.le_of_ble_eq_true rfl) (c_X12_isTownName (i := (s.1 + 1)) tw hr2.2.1 ?_) 
        refine Ru_if_neB (pc := 52) 59 dX12_readNew_52 (by decide) (fun h5 => ?_) (fun h5 => ?_)
        · replace h5 := of_decide_eq_true h5
          refine Ru_aload_n (pc := 59) dX12_readNew_59 rfl rfl ?_
          refine Ru_getI (pc := 60) dX12_readNew_60 fl_X12_251 rfl rfl ?_
          refine Ru_top (show _ = nI 0 from hr2.2.2.1) ?_
          refine Ru_if_neN (pc := 63) 82 dX12_readNew_63 (by decide) (by omega) (fun h6 => ?_) (fun h6 => ?_)
          · exfalso
            omega
          · refine Ru_aload_n (pc := 66) dX12_readNew_66 rfl rfl ?_
            refine Ru_cv0 (pc := 67) dX12_readNew_67 mv_X12_281 rfl (by decide) (Nat.le_of_ble_eq_true rfl) (c_X12_isTaken (s := (s.1 + 1, 0)) (x := x) tw hr2 hb42 hw42 (by assumption) ?_) 
            refine Ru_if_eqB (pc := 70) 82 dX12_readNew_70 (by decide) (fun h7 => ?_) (fun h7 => ?_)
            · refine Ru_aload_n (pc := 82) dX12_readNew_82 rfl rfl ?_
              refine Ru_getI (pc := 83) dX12_readNew_83 fl_X12_251 rfl rfl ?_
              refine Ru_top (show _ = nI 0 from hr2.2.2.1) ?_
              refine Ru_if_leN (pc := 86) 91 dX12_readNew_86 (by decide) (by omega) (fun h8 => ?_) (fun h8 => ?_)
              · refine Ru_aload_n (pc := 91) dX12_readNew_91 rfl rfl ?_
                refine Ru_getR (pc := 92) 6 dX12_readNew_92 fl_X12_38 rfl rfl rfl ?_
                refine Ru_bipush (pc := 95) (nI 104) dX12_readNew_95 rfl ?_
                refine Ru_iload_n (pc := 97) dX12_readNew_97 rfl rfl ?_
                refine Ru_iaddN (pc := 98) dX12_readNew_98 ?_
                refine Ru_iload (pc := 99) dX12_readNew_99 rfl ?_
                refine Ru_iaddN (pc := 101) dX12_readNew_101 ?_
                refine Ru_aload_n (pc := 102) dX12_readNew_102 rfl rfl ?_
                refine Ru_getJ (pc := 103) dX12_readNew_103 fl_X12_144 rfl ?_
                refine Ru_topL (hr2.2.1.2.2.2.1 (Or.inl (by assumption))).1 ?_
                refine Ru_last (pc := 106) rfl dX12_readNew_106 rfl (by omega) ?_
                refine Ru_aload_n (pc := 107) dX12_readNew_107 rfl rfl ?_
                refine Ru_cv0 (pc := 108) dX12_readNew_108 mv_X12_261 rfl (by decide) (Nat.le_of_ble_eq_true rfl) (c_X12_nextS (s := (s.1 + 1, 0)) tw ((Y_rd_dp T (s.1 + 1, 0)).kp (F := []) (A := [5, 6]) (r_fx.sJ rfl r_fx.rf) rfl hr2) (by first | rfl | assumption | omega) (fun M3 gx3 (hr3 : Y_rd T (s.1 + 1 + 1, 0) M3) => ?_)) 
                have fx3 : r_fx [(0, 12), (0, 13), (0, 14), (0, 15), (0, 16), (0, 17), (0, 18), (0, 21)] [6] M M3 := ((r_fx.sJ rfl fx2) : r_fx [(0, 12), (0, 13), (0, 14), (0, 15), (0, 16), (0, 17), (0, 18), (0, 21)] [6] M _).tr (gx3.mono rfl)
                have hb3 := hr3.2.2.2.2
                have ht3 := tTok_b (tK T (s.1 + 1 + 1))
                refine Ru_iload (pc := 111) dX12_readNew_111 rfl ?_
                refine Ru_iret (pc := 113) dX12_readNew_113 rfl ⟨Nat.le_refl _, Nat.le_refl _⟩ ?_
                have e : (sNew T 2 6 x s) = (s.1 + 1 + 1, 0) := by
                  unfold sNew
                  rw [if_neg (by omega), if_neg (by omega), if_neg (by omega), if_neg (nb_f (by assumption))]
                refine k M3 _ fx3 (fun j hj => ?_) (by rw [e]; exact hr3) (fun _ => ⟨rfl, ?_⟩)
                · exact (gx3 6 j rfl).2.1.trans ((r_sJ_n (by omega)).trans (fx20 6 j rfl).2.1)
                · exact (gx3 6 _ rfl).2.1.trans r_sJ_s
              · exfalso
                omega
            · refine Ru_aload_n (pc := 73) dX12_readNew_73 rfl rfl ?_
              refine Ru_iconst (pc := 74) (nI 3) dX12_readNew_74 rfl ?_
              refine Ru_aload_n (pc := 75) dX12_readNew_75 rfl rfl ?_
              refine Ru_getI (pc := 76) dX12_readNew_76 fl_X12_132 rfl rfl ?_
              refine Ru_top (show _ = nI (tA T (s.1 + 1)) from hr2.2.1.1) ?_
              refine Ru_cv2 (pc := 79) dX12_readNew_79 mv_X12_257 rfl (by decide) (Nat.le_of_ble_eq_true rfl) (c_X12_fail (f := 3) (s := (s.1 + 1, 0)) tw hr2 (by decide) (fun M3 gx3 hr3 => ?_)) 
              have fx30 : r_fx [(0, 12), (0, 13), (0, 14), (0, 15), (0, 16), (0, 17), (0, 18), (0, 21)] [] M M3 := fx20.tr (gx3.mono rfl)
              have fx3 : r_fx [(0, 12), (0, 13), (0, 14), (0, 15), (0, 16), (0, 17), (0, 18), (0, 21)] [6] M M3 := fx2.tr (gx3.mono rfl)
              have hb3 := hr3.2.2.2.2
              have ht3 := tTok_b (tK T (sFail 3 (s.1 + 1, 0)).1)
              have hb43 : Y_b4 x.1 M3 := (Y_b4_dp x.1).kp fx30 rfl hb4
              have hw43 : Y_w4 x M3 := (Y_w4_dp x).kp fx30 rfl hw4
              have hn3 := sFail_n (f := 3) (by decide) (show (s.1 + 1, 0).2 = 0 from rfl)
              refine Ru_aload_n (pc := 82) dX12_readNew_82 rfl rfl ?_
              refine Ru_getI (pc := 83) dX12_readNew_83 fl_X12_251 rfl rfl ?_
              refine Ru_top hr3.2.2.1 ?_
              refine Ru_if_leN (pc := 86) 91 dX12_readNew_86 (by decide) (by omega) (fun h9 => ?_) (fun h9 => ?_)
              · exfalso
                omega
              · refine Ru_iconst (pc := 89) (nI 0) dX12_readNew_89 rfl ?_
                refine Ru_iret (pc := 90) dX12_readNew_90 rfl ⟨Nat.le_refl _, Nat.le_refl _⟩ ?_
                have e : (sNew T 2 6 x s) = sFail 3 (s.1 + 1, 0) := by
                  unfold sNew
                  rw [if_neg (by omega), if_neg (by omega), if_neg (by omega), if_pos (by assumption)]
                  rfl
                refine k M3 _ (fx30.mono rfl) (fun j _ => (fx30 6 j rfl).2.1) (by rw [e]; exact hr3) (fun z => ?_)
                exfalso
                rw [e] at z
                first | exact absurd z (by assumption) | omega
        · replace h5 := of_decide_eq_false h5
          refine Ru_aload_n (pc := 55) dX12_readNew_55 rfl rfl ?_
          refine Ru_cv0 (pc := 56) dX12_readNew_56 mv_X12_264 rfl (by decide) (Nat.le_of_ble_eq_true rfl) (c_X12_wrong (s := (s.1 + 1, 0)) tw hr2 (fun M3 gx3 hr3 => ?_)) 
          have fx30 : r_fx [(0, 12), (0, 13), (0, 14), (0, 15), (0, 16), (0, 17), (0, 18), (0, 21)] [] M M3 := fx20.tr (gx3.mono rfl)
          have fx3 : r_fx [(0, 12), (0, 13), (0, 14), (0, 15), (0, 16), (0, 17), (0, 18), (0, 21)] [6] M M3 := fx2.tr (gx3.mono rfl)
          have hb3 := hr3.2.2.2.2
          have ht3 := tTok_b (tK T (sWrong T (s.1 + 1, 0)).1)
          have hb43 : Y_b4 x.1 M3 := (Y_b4_dp x.1).kp fx30 rfl hb4
          have hw43 : Y_w4 x M3 := (Y_w4_dp x).kp fx30 rfl hw4
          have hn3 := (sWrong_n (T := T) (show (s.1 + 1, 0).2 = 0 from rfl)).1
          refine Ru_aload_n (pc := 59) dX12_readNew_59 rfl rfl ?_
          refine Ru_getI (pc := 60) dX12_readNew_60 fl_X12_251 rfl rfl ?_
          refine Ru_top hr3.2.2.1 ?_
          refine Ru_if_neN (pc := 63) 82 dX12_readNew_63 (by decide) (by omega) (fun h10 => ?_) (fun h10 => ?_)
          · refine Ru_aload_n (pc := 82) dX12_readNew_82 rfl rfl ?_
            refine Ru_getI (pc := 83) dX12_readNew_83 fl_X12_251 rfl rfl ?_
            refine Ru_top hr3.2.2.1 ?_
            refine Ru_if_leN (pc := 86) 91 dX12_readNew_86 (by decide) (by omega) (fun h11 => ?_) (fun h11 => ?_)
            · exfalso
              omega
            · refine Ru_iconst (pc := 89) (nI 0) dX12_readNew_89 rfl ?_
              refine Ru_iret (pc := 90) dX12_readNew_90 rfl ⟨Nat.le_refl _, Nat.le_refl _⟩ ?_
              have e : (sNew T 2 6 x s) = sWrong T (s.1 + 1, 0) := by
                unfold sNew
                rw [if_neg (by omega), if_neg (by omega), if_pos (by omega)]
              refine k M3 _ (fx30.mono rfl) (fun j _ => (fx30 6 j rfl).2.1) (by rw [e]; exact hr3) (fun z => ?_)
              exfalso
              rw [e] at z
              first | exact absurd z (by assumption) | omega
          · exfalso
            omega
      · exfalso
        omega
    · refine Ru_aload_n (pc := 25) dX12_readNew_25 rfl rfl ?_
      refine Ru_bipush (pc := 26) (nI 6) dX12_readNew_26 rfl ?_
      refine Ru_aload_n (pc := 28) dX12_readNew_28 rfl rfl ?_
      refine Ru_getI (pc := 29) dX12_readNew_29 fl_X12_132 rfl rfl ?_
      refine Ru_top hr.2.1.1 ?_
      refine Ru_cv2 (pc := 32) dX12_readNew_32 mv_X12_257 rfl (by decide) (Nat.le_of_ble_eq_true rfl) (c_X12_fail (f := 6) (s := s) tw hr (by decide) (fun M2 gx2 hr2 => ?_)) 
      have fx20 : r_fx [(0, 12), (0, 13), (0, 14), (0, 15), (0, 16), (0, 17), (0, 18), (0, 21)] [] M M2 := gx2.mono rfl
      have fx2 : r_fx [(0, 12), (0, 13), (0, 14), (0, 15), (0, 16), (0, 17), (0, 18), (0, 21)] [6] M M2 := gx2.mono rfl
      have hb2 := hr2.2.2.2.2
      have ht2 := tTok_b (tK T (sFail 6 s).1)
      have hb42 : Y_b4 x.1 M2 := (Y_b4_dp x.1).kp fx20 rfl hb4
      have hw42 : Y_w4 x M2 := (Y_w4_dp x).kp fx20 rfl hw4
      have hn2 := sFail_n (f := 6) (by decide) (show s.2 = 0 by assumption)
      refine Ru_aload_n (pc := 35) dX12_readNew_35 rfl rfl ?_
      refine Ru_getI (pc := 36) dX12_readNew_36 fl_X12_251 rfl rfl ?_
      refine Ru_top hr2.2.2.1 ?_
      refine Ru_if_leN (pc := 39) 44 dX12_readNew_39 (by decide) (by omega) (fun h12 => ?_) (fun h12 => ?_)
      · exfalso
        omega
      · refine Ru_iconst (pc := 42) (nI 0) dX12_readNew_42 rfl ?_
        refine Ru_iret (pc := 43) dX12_readNew_43 rfl ⟨Nat.le_refl _, Nat.le_refl _⟩ ?_
        have e : (sNew T 2 6 x s) = sFail 6 s := by
          unfold sNew sFail
          rw [if_neg (by omega), if_pos (by omega), if_pos (by omega)]
        refine k M2 _ (fx20.mono rfl) (fun j _ => (fx20 6 j rfl).2.1) (by rw [e]; exact hr2) (fun z => ?_)
        exfalso
        rw [e] at z
        first | exact absurd z (by assumption) | omega

theorem c_X12_readOld {Q : Rq} {M : Mem} {T : Tx} {s : Ps} (tw : Tw T) (hr : Y_rd T s M) {W : Nat → List Nat} {b th f w0 n : Nat} (hbf : 26 * b + f + n ≤ 130) (hbt : 650 * b + th < 3250) (hn9 : n < 1000) (hcn : M.1 5 (650 * b + th) = nI n) (hW : ∀ k, k < n → M.2.1 6 (26 * b + f + k) = nJ (cd 32 (W (w0 + k))) ∧ Lv (W (w0 + k)) ∧ (W (w0 + k)).length ≤ 8) (k : ∀ M' v, r_fx [(0, 12), (0, 13), (0, 14), (0, 15), (0, 16), (0, 17), (0, 18), (0, 21)] [] M M' → Y_rd T (sOld T W w0 n s) M' → ((sOld T W w0 n s).2 = 0 → v = nI (fN W (tL T s.1) w0 n - 1)) → Q (some (.int v)) GY M') : Ca 4 mt_X12_readOld 0 0 [.ref 0, .int (nI b), .int (nI th), .int (nI f)] GY M Q := by
  refine Ca_of rfl (Nat.le_of_ble_eq_true rfl) ?_
  have hb0 := hr.2.2.2.2
  have ht0 := tTok_b (tK T s.1)
  have hfl := fN_le W (tL T s.1) w0 n
  have hnm := nM_t (k := fN W (tL T s.1) w0 n) (by omega)
  refine Ru_aload_n (pc := 0) dX12_readOld_0 rfl rfl ?_
  refine Ru_getI (pc := 1) dX12_readOld_1 fl_X12_251 rfl rfl ?_
  refine Ru_top hr.2.2.1 ?_
  refine Ru_if_neN (pc := 4) 18 dX12_readOld_4 (by decide) (by omega) (fun h1 => ?_) (fun h1 => ?_)
  · refine Ru_aload_n (pc := 18) dX12_readOld_18 rfl rfl ?_
    refine Ru_getI (pc := 19) dX12_readOld_19 fl_X12_251 rfl rfl ?_
    refine Ru_top hr.2.2.1 ?_
    refine Ru_if_neN (pc := 22) 46 dX12_readOld_22 (by decide) (by omega) (fun h2 => ?_) (fun h2 => ?_)
    · refine Ru_iconst (pc := 46) (nI 0) dX12_readOld_46 rfl ?_
      refine Ru_istore (pc := 47) dX12_readOld_47 rfl (by decide) ?_
      refine Ru_aload_n (pc := 49) dX12_readOld_49 rfl rfl ?_
      refine Ru_getI (pc := 50) dX12_readOld_50 fl_X12_251 rfl rfl ?_
      refine Ru_top hr.2.2.1 ?_
      refine Ru_if_neN (pc := 53) 70 dX12_readOld_53 (by decide) (by omega) (fun h3 => ?_) (fun h3 => ?_)
      · refine Ru_iload (pc := 70) dX12_readOld_70 rfl ?_
        refine Ru_iret (pc := 72) dX12_readOld_72 rfl ⟨Nat.le_refl _, Nat.le_refl _⟩ ?_
        have e : sOld T W w0 n s = s := sOld_f (by omega)
        refine k M _ r_fx.rf (by rw [e]; exact hr) (fun z => ?_)
        exfalso
        rw [e] at z
        omega
      · exfalso
        omega
    · exfalso
      omega
  · refine Ru_aload_n (pc := 7) dX12_readOld_7 rfl rfl ?_
    refine Ru_cv0 (pc := 8) dX12_readOld_8 mv_X12_278 rfl (by decide) (Nat.le_of_ble_eq_true rfl) (c_X12_isTownName (i := s.1) tw hr.2.1 ?_) 
    refine Ru_if_neB (pc := 11) 18 dX12_readOld_11 (by decide) (fun h4 => ?_) (fun h4 => ?_)
    · replace h4 := of_decide_eq_true h4
      refine Ru_aload_n (pc := 18) dX12_readOld_18 rfl rfl ?_
      refine Ru_getI (pc := 19) dX12_readOld_19 fl_X12_251 rfl rfl ?_
      refine Ru_top hr.2.2.1 ?_
      refine Ru_if_neN (pc := 22) 46 dX12_readOld_22 (by decide) (by omega) (fun h5 => ?_) (fun h5 => ?_)
      · exfalso
        omega
      · refine Ru_aload_n (pc := 25) dX12_readOld_25 rfl rfl ?_
        refine Ru_iload_n (pc := 26) dX12_readOld_26 rfl rfl ?_
        refine Ru_iload_n (pc := 27) dX12_readOld_27 rfl rfl ?_
        refine Ru_aload_n (pc := 28) dX12_readOld_28 rfl rfl ?_
        refine Ru_getR (pc := 29) 5 dX12_readOld_29 fl_X12_35 rfl rfl rfl ?_
        refine Ru_sipush (pc := 32) (nI 650) dX12_readOld_32 rfl ?_
        refine Ru_iload_n (pc := 35) dX12_readOld_35 rfl rfl ?_
        refine Ru_imulN (pc := 36) dX12_readOld_36 ?_
        refine Ru_iload_n (pc := 37) dX12_readOld_37 rfl rfl ?_
        refine Ru_iaddN (pc := 38) dX12_readOld_38 ?_
        refine Ru_iald (pc := 39) dX12_readOld_39 rfl (by omega) ?_
        refine Ru_top hcn ?_
        refine Ru_cv3 (pc := 40) dX12_readOld_40 mv_X12_274 rfl (by decide) (Nat.le_of_ble_eq_true rfl) (c_X12_named (i := s.1) (W := W) (w0 := w0) tw hr.2.1 (by assumption) hbf hW ?_) 
        refine Ru_goto (pc := 43) 47 dX12_readOld_43 (by decide) ?_
        refine Ru_istore (pc := 47) dX12_readOld_47 rfl (by decide) ?_
        refine Ru_aload_n (pc := 49) dX12_readOld_49 rfl rfl ?_
        refine Ru_getI (pc := 50) dX12_readOld_50 fl_X12_251 rfl rfl ?_
        refine Ru_top hr.2.2.1 ?_
        refine Ru_if_neN (pc := 53) 70 dX12_readOld_53 (by decide) (by omega) (fun h6 => ?_) (fun h6 => ?_)
        · exfalso
          omega
        · refine Ru_iload (pc := 56) dX12_readOld_56 rfl ?_
          refine Ru_if_geT (pc := 58) 70 dX12_readOld_58 (by decide) (fun h7 => ?_) (fun h7 => ?_)
          · refine Ru_iload (pc := 70) dX12_readOld_70 rfl ?_
            refine Ru_iret (pc := 72) dX12_readOld_72 rfl ⟨Nat.le_refl _, Nat.le_refl _⟩ ?_
            have e : sOld T W w0 n s = s := by
              by_cases z : s.2 = 0
              · unfold sOld
                rw [if_pos (by assumption), if_neg (by omega)]
              · exact sOld_f z
            refine k M _ r_fx.rf (by rw [e]; exact hr) (fun z => ?_)
            obtain ⟨q, hq⟩ : ∃ q, fN W (tL T s.1) w0 n = q + 1 := ⟨fN W (tL T s.1) w0 n - 1, by omega⟩
            rw [hq]
            rfl
          · refine Ru_aload_n (pc := 61) dX12_readOld_61 rfl rfl ?_
            refine Ru_iconst (pc := 62) (nI 3) dX12_readOld_62 rfl ?_
            refine Ru_aload_n (pc := 63) dX12_readOld_63 rfl rfl ?_
            refine Ru_getI (pc := 64) dX12_readOld_64 fl_X12_132 rfl rfl ?_
            refine Ru_top hr.2.1.1 ?_
            refine Ru_cv2 (pc := 67) dX12_readOld_67 mv_X12_257 rfl (by decide) (Nat.le_of_ble_eq_true rfl) (c_X12_fail (f := 3) (s := s) tw hr (by decide) (fun M2 gx2 hr2 => ?_)) 
            have fx2 : r_fx [(0, 12), (0, 13), (0, 14), (0, 15), (0, 16), (0, 17), (0, 18), (0, 21)] [] M M2 := gx2.mono rfl
            have hb2 := hr2.2.2.2.2
            have ht2 := tTok_b (tK T (sFail 3 s).1)
            have hn2 := sFail_n (f := 3) (by decide) (show s.2 = 0 by assumption)
            refine Ru_iload (pc := 70) dX12_readOld_70 rfl ?_
            refine Ru_iret (pc := 72) dX12_readOld_72 rfl ⟨Nat.le_refl _, Nat.le_refl _⟩ ?_
            have e : sOld T W w0 n s = sFail 3 s := by
              unfold sOld
              rw [if_pos (by assumption), if_pos (by omega)]
            refine k M2 _ fx2 (by rw [e]; exact hr2) (fun z => ?_)
            exfalso
            rw [e] at z
            exact absurd z (by assumption)
    · replace h4 := of_decide_eq_false h4
      refine Ru_aload_n (pc := 14) dX12_readOld_14 rfl rfl ?_
      refine Ru_cv0 (pc := 15) dX12_readOld_15 mv_X12_264 rfl (by decide) (Nat.le_of_ble_eq_true rfl) (c_X12_wrong (s := s) tw hr (fun M2 gx2 hr2 => ?_)) 
      have fx2 : r_fx [(0, 12), (0, 13), (0, 14), (0, 15), (0, 16), (0, 17), (0, 18), (0, 21)] [] M M2 := gx2.mono rfl
      have hb2 := hr2.2.2.2.2
      have ht2 := tTok_b (tK T (sWrong T s).1)
      have hn2 := (sWrong_n (T := T) (show s.2 = 0 from by assumption)).1
      refine Ru_aload_n (pc := 18) dX12_readOld_18 rfl rfl ?_
      refine Ru_getI (pc := 19) dX12_readOld_19 fl_X12_251 rfl rfl ?_
      refine Ru_top hr2.2.2.1 ?_
      refine Ru_if_neN (pc := 22) 46 dX12_readOld_22 (by decide) (by omega) (fun h8 => ?_) (fun h8 => ?_)
      · refine Ru_iconst (pc := 46) (nI 0) dX12_readOld_46 rfl ?_
        refine Ru_istore (pc := 47) dX12_readOld_47 rfl (by decide) ?_
        refine Ru_aload_n (pc := 49) dX12_readOld_49 rfl rfl ?_
        refine Ru_getI (pc := 50) dX12_readOld_50 fl_X12_251 rfl rfl ?_
        refine Ru_top hr2.2.2.1 ?_
        refine Ru_if_neN (pc := 53) 70 dX12_readOld_53 (by decide) (by omega) (fun h9 => ?_) (fun h9 => ?_)
        · refine Ru_iload (pc := 70) dX12_readOld_70 rfl ?_
          refine Ru_iret (pc := 72) dX12_readOld_72 rfl ⟨Nat.le_refl _, Nat.le_refl _⟩ ?_
          have e : sOld T W w0 n s = sWrong T s := if_neg (by assumption)
          refine k M2 _ fx2 (by rw [e]; exact hr2) (fun z => ?_)
          exfalso
          rw [e] at z
          exact absurd z (by assumption)
        · exfalso
          omega
      · exfalso
        omega
