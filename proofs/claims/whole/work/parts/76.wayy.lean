theorem l_X12_way1 {Q : Rq} {M : Mem} {tr : Nat → Tr} {t' m' : Nat} {a : Int32} (hy2 : Y_tr tr M) (ht' : t' < 4) (hm : m' ≤ 30) (hlen : 2 * (m' : Int) ≤ (tr t').2.1.toInt) (kf : wOk (tr t').2.2 (2 * m') = false → Q (some (.int (-1))) GY (r_sI M 0 0 (nI 5))) (k : wOk (tr t').2.2 (2 * m') = true → Ru 2 mt_X12_way r_z 127 [(0, some (.ref 0)), (1, some (.int (nI t'))), (2, some (.int (nI m'))), (3, some (.int a))] [] GY M Q) : ∀ (zw : Nat) (p : Nat), 2 * m' - p = zw → (p ≤ 2 * m') → (∀ k, k < p → 0 ≤ ((tr t').2.2 k).toInt ∧ ((tr t').2.2 k).toInt ≤ 999) → Ru 2 mt_X12_way r_z 90 [(4, some (.int (nI p))), (0, some (.ref 0)), (1, some (.int (nI t'))), (2, some (.int (nI m'))), (3, some (.int a))] [] GY M Q := by
  intro zw
  induction zw using Nat.strongRecOn with
  | ind zw ih =>
    intro p hw hn hal
    subst hw
    have hl60 := (hy2 t' ht').2.2.1
    refine Ru_iload (pc := 90) dX12_way_90 rfl ?_
    refine Ru_iconst (pc := 92) (nI 2) dX12_way_92 rfl ?_
    refine Ru_iload_n (pc := 93) dX12_way_93 rfl rfl ?_
    refine Ru_imulN (pc := 94) dX12_way_94 ?_
    refine Ru_icmp_geN (pc := 95) 127 dX12_way_95 (by decide) (by omega) (fun h1 => ?_) (fun h1 => ?_)
    · have ep : p = 2 * m' := by omega
      subst ep
      exact Ru_weak (k (wOk_of hal)) rfl
    · refine Ru_aload_n (pc := 98) dX12_way_98 rfl rfl ?_
      refine Ru_iload_n (pc := 99) dX12_way_99 rfl rfl ?_
      refine Ru_iload (pc := 100) dX12_way_100 rfl ?_
      refine Ru_cv2 (pc := 102) dX12_way_102 mv_X12_499 rfl (by decide) (Nat.le_of_ble_eq_true rfl) (c_X12_numberOf (tr := tr) hy2 ht' (by omega) ?_) 
      refine Ru_lconst (pc := 105) 0 dX12_way_105 rfl ?_
      refine Ru_ldc2 (pc := 106) dX12_way_106 tw_1894 ?_
      refine Ru_cs3 (pc := 109) dX12_way_109 ms_X12_122 (by decide) (Nat.le_of_ble_eq_true rfl) (c_X12_isInJ (0) (999) rfl rfl ?_) 
      refine Ru_if_neB (pc := 112) 121 dX12_way_112 (by decide) (fun h2 => ?_) (fun h2 => ?_)
      · replace h2 := of_decide_eq_true h2
        refine Ru_iincN (pc := 121) 1 dX12_way_121 rfl rfl rfl (by decide) ?_
        refine Ru_goto (pc := 124) 90 dX12_way_124 (by decide) ?_
        refine Ru_weak (ih (2 * m' - (p + 1)) (by omega) (p + 1) rfl (by omega) (fun q hq => ?_)) rfl
        by_cases e : q = p
        · subst e
          assumption
        · exact hal q (by omega)
      · replace h2 := of_decide_eq_false h2
        refine Ru_aload_n (pc := 115) dX12_way_115 rfl rfl ?_
        refine Ru_iconst (pc := 116) (nI 5) dX12_way_116 rfl ?_
        refine Ru_cv1 (pc := 117) dX12_way_117 mv_X12_351 rfl (by decide) (Nat.le_of_ble_eq_true rfl) (c_X12_refuse ?_) 
        refine Ru_iret (pc := 120) dX12_way_120 rfl ⟨Nat.le_refl _, Nat.le_refl _⟩ ?_
        refine kf (wOk_f (k := p) ?_ _ (by omega))
        assumption

theorem l_X12_way2 {Q : Rq} {M : Mem} {tr : Nat → Tr} {t' m' : Nat} {a : Int} (hy2 : Y_tr tr M) (ht' : t' < 4) (hm : m' ≤ 30) (hlen : 2 * (m' : Int) ≤ (tr t').2.1.toInt) (hw : ∀ k, k < 2 * m' → 0 ≤ ((tr t').2.2 k).toInt ∧ ((tr t').2.2 k).toInt ≤ 999) (k : Q (some (.int (nM (wFirst (tr t').2.2 a m' 0)))) GY M) : ∀ (zw : Nat) (p : Nat) (u : Int64) (v : Int64), m' - p = zw → (p ≤ m') → (v.toInt - u.toInt = wLead (tr t').2.2 a p) → (0 ≤ u.toInt ∧ u.toInt ≤ 999 * p ∧ 0 ≤ v.toInt ∧ v.toInt ≤ 24 + 999 * p) → (wFirst (tr t').2.2 a (m' - p) p = wFirst (tr t').2.2 a m' 0) → Ru 2 mt_X12_way r_z 137 [(4, some (.long u)), (6, some (.long v)), (8, some (.int (nI p))), (0, some (.ref 0)), (1, some (.int (nI t'))), (2, some (.int (nI m')))] [] GY M Q := by
  intro zw
  induction zw using Nat.strongRecOn with
  | ind zw ih =>
    intro p u v hw hn hv hb e1
    subst hw
    have hl60 := (hy2 t' ht').2.2.1
    refine Ru_iload (pc := 137) dX12_way_137 rfl ?_
    refine Ru_iload_n (pc := 139) dX12_way_139 rfl rfl ?_
    refine Ru_icmp_geN (pc := 140) 190 dX12_way_140 (by decide) (by omega) (fun h1 => ?_) (fun h1 => ?_)
    · refine Ru_iconst (pc := 190) (-1) dX12_way_190 rfl ?_
      refine Ru_iret (pc := 191) dX12_way_191 rfl ⟨Nat.le_refl _, Nat.le_refl _⟩ ?_
      refine r_qe ?_ k
      rw [← e1, show m' - p = 0 by omega]
      rfl
    · have w1 := hw (2 * p) (by omega)
      have w2 := hw (2 * p + 1) (by omega)
      have s1 := w_add (a := u) (b := (tr t').2.2 (2 * p)) (by omega)
      have s2 := w_add (a := v) (b := (tr t').2.2 (2 * p + 1)) (by omega)
      refine Ru_lload (pc := 143) dX12_way_143 rfl ?_
      refine Ru_aload_n (pc := 145) dX12_way_145 rfl rfl ?_
      refine Ru_iload_n (pc := 146) dX12_way_146 rfl rfl ?_
      refine Ru_iconst (pc := 147) (nI 2) dX12_way_147 rfl ?_
      refine Ru_iload (pc := 148) dX12_way_148 rfl ?_
      refine Ru_imulN (pc := 150) dX12_way_150 ?_
      refine Ru_cv2 (pc := 151) dX12_way_151 mv_X12_499 rfl (by decide) (Nat.le_of_ble_eq_true rfl) (c_X12_numberOf (tr := tr) hy2 ht' (by omega) ?_) 
      refine Ru_ladd (pc := 154) dX12_way_154 ?_
      refine Ru_lstore (pc := 155) dX12_way_155 rfl (by decide) ?_
      refine Ru_lload (pc := 157) dX12_way_157 rfl ?_
      refine Ru_aload_n (pc := 159) dX12_way_159 rfl rfl ?_
      refine Ru_iload_n (pc := 160) dX12_way_160 rfl rfl ?_
      refine Ru_iconst (pc := 161) (nI 2) dX12_way_161 rfl ?_
      refine Ru_iload (pc := 162) dX12_way_162 rfl ?_
      refine Ru_imulN (pc := 164) dX12_way_164 ?_
      refine Ru_iconst (pc := 165) (nI 1) dX12_way_165 rfl ?_
      refine Ru_iaddN (pc := 166) dX12_way_166 ?_
      refine Ru_cv2 (pc := 167) dX12_way_167 mv_X12_499 rfl (by decide) (Nat.le_of_ble_eq_true rfl) (c_X12_numberOf (tr := tr) hy2 ht' (by omega) ?_) 
      refine Ru_ladd (pc := 170) dX12_way_170 ?_
      refine Ru_lstore (pc := 171) dX12_way_171 rfl (by decide) ?_
      refine Ru_lload (pc := 173) dX12_way_173 rfl ?_
      refine Ru_lload (pc := 175) dX12_way_175 rfl ?_
      refine Ru_lcmp (pc := 177) dX12_way_177 ?_
      refine Ru_if_ltC (pc := 178) 184 dX12_way_178 (by decide) (fun h2 => ?_) (fun h2 => ?_)
      · refine Ru_iincN (pc := 184) 1 dX12_way_184 rfl rfl rfl (by decide) ?_
        refine Ru_goto (pc := 187) 137 dX12_way_187 (by decide) ?_
        refine Ru_weak (ih (m' - (p + 1)) (by omega) (p + 1) _ _ rfl (by omega) ?_ ?_ ?_) rfl
        · show _ = wLead _ _ p - _ + _
          omega
        · omega
        · rw [← e1, wFirst_st (k := p) (by omega), if_neg]
          simp only [Int64.lt_iff_toInt_lt, Int64.le_iff_toInt_le] at *
          show ¬ wLead _ _ p - _ + _ ≤ _
          omega
      · refine Ru_iload (pc := 181) dX12_way_181 rfl ?_
        refine Ru_iret (pc := 183) dX12_way_183 rfl ⟨Nat.le_refl _, Nat.le_refl _⟩ ?_
        refine r_qe ?_ k
        rw [← e1, wFirst_st (by omega), if_pos]
        · rfl
        · simp only [Int64.lt_iff_toInt_lt, Int64.le_iff_toInt_le] at *
          show wLead _ _ p - _ + _ ≤ _
          omega

theorem c_X12_way {Q : Rq} {M : Mem} {tr : Nat → Tr} {t m a : Int32} (hy : Y_tr tr M) (k : ∀ M', r_fx [(0, 0), (0, 1)] [] M M' → M'.1 0 0 = nI (g_way tr t m a).2 → Q (some (.int (g_way tr t m a).1)) GY M') : Ca 2 mt_X12_way 0 0 [.ref 0, .int t, .int m, .int a] GY M Q := by
  refine Ca_of rfl (Nat.le_of_ble_eq_true rfl) ?_
  refine Ru_aload_n (pc := 0) dX12_way_0 rfl rfl ?_
  refine Ru_iconst (pc := 1) (nI 0) dX12_way_1 rfl ?_
  refine Ru_putI (pc := 2) rfl dX12_way_2 fl_X12_87 rfl ?_
  refine Ru_aload_n (pc := 5) dX12_way_5 rfl rfl ?_
  refine Ru_iconst (pc := 6) (nI 0) dX12_way_6 rfl ?_
  refine Ru_putI (pc := 7) rfl dX12_way_7 fl_X12_90 rfl ?_
  refine Ru_aload_n (pc := 10) dX12_way_10 rfl rfl ?_
  refine Ru_iload_n (pc := 11) dX12_way_11 rfl rfl ?_
  refine Ru_cv1 (pc := 12) dX12_way_12 mv_X12_494 rfl (by decide) (Nat.le_of_ble_eq_true rfl) (c_X12_isTray ?_) 
  refine Ru_if_neB (pc := 15) 24 dX12_way_15 (by decide) (fun h1 => ?_) (fun h1 => ?_)
  · replace h1 := of_decide_eq_true h1
    obtain ⟨t', ht', rfl⟩ := r_nat (x := t) (n := 4) (by omega) (by omega)
    have et := r_tn (show t' < 2147483648 by omega)
    have et2 := r_tnn (show t' < 2147483648 by omega)
    have htr := hy t' ht'
    refine Ru_aload_n (pc := 24) dX12_way_24 rfl rfl ?_
    refine Ru_getR (pc := 25) 2 dX12_way_25 fl_X12_17 rfl rfl rfl ?_
    refine Ru_iload_n (pc := 28) dX12_way_28 rfl rfl ?_
    refine Ru_iald (pc := 29) dX12_way_29 rfl (by omega) ?_
    refine Ru_top ((r_sI_n (by omega)).trans ((r_sI_n (by omega)).trans (hy t' ht').2.1)) ?_
    refine Ru_if_geT (pc := 30) 39 dX12_way_30 (by decide) (fun h2 => ?_) (fun h2 => ?_)
    · refine Ru_iload_n (pc := 39) dX12_way_39 rfl rfl ?_
      refine Ru_i2l (pc := 40) _ dX12_way_40 rfl ?_
      refine Ru_lconst (pc := 41) 1 dX12_way_41 rfl ?_
      refine Ru_ldc2 (pc := 42) dX12_way_42 tw_2082 ?_
      refine Ru_cs3 (pc := 45) dX12_way_45 ms_X12_122 (by decide) (Nat.le_of_ble_eq_true rfl) (c_X12_isIn (1) (30) rfl rfl ?_) 
      refine Ru_if_eqB (pc := 48) 63 dX12_way_48 (by decide) (fun h3 => ?_) (fun h3 => ?_)
      · replace h3 := of_decide_eq_false h3
        refine Ru_aload_n (pc := 63) dX12_way_63 rfl rfl ?_
        refine Ru_iconst (pc := 64) (nI 5) dX12_way_64 rfl ?_
        refine Ru_cv1 (pc := 65) dX12_way_65 mv_X12_351 rfl (by decide) (Nat.le_of_ble_eq_true rfl) (c_X12_refuse ?_) 
        refine Ru_iret (pc := 68) dX12_way_68 rfl ⟨Nat.le_refl _, Nat.le_refl _⟩ ?_
        have e : g_way tr (nI t') m a = (-1, 5) := by
          unfold g_way
          rw [et2]
          rw [if_neg (by omega), if_neg (by omega), if_pos (by omega)]
        rw [e] at k
        exact k _ (r_fx.sI rfl (r_fx.sI rfl (r_fx.sI rfl r_fx.rf))) r_sI_s
      · replace h3 := of_decide_eq_true h3
        refine Ru_iload_n (pc := 51) dX12_way_51 rfl rfl ?_
        refine Ru_i2l (pc := 52) _ dX12_way_52 rfl ?_
        refine Ru_lconst (pc := 53) 1 dX12_way_53 rfl ?_
        refine Ru_ldc2 (pc := 54) dX12_way_54 tw_1939 ?_
        refine Ru_cs3 (pc := 57) dX12_way_57 ms_X12_122 (by decide) (Nat.le_of_ble_eq_true rfl) (c_X12_isIn (1) (24) rfl rfl ?_) 
        refine Ru_if_neB (pc := 60) 69 dX12_way_60 (by decide) (fun h4 => ?_) (fun h4 => ?_)
        · replace h4 := of_decide_eq_true h4
          obtain ⟨m', hm', rfl⟩ := r_nat (x := m) (n := 31) (by omega) (by omega)
          have em := r_tn (show m' < 2147483648 by omega)
          obtain ⟨a', ha', rfl⟩ := r_nat (x := a) (n := 25) (by omega) (by omega)
          have ea := r_tn (show a' < 2147483648 by omega)
          refine Ru_aload_n (pc := 69) dX12_way_69 rfl rfl ?_
          refine Ru_getR (pc := 70) 2 dX12_way_70 fl_X12_17 rfl rfl rfl ?_
          refine Ru_iload_n (pc := 73) dX12_way_73 rfl rfl ?_
          refine Ru_iald (pc := 74) dX12_way_74 rfl (by omega) ?_
          refine Ru_top ((r_sI_n (by omega)).trans ((r_sI_n (by omega)).trans (hy t' ht').2.1)) ?_
          refine Ru_iconst (pc := 75) (nI 2) dX12_way_75 rfl ?_
          refine Ru_iload_n (pc := 76) dX12_way_76 rfl rfl ?_
          refine Ru_imulN (pc := 77) dX12_way_77 ?_
          have e2m := r_tn (show 2 * m' < 2147483648 by omega)
          refine Ru_icmp_geL (pc := 78) 87 dX12_way_78 (by decide) (by omega) (fun h5 => ?_) (fun h5 => ?_)
          · refine Ru_iconst (pc := 87) (nI 0) dX12_way_87 rfl ?_
            refine Ru_istore (pc := 88) dX12_way_88 rfl (by decide) ?_
            have fx0 : r_fx [(0, 0), (0, 1)] [] M (r_sI (r_sI M 0 1 (nI 0)) 0 0 (nI 0)) := (r_fx.sI rfl (r_fx.sI rfl r_fx.rf))
            have hy1 : Y_tr tr (r_sI (r_sI M 0 1 (nI 0)) 0 0 (nI 0)) := Y_tr_S fx0 hy
            have hst1 : (r_sI (r_sI M 0 1 (nI 0)) 0 0 (nI 0)).1 0 0 = nI 0 := r_sI_s
            generalize r_sI (r_sI M 0 1 (nI 0)) 0 0 (nI 0) = M1 at *
            refine Ru_weak (l_X12_way1 hy1 ht' (by omega) (by omega) (fun hOk => ?_) (fun hOk => ?_) (2 * m') 0 rfl (Nat.zero_le _) (fun k hk => by omega)) rfl
            · have e : g_way tr (nI t') (nI m') (nI a') = (-1, 5) := by
                unfold g_way
                rw [et2, if_neg (by omega), if_neg (by omega), if_neg (by omega), if_neg (by omega), r_tnn (show m' < 2147483648 by omega), if_pos hOk]
              rw [e] at k
              exact k _ (r_fx.sI rfl fx0) r_sI_s
            · have e : g_way tr (nI t') (nI m') (nI a') = (nM (wFirst (tr t').2.2 (a' : Int) m' 0), 0) := by
                unfold g_way
                rw [et2, if_neg (by omega), if_neg (by omega), if_neg (by omega), if_neg (by omega), r_tnn (show m' < 2147483648 by omega), if_neg (by rw [hOk]; decide), ea]
              rw [e] at k
              refine Ru_lconst (pc := 127) 0 dX12_way_127 rfl ?_
              refine Ru_lstore (pc := 128) dX12_way_128 rfl (by decide) ?_
              refine Ru_iload_n (pc := 130) dX12_way_130 rfl rfl ?_
              refine Ru_i2l (pc := 131) _ dX12_way_131 rfl ?_
              refine Ru_lstore (pc := 132) dX12_way_132 rfl (by decide) ?_
              refine Ru_iconst (pc := 134) (nI 0) dX12_way_134 rfl ?_
              refine Ru_istore (pc := 135) dX12_way_135 rfl (by decide) ?_
              refine Ru_weak (l_X12_way2 (m' := m') (a := (a' : Int)) hy1 ht' (by omega) (by omega) (wOk_t hOk) (k _ fx0 hst1) m' 0 _ _ rfl (Nat.zero_le _) ?_ ?_ rfl) rfl
              · show _ = (a' : Int)
                rw [Int32.toInt_toInt64, ea]
                show (a' : Int) - 0 = _
                omega
              · rw [Int32.toInt_toInt64, ea]
                show 0 ≤ (0 : Int) ∧ (0 : Int) ≤ _ ∧ _
                omega
          · refine Ru_aload_n (pc := 81) dX12_way_81 rfl rfl ?_
            refine Ru_iconst (pc := 82) (nI 4) dX12_way_82 rfl ?_
            refine Ru_cv1 (pc := 83) dX12_way_83 mv_X12_351 rfl (by decide) (Nat.le_of_ble_eq_true rfl) (c_X12_refuse ?_) 
            refine Ru_iret (pc := 86) dX12_way_86 rfl ⟨Nat.le_refl _, Nat.le_refl _⟩ ?_
            have e : g_way tr (nI t') (nI m') (nI a') = (-1, 4) := by
              unfold g_way
              rw [et2]
              rw [if_neg (by omega), if_neg (by omega), if_neg (by omega), if_pos (by omega)]
            rw [e] at k
            exact k _ (r_fx.sI rfl (r_fx.sI rfl (r_fx.sI rfl r_fx.rf))) r_sI_s
        · replace h4 := of_decide_eq_false h4
          refine Ru_aload_n (pc := 63) dX12_way_63 rfl rfl ?_
          refine Ru_iconst (pc := 64) (nI 5) dX12_way_64 rfl ?_
          refine Ru_cv1 (pc := 65) dX12_way_65 mv_X12_351 rfl (by decide) (Nat.le_of_ble_eq_true rfl) (c_X12_refuse ?_) 
          refine Ru_iret (pc := 68) dX12_way_68 rfl ⟨Nat.le_refl _, Nat.le_refl _⟩ ?_
          have e : g_way tr (nI t') m a = (-1, 5) := by
            unfold g_way
            rw [et2]
            rw [if_neg (by omega), if_neg (by omega), if_pos (by omega)]
          rw [e] at k
          exact k _ (r_fx.sI rfl (r_fx.sI rfl (r_fx.sI rfl r_fx.rf))) r_sI_s
    · refine Ru_aload_n (pc := 33) dX12_way_33 rfl rfl ?_
      refine Ru_iconst (pc := 34) (nI 3) dX12_way_34 rfl ?_
      refine Ru_cv1 (pc := 35) dX12_way_35 mv_X12_351 rfl (by decide) (Nat.le_of_ble_eq_true rfl) (c_X12_refuse ?_) 
      refine Ru_iret (pc := 38) dX12_way_38 rfl ⟨Nat.le_refl _, Nat.le_refl _⟩ ?_
      have e : g_way tr (nI t') m a = (-1, 3) := by
        unfold g_way
        rw [et2]
        rw [if_neg (by omega), if_pos (by omega)]
      rw [e] at k
      exact k _ (r_fx.sI rfl (r_fx.sI rfl (r_fx.sI rfl r_fx.rf))) r_sI_s
  · replace h1 := of_decide_eq_false h1
    refine Ru_aload_n (pc := 18) dX12_way_18 rfl rfl ?_
    refine Ru_iconst (pc := 19) (nI 1) dX12_way_19 rfl ?_
    refine Ru_cv1 (pc := 20) dX12_way_20 mv_X12_351 rfl (by decide) (Nat.le_of_ble_eq_true rfl) (c_X12_refuse ?_) 
    refine Ru_iret (pc := 23) dX12_way_23 rfl ⟨Nat.le_refl _, Nat.le_refl _⟩ ?_
    have e : g_way tr t m a = (-1, 1) := by
      unfold g_way
      rw [if_pos (by omega)]
    rw [e] at k
    exact k _ (r_fx.sI rfl (r_fx.sI rfl (r_fx.sI rfl r_fx.rf))) r_sI_s
