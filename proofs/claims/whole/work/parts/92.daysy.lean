-- DAYS: the reference

theorem l_X12_days1 {Q : Rq} {M0 : Mem} {s' n' y' : Nat} (k : ∀ M, (∀ k, k < 256 → M.1 18 k = M0.1 9 k) → r_fx [] [18] M0 M → Ru 6 mt_X12_days r_z 105 [(1, some (.int (nI s'))), (2, some (.int (nI n'))), (3, some (.int (nI y'))), (0, some (.ref 0))] [] GY M Q) : ∀ (zw : Nat) (n : Nat) (M : Mem), 256 - n = zw → (n ≤ 256) → (∀ k, k < n → M.1 18 k = M0.1 9 k) → (r_fx [] [18] M0 M) → Ru 6 mt_X12_days r_z 77 [(4, some (.int (nI n))), (1, some (.int (nI s'))), (2, some (.int (nI n'))), (3, some (.int (nI y'))), (0, some (.ref 0))] [] GY M Q := by
  intro zw
  induction zw using Nat.strongRecOn with
  | ind zw ih =>
    intro n M hw hn h18 fx
    subst hw
    refine Ru_iload (pc := 77) dX12_days_77 rfl ?_
    refine Ru_sipush (pc := 79) (nI 256) dX12_days_79 rfl ?_
    refine Ru_icmp_geN (pc := 82) 105 dX12_days_82 (by decide) (by omega) (fun h1 => ?_) (fun h1 => ?_)
    · have e8 : n = 256 := by omega
      subst e8
      exact Ru_weak (k _ h18 fx) rfl
    · refine Ru_aload_n (pc := 85) dX12_days_85 rfl rfl ?_
      refine Ru_getR (pc := 86) 18 dX12_days_86 fl_X12_75 rfl rfl rfl ?_
      refine Ru_iload (pc := 89) dX12_days_89 rfl ?_
      refine Ru_aload_n (pc := 91) dX12_days_91 rfl rfl ?_
      refine Ru_getR (pc := 92) 9 dX12_days_92 fl_X12_48 rfl rfl rfl ?_
      refine Ru_iload (pc := 95) dX12_days_95 rfl ?_
      refine Ru_iald (pc := 97) dX12_days_97 rfl (by omega) ?_
      refine Ru_top ((fx 9 n rfl).1) ?_
      refine Ru_iast (pc := 98) rfl dX12_days_98 rfl (by omega) ?_
      refine Ru_iincN (pc := 99) 1 dX12_days_99 rfl rfl rfl (by decide) ?_
      refine Ru_goto (pc := 102) 77 dX12_days_102 (by decide) ?_
      exact Ru_weak (ih (256 - (n + 1)) (by omega) (n + 1) _ rfl (by omega) (r_ext (f := fun k => M0.1 9 k) h18 rfl) (r_fx.sI rfl fx)) rfl

theorem l_X12_days2 {Q : Rq} {M0 : Mem} {d : Td} {f : Nat → Nat} {s' n' y' C : Nat} (hc0 : ∀ k, k < 521 → M0.1 5 k = nI (d k)) (wf : Wf d) (hy : y' < 2000) (hwl : Wl d) (hal0 : M0.1 0 29 = nI 0) (hf0 : ∀ x, x < 2 ^ d 0 → M0.1 9 x = nI (f x)) (hfC : ∀ x, f x ≤ C) (hC : C ≤ 100000000) (k : ∀ M, (∀ s, s < 2 ^ d 0 → M.1 10 s = nI (nBest d 0 f s (y' % 7))) → r_fx [] [7, 10] M0 M → Ru 6 mt_X12_days r_z 141 [(1, some (.int (nI s'))), (2, some (.int (nI n'))), (3, some (.int (nI y'))), (0, some (.ref 0))] [] GY M Q) : ∀ (zw : Nat) (n : Nat) (M : Mem), 2 ^ d 0 - n = zw → (n ≤ 2 ^ d 0) → (∀ s, s < n → M.1 10 s = nI (nBest d 0 f s (y' % 7))) → (r_fx [] [7, 10] M0 M) → Ru 6 mt_X12_days r_z 108 [(4, some (.int (nI n))), (1, some (.int (nI s'))), (2, some (.int (nI n'))), (3, some (.int (nI y'))), (0, some (.ref 0))] [] GY M Q := by
  intro zw
  induction zw using Nat.strongRecOn with
  | ind zw ih =>
    intro n M hw hn h10 fx
    subst hw
    have hb := wf.1
    have hp := pw_le hb.1
    have hc : ∀ k, k < 521 → M.1 5 k = nI (d k) := fun k hk => (fx 5 k rfl).1.trans (hc0 k hk)
    refine Ru_iload (pc := 108) dX12_days_108 rfl ?_
    refine Ru_iconst (pc := 110) (nI 1) dX12_days_110 rfl ?_
    refine Ru_aload_n (pc := 111) dX12_days_111 rfl rfl ?_
    refine Ru_getR (pc := 112) 5 dX12_days_112 fl_X12_35 rfl rfl rfl ?_
    refine Ru_iconst (pc := 115) (nI 0) dX12_days_115 rfl ?_
    refine Ru_iald (pc := 116) dX12_days_116 rfl (by omega) ?_
    refine Ru_top (hc 0 (by omega)) ?_
    refine Ru_ishl1N (pc := 117) dX12_days_117 (by omega) ?_
    refine Ru_icmp_geN (pc := 118) 141 dX12_days_118 (by decide) (by omega) (fun h1 => ?_) (fun h1 => ?_)
    · have en : n = 2 ^ d 0 := by omega
      subst en
      exact Ru_weak (k _ h10 fx) rfl
    · refine Ru_aload_n (pc := 121) dX12_days_121 rfl rfl ?_
      refine Ru_getR (pc := 122) 10 dX12_days_122 fl_X12_51 rfl rfl rfl ?_
      refine Ru_iload (pc := 125) dX12_days_125 rfl ?_
      refine Ru_aload_n (pc := 127) dX12_days_127 rfl rfl ?_
      refine Ru_iload (pc := 128) dX12_days_128 rfl ?_
      refine Ru_iload_n (pc := 130) dX12_days_130 rfl rfl ?_
      refine Ru_cv2 (pc := 131) dX12_days_131 mv_X12_457 rfl (by decide) (Nat.le_of_ble_eq_true rfl) (c_X12_bestNight (A := 0) (f := f) (s := n) hc wf (by omega) (by omega) (by decide) hwl ((fx 0 29 rfl).1.trans hal0) (fun x hx => (fx 9 x rfl).1.trans (hf0 x hx)) hfC hC (fun M2 gx2 => ?_)) 
      have fx2 : r_fx [] [7, 10] M0 M2 := fx.tr (gx2.mono rfl)
      refine Ru_iast (pc := 134) rfl dX12_days_134 rfl (by omega) ?_
      refine Ru_iincN (pc := 135) 1 dX12_days_135 rfl rfl rfl (by decide) ?_
      refine Ru_goto (pc := 138) 108 dX12_days_138 (by decide) ?_
      exact Ru_weak (ih (2 ^ d 0 - (n + 1)) (by omega) (n + 1) _ rfl (by omega) (r_ext (f := fun s => nI (nBest d 0 f s (y' % 7))) (fun s hs => (gx2 10 s rfl).1.trans (h10 s hs)) rfl) (r_fx.sI rfl fx2)) rfl

theorem c_X12_days {Q : Rq} {M : Mem} {d : Td} {s n y : Int32} {x : Sp × Tl} (hy : Y_tm 0 d M) (wf : Wf d) (hwl : Wl d) (hx : Y_sp x.1 M ∧ Y_nt x.2 M) (k : ∀ M', r_fx [(0, 0), (0, 1), (0, 29), (0, 37), (0, 42), (0, 45), (0, 46), (0, 47)] [7, 8, 9, 10, 11, 12, 13, 18] M M' → M'.1 0 0 = nI (g_days d s n y).2 → (Y_sp (f_days d s n y x).1 M' ∧ Y_nt (f_days d s n y x).2 M') → Q (some (.int (g_days d s n y).1)) GY M') : Ca 6 mt_X12_days 0 0 [.ref 0, .int s, .int n, .int y] GY M Q := by
  refine Ca_of rfl (Nat.le_of_ble_eq_true rfl) ?_
  have hb := wf.1
  have hp := pw_le hb.1
  have hc : ∀ k, k < 521 → M.1 5 k = nI (d k) := Y_tm_z hy
  refine Ru_aload_n (pc := 0) dX12_days_0 rfl rfl ?_
  refine Ru_iconst (pc := 1) (nI 0) dX12_days_1 rfl ?_
  refine Ru_putI (pc := 2) rfl dX12_days_2 fl_X12_87 rfl ?_
  refine Ru_aload_n (pc := 5) dX12_days_5 rfl rfl ?_
  refine Ru_iconst (pc := 6) (nI 0) dX12_days_6 rfl ?_
  refine Ru_putI (pc := 7) rfl dX12_days_7 fl_X12_90 rfl ?_
  refine Ru_aload_n (pc := 10) dX12_days_10 rfl rfl ?_
  refine Ru_iload_n (pc := 11) dX12_days_11 rfl rfl ?_
  refine Ru_cv1 (pc := 12) dX12_days_12 mv_X12_386 rfl (by decide) (Nat.le_of_ble_eq_true rfl) (c_X12_isSet (fun k hk => ((r_sI_n (by omega)).trans ((r_sI_n (by omega)).trans (hc k hk)))) wf ?_) 
  refine Ru_if_neB (pc := 15) 24 dX12_days_15 (by decide) (fun h1 => ?_) (fun h1 => ?_)
  · replace h1 := of_decide_eq_true h1
    refine Ru_iload_n (pc := 24) dX12_days_24 rfl rfl ?_
    refine Ru_i2l (pc := 25) _ dX12_days_25 rfl ?_
    refine Ru_lconst (pc := 26) 1 dX12_days_26 rfl ?_
    refine Ru_ldc2 (pc := 27) dX12_days_27 tw_1992 ?_
    refine Ru_cs3 (pc := 30) dX12_days_30 ms_X12_122 (by decide) (Nat.le_of_ble_eq_true rfl) (c_X12_isIn (1) (9) rfl rfl ?_) 
    refine Ru_if_eqB (pc := 33) 48 dX12_days_33 (by decide) (fun h2 => ?_) (fun h2 => ?_)
    · replace h2 := of_decide_eq_false h2
      refine Ru_aload_n (pc := 48) dX12_days_48 rfl rfl ?_
      refine Ru_iconst (pc := 49) (nI 5) dX12_days_49 rfl ?_
      refine Ru_cv1 (pc := 50) dX12_days_50 mv_X12_351 rfl (by decide) (Nat.le_of_ble_eq_true rfl) (c_X12_refuse ?_) 
      refine Ru_iret (pc := 53) dX12_days_53 rfl ⟨Nat.le_refl _, Nat.le_refl _⟩ ?_
      have e : g_days d s n y = (-1, 5) := by
        unfold g_days
        rw [if_neg (by omega), if_pos (by omega)]
      have e2 : f_days d s n y x = x := by
        unfold f_days
        rw [if_neg (by omega), if_pos (by omega)]
      rw [e, e2] at k
      exact k _ (r_fx.sI rfl (r_fx.sI rfl (r_fx.sI rfl r_fx.rf))) r_sI_s ⟨(Y_sp_dp _).kp (F := [(0, 0), (0, 1)]) (A := []) (r_fx.sI rfl (r_fx.sI rfl (r_fx.sI rfl r_fx.rf))) rfl hx.1, (Y_nt_dp _).kp (F := [(0, 0), (0, 1)]) (A := []) (r_fx.sI rfl (r_fx.sI rfl (r_fx.sI rfl r_fx.rf))) rfl hx.2⟩
    · replace h2 := of_decide_eq_true h2
      refine Ru_iload_n (pc := 36) dX12_days_36 rfl rfl ?_
      refine Ru_i2l (pc := 37) _ dX12_days_37 rfl ?_
      refine Ru_lconst (pc := 38) 0 dX12_days_38 rfl ?_
      refine Ru_ldc2 (pc := 39) dX12_days_39 tw_1894 ?_
      refine Ru_cs3 (pc := 42) dX12_days_42 ms_X12_122 (by decide) (Nat.le_of_ble_eq_true rfl) (c_X12_isIn (0) (999) rfl rfl ?_) 
      refine Ru_if_neB (pc := 45) 54 dX12_days_45 (by decide) (fun h3 => ?_) (fun h3 => ?_)
      · replace h3 := of_decide_eq_true h3
        obtain ⟨s', hs', rfl⟩ := r_nat (x := s) (n := 256) (by omega) (by omega)
        have es := r_tn (show s' < 2147483648 by omega)
        obtain ⟨n', hn', rfl⟩ := r_nat (x := n) (n := 10) (by omega) (by omega)
        have en := r_tn (show n' < 2147483648 by omega)
        obtain ⟨y', hy', rfl⟩ := r_nat (x := y) (n := 1000) (by omega) (by omega)
        have ey := r_tn (show y' < 2147483648 by omega)
        refine Ru_aload_n (pc := 54) dX12_days_54 rfl rfl ?_
        refine Ru_iconst (pc := 55) (nI 0) dX12_days_55 rfl ?_
        refine Ru_putI (pc := 56) rfl dX12_days_56 fl_X12_375 rfl ?_
        refine Ru_iload_n (pc := 59) dX12_days_59 rfl rfl ?_
        refine Ru_iconst (pc := 60) (nI 1) dX12_days_60 rfl ?_
        refine Ru_icmp_leN (pc := 61) 148 dX12_days_61 (by decide) (by omega) (fun h4 => ?_) (fun h4 => ?_)
        · refine Ru_aload_n (pc := 148) dX12_days_148 rfl rfl ?_
          refine Ru_iconst (pc := 149) (nI 1) dX12_days_149 rfl ?_
          refine Ru_iload_n (pc := 150) dX12_days_150 rfl rfl ?_
          refine Ru_cv2 (pc := 151) dX12_days_151 mv_X12_462 rfl (by decide) (Nat.le_of_ble_eq_true rfl) (c_X12_tellDays (A := 0) (n := 1) (y := y') (fun k hk => ((r_sI_n (by omega)).trans ((r_sI_n (by omega)).trans ((r_sI_n (by omega)).trans (hc k hk))))) wf (by omega) (by omega) (by decide) hwl r_sI_s (fun M2 hv2 hd2 hb2 gx2 => ?_)) 
          have fx2 : r_fx [(0, 0), (0, 1), (0, 29), (0, 37), (0, 42), (0, 45), (0, 46), (0, 47)] [7, 8, 9, 10, 11, 12, 13, 18] M M2 := r_fx.tr ((r_fx.sI rfl (r_fx.sI rfl (r_fx.sI rfl r_fx.rf)))) (gx2.mono rfl)
          have hc2 : ∀ k, k < 521 → M2.1 5 k = nI (d k) := fun k hk => (fx2 5 k rfl).1.trans (hc k hk)
          have hst2 : M2.1 0 0 = nI 0 := (gx2 0 0 rfl).1.trans (by simp [r_sI_g])
          have hal2 : M2.1 0 29 = nI 0 := (gx2 0 29 rfl).1.trans r_sI_s
          have hvb : ∀ t s, yVt d n' y' t s ≤ 100000000 := fun t s => by
            have hBB : ∀ s, BD d 0 (y' + n' - 2) (n' - 1) s ≤ 199800 * 9 := fun s => by
              have := BD_b wf 0 (y' + n' - 2) (n' - 1) s
              omega
            have := dV_b3 wf hBB (show 25 ≤ 25 by omega) t s
            have e : yVt d n' y' t s = dV d (BD d 0 (y' + n' - 2) (n' - 1)) 25 t s := rfl
            omega
          have hvA : ∀ t s, t ≤ 24 → s < 2 ^ d 0 → M2.1 8 (256 * t + s) = nI (yVt d n' y' t s) := (fun t s h1 h2 => by have := hv2 t s h1 h2; have e1 : n' = 1 := (by omega); subst e1; exact this)
          have hmark : M2.1 0 0 = nI 0 := hst2
          refine Ru_aload_n (pc := 154) dX12_days_154 rfl rfl ?_
          refine Ru_iload_n (pc := 155) dX12_days_155 rfl rfl ?_
          refine Ru_iconst (pc := 156) (nI 0) dX12_days_156 rfl ?_
          refine Ru_cv2 (pc := 157) dX12_days_157 mv_X12_454 rfl (by decide) (Nat.le_of_ble_eq_true rfl) (c_X12_walkDay (V := yVt d n' y') (p0 := (0, s')) hc2 wf (by omega) (show s' < 2 ^ d 0 by omega) hvA hvb (fun M6 gx6 hsp6 => ?_)) 
          have fx6 : r_fx [(0, 0), (0, 1), (0, 29), (0, 37), (0, 42), (0, 45), (0, 46), (0, 47)] [7, 8, 9, 10, 11, 12, 13, 18] M M6 := fx2.tr (gx6.mono rfl)
          have hc6 : ∀ k, k < 521 → M6.1 5 k = nI (d k) := fun k hk => (fx6 5 k rfl).1.trans (hc k hk)
          have hst6 : M6.1 0 0 = nI 0 := (gx6 0 0 rfl).1.trans hmark
          have hke := kEnd_lt wf (V := yVt d n' y') (p := (0, s')) (show s' < 2 ^ d 0 by omega)
          have hv6 : ∀ s, s < 2 ^ d 0 → M6.1 8 s = nI (bV d 0 n' (y' + n' - 2) s) := fun s hs => by
            have := hvA 0 s (by omega) hs
            rw [Nat.mul_zero, Nat.zero_add] at this
            exact (gx6 8 s rfl).1.trans this
          refine Ru_istore (pc := 160) dX12_days_160 rfl (by decide) ?_
          refine Ru_aload_n (pc := 162) dX12_days_162 rfl rfl ?_
          refine Ru_iload_n (pc := 163) dX12_days_163 rfl rfl ?_
          refine Ru_iconst (pc := 164) (nI 1) dX12_days_164 rfl ?_
          refine Ru_icmp_leN (pc := 165) 172 dX12_days_165 (by decide) (by omega) (fun h1 => ?_) (fun h1 => ?_)
          · refine Ru_iconst (pc := 172) (nI 0) dX12_days_172 rfl ?_
            refine Ru_putZ (pc := 173) rfl dX12_days_173 fl_X12_465 rfl (Or.inl rfl) ?_
            refine Ru_iload_n (pc := 176) dX12_days_176 rfl rfl ?_
            refine Ru_iconst (pc := 177) (nI 1) dX12_days_177 rfl ?_
            refine Ru_icmp_leN (pc := 178) 188 dX12_days_178 (by decide) (by omega) (fun h2 => ?_) (fun h2 => ?_)
            · refine Ru_aload_n (pc := 188) dX12_days_188 rfl rfl ?_
              refine Ru_getR (pc := 189) 8 dX12_days_189 fl_X12_45 rfl rfl rfl ?_
              refine Ru_iload_n (pc := 192) dX12_days_192 rfl rfl ?_
              refine Ru_iald (pc := 193) dX12_days_193 rfl (by omega) ?_
              refine Ru_top ((r_sI_n (by omega)).trans (hv6 s' (by omega))) ?_
              refine Ru_iret (pc := 194) dX12_days_194 rfl ⟨Nat.le_refl _, Nat.le_refl _⟩ ?_
              have e : g_days d (nI s') (nI n') (nI y') = (nI (bV d 0 n' (y' + n' - 2) s'), 0) := by
                unfold g_days
                rw [if_neg (by omega), if_neg (by omega), r_tnn (show n' < 2147483648 by omega), r_tnn (show y' < 2147483648 by omega), r_tnn (show s' < 2147483648 by omega)]
              have e2 : f_days d (nI s') (nI n') (nI y') x = (kSp d (yVt d n' y') (0, s'), yNt d s' n' y' x.2) := by
                unfold f_days
                rw [if_neg (by omega), if_neg (by omega), r_tnn (show n' < 2147483648 by omega), r_tnn (show y' < 2147483648 by omega), r_tnn (show s' < 2147483648 by omega)]
              rw [e, e2] at k
              refine k _ (r_fx.sI rfl fx6) ((r_sI_n (by decide)).trans hst6) ⟨(Y_sp_dp _).kp (F := [(0, 42)]) (A := []) (r_fx.sI rfl r_fx.rf) rfl hsp6, ?_⟩
              have e3 : yNt d s' n' y' x.2 = (false, x.2.2) := by
                unfold yNt
                rw [if_neg (by omega)]
              rw [e3]
              exact ⟨r_sI_s.trans rfl, fun z => by cases z⟩
            · exfalso
              omega
          · exfalso
            omega
        · refine Ru_aload_n (pc := 64) dX12_days_64 rfl rfl ?_
          refine Ru_iload_n (pc := 65) dX12_days_65 rfl rfl ?_
          refine Ru_iconst (pc := 66) (nI 1) dX12_days_66 rfl ?_
          refine Ru_isubN (pc := 67) dX12_days_67 (by omega) ?_
          refine Ru_iload_n (pc := 68) dX12_days_68 rfl rfl ?_
          refine Ru_iconst (pc := 69) (nI 1) dX12_days_69 rfl ?_
          refine Ru_iaddN (pc := 70) dX12_days_70 ?_
          refine Ru_cv2 (pc := 71) dX12_days_71 mv_X12_462 rfl (by decide) (Nat.le_of_ble_eq_true rfl) (c_X12_tellDays (A := 0) (n := (n' - 1)) (y := (y' + 1)) (fun k hk => ((r_sI_n (by omega)).trans ((r_sI_n (by omega)).trans ((r_sI_n (by omega)).trans (hc k hk))))) wf (by omega) (by omega) (by decide) hwl r_sI_s (fun M2 hv2 hd2 hb2 gx2 => ?_)) 
          have fx2 : r_fx [(0, 0), (0, 1), (0, 29), (0, 37), (0, 42), (0, 45), (0, 46), (0, 47)] [7, 8, 9, 10, 11, 12, 13, 18] M M2 := r_fx.tr ((r_fx.sI rfl (r_fx.sI rfl (r_fx.sI rfl r_fx.rf)))) (gx2.mono rfl)
          have hc2 : ∀ k, k < 521 → M2.1 5 k = nI (d k) := fun k hk => (fx2 5 k rfl).1.trans (hc k hk)
          have hst2 : M2.1 0 0 = nI 0 := (gx2 0 0 rfl).1.trans (by simp [r_sI_g])
          have hal2 : M2.1 0 29 = nI 0 := (gx2 0 29 rfl).1.trans r_sI_s
          refine Ru_iconst (pc := 74) (nI 0) dX12_days_74 rfl ?_
          refine Ru_istore (pc := 75) dX12_days_75 rfl (by decide) ?_
          have hdz : ∀ s, s < 2 ^ d 0 → M2.1 9 s = nI (yNx d n' y' s) := fun s hs => by
            have := hd2 s hs
            unfold bV at this
            rw [show y' + 1 + (n' - 1) - 2 = y' + n' - 2 by omega, show n' - 1 - 1 = n' - 2 by omega] at this
            exact this
          refine Ru_weak (l_X12_days1 (M0 := M2) (s' := s') (n' := n') (y' := y') (fun M3 g18 gx3 => ?_) 256 0 M2 rfl (by omega) (fun k hk => by omega) r_fx.rf) rfl
          have fx3 : r_fx [(0, 0), (0, 1), (0, 29), (0, 37), (0, 42), (0, 45), (0, 46), (0, 47)] [7, 8, 9, 10, 11, 12, 13, 18] M M3 := fx2.tr (gx3.mono rfl)
          have hc3 : ∀ k, k < 521 → M3.1 5 k = nI (d k) := fun k hk => (fx3 5 k rfl).1.trans (hc k hk)
          have hal3 : M3.1 0 29 = nI 0 := (gx3 0 29 rfl).1.trans hal2
          have hnb : ∀ x, yNx d n' y' x ≤ 199800 * 9 + 199800 := fun x => dA_b wf (fun s => by have := BD_b wf 0 (y' + n' - 2) (n' - 2) s; omega) 0 x (by omega)
          refine Ru_iconst (pc := 105) (nI 0) dX12_days_105 rfl ?_
          refine Ru_istore (pc := 106) dX12_days_106 rfl (by decide) ?_
          refine Ru_weak (l_X12_days2 (M0 := M3) (f := yNx d n' y') (C := 199800 * 9 + 199800) hc3 wf (by omega) hwl hal3 (fun x hx => (gx3 9 x rfl).1.trans (hdz x hx)) hnb (by omega) (fun M4 g10 gx4 => ?_) (2 ^ d 0) 0 M3 rfl (Nat.zero_le _) (fun s hs => by omega) r_fx.rf) rfl
          have fx4 : r_fx [(0, 0), (0, 1), (0, 29), (0, 37), (0, 42), (0, 45), (0, 46), (0, 47)] [7, 8, 9, 10, 11, 12, 13, 18] M M4 := fx3.tr (gx4.mono rfl)
          have hc4 : ∀ k, k < 521 → M4.1 5 k = nI (d k) := fun k hk => (fx4 5 k rfl).1.trans (hc k hk)
          have hal4 : M4.1 0 29 = nI 0 := (gx4 0 29 rfl).1.trans hal3
          have hst4 : M4.1 0 0 = nI 0 := (gx4 0 0 rfl).1.trans ((gx3 0 0 rfl).1.trans hst2)
          have h184 : ∀ x, x < 2 ^ d 0 → M4.1 18 x = nI (yNx d n' y' x) := fun x hx => (gx4 18 x rfl).1.trans ((g18 x (by omega)).trans (hdz x hx))
          have hBB : ∀ s, BD d 0 (y' + n' - 2) (n' - 1) s ≤ 199800 * 9 := fun s => by
            have := BD_b wf 0 (y' + n' - 2) (n' - 1) s
            omega
          refine Ru_aload_n (pc := 141) dX12_days_141 rfl rfl ?_
          refine Ru_cv0 (pc := 142) dX12_days_142 mv_X12_451 rfl (by decide) (Nat.le_of_ble_eq_true rfl) (c_X12_tellDay (B := BD d 0 (y' + n' - 2) (n' - 1)) (C := 199800 * 9) hc4 wf (fun s hs => by rw [g10 s hs, BD_last (by omega)]) hBB (by omega) (fun M5 hv5 gx5 => ?_)) 
          have fx5 : r_fx [(0, 0), (0, 1), (0, 29), (0, 37), (0, 42), (0, 45), (0, 46), (0, 47)] [7, 8, 9, 10, 11, 12, 13, 18] M M5 := fx4.tr (gx5.mono rfl)
          have hc5 : ∀ k, k < 521 → M5.1 5 k = nI (d k) := fun k hk => (fx5 5 k rfl).1.trans (hc k hk)
          have hst5 : M5.1 0 0 = nI 0 := (gx5 0 0 rfl).1.trans hst4
          have hal5 : M5.1 0 29 = nI 0 := (gx5 0 29 rfl).1.trans hal4
          have h185 : ∀ x, x < 2 ^ d 0 → M5.1 18 x = nI (yNx d n' y' x) := fun x hx => (gx5 18 x rfl).1.trans (h184 x hx)
          have h105 : ∀ x, x < 2 ^ d 0 → M5.1 10 x = nI (nBest d 0 (yNx d n' y') x (y' % 7)) := fun x hx => (gx5 10 x rfl).1.trans (g10 x hx)
          refine Ru_goto (pc := 145) 154 dX12_days_145 (by decide) ?_
          have hvb : ∀ t s, yVt d n' y' t s ≤ 100000000 := fun t s => by
            have hBB : ∀ s, BD d 0 (y' + n' - 2) (n' - 1) s ≤ 199800 * 9 := fun s => by
              have := BD_b wf 0 (y' + n' - 2) (n' - 1) s
              omega
            have := dV_b3 wf hBB (show 25 ≤ 25 by omega) t s
            have e : yVt d n' y' t s = dV d (BD d 0 (y' + n' - 2) (n' - 1)) 25 t s := rfl
            omega
          have hvA : ∀ t s, t ≤ 24 → s < 2 ^ d 0 → M5.1 8 (256 * t + s) = nI (yVt d n' y' t s) := hv5
          have hmark : M5.1 0 0 = nI 0 := hst5
          refine Ru_aload_n (pc := 154) dX12_days_154 rfl rfl ?_
          refine Ru_iload_n (pc := 155) dX12_days_155 rfl rfl ?_
          refine Ru_iconst (pc := 156) (nI 0) dX12_days_156 rfl ?_
          refine Ru_cv2 (pc := 157) dX12_days_157 mv_X12_454 rfl (by decide) (Nat.le_of_ble_eq_true rfl) (c_X12_walkDay (V := yVt d n' y') (p0 := (0, s')) hc5 wf (by omega) (show s' < 2 ^ d 0 by omega) hvA hvb (fun M6 gx6 hsp6 => ?_)) 
          have fx6 : r_fx [(0, 0), (0, 1), (0, 29), (0, 37), (0, 42), (0, 45), (0, 46), (0, 47)] [7, 8, 9, 10, 11, 12, 13, 18] M M6 := fx5.tr (gx6.mono rfl)
          have hc6 : ∀ k, k < 521 → M6.1 5 k = nI (d k) := fun k hk => (fx6 5 k rfl).1.trans (hc k hk)
          have hst6 : M6.1 0 0 = nI 0 := (gx6 0 0 rfl).1.trans hmark
          have hke := kEnd_lt wf (V := yVt d n' y') (p := (0, s')) (show s' < 2 ^ d 0 by omega)
          have hv6 : ∀ s, s < 2 ^ d 0 → M6.1 8 s = nI (bV d 0 n' (y' + n' - 2) s) := fun s hs => by
            have := hvA 0 s (by omega) hs
            rw [Nat.mul_zero, Nat.zero_add] at this
            exact (gx6 8 s rfl).1.trans this
          refine Ru_istore (pc := 160) dX12_days_160 rfl (by decide) ?_
          refine Ru_aload_n (pc := 162) dX12_days_162 rfl rfl ?_
          refine Ru_iload_n (pc := 163) dX12_days_163 rfl rfl ?_
          refine Ru_iconst (pc := 164) (nI 1) dX12_days_164 rfl ?_
          refine Ru_icmp_leN (pc := 165) 172 dX12_days_165 (by decide) (by omega) (fun h1 => ?_) (fun h1 => ?_)
          · exfalso
            omega
          · refine Ru_iconst (pc := 168) (nI 1) dX12_days_168 rfl ?_
            refine Ru_goto (pc := 169) 173 dX12_days_169 (by decide) ?_
            refine Ru_putZ (pc := 173) rfl dX12_days_173 fl_X12_465 rfl (Or.inr rfl) ?_
            refine Ru_iload_n (pc := 176) dX12_days_176 rfl rfl ?_
            refine Ru_iconst (pc := 177) (nI 1) dX12_days_177 rfl ?_
            refine Ru_icmp_leN (pc := 178) 188 dX12_days_178 (by decide) (by omega) (fun h2 => ?_) (fun h2 => ?_)
            · exfalso
              omega
            · refine Ru_aload_n (pc := 181) dX12_days_181 rfl rfl ?_
              refine Ru_iload (pc := 182) dX12_days_182 rfl ?_
              refine Ru_iload_n (pc := 184) dX12_days_184 rfl rfl ?_
              refine Ru_cv2 (pc := 185) dX12_days_185 mv_X12_469 rfl (by decide) (Nat.le_of_ble_eq_true rfl) (c_X12_findNight (f := yNx d n' y') (s := kEnd d (yVt d n' y') (0, s')) (due := nBest d 0 (yNx d n' y') (kEnd d (yVt d n' y') (0, s')) (y' % 7)) (fun k hk => (r_sI_n (by omega)).trans (hc6 k hk)) wf hke (by omega) hwl ((r_sI_n (by decide)).trans ((gx6 0 29 rfl).1.trans hal5)) (fun x hx => (r_sI_n (by omega)).trans ((gx6 18 x rfl).1.trans (h185 x hx))) (fun x => by have := hnb x; omega) (by have := nB_b (d := d) (A := 0) (s := kEnd d (yVt d n' y') (0, s')) (r := y' % 7) hnb; omega) (f1_some _ _ _ _ _) ((r_sI_n (by omega)).trans ((gx6 10 _ rfl).1.trans (h105 _ hke))) (fun M7 w h v ha hcode gx7 g13 => ?_)) 
              have fx7 : r_fx [(0, 0), (0, 1), (0, 29), (0, 37), (0, 42), (0, 45), (0, 46), (0, 47)] [7, 8, 9, 10, 11, 12, 13, 18] M M7 := r_fx.tr (r_fx.sI rfl fx6) (gx7.mono rfl)
              refine Ru_aload_n (pc := 188) dX12_days_188 rfl rfl ?_
              refine Ru_getR (pc := 189) 8 dX12_days_189 fl_X12_45 rfl rfl rfl ?_
              refine Ru_iload_n (pc := 192) dX12_days_192 rfl rfl ?_
              refine Ru_iald (pc := 193) dX12_days_193 rfl (by omega) ?_
              refine Ru_top ((gx7 8 s' rfl).1.trans ((r_sI_n (by omega)).trans (hv6 s' (by omega)))) ?_
              refine Ru_iret (pc := 194) dX12_days_194 rfl ⟨Nat.le_refl _, Nat.le_refl _⟩ ?_
              have e : g_days d (nI s') (nI n') (nI y') = (nI (bV d 0 n' (y' + n' - 2) s'), 0) := by
                unfold g_days
                rw [if_neg (by omega), if_neg (by omega), r_tnn (show n' < 2147483648 by omega), r_tnn (show y' < 2147483648 by omega), r_tnn (show s' < 2147483648 by omega)]
              have e2 : f_days d (nI s') (nI n') (nI y') x = (kSp d (yVt d n' y') (0, s'), yNt d s' n' y' x.2) := by
                unfold f_days
                rw [if_neg (by omega), if_neg (by omega), r_tnn (show n' < 2147483648 by omega), r_tnn (show y' < 2147483648 by omega), r_tnn (show s' < 2147483648 by omega)]
              rw [e, e2] at k
              refine k _ fx7 ((gx7 0 0 rfl).1.trans ((r_sI_n (by decide)).trans hst6)) ⟨(Y_sp_dp _).kp (r_fx.tr (F := [(0, 42)]) (A := [7, 13]) (r_fx.sI rfl r_fx.rf) (gx7.mono rfl)) rfl hsp6, ?_⟩
              have e3 : yNt d s' n' y' x.2 = (true, nCho d 0 (kEnd d (yVt d n' y') (0, s')) (y' % 7) (yCode d s' n' y')) := by
                unfold yNt
                rw [if_pos (by omega)]
              rw [e3]
              have e4 : yCode d s' n' y' = w * 81 + h * 9 + v + 1 := hcode
              rw [e4, nCho_at (by have := ha.1; have := wf.1; omega)]
              refine ⟨((gx7 0 42 rfl).1.trans r_sI_s).trans rfl, fun _ j hj => ?_⟩
              obtain ⟨z0, z1, z2, z3⟩ := g13
              have ej : j = 0 ∨ j = 1 ∨ j = 2 ∨ j = 3 := by omega
              rcases ej with rfl | rfl | rfl | rfl
              · exact z0
              · exact z1
              · exact z2
              · exact z3
      · replace h3 := of_decide_eq_false h3
        refine Ru_aload_n (pc := 48) dX12_days_48 rfl rfl ?_
        refine Ru_iconst (pc := 49) (nI 5) dX12_days_49 rfl ?_
        refine Ru_cv1 (pc := 50) dX12_days_50 mv_X12_351 rfl (by decide) (Nat.le_of_ble_eq_true rfl) (c_X12_refuse ?_) 
        refine Ru_iret (pc := 53) dX12_days_53 rfl ⟨Nat.le_refl _, Nat.le_refl _⟩ ?_
        have e : g_days d s n y = (-1, 5) := by
          unfold g_days
          rw [if_neg (by omega), if_pos (by omega)]
        have e2 : f_days d s n y x = x := by
          unfold f_days
          rw [if_neg (by omega), if_pos (by omega)]
        rw [e, e2] at k
        exact k _ (r_fx.sI rfl (r_fx.sI rfl (r_fx.sI rfl r_fx.rf))) r_sI_s ⟨(Y_sp_dp _).kp (F := [(0, 0), (0, 1)]) (A := []) (r_fx.sI rfl (r_fx.sI rfl (r_fx.sI rfl r_fx.rf))) rfl hx.1, (Y_nt_dp _).kp (F := [(0, 0), (0, 1)]) (A := []) (r_fx.sI rfl (r_fx.sI rfl (r_fx.sI rfl r_fx.rf))) rfl hx.2⟩
  · replace h1 := of_decide_eq_false h1
    refine Ru_aload_n (pc := 18) dX12_days_18 rfl rfl ?_
    refine Ru_iconst (pc := 19) (nI 2) dX12_days_19 rfl ?_
    refine Ru_cv1 (pc := 20) dX12_days_20 mv_X12_351 rfl (by decide) (Nat.le_of_ble_eq_true rfl) (c_X12_refuse ?_) 
    refine Ru_iret (pc := 23) dX12_days_23 rfl ⟨Nat.le_refl _, Nat.le_refl _⟩ ?_
    have e : g_days d s n y = (-1, 2) := by
      unfold g_days
      rw [if_pos (by omega)]
    have e2 : f_days d s n y x = x := by
      unfold f_days
      rw [if_pos (by omega)]
    rw [e, e2] at k
    exact k _ (r_fx.sI rfl (r_fx.sI rfl (r_fx.sI rfl r_fx.rf))) r_sI_s ⟨(Y_sp_dp _).kp (F := [(0, 0), (0, 1)]) (A := []) (r_fx.sI rfl (r_fx.sI rfl (r_fx.sI rfl r_fx.rf))) rfl hx.1, (Y_nt_dp _).kp (F := [(0, 0), (0, 1)]) (A := []) (r_fx.sI rfl (r_fx.sI rfl (r_fx.sI rfl r_fx.rf))) rfl hx.2⟩
