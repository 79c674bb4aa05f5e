theorem wR_one (d : Td) (s t : Nat) : wR d (s, 0, 0) t 1 = wT d t s := (wT_eq d t s).symm

theorem l_X0_walk {Q : Rq} {M0 : Mem} {d : Td} {t : Nat} {V : Vt} {p0 : Nat × Nat} (ht : isTown t) (hx0 : X_tm t d M0) (wf : Wf d) (htw0 : M0.2.2 55 0 = some t) (hp0 : p0.1 ≤ 24) (hp1 : p0.2 < 2 ^ d 0) (hV0 : ∀ t s, t ≤ 24 → s < 2 ^ d 0 → M0.1 56 (t * 256 + s) = nI (V t s)) (hVb : ∀ t' s', V t' s' ≤ 100000000) (k : ∀ M', r_fx [(55, 7), (55, 10), (61, 0), (61, 1), (61, 2)] [62, 63] M0 M' → X_sp (kSp d V p0) M' → M'.1 55 10 = nI (kEnd d V p0) → Q none GX M') : ∀ (zw : Nat) (i : Nat) (p : Nat × Nat) (M : Mem), 24 - (kTr d V p0 i).1 = zw → (p = kTr d V p0 i) → (∀ j, j < i → (kTr d V p0 j).1 < 24) → (∀ j, j < i → M.1 62 j = nM (kBst d V (kTr d V p0 j)) ∧ M.1 63 j = nI (kTr d V p0 j).1) → (M.1 55 7 = nI i) → (r_fx [(55, 7), (55, 10), (61, 0), (61, 1), (61, 2)] [62, 63] M0 M) → Ru 4 mt_X0_walk r_z 13 [(3, some (.int (nI p.2))), (4, some (.int (nI p.1))), (5, some (.int (nI i))), (0, some (.ref 55)), (1, some (.int (nI p0.2))), (2, some (.int (nI p0.1)))] [] GX M Q := by
  intro zw
  induction zw using Nat.strongRecOn with
  | ind zw ih =>
    intro i p M hw hpi hlt hst h7 fx
    subst hw
    have hb := wf.1
    have hp := pw_le hb.1
    have hT : t = 3 ∨ t = 83 ∨ t = 111 ∨ t = 139 ∨ t = 167 := ht
    have em1 : (-1 : Int32).toInt = -1 := rfl
    have hpt : i ≤ p.1 ∧ p.1 ≤ 24 := hpi ▸ kTr_i wf hlt hp0
    have hps : p.2 < 2 ^ d 0 := hpi ▸ kTr_s wf hp1 i
    have hx : X_tm t d M := (X_tm_dp ht d).kp fx rfl hx0
    have htw : M.2.2 55 0 = some t := (fx 55 0 rfl).2.2.trans htw0
    refine Ru_iload (pc := 13) dX0_walk_13 rfl ?_
    refine Ru_bipush (pc := 15) (nI 24) dX0_walk_15 rfl ?_
    refine Ru_icmp_geN (pc := 17) 154 dX0_walk_17 (by decide) (by omega) (fun h1 => ?_) (fun h1 => ?_)
    · refine Ru_aload_n (pc := 154) dX0_walk_154 rfl rfl ?_
      refine Ru_getR (pc := 155) 61 dX0_walk_155 fl_X0_30 rfl rfl (rfX_of (o := 55) (j := 6) rfl rfl) ?_
      refine Ru_iload_n (pc := 158) dX0_walk_158 rfl rfl ?_
      refine Ru_cv1 (pc := 159) dX0_walk_159 mv_X0_134 rfl (by decide) (Nat.le_of_ble_eq_true rfl) (c_X6_begin_61 (s := p.2) (fun M2 gx2 hs02 hs12 hs22 => ?_)) 
      have fx2 : r_fx [(55, 7), (55, 10), (61, 0), (61, 1), (61, 2)] [62, 63] M0 M2 := r_fx.tr fx (gx2.mono rfl)
      have hx2 : X_tm t d M2 := (X_tm_dp ht d).kp fx2 rfl hx0
      have htw2 : M2.2.2 55 0 = some t := (fx2 55 0 rfl).2.2.trans htw0
      refine Ru_aload_n (pc := 162) dX0_walk_162 rfl rfl ?_
      refine Ru_getR (pc := 163) 61 dX0_walk_163 fl_X0_30 rfl rfl (rfX_of (o := 55) (j := 6) rfl rfl) ?_
      refine Ru_aload_n (pc := 166) dX0_walk_166 rfl rfl ?_
      refine Ru_getR (pc := 167) t dX0_walk_167 fl_X0_50 rfl rfl ((rfX_mut rfl rfl).trans htw2) ?_
      refine Ru_bipush (pc := 170) (nI 24) dX0_walk_170 rfl ?_
      refine Ru_bipush (pc := 172) (nI 25) dX0_walk_172 rfl ?_
      refine Ru_cv3 (pc := 174) dX0_walk_174 mv_X0_137 rfl (by decide) (Nat.le_of_ble_eq_true rfl) (c_X6_serve_61 (f := 24) (n := 1) (p.2, 0, 0) ht hx2 wf (by omega) hs02 hs12 hs22 (fun M3 gx3 hs03 hs13 hs23 => ?_)) 
      have fx3 : r_fx [(55, 7), (55, 10), (61, 0), (61, 1), (61, 2)] [62, 63] M0 M3 := r_fx.tr fx2 (gx3.mono rfl)
      have hx3 : X_tm t d M3 := (X_tm_dp ht d).kp fx3 rfl hx0
      have htw3 : M3.2.2 55 0 = some t := (fx3 55 0 rfl).2.2.trans htw0
      rw [wR_one] at hs03
      have hle := wT_le d 24 p.2
      refine Ru_aload_n (pc := 177) dX0_walk_177 rfl rfl ?_
      refine Ru_aload_n (pc := 178) dX0_walk_178 rfl rfl ?_
      refine Ru_getR (pc := 179) 61 dX0_walk_179 fl_X0_30 rfl rfl (rfX_of (o := 55) (j := 6) rfl rfl) ?_
      refine Ru_getI (pc := 182) dX0_walk_182 fl_X0_143 rfl rfl ?_
      refine Ru_top hs03 ?_
      refine Ru_putI (pc := 185) rfl dX0_walk_185 fl_X0_164 rfl ?_
      refine Ru_vret (pc := 188) dX0_walk_188 rfl ⟨Nat.le_refl _, Nat.le_refl _⟩ ?_
      have ni : ¬ (kTr d V p0 i).1 < 24 := by rw [← hpi]; omega
      have eN := kN_of hlt ni (by omega)
      have e9 : kEnd d V p0 = (wT d 24 p.2).1 := by
        unfold kEnd
        rw [eN, ← hpi]
      rw [e9] at k
      refine k _ (r_fx.sI rfl fx3) ⟨?_, ?_, fun j hj => ?_⟩ (by simp [r_sI_g])
      · show _ = nI (kN d V p0)
        rw [eN]
        simp only [r_sI_g]
        rw [if_neg (by omega)]
        exact (gx3 55 7 rfl).1.trans ((gx2 55 7 rfl).1.trans h7)
      · show kN d V p0 ≤ 24
        omega
      · have hj2 : j < i := by
          have : j < kN d V p0 := hj
          omega
        have h9 := hst j hj2
        simp only [r_sI_g]
        rw [if_neg (by omega), if_neg (by omega), (gx3 62 j rfl).1, (gx2 62 j rfl).1, (gx3 63 j rfl).1, (gx2 63 j rfl).1]
        exact h9
    · refine Ru_iload (pc := 20) dX0_walk_20 rfl ?_
      refine Ru_bipush (pc := 22) (nI 24) dX0_walk_22 rfl ?_
      refine Ru_icmp_geN (pc := 24) 154 dX0_walk_24 (by decide) (by omega) (fun h2 => ?_) (fun h2 => ?_)
      · refine Ru_aload_n (pc := 154) dX0_walk_154 rfl rfl ?_
        refine Ru_getR (pc := 155) 61 dX0_walk_155 fl_X0_30 rfl rfl (rfX_of (o := 55) (j := 6) rfl rfl) ?_
        refine Ru_iload_n (pc := 158) dX0_walk_158 rfl rfl ?_
        refine Ru_cv1 (pc := 159) dX0_walk_159 mv_X0_134 rfl (by decide) (Nat.le_of_ble_eq_true rfl) (c_X6_begin_61 (s := p.2) (fun M2 gx2 hs02 hs12 hs22 => ?_)) 
        have fx2 : r_fx [(55, 7), (55, 10), (61, 0), (61, 1), (61, 2)] [62, 63] M0 M2 := r_fx.tr fx (gx2.mono rfl)
        have hx2 : X_tm t d M2 := (X_tm_dp ht d).kp fx2 rfl hx0
        have htw2 : M2.2.2 55 0 = some t := (fx2 55 0 rfl).2.2.trans htw0
        refine Ru_aload_n (pc := 162) dX0_walk_162 rfl rfl ?_
        refine Ru_getR (pc := 163) 61 dX0_walk_163 fl_X0_30 rfl rfl (rfX_of (o := 55) (j := 6) rfl rfl) ?_
        refine Ru_aload_n (pc := 166) dX0_walk_166 rfl rfl ?_
        refine Ru_getR (pc := 167) t dX0_walk_167 fl_X0_50 rfl rfl ((rfX_mut rfl rfl).trans htw2) ?_
        refine Ru_bipush (pc := 170) (nI 24) dX0_walk_170 rfl ?_
        refine Ru_bipush (pc := 172) (nI 25) dX0_walk_172 rfl ?_
        refine Ru_cv3 (pc := 174) dX0_walk_174 mv_X0_137 rfl (by decide) (Nat.le_of_ble_eq_true rfl) (c_X6_serve_61 (f := 24) (n := 1) (p.2, 0, 0) ht hx2 wf (by omega) hs02 hs12 hs22 (fun M3 gx3 hs03 hs13 hs23 => ?_)) 
        have fx3 : r_fx [(55, 7), (55, 10), (61, 0), (61, 1), (61, 2)] [62, 63] M0 M3 := r_fx.tr fx2 (gx3.mono rfl)
        have hx3 : X_tm t d M3 := (X_tm_dp ht d).kp fx3 rfl hx0
        have htw3 : M3.2.2 55 0 = some t := (fx3 55 0 rfl).2.2.trans htw0
        rw [wR_one] at hs03
        have hle := wT_le d 24 p.2
        refine Ru_aload_n (pc := 177) dX0_walk_177 rfl rfl ?_
        refine Ru_aload_n (pc := 178) dX0_walk_178 rfl rfl ?_
        refine Ru_getR (pc := 179) 61 dX0_walk_179 fl_X0_30 rfl rfl (rfX_of (o := 55) (j := 6) rfl rfl) ?_
        refine Ru_getI (pc := 182) dX0_walk_182 fl_X0_143 rfl rfl ?_
        refine Ru_top hs03 ?_
        refine Ru_putI (pc := 185) rfl dX0_walk_185 fl_X0_164 rfl ?_
        refine Ru_vret (pc := 188) dX0_walk_188 rfl ⟨Nat.le_refl _, Nat.le_refl _⟩ ?_
        have ni : ¬ (kTr d V p0 i).1 < 24 := by rw [← hpi]; omega
        have eN := kN_of hlt ni (by omega)
        have e9 : kEnd d V p0 = (wT d 24 p.2).1 := by
          unfold kEnd
          rw [eN, ← hpi]
        rw [e9] at k
        refine k _ (r_fx.sI rfl fx3) ⟨?_, ?_, fun j hj => ?_⟩ (by simp [r_sI_g])
        · show _ = nI (kN d V p0)
          rw [eN]
          simp only [r_sI_g]
          rw [if_neg (by omega)]
          exact (gx3 55 7 rfl).1.trans ((gx2 55 7 rfl).1.trans h7)
        · show kN d V p0 ≤ 24
          omega
        · have hj2 : j < i := by
            have : j < kN d V p0 := hj
            omega
          have h9 := hst j hj2
          simp only [r_sI_g]
          rw [if_neg (by omega), if_neg (by omega), (gx3 62 j rfl).1, (gx2 62 j rfl).1, (gx3 63 j rfl).1, (gx2 63 j rfl).1]
          exact h9
      · refine Ru_aload_n (pc := 27) dX0_walk_27 rfl rfl ?_
        refine Ru_getR (pc := 28) 61 dX0_walk_28 fl_X0_30 rfl rfl (rfX_of (o := 55) (j := 6) rfl rfl) ?_
        refine Ru_iload_n (pc := 31) dX0_walk_31 rfl rfl ?_
        refine Ru_cv1 (pc := 32) dX0_walk_32 mv_X0_134 rfl (by decide) (Nat.le_of_ble_eq_true rfl) (c_X6_begin_61 (s := p.2) (fun M2 gx2 hs02 hs12 hs22 => ?_)) 
        have fx2 : r_fx [(55, 7), (55, 10), (61, 0), (61, 1), (61, 2)] [62, 63] M0 M2 := r_fx.tr fx (gx2.mono rfl)
        have hx2 : X_tm t d M2 := (X_tm_dp ht d).kp fx2 rfl hx0
        have htw2 : M2.2.2 55 0 = some t := (fx2 55 0 rfl).2.2.trans htw0
        refine Ru_aload_n (pc := 35) dX0_walk_35 rfl rfl ?_
        refine Ru_getR (pc := 36) 61 dX0_walk_36 fl_X0_30 rfl rfl (rfX_of (o := 55) (j := 6) rfl rfl) ?_
        refine Ru_aload_n (pc := 39) dX0_walk_39 rfl rfl ?_
        refine Ru_getR (pc := 40) t dX0_walk_40 fl_X0_50 rfl rfl ((rfX_mut rfl rfl).trans htw2) ?_
        refine Ru_iload (pc := 43) dX0_walk_43 rfl ?_
        refine Ru_iload (pc := 45) dX0_walk_45 rfl ?_
        refine Ru_iconst (pc := 47) (nI 1) dX0_walk_47 rfl ?_
        refine Ru_iaddN (pc := 48) dX0_walk_48 ?_
        refine Ru_cv3 (pc := 49) dX0_walk_49 mv_X0_137 rfl (by decide) (Nat.le_of_ble_eq_true rfl) (c_X6_serve_61 (f := p.1) (n := 1) (p.2, 0, 0) ht hx2 wf (by omega) hs02 hs12 hs22 (fun M3 gx3 hs03 hs13 hs23 => ?_)) 
        have fx3 : r_fx [(55, 7), (55, 10), (61, 0), (61, 1), (61, 2)] [62, 63] M0 M3 := r_fx.tr fx2 (gx3.mono rfl)
        have hx3 : X_tm t d M3 := (X_tm_dp ht d).kp fx3 rfl hx0
        have htw3 : M3.2.2 55 0 = some t := (fx3 55 0 rfl).2.2.trans htw0
        rw [wR_one] at hs03
        have hle := wT_le d p.1 p.2
        refine Ru_aload_n (pc := 52) dX0_walk_52 rfl rfl ?_
        refine Ru_getR (pc := 53) 61 dX0_walk_53 fl_X0_30 rfl rfl (rfX_of (o := 55) (j := 6) rfl rfl) ?_
        refine Ru_getI (pc := 56) dX0_walk_56 fl_X0_143 rfl rfl ?_
        refine Ru_top hs03 ?_
        refine Ru_istore_n (pc := 59) dX0_walk_59 rfl rfl (by decide) ?_
        refine Ru_aload_n (pc := 60) dX0_walk_60 rfl rfl ?_
        refine Ru_iload (pc := 61) dX0_walk_61 rfl ?_
        refine Ru_iload_n (pc := 63) dX0_walk_63 rfl rfl ?_
        refine Ru_cv2 (pc := 64) dX0_walk_64 mv_X0_161 rfl (by decide) (Nat.le_of_ble_eq_true rfl) (c_X0_firstBest (V := V) ht hx3 wf htw3 (by omega) (by omega) (fun t' s' _ q2 q3 => (fx3 56 _ rfl).1.trans (hV0 t' s' q2 q3)) hVb (fun M4 gx4 => ?_)) 
        have fx4 : r_fx [(55, 7), (55, 10), (61, 0), (61, 1), (61, 2)] [62, 63] M0 M4 := r_fx.tr fx3 (gx4.mono rfl)
        have hx4 : X_tm t d M4 := (X_tm_dp ht d).kp fx4 rfl hx0
        have htw4 : M4.2.2 55 0 = some t := (fx4 55 0 rfl).2.2.trans htw0
        have hkb : dFs d V p.1 (wT d p.1 p.2).1 (dMf d V p.1 (wT d p.1 p.2).1 (d 1)) (d 1) = kBst d V p := rfl
        rw [hkb]
        have hkl : kBst d V p ≤ d 1 := dFs_le (d 1)
        have hzk : (nM (kBst d V p)).toInt = (kBst d V p : Int) - 1 := nM_t (by omega)
        have h74 : M4.1 55 7 = nI i := (gx4 55 7 rfl).1.trans ((gx3 55 7 rfl).1.trans ((gx2 55 7 rfl).1.trans h7))
        have hst4 : ∀ j, j < i → M4.1 62 j = nM (kBst d V (kTr d V p0 j)) ∧ M4.1 63 j = nI (kTr d V p0 j).1 := fun j hj => by
          rw [(gx4 62 j rfl).1, (gx3 62 j rfl).1, (gx2 62 j rfl).1, (gx4 63 j rfl).1, (gx3 63 j rfl).1, (gx2 63 j rfl).1]
          exact hst j hj
        refine Ru_istore (pc := 67) dX0_walk_67 rfl (by decide) ?_
        refine Ru_aload_n (pc := 69) dX0_walk_69 rfl rfl ?_
        refine Ru_getR (pc := 70) 62 dX0_walk_70 fl_X0_34 rfl rfl (rfX_of (o := 55) (j := 7) rfl rfl) ?_
        refine Ru_iload (pc := 73) dX0_walk_73 rfl ?_
        refine Ru_iload (pc := 75) dX0_walk_75 rfl ?_
        refine Ru_iast (pc := 77) rfl dX0_walk_77 rfl (by omega) ?_
        refine Ru_aload_n (pc := 78) dX0_walk_78 rfl rfl ?_
        refine Ru_getR (pc := 79) 63 dX0_walk_79 fl_X0_37 rfl rfl (rfX_of (o := 55) (j := 8) rfl rfl) ?_
        refine Ru_iload (pc := 82) dX0_walk_82 rfl ?_
        refine Ru_iload (pc := 84) dX0_walk_84 rfl ?_
        refine Ru_iast (pc := 86) rfl dX0_walk_86 rfl (by omega) ?_
        refine Ru_aload_n (pc := 87) dX0_walk_87 rfl rfl ?_
        refine Ru_dup (pc := 88) dX0_walk_88 rfl ?_
        refine Ru_getI (pc := 89) dX0_walk_89 fl_X0_158 rfl rfl ?_
        refine Ru_top ((r_sI_n (by omega)).trans ((r_sI_n (by omega)).trans h74)) ?_
        refine Ru_iconst (pc := 92) (nI 1) dX0_walk_92 rfl ?_
        refine Ru_iaddN (pc := 93) dX0_walk_93 ?_
        refine Ru_putI (pc := 94) rfl dX0_walk_94 fl_X0_158 rfl ?_
        refine Ru_iload (pc := 97) dX0_walk_97 rfl ?_
        refine Ru_iconst (pc := 99) (-1) dX0_walk_99 rfl ?_
        refine Ru_icmp_neT (pc := 100) 109 dX0_walk_100 (by decide) (fun h3 => ?_) (fun h3 => ?_)
        · obtain ⟨m, qz_eb⟩ : ∃ m, kBst d V p = m + 1 := ⟨kBst d V p - 1, by omega⟩
          rw [qz_eb]
          refine Ru_weak (L' := [(3, some (.int (nI (wT d p.1 p.2).1))), (4, some (.int (nI p.1))), (5, some (.int (nI i))), (0, some (.ref 55)), (1, some (.int (nI p0.2))), (2, some (.int (nI p0.1))), (6, some (.int (nI m)))]) ?_ rfl
          have hin := dFs_in (d 1) (show dFs d V p.1 (wT d p.1 p.2).1 (dMf d V p.1 (wT d p.1 p.2).1 (d 1)) (d 1) = m + 1 from qz_eb)
          have hm5 := wf.2.2.2.2.1 m hin.1
          refine Ru_aload_n (pc := 109) dX0_walk_109 rfl rfl ?_
          refine Ru_getR (pc := 110) 61 dX0_walk_110 fl_X0_30 rfl rfl (rfX_of (o := 55) (j := 6) rfl rfl) ?_
          refine Ru_iload_n (pc := 113) dX0_walk_113 rfl rfl ?_
          refine Ru_cv1 (pc := 114) dX0_walk_114 mv_X0_134 rfl (by decide) (Nat.le_of_ble_eq_true rfl) (c_X6_begin_61 (s := (wT d p.1 p.2).1) (fun M5 gx5 hs05 hs15 hs25 => ?_)) 
          have fx5 : r_fx [(55, 7), (55, 10), (61, 0), (61, 1), (61, 2)] [62, 63] M0 M5 := r_fx.tr (r_fx.sI rfl (r_fx.sI rfl (r_fx.sI rfl fx4))) (gx5.mono rfl)
          have hx5 : X_tm t d M5 := (X_tm_dp ht d).kp fx5 rfl hx0
          have htw5 : M5.2.2 55 0 = some t := (fx5 55 0 rfl).2.2.trans htw0
          refine Ru_aload_n (pc := 117) dX0_walk_117 rfl rfl ?_
          refine Ru_iload (pc := 118) dX0_walk_118 rfl ?_
          refine Ru_iload (pc := 120) dX0_walk_120 rfl ?_
          refine Ru_cv2 (pc := 122) dX0_walk_122 mv_X0_155 rfl (by decide) (Nat.le_of_ble_eq_true rfl) (c_X0_make ((wT d p.1 p.2).1, 0, 0) ht hx5 wf htw5 hin.1 hin.2.2 hs05 hs15 hs25 (fun M6 gx6 hs06 hs16 hs26 => ?_)) 
          have fx6 : r_fx [(55, 7), (55, 10), (61, 0), (61, 1), (61, 2)] [62, 63] M0 M6 := r_fx.tr fx5 (gx6.mono rfl)
          have hx6 : X_tm t d M6 := (X_tm_dp ht d).kp fx6 rfl hx0
          have htw6 : M6.2.2 55 0 = some t := (fx6 55 0 rfl).2.2.trans htw0
          have gx56 := gx5.tr gx6
          refine Ru_aload_n (pc := 125) dX0_walk_125 rfl rfl ?_
          refine Ru_getR (pc := 126) 61 dX0_walk_126 fl_X0_30 rfl rfl (rfX_of (o := 55) (j := 6) rfl rfl) ?_
          refine Ru_getI (pc := 129) dX0_walk_129 fl_X0_143 rfl rfl ?_
          refine Ru_top hs06 ?_
          refine Ru_istore_n (pc := 132) dX0_walk_132 rfl rfl (by decide) ?_
          refine Ru_iload (pc := 133) dX0_walk_133 rfl ?_
          refine Ru_aload_n (pc := 135) dX0_walk_135 rfl rfl ?_
          refine Ru_getR (pc := 136) t dX0_walk_136 fl_X0_50 rfl rfl ((rfX_mut rfl rfl).trans htw6) ?_
          refine Ru_getR (pc := 139) (t + 6) dX0_walk_139 fl_X0_121 (shTown_0 ht) rfl (rfX_of (o := t) (j := 6) (shTown_0 ht) rfl) ?_
          refine Ru_iload (pc := 142) dX0_walk_142 rfl ?_
          refine Ru_iald (pc := 144) dX0_walk_144 (shTown_6 ht) (by omega) ?_
          refine Ru_top (hx6.2.2.1 m (by omega)).2.1 ?_
          refine Ru_iaddN (pc := 145) dX0_walk_145 ?_
          refine Ru_istore (pc := 146) dX0_walk_146 rfl (by decide) ?_
          refine Ru_iincN (pc := 148) 1 dX0_walk_148 rfl rfl rfl (by decide) ?_
          refine Ru_goto (pc := 151) 13 dX0_walk_151 (by decide) ?_
          have hnx : kTr d V p0 (i + 1) = ((p.1 + (d (41 + m))), ((wR d (r_dif (wT d p.1 p.2).1 (d (65 + m)), 0, 0) (p.1 + 1) (d (41 + m) - 1)).1 ||| 2 ^ d (29 + m))) := (by show kNx d V (kTr d V p0 i) = _; rw [← hpi]; unfold kNx; rw [if_neg (by omega), qz_eb, Nat.add_sub_cancel])
          have hlt2 : ∀ j, j < i + 1 → (kTr d V p0 j).1 < 24 := fun j hj => by
            by_cases e : j = i
            · subst e
              rw [← hpi]
              omega
            · exact hlt j (by omega)
          refine Ru_weak (ih (24 - (kTr d V p0 (i + 1)).1) ?_ (i + 1) ((p.1 + (d (41 + m))), ((wR d (r_dif (wT d p.1 p.2).1 (d (65 + m)), 0, 0) (p.1 + 1) (d (41 + m) - 1)).1 ||| 2 ^ d (29 + m))) _ (by rw [hnx]) (by rw [hnx]) hlt2 (fun j hj => ?_) ?_ fx6) rfl
          · rw [hnx]
            have := kNx_t wf (V := V) (p := p) (by omega)
            have e9 : kNx d V p = ((p.1 + (d (41 + m))), ((wR d (r_dif (wT d p.1 p.2).1 (d (65 + m)), 0, 0) (p.1 + 1) (d (41 + m) - 1)).1 ||| 2 ^ d (29 + m))) := by rw [← hnx, hpi]; rfl
            rw [e9] at this
            simp only [] at this ⊢
            rw [← hpi]
            omega
          · rw [(gx56 62 j rfl).1, (gx56 63 j rfl).1]; simp only [r_sI_g]
            by_cases e : j = i
            · subst e
              rw [← hpi]
              simp
              rw [qz_eb]
            · have := hst4 j (by omega)
              simp [e]
              exact this
          · rw [(gx56 55 7 rfl).1]; simp [r_sI_g]
        · refine Ru_iincN (pc := 103) 1 dX0_walk_103 rfl rfl rfl (by decide) ?_
          refine Ru_goto (pc := 106) 148 dX0_walk_106 (by decide) ?_
          refine Ru_iincN (pc := 148) 1 dX0_walk_148 rfl rfl rfl (by decide) ?_
          refine Ru_goto (pc := 151) 13 dX0_walk_151 (by decide) ?_
          have hnx : kTr d V p0 (i + 1) = ((p.1 + 1), (wT d p.1 p.2).1) := (by show kNx d V (kTr d V p0 i) = _; rw [← hpi]; unfold kNx; rw [if_pos (by omega)])
          have hlt2 : ∀ j, j < i + 1 → (kTr d V p0 j).1 < 24 := fun j hj => by
            by_cases e : j = i
            · subst e
              rw [← hpi]
              omega
            · exact hlt j (by omega)
          refine Ru_weak (ih (24 - (kTr d V p0 (i + 1)).1) ?_ (i + 1) ((p.1 + 1), (wT d p.1 p.2).1) _ (by rw [hnx]) (by rw [hnx]) hlt2 (fun j hj => ?_) ?_ (r_fx.sI rfl (r_fx.sI rfl (r_fx.sI rfl fx4)))) rfl
          · rw [hnx]
            have := kNx_t wf (V := V) (p := p) (by omega)
            have e9 : kNx d V p = ((p.1 + 1), (wT d p.1 p.2).1) := by rw [← hnx, hpi]; rfl
            rw [e9] at this
            simp only [] at this ⊢
            rw [← hpi]
            omega
          · simp only [r_sI_g]
            by_cases e : j = i
            · subst e
              rw [← hpi]
              simp
            · have := hst4 j (by omega)
              simp [e]
              exact this
          · simp [r_sI_g]

theorem c_X0_walk {Q : Rq} {M : Mem} {d : Td} {t : Nat} {V : Vt} {p0 : Nat × Nat} (ht : isTown t) (hx : X_tm t d M) (wf : Wf d) (htw : M.2.2 55 0 = some t) (hp0 : p0.1 ≤ 24) (hp1 : p0.2 < 2 ^ d 0) (hV0 : ∀ t s, t ≤ 24 → s < 2 ^ d 0 → M.1 56 (t * 256 + s) = nI (V t s)) (hVb : ∀ t' s', V t' s' ≤ 100000000) (k : ∀ M', r_fx [(55, 7), (55, 10), (61, 0), (61, 1), (61, 2)] [62, 63] M M' → X_sp (kSp d V p0) M' → M'.1 55 10 = nI (kEnd d V p0) → Q none GX M') : Ca 4 mt_X0_walk 0 0 [.ref 55, .int (nI p0.2), .int (nI p0.1)] GX M Q := by
  refine Ca_of rfl (Nat.le_of_ble_eq_true rfl) ?_
  refine Ru_iload_n (pc := 0) dX0_walk_0 rfl rfl ?_
  refine Ru_istore_n (pc := 1) dX0_walk_1 rfl rfl (by decide) ?_
  refine Ru_iload_n (pc := 2) dX0_walk_2 rfl rfl ?_
  refine Ru_istore (pc := 3) dX0_walk_3 rfl (by decide) ?_
  refine Ru_aload_n (pc := 5) dX0_walk_5 rfl rfl ?_
  refine Ru_iconst (pc := 6) (nI 0) dX0_walk_6 rfl ?_
  refine Ru_putI (pc := 7) rfl dX0_walk_7 fl_X0_158 rfl ?_
  refine Ru_iconst (pc := 10) (nI 0) dX0_walk_10 rfl ?_
  refine Ru_istore (pc := 11) dX0_walk_11 rfl (by decide) ?_
  exact Ru_weak (l_X0_walk (M0 := M) ht hx wf htw hp0 hp1 hV0 hVb k _ 0 p0 _ rfl rfl (fun j hj => by omega) (fun j hj => by omega) r_sI_s (r_fx.sI rfl r_fx.rf)) rfl
