-- ONE DAY ALONE: the developers' own

theorem c_X0_canBegin {Q : Rq} {M : Mem} {t m tm : Nat} {d : Td} (ht : isTown t) (hx : X_tm t d M) (wf : Wf d) (htw : M.2.2 55 0 = some t) (hm : m < d 1) (htm : tm ≤ 24) (k : Q (some (.int (r_b (decide (d (53 + m) = 1 ∧ tm + d (41 + m) ≤ 24))))) GX M) : Ca 0 mt_X0_canBegin 0 0 [.ref 55, .int (nI m), .int (nI tm)] GX M Q := by
  refine Ca_of rfl (Nat.le_of_ble_eq_true rfl) ?_
  have hb := wf.1
  have hm5 := wf.2.2.2.2.1 m hm
  refine Ru_aload_n (pc := 0) dX0_canBegin_0 rfl rfl ?_
  refine Ru_getR (pc := 1) t dX0_canBegin_1 fl_X0_50 rfl rfl ((rfX_mut rfl rfl).trans htw) ?_
  refine Ru_getR (pc := 4) (t + 7) dX0_canBegin_4 fl_X0_152 (shTown_0 ht) rfl (rfX_of (o := t) (j := 7) (shTown_0 ht) rfl) ?_
  refine Ru_iload_n (pc := 7) dX0_canBegin_7 rfl rfl ?_
  refine Ru_iald (pc := 8) dX0_canBegin_8 (shTown_7 ht) (by omega) ?_
  refine Ru_top (hx.2.2.1 m (by omega)).2.2.1 ?_
  refine Ru_iconst (pc := 9) (nI 1) dX0_canBegin_9 rfl ?_
  refine Ru_icmp_neN (pc := 10) 33 dX0_canBegin_10 (by decide) (by omega) (fun h1 => ?_) (fun h1 => ?_)
  · refine Ru_iconst (pc := 33) (nI 0) dX0_canBegin_33 rfl ?_
    refine Ru_zret (pc := 34) dX0_canBegin_34 rfl ⟨Nat.le_refl _, Nat.le_refl _⟩ (Or.inl rfl) ?_
    refine r_qe (r_b_f ?_) k
    exact decide_eq_false (by omega)
  · refine Ru_iload_n (pc := 13) dX0_canBegin_13 rfl rfl ?_
    refine Ru_aload_n (pc := 14) dX0_canBegin_14 rfl rfl ?_
    refine Ru_getR (pc := 15) t dX0_canBegin_15 fl_X0_50 rfl rfl ((rfX_mut rfl rfl).trans htw) ?_
    refine Ru_getR (pc := 18) (t + 6) dX0_canBegin_18 fl_X0_121 (shTown_0 ht) rfl (rfX_of (o := t) (j := 6) (shTown_0 ht) rfl) ?_
    refine Ru_iload_n (pc := 21) dX0_canBegin_21 rfl rfl ?_
    refine Ru_iald (pc := 22) dX0_canBegin_22 (shTown_6 ht) (by omega) ?_
    refine Ru_top (hx.2.2.1 m (by omega)).2.1 ?_
    refine Ru_iaddN (pc := 23) dX0_canBegin_23 ?_
    refine Ru_bipush (pc := 24) (nI 24) dX0_canBegin_24 rfl ?_
    refine Ru_icmp_gtN (pc := 26) 33 dX0_canBegin_26 (by decide) (by omega) (fun h2 => ?_) (fun h2 => ?_)
    · refine Ru_iconst (pc := 33) (nI 0) dX0_canBegin_33 rfl ?_
      refine Ru_zret (pc := 34) dX0_canBegin_34 rfl ⟨Nat.le_refl _, Nat.le_refl _⟩ (Or.inl rfl) ?_
      refine r_qe (r_b_f ?_) k
      exact decide_eq_false (by omega)
    · refine Ru_iconst (pc := 29) (nI 1) dX0_canBegin_29 rfl ?_
      refine Ru_goto (pc := 30) 34 dX0_canBegin_30 (by decide) ?_
      refine Ru_zret (pc := 34) dX0_canBegin_34 rfl ⟨Nat.le_refl _, Nat.le_refl _⟩ (Or.inr rfl) ?_
      refine r_qe (r_b_t ?_) k
      exact decide_eq_true (by omega)

theorem c_X0_make {Q : Rq} {M : Mem} {t m tm : Nat} {d : Td} (p : Sh) (ht : isTown t) (hx : X_tm t d M) (wf : Wf d) (htw : M.2.2 55 0 = some t) (hm : m < d 1) (hte : tm + d (41 + m) ≤ 24) (hs0 : M.1 61 0 = nI p.1) (hs1 : M.1 61 1 = nI p.2.1) (hs2 : M.1 61 2 = nI p.2.2) (k : ∀ M', r_fx [(61, 0), (61, 1), (61, 2)] [] M M' → M'.1 61 0 = nI ((wR d (r_dif p.1 (d (65 + m)), p.2.1, p.2.2) (tm + 1) (d (41 + m) - 1)).1 ||| 2 ^ d (29 + m)) → M'.1 61 1 = nI (wR d (r_dif p.1 (d (65 + m)), p.2.1, p.2.2) (tm + 1) (d (41 + m) - 1)).2.1 → M'.1 61 2 = nI (wR d (r_dif p.1 (d (65 + m)), p.2.1, p.2.2) (tm + 1) (d (41 + m) - 1)).2.2 → Q none GX M') : Ca 1 mt_X0_make 0 0 [.ref 55, .int (nI m), .int (nI tm)] GX M Q := by
  refine Ca_of rfl (Nat.le_of_ble_eq_true rfl) ?_
  have hb := wf.1
  have hm5 := wf.2.2.2.2.1 m hm
  have hT : t = 3 ∨ t = 83 ∨ t = 111 ∨ t = 139 ∨ t = 167 := ht
  refine Ru_aload_n (pc := 0) dX0_make_0 rfl rfl ?_
  refine Ru_getR (pc := 1) 61 dX0_make_1 fl_X0_30 rfl rfl (rfX_of (o := 55) (j := 6) rfl rfl) ?_
  refine Ru_dup (pc := 4) dX0_make_4 rfl ?_
  refine Ru_getI (pc := 5) dX0_make_5 fl_X0_143 rfl rfl ?_
  refine Ru_top hs0 ?_
  refine Ru_aload_n (pc := 8) dX0_make_8 rfl rfl ?_
  refine Ru_getR (pc := 9) t dX0_make_9 fl_X0_50 rfl rfl ((rfX_mut rfl rfl).trans htw) ?_
  refine Ru_getR (pc := 12) (t + 8) dX0_make_12 fl_X0_146 (shTown_0 ht) rfl (rfX_of (o := t) (j := 8) (shTown_0 ht) rfl) ?_
  refine Ru_iload_n (pc := 15) dX0_make_15 rfl rfl ?_
  refine Ru_iald (pc := 16) dX0_make_16 (shTown_8 ht) (by omega) ?_
  refine Ru_top (hx.2.2.1 m (by omega)).2.2.2.1 ?_
  refine Ru_iconst (pc := 17) (-1) dX0_make_17 rfl ?_
  refine Ru_ixor (pc := 18) dX0_make_18 ?_
  refine Ru_idifN (pc := 19) dX0_make_19 ?_
  refine Ru_putI (pc := 20) rfl dX0_make_20 fl_X0_143 rfl ?_
  refine Ru_aload_n (pc := 23) dX0_make_23 rfl rfl ?_
  refine Ru_getR (pc := 24) 61 dX0_make_24 fl_X0_30 rfl rfl (rfX_of (o := 55) (j := 6) rfl rfl) ?_
  refine Ru_aload_n (pc := 27) dX0_make_27 rfl rfl ?_
  refine Ru_getR (pc := 28) t dX0_make_28 fl_X0_50 rfl rfl ((rfX_mut rfl rfl).trans htw) ?_
  refine Ru_iload_n (pc := 31) dX0_make_31 rfl rfl ?_
  refine Ru_iconst (pc := 32) (nI 1) dX0_make_32 rfl ?_
  refine Ru_iaddN (pc := 33) dX0_make_33 ?_
  refine Ru_iload_n (pc := 34) dX0_make_34 rfl rfl ?_
  refine Ru_aload_n (pc := 35) dX0_make_35 rfl rfl ?_
  refine Ru_getR (pc := 36) t dX0_make_36 fl_X0_50 rfl rfl ((rfX_mut rfl rfl).trans htw) ?_
  refine Ru_getR (pc := 39) (t + 6) dX0_make_39 fl_X0_121 (shTown_0 ht) rfl (rfX_of (o := t) (j := 6) (shTown_0 ht) rfl) ?_
  refine Ru_iload_n (pc := 42) dX0_make_42 rfl rfl ?_
  refine Ru_iald (pc := 43) dX0_make_43 (shTown_6 ht) (by omega) ?_
  refine Ru_top ((r_sI_n (by omega)).trans (hx.2.2.1 m (by omega)).2.1) ?_
  refine Ru_iaddN (pc := 44) dX0_make_44 ?_
  refine Ru_top (show nI (tm + d (41 + m)) = nI (tm + 1 + (d (41 + m) - 1)) from congrArg nI (by omega)) ?_
  refine Ru_cv3 (pc := 45) dX0_make_45 mv_X0_137 rfl (by decide) (Nat.le_of_ble_eq_true rfl) (c_X6_serve_61 (f := tm + 1) (n := d (41 + m) - 1) (r_dif p.1 (d (65 + m)), p.2.1, p.2.2) ht ((X_tm_dp ht d).kp (F := [(61, 0)]) (A := []) (r_fx.sI rfl r_fx.rf) rfl hx) wf (by omega) r_sI_s ((r_sI_n (by decide)).trans hs1) ((r_sI_n (by decide)).trans hs2) (fun M2 gx2 hs02 hs12 hs22 => ?_)) 
  have fx2 : r_fx [(61, 0), (61, 1), (61, 2)] [] M M2 := r_fx.tr ((r_fx.sI rfl r_fx.rf)) gx2
  have hx2 : X_tm t d M2 := (X_tm_dp ht d).kp fx2 rfl hx
  have htw2 : M2.2.2 55 0 = some t := (fx2 55 0 rfl).2.2.trans htw
  refine Ru_aload_n (pc := 48) dX0_make_48 rfl rfl ?_
  refine Ru_getR (pc := 49) 61 dX0_make_49 fl_X0_30 rfl rfl (rfX_of (o := 55) (j := 6) rfl rfl) ?_
  refine Ru_dup (pc := 52) dX0_make_52 rfl ?_
  refine Ru_getI (pc := 53) dX0_make_53 fl_X0_143 rfl rfl ?_
  refine Ru_top hs02 ?_
  refine Ru_iconst (pc := 56) (nI 1) dX0_make_56 rfl ?_
  refine Ru_aload_n (pc := 57) dX0_make_57 rfl rfl ?_
  refine Ru_getR (pc := 58) t dX0_make_58 fl_X0_50 rfl rfl ((rfX_mut rfl rfl).trans htw2) ?_
  refine Ru_getR (pc := 61) (t + 5) dX0_make_61 fl_X0_149 (shTown_0 ht) rfl (rfX_of (o := t) (j := 5) (shTown_0 ht) rfl) ?_
  refine Ru_iload_n (pc := 64) dX0_make_64 rfl rfl ?_
  refine Ru_iald (pc := 65) dX0_make_65 (shTown_5 ht) (by omega) ?_
  refine Ru_top (hx2.2.2.1 m (by omega)).1 ?_
  refine Ru_ishl1N (pc := 66) dX0_make_66 (by omega) ?_
  refine Ru_iorN (pc := 67) dX0_make_67 ?_
  refine Ru_putI (pc := 68) rfl dX0_make_68 fl_X0_143 rfl ?_
  refine Ru_vret (pc := 71) dX0_make_71 rfl ⟨Nat.le_refl _, Nat.le_refl _⟩ ?_
  exact k _ (r_fx.sI rfl fx2) r_sI_s ((r_sI_n (by decide)).trans hs12) ((r_sI_n (by decide)).trans hs22)

theorem c_X0_begun {Q : Rq} {M : Mem} {t m tm s : Nat} {d : Td} {V : Vt} (ht : isTown t) (hx : X_tm t d M) (wf : Wf d) (htw : M.2.2 55 0 = some t) (hm : m < d 1) (hte : tm + d (41 + m) ≤ 24) (hs : s < 2 ^ d 0) (hV : ∀ t' s', tm < t' → t' ≤ 24 → s' < 2 ^ d 0 → M.1 56 (t' * 256 + s') = nI (V t' s')) (k0 : ¬ r_dif (sNd d m) s = 0 → Q (some (.int (-1))) GX M) (k1 : ∀ M', r_dif (sNd d m) s = 0 → r_fx [(61, 0), (61, 1), (61, 2)] [] M M' → Q (some (.int (nI (dBm d V m tm s)))) GX M') : Ca 2 mt_X0_begun 0 0 [.ref 55, .int (nI m), .int (nI tm), .int (nI s)] GX M Q := by
  refine Ca_of rfl (Nat.le_of_ble_eq_true rfl) ?_
  have hb := wf.1
  have hp := pw_le hb.1
  have hm5 := wf.2.2.2.2.1 m hm
  refine Ru_aload_n (pc := 0) dX0_begun_0 rfl rfl ?_
  refine Ru_getR (pc := 1) t dX0_begun_1 fl_X0_50 rfl rfl ((rfX_mut rfl rfl).trans htw) ?_
  refine Ru_iload_n (pc := 4) dX0_begun_4 rfl rfl ?_
  refine Ru_cv1 (pc := 5) dX0_begun_5 mv_X0_117 (shTown_0 ht) (by decide) (Nat.le_of_ble_eq_true rfl) (c_X9_needsS ht hx wf (by omega) ?_) 
  refine Ru_iload_n (pc := 8) dX0_begun_8 rfl rfl ?_
  refine Ru_iconst (pc := 9) (-1) dX0_begun_9 rfl ?_
  refine Ru_ixor (pc := 10) dX0_begun_10 ?_
  refine Ru_idifN (pc := 11) dX0_begun_11 ?_
  refine Ru_if_eqN (pc := 12) 17 dX0_begun_12 (by decide) (Nat.lt_of_le_of_lt (r_dif_le _ _) (Nat.lt_of_lt_of_le (r_or_lt hm5.2.2.2.1 hm5.2.2.2.2.1) (by omega))) (fun h1 => ?_) (fun h1 => ?_)
  · refine Ru_aload_n (pc := 17) dX0_begun_17 rfl rfl ?_
    refine Ru_getR (pc := 18) 61 dX0_begun_18 fl_X0_30 rfl rfl (rfX_of (o := 55) (j := 6) rfl rfl) ?_
    refine Ru_iload_n (pc := 21) dX0_begun_21 rfl rfl ?_
    refine Ru_cv1 (pc := 22) dX0_begun_22 mv_X0_134 rfl (by decide) (Nat.le_of_ble_eq_true rfl) (c_X6_begin_61 (s := s) (fun M2 gx2 g0 g1 g2 => ?_)) 
    have hx2 : X_tm t d M2 := (X_tm_dp ht d).kp gx2 rfl hx
    have htw2 : M2.2.2 55 0 = some t := (gx2 55 0 rfl).2.2.trans htw
    refine Ru_aload_n (pc := 25) dX0_begun_25 rfl rfl ?_
    refine Ru_iload_n (pc := 26) dX0_begun_26 rfl rfl ?_
    refine Ru_iload_n (pc := 27) dX0_begun_27 rfl rfl ?_
    refine Ru_cv2 (pc := 28) dX0_begun_28 mv_X0_155 rfl (by decide) (Nat.le_of_ble_eq_true rfl) (c_X0_make (s, 0, 0) ht hx2 wf htw2 (by omega) hte g0 g1 g2 (fun M3 gx3 hs03 hs13 hs23 => ?_)) 
    replace hs03 : M3.1 61 0 = nI ((wR d (r_dif s (d (65 + m)), 0, 0) (tm + 1) (d (41 + m) - 1)).1 ||| 2 ^ d (29 + m)) := hs03
    replace hs13 : M3.1 61 1 = nI (wR d (r_dif s (d (65 + m)), 0, 0) (tm + 1) (d (41 + m) - 1)).2.1 := hs13
    have fx3 : r_fx [(61, 0), (61, 1), (61, 2)] [] M M3 := gx2.tr gx3
    have hx3 : X_tm t d M3 := (X_tm_dp ht d).kp fx3 rfl hx
    have htw3 : M3.2.2 55 0 = some t := (fx3 55 0 rfl).2.2.trans htw
    have hV3 : ∀ t' s', tm < t' → t' ≤ 24 → s' < 2 ^ d 0 → M3.1 56 (t' * 256 + s') = nI (V t' s') := fun t' s' h1 h2 h3 => (fx3 56 _ rfl).1.trans (hV t' s' h1 h2 h3)
    have hl1 : (wR d (r_dif s (d (65 + m)), 0, 0) (tm + 1) (d (41 + m) - 1)).1 ≤ r_dif s (d (65 + m)) := wR_le d (r_dif s (d (65 + m)), 0, 0) (tm + 1) (d (41 + m) - 1)
    have hl2 := r_dif_le s (d (65 + m))
    have hsb : (wR d (r_dif s (d (65 + m)), 0, 0) (tm + 1) (d (41 + m) - 1)).1 ||| 2 ^ d (29 + m) < 2 ^ d 0 := r_or_lt (by omega) (Nat.pow_lt_pow_right (by decide) hm5.1)
    refine Ru_aload_n (pc := 31) dX0_begun_31 rfl rfl ?_
    refine Ru_getR (pc := 32) 61 dX0_begun_32 fl_X0_30 rfl rfl (rfX_of (o := 55) (j := 6) rfl rfl) ?_
    refine Ru_getI (pc := 35) dX0_begun_35 fl_X0_140 rfl rfl ?_
    refine Ru_top hs13 ?_
    refine Ru_aload_n (pc := 38) dX0_begun_38 rfl rfl ?_
    refine Ru_getR (pc := 39) 56 dX0_begun_39 fl_X0_9 rfl rfl (rfX_of (o := 55) (j := 1) rfl rfl) ?_
    refine Ru_iload_n (pc := 42) dX0_begun_42 rfl rfl ?_
    refine Ru_aload_n (pc := 43) dX0_begun_43 rfl rfl ?_
    refine Ru_getR (pc := 44) t dX0_begun_44 fl_X0_50 rfl rfl ((rfX_mut rfl rfl).trans htw3) ?_
    refine Ru_getR (pc := 47) (t + 6) dX0_begun_47 fl_X0_121 (shTown_0 ht) rfl (rfX_of (o := t) (j := 6) (shTown_0 ht) rfl) ?_
    refine Ru_iload_n (pc := 50) dX0_begun_50 rfl rfl ?_
    refine Ru_iald (pc := 51) dX0_begun_51 (shTown_6 ht) (by omega) ?_
    refine Ru_top (hx3.2.2.1 m (by omega)).2.1 ?_
    refine Ru_iaddN (pc := 52) dX0_begun_52 ?_
    refine Ru_sipush (pc := 53) (nI 256) dX0_begun_53 rfl ?_
    refine Ru_imulN (pc := 56) dX0_begun_56 ?_
    refine Ru_aload_n (pc := 57) dX0_begun_57 rfl rfl ?_
    refine Ru_getR (pc := 58) 61 dX0_begun_58 fl_X0_30 rfl rfl (rfX_of (o := 55) (j := 6) rfl rfl) ?_
    refine Ru_getI (pc := 61) dX0_begun_61 fl_X0_143 rfl rfl ?_
    refine Ru_top hs03 ?_
    refine Ru_iaddN (pc := 64) dX0_begun_64 ?_
    refine Ru_iald (pc := 65) dX0_begun_65 rfl (by omega) ?_
    refine Ru_top (hV3 (tm + (d (41 + m))) ((wR d (r_dif s (d (65 + m)), 0, 0) (tm + 1) (d (41 + m) - 1)).1 ||| 2 ^ d (29 + m)) (by omega) (by omega) (by assumption)) ?_
    refine Ru_iaddN (pc := 66) dX0_begun_66 ?_
    refine Ru_iret (pc := 67) dX0_begun_67 rfl ⟨Nat.le_refl _, Nat.le_refl _⟩ ?_
    exact k1 _ (by omega) fx3
  · refine Ru_iconst (pc := 15) (-1) dX0_begun_15 rfl ?_
    refine Ru_iret (pc := 16) dX0_begun_16 rfl ⟨Nat.le_refl _, Nat.le_refl _⟩ ?_
    exact k0 (by omega)
