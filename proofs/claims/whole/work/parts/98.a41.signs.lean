-- A SIGN'S PLACE
theorem sg_eq : ∀ j, j < 6 → ∀ x, x < 256 → decide ((r_byt.getD 1 []).getD j 0 = (nI x).toInt8.toInt32) = decide (x = r_cd 1 j) := by decide +kernel
theorem sg_cd : r_cd 1 0 = 59 ∧ r_cd 1 1 = 60 ∧ r_cd 1 2 = 62 ∧ r_cd 1 3 = 61 ∧ r_cd 1 4 = 40 ∧ r_cd 1 5 = 41 := by decide +kernel
theorem sg_iff {j x : Nat} (hj : j < 6) (hx : x < 256) : (r_byt.getD 1 []).getD j 0 = (nI x).toInt8.toInt32 ↔ x = r_cd 1 j := decide_eq_decide.mp (sg_eq j hj x hx)
theorem c_canEncode {x : Nat} {G : Wd} {M : Mem} {Q : Rq} (hx : x < 256) (kk : Q (some (.int (nI 1))) G M) : Ca 0 mt_J1_canEncode_9a6ad 0 0 [.int (nI x)] G M Q := by
  refine Ca_ofF (by decide +kernel) (Nat.le_of_ble_eq_true rfl) ?_
  refine Ru_iload_n (pc := 0) dJ1_canEncode_9a6ad_0 rfl rfl ?_
  refine Ru_if_ltN (pc := 1) dJ1_canEncode_9a6ad_1 (by omega) ?_ (tgt := 15) (by decide)
  refine Ru_iload_n (pc := 4) dJ1_canEncode_9a6ad_4 rfl rfl ?_
  refine Ru_sipush (pc := 5) (nI 255) dJ1_canEncode_9a6ad_5 rfl ?_
  refine Ru_icmp_gtN (pc := 8) 15 dJ1_canEncode_9a6ad_8 (by decide) (by omega) (fun h => absurd h (by omega)) (fun h => ?_)
  refine Ru_iconst (pc := 11) (nI 1) dJ1_canEncode_9a6ad_11 rfl ?_
  refine Ru_goto (pc := 12) 16 dJ1_canEncode_9a6ad_12 (by decide) ?_
  exact Ru_zret (pc := 16) dJ1_canEncode_9a6ad_16 rfl ⟨Nat.le_refl _, Nat.le_refl _⟩ (Or.inr rfl) kk
theorem c_ioChar {x : Nat} {G : Wd} {M : Mem} {Q : Rq} (hx : x < 256) (kt : isSg x = true → ∀ j, j < 6 → Q (some (.int (nI j))) G M) (kf : isSg x = false → Q (some (.int (-1))) G M) : Ca 0 mt_J1_indexOfChar_4cfef 0 0 [.ref (2000000 + 1), .int (nI x), .int (nI 0), .int (nI 6)] G M Q := by
  have hc := sg_cd
  refine Ca_ofF (by decide +kernel) (Nat.le_of_ble_eq_true rfl) ?_
  refine Ru_iload_n (pc := 0) dJ1_indexOfChar_4cfef_0 rfl rfl ?_
  refine Ru_i2b (pc := 1) _ dJ1_indexOfChar_4cfef_1 rfl ?_
  refine Ru_istore (pc := 2) dJ1_indexOfChar_4cfef_2 rfl (by decide) ?_
  refine Ru_iload_n (pc := 4) dJ1_indexOfChar_4cfef_4 rfl rfl ?_
  refine Ru_istore (pc := 5) dJ1_indexOfChar_4cfef_5 rfl (by decide) ?_
  refine Ru_iload (pc := 7) dJ1_indexOfChar_4cfef_7 rfl ?_
  refine Ru_iload_n (pc := 9) dJ1_indexOfChar_4cfef_9 rfl rfl ?_
  refine Ru_icmp_geN (pc := 10) 31 dJ1_indexOfChar_4cfef_10 (by decide) (by omega) (fun h => absurd h (by omega)) (fun h => ?_)
  refine Ru_aload_n (pc := 13) dJ1_indexOfChar_4cfef_13 rfl rfl ?_
  refine Ru_iload (pc := 14) dJ1_indexOfChar_4cfef_14 rfl ?_
  refine Ru_sbald (k := 1) (j := 0) (pc := 16) (by decide) (by decide) dJ1_indexOfChar_4cfef_16 ?_
  refine Ru_iload (pc := 17) dJ1_indexOfChar_4cfef_17 rfl ?_
  refine Ru_icmp_ne (pc := 19) 25 dJ1_indexOfChar_4cfef_19 (by decide) (fun h0 => ?_) (fun h0 => ?_)
  rotate_left
  · refine Ru_iload (pc := 22) dJ1_indexOfChar_4cfef_22 rfl ?_
    exact Ru_iret (pc := 24) dJ1_indexOfChar_4cfef_24 rfl ⟨Nat.le_refl _, Nat.le_refl _⟩ (kt (isSg_iff.mpr (by have := (sg_iff (j := 0) (by decide) hx).mp h0; omega)) 0 (by decide))
  have g0 : ¬ x = r_cd 1 0 := fun z => h0 ((sg_iff (j := 0) (by decide) hx).mpr z)
  refine Ru_iincN (pc := 25) 1 dJ1_indexOfChar_4cfef_25 rfl rfl rfl (by decide) ?_
  refine Ru_goto (pc := 28) 7 dJ1_indexOfChar_4cfef_28 (by decide) ?_
  refine Ru_iload (pc := 7) dJ1_indexOfChar_4cfef_7 rfl ?_
  refine Ru_iload_n (pc := 9) dJ1_indexOfChar_4cfef_9 rfl rfl ?_
  refine Ru_icmp_geN (pc := 10) 31 dJ1_indexOfChar_4cfef_10 (by decide) (by omega) (fun h => absurd h (by omega)) (fun h => ?_)
  refine Ru_aload_n (pc := 13) dJ1_indexOfChar_4cfef_13 rfl rfl ?_
  refine Ru_iload (pc := 14) dJ1_indexOfChar_4cfef_14 rfl ?_
  refine Ru_sbald (k := 1) (j := 1) (pc := 16) (by decide) (by decide) dJ1_indexOfChar_4cfef_16 ?_
  refine Ru_iload (pc := 17) dJ1_indexOfChar_4cfef_17 rfl ?_
  refine Ru_icmp_ne (pc := 19) 25 dJ1_indexOfChar_4cfef_19 (by decide) (fun h1 => ?_) (fun h1 => ?_)
  rotate_left
  · refine Ru_iload (pc := 22) dJ1_indexOfChar_4cfef_22 rfl ?_
    exact Ru_iret (pc := 24) dJ1_indexOfChar_4cfef_24 rfl ⟨Nat.le_refl _, Nat.le_refl _⟩ (kt (isSg_iff.mpr (by have := (sg_iff (j := 1) (by decide) hx).mp h1; omega)) 1 (by decide))
  have g1 : ¬ x = r_cd 1 1 := fun z => h1 ((sg_iff (j := 1) (by decide) hx).mpr z)
  refine Ru_iincN (pc := 25) 1 dJ1_indexOfChar_4cfef_25 rfl rfl rfl (by decide) ?_
  refine Ru_goto (pc := 28) 7 dJ1_indexOfChar_4cfef_28 (by decide) ?_
  refine Ru_iload (pc := 7) dJ1_indexOfChar_4cfef_7 rfl ?_
  refine Ru_iload_n (pc := 9) dJ1_indexOfChar_4cfef_9 rfl rfl ?_
  refine Ru_icmp_geN (pc := 10) 31 dJ1_indexOfChar_4cfef_10 (by decide) (by omega) (fun h => absurd h (by omega)) (fun h => ?_)
  refine Ru_aload_n (pc := 13) dJ1_indexOfChar_4cfef_13 rfl rfl ?_
  refine Ru_iload (pc := 14) dJ1_indexOfChar_4cfef_14 rfl ?_
  refine Ru_sbald (k := 1) (j := 2) (pc := 16) (by decide) (by decide) dJ1_indexOfChar_4cfef_16 ?_
  refine Ru_iload (pc := 17) dJ1_indexOfChar_4cfef_17 rfl ?_
  refine Ru_icmp_ne (pc := 19) 25 dJ1_indexOfChar_4cfef_19 (by decide) (fun h2 => ?_) (fun h2 => ?_)
  rotate_left
  · refine Ru_iload (pc := 22) dJ1_indexOfChar_4cfef_22 rfl ?_
    exact Ru_iret (pc := 24) dJ1_indexOfChar_4cfef_24 rfl ⟨Nat.le_refl _, Nat.le_refl _⟩ (kt (isSg_iff.mpr (by have := (sg_iff (j := 2) (by decide) hx).mp h2; omega)) 2 (by decide))
  have g2 : ¬ x = r_cd 1 2 := fun z => h2 ((sg_iff (j := 2) (by decide) hx).mpr z)
  refine Ru_iincN (pc := 25) 1 dJ1_indexOfChar_4cfef_25 rfl rfl rfl (by decide) ?_
  refine Ru_goto (pc := 28) 7 dJ1_indexOfChar_4cfef_28 (by decide) ?_
  refine Ru_iload (pc := 7) dJ1_indexOfChar_4cfef_7 rfl ?_
  refine Ru_iload_n (pc := 9) dJ1_indexOfChar_4cfef_9 rfl rfl ?_
  refine Ru_icmp_geN (pc := 10) 31 dJ1_indexOfChar_4cfef_10 (by decide) (by omega) (fun h => absurd h (by omega)) (fun h => ?_)
  refine Ru_aload_n (pc := 13) dJ1_indexOfChar_4cfef_13 rfl rfl ?_
  refine Ru_iload (pc := 14) dJ1_indexOfChar_4cfef_14 rfl ?_
  refine Ru_sbald (k := 1) (j := 3) (pc := 16) (by decide) (by decide) dJ1_indexOfChar_4cfef_16 ?_
  refine Ru_iload (pc := 17) dJ1_indexOfChar_4cfef_17 rfl ?_
  refine Ru_icmp_ne (pc := 19) 25 dJ1_indexOfChar_4cfef_19 (by decide) (fun h3 => ?_) (fun h3 => ?_)
  rotate_left
  · refine Ru_iload (pc := 22) dJ1_indexOfChar_4cfef_22 rfl ?_
    exact Ru_iret (pc := 24) dJ1_indexOfChar_4cfef_24 rfl ⟨Nat.le_refl _, Nat.le_refl _⟩ (kt (isSg_iff.mpr (by have := (sg_iff (j := 3) (by decide) hx).mp h3; omega)) 3 (by decide))
  have g3 : ¬ x = r_cd 1 3 := fun z => h3 ((sg_iff (j := 3) (by decide) hx).mpr z)
  refine Ru_iincN (pc := 25) 1 dJ1_indexOfChar_4cfef_25 rfl rfl rfl (by decide) ?_
  refine Ru_goto (pc := 28) 7 dJ1_indexOfChar_4cfef_28 (by decide) ?_
  refine Ru_iload (pc := 7) dJ1_indexOfChar_4cfef_7 rfl ?_
  refine Ru_iload_n (pc := 9) dJ1_indexOfChar_4cfef_9 rfl rfl ?_
  refine Ru_icmp_geN (pc := 10) 31 dJ1_indexOfChar_4cfef_10 (by decide) (by omega) (fun h => absurd h (by omega)) (fun h => ?_)
  refine Ru_aload_n (pc := 13) dJ1_indexOfChar_4cfef_13 rfl rfl ?_
  refine Ru_iload (pc := 14) dJ1_indexOfChar_4cfef_14 rfl ?_
  refine Ru_sbald (k := 1) (j := 4) (pc := 16) (by decide) (by decide) dJ1_indexOfChar_4cfef_16 ?_
  refine Ru_iload (pc := 17) dJ1_indexOfChar_4cfef_17 rfl ?_
  refine Ru_icmp_ne (pc := 19) 25 dJ1_indexOfChar_4cfef_19 (by decide) (fun h4 => ?_) (fun h4 => ?_)
  rotate_left
  · refine Ru_iload (pc := 22) dJ1_indexOfChar_4cfef_22 rfl ?_
    exact Ru_iret (pc := 24) dJ1_indexOfChar_4cfef_24 rfl ⟨Nat.le_refl _, Nat.le_refl _⟩ (kt (isSg_iff.mpr (by have := (sg_iff (j := 4) (by decide) hx).mp h4; omega)) 4 (by decide))
  have g4 : ¬ x = r_cd 1 4 := fun z => h4 ((sg_iff (j := 4) (by decide) hx).mpr z)
  refine Ru_iincN (pc := 25) 1 dJ1_indexOfChar_4cfef_25 rfl rfl rfl (by decide) ?_
  refine Ru_goto (pc := 28) 7 dJ1_indexOfChar_4cfef_28 (by decide) ?_
  refine Ru_iload (pc := 7) dJ1_indexOfChar_4cfef_7 rfl ?_
  refine Ru_iload_n (pc := 9) dJ1_indexOfChar_4cfef_9 rfl rfl ?_
  refine Ru_icmp_geN (pc := 10) 31 dJ1_indexOfChar_4cfef_10 (by decide) (by omega) (fun h => absurd h (by omega)) (fun h => ?_)
  refine Ru_aload_n (pc := 13) dJ1_indexOfChar_4cfef_13 rfl rfl ?_
  refine Ru_iload (pc := 14) dJ1_indexOfChar_4cfef_14 rfl ?_
  refine Ru_sbald (k := 1) (j := 5) (pc := 16) (by decide) (by decide) dJ1_indexOfChar_4cfef_16 ?_
  refine Ru_iload (pc := 17) dJ1_indexOfChar_4cfef_17 rfl ?_
  refine Ru_icmp_ne (pc := 19) 25 dJ1_indexOfChar_4cfef_19 (by decide) (fun h5 => ?_) (fun h5 => ?_)
  rotate_left
  · refine Ru_iload (pc := 22) dJ1_indexOfChar_4cfef_22 rfl ?_
    exact Ru_iret (pc := 24) dJ1_indexOfChar_4cfef_24 rfl ⟨Nat.le_refl _, Nat.le_refl _⟩ (kt (isSg_iff.mpr (by have := (sg_iff (j := 5) (by decide) hx).mp h5; omega)) 5 (by decide))
  have g5 : ¬ x = r_cd 1 5 := fun z => h5 ((sg_iff (j := 5) (by decide) hx).mpr z)
  refine Ru_iincN (pc := 25) 1 dJ1_indexOfChar_4cfef_25 rfl rfl rfl (by decide) ?_
  refine Ru_goto (pc := 28) 7 dJ1_indexOfChar_4cfef_28 (by decide) ?_
  refine Ru_iload (pc := 7) dJ1_indexOfChar_4cfef_7 rfl ?_
  refine Ru_iload_n (pc := 9) dJ1_indexOfChar_4cfef_9 rfl rfl ?_
  refine Ru_icmp_geN (pc := 10) 31 dJ1_indexOfChar_4cfef_10 (by decide) (by omega) (fun h => ?_) (fun h => absurd h (by omega))
  refine Ru_iconst (pc := 31) (-1) dJ1_indexOfChar_4cfef_31 rfl ?_
  exact Ru_iret (pc := 32) dJ1_indexOfChar_4cfef_32 rfl ⟨Nat.le_refl _, Nat.le_refl _⟩ (kf (decide_eq_false (by omega)))
theorem c_l1idx {x : Nat} {M : Mem} {Q : Rq} (hx : x < 256) (kt : isSg x = true → ∀ j, j < 6 → Q (some (.int (nI j))) GX M) (kf : isSg x = false → Q (some (.int (-1))) GX M) : Ca 1 mt_J1_indexOf_4cfef 0 0 [.ref (2000000 + 1), .int (nI x), .int (nI 0), .int (nI 6)] GX M Q := by
  refine Ca_ofF (by decide +kernel) (Nat.le_of_ble_eq_true rfl) ?_
  refine Ru_iload_n (pc := 0) dJ1_indexOf_4cfef_0 rfl rfl ?_
  refine Ru_csG (pc := 1) (As := [.int (nI x)]) (d' := 0) dJ1_indexOf_4cfef_1 ss_can (by decide) rfl rfl (Nat.le_of_ble_eq_true rfl) ⟨Nat.le_refl _, Nat.le_refl _⟩ ?_
  refine c_canEncode hx ?_
  refine Ru_if_neN (n := 1) (pc := 4) 9 dJ1_indexOf_4cfef_4 (by decide) (by decide) (fun h => ?_) (fun h => absurd h (by decide))
  refine Ru_iload_n (pc := 9) dJ1_indexOf_4cfef_9 rfl rfl ?_
  refine Ru_iconst (pc := 10) (nI 0) dJ1_indexOf_4cfef_10 rfl ?_
  refine Ru_csG (pc := 11) (As := [.int (nI 0), .int (nI 0)]) (d' := 0) dJ1_indexOf_4cfef_11 ss_max (by decide) rfl rfl (Nat.le_of_ble_eq_true rfl) ⟨Nat.le_refl _, Nat.le_refl _⟩ ?_
  refine c_X_maxN (a := 0) (b := 0) (by decide) (by decide) ?_
  refine Ru_istore_n (pc := 14) dJ1_indexOf_4cfef_14 rfl rfl (by decide) ?_
  refine Ru_iload_n (pc := 15) dJ1_indexOf_4cfef_15 rfl rfl ?_
  refine Ru_aload_n (pc := 16) dJ1_indexOf_4cfef_16 rfl rfl ?_
  refine Ru_slen (k := 1) (pc := 17) (by decide) dJ1_indexOf_4cfef_17 ?_
  refine Ru_csG (pc := 18) (As := [.int (nI 6), .int (nI (r_len.getD 1 0))]) (d' := 0) dJ1_indexOf_4cfef_18 ss_min (by decide) rfl rfl (Nat.le_of_ble_eq_true rfl) ⟨Nat.le_refl _, Nat.le_refl _⟩ ?_
  refine c_X_minN (a := 6) (b := r_len.getD 1 0) (by decide) (by decide) ?_
  refine Ru_istore_n (pc := 21) dJ1_indexOf_4cfef_21 rfl rfl (by decide) ?_
  refine Ru_iload_n (pc := 22) dJ1_indexOf_4cfef_22 rfl rfl ?_
  refine Ru_iload_n (pc := 23) dJ1_indexOf_4cfef_23 rfl rfl ?_
  refine Ru_icmp_ltN (n := 0) (m := 6) (pc := 24) 29 dJ1_indexOf_4cfef_24 (by decide) (by decide) (fun h => ?_) (fun h => absurd h (by decide))
  refine Ru_aload_n (pc := 29) dJ1_indexOf_4cfef_29 rfl rfl ?_
  refine Ru_iload_n (pc := 30) dJ1_indexOf_4cfef_30 rfl rfl ?_
  refine Ru_iload_n (pc := 31) dJ1_indexOf_4cfef_31 rfl rfl ?_
  refine Ru_iload_n (pc := 32) dJ1_indexOf_4cfef_32 rfl rfl ?_
  refine Ru_csG (pc := 33) (As := [.ref (2000000 + 1), .int (nI x), .int (nI 0), .int (nI 6)]) (d' := 0) dJ1_indexOf_4cfef_33 ss_ioc (by decide) rfl rfl (Nat.le_of_ble_eq_true rfl) ⟨Nat.le_refl _, Nat.le_refl _⟩ ?_
  refine c_ioChar hx (fun hs j hj => ?_) (fun hs => ?_)
  · exact Ru_iret (pc := 36) dJ1_indexOf_4cfef_36 rfl ⟨Nat.le_refl _, Nat.le_refl _⟩ (kt hs j hj)
  · exact Ru_iret (pc := 36) dJ1_indexOf_4cfef_36 rfl ⟨Nat.le_refl _, Nat.le_refl _⟩ (kf hs)
theorem c_sidx2 {x : Nat} {M : Mem} {Q : Rq} (hx : x < 256) (kt : isSg x = true → ∀ j, j < 6 → Q (some (.int (nI j))) GX M) (kf : isSg x = false → Q (some (.int (-1))) GX M) : Ca 2 mt_J0_indexOf_7cf53 0 0 [.ref (1000000 + 1), .int (nI x), .int (nI 0)] GX M Q := by
  refine Ca_ofF (by decide +kernel) (Nat.le_of_ble_eq_true rfl) ?_
  refine Ru_aload_n (pc := 0) dJ0_indexOf_7cf53_0 rfl rfl ?_
  refine Ru_callSV (pc := 1) (As := []) (d' := 0) (k := 1) (by decide) dJ0_indexOf_7cf53_1 sv_isLatin1 (by decide) rfl rfl (Nat.le_of_ble_eq_true rfl) ⟨Nat.le_refl _, Nat.le_refl _⟩ ?_
  refine c_isLatin1 (k := 1) (by decide) ?_
  refine Ru_if_eqN (n := 1) (pc := 4) 23 dJ0_indexOf_7cf53_4 (by decide) (by decide) (fun h => absurd h (by decide)) (fun h => ?_)
  refine Ru_aload_n (pc := 7) dJ0_indexOf_7cf53_7 rfl rfl ?_
  refine Ru_sval (k := 1) (pc := 8) (by decide) dJ0_indexOf_7cf53_8 tw_2183 ?_
  refine Ru_iload_n (pc := 11) dJ0_indexOf_7cf53_11 rfl rfl ?_
  refine Ru_iload_n (pc := 12) dJ0_indexOf_7cf53_12 rfl rfl ?_
  refine Ru_aload_n (pc := 13) dJ0_indexOf_7cf53_13 rfl rfl ?_
  refine Ru_callSV (pc := 14) (As := []) (d' := 1) (k := 1) (by decide) dJ0_indexOf_7cf53_14 sv_length (by decide) rfl rfl (Nat.le_of_ble_eq_true rfl) ⟨Nat.le_refl _, Nat.le_refl _⟩ ?_
  refine c_slength (k := 1) (by decide) ?_
  refine Ru_csG (pc := 17) (As := [.ref (2000000 + 1), .int (nI x), .int (nI 0), .int (nI 6)]) (d' := 1) dJ0_indexOf_7cf53_17 ss_idx (by decide) rfl rfl (Nat.le_of_ble_eq_true rfl) ⟨Nat.le_refl _, Nat.le_refl _⟩ ?_
  refine c_l1idx hx (fun hs j hj => ?_) (fun hs => ?_)
  · refine Ru_goto (pc := 20) 36 dJ0_indexOf_7cf53_20 (by decide) ?_
    exact Ru_iret (pc := 36) dJ0_indexOf_7cf53_36 rfl ⟨Nat.le_refl _, Nat.le_refl _⟩ (kt hs j hj)
  · refine Ru_goto (pc := 20) 36 dJ0_indexOf_7cf53_20 (by decide) ?_
    exact Ru_iret (pc := 36) dJ0_indexOf_7cf53_36 rfl ⟨Nat.le_refl _, Nat.le_refl _⟩ (kf hs)
theorem c_sidx {x : Nat} {M : Mem} {Q : Rq} (hx : x < 256) (kt : isSg x = true → ∀ j, j < 6 → Q (some (.int (nI j))) GX M) (kf : isSg x = false → Q (some (.int (-1))) GX M) : Ca 3 mt_J0_indexOf_0f7a4 0 0 [.ref (1000000 + 1), .int (nI x)] GX M Q := by
  refine Ca_ofF (by decide +kernel) (Nat.le_of_ble_eq_true rfl) ?_
  refine Ru_aload_n (pc := 0) dJ0_indexOf_0f7a4_0 rfl rfl ?_
  refine Ru_iload_n (pc := 1) dJ0_indexOf_0f7a4_1 rfl rfl ?_
  refine Ru_iconst (pc := 2) (nI 0) dJ0_indexOf_0f7a4_2 rfl ?_
  refine Ru_callSV (pc := 3) (As := [.int (nI x), .int (nI 0)]) (d' := 2) (k := 1) (by decide) dJ0_indexOf_0f7a4_3 sv_indexOf2 (by decide) rfl rfl (Nat.le_of_ble_eq_true rfl) ⟨Nat.le_refl _, Nat.le_refl _⟩ ?_
  refine c_sidx2 hx (fun hs j hj => ?_) (fun hs => ?_)
  · exact Ru_iret (pc := 6) dJ0_indexOf_0f7a4_6 rfl ⟨Nat.le_refl _, Nat.le_refl _⟩ (kt hs j hj)
  · exact Ru_iret (pc := 6) dJ0_indexOf_0f7a4_6 rfl ⟨Nat.le_refl _, Nat.le_refl _⟩ (kf hs)

