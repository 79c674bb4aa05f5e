theorem l_X12_nothingBehind {Q : Rq} {M0 : Mem} (k : ∀ M', (∀ k, k < 256 → M'.1 10 k = nI 0) → r_fx [] [10] M0 M' → Q none GY M') : ∀ (zw : Nat) (n : Nat) (M : Mem), 256 - n = zw → (n ≤ 256) → (∀ k, k < n → M.1 10 k = nI 0) → (r_fx [] [10] M0 M) → Ru 0 mt_X12_nothingBehind r_z 2 [(1, some (.int (nI n))), (0, some (.ref 0))] [] GY M Q := by
  intro zw
  induction zw using Nat.strongRecOn with
  | ind zw ih =>
    intro n M hw hn h10 fx
    subst hw
    refine Ru_iload_n (pc := 2) dX12_nothingBehind_2 rfl rfl ?_
    refine Ru_sipush (pc := 3) (nI 256) dX12_nothingBehind_3 rfl ?_
    refine Ru_icmp_geN (pc := 6) 22 dX12_nothingBehind_6 (by decide) (by omega) (fun h1 => ?_) (fun h1 => ?_)
    · refine Ru_vret (pc := 22) dX12_nothingBehind_22 rfl ⟨Nat.le_refl _, Nat.le_refl _⟩ ?_
      have e8 : n = 256 := by omega
      subst e8
      exact k _ h10 fx
    · refine Ru_aload_n (pc := 9) dX12_nothingBehind_9 rfl rfl ?_
      refine Ru_getR (pc := 10) 10 dX12_nothingBehind_10 fl_X12_51 rfl rfl rfl ?_
      refine Ru_iload_n (pc := 13) dX12_nothingBehind_13 rfl rfl ?_
      refine Ru_iconst (pc := 14) (nI 0) dX12_nothingBehind_14 rfl ?_
      refine Ru_iast (pc := 15) rfl dX12_nothingBehind_15 rfl (by omega) ?_
      refine Ru_iincN (pc := 16) 1 dX12_nothingBehind_16 rfl rfl rfl (by decide) ?_
      refine Ru_goto (pc := 19) 2 dX12_nothingBehind_19 (by decide) ?_
      exact Ru_weak (ih (256 - (n + 1)) (by omega) (n + 1) _ rfl (by omega) (r_ext h10 rfl) (r_fx.sI rfl fx)) rfl

theorem c_X12_nothingBehind {Q : Rq} {M : Mem} (k : ∀ M', (∀ k, k < 256 → M'.1 10 k = nI 0) → r_fx [] [10] M M' → Q none GY M') : Ca 0 mt_X12_nothingBehind 0 0 [.ref 0] GY M Q := by
  refine Ca_of rfl (Nat.le_of_ble_eq_true rfl) ?_
  refine Ru_iconst (pc := 0) (nI 0) dX12_nothingBehind_0 rfl ?_
  refine Ru_istore_n (pc := 1) dX12_nothingBehind_1 rfl rfl (by decide) ?_
  exact Ru_weak (l_X12_nothingBehind k 256 0 M rfl (by omega) (fun k hk => by omega) r_fx.rf) rfl

theorem l_X12_tellDay1 {Q : Rq} {M0 : Mem} {d : Td} {B : Nat → Nat} {C : Nat} (hc0 : ∀ k, k < 521 → M0.1 5 k = nI (d k)) (wf : Wf d) (hB0 : ∀ s, s < 2 ^ d 0 → M0.1 10 s = nI (B s)) (hB : ∀ s, B s ≤ C) (hC : C ≤ 10000000) {k tt : Nat} (hk : k ≤ 24) (htt : tt + k = 24) (kk : ∀ M, (∀ t s, 24 < t + k → t ≤ 24 → s < 2 ^ d 0 → M.1 8 (256 * t + s) = nI (dV d B k t s)) → (∀ s, s < 2 ^ d 0 → M.1 8 (256 * tt + s) = nI (dRow d B (dV d B k) tt s)) → r_fx [(0, 45), (0, 46), (0, 47)] [8] M0 M → Ru 4 mt_X12_tellDay r_z 81 [(1, some (.int (nI tt))), (0, some (.ref 0))] [] GY M Q) : ∀ (zw : Nat) (n : Nat) (M : Mem), 2 ^ d 0 - n = zw → (n ≤ 2 ^ d 0) → (∀ t s, 24 < t + k → t ≤ 24 → s < 2 ^ d 0 → M.1 8 (256 * t + s) = nI (dV d B k t s)) → (∀ s, s < n → M.1 8 (256 * tt + s) = nI (dRow d B (dV d B k) tt s)) → (r_fx [(0, 45), (0, 46), (0, 47)] [8] M0 M) → Ru 4 mt_X12_tellDay r_z 9 [(2, some (.int (nI n))), (1, some (.int (nI tt))), (0, some (.ref 0))] [] GY M Q := by
  intro zw
  induction zw using Nat.strongRecOn with
  | ind zw ih =>
    intro n M hw hn g1 g2 fx
    subst hw
    have hb := wf.1
    have hp := pw_le hb.1
    have hc : ∀ k, k < 521 → M.1 5 k = nI (d k) := fun k hk => (fx 5 k rfl).1.trans (hc0 k hk)
    have hVb : ∀ t s, dV d B k t s ≤ 100000000 := fun t s => by
      have := dV_b3 wf hB (show k ≤ 25 by omega) t s
      omega
    refine Ru_iload_n (pc := 9) dX12_tellDay_9 rfl rfl ?_
    refine Ru_iconst (pc := 10) (nI 1) dX12_tellDay_10 rfl ?_
    refine Ru_aload_n (pc := 11) dX12_tellDay_11 rfl rfl ?_
    refine Ru_getR (pc := 12) 5 dX12_tellDay_12 fl_X12_35 rfl rfl rfl ?_
    refine Ru_iconst (pc := 15) (nI 0) dX12_tellDay_15 rfl ?_
    refine Ru_iald (pc := 16) dX12_tellDay_16 rfl (by omega) ?_
    refine Ru_top (hc 0 (by omega)) ?_
    refine Ru_ishl1N (pc := 17) dX12_tellDay_17 (by omega) ?_
    refine Ru_icmp_geN (pc := 18) 81 dX12_tellDay_18 (by decide) (by omega) (fun h1 => ?_) (fun h1 => ?_)
    · have en : n = 2 ^ d 0 := by omega
      subst en
      exact Ru_weak (kk _ g1 g2 fx) rfl
    · refine Ru_aload_n (pc := 21) dX12_tellDay_21 rfl rfl ?_
      refine Ru_iload_n (pc := 22) dX12_tellDay_22 rfl rfl ?_
      refine Ru_iload_n (pc := 23) dX12_tellDay_23 rfl rfl ?_
      refine Ru_cv2 (pc := 24) dX12_tellDay_24 mv_X12_436 rfl (by decide) (Nat.le_of_ble_eq_true rfl) (c_X12_take hc wf (by omega) (by omega) (fun M2 gx2 g45 g46 g47 => ?_)) 
      have fx2 := fx.tr (gx2.mono (F' := [(0, 45), (0, 46), (0, 47)]) (A' := [8]) rfl)
      have hc2 : ∀ k, k < 521 → M2.1 5 k = nI (d k) := fun k hk => (fx2 5 k rfl).1.trans (hc0 k hk)
      refine Ru_aload_n (pc := 27) dX12_tellDay_27 rfl rfl ?_
      refine Ru_getI (pc := 28) dX12_tellDay_28 fl_X12_427 rfl rfl ?_
      refine Ru_top g45 ?_
      have hle := wT_le d tt n
      refine Ru_istore_n (pc := 31) dX12_tellDay_31 rfl rfl (by decide) ?_
      refine Ru_aload_n (pc := 32) dX12_tellDay_32 rfl rfl ?_
      refine Ru_getI (pc := 33) dX12_tellDay_33 fl_X12_430 rfl rfl ?_
      refine Ru_top g46 ?_
      refine Ru_istore (pc := 36) dX12_tellDay_36 rfl (by decide) ?_
      refine Ru_aload_n (pc := 38) dX12_tellDay_38 rfl rfl ?_
      refine Ru_getR (pc := 39) 8 dX12_tellDay_39 fl_X12_45 rfl rfl rfl ?_
      refine Ru_sipush (pc := 42) (nI 256) dX12_tellDay_42 rfl ?_
      refine Ru_iload_n (pc := 45) dX12_tellDay_45 rfl rfl ?_
      refine Ru_imulN (pc := 46) dX12_tellDay_46 ?_
      refine Ru_iload_n (pc := 47) dX12_tellDay_47 rfl rfl ?_
      refine Ru_iaddN (pc := 48) dX12_tellDay_48 ?_
      refine Ru_iload_n (pc := 49) dX12_tellDay_49 rfl rfl ?_
      refine Ru_iload_n (pc := 50) dX12_tellDay_50 rfl rfl ?_
      refine Ru_bipush (pc := 51) (nI 24) dX12_tellDay_51 rfl ?_
      refine Ru_icmp_neN (pc := 53) 66 dX12_tellDay_53 (by decide) (by omega) (fun h2 => ?_) (fun h2 => ?_)
      · have hV2 : ∀ t' s', tt < t' → t' ≤ 24 → s' < 2 ^ d 0 → M2.1 8 (256 * t' + s') = nI (dV d B k t' s') := fun t' s' h1 h2 h3 => (gx2 8 _ rfl).1.trans (g1 t' s' (by omega) h2 h3)
        refine Ru_aload_n (pc := 66) dX12_tellDay_66 rfl rfl ?_
        refine Ru_iload_n (pc := 67) dX12_tellDay_67 rfl rfl ?_
        refine Ru_iload (pc := 68) dX12_tellDay_68 rfl ?_
        refine Ru_cv2 (pc := 70) dX12_tellDay_70 mv_X12_442 rfl (by decide) (Nat.le_of_ble_eq_true rfl) (c_X12_mostFrom (V := dV d B k) hc2 wf (by omega) (show (wT d tt n).1 < 2 ^ d 0 by omega) hV2 hVb (fun M3 gx3 => ?_)) 
        have fx3 := fx2.tr (gx3.mono (F' := [(0, 45), (0, 46), (0, 47)]) (A' := [8]) rfl)
        refine Ru_iaddN (pc := 73) dX12_tellDay_73 ?_
        refine Ru_iast (pc := 74) rfl dX12_tellDay_74 rfl (by omega) ?_
        refine Ru_iincN (pc := 75) 1 dX12_tellDay_75 rfl rfl rfl (by decide) ?_
        refine Ru_goto (pc := 78) 9 dX12_tellDay_78 (by decide) ?_
        have e : dRow d B (dV d B k) tt n = (wT d tt n).2.1 + dMf d (dV d B k) tt (wT d tt n).1 (d 1) := by
          unfold dRow
          rw [if_neg (by omega)]
        refine Ru_weak (ih (2 ^ d 0 - (n + 1)) (by omega) (n + 1) _ rfl (by omega) (fun t s h1 h2 h3 => ?_) (fun s hs => ?_) (r_fx.sI rfl fx3)) rfl
        · rw [r_sI_n (by omega)]
          exact ((gx3 8 _ rfl).1.trans (gx2 8 _ rfl).1).trans (g1 t s h1 h2 h3)
        · rw [r_sI_g]
          by_cases es : s = n
          · subst es
            rw [if_pos ⟨rfl, rfl⟩, e]
          · rw [if_neg (by omega)]
            exact ((gx3 8 _ rfl).1.trans (gx2 8 _ rfl).1).trans (g2 s (by omega))
      · refine Ru_aload_n (pc := 56) dX12_tellDay_56 rfl rfl ?_
        refine Ru_getR (pc := 57) 10 dX12_tellDay_57 fl_X12_51 rfl rfl rfl ?_
        refine Ru_iload (pc := 60) dX12_tellDay_60 rfl ?_
        refine Ru_iald (pc := 62) dX12_tellDay_62 rfl (by omega) ?_
        refine Ru_top ((fx2 10 _ rfl).1.trans (hB0 _ (by omega))) ?_
        refine Ru_goto (pc := 63) 73 dX12_tellDay_63 (by decide) ?_
        refine Ru_iaddN (pc := 73) dX12_tellDay_73 ?_
        refine Ru_iast (pc := 74) rfl dX12_tellDay_74 rfl (by omega) ?_
        refine Ru_iincN (pc := 75) 1 dX12_tellDay_75 rfl rfl rfl (by decide) ?_
        refine Ru_goto (pc := 78) 9 dX12_tellDay_78 (by decide) ?_
        have e : dRow d B (dV d B k) tt n = (wT d tt n).2.1 + B (wT d tt n).1 := by
          unfold dRow
          rw [if_pos (by omega)]
        refine Ru_weak (ih (2 ^ d 0 - (n + 1)) (by omega) (n + 1) _ rfl (by omega) (fun t s h1 h2 h3 => ?_) (fun s hs => ?_) (r_fx.sI rfl fx2)) rfl
        · rw [r_sI_n (by omega)]
          exact (gx2 8 _ rfl).1.trans (g1 t s h1 h2 h3)
        · rw [r_sI_g]
          by_cases es : s = n
          · subst es
            rw [if_pos ⟨rfl, rfl⟩, e]
          · rw [if_neg (by omega)]
            exact (gx2 8 _ rfl).1.trans (g2 s (by omega))

theorem l_X12_tellDay2 {Q : Rq} {M0 : Mem} {d : Td} {B : Nat → Nat} {C : Nat} (hc0 : ∀ k, k < 521 → M0.1 5 k = nI (d k)) (wf : Wf d) (hB0 : ∀ s, s < 2 ^ d 0 → M0.1 10 s = nI (B s)) (hB : ∀ s, B s ≤ C) (hC : C ≤ 10000000) (k : ∀ M', (∀ t s, t ≤ 24 → s < 2 ^ d 0 → M'.1 8 (256 * t + s) = nI (dA d B t s)) → r_fx [(0, 45), (0, 46), (0, 47)] [8] M0 M' → Q none GY M') : ∀ (zw : Nat) (j : Nat) (M : Mem), 25 - j = zw → (j ≤ 25) → (∀ t s, 24 < t + j → t ≤ 24 → s < 2 ^ d 0 → M.1 8 (256 * t + s) = nI (dV d B j t s)) → (r_fx [(0, 45), (0, 46), (0, 47)] [8] M0 M) → Ru 4 mt_X12_tellDay r_z 3 [(1, some (.int (nM (25 - j)))), (0, some (.ref 0))] [] GY M Q := by
  intro zw
  induction zw using Nat.strongRecOn with
  | ind zw ih =>
    intro j M hw hj hst fx
    subst hw
    have hz : (nM (25 - j)).toInt = ((25 - j : Nat) : Int) - 1 := nM_t (by omega)
    refine Ru_iload_n (pc := 3) dX12_tellDay_3 rfl rfl ?_
    refine Ru_if_ltT (pc := 4) 87 dX12_tellDay_4 (by decide) (fun h1 => ?_) (fun h1 => ?_)
    · refine Ru_vret (pc := 87) dX12_tellDay_87 rfl ⟨Nat.le_refl _, Nat.le_refl _⟩ ?_
      have ej : j = 25 := by omega
      subst ej
      exact k _ (fun t s h1 h2 => hst t s (by omega) h1 h2) fx
    · obtain ⟨tt, etj⟩ : ∃ tt, 25 - j = tt + 1 := ⟨24 - j, by omega⟩
      rw [etj]
      refine Ru_weak (L' := [(1, some (.int (nI tt))), (0, some (.ref 0))]) ?_ rfl
      refine Ru_iconst (pc := 7) (nI 0) dX12_tellDay_7 rfl ?_
      refine Ru_istore_n (pc := 8) dX12_tellDay_8 rfl rfl (by decide) ?_
      refine Ru_weak (l_X12_tellDay1 (M0 := M0) (B := B) (k := j) (tt := tt) hc0 wf hB0 hB hC (by omega) (by omega) (fun M2 g1 g2 gx => ?_) (2 ^ d 0) 0 M rfl (Nat.zero_le _) hst (fun s hs => by omega) fx) rfl
      refine Ru_iinc (pc := 81) _ dX12_tellDay_81 rfl rfl rfl (by decide) ?_
      refine Ru_goto (pc := 84) 3 dX12_tellDay_84 (by decide) ?_
      rw [nM_dec (by omega), show tt = 25 - (j + 1) by omega]
      refine Ru_weak (ih (25 - (j + 1)) (by omega) (j + 1) M2 rfl (by omega) (fun t s h1 h2 h3 => ?_) gx) rfl
      have hq : dV d B (j + 1) t s = if t = 24 - j then dRow d B (dV d B j) t s else dV d B j t s := rfl
      rw [hq]
      by_cases et : t = 24 - j
      · rw [if_pos et, et, show 24 - j = tt by omega]
        exact g2 s h3
      · rw [if_neg et]
        exact g1 t s (by omega) h2 h3

theorem c_X12_tellDay {Q : Rq} {M : Mem} {d : Td} {B : Nat → Nat} {C : Nat} (hc0 : ∀ k, k < 521 → M.1 5 k = nI (d k)) (wf : Wf d) (hB0 : ∀ s, s < 2 ^ d 0 → M.1 10 s = nI (B s)) (hB : ∀ s, B s ≤ C) (hC : C ≤ 10000000) (k : ∀ M', (∀ t s, t ≤ 24 → s < 2 ^ d 0 → M'.1 8 (256 * t + s) = nI (dA d B t s)) → r_fx [(0, 45), (0, 46), (0, 47)] [8] M M' → Q none GY M') : Ca 4 mt_X12_tellDay 0 0 [.ref 0] GY M Q := by
  refine Ca_of rfl (Nat.le_of_ble_eq_true rfl) ?_
  refine Ru_bipush (pc := 0) (nI 24) dX12_tellDay_0 rfl ?_
  refine Ru_istore_n (pc := 2) dX12_tellDay_2 rfl rfl (by decide) ?_
  exact Ru_weak (l_X12_tellDay2 (M0 := M) hc0 wf hB0 hB hC k 25 0 M rfl (Nat.zero_le _) (fun t s h1 h2 h3 => by omega) r_fx.rf) rfl
