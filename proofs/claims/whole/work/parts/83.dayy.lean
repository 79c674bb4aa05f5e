-- ONE DAY ALONE: the reference
theorem dV_0 {d : Td} {B : Nat → Nat} {t s : Nat} : ∀ k, ¬ (24 < t + k ∧ t ≤ 24) → k ≤ 25 → dV d B k t s = 0
  | 0, _, _ => rfl
  | k + 1, h, hk => by
    show (if t = 24 - k then _ else _) = _
    rw [if_neg (by omega)]
    exact dV_0 k (by omega) (by omega)
theorem dV_b3 {d : Td} (wf : Wf d) {B : Nat → Nat} {C : Nat} (hB : ∀ s, B s ≤ C) {k : Nat} (hk : k ≤ 25) (t s : Nat) : dV d B k t s ≤ C + 199800 := by
  by_cases h : 24 < t + k ∧ t ≤ 24
  · have := dV_b wf hB k hk t s h.1 h.2
    omega
  · rw [dV_0 k h hk]
    omega
theorem dBm_b2 {d : Td} (wf : Wf d) {V : Vt} {m t s C : Nat} (hm : m < d 1) (hV : ∀ t' s', V t' s' ≤ C) : dBm d V m t s ≤ C + 191808 := by
  have hw := (wf.2.2.2.2.1 m hm).2.1
  have h1 := wR_b wf (r_dif s (d (65 + m)), 0, 0) (t + 1) (d (41 + m) - 1)
  have h2 := hV (t + d (41 + m)) ((wR d (r_dif s (d (65 + m)), 0, 0) (t + 1) (d (41 + m) - 1)).1 ||| 2 ^ d (29 + m))
  unfold dBm
  simp only [] at h1
  omega
theorem dMf_b2 {d : Td} (wf : Wf d) {V : Vt} {t s C : Nat} (hV : ∀ t' s', V t' s' ≤ C) : ∀ m, m ≤ d 1 → dMf d V t s m ≤ C + 191808
  | 0, _ => by
    have := hV (t + 1) s
    rw [dMf]
    omega
  | m + 1, hm => by
    have ih := dMf_b2 wf (t := t) (s := s) hV m (by omega)
    rw [dMf]
    split
    · have := dBm_b2 wf (t := t) (s := s) (show m < d 1 by omega) hV
      omega
    · exact ih
theorem wTk_le (d : Td) (t s : Nat) : ∀ k, (wTk d t s k).1 ≤ s
  | k => by
    rw [wTk_eq]
    exact wAll1_le _ _

theorem l_X12_take {Q : Rq} {M0 : Mem} {d : Td} {t s : Nat} (hc0 : ∀ k, k < 521 → M0.1 5 k = nI (d k)) (wf : Wf d) (ht : t ≤ 24) (hs : s < 256) (k : ∀ M', r_fx [(0, 45), (0, 46), (0, 47)] [] M0 M' → M'.1 0 45 = nI (wT d t s).2.1 → M'.1 0 46 = nI (wT d t s).1 → M'.1 0 47 = nI (wT d t s).2.2 → Q none GY M') : ∀ (zw : Nat) (n : Nat) (M : Mem), d 3 - n = zw → (n ≤ d 3) → (r_fx [(0, 45), (0, 46), (0, 47)] [] M0 M) → (M.1 0 45 = nI (wTk d t s n).2.1) → (M.1 0 46 = nI (wTk d t s n).1) → (M.1 0 47 = nI (wTk d t s n).2.2) → Ru 1 mt_X12_take r_z 17 [(3, some (.int (nI n))), (0, some (.ref 0)), (1, some (.int (nI t))), (2, some (.int (nI s)))] [] GY M Q := by
  intro zw
  induction zw using Nat.strongRecOn with
  | ind zw ih =>
    intro n M hw hn fx h45 h46 h47
    subst hw
    have hb := wf.1
    have hc : ∀ k, k < 521 → M.1 5 k = nI (d k) := fun k hk => (fx 5 k rfl).1.trans (hc0 k hk)
    have hle := wTk_le d t s n
    have hwb := wTk_b wf t s n hn
    have hev : ∀ k, k < 8 → d (131 + k) ≤ 1 := fun k hk => (wf.2.1 k hk).2.2.2
    refine Ru_iload_n (pc := 17) dX12_take_17 rfl rfl ?_
    refine Ru_aload_n (pc := 18) dX12_take_18 rfl rfl ?_
    refine Ru_getR (pc := 19) 5 dX12_take_19 fl_X12_35 rfl rfl rfl ?_
    refine Ru_iconst (pc := 22) (nI 3) dX12_take_22 rfl ?_
    refine Ru_iald (pc := 23) dX12_take_23 rfl (by omega) ?_
    refine Ru_top (hc 3 (by omega)) ?_
    refine Ru_icmp_geN (pc := 24) 132 dX12_take_24 (by decide) (by omega) (fun h1 => ?_) (fun h1 => ?_)
    · refine Ru_vret (pc := 132) dX12_take_132 rfl ⟨Nat.le_refl _, Nat.le_refl _⟩ ?_
      have en : n = d 3 := by omega
      subst en
      exact k _ fx h45 h46 h47
    · have hw7 := wf.2.2.2.2.2.2 n (by omega)
      have hev7 := hev n (by omega)
      refine Ru_aload_n (pc := 27) dX12_take_27 rfl rfl ?_
      refine Ru_getR (pc := 28) 5 dX12_take_28 fl_X12_35 rfl rfl rfl ?_
      refine Ru_bipush (pc := 31) (nI 115) dX12_take_31 rfl ?_
      refine Ru_iload_n (pc := 33) dX12_take_33 rfl rfl ?_
      refine Ru_iaddN (pc := 34) dX12_take_34 ?_
      refine Ru_iald (pc := 35) dX12_take_35 rfl (by omega) ?_
      refine Ru_top (hc (115 + n) (by omega)) ?_
      refine Ru_iload_n (pc := 36) dX12_take_36 rfl rfl ?_
      refine Ru_icmp_neN (pc := 37) 126 dX12_take_37 (by decide) (by omega) (fun h2 => ?_) (fun h2 => ?_)
      · refine Ru_iincN (pc := 126) 1 dX12_take_126 rfl rfl rfl (by decide) ?_
        refine Ru_goto (pc := 129) 17 dX12_take_129 (by decide) ?_
        have e : wTk d t s (n + 1) = wTk d t s n := by
          rw [wTk, if_neg (by omega)]
        exact Ru_weak (ih (d 3 - (n + 1)) (by omega) (n + 1) _ rfl (by omega) fx (by rw [e]; exact h45) (by rw [e]; exact h46) (by rw [e]; exact h47)) rfl
      · refine Ru_aload_n (pc := 40) dX12_take_40 rfl rfl ?_
        refine Ru_getI (pc := 41) dX12_take_41 fl_X12_430 rfl rfl ?_
        refine Ru_top h46 ?_
        refine Ru_aload_n (pc := 44) dX12_take_44 rfl rfl ?_
        refine Ru_getR (pc := 45) 5 dX12_take_45 fl_X12_35 rfl rfl rfl ?_
        refine Ru_bipush (pc := 48) (nI 107) dX12_take_48 rfl ?_
        refine Ru_iload_n (pc := 50) dX12_take_50 rfl rfl ?_
        refine Ru_iaddN (pc := 51) dX12_take_51 ?_
        refine Ru_iald (pc := 52) dX12_take_52 rfl (by omega) ?_
        refine Ru_top (hc (107 + n) (by omega)) ?_
        refine Ru_cs2 (pc := 53) dX12_take_53 ms_X12_372 (by decide) (Nat.le_of_ble_eq_true rfl) (c_X12_has (by omega) (by omega) ?_) 
        refine Ru_if_neB (pc := 56) 62 dX12_take_56 (by decide) (fun h3 => ?_) (fun h3 => ?_)
        · refine Ru_aload_n (pc := 62) dX12_take_62 rfl rfl ?_
          refine Ru_dup (pc := 63) dX12_take_63 rfl ?_
          refine Ru_getI (pc := 64) dX12_take_64 fl_X12_427 rfl rfl ?_
          refine Ru_top h45 ?_
          refine Ru_aload_n (pc := 67) dX12_take_67 rfl rfl ?_
          refine Ru_getR (pc := 68) 5 dX12_take_68 fl_X12_35 rfl rfl rfl ?_
          refine Ru_bipush (pc := 71) (nI 123) dX12_take_71 rfl ?_
          refine Ru_iload_n (pc := 73) dX12_take_73 rfl rfl ?_
          refine Ru_iaddN (pc := 74) dX12_take_74 ?_
          refine Ru_iald (pc := 75) dX12_take_75 rfl (by omega) ?_
          refine Ru_top (hc (123 + n) (by omega)) ?_
          refine Ru_iaddN (pc := 76) dX12_take_76 ?_
          refine Ru_putI (pc := 77) rfl dX12_take_77 fl_X12_427 rfl ?_
          refine Ru_aload_n (pc := 80) dX12_take_80 rfl rfl ?_
          refine Ru_dup (pc := 81) dX12_take_81 rfl ?_
          refine Ru_getI (pc := 82) dX12_take_82 fl_X12_433 rfl rfl ?_
          refine Ru_top ((r_sI_n (by decide)).trans h47) ?_
          refine Ru_iconst (pc := 85) (nI 1) dX12_take_85 rfl ?_
          refine Ru_iaddN (pc := 86) dX12_take_86 ?_
          refine Ru_putI (pc := 87) rfl dX12_take_87 fl_X12_433 rfl ?_
          refine Ru_aload_n (pc := 90) dX12_take_90 rfl rfl ?_
          refine Ru_getR (pc := 91) 5 dX12_take_91 fl_X12_35 rfl rfl rfl ?_
          refine Ru_sipush (pc := 94) (nI 131) dX12_take_94 rfl ?_
          refine Ru_iload_n (pc := 97) dX12_take_97 rfl rfl ?_
          refine Ru_iaddN (pc := 98) dX12_take_98 ?_
          refine Ru_iald (pc := 99) dX12_take_99 rfl (by omega) ?_
          refine Ru_top ((r_sI_n (by omega)).trans ((r_sI_n (by omega)).trans (hc (131 + n) (by omega)))) ?_
          refine Ru_iconst (pc := 100) (nI 1) dX12_take_100 rfl ?_
          refine Ru_icmp_neN (pc := 101) 126 dX12_take_101 (by decide) (by omega) (fun h4 => ?_) (fun h4 => ?_)
          · refine Ru_iincN (pc := 126) 1 dX12_take_126 rfl rfl rfl (by decide) ?_
            refine Ru_goto (pc := 129) 17 dX12_take_129 (by decide) ?_
            have e : wTk d t s (n + 1) = ((wTk d t s n).1, (wTk d t s n).2.1 + d (123 + n), (wTk d t s n).2.2 + 1) := by
              rw [wTk, if_pos (by omega)]
              unfold wSat
              rw [if_pos (by assumption), if_neg (by omega)]
            exact Ru_weak (ih (d 3 - (n + 1)) (by omega) (n + 1) _ rfl (by omega) (r_fx.sI rfl (r_fx.sI rfl fx)) (by rw [e]; simp [r_sI_g]) (by rw [e]; simp [r_sI_g]; exact h46) (by rw [e]; simp [r_sI_g])) rfl
          · refine Ru_aload_n (pc := 104) dX12_take_104 rfl rfl ?_
            refine Ru_dup (pc := 105) dX12_take_105 rfl ?_
            refine Ru_getI (pc := 106) dX12_take_106 fl_X12_430 rfl rfl ?_
            refine Ru_top ((r_sI_n (by decide)).trans ((r_sI_n (by decide)).trans h46)) ?_
            refine Ru_iconst (pc := 109) (nI 1) dX12_take_109 rfl ?_
            refine Ru_aload_n (pc := 110) dX12_take_110 rfl rfl ?_
            refine Ru_getR (pc := 111) 5 dX12_take_111 fl_X12_35 rfl rfl rfl ?_
            refine Ru_bipush (pc := 114) (nI 107) dX12_take_114 rfl ?_
            refine Ru_iload_n (pc := 116) dX12_take_116 rfl rfl ?_
            refine Ru_iaddN (pc := 117) dX12_take_117 ?_
            refine Ru_iald (pc := 118) dX12_take_118 rfl (by omega) ?_
            refine Ru_top ((r_sI_n (by omega)).trans ((r_sI_n (by omega)).trans (hc (107 + n) (by omega)))) ?_
            refine Ru_ishl1N (pc := 119) dX12_take_119 (by omega) ?_
            refine Ru_iconst (pc := 120) (-1) dX12_take_120 rfl ?_
            refine Ru_ixor (pc := 121) dX12_take_121 ?_
            refine Ru_idifN (pc := 122) dX12_take_122 ?_
            refine Ru_putI (pc := 123) rfl dX12_take_123 fl_X12_430 rfl ?_
            refine Ru_iincN (pc := 126) 1 dX12_take_126 rfl rfl rfl (by decide) ?_
            refine Ru_goto (pc := 129) 17 dX12_take_129 (by decide) ?_
            have e : wTk d t s (n + 1) = (r_dif (wTk d t s n).1 (2 ^ d (107 + n)), (wTk d t s n).2.1 + d (123 + n), (wTk d t s n).2.2 + 1) := by
              rw [wTk, if_pos (by omega)]
              unfold wSat
              rw [if_pos (by assumption), if_pos (by omega)]
            exact Ru_weak (ih (d 3 - (n + 1)) (by omega) (n + 1) _ rfl (by omega) (r_fx.sI rfl (r_fx.sI rfl (r_fx.sI rfl fx))) (by rw [e]; simp [r_sI_g]) (by rw [e]; simp [r_sI_g]) (by rw [e]; simp [r_sI_g])) rfl
        · refine Ru_goto (pc := 59) 126 dX12_take_59 (by decide) ?_
          refine Ru_iincN (pc := 126) 1 dX12_take_126 rfl rfl rfl (by decide) ?_
          refine Ru_goto (pc := 129) 17 dX12_take_129 (by decide) ?_
          have e : wTk d t s (n + 1) = wTk d t s n := by
            rw [wTk, if_pos (by omega)]
            unfold wSat
            rw [if_neg (by simp_all)]
          exact Ru_weak (ih (d 3 - (n + 1)) (by omega) (n + 1) _ rfl (by omega) fx (by rw [e]; exact h45) (by rw [e]; exact h46) (by rw [e]; exact h47)) rfl

theorem c_X12_take {Q : Rq} {M : Mem} {d : Td} {t s : Nat} (hc0 : ∀ k, k < 521 → M.1 5 k = nI (d k)) (wf : Wf d) (ht : t ≤ 24) (hs : s < 256) (k : ∀ M', r_fx [(0, 45), (0, 46), (0, 47)] [] M M' → M'.1 0 45 = nI (wT d t s).2.1 → M'.1 0 46 = nI (wT d t s).1 → M'.1 0 47 = nI (wT d t s).2.2 → Q none GY M') : Ca 1 mt_X12_take 0 0 [.ref 0, .int (nI t), .int (nI s)] GY M Q := by
  refine Ca_of rfl (Nat.le_of_ble_eq_true rfl) ?_
  refine Ru_aload_n (pc := 0) dX12_take_0 rfl rfl ?_
  refine Ru_iconst (pc := 1) (nI 0) dX12_take_1 rfl ?_
  refine Ru_putI (pc := 2) rfl dX12_take_2 fl_X12_427 rfl ?_
  refine Ru_aload_n (pc := 5) dX12_take_5 rfl rfl ?_
  refine Ru_iload_n (pc := 6) dX12_take_6 rfl rfl ?_
  refine Ru_putI (pc := 7) rfl dX12_take_7 fl_X12_430 rfl ?_
  refine Ru_aload_n (pc := 10) dX12_take_10 rfl rfl ?_
  refine Ru_iconst (pc := 11) (nI 0) dX12_take_11 rfl ?_
  refine Ru_putI (pc := 12) rfl dX12_take_12 fl_X12_433 rfl ?_
  refine Ru_iconst (pc := 15) (nI 0) dX12_take_15 rfl ?_
  refine Ru_istore_n (pc := 16) dX12_take_16 rfl rfl (by decide) ?_
  exact Ru_weak (l_X12_take (M0 := M) hc0 wf ht hs k (d 3) 0 _ rfl (Nat.zero_le _) (r_fx.sI rfl (r_fx.sI rfl (r_fx.sI rfl r_fx.rf))) (by simp [r_sI_g]; rfl) (by simp [r_sI_g]; rfl) (by simp [r_sI_g]; rfl)) rfl

theorem l_X12_byMaking {Q : Rq} {M0 : Mem} {d : Td} {V : Vt} {m t s : Nat} (hc0 : ∀ k, k < 521 → M0.1 5 k = nI (d k)) (wf : Wf d) (hm : m < d 1) (hte : t + d (41 + m) ≤ 24) (hs : s < 2 ^ d 0) (hV0 : ∀ t' s', t < t' → t' ≤ 24 → s' < 2 ^ d 0 → M0.1 8 (256 * t' + s') = nI (V t' s')) (k : ∀ M', r_fx [(0, 45), (0, 46), (0, 47)] [] M0 M' → Q (some (.int (nI (dBm d V m t s)))) GY M') : ∀ (zw : Nat) (n : Nat) (M : Mem), d (41 + m) - 1 - n = zw → (n ≤ d (41 + m) - 1) → (r_fx [(0, 45), (0, 46), (0, 47)] [] M0 M) → Ru 2 mt_X12_byMaking r_z 36 [(5, some (.int (nI (wR d (r_dif s (d (65 + m)), 0, 0) (t + 1) n).1))), (6, some (.int (nI (wR d (r_dif s (d (65 + m)), 0, 0) (t + 1) n).2.1))), (7, some (.int (nI (t + 1 + n)))), (4, some (.int (nI (t + d (41 + m))))), (0, some (.ref 0)), (1, some (.int (nI m))), (2, some (.int (nI t))), (3, some (.int (nI s)))] [] GY M Q := by
  intro zw
  induction zw using Nat.strongRecOn with
  | ind zw ih =>
    intro n M hw hn fx
    subst hw
    have hb := wf.1
    have hp := pw_le hb.1
    have hm5 := wf.2.2.2.2.1 m hm
    have hc : ∀ k, k < 521 → M.1 5 k = nI (d k) := fun k hk => (fx 5 k rfl).1.trans (hc0 k hk)
    have hV : ∀ t' s', t < t' → t' ≤ 24 → s' < 2 ^ d 0 → M.1 8 (256 * t' + s') = nI (V t' s') := fun t' s' h1 h2 h3 => (fx 8 _ rfl).1.trans (hV0 t' s' h1 h2 h3)
    have hl1 : (wR d (r_dif s (d (65 + m)), 0, 0) (t + 1) n).1 ≤ r_dif s (d (65 + m)) := wR_le d (r_dif s (d (65 + m)), 0, 0) (t + 1) n
    have hl2 := r_dif_le s (d (65 + m))
    refine Ru_iload (pc := 36) dX12_byMaking_36 rfl ?_
    refine Ru_iload (pc := 38) dX12_byMaking_38 rfl ?_
    refine Ru_icmp_geN (pc := 40) 72 dX12_byMaking_40 (by decide) (by omega) (fun h1 => ?_) (fun h1 => ?_)
    · have hsb : (wR d (r_dif s (d (65 + m)), 0, 0) (t + 1) n).1 ||| 2 ^ (d (29 + m)) < 2 ^ d 0 := r_or_lt (by omega) (Nat.pow_lt_pow_right (by decide) hm5.1)
      refine Ru_iload (pc := 72) dX12_byMaking_72 rfl ?_
      refine Ru_aload_n (pc := 74) dX12_byMaking_74 rfl rfl ?_
      refine Ru_getR (pc := 75) 8 dX12_byMaking_75 fl_X12_45 rfl rfl rfl ?_
      refine Ru_sipush (pc := 78) (nI 256) dX12_byMaking_78 rfl ?_
      refine Ru_iload (pc := 81) dX12_byMaking_81 rfl ?_
      refine Ru_imulN (pc := 83) dX12_byMaking_83 ?_
      refine Ru_iload (pc := 84) dX12_byMaking_84 rfl ?_
      refine Ru_iconst (pc := 86) (nI 1) dX12_byMaking_86 rfl ?_
      refine Ru_aload_n (pc := 87) dX12_byMaking_87 rfl rfl ?_
      refine Ru_getR (pc := 88) 5 dX12_byMaking_88 fl_X12_35 rfl rfl rfl ?_
      refine Ru_bipush (pc := 91) (nI 29) dX12_byMaking_91 rfl ?_
      refine Ru_iload_n (pc := 93) dX12_byMaking_93 rfl rfl ?_
      refine Ru_iaddN (pc := 94) dX12_byMaking_94 ?_
      refine Ru_iald (pc := 95) dX12_byMaking_95 rfl (by omega) ?_
      refine Ru_top (hc (29 + m) (by omega)) ?_
      refine Ru_ishl1N (pc := 96) dX12_byMaking_96 (by omega) ?_
      refine Ru_iorN (pc := 97) dX12_byMaking_97 ?_
      refine Ru_iaddN (pc := 98) dX12_byMaking_98 ?_
      refine Ru_iald (pc := 99) dX12_byMaking_99 rfl (by omega) ?_
      refine Ru_top (hV (t + d (41 + m)) ((wR d (r_dif s (d (65 + m)), 0, 0) (t + 1) n).1 ||| (2 ^ (d (29 + m)))) (by omega) (by omega) (by assumption)) ?_
      refine Ru_iaddN (pc := 100) dX12_byMaking_100 ?_
      refine Ru_iret (pc := 101) dX12_byMaking_101 rfl ⟨Nat.le_refl _, Nat.le_refl _⟩ ?_
      have en : n = d (41 + m) - 1 := by omega
      subst en
      exact k _ fx
    · refine Ru_aload_n (pc := 43) dX12_byMaking_43 rfl rfl ?_
      refine Ru_iload (pc := 44) dX12_byMaking_44 rfl ?_
      refine Ru_iload (pc := 46) dX12_byMaking_46 rfl ?_
      refine Ru_cv2 (pc := 48) dX12_byMaking_48 mv_X12_436 rfl (by decide) (Nat.le_of_ble_eq_true rfl) (c_X12_take hc wf (by omega) (by omega) (fun M2 gx2 g45 g46 g47 => ?_)) 
      have fx2 := fx.tr (gx2.mono (F' := [(0, 45), (0, 46), (0, 47)]) (A' := []) rfl)
      refine Ru_iload (pc := 51) dX12_byMaking_51 rfl ?_
      refine Ru_aload_n (pc := 53) dX12_byMaking_53 rfl rfl ?_
      refine Ru_getI (pc := 54) dX12_byMaking_54 fl_X12_427 rfl rfl ?_
      refine Ru_top g45 ?_
      refine Ru_iaddN (pc := 57) dX12_byMaking_57 ?_
      refine Ru_istore (pc := 58) dX12_byMaking_58 rfl (by decide) ?_
      refine Ru_aload_n (pc := 60) dX12_byMaking_60 rfl rfl ?_
      refine Ru_getI (pc := 61) dX12_byMaking_61 fl_X12_430 rfl rfl ?_
      refine Ru_top g46 ?_
      refine Ru_istore (pc := 64) dX12_byMaking_64 rfl (by decide) ?_
      refine Ru_iincN (pc := 66) 1 dX12_byMaking_66 rfl rfl rfl (by decide) ?_
      refine Ru_goto (pc := 69) 36 dX12_byMaking_69 (by decide) ?_
      have e : wR d (r_dif s (d (65 + m)), 0, 0) (t + 1) (n + 1) = ((wT d (t + 1 + n) (wR d (r_dif s (d (65 + m)), 0, 0) (t + 1) n).1).1, (wT d (t + 1 + n) (wR d (r_dif s (d (65 + m)), 0, 0) (t + 1) n).1).2.1 + (wR d (r_dif s (d (65 + m)), 0, 0) (t + 1) n).2.1, (wT d (t + 1 + n) (wR d (r_dif s (d (65 + m)), 0, 0) (t + 1) n).1).2.2 + (wR d (r_dif s (d (65 + m)), 0, 0) (t + 1) n).2.2) := wAll1_p d _ _
      have hr := ih (d (41 + m) - 1 - (n + 1)) (by omega) (n + 1) M2 rfl (by omega) fx2
      rw [e] at hr
      rw [Nat.add_comm ((wR d (r_dif s (d (65 + m)), 0, 0) (t + 1) n).2.1)]
      exact Ru_weak hr rfl

theorem c_X12_byMaking {Q : Rq} {M : Mem} {d : Td} {V : Vt} {m t s : Nat} (hc0 : ∀ k, k < 521 → M.1 5 k = nI (d k)) (wf : Wf d) (hm : m < d 1) (hte : t + d (41 + m) ≤ 24) (hs : s < 2 ^ d 0) (hV0 : ∀ t' s', t < t' → t' ≤ 24 → s' < 2 ^ d 0 → M.1 8 (256 * t' + s') = nI (V t' s')) (k : ∀ M', r_fx [(0, 45), (0, 46), (0, 47)] [] M M' → Q (some (.int (nI (dBm d V m t s)))) GY M') : Ca 2 mt_X12_byMaking 0 0 [.ref 0, .int (nI m), .int (nI t), .int (nI s)] GY M Q := by
  refine Ca_of rfl (Nat.le_of_ble_eq_true rfl) ?_
  have hb := wf.1
  refine Ru_iload_n (pc := 0) dX12_byMaking_0 rfl rfl ?_
  refine Ru_aload_n (pc := 1) dX12_byMaking_1 rfl rfl ?_
  refine Ru_getR (pc := 2) 5 dX12_byMaking_2 fl_X12_35 rfl rfl rfl ?_
  refine Ru_bipush (pc := 5) (nI 41) dX12_byMaking_5 rfl ?_
  refine Ru_iload_n (pc := 7) dX12_byMaking_7 rfl rfl ?_
  refine Ru_iaddN (pc := 8) dX12_byMaking_8 ?_
  refine Ru_iald (pc := 9) dX12_byMaking_9 rfl (by omega) ?_
  refine Ru_top (hc0 (41 + m) (by omega)) ?_
  refine Ru_iaddN (pc := 10) dX12_byMaking_10 ?_
  refine Ru_istore (pc := 11) dX12_byMaking_11 rfl (by decide) ?_
  refine Ru_iload_n (pc := 13) dX12_byMaking_13 rfl rfl ?_
  refine Ru_aload_n (pc := 14) dX12_byMaking_14 rfl rfl ?_
  refine Ru_getR (pc := 15) 5 dX12_byMaking_15 fl_X12_35 rfl rfl rfl ?_
  refine Ru_bipush (pc := 18) (nI 65) dX12_byMaking_18 rfl ?_
  refine Ru_iload_n (pc := 20) dX12_byMaking_20 rfl rfl ?_
  refine Ru_iaddN (pc := 21) dX12_byMaking_21 ?_
  refine Ru_iald (pc := 22) dX12_byMaking_22 rfl (by omega) ?_
  refine Ru_top (hc0 (65 + m) (by omega)) ?_
  refine Ru_iconst (pc := 23) (-1) dX12_byMaking_23 rfl ?_
  refine Ru_ixor (pc := 24) dX12_byMaking_24 ?_
  refine Ru_idifN (pc := 25) dX12_byMaking_25 ?_
  refine Ru_istore (pc := 26) dX12_byMaking_26 rfl (by decide) ?_
  refine Ru_iconst (pc := 28) (nI 0) dX12_byMaking_28 rfl ?_
  refine Ru_istore (pc := 29) dX12_byMaking_29 rfl (by decide) ?_
  refine Ru_iload_n (pc := 31) dX12_byMaking_31 rfl rfl ?_
  refine Ru_iconst (pc := 32) (nI 1) dX12_byMaking_32 rfl ?_
  refine Ru_iaddN (pc := 33) dX12_byMaking_33 ?_
  refine Ru_istore (pc := 34) dX12_byMaking_34 rfl (by decide) ?_
  exact Ru_weak (l_X12_byMaking (M0 := M) hc0 wf hm hte hs hV0 k (d (41 + m) - 1) 0 M rfl (Nat.zero_le _) r_fx.rf) rfl

theorem l_X12_mostFrom {Q : Rq} {M0 : Mem} {d : Td} {V : Vt} {t s : Nat} (hc0 : ∀ k, k < 521 → M0.1 5 k = nI (d k)) (wf : Wf d) (ht : t < 24) (hs : s < 2 ^ d 0) (hV0 : ∀ t' s', t < t' → t' ≤ 24 → s' < 2 ^ d 0 → M0.1 8 (256 * t' + s') = nI (V t' s')) (hVb : ∀ t' s', V t' s' ≤ 100000000) (k : ∀ M', r_fx [(0, 45), (0, 46), (0, 47)] [] M0 M' → Q (some (.int (nI (dMf d V t s (d 1))))) GY M') : ∀ (zw : Nat) (m : Nat) (M : Mem), d 1 - m = zw → (m ≤ d 1) → (r_fx [(0, 45), (0, 46), (0, 47)] [] M0 M) → Ru 3 mt_X12_mostFrom r_z 18 [(3, some (.int (nI (dMf d V t s m)))), (4, some (.int (nI m))), (0, some (.ref 0)), (1, some (.int (nI t))), (2, some (.int (nI s)))] [] GY M Q := by
  intro zw
  induction zw using Nat.strongRecOn with
  | ind zw ih =>
    intro m M hw hn fx
    subst hw
    have hb := wf.1
    have hp := pw_le hb.1
    have hc : ∀ k, k < 521 → M.1 5 k = nI (d k) := fun k hk => (fx 5 k rfl).1.trans (hc0 k hk)
    have hV : ∀ t' s', t < t' → t' ≤ 24 → s' < 2 ^ d 0 → M.1 8 (256 * t' + s') = nI (V t' s') := fun t' s' h1 h2 h3 => (fx 8 _ rfl).1.trans (hV0 t' s' h1 h2 h3)
    have hmf := dMf_b2 wf (t := t) (s := s) hVb m hn
    refine Ru_iload (pc := 18) dX12_mostFrom_18 rfl ?_
    refine Ru_aload_n (pc := 20) dX12_mostFrom_20 rfl rfl ?_
    refine Ru_getR (pc := 21) 5 dX12_mostFrom_21 fl_X12_35 rfl rfl rfl ?_
    refine Ru_iconst (pc := 24) (nI 1) dX12_mostFrom_24 rfl ?_
    refine Ru_iald (pc := 25) dX12_mostFrom_25 rfl (by omega) ?_
    refine Ru_top (hc 1 (by omega)) ?_
    refine Ru_icmp_geN (pc := 26) 75 dX12_mostFrom_26 (by decide) (by omega) (fun h1 => ?_) (fun h1 => ?_)
    · refine Ru_iload_n (pc := 75) dX12_mostFrom_75 rfl rfl ?_
      refine Ru_iret (pc := 76) dX12_mostFrom_76 rfl ⟨Nat.le_refl _, Nat.le_refl _⟩ ?_
      have en : m = d 1 := by omega
      subst en
      exact k _ fx
    · have hm5 := wf.2.2.2.2.1 m (by omega)
      refine Ru_aload_n (pc := 29) dX12_mostFrom_29 rfl rfl ?_
      refine Ru_iload (pc := 30) dX12_mostFrom_30 rfl ?_
      refine Ru_iload_n (pc := 32) dX12_mostFrom_32 rfl rfl ?_
      refine Ru_cv2 (pc := 33) dX12_mostFrom_33 mv_X12_421 rfl (by decide) (Nat.le_of_ble_eq_true rfl) (c_X12_canMake hc wf (by omega) ?_) 
      refine Ru_if_eqB (pc := 36) 69 dX12_mostFrom_36 (by decide) (fun h2 => ?_) (fun h2 => ?_)
      · refine Ru_iincN (pc := 69) 1 dX12_mostFrom_69 rfl rfl rfl (by decide) ?_
        refine Ru_goto (pc := 72) 18 dX12_mostFrom_72 (by decide) ?_
        have e : dMf d V t s (m + 1) = (dMf d V t s m) := by
          rw [dMf, if_neg]
          rintro ⟨z1, z2⟩
          simp_all
        have hr := ih (d 1 - (m + 1)) (by omega) (m + 1) M rfl (by omega) fx
        rw [e] at hr
        exact Ru_weak hr rfl
      · refine Ru_iload_n (pc := 39) dX12_mostFrom_39 rfl rfl ?_
        refine Ru_aload_n (pc := 40) dX12_mostFrom_40 rfl rfl ?_
        refine Ru_getR (pc := 41) 5 dX12_mostFrom_41 fl_X12_35 rfl rfl rfl ?_
        refine Ru_bipush (pc := 44) (nI 41) dX12_mostFrom_44 rfl ?_
        refine Ru_iload (pc := 46) dX12_mostFrom_46 rfl ?_
        refine Ru_iaddN (pc := 48) dX12_mostFrom_48 ?_
        refine Ru_iald (pc := 49) dX12_mostFrom_49 rfl (by omega) ?_
        refine Ru_top (hc (41 + m) (by omega)) ?_
        refine Ru_iaddN (pc := 50) dX12_mostFrom_50 ?_
        refine Ru_bipush (pc := 51) (nI 25) dX12_mostFrom_51 rfl ?_
        refine Ru_icmp_geN (pc := 53) 69 dX12_mostFrom_53 (by decide) (by omega) (fun h3 => ?_) (fun h3 => ?_)
        · refine Ru_iincN (pc := 69) 1 dX12_mostFrom_69 rfl rfl rfl (by decide) ?_
          refine Ru_goto (pc := 72) 18 dX12_mostFrom_72 (by decide) ?_
          have e : dMf d V t s (m + 1) = (dMf d V t s m) := by
            rw [dMf, if_neg]
            rintro ⟨z1, z2⟩
            omega
          have hr := ih (d 1 - (m + 1)) (by omega) (m + 1) M rfl (by omega) fx
          rw [e] at hr
          exact Ru_weak hr rfl
        · have hbm := dBm_b2 wf (t := t) (s := s) (show m < d 1 by omega) hVb
          refine Ru_iload_n (pc := 56) dX12_mostFrom_56 rfl rfl ?_
          refine Ru_aload_n (pc := 57) dX12_mostFrom_57 rfl rfl ?_
          refine Ru_iload (pc := 58) dX12_mostFrom_58 rfl ?_
          refine Ru_iload_n (pc := 60) dX12_mostFrom_60 rfl rfl ?_
          refine Ru_iload_n (pc := 61) dX12_mostFrom_61 rfl rfl ?_
          refine Ru_cv3 (pc := 62) dX12_mostFrom_62 mv_X12_439 rfl (by decide) (Nat.le_of_ble_eq_true rfl) (c_X12_byMaking (V := V) hc wf (by omega) (by omega) hs hV (fun M2 gx2 => ?_)) 
          have fx2 := fx.tr gx2
          refine Ru_cs2 (pc := 65) dX12_mostFrom_65 ms_X12_410 (by decide) (Nat.le_of_ble_eq_true rfl) (c_Y_maxN (by omega) (by omega) ?_) 
          refine Ru_istore_n (pc := 68) dX12_mostFrom_68 rfl rfl (by decide) ?_
          refine Ru_iincN (pc := 69) 1 dX12_mostFrom_69 rfl rfl rfl (by decide) ?_
          refine Ru_goto (pc := 72) 18 dX12_mostFrom_72 (by decide) ?_
          have e : dMf d V t s (m + 1) = (max (dMf d V t s m) (dBm d V m t s)) := by
            rw [dMf, if_pos ⟨by assumption, by omega⟩]
          have hr := ih (d 1 - (m + 1)) (by omega) (m + 1) M2 rfl (by omega) fx2
          rw [e] at hr
          exact Ru_weak hr rfl

theorem c_X12_mostFrom {Q : Rq} {M : Mem} {d : Td} {V : Vt} {t s : Nat} (hc0 : ∀ k, k < 521 → M.1 5 k = nI (d k)) (wf : Wf d) (ht : t < 24) (hs : s < 2 ^ d 0) (hV0 : ∀ t' s', t < t' → t' ≤ 24 → s' < 2 ^ d 0 → M.1 8 (256 * t' + s') = nI (V t' s')) (hVb : ∀ t' s', V t' s' ≤ 100000000) (k : ∀ M', r_fx [(0, 45), (0, 46), (0, 47)] [] M M' → Q (some (.int (nI (dMf d V t s (d 1))))) GY M') : Ca 3 mt_X12_mostFrom 0 0 [.ref 0, .int (nI t), .int (nI s)] GY M Q := by
  refine Ca_of rfl (Nat.le_of_ble_eq_true rfl) ?_
  have hp := pw_le wf.1.1
  refine Ru_aload_n (pc := 0) dX12_mostFrom_0 rfl rfl ?_
  refine Ru_getR (pc := 1) 8 dX12_mostFrom_1 fl_X12_45 rfl rfl rfl ?_
  refine Ru_sipush (pc := 4) (nI 256) dX12_mostFrom_4 rfl ?_
  refine Ru_iload_n (pc := 7) dX12_mostFrom_7 rfl rfl ?_
  refine Ru_iconst (pc := 8) (nI 1) dX12_mostFrom_8 rfl ?_
  refine Ru_iaddN (pc := 9) dX12_mostFrom_9 ?_
  refine Ru_imulN (pc := 10) dX12_mostFrom_10 ?_
  refine Ru_iload_n (pc := 11) dX12_mostFrom_11 rfl rfl ?_
  refine Ru_iaddN (pc := 12) dX12_mostFrom_12 ?_
  refine Ru_iald (pc := 13) dX12_mostFrom_13 rfl (by omega) ?_
  refine Ru_top (hV0 (t + 1) s (by omega) (by omega) hs) ?_
  refine Ru_istore_n (pc := 14) dX12_mostFrom_14 rfl rfl (by decide) ?_
  refine Ru_iconst (pc := 15) (nI 0) dX12_mostFrom_15 rfl ?_
  refine Ru_istore (pc := 16) dX12_mostFrom_16 rfl (by decide) ?_
  exact Ru_weak (l_X12_mostFrom (M0 := M) hc0 wf ht hs hV0 hVb k (d 1) 0 M rfl (Nat.zero_le _) r_fx.rf) rfl
