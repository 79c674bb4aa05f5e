-- THE BEST NIGHT: the reference
theorem nM_inc {n : Nat} (h : n < 2147483647) : nM n + Int32.ofInt 1 = nM (n + 1) := by
  cases n with
  | zero => rfl
  | succ n =>
    show nI n + Int32.ofInt 1 = nI (n + 1)
    rw [nI_succ]
    rfl
theorem nM_max {c y : Nat} (hc : c < 2147483648) (hy : y < 2147483647) : (if (nI y).toInt ≤ (nM c).toInt then nM c else nI y) = nM (max c (y + 1)) := by
  rw [nM_t hc, r_tn (by omega)]
  split
  · rw [Nat.max_eq_left (by omega)]
  · rw [Nat.max_eq_right (by omega)]
    rfl

theorem l_X12_bestNight3 {Q : Rq} {M0 : Mem} {d : Td} {f : Nat → Nat} {s y A C : Nat} (hc0 : ∀ k, k < 521 → M0.1 5 k = nI (d k)) (wf : Wf d) (hs : s < 2 ^ d 0) (hy : y < 2000) (hA : A < 256) (hwl : Wl d) (hal0 : M0.1 0 29 = nI A) (hf0 : ∀ x, x < 2 ^ d 0 → M0.1 9 x = nI (f x)) (hfC : ∀ x, f x ≤ C) (hC : C ≤ 100000000) {w h c : Nat} (hw : w ≤ d 0) (hh : h ≤ d 0) (hcC : c ≤ C + 1) (k : ∀ M, r_fx [] [7] M0 M → Ru 4 mt_X12_bestNight r_z 102 [(3, some (.int (nM (if mH d s h = true then n3 d A f s (y % 7) w h c (d 0 + 1) else c)))), (1, some (.int (nI s))), (2, some (.int (nI y))), (4, some (.int (nM w))), (5, some (.int (nM h))), (0, some (.ref 0))] [] GY M Q) : ∀ (zw : Nat) (n : Nat) (M : Mem), d 0 + 1 - n = zw → (n ≤ d 0 + 1) → (n = 0 ∨ mH d s h = true) → (r_fx [] [7] M0 M) → Ru 4 mt_X12_bestNight r_z 43 [(3, some (.int (nM (n3 d A f s (y % 7) w h c n)))), (6, some (.int (nM n))), (1, some (.int (nI s))), (2, some (.int (nI y))), (4, some (.int (nM w))), (5, some (.int (nM h))), (0, some (.ref 0))] [] GY M Q := by
  intro zw
  induction zw using Nat.strongRecOn with
  | ind zw ih =>
    intro n M hw hn hm fx
    subst hw
    have hb := wf.1
    have hp := pw_le hb.1
    have em : (-1 : Int32).toInt = -1 := rfl
    have hc : ∀ k, k < 521 → M.1 5 k = nI (d k) := fun k hk => (fx 5 k rfl).1.trans (hc0 k hk)
    have hal : M.1 0 29 = nI A := (fx 0 29 rfl).1.trans hal0
    have hzn := nM_t (show n < 2147483648 by omega)
    have hzc := n3_c (d := d) (A := A) (s := s) (r := y % 7) (w := w) (h := h) hfC hcC n
    refine Ru_iload (pc := 43) dX12_bestNight_43 rfl ?_
    refine Ru_aload_n (pc := 45) dX12_bestNight_45 rfl rfl ?_
    refine Ru_getR (pc := 46) 5 dX12_bestNight_46 fl_X12_35 rfl rfl rfl ?_
    refine Ru_iconst (pc := 49) (nI 0) dX12_bestNight_49 rfl ?_
    refine Ru_iald (pc := 50) dX12_bestNight_50 rfl (by omega) ?_
    refine Ru_top (hc 0 (by omega)) ?_
    refine Ru_icmp_geL (pc := 51) 102 dX12_bestNight_51 (by decide) (by omega) (fun h1 => ?_) (fun h1 => ?_)
    · have en : n = d 0 + 1 := by omega
      subst en
      have z : mH d s h = true := by
        rcases hm with hm | hm
        · omega
        · exact hm
      have k2 := k M fx
      rw [if_pos z] at k2
      exact Ru_weak k2 rfl
    · refine Ru_aload_n (pc := 54) dX12_bestNight_54 rfl rfl ?_
      refine Ru_iload (pc := 55) dX12_bestNight_55 rfl ?_
      refine Ru_iload_n (pc := 57) dX12_bestNight_57 rfl rfl ?_
      refine Ru_cv2 (pc := 58) dX12_bestNight_58 mv_X12_397 rfl (by decide) (Nat.le_of_ble_eq_true rfl) (c_X12_mayHold h hc wf (by omega) (by omega) ?_) 
      refine Ru_if_eqB (pc := 61) 102 dX12_bestNight_61 (by decide) (fun h2 => ?_) (fun h2 => ?_)
      · have z : mH d s h = false := by assumption
        have k2 := k M fx
        rw [z] at k2
        have en : n = 0 := by
          rcases hm with hm | hm
          · exact hm
          · rw [z] at hm
            cases hm
        subst en
        exact Ru_weak k2 rfl
      · refine Ru_aload_n (pc := 64) dX12_bestNight_64 rfl rfl ?_
        refine Ru_iload (pc := 65) dX12_bestNight_65 rfl ?_
        refine Ru_iload_n (pc := 67) dX12_bestNight_67 rfl rfl ?_
        refine Ru_cv2 (pc := 68) dX12_bestNight_68 mv_X12_400 rfl (by decide) (Nat.le_of_ble_eq_true rfl) (c_X12_maySend n hc wf (by omega) (by omega) ?_) 
        refine Ru_if_eqB (pc := 71) 96 dX12_bestNight_71 (by decide) (fun h3 => ?_) (fun h3 => ?_)
        · refine Ru_iinc (pc := 96) _ dX12_bestNight_96 rfl rfl rfl (by decide) ?_
          refine Ru_goto (pc := 99) 43 dX12_bestNight_99 (by decide) ?_
          have e : n3 d A f s (y % 7) w h c (n + 1) = (n3 d A f s (y % 7) w h c n) := by
            have z : mS d s n = false := by assumption
            rw [n3, z]
            rfl
          rw [nM_inc (by omega)]
          have hr := ih (d 0 + 1 - (n + 1)) (by omega) (n + 1) M rfl (by omega) (Or.inr (by assumption)) fx
          rw [e] at hr
          exact Ru_weak hr rfl
        · refine Ru_iload_n (pc := 74) dX12_bestNight_74 rfl rfl ?_
          refine Ru_aload_n (pc := 75) dX12_bestNight_75 rfl rfl ?_
          refine Ru_getR (pc := 76) 9 dX12_bestNight_76 fl_X12_48 rfl rfl rfl ?_
          refine Ru_aload_n (pc := 79) dX12_bestNight_79 rfl rfl ?_
          refine Ru_iload_n (pc := 80) dX12_bestNight_80 rfl rfl ?_
          refine Ru_iload (pc := 81) dX12_bestNight_81 rfl ?_
          refine Ru_iload (pc := 83) dX12_bestNight_83 rfl ?_
          refine Ru_iload (pc := 85) dX12_bestNight_85 rfl ?_
          refine Ru_iload_n (pc := 87) dX12_bestNight_87 rfl rfl ?_
          refine Ru_cv5 (pc := 88) dX12_bestNight_88 mv_X12_403 rfl (by decide) (Nat.le_of_ble_eq_true rfl) (c_X12_staysOf (w := w) (h := h) (v := n) hc wf (by omega) ⟨by omega, by omega, by omega⟩ hy hA hwl hal (fun M2 gx2 => ?_)) 
          have fx2 := fx.tr gx2
          have hst := stA_lt d A s (y % 7) w h n
          have hfb := hfC (stA d A s (y % 7) w h n)
          refine Ru_iald (pc := 91) dX12_bestNight_91 rfl (by omega) ?_
          refine Ru_top ((fx2 9 _ rfl).1.trans (hf0 _ hst)) ?_
          refine Ru_cs2 (pc := 92) dX12_bestNight_92 ms_X12_410 (by decide) (Nat.le_of_ble_eq_true rfl) (c_Y_max _ (nM_max (c := (n3 d A f s (y % 7) w h c n)) (y := (f (stA d A s (y % 7) w h n))) (by omega) (by omega)) ?_) 
          refine Ru_istore_n (pc := 95) dX12_bestNight_95 rfl rfl (by decide) ?_
          refine Ru_iinc (pc := 96) _ dX12_bestNight_96 rfl rfl rfl (by decide) ?_
          refine Ru_goto (pc := 99) 43 dX12_bestNight_99 (by decide) ?_
          have e : n3 d A f s (y % 7) w h c (n + 1) = (max (n3 d A f s (y % 7) w h c n) ((f (stA d A s (y % 7) w h n)) + 1)) := by
            rw [n3, if_pos (show mS d s n = true by assumption)]
          rw [nM_inc (by omega)]
          have hr := ih (d 0 + 1 - (n + 1)) (by omega) (n + 1) M2 rfl (by omega) (Or.inr (by assumption)) fx2
          rw [e] at hr
          exact Ru_weak hr rfl

theorem l_X12_bestNight2 {Q : Rq} {M0 : Mem} {d : Td} {f : Nat → Nat} {s y A C : Nat} (hc0 : ∀ k, k < 521 → M0.1 5 k = nI (d k)) (wf : Wf d) (hs : s < 2 ^ d 0) (hy : y < 2000) (hA : A < 256) (hwl : Wl d) (hal0 : M0.1 0 29 = nI A) (hf0 : ∀ x, x < 2 ^ d 0 → M0.1 9 x = nI (f x)) (hfC : ∀ x, f x ≤ C) (hC : C ≤ 100000000) {w c : Nat} (hw : w ≤ d 0) (hcC : c ≤ C + 1) (k : ∀ M, r_fx [] [7] M0 M → Ru 4 mt_X12_bestNight r_z 108 [(3, some (.int (nM (if mW d s w = true then n2 d A f s (y % 7) w c (d 0 + 1) else c)))), (1, some (.int (nI s))), (2, some (.int (nI y))), (4, some (.int (nM w))), (0, some (.ref 0))] [] GY M Q) : ∀ (zw : Nat) (n : Nat) (M : Mem), d 0 + 1 - n = zw → (n ≤ d 0 + 1) → (n = 0 ∨ mW d s w = true) → (r_fx [] [7] M0 M) → Ru 4 mt_X12_bestNight r_z 19 [(3, some (.int (nM (n2 d A f s (y % 7) w c n)))), (5, some (.int (nM n))), (1, some (.int (nI s))), (2, some (.int (nI y))), (4, some (.int (nM w))), (0, some (.ref 0))] [] GY M Q := by
  intro zw
  induction zw using Nat.strongRecOn with
  | ind zw ih =>
    intro n M hw hn hm fx
    subst hw
    have hb := wf.1
    have hp := pw_le hb.1
    have em : (-1 : Int32).toInt = -1 := rfl
    have hc : ∀ k, k < 521 → M.1 5 k = nI (d k) := fun k hk => (fx 5 k rfl).1.trans (hc0 k hk)
    have hal : M.1 0 29 = nI A := (fx 0 29 rfl).1.trans hal0
    have hzn := nM_t (show n < 2147483648 by omega)
    refine Ru_iload (pc := 19) dX12_bestNight_19 rfl ?_
    refine Ru_aload_n (pc := 21) dX12_bestNight_21 rfl rfl ?_
    refine Ru_getR (pc := 22) 5 dX12_bestNight_22 fl_X12_35 rfl rfl rfl ?_
    refine Ru_iconst (pc := 25) (nI 0) dX12_bestNight_25 rfl ?_
    refine Ru_iald (pc := 26) dX12_bestNight_26 rfl (by omega) ?_
    refine Ru_top (hc 0 (by omega)) ?_
    refine Ru_icmp_geL (pc := 27) 108 dX12_bestNight_27 (by decide) (by omega) (fun h1 => ?_) (fun h1 => ?_)
    · have en : n = d 0 + 1 := by omega
      subst en
      have z : mW d s w = true := by
        rcases hm with hm | hm
        · omega
        · exact hm
      have k2 := k M fx
      rw [if_pos z] at k2
      exact Ru_weak k2 rfl
    · refine Ru_aload_n (pc := 30) dX12_bestNight_30 rfl rfl ?_
      refine Ru_iload (pc := 31) dX12_bestNight_31 rfl ?_
      refine Ru_iload_n (pc := 33) dX12_bestNight_33 rfl rfl ?_
      refine Ru_cv2 (pc := 34) dX12_bestNight_34 mv_X12_394 rfl (by decide) (Nat.le_of_ble_eq_true rfl) (c_X12_mayWear w hc wf (by omega) (by omega) ?_) 
      refine Ru_if_eqB (pc := 37) 108 dX12_bestNight_37 (by decide) (fun h2 => ?_) (fun h2 => ?_)
      · have z : mW d s w = false := by assumption
        have k2 := k M fx
        rw [z] at k2
        have en : n = 0 := by
          rcases hm with hm | hm
          · exact hm
          · rw [z] at hm
            cases hm
        subst en
        exact Ru_weak k2 rfl
      · refine Ru_iconst (pc := 40) (-1) dX12_bestNight_40 rfl ?_
        refine Ru_istore (pc := 41) dX12_bestNight_41 rfl (by decide) ?_
        refine Ru_weak (l_X12_bestNight3 (M0 := M0) (w := w) (h := n) (c := (n2 d A f s (y % 7) w c n)) hc0 wf hs hy hA hwl hal0 hf0 hfC hC hw (by omega) (n2_c hfC hcC n) (fun M2 gx2 => ?_) (d 0 + 1) 0 M rfl (Nat.zero_le _) (Or.inl rfl) fx) rfl
        refine Ru_iinc (pc := 102) _ dX12_bestNight_102 rfl rfl rfl (by decide) ?_
        refine Ru_goto (pc := 105) 19 dX12_bestNight_105 (by decide) ?_
        rw [nM_inc (by omega)]
        exact Ru_weak (ih (d 0 + 1 - (n + 1)) (by omega) (n + 1) M2 rfl (by omega) (Or.inr (by assumption)) gx2) rfl

theorem l_X12_bestNight1 {Q : Rq} {M0 : Mem} {d : Td} {f : Nat → Nat} {s y A C : Nat} (hc0 : ∀ k, k < 521 → M0.1 5 k = nI (d k)) (wf : Wf d) (hs : s < 2 ^ d 0) (hy : y < 2000) (hA : A < 256) (hwl : Wl d) (hal0 : M0.1 0 29 = nI A) (hf0 : ∀ x, x < 2 ^ d 0 → M0.1 9 x = nI (f x)) (hfC : ∀ x, f x ≤ C) (hC : C ≤ 100000000) (k : ∀ M', r_fx [] [7] M0 M' → Q (some (.int (nI (nBest d A f s (y % 7))))) GY M') : ∀ (zw : Nat) (n : Nat) (M : Mem), d 0 + 1 - n = zw → (n ≤ d 0 + 1) → (r_fx [] [7] M0 M) → Ru 4 mt_X12_bestNight r_z 5 [(3, some (.int (nM (n1 d A f s (y % 7) n)))), (4, some (.int (nM n))), (1, some (.int (nI s))), (2, some (.int (nI y))), (0, some (.ref 0))] [] GY M Q := by
  intro zw
  induction zw using Nat.strongRecOn with
  | ind zw ih =>
    intro n M hw hn fx
    subst hw
    have hb := wf.1
    have hp := pw_le hb.1
    have em : (-1 : Int32).toInt = -1 := rfl
    have hc : ∀ k, k < 521 → M.1 5 k = nI (d k) := fun k hk => (fx 5 k rfl).1.trans (hc0 k hk)
    have hal : M.1 0 29 = nI A := (fx 0 29 rfl).1.trans hal0
    have hzn := nM_t (show n < 2147483648 by omega)
    refine Ru_iload (pc := 5) dX12_bestNight_5 rfl ?_
    refine Ru_aload_n (pc := 7) dX12_bestNight_7 rfl rfl ?_
    refine Ru_getR (pc := 8) 5 dX12_bestNight_8 fl_X12_35 rfl rfl rfl ?_
    refine Ru_iconst (pc := 11) (nI 0) dX12_bestNight_11 rfl ?_
    refine Ru_iald (pc := 12) dX12_bestNight_12 rfl (by omega) ?_
    refine Ru_top (hc 0 (by omega)) ?_
    refine Ru_icmp_geL (pc := 13) 114 dX12_bestNight_13 (by decide) (by omega) (fun h1 => ?_) (fun h1 => ?_)
    · refine Ru_iload_n (pc := 114) dX12_bestNight_114 rfl rfl ?_
      refine Ru_iret (pc := 115) dX12_bestNight_115 rfl ⟨Nat.le_refl _, Nat.le_refl _⟩ ?_
      have en : n = d 0 + 1 := by omega
      subst en
      rw [n1_pos]
      exact k _ fx
    · refine Ru_iconst (pc := 16) (-1) dX12_bestNight_16 rfl ?_
      refine Ru_istore (pc := 17) dX12_bestNight_17 rfl (by decide) ?_
      refine Ru_weak (l_X12_bestNight2 (M0 := M0) (w := n) (c := n1 d A f s (y % 7) n) hc0 wf hs hy hA hwl hal0 hf0 hfC hC (by omega) (n1_c hfC n) (fun M2 gx2 => ?_) (d 0 + 1) 0 M rfl (Nat.zero_le _) (Or.inl rfl) fx) rfl
      refine Ru_iinc (pc := 108) _ dX12_bestNight_108 rfl rfl rfl (by decide) ?_
      refine Ru_goto (pc := 111) 5 dX12_bestNight_111 (by decide) ?_
      rw [nM_inc (by omega)]
      exact Ru_weak (ih (d 0 + 1 - (n + 1)) (by omega) (n + 1) M2 rfl (by omega) gx2) rfl

theorem c_X12_bestNight {Q : Rq} {M : Mem} {d : Td} {f : Nat → Nat} {s y A C : Nat} (hc0 : ∀ k, k < 521 → M.1 5 k = nI (d k)) (wf : Wf d) (hs : s < 2 ^ d 0) (hy : y < 2000) (hA : A < 256) (hwl : Wl d) (hal0 : M.1 0 29 = nI A) (hf0 : ∀ x, x < 2 ^ d 0 → M.1 9 x = nI (f x)) (hfC : ∀ x, f x ≤ C) (hC : C ≤ 100000000) (k : ∀ M', r_fx [] [7] M M' → Q (some (.int (nI (nBest d A f s (y % 7))))) GY M') : Ca 4 mt_X12_bestNight 0 0 [.ref 0, .int (nI s), .int (nI y)] GY M Q := by
  refine Ca_of rfl (Nat.le_of_ble_eq_true rfl) ?_
  refine Ru_iconst (pc := 0) (-1) dX12_bestNight_0 rfl ?_
  refine Ru_istore_n (pc := 1) dX12_bestNight_1 rfl rfl (by decide) ?_
  refine Ru_iconst (pc := 2) (-1) dX12_bestNight_2 rfl ?_
  refine Ru_istore (pc := 3) dX12_bestNight_3 rfl (by decide) ?_
  exact Ru_weak (l_X12_bestNight1 (M0 := M) hc0 wf hs hy hA hwl hal0 hf0 hfC hC k (d 0 + 1) 0 M rfl (Nat.zero_le _) r_fx.rf) rfl
