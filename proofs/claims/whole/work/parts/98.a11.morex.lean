-- BESTKEPT, MORE, BESTMORE: the developers' own
def alM (b w : Nat) : Nat := if w = 1 then b else 0
theorem alM_lt {b : Nat} (hb : b < 256) (w : Nat) : alM b w < 256 := by
  unfold alM
  split <;> omega
theorem alM_h {M M1 : Mem} {b : Nat} (hal : M.1 59 0 = nI 0) (h : ∀ i, M1.1 59 i = if i = 1 ∧ 0 < 1 then nI b else M.1 59 i) : ∀ w, w < 2 → M1.1 59 w = nI (alM b w) := fun w q => by
  rw [h w]
  by_cases e : w = 1
  · subst e
    rfl
  · have e0 : w = 0 := by omega
    subst e0
    rw [if_neg (by omega), hal]
    rfl
theorem rD_m {d : Td} {b n : Nat} : rD d (alM b) (0 + n - 2) 1 (n - 1) 0 0 = bV d b n (n - 2) 0 := by
  rw [Nat.zero_add]
  rfl
theorem rD_m0 {d : Td} {b n : Nat} : rD d (alM b) (0 + n - 2) 0 (n - 1) 0 0 = bV d 0 n (n - 2) 0 := by
  rw [Nat.zero_add]
  rfl
def alB (w : Nat) : Nat := if w = 0 ∨ 8 < w then 0 else 2 ^ (w - 1)
theorem alB_lt (w : Nat) : alB w < 256 := by
  unfold alB
  split
  · omega
  · have h9 : 2 ^ (w - 1) < 2 ^ 8 := Nat.pow_lt_pow_right (by decide) (by omega)
    have h8 : 2 ^ 8 = 256 := by decide
    omega
theorem alB_s {t : Nat} (h : t < 8) : alB (1 + t) = 2 ^ t := by
  unfold alB
  rw [if_neg (by omega), Nat.add_sub_cancel_left]
theorem rD_b1 {d : Td} {n t : Nat} (h : t < 8) : rD d alB (0 + n - 2) (1 + t) (n - 1) 0 0 = bV d (2 ^ t) n (n - 2) 0 := by
  unfold rD bV
  rw [Nat.zero_add, alB_s h]

theorem l_X11_bestKept {Q : Rq} {M : Mem} {d : Td} {n' : Nat} (wf : Wf d) (hd1 : 1 ≤ d 0) (hn9 : n' ≤ 9) (hv2 : ∀ s, s < 2 ^ d 0 → M.1 56 (0 * 256 + s) = nI (bV d 0 n' (n' - 2) s)) (k : Q (some (.int (nI (bk (fun t => bV d 0 n' (n' - 2) (2 ^ t)) (d 0 - 1))))) GX (r_sI M 0 0 (nI 0))) : ∀ (zw : Nat) (t : Nat), d 0 - t = zw → (1 ≤ t) → (t ≤ d 0) → Ru 6 mt_X11_bestKept r_z 59 [(2, some (.int (nI (d 0)))), (3, some (.int (nI (bk (fun t => bV d 0 n' (n' - 2) (2 ^ t)) (t - 1))))), (4, some (.int (nI t))), (0, some (.ref 0)), (1, some (.int (nI n')))] [] GX M Q := by
  intro zw
  induction zw using Nat.strongRecOn with
  | ind zw ih =>
    intro t hw h1 hn
    subst hw
    have hb := wf.1
    have hp := pw_le hb.1
    have hbk := bk_le (fun t => bV d 0 n' (n' - 2) (2 ^ t)) (t - 1)
    have hv3 := bV_b wf (A := 0) (z := n' - 2) hn9 (2 ^ t)
    have hv4 := bV_b wf (A := 0) (z := n' - 2) hn9 (2 ^ bk (fun t => bV d 0 n' (n' - 2) (2 ^ t)) (t - 1))
    refine Ru_iload (pc := 59) dX11_bestKept_59 rfl ?_
    refine Ru_iload_n (pc := 61) dX11_bestKept_61 rfl rfl ?_
    refine Ru_icmp_geN (pc := 62) 100 dX11_bestKept_62 (by decide) (by omega) (fun h1 => ?_) (fun h1 => ?_)
    · refine Ru_aload_n (pc := 100) dX11_bestKept_100 rfl rfl ?_
      refine Ru_iload_n (pc := 101) dX11_bestKept_101 rfl rfl ?_
      refine Ru_cv1 (pc := 102) dX11_bestKept_102 mv_X11_170 rfl (by decide) (Nat.le_of_ble_eq_true rfl) (c_X11_tell ?_) 
      refine Ru_iret (pc := 105) dX11_bestKept_105 rfl ⟨Nat.le_refl _, Nat.le_refl _⟩ ?_
      have et : t = d 0 := by omega
      subst et
      exact k
    · refine Ru_aload_n (pc := 65) dX11_bestKept_65 rfl rfl ?_
      refine Ru_getR (pc := 66) 55 dX11_bestKept_66 fl_X11_68 rfl rfl (rfX_of (o := 0) (j := 55) rfl rfl) ?_
      refine Ru_iconst (pc := 69) (nI 0) dX11_bestKept_69 rfl ?_
      refine Ru_iconst (pc := 70) (nI 1) dX11_bestKept_70 rfl ?_
      refine Ru_iload (pc := 71) dX11_bestKept_71 rfl ?_
      refine Ru_ishl1N (pc := 73) dX11_bestKept_73 (by omega) ?_
      refine Ru_cv2 (pc := 74) dX11_bestKept_74 mv_X11_300 rfl (by decide) (Nat.le_of_ble_eq_true rfl) (c_X0_bestFrom (v := (bV d 0 n' (n' - 2) (2 ^ t))) (by omega) (Nat.lt_of_lt_of_le (Nat.pow_lt_pow_right (by decide) (by omega)) hp.2) (hv2 (2 ^ t) (Nat.pow_lt_pow_right (by decide) (by omega))) ?_) 
      refine Ru_aload_n (pc := 77) dX11_bestKept_77 rfl rfl ?_
      refine Ru_getR (pc := 78) 55 dX11_bestKept_78 fl_X11_68 rfl rfl (rfX_of (o := 0) (j := 55) rfl rfl) ?_
      refine Ru_iconst (pc := 81) (nI 0) dX11_bestKept_81 rfl ?_
      refine Ru_iconst (pc := 82) (nI 1) dX11_bestKept_82 rfl ?_
      refine Ru_iload_n (pc := 83) dX11_bestKept_83 rfl rfl ?_
      refine Ru_ishl1N (pc := 84) dX11_bestKept_84 (by omega) ?_
      refine Ru_cv2 (pc := 85) dX11_bestKept_85 mv_X11_300 rfl (by decide) (Nat.le_of_ble_eq_true rfl) (c_X0_bestFrom (v := (bV d 0 n' (n' - 2) (2 ^ (bk (fun t => bV d 0 n' (n' - 2) (2 ^ t)) (t - 1))))) (by omega) (Nat.lt_of_lt_of_le (Nat.pow_lt_pow_right (by decide) (by omega)) hp.2) (hv2 (2 ^ (bk (fun t => bV d 0 n' (n' - 2) (2 ^ t)) (t - 1))) (Nat.pow_lt_pow_right (by decide) (by omega))) ?_) 
      refine Ru_icmp_leN (pc := 88) 94 dX11_bestKept_88 (by decide) (by omega) (fun h2 => ?_) (fun h2 => ?_)
      · refine Ru_iincN (pc := 94) 1 dX11_bestKept_94 rfl rfl rfl (by decide) ?_
        refine Ru_goto (pc := 97) 59 dX11_bestKept_97 (by decide) ?_
        have e : bk (fun t => bV d 0 n' (n' - 2) (2 ^ t)) t = (bk (fun t => bV d 0 n' (n' - 2) (2 ^ t)) (t - 1)) := by
          obtain ⟨q, rfl⟩ : ∃ q, t = q + 1 := ⟨t - 1, by omega⟩
          rw [Nat.add_sub_cancel] at *
          rw [bk]
          exact if_neg (by omega)
        have hr := ih (d 0 - (t + 1)) (by omega) (t + 1) rfl (by omega) (by omega)
        rw [Nat.add_sub_cancel, e] at hr
        exact Ru_weak hr rfl
      · refine Ru_iload (pc := 91) dX11_bestKept_91 rfl ?_
        refine Ru_istore_n (pc := 93) dX11_bestKept_93 rfl rfl (by decide) ?_
        refine Ru_iincN (pc := 94) 1 dX11_bestKept_94 rfl rfl rfl (by decide) ?_
        refine Ru_goto (pc := 97) 59 dX11_bestKept_97 (by decide) ?_
        have e : bk (fun t => bV d 0 n' (n' - 2) (2 ^ t)) t = t := by
          obtain ⟨q, rfl⟩ : ∃ q, t = q + 1 := ⟨t - 1, by omega⟩
          rw [Nat.add_sub_cancel] at *
          rw [bk]
          exact if_pos (by assumption)
        have hr := ih (d 0 - (t + 1)) (by omega) (t + 1) rfl (by omega) (by omega)
        rw [Nat.add_sub_cancel, e] at hr
        exact Ru_weak hr rfl

theorem c_X11_bestKept {Q : Rq} {M : Mem} {mk t lw pl : Nat} {d : Td} {n : Int32} (hu : X_cu mk t lw pl d M) (hx : X_tm t d M) (hlw : X_lw lw d M) (wf : Wf d) (hwl : Wl d) (hal : M.1 59 0 = nI 0) (k : ∀ M', r_fx [(0, 0), (46, 0), (46, 2), (46, 4), (55, 0), (61, 0), (61, 1), (61, 2)] [47, 48, 49, 50, 51, 52, 56, 57, 58, 60] M M' → M'.1 0 0 = nI (g_bestKept d n).2 → Q (some (.int (g_bestKept d n).1)) GX M') : Ca 6 mt_X11_bestKept 0 0 [.ref 0, .int n] GX M Q := by
  refine Ca_of rfl (Nat.le_of_ble_eq_true rfl) ?_
  have hb := wf.1
  have hp := pw_le hb.1
  have ht : isTown t := hu.1.2.2.2
  have em : (-1 : Int32).toInt = -1 := rfl
  have hT : t = 3 ∨ t = 83 ∨ t = 111 ∨ t = 139 ∨ t = 167 := ht
  have hlwi : isLaw lw := hu.2.1.2.1
  refine Ru_aload_n (pc := 0) dX11_bestKept_0 rfl rfl ?_
  refine Ru_iload_n (pc := 1) dX11_bestKept_1 rfl rfl ?_
  refine Ru_cv1 (pc := 2) dX11_bestKept_2 mv_X11_304 rfl (by decide) (Nat.le_of_ble_eq_true rfl) (c_X11_isDaysAhead ?_) 
  refine Ru_if_neB (pc := 5) 14 dX11_bestKept_5 (by decide) (fun h1 => ?_) (fun h1 => ?_)
  · replace h1 := of_decide_eq_true h1
    obtain ⟨n', hn', rfl⟩ := r_nat (x := n) (n := 10) (by omega) (by omega)
    have en := r_tn (show n' < 2147483648 by omega)
    refine Ru_aload_n (pc := 14) dX11_bestKept_14 rfl rfl ?_
    refine Ru_cv0 (pc := 15) dX11_bestKept_15 mv_X11_154 rfl (by decide) (Nat.le_of_ble_eq_true rfl) (c_X11_now hu ?_) 
    refine Ru_getR (pc := 18) (t + 1) dX11_bestKept_18 fl_X11_161 (shTown_0 ht) rfl (rfX_of (o := t) (j := 1) (shTown_0 ht) rfl) ?_
    refine Ru_getI (pc := 21) dX11_bestKept_21 fl_X11_165 (shNames_0 (isNames_t ht).1) rfl ?_
    refine Ru_top hx.1.1 ?_
    refine Ru_istore_n (pc := 24) dX11_bestKept_24 rfl rfl (by decide) ?_
    refine Ru_iload_n (pc := 25) dX11_bestKept_25 rfl rfl ?_
    refine Ru_if_neN (pc := 26) 36 dX11_bestKept_26 (by decide) (by omega) (fun h2 => ?_) (fun h2 => ?_)
    · refine Ru_aload_n (pc := 36) dX11_bestKept_36 rfl rfl ?_
      refine Ru_getR (pc := 37) 55 dX11_bestKept_37 fl_X11_68 rfl rfl (rfX_of (o := 0) (j := 55) rfl rfl) ?_
      refine Ru_aload_n (pc := 40) dX11_bestKept_40 rfl rfl ?_
      refine Ru_cv0 (pc := 41) dX11_bestKept_41 mv_X11_154 rfl (by decide) (Nat.le_of_ble_eq_true rfl) (c_X11_now hu ?_) 
      refine Ru_aload_n (pc := 44) dX11_bestKept_44 rfl rfl ?_
      refine Ru_getR (pc := 45) 46 dX11_bestKept_45 fl_X11_54 rfl rfl (rfX_of (o := 0) (j := 46) rfl rfl) ?_
      refine Ru_iconst (pc := 48) (nI 1) dX11_bestKept_48 rfl ?_
      refine Ru_iload_n (pc := 49) dX11_bestKept_49 rfl rfl ?_
      refine Ru_iconst (pc := 50) (nI 0) dX11_bestKept_50 rfl ?_
      refine Ru_cv5 (pc := 51) dX11_bestKept_51 mv_X11_294 rfl (by decide) (Nat.le_of_ble_eq_true rfl) (c_X0_reckon (wn := 1) (n := n') (y := 0) (Al := (fun _ => 0)) wf ⟨by omega, by omega⟩ ⟨by omega, by omega⟩ (by omega) (fun _ => by decide) hu hx hlw hwl (al_z hal) (fun M2 gx2 htw2 h60 h57 h56 => ?_)) 
      have fx2 : r_fx [(0, 0), (46, 0), (46, 2), (46, 4), (55, 0), (61, 0), (61, 1), (61, 2)] [47, 48, 49, 50, 51, 52, 56, 57, 58, 60] M M2 := gx2.mono rfl
      have hu2 : X_cu mk t lw pl d M2 := (X_cu_dp mk t lw pl d).kp fx2 rfl hu
      have hx2 : X_tm t d M2 := (X_tm_dp ht d).kp fx2 rfl hx
      have hlw2 : X_lw lw d M2 := (X_lw_dp hlwi d).kp fx2 rfl hlw
      have hv2 : ∀ s, s < 2 ^ d 0 → M2.1 56 (0 * 256 + s) = nI (bV d 0 n' (n' - 2) s) := fun s q => by
        have h9 := h56 0 s (by omega) q
        rw [rD_k rfl] at h9
        exact h9
      clear h56 h57 h60
      refine Ru_iconst (pc := 54) (nI 0) dX11_bestKept_54 rfl ?_
      refine Ru_istore_n (pc := 55) dX11_bestKept_55 rfl rfl (by decide) ?_
      refine Ru_iconst (pc := 56) (nI 1) dX11_bestKept_56 rfl ?_
      refine Ru_istore (pc := 57) dX11_bestKept_57 rfl (by decide) ?_
      have e : g_bestKept d (nI n') = (nI (bk (fun t => bV d 0 n' (n' - 2) (2 ^ t)) (d 0 - 1)), 0) := by
        unfold g_bestKept
        rw [if_neg (by omega), if_neg (by omega), r_tnn (show n' < 2147483648 by omega)]
      rw [e] at k
      exact Ru_weak (l_X11_bestKept wf (by omega) (by omega) hv2 (k _ (r_fx.sI rfl fx2) r_sI_s) (d 0 - 1) 1 rfl (by omega) (by omega)) rfl
    · refine Ru_aload_n (pc := 29) dX11_bestKept_29 rfl rfl ?_
      refine Ru_bipush (pc := 30) (nI 8) dX11_bestKept_30 rfl ?_
      refine Ru_cv1 (pc := 32) dX11_bestKept_32 mv_X11_112 rfl (by decide) (Nat.le_of_ble_eq_true rfl) (c_X11_fail ?_) 
      refine Ru_iret (pc := 35) dX11_bestKept_35 rfl ⟨Nat.le_refl _, Nat.le_refl _⟩ ?_
      have e : g_bestKept d (nI n') = (-1, 8) := by
        unfold g_bestKept
        rw [if_neg (by omega), if_pos (by omega)]
      rw [e] at k
      exact k _ (r_fx.sI rfl r_fx.rf) r_sI_s
  · replace h1 := of_decide_eq_false h1
    refine Ru_aload_n (pc := 8) dX11_bestKept_8 rfl rfl ?_
    refine Ru_iconst (pc := 9) (nI 5) dX11_bestKept_9 rfl ?_
    refine Ru_cv1 (pc := 10) dX11_bestKept_10 mv_X11_112 rfl (by decide) (Nat.le_of_ble_eq_true rfl) (c_X11_fail ?_) 
    refine Ru_iret (pc := 13) dX11_bestKept_13 rfl ⟨Nat.le_refl _, Nat.le_refl _⟩ ?_
    have e : g_bestKept d n = (-1, 5) := by
      unfold g_bestKept
      rw [if_pos (by omega)]
    rw [e] at k
    exact k _ (r_fx.sI rfl r_fx.rf) r_sI_s

theorem c_X11_more {Q : Rq} {M : Mem} {mk t lw pl : Nat} {d : Td} {a n : Int32} (hu : X_cu mk t lw pl d M) (hx : X_tm t d M) (hlw : X_lw lw d M) (wf : Wf d) (hwl : Wl d) (hal : M.1 59 0 = nI 0) (k : ∀ M', r_fx [(0, 0), (46, 0), (46, 2), (46, 4), (55, 0), (61, 0), (61, 1), (61, 2)] [47, 48, 49, 50, 51, 52, 56, 57, 58, 59, 60] M M' → M'.1 0 0 = nI (g_more d a n).2 → M'.1 59 0 = nI 0 → Q (some (.int (g_more d a n).1)) GX M') : Ca 6 mt_X11_more 0 0 [.ref 0, .int a, .int n] GX M Q := by
  refine Ca_of rfl (Nat.le_of_ble_eq_true rfl) ?_
  have hb := wf.1
  have hp := pw_le hb.1
  have ht : isTown t := hu.1.2.2.2
  have em : (-1 : Int32).toInt = -1 := rfl
  have hT : t = 3 ∨ t = 83 ∨ t = 111 ∨ t = 139 ∨ t = 167 := ht
  have hlwi : isLaw lw := hu.2.1.2.1
  refine Ru_aload_n (pc := 0) dX11_more_0 rfl rfl ?_
  refine Ru_iload_n (pc := 1) dX11_more_1 rfl rfl ?_
  refine Ru_cv1 (pc := 2) dX11_more_2 mv_X11_214 rfl (by decide) (Nat.le_of_ble_eq_true rfl) (c_X11_isThing hu hx wf ?_) 
  refine Ru_if_neB (pc := 5) 14 dX11_more_5 (by decide) (fun h1 => ?_) (fun h1 => ?_)
  · replace h1 := of_decide_eq_true h1
    refine Ru_aload_n (pc := 14) dX11_more_14 rfl rfl ?_
    refine Ru_iload_n (pc := 15) dX11_more_15 rfl rfl ?_
    refine Ru_cv1 (pc := 16) dX11_more_16 mv_X11_304 rfl (by decide) (Nat.le_of_ble_eq_true rfl) (c_X11_isDaysAhead ?_) 
    refine Ru_if_neB (pc := 19) 28 dX11_more_19 (by decide) (fun h2 => ?_) (fun h2 => ?_)
    · replace h2 := of_decide_eq_true h2
      obtain ⟨a', ha', rfl⟩ := r_nat (x := a) (n := 8) (by omega) (by omega)
      have ea := r_tn (show a' < 2147483648 by omega)
      obtain ⟨n', hn', rfl⟩ := r_nat (x := n) (n := 10) (by omega) (by omega)
      have en := r_tn (show n' < 2147483648 by omega)
      refine Ru_aload_n (pc := 28) dX11_more_28 rfl rfl ?_
      refine Ru_getR (pc := 29) 55 dX11_more_29 fl_X11_68 rfl rfl (rfX_of (o := 0) (j := 55) rfl rfl) ?_
      refine Ru_iconst (pc := 32) (nI 1) dX11_more_32 rfl ?_
      refine Ru_iconst (pc := 33) (nI 1) dX11_more_33 rfl ?_
      refine Ru_iload_n (pc := 34) dX11_more_34 rfl rfl ?_
      refine Ru_ishl1N (pc := 35) dX11_more_35 (by omega) ?_
      refine Ru_cv2 (pc := 36) dX11_more_36 mv_X11_327 rfl (by decide) (Nat.le_of_ble_eq_true rfl) (c_X0_alwaysIn (by omega) (Nat.lt_of_lt_of_le (Nat.pow_lt_pow_right (by decide) (by omega)) hp.2) (fun M1 gx1 h591 => ?_)) 
      have fx1 : r_fx [(0, 0), (46, 0), (46, 2), (46, 4), (55, 0), (61, 0), (61, 1), (61, 2)] [47, 48, 49, 50, 51, 52, 56, 57, 58, 59, 60] M M1 := gx1.mono rfl
      have hu1 : X_cu mk t lw pl d M1 := (X_cu_dp mk t lw pl d).kp fx1 rfl hu
      have hx1 : X_tm t d M1 := (X_tm_dp ht d).kp fx1 rfl hx
      have hlw1 : X_lw lw d M1 := (X_lw_dp hlwi d).kp fx1 rfl hlw
      have h59a := alM_h hal h591
      have hal1 : M1.1 59 0 = nI 0 := h59a 0 (by omega)
      refine Ru_aload_n (pc := 39) dX11_more_39 rfl rfl ?_
      refine Ru_getR (pc := 40) 55 dX11_more_40 fl_X11_68 rfl rfl (rfX_of (o := 0) (j := 55) rfl rfl) ?_
      refine Ru_aload_n (pc := 43) dX11_more_43 rfl rfl ?_
      refine Ru_cv0 (pc := 44) dX11_more_44 mv_X11_154 rfl (by decide) (Nat.le_of_ble_eq_true rfl) (c_X11_now hu1 ?_) 
      refine Ru_aload_n (pc := 47) dX11_more_47 rfl rfl ?_
      refine Ru_getR (pc := 48) 46 dX11_more_48 fl_X11_54 rfl rfl (rfX_of (o := 0) (j := 46) rfl rfl) ?_
      refine Ru_iconst (pc := 51) (nI 2) dX11_more_51 rfl ?_
      refine Ru_iload_n (pc := 52) dX11_more_52 rfl rfl ?_
      refine Ru_iconst (pc := 53) (nI 0) dX11_more_53 rfl ?_
      refine Ru_cv5 (pc := 54) dX11_more_54 mv_X11_294 rfl (by decide) (Nat.le_of_ble_eq_true rfl) (c_X0_reckon (wn := 2) (n := n') (y := 0) (Al := (alM (2 ^ a'))) wf ⟨by omega, by omega⟩ ⟨by omega, by omega⟩ (by omega) (alM_lt (Nat.lt_of_lt_of_le (Nat.pow_lt_pow_right (by decide) (show a' < d 0 by omega)) hp.2)) hu1 hx1 hlw1 hwl h59a (fun M2 gx2 htw2 h60 h57 h56 => ?_)) 
      have fx2 : r_fx [(0, 0), (46, 0), (46, 2), (46, 4), (55, 0), (61, 0), (61, 1), (61, 2)] [47, 48, 49, 50, 51, 52, 56, 57, 58, 59, 60] M M2 := fx1.tr (gx2.mono rfl)
      have hu2 : X_cu mk t lw pl d M2 := (X_cu_dp mk t lw pl d).kp fx2 rfl hu
      have hx2 : X_tm t d M2 := (X_tm_dp ht d).kp fx2 rfl hx
      have hlw2 : X_lw lw d M2 := (X_lw_dp hlwi d).kp fx2 rfl hlw
      have hf1 : M2.1 60 1 = nI (bV d (2 ^ a') n' (n' - 2) 0) := (h60 1 (by omega)).trans (congrArg nI rD_m)
      have hf0 : M2.1 60 0 = nI (bV d 0 n' (n' - 2) 0) := (h60 0 (by omega)).trans (congrArg nI rD_m0)
      have hal2 : M2.1 59 0 = nI 0 := (gx2 59 0 rfl).1.trans hal1
      clear h56 h57 h60
      refine Ru_aload_n (pc := 57) dX11_more_57 rfl rfl ?_
      refine Ru_aload_n (pc := 58) dX11_more_58 rfl rfl ?_
      refine Ru_getR (pc := 59) 55 dX11_more_59 fl_X11_68 rfl rfl (rfX_of (o := 0) (j := 55) rfl rfl) ?_
      refine Ru_getR (pc := 62) 60 dX11_more_62 fl_X11_330 rfl rfl (rfX_of (o := 55) (j := 5) rfl rfl) ?_
      refine Ru_iconst (pc := 65) (nI 1) dX11_more_65 rfl ?_
      refine Ru_iald (pc := 66) dX11_more_66 rfl (by omega) ?_
      refine Ru_top hf1 ?_
      refine Ru_aload_n (pc := 67) dX11_more_67 rfl rfl ?_
      refine Ru_getR (pc := 68) 55 dX11_more_68 fl_X11_68 rfl rfl (rfX_of (o := 0) (j := 55) rfl rfl) ?_
      refine Ru_getR (pc := 71) 60 dX11_more_71 fl_X11_330 rfl rfl (rfX_of (o := 55) (j := 5) rfl rfl) ?_
      refine Ru_iconst (pc := 74) (nI 0) dX11_more_74 rfl ?_
      refine Ru_iald (pc := 75) dX11_more_75 rfl (by omega) ?_
      refine Ru_top hf0 ?_
      refine Ru_isub (pc := 76) dX11_more_76 ?_
      refine Ru_cv1 (pc := 77) dX11_more_77 mv_X11_170 rfl (by decide) (Nat.le_of_ble_eq_true rfl) (c_X11_tell ?_) 
      refine Ru_iret (pc := 80) dX11_more_80 rfl ⟨Nat.le_refl _, Nat.le_refl _⟩ ?_
      have e : g_more d (nI a') (nI n') = (((nI (bV d (2 ^ a') n' (n' - 2) 0)) - (nI (bV d 0 n' (n' - 2) 0))), 0) := by
        unfold g_more
        rw [if_neg (by omega), if_neg (by omega), r_tnn (show a' < 2147483648 by omega), r_tnn (show n' < 2147483648 by omega)]
      rw [e] at k
      exact k _ (r_fx.sI rfl fx2) r_sI_s (by simp [r_sI_g]; exact hal2)
    · replace h2 := of_decide_eq_false h2
      refine Ru_aload_n (pc := 22) dX11_more_22 rfl rfl ?_
      refine Ru_iconst (pc := 23) (nI 5) dX11_more_23 rfl ?_
      refine Ru_cv1 (pc := 24) dX11_more_24 mv_X11_112 rfl (by decide) (Nat.le_of_ble_eq_true rfl) (c_X11_fail ?_) 
      refine Ru_iret (pc := 27) dX11_more_27 rfl ⟨Nat.le_refl _, Nat.le_refl _⟩ ?_
      have e : g_more d a n = (-1, 5) := by
        unfold g_more
        rw [if_neg (by omega), if_pos (by omega)]
      rw [e] at k
      exact k _ (r_fx.sI rfl r_fx.rf) r_sI_s (by simp [r_sI_g]; exact hal)
  · replace h1 := of_decide_eq_false h1
    refine Ru_aload_n (pc := 8) dX11_more_8 rfl rfl ?_
    refine Ru_iconst (pc := 9) (nI 2) dX11_more_9 rfl ?_
    refine Ru_cv1 (pc := 10) dX11_more_10 mv_X11_112 rfl (by decide) (Nat.le_of_ble_eq_true rfl) (c_X11_fail ?_) 
    refine Ru_iret (pc := 13) dX11_more_13 rfl ⟨Nat.le_refl _, Nat.le_refl _⟩ ?_
    have e : g_more d a n = (-1, 2) := by
      unfold g_more
      rw [if_pos (by omega)]
    rw [e] at k
    exact k _ (r_fx.sI rfl r_fx.rf) r_sI_s (by simp [r_sI_g]; exact hal)

theorem l_X11_bestMore1 {Q : Rq} {M0 : Mem} {d : Td} {n' : Nat} (wf : Wf d) (k : ∀ M, (∀ j, j < d 0 → M.1 59 (1 + j) = nI (2 ^ j)) → M.1 59 0 = nI 0 → r_fx [] [59] M0 M → Ru 6 mt_X11_bestMore r_z 62 [(2, some (.int (nI (d 0)))), (0, some (.ref 0)), (1, some (.int (nI n')))] [] GX M Q) : ∀ (zw : Nat) (t : Nat) (M : Mem), d 0 - t = zw → (t ≤ d 0) → (∀ j, j < t → M.1 59 (1 + j) = nI (2 ^ j)) → (M.1 59 0 = nI 0) → (r_fx [] [59] M0 M) → Ru 6 mt_X11_bestMore r_z 38 [(2, some (.int (nI (d 0)))), (3, some (.int (nI t))), (0, some (.ref 0)), (1, some (.int (nI n')))] [] GX M Q := by
  intro zw
  induction zw using Nat.strongRecOn with
  | ind zw ih =>
    intro t M hw hn hz h0 fx
    subst hw
    have hb := wf.1
    have hp := pw_le hb.1
    refine Ru_iload_n (pc := 38) dX11_bestMore_38 rfl rfl ?_
    refine Ru_iload_n (pc := 39) dX11_bestMore_39 rfl rfl ?_
    refine Ru_icmp_geN (pc := 40) 62 dX11_bestMore_40 (by decide) (by omega) (fun h1 => ?_) (fun h1 => ?_)
    · have et : t = d 0 := by omega
      subst et
      exact Ru_weak (k M hz h0 fx) rfl
    · refine Ru_aload_n (pc := 43) dX11_bestMore_43 rfl rfl ?_
      refine Ru_getR (pc := 44) 55 dX11_bestMore_44 fl_X11_68 rfl rfl (rfX_of (o := 0) (j := 55) rfl rfl) ?_
      refine Ru_iconst (pc := 47) (nI 1) dX11_bestMore_47 rfl ?_
      refine Ru_iload_n (pc := 48) dX11_bestMore_48 rfl rfl ?_
      refine Ru_iaddN (pc := 49) dX11_bestMore_49 ?_
      refine Ru_iconst (pc := 50) (nI 1) dX11_bestMore_50 rfl ?_
      refine Ru_iload_n (pc := 51) dX11_bestMore_51 rfl rfl ?_
      refine Ru_ishl1N (pc := 52) dX11_bestMore_52 (by omega) ?_
      refine Ru_cv2 (pc := 53) dX11_bestMore_53 mv_X11_327 rfl (by decide) (Nat.le_of_ble_eq_true rfl) (c_X0_alwaysIn (by omega) (Nat.lt_of_lt_of_le (Nat.pow_lt_pow_right (by decide) (by omega)) hp.2) (fun M2 gx2 h592 => ?_)) 
      have fx2 : r_fx [] [59] M0 M2 := fx.tr gx2
      refine Ru_iincN (pc := 56) 1 dX11_bestMore_56 rfl rfl rfl (by decide) ?_
      refine Ru_goto (pc := 59) 38 dX11_bestMore_59 (by decide) ?_
      refine Ru_weak (ih (d 0 - (t + 1)) (by omega) (t + 1) M2 rfl (by omega) (fun j q1 => ?_) ?_ fx2) rfl
      · rw [h592]
        by_cases e : j = t
        · subst e
          rw [if_pos ⟨rfl, by omega⟩]
        · rw [if_neg (by omega)]
          exact hz j (by omega)
      · rw [h592, if_neg (by omega)]
        exact h0

theorem l_X11_bestMore2 {Q : Rq} {M : Mem} {d : Td} {n' : Nat} (wf : Wf d) (hd1 : 1 ≤ d 0) (hn9 : n' ≤ 9) (hf : ∀ j, j < d 0 → M.1 60 (1 + j) = nI (bV d (2 ^ j) n' (n' - 2) 0)) (k : Q (some (.int (nI (bk (fun t => bV d (2 ^ t) n' (n' - 2) 0) (d 0 - 1))))) GX (r_sI M 0 0 (nI 0))) : ∀ (zw : Nat) (t : Nat), d 0 - t = zw → (1 ≤ t) → (t ≤ d 0) → Ru 6 mt_X11_bestMore r_z 87 [(2, some (.int (nI (d 0)))), (3, some (.int (nI (bk (fun t => bV d (2 ^ t) n' (n' - 2) 0) (t - 1))))), (4, some (.int (nI t))), (0, some (.ref 0)), (1, some (.int (nI n')))] [] GX M Q := by
  intro zw
  induction zw using Nat.strongRecOn with
  | ind zw ih =>
    intro t hw h1 hn
    subst hw
    have hb := wf.1
    have hp := pw_le hb.1
    have hbk := bk_le (fun t => bV d (2 ^ t) n' (n' - 2) 0) (t - 1)
    have hv3 := bV_b wf (A := 2 ^ t) (z := n' - 2) hn9 0
    have hv4 := bV_b wf (A := 2 ^ bk (fun t => bV d (2 ^ t) n' (n' - 2) 0) (t - 1)) (z := n' - 2) hn9 0
    refine Ru_iload (pc := 87) dX11_bestMore_87 rfl ?_
    refine Ru_iload_n (pc := 89) dX11_bestMore_89 rfl rfl ?_
    refine Ru_icmp_geN (pc := 90) 128 dX11_bestMore_90 (by decide) (by omega) (fun h1 => ?_) (fun h1 => ?_)
    · refine Ru_aload_n (pc := 128) dX11_bestMore_128 rfl rfl ?_
      refine Ru_iload_n (pc := 129) dX11_bestMore_129 rfl rfl ?_
      refine Ru_cv1 (pc := 130) dX11_bestMore_130 mv_X11_170 rfl (by decide) (Nat.le_of_ble_eq_true rfl) (c_X11_tell ?_) 
      refine Ru_iret (pc := 133) dX11_bestMore_133 rfl ⟨Nat.le_refl _, Nat.le_refl _⟩ ?_
      have et : t = d 0 := by omega
      subst et
      exact k
    · refine Ru_aload_n (pc := 93) dX11_bestMore_93 rfl rfl ?_
      refine Ru_getR (pc := 94) 55 dX11_bestMore_94 fl_X11_68 rfl rfl (rfX_of (o := 0) (j := 55) rfl rfl) ?_
      refine Ru_getR (pc := 97) 60 dX11_bestMore_97 fl_X11_330 rfl rfl (rfX_of (o := 55) (j := 5) rfl rfl) ?_
      refine Ru_iconst (pc := 100) (nI 1) dX11_bestMore_100 rfl ?_
      refine Ru_iload (pc := 101) dX11_bestMore_101 rfl ?_
      refine Ru_iaddN (pc := 103) dX11_bestMore_103 ?_
      refine Ru_iald (pc := 104) dX11_bestMore_104 rfl (by omega) ?_
      refine Ru_top (hf t (by omega)) ?_
      refine Ru_aload_n (pc := 105) dX11_bestMore_105 rfl rfl ?_
      refine Ru_getR (pc := 106) 55 dX11_bestMore_106 fl_X11_68 rfl rfl (rfX_of (o := 0) (j := 55) rfl rfl) ?_
      refine Ru_getR (pc := 109) 60 dX11_bestMore_109 fl_X11_330 rfl rfl (rfX_of (o := 55) (j := 5) rfl rfl) ?_
      refine Ru_iconst (pc := 112) (nI 1) dX11_bestMore_112 rfl ?_
      refine Ru_iload_n (pc := 113) dX11_bestMore_113 rfl rfl ?_
      refine Ru_iaddN (pc := 114) dX11_bestMore_114 ?_
      refine Ru_iald (pc := 115) dX11_bestMore_115 rfl (by omega) ?_
      refine Ru_top (hf (bk (fun t => bV d (2 ^ t) n' (n' - 2) 0) (t - 1)) (by omega)) ?_
      refine Ru_icmp_leN (pc := 116) 122 dX11_bestMore_116 (by decide) (by omega) (fun h2 => ?_) (fun h2 => ?_)
      · refine Ru_iincN (pc := 122) 1 dX11_bestMore_122 rfl rfl rfl (by decide) ?_
        refine Ru_goto (pc := 125) 87 dX11_bestMore_125 (by decide) ?_
        have e : bk (fun t => bV d (2 ^ t) n' (n' - 2) 0) t = (bk (fun t => bV d (2 ^ t) n' (n' - 2) 0) (t - 1)) := by
          obtain ⟨q, rfl⟩ : ∃ q, t = q + 1 := ⟨t - 1, by omega⟩
          rw [Nat.add_sub_cancel] at *
          rw [bk]
          exact if_neg (by omega)
        have hr := ih (d 0 - (t + 1)) (by omega) (t + 1) rfl (by omega) (by omega)
        rw [Nat.add_sub_cancel, e] at hr
        exact Ru_weak hr rfl
      · refine Ru_iload (pc := 119) dX11_bestMore_119 rfl ?_
        refine Ru_istore_n (pc := 121) dX11_bestMore_121 rfl rfl (by decide) ?_
        refine Ru_iincN (pc := 122) 1 dX11_bestMore_122 rfl rfl rfl (by decide) ?_
        refine Ru_goto (pc := 125) 87 dX11_bestMore_125 (by decide) ?_
        have e : bk (fun t => bV d (2 ^ t) n' (n' - 2) 0) t = t := by
          obtain ⟨q, rfl⟩ : ∃ q, t = q + 1 := ⟨t - 1, by omega⟩
          rw [Nat.add_sub_cancel] at *
          rw [bk]
          exact if_pos (by assumption)
        have hr := ih (d 0 - (t + 1)) (by omega) (t + 1) rfl (by omega) (by omega)
        rw [Nat.add_sub_cancel, e] at hr
        exact Ru_weak hr rfl

theorem c_X11_bestMore {Q : Rq} {M : Mem} {mk t lw pl : Nat} {d : Td} {n : Int32} (hu : X_cu mk t lw pl d M) (hx : X_tm t d M) (hlw : X_lw lw d M) (wf : Wf d) (hwl : Wl d) (hal : M.1 59 0 = nI 0) (k : ∀ M', r_fx [(0, 0), (46, 0), (46, 2), (46, 4), (55, 0), (61, 0), (61, 1), (61, 2)] [47, 48, 49, 50, 51, 52, 56, 57, 58, 59, 60] M M' → M'.1 0 0 = nI (g_bestMore d n).2 → M'.1 59 0 = nI 0 → Q (some (.int (g_bestMore d n).1)) GX M') : Ca 6 mt_X11_bestMore 0 0 [.ref 0, .int n] GX M Q := by
  refine Ca_of rfl (Nat.le_of_ble_eq_true rfl) ?_
  have hb := wf.1
  have hp := pw_le hb.1
  have ht : isTown t := hu.1.2.2.2
  have em : (-1 : Int32).toInt = -1 := rfl
  have hT : t = 3 ∨ t = 83 ∨ t = 111 ∨ t = 139 ∨ t = 167 := ht
  have hlwi : isLaw lw := hu.2.1.2.1
  refine Ru_aload_n (pc := 0) dX11_bestMore_0 rfl rfl ?_
  refine Ru_iload_n (pc := 1) dX11_bestMore_1 rfl rfl ?_
  refine Ru_cv1 (pc := 2) dX11_bestMore_2 mv_X11_304 rfl (by decide) (Nat.le_of_ble_eq_true rfl) (c_X11_isDaysAhead ?_) 
  refine Ru_if_neB (pc := 5) 14 dX11_bestMore_5 (by decide) (fun h1 => ?_) (fun h1 => ?_)
  · replace h1 := of_decide_eq_true h1
    obtain ⟨n', hn', rfl⟩ := r_nat (x := n) (n := 10) (by omega) (by omega)
    have en := r_tn (show n' < 2147483648 by omega)
    refine Ru_aload_n (pc := 14) dX11_bestMore_14 rfl rfl ?_
    refine Ru_cv0 (pc := 15) dX11_bestMore_15 mv_X11_154 rfl (by decide) (Nat.le_of_ble_eq_true rfl) (c_X11_now hu ?_) 
    refine Ru_getR (pc := 18) (t + 1) dX11_bestMore_18 fl_X11_161 (shTown_0 ht) rfl (rfX_of (o := t) (j := 1) (shTown_0 ht) rfl) ?_
    refine Ru_getI (pc := 21) dX11_bestMore_21 fl_X11_165 (shNames_0 (isNames_t ht).1) rfl ?_
    refine Ru_top hx.1.1 ?_
    refine Ru_istore_n (pc := 24) dX11_bestMore_24 rfl rfl (by decide) ?_
    refine Ru_iload_n (pc := 25) dX11_bestMore_25 rfl rfl ?_
    refine Ru_if_neN (pc := 26) 36 dX11_bestMore_26 (by decide) (by omega) (fun h2 => ?_) (fun h2 => ?_)
    · refine Ru_iconst (pc := 36) (nI 0) dX11_bestMore_36 rfl ?_
      refine Ru_istore_n (pc := 37) dX11_bestMore_37 rfl rfl (by decide) ?_
      refine Ru_weak (l_X11_bestMore1 (M0 := M) (n' := n') wf (fun M1 hz1 hal1 gx1 => ?_) (d 0) 0 M rfl (Nat.zero_le _) (fun j q => by omega) hal r_fx.rf) rfl
      have fx1 : r_fx [(0, 0), (46, 0), (46, 2), (46, 4), (55, 0), (61, 0), (61, 1), (61, 2)] [47, 48, 49, 50, 51, 52, 56, 57, 58, 59, 60] M M1 := gx1.mono rfl
      have hu1 : X_cu mk t lw pl d M1 := (X_cu_dp mk t lw pl d).kp fx1 rfl hu
      have hx1 : X_tm t d M1 := (X_tm_dp ht d).kp fx1 rfl hx
      have hlw1 : X_lw lw d M1 := (X_lw_dp hlwi d).kp fx1 rfl hlw
      have h59a : ∀ w, w < 1 + d 0 → M1.1 59 w = nI (alB w) := fun w q => by
        cases w with
        | zero => exact hal1
        | succ j =>
          rw [Nat.add_comm j 1, alB_s (by omega)]
          exact hz1 j (by omega)
      refine Ru_aload_n (pc := 62) dX11_bestMore_62 rfl rfl ?_
      refine Ru_getR (pc := 63) 55 dX11_bestMore_63 fl_X11_68 rfl rfl (rfX_of (o := 0) (j := 55) rfl rfl) ?_
      refine Ru_aload_n (pc := 66) dX11_bestMore_66 rfl rfl ?_
      refine Ru_cv0 (pc := 67) dX11_bestMore_67 mv_X11_154 rfl (by decide) (Nat.le_of_ble_eq_true rfl) (c_X11_now hu1 ?_) 
      refine Ru_aload_n (pc := 70) dX11_bestMore_70 rfl rfl ?_
      refine Ru_getR (pc := 71) 46 dX11_bestMore_71 fl_X11_54 rfl rfl (rfX_of (o := 0) (j := 46) rfl rfl) ?_
      refine Ru_iconst (pc := 74) (nI 1) dX11_bestMore_74 rfl ?_
      refine Ru_iload_n (pc := 75) dX11_bestMore_75 rfl rfl ?_
      refine Ru_iaddN (pc := 76) dX11_bestMore_76 ?_
      refine Ru_iload_n (pc := 77) dX11_bestMore_77 rfl rfl ?_
      refine Ru_iconst (pc := 78) (nI 0) dX11_bestMore_78 rfl ?_
      refine Ru_cv5 (pc := 79) dX11_bestMore_79 mv_X11_294 rfl (by decide) (Nat.le_of_ble_eq_true rfl) (c_X0_reckon (wn := (1 + (d 0))) (n := n') (y := 0) (Al := alB) wf ⟨by omega, by omega⟩ ⟨by omega, by omega⟩ (by omega) alB_lt hu1 hx1 hlw1 hwl h59a (fun M2 gx2 htw2 h60 h57 h56 => ?_)) 
      have fx2 : r_fx [(0, 0), (46, 0), (46, 2), (46, 4), (55, 0), (61, 0), (61, 1), (61, 2)] [47, 48, 49, 50, 51, 52, 56, 57, 58, 59, 60] M M2 := fx1.tr (gx2.mono rfl)
      have hu2 : X_cu mk t lw pl d M2 := (X_cu_dp mk t lw pl d).kp fx2 rfl hu
      have hx2 : X_tm t d M2 := (X_tm_dp ht d).kp fx2 rfl hx
      have hlw2 : X_lw lw d M2 := (X_lw_dp hlwi d).kp fx2 rfl hlw
      have hf : ∀ j, j < d 0 → M2.1 60 (1 + j) = nI (bV d (2 ^ j) n' (n' - 2) 0) := fun j q => (h60 (1 + j) (by omega)).trans (congrArg nI (rD_b1 (by omega)))
      have hal2 : M2.1 59 0 = nI 0 := (gx2 59 0 rfl).1.trans hal1
      clear h56 h57 h60
      refine Ru_iconst (pc := 82) (nI 0) dX11_bestMore_82 rfl ?_
      refine Ru_istore_n (pc := 83) dX11_bestMore_83 rfl rfl (by decide) ?_
      refine Ru_iconst (pc := 84) (nI 1) dX11_bestMore_84 rfl ?_
      refine Ru_istore (pc := 85) dX11_bestMore_85 rfl (by decide) ?_
      have e : g_bestMore d (nI n') = (nI (bk (fun t => bV d (2 ^ t) n' (n' - 2) 0) (d 0 - 1)), 0) := by
        unfold g_bestMore
        rw [if_neg (by omega), if_neg (by omega), r_tnn (show n' < 2147483648 by omega)]
      rw [e] at k
      exact Ru_weak (l_X11_bestMore2 wf (by omega) (by omega) hf (k _ (r_fx.sI rfl fx2) r_sI_s (by simp [r_sI_g]; exact hal2)) (d 0 - 1) 1 rfl (by omega) (by omega)) rfl
    · refine Ru_aload_n (pc := 29) dX11_bestMore_29 rfl rfl ?_
      refine Ru_bipush (pc := 30) (nI 8) dX11_bestMore_30 rfl ?_
      refine Ru_cv1 (pc := 32) dX11_bestMore_32 mv_X11_112 rfl (by decide) (Nat.le_of_ble_eq_true rfl) (c_X11_fail ?_) 
      refine Ru_iret (pc := 35) dX11_bestMore_35 rfl ⟨Nat.le_refl _, Nat.le_refl _⟩ ?_
      have e : g_bestMore d (nI n') = (-1, 8) := by
        unfold g_bestMore
        rw [if_neg (by omega), if_pos (by omega)]
      rw [e] at k
      exact k _ (r_fx.sI rfl r_fx.rf) r_sI_s (by simp [r_sI_g]; exact hal)
  · replace h1 := of_decide_eq_false h1
    refine Ru_aload_n (pc := 8) dX11_bestMore_8 rfl rfl ?_
    refine Ru_iconst (pc := 9) (nI 5) dX11_bestMore_9 rfl ?_
    refine Ru_cv1 (pc := 10) dX11_bestMore_10 mv_X11_112 rfl (by decide) (Nat.le_of_ble_eq_true rfl) (c_X11_fail ?_) 
    refine Ru_iret (pc := 13) dX11_bestMore_13 rfl ⟨Nat.le_refl _, Nat.le_refl _⟩ ?_
    have e : g_bestMore d n = (-1, 5) := by
      unfold g_bestMore
      rw [if_pos (by omega)]
    rw [e] at k
    exact k _ (r_fx.sI rfl r_fx.rf) r_sI_s (by simp [r_sI_g]; exact hal)
