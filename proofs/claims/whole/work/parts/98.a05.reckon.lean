/-- the value of world w when i nights are still ahead -/
def rD (d : Td) (Al : Nat → Nat) (z w i : Nat) : Nat → Nat → Nat := dA d (BD d (Al w) z i)
theorem rD_b {d : Td} (wf : Wf d) (Al : Nat → Nat) (z w i : Nat) (hi : i ≤ 9) (t s : Nat) : rD d Al z w i t s ≤ 2000000 := by
  have := dV_b3 wf (fun s => Nat.le_trans (BD_b wf (Al w) z i s) (Nat.mul_le_mul_left 199800 hi)) (show 25 ≤ 25 by omega) t s
  have e : rD d Al z w i t s = dV d (BD d (Al w) z i) 25 t s := rfl
  omega

theorem l_X0_reckon1 {Q : Rq} {M0 : Mem} {d : Td} {t wn n y z dd i : Nat} {Al : Nat → Nat} (ht : isTown t) (hx0 : X_tm t d M0) (wf : Wf d) (htw0 : M0.2.2 55 0 = some t) (hwn : wn ≤ 9) (hi : i ≤ 8) (hdd : dd ≤ 9) (hE0 : ∀ w s', w < wn → s' < 2 ^ d 0 → M0.1 58 (w * 256 + s') = nI (BD d (Al w) z i s')) (k : ∀ M w, w = wn → (∀ w', w' < w → M.1 60 w' = nI (rD d Al z w' i 0 0)) → ((0 < dd → ∀ w' s', w' < w → s' < 2 ^ d 0 → M.1 57 (w' * 256 + s') = nI (rD d Al z w' i 0 s')) ∧ (dd = 0 → ∀ k, M.1 57 k = M0.1 57 k)) → (0 < w → ∀ t' s', t' ≤ 24 → s' < 2 ^ d 0 → M.1 56 (t' * 256 + s') = nI (rD d Al z (w - 1) i t' s')) → r_fx [(61, 0), (61, 1), (61, 2)] [56, 57, 60] M0 M → Ru 5 mt_X0_reckon r_z 126 [(6, some (.int (nI dd))), (0, some (.ref 55)), (1, some (.ref t)), (2, some (.ref 46)), (3, some (.int (nI wn))), (4, some (.int (nI n))), (5, some (.int (nI y)))] [] GX M Q) : ∀ (zw : Nat) (w : Nat) (M : Mem), wn - w = zw → (w ≤ wn) → (∀ w', w' < w → M.1 60 w' = nI (rD d Al z w' i 0 0)) → ((0 < dd → ∀ w' s', w' < w → s' < 2 ^ d 0 → M.1 57 (w' * 256 + s') = nI (rD d Al z w' i 0 s')) ∧ (dd = 0 → ∀ k, M.1 57 k = M0.1 57 k)) → (0 < w → ∀ t' s', t' ≤ 24 → s' < 2 ^ d 0 → M.1 56 (t' * 256 + s') = nI (rD d Al z (w - 1) i t' s')) → (r_fx [(61, 0), (61, 1), (61, 2)] [56, 57, 60] M0 M) → Ru 5 mt_X0_reckon r_z 69 [(7, some (.int (nI w))), (6, some (.int (nI dd))), (0, some (.ref 55)), (1, some (.ref t)), (2, some (.ref 46)), (3, some (.int (nI wn))), (4, some (.int (nI n))), (5, some (.int (nI y)))] [] GX M Q := by
  intro zw
  induction zw using Nat.strongRecOn with
  | ind zw ih =>
    intro w M hw hn hF hM hB fx
    subst hw
    have hb := wf.1
    have hp := pw_le hb.1
    have hT : t = 3 ∨ t = 83 ∨ t = 111 ∨ t = 139 ∨ t = 167 := ht
    have hx : X_tm t d M := (X_tm_dp ht d).kp fx rfl hx0
    have htw : M.2.2 55 0 = some t := (fx 55 0 rfl).2.2.trans htw0
    have hEb : ∀ w s, BD d (Al w) z i s ≤ 10000000 := fun w s => by
      have := BD_b wf (Al w) z i s
      omega
    refine Ru_iload (pc := 69) dX0_reckon_69 rfl ?_
    refine Ru_iload_n (pc := 71) dX0_reckon_71 rfl rfl ?_
    refine Ru_icmp_geN (pc := 72) 126 dX0_reckon_72 (by decide) (by omega) (fun h1 => ?_) (fun h1 => ?_)
    · exact Ru_weak (k M w (by omega) hF hM hB fx) rfl
    · refine Ru_aload_n (pc := 75) dX0_reckon_75 rfl rfl ?_
      refine Ru_iload (pc := 76) dX0_reckon_76 rfl ?_
      refine Ru_cv1 (pc := 78) dX0_reckon_78 mv_X0_58 rfl (by decide) (Nat.le_of_ble_eq_true rfl) (c_X0_reckonDay (E := BD d (Al w) z i) ht hx wf htw (hEb w) (by omega) (fun s' qs => ((fx 58 _ rfl).1).trans (hE0 w s' (by omega) qs)) (fun M2 gx2 hA2 => ?_)) 
      have fx2 : r_fx [(61, 0), (61, 1), (61, 2)] [56, 57, 60] M0 M2 := fx.tr (gx2.mono rfl)
      have htw2 : M2.2.2 55 0 = some t := (fx2 55 0 rfl).2.2.trans htw0
      have hr0 := rD_b wf Al z w i (by omega) 0 0
      refine Ru_aload_n (pc := 81) dX0_reckon_81 rfl rfl ?_
      refine Ru_getR (pc := 82) 60 dX0_reckon_82 fl_X0_24 rfl rfl (rfX_of (o := 55) (j := 5) rfl rfl) ?_
      refine Ru_iload (pc := 85) dX0_reckon_85 rfl ?_
      refine Ru_aload_n (pc := 87) dX0_reckon_87 rfl rfl ?_
      refine Ru_getR (pc := 88) 56 dX0_reckon_88 fl_X0_9 rfl rfl (rfX_of (o := 55) (j := 1) rfl rfl) ?_
      refine Ru_iconst (pc := 91) (nI 0) dX0_reckon_91 rfl ?_
      refine Ru_iald (pc := 92) dX0_reckon_92 rfl (by omega) ?_
      refine Ru_top (hA2 0 0 (by omega) (by omega)) ?_
      refine Ru_iast (pc := 93) rfl dX0_reckon_93 rfl (by omega) ?_
      refine Ru_iload (pc := 94) dX0_reckon_94 rfl ?_
      refine Ru_if_leN (pc := 96) 120 dX0_reckon_96 (by decide) (by omega) (fun h2 => ?_) (fun h2 => ?_)
      · refine Ru_iincN (pc := 120) 1 dX0_reckon_120 rfl rfl rfl (by decide) ?_
        refine Ru_goto (pc := 123) 69 dX0_reckon_123 (by decide) ?_
        refine Ru_weak (ih (wn - (w + 1)) (by omega) (w + 1) _ rfl (by omega) (fun w' q1 => ?_) ?_ (fun _ t' s' q1 q2 => ?_) (r_fx.sI rfl fx2)) rfl
        · by_cases e : w' = w
          · subst e
            simp [r_sI_g]
            rfl
          · have h9 := hF w' (by omega)
            simp [r_sI_g, e]
            rw [(gx2 60 _ rfl).1]
            exact h9
        · refine ⟨fun q => by omega, fun q k => ?_⟩
          simp [r_sI_g]
          exact (gx2 57 k rfl).1.trans (hM.2 q k)
        · rw [Nat.add_sub_cancel]
          simp [r_sI_g]
          exact hA2 t' s' q1 q2
      · refine Ru_aload_n (pc := 99) dX0_reckon_99 rfl rfl ?_
        refine Ru_getR (pc := 100) 56 dX0_reckon_100 fl_X0_9 rfl rfl (rfX_of (o := 55) (j := 1) rfl rfl) ?_
        refine Ru_iconst (pc := 103) (nI 0) dX0_reckon_103 rfl ?_
        refine Ru_aload_n (pc := 104) dX0_reckon_104 rfl rfl ?_
        refine Ru_getR (pc := 105) 57 dX0_reckon_105 fl_X0_15 rfl rfl (rfX_of (o := 55) (j := 2) rfl rfl) ?_
        refine Ru_iload (pc := 108) dX0_reckon_108 rfl ?_
        refine Ru_sipush (pc := 110) (nI 256) dX0_reckon_110 rfl ?_
        refine Ru_imulN (pc := 113) dX0_reckon_113 ?_
        refine Ru_sipush (pc := 114) (nI 256) dX0_reckon_114 rfl ?_
        refine Ru_copyI (pc := 117) rfl dX0_reckon_117 cp_X0 rfl rfl (by omega) (by omega) (by decide) (Nat.le_of_ble_eq_true rfl) ?_
        refine Ru_iincN (pc := 120) 1 dX0_reckon_120 rfl rfl rfl (by decide) ?_
        refine Ru_goto (pc := 123) 69 dX0_reckon_123 (by decide) ?_
        refine Ru_weak (ih (wn - (w + 1)) (by omega) (w + 1) _ rfl (by omega) (fun w' q1 => ?_) ?_ (fun _ t' s' q1 q2 => ?_) (r_fx.wI (fun k => r_in_A rfl) (r_fx.sI rfl fx2))) rfl
        · by_cases e : w' = w
          · subst e
            rw [r_wI_n (by decide)]
            simp [r_sI_g]
            rfl
          · have h9 := hF w' (by omega)
            rw [r_wI_n (by decide)]
            simp [r_sI_g, e]
            rw [(gx2 60 _ rfl).1]
            exact h9
        · refine ⟨fun _ w' s' q1 q2 => ?_, fun q => by omega⟩
          by_cases e : w' = w
          · subst e
            rw [r_wI_s, pk_cpy_in (by omega) (by omega), show 0 + (w' * 256 + s' - w' * 256) = 0 * 256 + s' by omega]
            simp [r_sI_g]
            have h9 := hA2 0 s' (by omega) q2
            rw [show 0 * 256 + s' = s' by omega] at h9
            exact h9
          · have h9 := hM.1 (by omega) w' s' (by omega) q2
            rw [r_wI_s, pk_cpy_out (by omega)]
            simp [r_sI_g]
            rw [(gx2 57 _ rfl).1]
            exact h9
        · rw [Nat.add_sub_cancel]
          rw [r_wI_n (by decide)]
          simp [r_sI_g]
          exact hA2 t' s' q1 q2

theorem l_X0_reckon0 {Q : Rq} {M0 : Mem} {t wn n y : Nat} (hwn : 1 ≤ wn ∧ wn ≤ 9) (k : ∀ M, (∀ k, k < wn * 256 → M.1 58 k = nI 0) → r_fx [] [58] M0 M → Ru 5 mt_X0_reckon r_z 32 [(0, some (.ref 55)), (1, some (.ref t)), (2, some (.ref 46)), (3, some (.int (nI wn))), (4, some (.int (nI n))), (5, some (.int (nI y)))] [] GX M Q) : ∀ (zw : Nat) (i : Nat) (M : Mem), wn * 256 - i = zw → (i ≤ wn * 256) → (∀ k, k < i → M.1 58 k = nI 0) → (r_fx [] [58] M0 M) → Ru 5 mt_X0_reckon r_z 8 [(6, some (.int (nI i))), (0, some (.ref 55)), (1, some (.ref t)), (2, some (.ref 46)), (3, some (.int (nI wn))), (4, some (.int (nI n))), (5, some (.int (nI y)))] [] GX M Q := by
  intro zw
  induction zw using Nat.strongRecOn with
  | ind zw ih =>
    intro i M hw hn hE fx
    subst hw
    refine Ru_iload (pc := 8) dX0_reckon_8 rfl ?_
    refine Ru_iload_n (pc := 10) dX0_reckon_10 rfl rfl ?_
    refine Ru_sipush (pc := 11) (nI 256) dX0_reckon_11 rfl ?_
    refine Ru_imulN (pc := 14) dX0_reckon_14 ?_
    refine Ru_icmp_geN (pc := 15) 32 dX0_reckon_15 (by decide) (by omega) (fun h1 => ?_) (fun h1 => ?_)
    · have en : i = wn * 256 := by omega
      subst en
      exact Ru_weak (k M hE fx) rfl
    · refine Ru_aload_n (pc := 18) dX0_reckon_18 rfl rfl ?_
      refine Ru_getR (pc := 19) 58 dX0_reckon_19 fl_X0_18 rfl rfl (rfX_of (o := 55) (j := 3) rfl rfl) ?_
      refine Ru_iload (pc := 22) dX0_reckon_22 rfl ?_
      refine Ru_iconst (pc := 24) (nI 0) dX0_reckon_24 rfl ?_
      refine Ru_iast (pc := 25) rfl dX0_reckon_25 rfl (by omega) ?_
      refine Ru_iincN (pc := 26) 1 dX0_reckon_26 rfl rfl rfl (by decide) ?_
      refine Ru_goto (pc := 29) 8 dX0_reckon_29 (by decide) ?_
      refine Ru_weak (ih (wn * 256 - (i + 1)) (by omega) (i + 1) _ rfl (by omega) (fun k' q1 => ?_) (r_fx.sI rfl fx)) rfl
      by_cases e : k' = i
      · subst e
        simp [r_sI_g]
      · have h9 := hE k' (by omega)
        simp [r_sI_g, e]
        exact h9

theorem l_X0_reckon2 {Q : Rq} {M0 : Mem} {d : Td} {wn n y : Nat} {Al : Nat → Nat} (wf : Wf d) (hwn : 1 ≤ wn ∧ wn ≤ 9) (hn9 : 1 ≤ n ∧ n ≤ 9) (hy9 : y ≤ 999) (hAb : ∀ w, Al w < 256) {mk t lw pl : Nat} (hu0 : X_cu mk t lw pl d M0) (hx0 : X_tm t d M0) (hlw0 : X_lw lw d M0) (hwl : Wl d) (h590 : ∀ w, w < wn → M0.1 59 w = nI (Al w)) (htw0 : M0.2.2 55 0 = some t) (k : ∀ M', r_fx [(46, 0), (46, 2), (46, 4), (61, 0), (61, 1), (61, 2)] [47, 48, 49, 50, 51, 52, 56, 57, 58, 60] M0 M' → M'.2.2 55 0 = some t → (∀ w, w < wn → M'.1 60 w = nI (rD d Al (y + n - 2) w (n - 1) 0 0)) → (2 ≤ n → ∀ w s', w < wn → s' < 2 ^ d 0 → M'.1 57 (w * 256 + s') = nI (rD d Al (y + n - 2) w (n - 2) 0 s')) → (∀ t' s', t' ≤ 24 → s' < 2 ^ d 0 → M'.1 56 (t' * 256 + s') = nI (rD d Al (y + n - 2) (wn - 1) (n - 1) t' s')) → Q none GX M') : ∀ (zw : Nat) (j : Nat) (M : Mem), j = zw → (j ≤ n) → (j = n → ∀ w s', w < wn → s' < 2 ^ d 0 → M.1 58 (w * 256 + s') = nI 0) → (j < n → ∀ w, w < wn → M.1 60 w = nI (rD d Al (y + n - 2) w (n - 1 - j) 0 0)) → (j < n → 2 ≤ n → ∀ w s', w < wn → s' < 2 ^ d 0 → M.1 57 (w * 256 + s') = nI (rD d Al (y + n - 2) w (n - 1 - max j 1) 0 s')) → (j < n → ∀ t' s', t' ≤ 24 → s' < 2 ^ d 0 → M.1 56 (t' * 256 + s') = nI (rD d Al (y + n - 2) (wn - 1) (n - 1 - j) t' s')) → (r_fx [(46, 0), (46, 2), (46, 4), (61, 0), (61, 1), (61, 2)] [47, 48, 49, 50, 51, 52, 56, 57, 58, 60] M0 M) → Ru 5 mt_X0_reckon r_z 38 [(6, some (.int (nM j))), (0, some (.ref 55)), (1, some (.ref t)), (2, some (.ref 46)), (3, some (.int (nI wn))), (4, some (.int (nI n))), (5, some (.int (nI y)))] [] GX M Q := by
  intro zw
  induction zw using Nat.strongRecOn with
  | ind zw ih =>
    intro j M hw hn hE hF hM hB fx
    subst hw
    have hb := wf.1
    have hp := pw_le hb.1
    have ht : isTown t := hu0.1.2.2.2
    have hT : t = 3 ∨ t = 83 ∨ t = 111 ∨ t = 139 ∨ t = 167 := ht
    have hlwi : isLaw lw := hu0.2.1.2.1
    have hu : X_cu mk t lw pl d M := (X_cu_dp mk t lw pl d).kp fx rfl hu0
    have hx : X_tm t d M := (X_tm_dp ht d).kp fx rfl hx0
    have hlw : X_lw lw d M := (X_lw_dp hlwi d).kp fx rfl hlw0
    have htw : M.2.2 55 0 = some t := ((fx) 55 0 rfl).2.2.trans htw0
    have hzj : (nM j).toInt = (j : Int) - 1 := nM_t (by omega)
    refine Ru_iload (pc := 38) dX0_reckon_38 rfl ?_
    refine Ru_if_ltT (pc := 40) 132 dX0_reckon_40 (by decide) (fun h1 => ?_) (fun h1 => ?_)
    · refine Ru_vret (pc := 132) dX0_reckon_132 rfl ⟨Nat.le_refl _, Nat.le_refl _⟩ ?_
      have en : j = 0 := by omega
      subst en
      exact k M fx htw (hF (by omega)) (fun q => hM (by omega) q) (hB (by omega))
    · obtain ⟨dd, rfl⟩ : ∃ dd, j = dd + 1 := ⟨j - 1, by omega⟩
      refine Ru_weak (L' := [(6, some (.int (nI dd))), (0, some (.ref 55)), (1, some (.ref t)), (2, some (.ref 46)), (3, some (.int (nI wn))), (4, some (.int (nI n))), (5, some (.int (nI y)))]) ?_ rfl
      refine Ru_iload (pc := 43) dX0_reckon_43 rfl ?_
      refine Ru_iload (pc := 45) dX0_reckon_45 rfl ?_
      refine Ru_iconst (pc := 47) (nI 1) dX0_reckon_47 rfl ?_
      refine Ru_isubN (pc := 48) dX0_reckon_48 (by omega) ?_
      refine Ru_icmp_geN (pc := 49) 66 dX0_reckon_49 (by decide) (by omega) (fun h2 => ?_) (fun h2 => ?_)
      · refine Ru_iconst (pc := 66) (nI 0) dX0_reckon_66 rfl ?_
        refine Ru_istore (pc := 67) dX0_reckon_67 rfl (by decide) ?_
        have hE3 : ∀ w s', w < wn → s' < 2 ^ d 0 → M.1 58 (w * 256 + s') = nI (BD d (Al w) (y + n - 2) (n - 1 - dd) s') := fun w s' q1 q2 => by
          rw [show n - 1 - dd = 0 by omega]
          exact hE (by omega) w s' q1 q2
        refine Ru_weak (l_X0_reckon1 (M0 := M) (t := t) (n := n) (y := y) (dd := dd) (i := n - 1 - dd) (z := (y + n - 2)) (Al := Al) ht hx wf htw hwn.2 (by omega) (by omega) hE3 (fun M4 w4 ew4 hF4 hM4 hB4 gx4 => ?_) wn 0 M rfl (Nat.zero_le _) (fun w' q => by omega) ⟨fun _ w' s' q => by omega, fun _ k => rfl⟩ (fun q => by omega) r_fx.rf) rfl
        subst ew4
        have fx4 : r_fx [(46, 0), (46, 2), (46, 4), (61, 0), (61, 1), (61, 2)] [47, 48, 49, 50, 51, 52, 56, 57, 58, 60] M0 M4 := fx.tr (gx4.mono rfl)
        refine Ru_iinc (pc := 126) _ dX0_reckon_126 rfl rfl rfl (by decide) ?_
        refine Ru_goto (pc := 129) 38 dX0_reckon_129 (by decide) ?_
        rw [nM_dec (by omega)]
        refine Ru_weak (ih dd (by omega) dd M4 rfl (by omega) (fun q => by omega) (fun _ w q => hF4 w q) (fun _ q2 w s' q3 q4 => ?_) (fun _ t' s' q1 q2 => hB4 (by omega) t' s' q1 q2) fx4) rfl
        by_cases ed : 0 < dd
        · rw [show max dd 1 = dd by omega]
          exact hM4.1 ed w s' q3 q4
        · have ed0 : dd = 0 := by omega
          subst ed0
          rw [hM4.2 rfl]
          have h9 := hM (by omega) (by omega) w s' q3 q4
          exact h9
      · refine Ru_aload_n (pc := 52) dX0_reckon_52 rfl rfl ?_
        refine Ru_aload_n (pc := 53) dX0_reckon_53 rfl rfl ?_
        refine Ru_iload_n (pc := 54) dX0_reckon_54 rfl rfl ?_
        refine Ru_iload (pc := 55) dX0_reckon_55 rfl ?_
        refine Ru_iload (pc := 57) dX0_reckon_57 rfl ?_
        refine Ru_iaddN (pc := 59) dX0_reckon_59 ?_
        refine Ru_bipush (pc := 60) (nI 7) dX0_reckon_60 rfl ?_
        refine Ru_iremN (pc := 62) dX0_reckon_62 (by omega) ?_
        refine Ru_cv3 (pc := 63) dX0_reckon_63 mv_X0_54 rfl (by decide) (Nat.le_of_ble_eq_true rfl) (c_X0_reckonNight (Al := Al) (f := fun w x => rD d Al (y + n - 2) w (n - 2 - dd) 0 x) wf hwn.2 (fun w x => Nat.le_trans (rD_b wf Al _ w _ (by omega) 0 x) (by decide)) hAb (by omega) hu hx hlw hwl htw (fun w q => (fx 59 w rfl).1.trans (h590 w q)) (fun w s' q1 q2 => ?_) (fun M2 gx2 hE2 => ?_)) 
        next =>
          have h9 := hM (by omega) (by omega) w s' q1 q2
          rw [show n - 1 - max (dd + 1) 1 = n - 2 - dd by omega] at h9
          exact h9
        have fx2 : r_fx [(46, 0), (46, 2), (46, 4), (61, 0), (61, 1), (61, 2)] [47, 48, 49, 50, 51, 52, 56, 57, 58, 60] M0 M2 := fx.tr (gx2.mono rfl)
        have hu2 : X_cu mk t lw pl d M2 := (X_cu_dp mk t lw pl d).kp fx2 rfl hu0
        have hx2 : X_tm t d M2 := (X_tm_dp ht d).kp fx2 rfl hx0
        have hlw2 : X_lw lw d M2 := (X_lw_dp hlwi d).kp fx2 rfl hlw0
        have htw2 : M2.2.2 55 0 = some t := ((fx2) 55 0 rfl).2.2.trans htw0
        have hE3 : ∀ w s', w < wn → s' < 2 ^ d 0 → M2.1 58 (w * 256 + s') = nI (BD d (Al w) (y + n - 2) (n - 1 - dd) s') := fun w s' q1 q2 => by
          rw [hE2 w s' q1 q2, show n - 1 - dd = (n - 2 - dd) + 1 by omega]
          show _ = nI (nBest d (Al w) _ s' (((y + n - 2) - (n - 2 - dd)) % 7))
          rw [show (y + n - 2) - (n - 2 - dd) = y + dd by omega]
          rfl
        refine Ru_iconst (pc := 66) (nI 0) dX0_reckon_66 rfl ?_
        refine Ru_istore (pc := 67) dX0_reckon_67 rfl (by decide) ?_
        refine Ru_weak (l_X0_reckon1 (M0 := M2) (t := t) (n := n) (y := y) (dd := dd) (i := n - 1 - dd) (z := (y + n - 2)) (Al := Al) ht hx2 wf htw2 hwn.2 (by omega) (by omega) hE3 (fun M4 w4 ew4 hF4 hM4 hB4 gx4 => ?_) wn 0 M2 rfl (Nat.zero_le _) (fun w' q => by omega) ⟨fun _ w' s' q => by omega, fun _ k => rfl⟩ (fun q => by omega) r_fx.rf) rfl
        subst ew4
        have fx4 : r_fx [(46, 0), (46, 2), (46, 4), (61, 0), (61, 1), (61, 2)] [47, 48, 49, 50, 51, 52, 56, 57, 58, 60] M0 M4 := fx2.tr (gx4.mono rfl)
        refine Ru_iinc (pc := 126) _ dX0_reckon_126 rfl rfl rfl (by decide) ?_
        refine Ru_goto (pc := 129) 38 dX0_reckon_129 (by decide) ?_
        rw [nM_dec (by omega)]
        refine Ru_weak (ih dd (by omega) dd M4 rfl (by omega) (fun q => by omega) (fun _ w q => hF4 w q) (fun _ q2 w s' q3 q4 => ?_) (fun _ t' s' q1 q2 => hB4 (by omega) t' s' q1 q2) fx4) rfl
        by_cases ed : 0 < dd
        · rw [show max dd 1 = dd by omega]
          exact hM4.1 ed w s' q3 q4
        · have ed0 : dd = 0 := by omega
          subst ed0
          rw [hM4.2 rfl]
          have h9 := hM (by omega) (by omega) w s' q3 q4
          exact (gx2 57 _ rfl).1.trans h9

theorem c_X0_reckon {Q : Rq} {M : Mem} {d : Td} {wn n y : Nat} {Al : Nat → Nat} (wf : Wf d) (hwn : 1 ≤ wn ∧ wn ≤ 9) (hn9 : 1 ≤ n ∧ n ≤ 9) (hy9 : y ≤ 999) (hAb : ∀ w, Al w < 256) {mk t lw pl : Nat} (hu : X_cu mk t lw pl d M) (hx : X_tm t d M) (hlw : X_lw lw d M) (hwl : Wl d) (h59 : ∀ w, w < wn → M.1 59 w = nI (Al w)) (k : ∀ M', r_fx [(46, 0), (46, 2), (46, 4), (55, 0), (61, 0), (61, 1), (61, 2)] [47, 48, 49, 50, 51, 52, 56, 57, 58, 60] M M' → M'.2.2 55 0 = some t → (∀ w, w < wn → M'.1 60 w = nI (rD d Al (y + n - 2) w (n - 1) 0 0)) → (2 ≤ n → ∀ w s', w < wn → s' < 2 ^ d 0 → M'.1 57 (w * 256 + s') = nI (rD d Al (y + n - 2) w (n - 2) 0 s')) → (∀ t' s', t' ≤ 24 → s' < 2 ^ d 0 → M'.1 56 (t' * 256 + s') = nI (rD d Al (y + n - 2) (wn - 1) (n - 1) t' s')) → Q none GX M') : Ca 5 mt_X0_reckon 0 0 [.ref 55, .ref t, .ref 46, .int (nI wn), .int (nI n), .int (nI y)] GX M Q := by
  refine Ca_of rfl (Nat.le_of_ble_eq_true rfl) ?_
  refine Ru_aload_n (pc := 0) dX0_reckon_0 rfl rfl ?_
  refine Ru_aload_n (pc := 1) dX0_reckon_1 rfl rfl ?_
  refine Ru_putR (pc := 2) rfl dX0_reckon_2 fl_X0_50 rfl (frX_none (o := 55) (ci := 0) (k := 0) rfl rfl) ?_
  refine Ru_iconst (pc := 5) (nI 0) dX0_reckon_5 rfl ?_
  refine Ru_istore (pc := 6) dX0_reckon_6 rfl (by decide) ?_
  have fx0 : r_fx [(46, 0), (46, 2), (46, 4), (55, 0), (61, 0), (61, 1), (61, 2)] [47, 48, 49, 50, 51, 52, 56, 57, 58, 60] M (r_sR M 55 0 (some t)) := r_fx.sR rfl r_fx.rf
  have hb := wf.1
  have hp := pw_le hb.1
  have ht : isTown t := hu.1.2.2.2
  have hT : t = 3 ∨ t = 83 ∨ t = 111 ∨ t = 139 ∨ t = 167 := ht
  have hlwi : isLaw lw := hu.2.1.2.1
  have hu1 : X_cu mk t lw pl d (r_sR M 55 0 (some t)) := (X_cu_dp mk t lw pl d).kp fx0 rfl hu
  have hx1 : X_tm t d (r_sR M 55 0 (some t)) := (X_tm_dp ht d).kp fx0 rfl hx
  have hlw1 : X_lw lw d (r_sR M 55 0 (some t)) := (X_lw_dp hlwi d).kp fx0 rfl hlw
  have ht1 : (r_sR M 55 0 (some t)).2.2 55 0 = some t := by simp [r_sR_g]
  have h59a : ∀ w, w < wn → (r_sR M 55 0 (some t)).1 59 w = nI (Al w) := h59
  generalize (r_sR M 55 0 (some t)) = M1 at *
  refine Ru_weak (l_X0_reckon0 (M0 := M1) (t := t) (n := n) (y := y) hwn (fun M2 hE2 gx2 => ?_) (wn * 256) 0 M1 rfl (Nat.zero_le _) (fun k q => by omega) r_fx.rf) rfl
  refine Ru_iload (pc := 32) dX0_reckon_32 rfl ?_
  refine Ru_iconst (pc := 34) (nI 1) dX0_reckon_34 rfl ?_
  refine Ru_isub (pc := 35) dX0_reckon_35 ?_
  refine Ru_istore (pc := 36) dX0_reckon_36 rfl (by decide) ?_
  rw [nM_sub (by omega)]
  refine Ru_weak (l_X0_reckon2 (M0 := M1) wf hwn hn9 hy9 hAb hu1 hx1 hlw1 hwl h59a ht1 (fun M3 gx3 => k M3 (fx0.tr (gx3.mono rfl))) n n M2 rfl (Nat.le_refl _) (fun _ w s' q1 q2 => hE2 _ (by omega)) (fun q => by omega) (fun q => by omega) (fun q => by omega) (gx2.mono rfl)) rfl
