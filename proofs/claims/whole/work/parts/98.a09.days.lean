theorem al_z {M : Mem} (hal : M.1 59 0 = nI 0) : ∀ w, w < 1 → M.1 59 w = nI ((fun _ => 0) w) := fun w q => by
  have e0 : w = 0 := by omega
  rw [e0]
  exact hal
theorem rD_z0 (d : Td) (z w : Nat) : rD d (fun _ => 0) z w 0 = vZ d := by
  unfold rD vZ
  rfl
theorem rD_k {d : Td} {n w s : Nat} (hw : w = 0) : rD d (fun _ => 0) (0 + n - 2) w (n - 1) 0 s = bV d 0 n (n - 2) s := by
  rw [Nat.zero_add]
  rfl
theorem vZ_b {d : Td} (wf : Wf d) (t' s' : Nat) : vZ d t' s' ≤ 100000000 := by
  have := dV_b3 wf (B := fun _ => 0) (C := 0) (fun _ => Nat.le_refl _) (show 25 ≤ 25 by omega) t' s'
  have e : vZ d t' s' = dV d (fun _ => 0) 25 t' s' := rfl
  omega

theorem c_X11_day {Q : Rq} {M : Mem} {mk t lw pl : Nat} {d : Td} {s y : Int32} {sp : Sp} (hsp : X_sp sp M) (hu : X_cu mk t lw pl d M) (hx : X_tm t d M) (hlw : X_lw lw d M) (wf : Wf d) (hwl : Wl d) (hal : M.1 59 0 = nI 0) (k : ∀ M', r_fx [(0, 0), (46, 0), (46, 2), (46, 4), (55, 0), (55, 7), (55, 10), (61, 0), (61, 1), (61, 2)] [47, 48, 49, 50, 51, 52, 56, 57, 58, 60, 62, 63] M M' → M'.1 0 0 = nI (g_day d s y).2 → X_sp (f_daySp d s y sp) M' → Q (some (.int (g_day d s y).1)) GX M') : Ca 6 mt_X11_day 0 0 [.ref 0, .int s, .int y] GX M Q := by
  refine Ca_of rfl (Nat.le_of_ble_eq_true rfl) ?_
  have hb := wf.1
  have hp := pw_le hb.1
  have ht : isTown t := hu.1.2.2.2
  have em : (-1 : Int32).toInt = -1 := rfl
  have hT : t = 3 ∨ t = 83 ∨ t = 111 ∨ t = 139 ∨ t = 167 := ht
  have hlwi : isLaw lw := hu.2.1.2.1
  refine Ru_aload_n (pc := 0) dX11_day_0 rfl rfl ?_
  refine Ru_iload_n (pc := 1) dX11_day_1 rfl rfl ?_
  refine Ru_cv1 (pc := 2) dX11_day_2 mv_X11_254 rfl (by decide) (Nat.le_of_ble_eq_true rfl) (c_X11_isSet hu hx wf ?_) 
  refine Ru_if_neB (pc := 5) 14 dX11_day_5 (by decide) (fun h1 => ?_) (fun h1 => ?_)
  · replace h1 := of_decide_eq_true h1
    refine Ru_iload_n (pc := 14) dX11_day_14 rfl rfl ?_
    refine Ru_if_ltT (pc := 15) 24 dX11_day_15 (by decide) (fun h2 => ?_) (fun h2 => ?_)
    · refine Ru_aload_n (pc := 24) dX11_day_24 rfl rfl ?_
      refine Ru_iconst (pc := 25) (nI 5) dX11_day_25 rfl ?_
      refine Ru_cv1 (pc := 26) dX11_day_26 mv_X11_112 rfl (by decide) (Nat.le_of_ble_eq_true rfl) (c_X11_fail ?_) 
      refine Ru_iret (pc := 29) dX11_day_29 rfl ⟨Nat.le_refl _, Nat.le_refl _⟩ ?_
      have e : g_day d s y = (-1, 5) := by
        unfold g_day
        rw [if_neg (by omega), if_pos (by omega)]
      have e2 : f_daySp d s y sp = sp := by
        unfold f_daySp
        rw [if_neg (by omega), if_pos (by omega)]
      rw [e, e2] at k
      exact k _ (r_fx.sI rfl r_fx.rf) r_sI_s ((X_sp_dp sp).kp (F := [(0, 0)]) (A := []) (r_fx.sI rfl r_fx.rf) rfl hsp)
    · refine Ru_iload_n (pc := 18) dX11_day_18 rfl rfl ?_
      refine Ru_bipush (pc := 19) (nI 24) dX11_day_19 rfl ?_
      refine Ru_icmp_leL (pc := 21) 30 dX11_day_21 (by decide) (by omega) (fun h3 => ?_) (fun h3 => ?_)
      · obtain ⟨s', hs', rfl⟩ := r_nat (x := s) (n := 256) (by omega) (by omega)
        have es := r_tn (show s' < 2147483648 by omega)
        obtain ⟨y', hy', rfl⟩ := r_nat (x := y) (n := 25) (by omega) (by omega)
        have ey := r_tn (show y' < 2147483648 by omega)
        refine Ru_aload_n (pc := 30) dX11_day_30 rfl rfl ?_
        refine Ru_getR (pc := 31) 55 dX11_day_31 fl_X11_68 rfl rfl (rfX_of (o := 0) (j := 55) rfl rfl) ?_
        refine Ru_aload_n (pc := 34) dX11_day_34 rfl rfl ?_
        refine Ru_cv0 (pc := 35) dX11_day_35 mv_X11_154 rfl (by decide) (Nat.le_of_ble_eq_true rfl) (c_X11_now hu ?_) 
        refine Ru_aload_n (pc := 38) dX11_day_38 rfl rfl ?_
        refine Ru_getR (pc := 39) 46 dX11_day_39 fl_X11_54 rfl rfl (rfX_of (o := 0) (j := 46) rfl rfl) ?_
        refine Ru_iconst (pc := 42) (nI 1) dX11_day_42 rfl ?_
        refine Ru_iconst (pc := 43) (nI 1) dX11_day_43 rfl ?_
        refine Ru_iconst (pc := 44) (nI 0) dX11_day_44 rfl ?_
        refine Ru_cv5 (pc := 45) dX11_day_45 mv_X11_294 rfl (by decide) (Nat.le_of_ble_eq_true rfl) (c_X0_reckon (wn := 1) (n := 1) (y := 0) (Al := (fun _ => 0)) wf ⟨by omega, by omega⟩ ⟨by omega, by omega⟩ (by omega) (fun _ => by decide) hu hx hlw hwl (al_z hal) (fun M2 gx2 htw2 h60 h57 h56 => ?_)) 
        have fx2 : r_fx [(0, 0), (46, 0), (46, 2), (46, 4), (55, 0), (55, 7), (55, 10), (61, 0), (61, 1), (61, 2)] [47, 48, 49, 50, 51, 52, 56, 57, 58, 60, 62, 63] M M2 := gx2.mono rfl
        have hu2 : X_cu mk t lw pl d M2 := (X_cu_dp mk t lw pl d).kp fx2 rfl hu
        have hx2 : X_tm t d M2 := (X_tm_dp ht d).kp fx2 rfl hx
        have hlw2 : X_lw lw d M2 := (X_lw_dp hlwi d).kp fx2 rfl hlw
        have hv2 : ∀ t s, t ≤ 24 → s < 2 ^ d 0 → M2.1 56 (t * 256 + s) = nI (vZ d t s) := fun t s q1 q2 => by
          have h9 := h56 t s q1 q2
          rw [rD_z0] at h9
          exact h9
        clear h56 h57 h60
        have hvb := vZ_b wf (d := d)
        refine Ru_aload_n (pc := 48) dX11_day_48 rfl rfl ?_
        refine Ru_getR (pc := 49) 55 dX11_day_49 fl_X11_68 rfl rfl (rfX_of (o := 0) (j := 55) rfl rfl) ?_
        refine Ru_iload_n (pc := 52) dX11_day_52 rfl rfl ?_
        refine Ru_iload_n (pc := 53) dX11_day_53 rfl rfl ?_
        refine Ru_cv2 (pc := 54) dX11_day_54 mv_X11_297 rfl (by decide) (Nat.le_of_ble_eq_true rfl) (c_X0_walk (V := vZ d) (p0 := (y', s')) ht hx2 wf htw2 (show y' ≤ 24 by omega) (show s' < 2 ^ d 0 by omega) hv2 hvb (fun M3 gx3 hsp3 h103 => ?_)) 
        have fx3 : r_fx [(0, 0), (46, 0), (46, 2), (46, 4), (55, 0), (55, 7), (55, 10), (61, 0), (61, 1), (61, 2)] [47, 48, 49, 50, 51, 52, 56, 57, 58, 60, 62, 63] M M3 := fx2.tr (gx3.mono rfl)
        refine Ru_aload_n (pc := 57) dX11_day_57 rfl rfl ?_
        refine Ru_aload_n (pc := 58) dX11_day_58 rfl rfl ?_
        refine Ru_getR (pc := 59) 55 dX11_day_59 fl_X11_68 rfl rfl (rfX_of (o := 0) (j := 55) rfl rfl) ?_
        refine Ru_iload_n (pc := 62) dX11_day_62 rfl rfl ?_
        refine Ru_iload_n (pc := 63) dX11_day_63 rfl rfl ?_
        refine Ru_cv2 (pc := 64) dX11_day_64 mv_X11_300 rfl (by decide) (Nat.le_of_ble_eq_true rfl) (c_X0_bestFrom (v := (vZ d y' s')) (by omega) (Nat.lt_of_lt_of_le (by omega) hp.2) ((gx3 56 _ rfl).1.trans (hv2 y' s' (by omega) (by omega))) ?_) 
        refine Ru_cv1 (pc := 67) dX11_day_67 mv_X11_170 rfl (by decide) (Nat.le_of_ble_eq_true rfl) (c_X11_tell ?_) 
        refine Ru_iret (pc := 70) dX11_day_70 rfl ⟨Nat.le_refl _, Nat.le_refl _⟩ ?_
        have e : g_day d (nI s') (nI y') = (nI (vZ d y' s'), 0) := by
          unfold g_day
          rw [if_neg (by omega), if_neg (by omega), r_tnn (show y' < 2147483648 by omega), r_tnn (show s' < 2147483648 by omega)]
        have e2 : f_daySp d (nI s') (nI y') sp = kSp d (vZ d) (y', s') := by
          unfold f_daySp
          rw [if_neg (by omega), if_neg (by omega), r_tnn (show y' < 2147483648 by omega), r_tnn (show s' < 2147483648 by omega)]
        rw [e, e2] at k
        exact k _ (r_fx.sI rfl fx3) r_sI_s ((X_sp_dp _).kp (F := [(0, 0)]) (A := []) (r_fx.sI rfl r_fx.rf) rfl hsp3)
      · refine Ru_aload_n (pc := 24) dX11_day_24 rfl rfl ?_
        refine Ru_iconst (pc := 25) (nI 5) dX11_day_25 rfl ?_
        refine Ru_cv1 (pc := 26) dX11_day_26 mv_X11_112 rfl (by decide) (Nat.le_of_ble_eq_true rfl) (c_X11_fail ?_) 
        refine Ru_iret (pc := 29) dX11_day_29 rfl ⟨Nat.le_refl _, Nat.le_refl _⟩ ?_
        have e : g_day d s y = (-1, 5) := by
          unfold g_day
          rw [if_neg (by omega), if_pos (by omega)]
        have e2 : f_daySp d s y sp = sp := by
          unfold f_daySp
          rw [if_neg (by omega), if_pos (by omega)]
        rw [e, e2] at k
        exact k _ (r_fx.sI rfl r_fx.rf) r_sI_s ((X_sp_dp sp).kp (F := [(0, 0)]) (A := []) (r_fx.sI rfl r_fx.rf) rfl hsp)
  · replace h1 := of_decide_eq_false h1
    refine Ru_aload_n (pc := 8) dX11_day_8 rfl rfl ?_
    refine Ru_iconst (pc := 9) (nI 2) dX11_day_9 rfl ?_
    refine Ru_cv1 (pc := 10) dX11_day_10 mv_X11_112 rfl (by decide) (Nat.le_of_ble_eq_true rfl) (c_X11_fail ?_) 
    refine Ru_iret (pc := 13) dX11_day_13 rfl ⟨Nat.le_refl _, Nat.le_refl _⟩ ?_
    have e : g_day d s y = (-1, 2) := by
      unfold g_day
      rw [if_pos (by omega)]
    have e2 : f_daySp d s y sp = sp := by
      unfold f_daySp
      rw [if_pos (by omega)]
    rw [e, e2] at k
    exact k _ (r_fx.sI rfl r_fx.rf) r_sI_s ((X_sp_dp sp).kp (F := [(0, 0)]) (A := []) (r_fx.sI rfl r_fx.rf) rfl hsp)

theorem c_X11_price {Q : Rq} {M : Mem} {mk t lw pl : Nat} {d : Td} {a y s : Int32} (hu : X_cu mk t lw pl d M) (hx : X_tm t d M) (hlw : X_lw lw d M) (wf : Wf d) (hwl : Wl d) (hal : M.1 59 0 = nI 0) (k : ∀ M', r_fx [(0, 0), (46, 0), (46, 2), (46, 4), (55, 0), (61, 0), (61, 1), (61, 2)] [47, 48, 49, 50, 51, 52, 56, 57, 58, 60] M M' → M'.1 0 0 = nI (g_price d a y s).2 → Q (some (.int (g_price d a y s).1)) GX M') : Ca 6 mt_X11_price 0 0 [.ref 0, .int a, .int y, .int s] GX M Q := by
  refine Ca_of rfl (Nat.le_of_ble_eq_true rfl) ?_
  have hb := wf.1
  have hp := pw_le hb.1
  have ht : isTown t := hu.1.2.2.2
  have em : (-1 : Int32).toInt = -1 := rfl
  have hT : t = 3 ∨ t = 83 ∨ t = 111 ∨ t = 139 ∨ t = 167 := ht
  have hlwi : isLaw lw := hu.2.1.2.1
  refine Ru_aload_n (pc := 0) dX11_price_0 rfl rfl ?_
  refine Ru_iload_n (pc := 1) dX11_price_1 rfl rfl ?_
  refine Ru_cv1 (pc := 2) dX11_price_2 mv_X11_214 rfl (by decide) (Nat.le_of_ble_eq_true rfl) (c_X11_isThing hu hx wf ?_) 
  refine Ru_if_eqB (pc := 5) 16 dX11_price_5 (by decide) (fun h1 => ?_) (fun h1 => ?_)
  · replace h1 := of_decide_eq_false h1
    refine Ru_aload_n (pc := 16) dX11_price_16 rfl rfl ?_
    refine Ru_iconst (pc := 17) (nI 2) dX11_price_17 rfl ?_
    refine Ru_cv1 (pc := 18) dX11_price_18 mv_X11_112 rfl (by decide) (Nat.le_of_ble_eq_true rfl) (c_X11_fail ?_) 
    refine Ru_iret (pc := 21) dX11_price_21 rfl ⟨Nat.le_refl _, Nat.le_refl _⟩ ?_
    have e : g_price d a y s = (-1, 2) := by
      unfold g_price
      rw [if_pos (by omega)]
    rw [e] at k
    exact k _ (r_fx.sI rfl r_fx.rf) r_sI_s
  · replace h1 := of_decide_eq_true h1
    refine Ru_aload_n (pc := 8) dX11_price_8 rfl rfl ?_
    refine Ru_iload_n (pc := 9) dX11_price_9 rfl rfl ?_
    refine Ru_cv1 (pc := 10) dX11_price_10 mv_X11_254 rfl (by decide) (Nat.le_of_ble_eq_true rfl) (c_X11_isSet hu hx wf ?_) 
    refine Ru_if_neB (pc := 13) 22 dX11_price_13 (by decide) (fun h2 => ?_) (fun h2 => ?_)
    · replace h2 := of_decide_eq_true h2
      refine Ru_iload_n (pc := 22) dX11_price_22 rfl rfl ?_
      refine Ru_if_ltT (pc := 23) 32 dX11_price_23 (by decide) (fun h3 => ?_) (fun h3 => ?_)
      · refine Ru_aload_n (pc := 32) dX11_price_32 rfl rfl ?_
        refine Ru_iconst (pc := 33) (nI 5) dX11_price_33 rfl ?_
        refine Ru_cv1 (pc := 34) dX11_price_34 mv_X11_112 rfl (by decide) (Nat.le_of_ble_eq_true rfl) (c_X11_fail ?_) 
        refine Ru_iret (pc := 37) dX11_price_37 rfl ⟨Nat.le_refl _, Nat.le_refl _⟩ ?_
        have e : g_price d a y s = (-1, 5) := by
          unfold g_price
          rw [if_neg (by omega), if_pos (by omega)]
        rw [e] at k
        exact k _ (r_fx.sI rfl r_fx.rf) r_sI_s
      · refine Ru_iload_n (pc := 26) dX11_price_26 rfl rfl ?_
        refine Ru_bipush (pc := 27) (nI 24) dX11_price_27 rfl ?_
        refine Ru_icmp_leL (pc := 29) 38 dX11_price_29 (by decide) (by omega) (fun h4 => ?_) (fun h4 => ?_)
        · obtain ⟨a', ha', rfl⟩ := r_nat (x := a) (n := 8) (by omega) (by omega)
          have ea := r_tn (show a' < 2147483648 by omega)
          obtain ⟨y', hy', rfl⟩ := r_nat (x := y) (n := 25) (by omega) (by omega)
          have ey := r_tn (show y' < 2147483648 by omega)
          obtain ⟨s', hs', rfl⟩ := r_nat (x := s) (n := 256) (by omega) (by omega)
          have es := r_tn (show s' < 2147483648 by omega)
          refine Ru_aload_n (pc := 38) dX11_price_38 rfl rfl ?_
          refine Ru_getR (pc := 39) 55 dX11_price_39 fl_X11_68 rfl rfl (rfX_of (o := 0) (j := 55) rfl rfl) ?_
          refine Ru_aload_n (pc := 42) dX11_price_42 rfl rfl ?_
          refine Ru_cv0 (pc := 43) dX11_price_43 mv_X11_154 rfl (by decide) (Nat.le_of_ble_eq_true rfl) (c_X11_now hu ?_) 
          refine Ru_aload_n (pc := 46) dX11_price_46 rfl rfl ?_
          refine Ru_getR (pc := 47) 46 dX11_price_47 fl_X11_54 rfl rfl (rfX_of (o := 0) (j := 46) rfl rfl) ?_
          refine Ru_iconst (pc := 50) (nI 1) dX11_price_50 rfl ?_
          refine Ru_iconst (pc := 51) (nI 1) dX11_price_51 rfl ?_
          refine Ru_iconst (pc := 52) (nI 0) dX11_price_52 rfl ?_
          refine Ru_cv5 (pc := 53) dX11_price_53 mv_X11_294 rfl (by decide) (Nat.le_of_ble_eq_true rfl) (c_X0_reckon (wn := 1) (n := 1) (y := 0) (Al := (fun _ => 0)) wf ⟨by omega, by omega⟩ ⟨by omega, by omega⟩ (by omega) (fun _ => by decide) hu hx hlw hwl (al_z hal) (fun M2 gx2 htw2 h60 h57 h56 => ?_)) 
          have fx2 : r_fx [(0, 0), (46, 0), (46, 2), (46, 4), (55, 0), (61, 0), (61, 1), (61, 2)] [47, 48, 49, 50, 51, 52, 56, 57, 58, 60] M M2 := gx2.mono rfl
          have hu2 : X_cu mk t lw pl d M2 := (X_cu_dp mk t lw pl d).kp fx2 rfl hu
          have hx2 : X_tm t d M2 := (X_tm_dp ht d).kp fx2 rfl hx
          have hlw2 : X_lw lw d M2 := (X_lw_dp hlwi d).kp fx2 rfl hlw
          have hv2 : ∀ t s, t ≤ 24 → s < 2 ^ d 0 → M2.1 56 (t * 256 + s) = nI (vZ d t s) := fun t s q1 q2 => by
            have h9 := h56 t s q1 q2
            rw [rD_z0] at h9
            exact h9
          clear h56 h57 h60
          have hvb := vZ_b wf (d := d)
          refine Ru_iconst (pc := 56) (nI 1) dX11_price_56 rfl ?_
          refine Ru_iload_n (pc := 57) dX11_price_57 rfl rfl ?_
          refine Ru_ishl1N (pc := 58) dX11_price_58 (by omega) ?_
          refine Ru_istore (pc := 59) dX11_price_59 rfl (by decide) ?_
          refine Ru_aload_n (pc := 61) dX11_price_61 rfl rfl ?_
          refine Ru_aload_n (pc := 62) dX11_price_62 rfl rfl ?_
          refine Ru_getR (pc := 63) 55 dX11_price_63 fl_X11_68 rfl rfl (rfX_of (o := 0) (j := 55) rfl rfl) ?_
          refine Ru_iload_n (pc := 66) dX11_price_66 rfl rfl ?_
          refine Ru_iload_n (pc := 67) dX11_price_67 rfl rfl ?_
          refine Ru_iload (pc := 68) dX11_price_68 rfl ?_
          refine Ru_iorN (pc := 70) dX11_price_70 ?_
          refine Ru_cv2 (pc := 71) dX11_price_71 mv_X11_300 rfl (by decide) (Nat.le_of_ble_eq_true rfl) (c_X0_bestFrom (v := (vZ d y' (s' ||| (2 ^ a')))) (by omega) (Nat.lt_of_lt_of_le (r_or_lt (by omega) (Nat.pow_lt_pow_right (by decide) (by omega))) hp.2) (hv2 y' (s' ||| (2 ^ a')) (by omega) (r_or_lt (by omega) (Nat.pow_lt_pow_right (by decide) (by omega)))) ?_) 
          refine Ru_aload_n (pc := 74) dX11_price_74 rfl rfl ?_
          refine Ru_getR (pc := 75) 55 dX11_price_75 fl_X11_68 rfl rfl (rfX_of (o := 0) (j := 55) rfl rfl) ?_
          refine Ru_iload_n (pc := 78) dX11_price_78 rfl rfl ?_
          refine Ru_iload_n (pc := 79) dX11_price_79 rfl rfl ?_
          refine Ru_iload (pc := 80) dX11_price_80 rfl ?_
          refine Ru_iconst (pc := 82) (-1) dX11_price_82 rfl ?_
          refine Ru_ixor (pc := 83) dX11_price_83 ?_
          refine Ru_idifN (pc := 84) dX11_price_84 ?_
          refine Ru_cv2 (pc := 85) dX11_price_85 mv_X11_300 rfl (by decide) (Nat.le_of_ble_eq_true rfl) (c_X0_bestFrom (v := (vZ d y' (r_dif s' (2 ^ a')))) (by omega) (Nat.lt_of_lt_of_le (Nat.lt_of_le_of_lt (r_dif_le _ _) (by omega)) hp.2) (hv2 y' (r_dif s' (2 ^ a')) (by omega) (Nat.lt_of_le_of_lt (r_dif_le _ _) (by omega))) ?_) 
          refine Ru_isub (pc := 88) dX11_price_88 ?_
          refine Ru_cv1 (pc := 89) dX11_price_89 mv_X11_170 rfl (by decide) (Nat.le_of_ble_eq_true rfl) (c_X11_tell ?_) 
          refine Ru_iret (pc := 92) dX11_price_92 rfl ⟨Nat.le_refl _, Nat.le_refl _⟩ ?_
          have e : g_price d (nI a') (nI y') (nI s') = (((nI (vZ d y' (s' ||| (2 ^ a')))) - (nI (vZ d y' (r_dif s' (2 ^ a'))))), 0) := by
            unfold g_price
            rw [if_neg (by omega), if_neg (by omega), r_tnn (show a' < 2147483648 by omega), r_tnn (show y' < 2147483648 by omega), r_tnn (show s' < 2147483648 by omega)]
          rw [e] at k
          exact k _ (r_fx.sI rfl fx2) r_sI_s
        · refine Ru_aload_n (pc := 32) dX11_price_32 rfl rfl ?_
          refine Ru_iconst (pc := 33) (nI 5) dX11_price_33 rfl ?_
          refine Ru_cv1 (pc := 34) dX11_price_34 mv_X11_112 rfl (by decide) (Nat.le_of_ble_eq_true rfl) (c_X11_fail ?_) 
          refine Ru_iret (pc := 37) dX11_price_37 rfl ⟨Nat.le_refl _, Nat.le_refl _⟩ ?_
          have e : g_price d a y s = (-1, 5) := by
            unfold g_price
            rw [if_neg (by omega), if_pos (by omega)]
          rw [e] at k
          exact k _ (r_fx.sI rfl r_fx.rf) r_sI_s
    · replace h2 := of_decide_eq_false h2
      refine Ru_aload_n (pc := 16) dX11_price_16 rfl rfl ?_
      refine Ru_iconst (pc := 17) (nI 2) dX11_price_17 rfl ?_
      refine Ru_cv1 (pc := 18) dX11_price_18 mv_X11_112 rfl (by decide) (Nat.le_of_ble_eq_true rfl) (c_X11_fail ?_) 
      refine Ru_iret (pc := 21) dX11_price_21 rfl ⟨Nat.le_refl _, Nat.le_refl _⟩ ?_
      have e : g_price d a y s = (-1, 2) := by
        unfold g_price
        rw [if_pos (by omega)]
      rw [e] at k
      exact k _ (r_fx.sI rfl r_fx.rf) r_sI_s

theorem c_X11_kept {Q : Rq} {M : Mem} {mk t lw pl : Nat} {d : Td} {a n : Int32} (hu : X_cu mk t lw pl d M) (hx : X_tm t d M) (hlw : X_lw lw d M) (wf : Wf d) (hwl : Wl d) (hal : M.1 59 0 = nI 0) (k : ∀ M', r_fx [(0, 0), (46, 0), (46, 2), (46, 4), (55, 0), (61, 0), (61, 1), (61, 2)] [47, 48, 49, 50, 51, 52, 56, 57, 58, 60] M M' → M'.1 0 0 = nI (g_kept d a n).2 → Q (some (.int (g_kept d a n).1)) GX M') : Ca 6 mt_X11_kept 0 0 [.ref 0, .int a, .int n] GX M Q := by
  refine Ca_of rfl (Nat.le_of_ble_eq_true rfl) ?_
  have hb := wf.1
  have hp := pw_le hb.1
  have ht : isTown t := hu.1.2.2.2
  have em : (-1 : Int32).toInt = -1 := rfl
  have hT : t = 3 ∨ t = 83 ∨ t = 111 ∨ t = 139 ∨ t = 167 := ht
  have hlwi : isLaw lw := hu.2.1.2.1
  refine Ru_aload_n (pc := 0) dX11_kept_0 rfl rfl ?_
  refine Ru_iload_n (pc := 1) dX11_kept_1 rfl rfl ?_
  refine Ru_cv1 (pc := 2) dX11_kept_2 mv_X11_214 rfl (by decide) (Nat.le_of_ble_eq_true rfl) (c_X11_isThing hu hx wf ?_) 
  refine Ru_if_neB (pc := 5) 14 dX11_kept_5 (by decide) (fun h1 => ?_) (fun h1 => ?_)
  · replace h1 := of_decide_eq_true h1
    refine Ru_aload_n (pc := 14) dX11_kept_14 rfl rfl ?_
    refine Ru_iload_n (pc := 15) dX11_kept_15 rfl rfl ?_
    refine Ru_cv1 (pc := 16) dX11_kept_16 mv_X11_304 rfl (by decide) (Nat.le_of_ble_eq_true rfl) (c_X11_isDaysAhead ?_) 
    refine Ru_if_neB (pc := 19) 28 dX11_kept_19 (by decide) (fun h2 => ?_) (fun h2 => ?_)
    · replace h2 := of_decide_eq_true h2
      obtain ⟨a', ha', rfl⟩ := r_nat (x := a) (n := 8) (by omega) (by omega)
      have ea := r_tn (show a' < 2147483648 by omega)
      obtain ⟨n', hn', rfl⟩ := r_nat (x := n) (n := 10) (by omega) (by omega)
      have en := r_tn (show n' < 2147483648 by omega)
      refine Ru_aload_n (pc := 28) dX11_kept_28 rfl rfl ?_
      refine Ru_getR (pc := 29) 55 dX11_kept_29 fl_X11_68 rfl rfl (rfX_of (o := 0) (j := 55) rfl rfl) ?_
      refine Ru_aload_n (pc := 32) dX11_kept_32 rfl rfl ?_
      refine Ru_cv0 (pc := 33) dX11_kept_33 mv_X11_154 rfl (by decide) (Nat.le_of_ble_eq_true rfl) (c_X11_now hu ?_) 
      refine Ru_aload_n (pc := 36) dX11_kept_36 rfl rfl ?_
      refine Ru_getR (pc := 37) 46 dX11_kept_37 fl_X11_54 rfl rfl (rfX_of (o := 0) (j := 46) rfl rfl) ?_
      refine Ru_iconst (pc := 40) (nI 1) dX11_kept_40 rfl ?_
      refine Ru_iload_n (pc := 41) dX11_kept_41 rfl rfl ?_
      refine Ru_iconst (pc := 42) (nI 0) dX11_kept_42 rfl ?_
      refine Ru_cv5 (pc := 43) dX11_kept_43 mv_X11_294 rfl (by decide) (Nat.le_of_ble_eq_true rfl) (c_X0_reckon (wn := 1) (n := n') (y := 0) (Al := (fun _ => 0)) wf ⟨by omega, by omega⟩ ⟨by omega, by omega⟩ (by omega) (fun _ => by decide) hu hx hlw hwl (al_z hal) (fun M2 gx2 htw2 h60 h57 h56 => ?_)) 
      have fx2 : r_fx [(0, 0), (46, 0), (46, 2), (46, 4), (55, 0), (61, 0), (61, 1), (61, 2)] [47, 48, 49, 50, 51, 52, 56, 57, 58, 60] M M2 := gx2.mono rfl
      have hu2 : X_cu mk t lw pl d M2 := (X_cu_dp mk t lw pl d).kp fx2 rfl hu
      have hx2 : X_tm t d M2 := (X_tm_dp ht d).kp fx2 rfl hx
      have hlw2 : X_lw lw d M2 := (X_lw_dp hlwi d).kp fx2 rfl hlw
      have hv2 : ∀ s, s < 2 ^ d 0 → M2.1 56 (0 * 256 + s) = nI (bV d 0 n' (n' - 2) s) := fun s q => by
        have h9 := h56 0 s (by omega) q
        rw [rD_k rfl] at h9
        exact h9
      clear h56 h57 h60
      refine Ru_aload_n (pc := 46) dX11_kept_46 rfl rfl ?_
      refine Ru_aload_n (pc := 47) dX11_kept_47 rfl rfl ?_
      refine Ru_getR (pc := 48) 55 dX11_kept_48 fl_X11_68 rfl rfl (rfX_of (o := 0) (j := 55) rfl rfl) ?_
      refine Ru_iconst (pc := 51) (nI 0) dX11_kept_51 rfl ?_
      refine Ru_iconst (pc := 52) (nI 1) dX11_kept_52 rfl ?_
      refine Ru_iload_n (pc := 53) dX11_kept_53 rfl rfl ?_
      refine Ru_ishl1N (pc := 54) dX11_kept_54 (by omega) ?_
      refine Ru_cv2 (pc := 55) dX11_kept_55 mv_X11_300 rfl (by decide) (Nat.le_of_ble_eq_true rfl) (c_X0_bestFrom (v := (bV d 0 n' (n' - 2) (2 ^ a'))) (by omega) (Nat.lt_of_lt_of_le (Nat.pow_lt_pow_right (by decide) (by omega)) hp.2) (hv2 (2 ^ a') (Nat.pow_lt_pow_right (by decide) (by omega))) ?_) 
      refine Ru_aload_n (pc := 58) dX11_kept_58 rfl rfl ?_
      refine Ru_getR (pc := 59) 55 dX11_kept_59 fl_X11_68 rfl rfl (rfX_of (o := 0) (j := 55) rfl rfl) ?_
      refine Ru_iconst (pc := 62) (nI 0) dX11_kept_62 rfl ?_
      refine Ru_iconst (pc := 63) (nI 0) dX11_kept_63 rfl ?_
      refine Ru_cv2 (pc := 64) dX11_kept_64 mv_X11_300 rfl (by decide) (Nat.le_of_ble_eq_true rfl) (c_X0_bestFrom (v := (bV d 0 n' (n' - 2) 0)) (by omega) (Nat.lt_of_lt_of_le (by omega) hp.2) (hv2 0 (by omega)) ?_) 
      refine Ru_isub (pc := 67) dX11_kept_67 ?_
      refine Ru_cv1 (pc := 68) dX11_kept_68 mv_X11_170 rfl (by decide) (Nat.le_of_ble_eq_true rfl) (c_X11_tell ?_) 
      refine Ru_iret (pc := 71) dX11_kept_71 rfl ⟨Nat.le_refl _, Nat.le_refl _⟩ ?_
      have e : g_kept d (nI a') (nI n') = (((nI (bV d 0 n' (n' - 2) (2 ^ a'))) - (nI (bV d 0 n' (n' - 2) 0))), 0) := by
        unfold g_kept
        rw [if_neg (by omega), if_neg (by omega), r_tnn (show a' < 2147483648 by omega), r_tnn (show n' < 2147483648 by omega)]
      rw [e] at k
      exact k _ (r_fx.sI rfl fx2) r_sI_s
    · replace h2 := of_decide_eq_false h2
      refine Ru_aload_n (pc := 22) dX11_kept_22 rfl rfl ?_
      refine Ru_iconst (pc := 23) (nI 5) dX11_kept_23 rfl ?_
      refine Ru_cv1 (pc := 24) dX11_kept_24 mv_X11_112 rfl (by decide) (Nat.le_of_ble_eq_true rfl) (c_X11_fail ?_) 
      refine Ru_iret (pc := 27) dX11_kept_27 rfl ⟨Nat.le_refl _, Nat.le_refl _⟩ ?_
      have e : g_kept d a n = (-1, 5) := by
        unfold g_kept
        rw [if_neg (by omega), if_pos (by omega)]
      rw [e] at k
      exact k _ (r_fx.sI rfl r_fx.rf) r_sI_s
  · replace h1 := of_decide_eq_false h1
    refine Ru_aload_n (pc := 8) dX11_kept_8 rfl rfl ?_
    refine Ru_iconst (pc := 9) (nI 2) dX11_kept_9 rfl ?_
    refine Ru_cv1 (pc := 10) dX11_kept_10 mv_X11_112 rfl (by decide) (Nat.le_of_ble_eq_true rfl) (c_X11_fail ?_) 
    refine Ru_iret (pc := 13) dX11_kept_13 rfl ⟨Nat.le_refl _, Nat.le_refl _⟩ ?_
    have e : g_kept d a n = (-1, 2) := by
      unfold g_kept
      rw [if_pos (by omega)]
    rw [e] at k
    exact k _ (r_fx.sI rfl r_fx.rf) r_sI_s
