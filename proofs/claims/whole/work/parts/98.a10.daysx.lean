-- DAYS: the developers' own
theorem rD_y {d : Td} {n y w : Nat} : rD d (fun _ => 0) (y + n - 2) w (n - 1) = yVt d n y := rfl
theorem rD_x {d : Td} {n y w s : Nat} : rD d (fun _ => 0) (y + n - 2) w (n - 2) 0 s = yNx d n y s := rfl
theorem yVt_b {d : Td} (wf : Wf d) {n y : Nat} (hn : n ≤ 9) (t s : Nat) : yVt d n y t s ≤ 100000000 := by
  have := rD_b wf (fun _ => 0) (y + n - 2) 0 (n - 1) (by omega) t s
  rw [rD_y] at this
  omega
theorem yNx_b {d : Td} (wf : Wf d) {n y : Nat} (hn : n ≤ 9) (s : Nat) : yNx d n y s ≤ 100000000 := by
  have := rD_b wf (fun _ => 0) (y + n - 2) 0 (n - 2) (by omega) 0 s
  rw [rD_x] at this
  omega

theorem c_X11_days {Q : Rq} {M : Mem} {mk t lw pl : Nat} {d : Td} {s n y : Int32} {x : Sp × Tl} (hxx : X_sp x.1 M ∧ X_nt x.2 M) (hu : X_cu mk t lw pl d M) (hx : X_tm t d M) (hlw : X_lw lw d M) (wf : Wf d) (hwl : Wl d) (hal : M.1 59 0 = nI 0) (k : ∀ M', r_fx [(0, 0), (46, 0), (46, 2), (46, 4), (55, 0), (55, 7), (55, 10), (55, 11), (61, 0), (61, 1), (61, 2)] [47, 48, 49, 50, 51, 52, 56, 57, 58, 60, 62, 63, 64] M M' → M'.1 0 0 = nI (g_days d s n y).2 → (X_sp (f_days d s n y x).1 M' ∧ X_nt (f_days d s n y x).2 M') → Q (some (.int (g_days d s n y).1)) GX M') : Ca 6 mt_X11_days 0 0 [.ref 0, .int s, .int n, .int y] GX M Q := by
  refine Ca_of rfl (Nat.le_of_ble_eq_true rfl) ?_
  have hb := wf.1
  have hp := pw_le hb.1
  have ht : isTown t := hu.1.2.2.2
  have em : (-1 : Int32).toInt = -1 := rfl
  have hT : t = 3 ∨ t = 83 ∨ t = 111 ∨ t = 139 ∨ t = 167 := ht
  have hlwi : isLaw lw := hu.2.1.2.1
  refine Ru_aload_n (pc := 0) dX11_days_0 rfl rfl ?_
  refine Ru_iload_n (pc := 1) dX11_days_1 rfl rfl ?_
  refine Ru_cv1 (pc := 2) dX11_days_2 mv_X11_254 rfl (by decide) (Nat.le_of_ble_eq_true rfl) (c_X11_isSet hu hx wf ?_) 
  refine Ru_if_neB (pc := 5) 14 dX11_days_5 (by decide) (fun h1 => ?_) (fun h1 => ?_)
  · replace h1 := of_decide_eq_true h1
    refine Ru_aload_n (pc := 14) dX11_days_14 rfl rfl ?_
    refine Ru_iload_n (pc := 15) dX11_days_15 rfl rfl ?_
    refine Ru_cv1 (pc := 16) dX11_days_16 mv_X11_304 rfl (by decide) (Nat.le_of_ble_eq_true rfl) (c_X11_isDaysAhead ?_) 
    refine Ru_if_eqB (pc := 19) 30 dX11_days_19 (by decide) (fun h2 => ?_) (fun h2 => ?_)
    · replace h2 := of_decide_eq_false h2
      refine Ru_aload_n (pc := 30) dX11_days_30 rfl rfl ?_
      refine Ru_iconst (pc := 31) (nI 5) dX11_days_31 rfl ?_
      refine Ru_cv1 (pc := 32) dX11_days_32 mv_X11_112 rfl (by decide) (Nat.le_of_ble_eq_true rfl) (c_X11_fail ?_) 
      refine Ru_iret (pc := 35) dX11_days_35 rfl ⟨Nat.le_refl _, Nat.le_refl _⟩ ?_
      have e : g_days d s n y = (-1, 5) := by
        unfold g_days
        rw [if_neg (by omega), if_pos (by omega)]
      have e2 : f_days d s n y x = x := by
        unfold f_days
        rw [if_neg (by omega), if_pos (by omega)]
      rw [e, e2] at k
      exact k _ (r_fx.sI rfl r_fx.rf) r_sI_s ⟨(X_sp_dp _).kp (F := [(0, 0)]) (A := []) (r_fx.sI rfl r_fx.rf) rfl hxx.1, (X_nt_dp _).kp (F := [(0, 0)]) (A := []) (r_fx.sI rfl r_fx.rf) rfl hxx.2⟩
    · replace h2 := of_decide_eq_true h2
      refine Ru_aload_n (pc := 22) dX11_days_22 rfl rfl ?_
      refine Ru_iload_n (pc := 23) dX11_days_23 rfl rfl ?_
      refine Ru_cv1 (pc := 24) dX11_days_24 mv_X11_260 rfl (by decide) (Nat.le_of_ble_eq_true rfl) (c_X11_isDay ?_) 
      refine Ru_if_neB (pc := 27) 36 dX11_days_27 (by decide) (fun h3 => ?_) (fun h3 => ?_)
      · replace h3 := of_decide_eq_true h3
        obtain ⟨s', hs', rfl⟩ := r_nat (x := s) (n := 256) (by omega) (by omega)
        have es := r_tn (show s' < 2147483648 by omega)
        obtain ⟨n', hn', rfl⟩ := r_nat (x := n) (n := 10) (by omega) (by omega)
        have en := r_tn (show n' < 2147483648 by omega)
        obtain ⟨y', hy', rfl⟩ := r_nat (x := y) (n := 1000) (by omega) (by omega)
        have ey := r_tn (show y' < 2147483648 by omega)
        refine Ru_aload_n (pc := 36) dX11_days_36 rfl rfl ?_
        refine Ru_getR (pc := 37) 55 dX11_days_37 fl_X11_68 rfl rfl (rfX_of (o := 0) (j := 55) rfl rfl) ?_
        refine Ru_aload_n (pc := 40) dX11_days_40 rfl rfl ?_
        refine Ru_cv0 (pc := 41) dX11_days_41 mv_X11_154 rfl (by decide) (Nat.le_of_ble_eq_true rfl) (c_X11_now hu ?_) 
        refine Ru_aload_n (pc := 44) dX11_days_44 rfl rfl ?_
        refine Ru_getR (pc := 45) 46 dX11_days_45 fl_X11_54 rfl rfl (rfX_of (o := 0) (j := 46) rfl rfl) ?_
        refine Ru_iconst (pc := 48) (nI 1) dX11_days_48 rfl ?_
        refine Ru_iload_n (pc := 49) dX11_days_49 rfl rfl ?_
        refine Ru_iload_n (pc := 50) dX11_days_50 rfl rfl ?_
        refine Ru_cv5 (pc := 51) dX11_days_51 mv_X11_294 rfl (by decide) (Nat.le_of_ble_eq_true rfl) (c_X0_reckon (wn := 1) (n := n') (y := y') (Al := (fun _ => 0)) wf ⟨by omega, by omega⟩ ⟨by omega, by omega⟩ (by omega) (fun _ => by decide) hu hx hlw hwl (al_z hal) (fun M2 gx2 htw2 h60 h57 h56 => ?_)) 
        have fx2 : r_fx [(0, 0), (46, 0), (46, 2), (46, 4), (55, 0), (55, 7), (55, 10), (55, 11), (61, 0), (61, 1), (61, 2)] [47, 48, 49, 50, 51, 52, 56, 57, 58, 60, 62, 63, 64] M M2 := gx2.mono rfl
        have hu2 : X_cu mk t lw pl d M2 := (X_cu_dp mk t lw pl d).kp fx2 rfl hu
        have hx2 : X_tm t d M2 := (X_tm_dp ht d).kp fx2 rfl hx
        have hlw2 : X_lw lw d M2 := (X_lw_dp hlwi d).kp fx2 rfl hlw
        have hv2 : ∀ t s, t ≤ 24 → s < 2 ^ d 0 → M2.1 56 (t * 256 + s) = nI (yVt d n' y' t s) := fun t s q1 q2 => by
          have h9 := h56 t s q1 q2
          rw [rD_y] at h9
          exact h9
        have hm2 : 2 ≤ n' → ∀ s, s < 2 ^ d 0 → M2.1 57 s = nI (yNx d n' y' s) := fun q0 s q => by
          have h9 := h57 q0 0 s (by omega) q
          rw [rD_x, Nat.zero_mul, Nat.zero_add] at h9
          exact h9
        clear h56 h57 h60
        have hvb := yVt_b wf (d := d) (n := n') (y := y') (by omega)
        refine Ru_aload_n (pc := 54) dX11_days_54 rfl rfl ?_
        refine Ru_getR (pc := 55) 55 dX11_days_55 fl_X11_68 rfl rfl (rfX_of (o := 0) (j := 55) rfl rfl) ?_
        refine Ru_iload_n (pc := 58) dX11_days_58 rfl rfl ?_
        refine Ru_iconst (pc := 59) (nI 0) dX11_days_59 rfl ?_
        refine Ru_cv2 (pc := 60) dX11_days_60 mv_X11_297 rfl (by decide) (Nat.le_of_ble_eq_true rfl) (c_X0_walk (V := (yVt d n' y')) (p0 := (0, s')) ht hx2 wf htw2 (show 0 ≤ 24 by omega) (show s' < 2 ^ d 0 by omega) hv2 hvb (fun M3 gx3 hsp3 h103 => ?_)) 
        have fx3 : r_fx [(0, 0), (46, 0), (46, 2), (46, 4), (55, 0), (55, 7), (55, 10), (55, 11), (61, 0), (61, 1), (61, 2)] [47, 48, 49, 50, 51, 52, 56, 57, 58, 60, 62, 63, 64] M M3 := fx2.tr (gx3.mono rfl)
        have hu3 : X_cu mk t lw pl d M3 := (X_cu_dp mk t lw pl d).kp fx3 rfl hu
        have hx3 : X_tm t d M3 := (X_tm_dp ht d).kp fx3 rfl hx
        have hlw3 : X_lw lw d M3 := (X_lw_dp hlwi d).kp fx3 rfl hlw
        have htw3 : M3.2.2 55 0 = some t := (gx3 55 0 rfl).2.2.trans htw2
        have hke := kEnd_lt wf (V := (yVt d n' y')) (p := (0, s')) (show s' < 2 ^ d 0 by omega)
        refine Ru_aload_n (pc := 63) dX11_days_63 rfl rfl ?_
        refine Ru_getR (pc := 64) 55 dX11_days_64 fl_X11_68 rfl rfl (rfX_of (o := 0) (j := 55) rfl rfl) ?_
        refine Ru_aload_n (pc := 67) dX11_days_67 rfl rfl ?_
        refine Ru_getR (pc := 68) 46 dX11_days_68 fl_X11_54 rfl rfl (rfX_of (o := 0) (j := 46) rfl rfl) ?_
        refine Ru_iload_n (pc := 71) dX11_days_71 rfl rfl ?_
        refine Ru_iload_n (pc := 72) dX11_days_72 rfl rfl ?_
        refine Ru_cv3 (pc := 73) dX11_days_73 mv_X11_307 rfl (by decide) (Nat.le_of_ble_eq_true rfl) (c_X0_chooseNight (n9 := n') (y9 := y') (f := yNx d n' y') (nt := x.2) hu3 hx3 hlw3 wf hwl htw3 (by omega) (by omega) hke (yNx_b wf (by omega)) h103 (fun q0 s q => (gx3 57 s rfl).1.trans (hm2 (by omega) s q)) (fun M4 gx4 hnt4 => ?_)) 
        have fx4 : r_fx [(0, 0), (46, 0), (46, 2), (46, 4), (55, 0), (55, 7), (55, 10), (55, 11), (61, 0), (61, 1), (61, 2)] [47, 48, 49, 50, 51, 52, 56, 57, 58, 60, 62, 63, 64] M M4 := fx3.tr (gx4.mono rfl)
        have hsp4 : X_sp (kSp d (yVt d n' y') (0, s')) M4 := (X_sp_dp _).kp gx4 rfl hsp3
        refine Ru_aload_n (pc := 76) dX11_days_76 rfl rfl ?_
        refine Ru_aload_n (pc := 77) dX11_days_77 rfl rfl ?_
        refine Ru_getR (pc := 78) 55 dX11_days_78 fl_X11_68 rfl rfl (rfX_of (o := 0) (j := 55) rfl rfl) ?_
        refine Ru_iconst (pc := 81) (nI 0) dX11_days_81 rfl ?_
        refine Ru_iload_n (pc := 82) dX11_days_82 rfl rfl ?_
        refine Ru_cv2 (pc := 83) dX11_days_83 mv_X11_300 rfl (by decide) (Nat.le_of_ble_eq_true rfl) (c_X0_bestFrom (v := (yVt d n' y' 0 s')) (by omega) (Nat.lt_of_lt_of_le (by omega) hp.2) ((gx4 56 _ rfl).1.trans ((gx3 56 _ rfl).1.trans (hv2 0 s' (by omega) (by omega)))) ?_) 
        refine Ru_cv1 (pc := 86) dX11_days_86 mv_X11_170 rfl (by decide) (Nat.le_of_ble_eq_true rfl) (c_X11_tell ?_) 
        refine Ru_iret (pc := 89) dX11_days_89 rfl ⟨Nat.le_refl _, Nat.le_refl _⟩ ?_
        have e : g_days d (nI s') (nI n') (nI y') = (nI (yVt d n' y' 0 s'), 0) := by
          unfold g_days
          rw [if_neg (by omega), if_neg (by omega), r_tnn (show n' < 2147483648 by omega), r_tnn (show y' < 2147483648 by omega), r_tnn (show s' < 2147483648 by omega)]
          rfl
        have e2 : f_days d (nI s') (nI n') (nI y') x = (kSp d (yVt d n' y') (0, s'), yNt d s' n' y' x.2) := by
          unfold f_days
          rw [if_neg (by omega), if_neg (by omega), r_tnn (show n' < 2147483648 by omega), r_tnn (show y' < 2147483648 by omega), r_tnn (show s' < 2147483648 by omega)]
        rw [e, e2] at k
        exact k _ (r_fx.sI rfl fx4) r_sI_s ⟨(X_sp_dp _).kp (F := [(0, 0)]) (A := []) (r_fx.sI rfl r_fx.rf) rfl hsp4, (X_nt_dp _).kp (F := [(0, 0)]) (A := []) (r_fx.sI rfl r_fx.rf) rfl hnt4⟩
      · replace h3 := of_decide_eq_false h3
        refine Ru_aload_n (pc := 30) dX11_days_30 rfl rfl ?_
        refine Ru_iconst (pc := 31) (nI 5) dX11_days_31 rfl ?_
        refine Ru_cv1 (pc := 32) dX11_days_32 mv_X11_112 rfl (by decide) (Nat.le_of_ble_eq_true rfl) (c_X11_fail ?_) 
        refine Ru_iret (pc := 35) dX11_days_35 rfl ⟨Nat.le_refl _, Nat.le_refl _⟩ ?_
        have e : g_days d s n y = (-1, 5) := by
          unfold g_days
          rw [if_neg (by omega), if_pos (by omega)]
        have e2 : f_days d s n y x = x := by
          unfold f_days
          rw [if_neg (by omega), if_pos (by omega)]
        rw [e, e2] at k
        exact k _ (r_fx.sI rfl r_fx.rf) r_sI_s ⟨(X_sp_dp _).kp (F := [(0, 0)]) (A := []) (r_fx.sI rfl r_fx.rf) rfl hxx.1, (X_nt_dp _).kp (F := [(0, 0)]) (A := []) (r_fx.sI rfl r_fx.rf) rfl hxx.2⟩
  · replace h1 := of_decide_eq_false h1
    refine Ru_aload_n (pc := 8) dX11_days_8 rfl rfl ?_
    refine Ru_iconst (pc := 9) (nI 2) dX11_days_9 rfl ?_
    refine Ru_cv1 (pc := 10) dX11_days_10 mv_X11_112 rfl (by decide) (Nat.le_of_ble_eq_true rfl) (c_X11_fail ?_) 
    refine Ru_iret (pc := 13) dX11_days_13 rfl ⟨Nat.le_refl _, Nat.le_refl _⟩ ?_
    have e : g_days d s n y = (-1, 2) := by
      unfold g_days
      rw [if_pos (by omega)]
    have e2 : f_days d s n y x = x := by
      unfold f_days
      rw [if_pos (by omega)]
    rw [e, e2] at k
    exact k _ (r_fx.sI rfl r_fx.rf) r_sI_s ⟨(X_sp_dp _).kp (F := [(0, 0)]) (A := []) (r_fx.sI rfl r_fx.rf) rfl hxx.1, (X_nt_dp _).kp (F := [(0, 0)]) (A := []) (r_fx.sI rfl r_fx.rf) rfl hxx.2⟩
