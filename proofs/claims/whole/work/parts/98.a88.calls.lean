-- THE WHOLE: each call that leaves the towns as they are

noncomputable def G9_status (a : Nat → Int32) (σ : Sg9) : Value × Sg9 := (.int σ.1, (σ.1, σ.2.1, σ.2.2.1, σ.2.2.2.1, σ.2.2.2.2.1, σ.2.2.2.2.2.1, σ.2.2.2.2.2.2.1, σ.2.2.2.2.2.2.2.1, σ.2.2.2.2.2.2.2.2.1, σ.2.2.2.2.2.2.2.2.2))

theorem ax_status (a : Nat → Int32) : r_api RXs GX 0 (lw_mX 0) (lw_av 0 a) (G9_status a) := by
  intro M σ Q h kk
  have hh := h
  obtain ⟨hS, hTr, hTp, hRg, hFt, hFr, hSp, hNt, hTh, hLv, hRs, hAl, hX, hG⟩ := h
  show Ca 0 mt_X11_status 0 0 [.ref 0] GX M Q
  exact c_X11_status hS (kk M hh)

theorem ay_status (a : Nat → Int32) : r_api RYs GY 0 (lw_mY 0) (lw_av 0 a) (G9_status a) := by
  intro M σ Q h kk
  have hh := h
  obtain ⟨hS, hTr, hTp, hFt, hFr, hSp, hNt, hTh, hLv, hY, hG⟩ := h
  show Ca 0 mt_X12_status 0 0 [.ref 0] GY M Q
  have fx : r_fx [(0, 1)] [] M (r_sI M 0 1 (nI 0)) := r_fx.sI rfl r_fx.rf
  exact c_X12_status hS (kk _ ⟨((fx 0 0 rfl).1.trans hS), ((Y_tr_dp _).kp fx rfl hTr), ((Y_tp_dp _).kp fx rfl hTp), ((Y_ft_dp _).kp fx rfl hFt), ((Y_fr_dp _).kp fx rfl hFr), ((Y_sp_dp _).kp fx rfl hSp), ((Y_nt_dp _).kp fx rfl hNt), ((Y_th_dp _).kp fx rfl hTh), ((Y_lv_dp _).kp fx rfl hLv), ((Y_st_dp hG).kp fx rfl hY), hG⟩)

noncomputable def G9_top (a : Nat → Int32) (σ : Sg9) : Value × Sg9 := (.long σ.2.2.2.2.1.1, (σ.1, σ.2.1, σ.2.2.1, σ.2.2.2.1, σ.2.2.2.2.1, σ.2.2.2.2.2.1, σ.2.2.2.2.2.2.1, σ.2.2.2.2.2.2.2.1, σ.2.2.2.2.2.2.2.2.1, σ.2.2.2.2.2.2.2.2.2))

theorem ax_top (a : Nat → Int32) : r_api RXs GX 0 (lw_mX 1) (lw_av 1 a) (G9_top a) := by
  intro M σ Q h kk
  have hh := h
  obtain ⟨hS, hTr, hTp, hRg, hFt, hFr, hSp, hNt, hTh, hLv, hRs, hAl, hX, hG⟩ := h
  show Ca 0 mt_X11_top 0 0 [.ref 0] GX M Q
  refine c_X11_top ?_
  have e : M.2.1 0 1 = σ.2.2.2.2.1.1 := hFr.1
  rw [e]
  exact kk M hh

theorem ay_top (a : Nat → Int32) : r_api RYs GY 0 (lw_mY 1) (lw_av 1 a) (G9_top a) := by
  intro M σ Q h kk
  have hh := h
  obtain ⟨hS, hTr, hTp, hFt, hFr, hSp, hNt, hTh, hLv, hY, hG⟩ := h
  show Ca 0 mt_X12_top 0 0 [.ref 0] GY M Q
  have fx : r_fx [(0, 1)] [] M (r_sI M 0 1 (nI 0)) := r_fx.sI rfl r_fx.rf
  refine c_X12_top ?_
  have e : M.2.1 0 2 = σ.2.2.2.2.1.1 := hFr.1
  rw [e]
  exact kk _ ⟨((fx 0 0 rfl).1.trans hS), ((Y_tr_dp _).kp fx rfl hTr), ((Y_tp_dp _).kp fx rfl hTp), ((Y_ft_dp _).kp fx rfl hFt), ((Y_fr_dp _).kp fx rfl hFr), ((Y_sp_dp _).kp fx rfl hSp), ((Y_nt_dp _).kp fx rfl hNt), ((Y_th_dp _).kp fx rfl hTh), ((Y_lv_dp _).kp fx rfl hLv), ((Y_st_dp hG).kp fx rfl hY), hG⟩

noncomputable def G9_bottom (a : Nat → Int32) (σ : Sg9) : Value × Sg9 := (.long σ.2.2.2.2.1.2, (σ.1, σ.2.1, σ.2.2.1, σ.2.2.2.1, σ.2.2.2.2.1, σ.2.2.2.2.2.1, σ.2.2.2.2.2.2.1, σ.2.2.2.2.2.2.2.1, σ.2.2.2.2.2.2.2.2.1, σ.2.2.2.2.2.2.2.2.2))

theorem ax_bottom (a : Nat → Int32) : r_api RXs GX 0 (lw_mX 2) (lw_av 2 a) (G9_bottom a) := by
  intro M σ Q h kk
  have hh := h
  obtain ⟨hS, hTr, hTp, hRg, hFt, hFr, hSp, hNt, hTh, hLv, hRs, hAl, hX, hG⟩ := h
  show Ca 0 mt_X11_bottom 0 0 [.ref 0] GX M Q
  refine c_X11_bottom ?_
  have e : M.2.1 0 2 = σ.2.2.2.2.1.2 := hFr.2
  rw [e]
  exact kk M hh

theorem ay_bottom (a : Nat → Int32) : r_api RYs GY 0 (lw_mY 2) (lw_av 2 a) (G9_bottom a) := by
  intro M σ Q h kk
  have hh := h
  obtain ⟨hS, hTr, hTp, hFt, hFr, hSp, hNt, hTh, hLv, hY, hG⟩ := h
  show Ca 0 mt_X12_bottom 0 0 [.ref 0] GY M Q
  have fx : r_fx [(0, 1)] [] M (r_sI M 0 1 (nI 0)) := r_fx.sI rfl r_fx.rf
  refine c_X12_bottom ?_
  have e : M.2.1 0 3 = σ.2.2.2.2.1.2 := hFr.2
  rw [e]
  exact kk _ ⟨((fx 0 0 rfl).1.trans hS), ((Y_tr_dp _).kp fx rfl hTr), ((Y_tp_dp _).kp fx rfl hTp), ((Y_ft_dp _).kp fx rfl hFt), ((Y_fr_dp _).kp fx rfl hFr), ((Y_sp_dp _).kp fx rfl hSp), ((Y_nt_dp _).kp fx rfl hNt), ((Y_th_dp _).kp fx rfl hTh), ((Y_lv_dp _).kp fx rfl hLv), ((Y_st_dp hG).kp fx rfl hY), hG⟩

noncomputable def G9_fault (a : Nat → Int32) (σ : Sg9) : Value × Sg9 := (.int (f_fault σ.2.2.2.1 (a 1)), (σ.1, σ.2.1, σ.2.2.1, σ.2.2.2.1, σ.2.2.2.2.1, σ.2.2.2.2.2.1, σ.2.2.2.2.2.2.1, σ.2.2.2.2.2.2.2.1, σ.2.2.2.2.2.2.2.2.1, σ.2.2.2.2.2.2.2.2.2))

theorem ax_fault (a : Nat → Int32) : r_api RXs GX 0 (lw_mX 11) (lw_av 11 a) (G9_fault a) := by
  intro M σ Q h kk
  have hh := h
  obtain ⟨hS, hTr, hTp, hRg, hFt, hFr, hSp, hNt, hTh, hLv, hRs, hAl, hX, hG⟩ := h
  show Ca 0 mt_X11_fault 0 0 [.ref 0, .int (a 1)] GX M Q
  exact c_X11_fault hFt (kk M hh)

theorem ay_fault (a : Nat → Int32) : r_api RYs GY 0 (lw_mY 11) (lw_av 11 a) (G9_fault a) := by
  intro M σ Q h kk
  have hh := h
  obtain ⟨hS, hTr, hTp, hFt, hFr, hSp, hNt, hTh, hLv, hY, hG⟩ := h
  show Ca 0 mt_X12_fault 0 0 [.ref 0, .int (a 1)] GY M Q
  have fx : r_fx [(0, 1)] [] M (r_sI M 0 1 (nI 0)) := r_fx.sI rfl r_fx.rf
  exact c_X12_fault hFt (kk _ ⟨((fx 0 0 rfl).1.trans hS), ((Y_tr_dp _).kp fx rfl hTr), ((Y_tp_dp _).kp fx rfl hTp), ((Y_ft_dp _).kp fx rfl hFt), ((Y_fr_dp _).kp fx rfl hFr), ((Y_sp_dp _).kp fx rfl hSp), ((Y_nt_dp _).kp fx rfl hNt), ((Y_th_dp _).kp fx rfl hTh), ((Y_lv_dp _).kp fx rfl hLv), ((Y_st_dp hG).kp fx rfl hY), hG⟩)

noncomputable def G9_tray (a : Nat → Int32) (σ : Sg9) : Value × Sg9 := (.int (r_b (f_tray ((a 1)) ((a 2)) ((a 3)) σ.2.1).1), ((f_tray ((a 1)) ((a 2)) ((a 3)) σ.2.1).2.1, (f_tray ((a 1)) ((a 2)) ((a 3)) σ.2.1).2.2, σ.2.2.1, σ.2.2.2.1, σ.2.2.2.2.1, σ.2.2.2.2.2.1, σ.2.2.2.2.2.2.1, σ.2.2.2.2.2.2.2.1, σ.2.2.2.2.2.2.2.2.1, σ.2.2.2.2.2.2.2.2.2))

theorem ax_tray (a : Nat → Int32) : r_api RXs GX 1 (lw_mX 3) (lw_av 3 a) (G9_tray a) := by
  intro M σ Q h kk
  have hh := h
  obtain ⟨hS, hTr, hTp, hRg, hFt, hFr, hSp, hNt, hTh, hLv, hRs, hAl, hX, hG⟩ := h
  show Ca 1 mt_X11_tray 0 0 [.ref 0, .int (a 1), .int (a 2), .int (a 3)] GX M Q
  exact c_X11_tray hTr (fun M' fx hs ht => kk M' ⟨hs, ht, ((X_tp_dp _).kp fx rfl hTp), hRg, ((X_ft_dp _).kp fx rfl hFt), ((X_fr_dp _).kp fx rfl hFr), ((X_sp_dp _).kp fx rfl hSp), ((X_nt_dp _).kp fx rfl hNt), ((X_th_dp _).kp fx rfl hTh), ((X_lv_dp _).kp fx rfl hLv), ((X_rs_dp).kp fx rfl hRs), ((X_hal_dp).kp fx rfl hAl), ((X_sx_dp hG).kp fx rfl hX), hG⟩)

theorem ay_tray (a : Nat → Int32) : r_api RYs GY 1 (lw_mY 3) (lw_av 3 a) (G9_tray a) := by
  intro M σ Q h kk
  have hh := h
  obtain ⟨hS, hTr, hTp, hFt, hFr, hSp, hNt, hTh, hLv, hY, hG⟩ := h
  show Ca 1 mt_X12_tray 0 0 [.ref 0, .int (a 1), .int (a 2), .int (a 3)] GY M Q
  exact c_X12_tray hTr (fun M' fx hs ht => kk M' ⟨hs, ht, ((Y_tp_dp _).kp fx rfl hTp), ((Y_ft_dp _).kp fx rfl hFt), ((Y_fr_dp _).kp fx rfl hFr), ((Y_sp_dp _).kp fx rfl hSp), ((Y_nt_dp _).kp fx rfl hNt), ((Y_th_dp _).kp fx rfl hTh), ((Y_lv_dp _).kp fx rfl hLv), ((Y_st_dp hG).kp fx rfl hY), hG⟩)

noncomputable def G9_write (a : Nat → Int32) (σ : Sg9) : Value × Sg9 := (.int (r_b (f_write ((a 1)) ((a 2)) (((((a 3)).toInt64 <<< ((nI 32).toInt64 &&& 63)) ||| (((a 4)).toInt64 &&& 4294967295))) σ.2.1).1), ((f_write ((a 1)) ((a 2)) (((((a 3)).toInt64 <<< ((nI 32).toInt64 &&& 63)) ||| (((a 4)).toInt64 &&& 4294967295))) σ.2.1).2.1, (f_write ((a 1)) ((a 2)) (((((a 3)).toInt64 <<< ((nI 32).toInt64 &&& 63)) ||| (((a 4)).toInt64 &&& 4294967295))) σ.2.1).2.2, σ.2.2.1, σ.2.2.2.1, σ.2.2.2.2.1, σ.2.2.2.2.2.1, σ.2.2.2.2.2.2.1, σ.2.2.2.2.2.2.2.1, σ.2.2.2.2.2.2.2.2.1, σ.2.2.2.2.2.2.2.2.2))

theorem ax_write (a : Nat → Int32) : r_api RXs GX 2 (lw_mX 4) (lw_av 4 a) (G9_write a) := by
  intro M σ Q h kk
  have hh := h
  obtain ⟨hS, hTr, hTp, hRg, hFt, hFr, hSp, hNt, hTh, hLv, hRs, hAl, hX, hG⟩ := h
  show Ca 2 mt_X11_write 0 0 [.ref 0, .int (a 1), .int (a 2), .long ((((a 3)).toInt64 <<< ((nI 32).toInt64 &&& 63)) ||| (((a 4)).toInt64 &&& 4294967295))] GX M Q
  exact c_X11_write hTr (fun M' fx hs ht => kk M' ⟨hs, ht, ((X_tp_dp _).kp fx rfl hTp), hRg, ((X_ft_dp _).kp fx rfl hFt), ((X_fr_dp _).kp fx rfl hFr), ((X_sp_dp _).kp fx rfl hSp), ((X_nt_dp _).kp fx rfl hNt), ((X_th_dp _).kp fx rfl hTh), ((X_lv_dp _).kp fx rfl hLv), ((X_rs_dp).kp fx rfl hRs), ((X_hal_dp).kp fx rfl hAl), ((X_sx_dp hG).kp fx rfl hX), hG⟩)

theorem ay_write (a : Nat → Int32) : r_api RYs GY 2 (lw_mY 4) (lw_av 4 a) (G9_write a) := by
  intro M σ Q h kk
  have hh := h
  obtain ⟨hS, hTr, hTp, hFt, hFr, hSp, hNt, hTh, hLv, hY, hG⟩ := h
  show Ca 2 mt_X12_write 0 0 [.ref 0, .int (a 1), .int (a 2), .long ((((a 3)).toInt64 <<< ((nI 32).toInt64 &&& 63)) ||| (((a 4)).toInt64 &&& 4294967295))] GY M Q
  exact c_X12_write hTr (fun M' fx hs ht => kk M' ⟨hs, ht, ((Y_tp_dp _).kp fx rfl hTp), ((Y_ft_dp _).kp fx rfl hFt), ((Y_fr_dp _).kp fx rfl hFr), ((Y_sp_dp _).kp fx rfl hSp), ((Y_nt_dp _).kp fx rfl hNt), ((Y_th_dp _).kp fx rfl hTh), ((Y_lv_dp _).kp fx rfl hLv), ((Y_st_dp hG).kp fx rfl hY), hG⟩)

noncomputable def G9_pour (a : Nat → Int32) (σ : Sg9) : Value × Sg9 := (.int (r_b (f_pour ((a 1)) ((a 2)) ((a 3)) ((a 4)) ((a 5)) σ.2.1).1), ((f_pour ((a 1)) ((a 2)) ((a 3)) ((a 4)) ((a 5)) σ.2.1).2.1, (f_pour ((a 1)) ((a 2)) ((a 3)) ((a 4)) ((a 5)) σ.2.1).2.2, σ.2.2.1, σ.2.2.2.1, σ.2.2.2.2.1, σ.2.2.2.2.2.1, σ.2.2.2.2.2.2.1, σ.2.2.2.2.2.2.2.1, σ.2.2.2.2.2.2.2.2.1, σ.2.2.2.2.2.2.2.2.2))

theorem ax_pour (a : Nat → Int32) : r_api RXs GX 2 (lw_mX 6) (lw_av 6 a) (G9_pour a) := by
  intro M σ Q h kk
  have hh := h
  obtain ⟨hS, hTr, hTp, hRg, hFt, hFr, hSp, hNt, hTh, hLv, hRs, hAl, hX, hG⟩ := h
  show Ca 2 mt_X11_pour 0 0 [.ref 0, .int (a 1), .int (a 2), .int (a 3), .int (a 4), .int (a 5)] GX M Q
  exact c_X11_pour hTr (fun M' fx hs ht => kk M' ⟨hs, ht, ((X_tp_dp _).kp fx rfl hTp), hRg, ((X_ft_dp _).kp fx rfl hFt), ((X_fr_dp _).kp fx rfl hFr), ((X_sp_dp _).kp fx rfl hSp), ((X_nt_dp _).kp fx rfl hNt), ((X_th_dp _).kp fx rfl hTh), ((X_lv_dp _).kp fx rfl hLv), ((X_rs_dp).kp fx rfl hRs), ((X_hal_dp).kp fx rfl hAl), ((X_sx_dp hG).kp fx rfl hX), hG⟩)

theorem ay_pour (a : Nat → Int32) : r_api RYs GY 1 (lw_mY 6) (lw_av 6 a) (G9_pour a) := by
  intro M σ Q h kk
  have hh := h
  obtain ⟨hS, hTr, hTp, hFt, hFr, hSp, hNt, hTh, hLv, hY, hG⟩ := h
  show Ca 1 mt_X12_pour 0 0 [.ref 0, .int (a 1), .int (a 2), .int (a 3), .int (a 4), .int (a 5)] GY M Q
  exact c_X12_pour hTr (fun M' fx hs ht => kk M' ⟨hs, ht, ((Y_tp_dp _).kp fx rfl hTp), ((Y_ft_dp _).kp fx rfl hFt), ((Y_fr_dp _).kp fx rfl hFr), ((Y_sp_dp _).kp fx rfl hSp), ((Y_nt_dp _).kp fx rfl hNt), ((Y_th_dp _).kp fx rfl hTh), ((Y_lv_dp _).kp fx rfl hLv), ((Y_st_dp hG).kp fx rfl hY), hG⟩)

noncomputable def G9_read (a : Nat → Int32) (σ : Sg9) : Value × Sg9 := (.long (f_read ((a 1)) ((a 2)) σ.2.1).1, ((f_read ((a 1)) ((a 2)) σ.2.1).2, σ.2.1, σ.2.2.1, σ.2.2.2.1, σ.2.2.2.2.1, σ.2.2.2.2.2.1, σ.2.2.2.2.2.2.1, σ.2.2.2.2.2.2.2.1, σ.2.2.2.2.2.2.2.2.1, σ.2.2.2.2.2.2.2.2.2))

theorem ax_read (a : Nat → Int32) : r_api RXs GX 2 (lw_mX 5) (lw_av 5 a) (G9_read a) := by
  intro M σ Q h kk
  have hh := h
  obtain ⟨hS, hTr, hTp, hRg, hFt, hFr, hSp, hNt, hTh, hLv, hRs, hAl, hX, hG⟩ := h
  show Ca 2 mt_X11_read 0 0 [.ref 0, .int (a 1), .int (a 2)] GX M Q
  exact c_X11_read hTr (fun M' fx hs => kk M' ⟨hs, ((X_tr_dp _).kp fx rfl hTr), ((X_tp_dp _).kp fx rfl hTp), hRg, ((X_ft_dp _).kp fx rfl hFt), ((X_fr_dp _).kp fx rfl hFr), ((X_sp_dp _).kp fx rfl hSp), ((X_nt_dp _).kp fx rfl hNt), ((X_th_dp _).kp fx rfl hTh), ((X_lv_dp _).kp fx rfl hLv), ((X_rs_dp).kp fx rfl hRs), ((X_hal_dp).kp fx rfl hAl), ((X_sx_dp hG).kp fx rfl hX), hG⟩)

theorem ay_read (a : Nat → Int32) : r_api RYs GY 2 (lw_mY 5) (lw_av 5 a) (G9_read a) := by
  intro M σ Q h kk
  have hh := h
  obtain ⟨hS, hTr, hTp, hFt, hFr, hSp, hNt, hTh, hLv, hY, hG⟩ := h
  show Ca 2 mt_X12_read 0 0 [.ref 0, .int (a 1), .int (a 2)] GY M Q
  exact c_X12_read hTr (fun M' fx hs => kk M' ⟨hs, ((Y_tr_dp _).kp fx rfl hTr), ((Y_tp_dp _).kp fx rfl hTp), ((Y_ft_dp _).kp fx rfl hFt), ((Y_fr_dp _).kp fx rfl hFr), ((Y_sp_dp _).kp fx rfl hSp), ((Y_nt_dp _).kp fx rfl hNt), ((Y_th_dp _).kp fx rfl hTh), ((Y_lv_dp _).kp fx rfl hLv), ((Y_st_dp hG).kp fx rfl hY), hG⟩)

noncomputable def G9_feed (a : Nat → Int32) (σ : Sg9) : Value × Sg9 := (.int (f_feed ((a 1)) ((a 2)) ((a 3)) ((a 4)) ((a 5)) σ.2.2.1).1, (σ.1, σ.2.1, (f_feed ((a 1)) ((a 2)) ((a 3)) ((a 4)) ((a 5)) σ.2.2.1).2, σ.2.2.2.1, σ.2.2.2.2.1, σ.2.2.2.2.2.1, σ.2.2.2.2.2.2.1, σ.2.2.2.2.2.2.2.1, σ.2.2.2.2.2.2.2.2.1, σ.2.2.2.2.2.2.2.2.2))

theorem ax_feed (a : Nat → Int32) : r_api RXs GX 1 (lw_mX 7) (lw_av 7 a) (G9_feed a) := by
  intro M σ Q h kk
  have hh := h
  obtain ⟨hS, hTr, hTp, hRg, hFt, hFr, hSp, hNt, hTh, hLv, hRs, hAl, hX, hG⟩ := h
  show Ca 1 mt_X11_feed 0 0 [.ref 0, .int (a 1), .int (a 2), .int (a 3), .int (a 4), .int (a 5)] GX M Q
  exact c_X11_feed hTp (fun M' fx ht => kk M' ⟨((fx 0 0 rfl).1.trans hS), ((X_tr_dp _).kp fx rfl hTr), ht, (f_feed_b hRg), ((X_ft_dp _).kp fx rfl hFt), ((X_fr_dp _).kp fx rfl hFr), ((X_sp_dp _).kp fx rfl hSp), ((X_nt_dp _).kp fx rfl hNt), ((X_th_dp _).kp fx rfl hTh), ((X_lv_dp _).kp fx rfl hLv), ((X_rs_dp).kp fx rfl hRs), ((X_hal_dp).kp fx rfl hAl), ((X_sx_dp hG).kp fx rfl hX), hG⟩)

theorem ay_feed (a : Nat → Int32) : r_api RYs GY 1 (lw_mY 7) (lw_av 7 a) (G9_feed a) := by
  intro M σ Q h kk
  have hh := h
  obtain ⟨hS, hTr, hTp, hFt, hFr, hSp, hNt, hTh, hLv, hY, hG⟩ := h
  show Ca 1 mt_X12_feed 0 0 [.ref 0, .int (a 1), .int (a 2), .int (a 3), .int (a 4), .int (a 5)] GY M Q
  exact c_X12_feed hTp (fun M' fx ht => kk M' ⟨((fx 0 0 rfl).1.trans hS), ((Y_tr_dp _).kp fx rfl hTr), ht, ((Y_ft_dp _).kp fx rfl hFt), ((Y_fr_dp _).kp fx rfl hFr), ((Y_sp_dp _).kp fx rfl hSp), ((Y_nt_dp _).kp fx rfl hNt), ((Y_th_dp _).kp fx rfl hTh), ((Y_lv_dp _).kp fx rfl hLv), ((Y_st_dp hG).kp fx rfl hY), hG⟩)

noncomputable def G9_many (a : Nat → Int32) (σ : Sg9) : Value × Sg9 := (.int (g_many (σ.2.2.2.2.2.2.2.2.2.2.1 σ.2.2.2.2.2.2.2.2.2.1) ((a 1))).1, (nI (g_many (σ.2.2.2.2.2.2.2.2.2.2.1 σ.2.2.2.2.2.2.2.2.2.1) ((a 1))).2, σ.2.1, σ.2.2.1, σ.2.2.2.1, σ.2.2.2.2.1, σ.2.2.2.2.2.1, σ.2.2.2.2.2.2.1, σ.2.2.2.2.2.2.2.1, σ.2.2.2.2.2.2.2.2.1, σ.2.2.2.2.2.2.2.2.2))

theorem ax_many (a : Nat → Int32) : r_api RXs GX 1 (lw_mX 12) (lw_av 12 a) (G9_many a) := by
  intro M σ Q h kk
  have hh := h
  obtain ⟨hS, hTr, hTp, hRg, hFt, hFr, hSp, hNt, hTh, hLv, hRs, hAl, hX, hG⟩ := h
  show Ca 1 mt_X11_many 0 0 [.ref 0, .int (a 1)] GX M Q
  obtain ⟨tw, lw, pl, hX9⟩ := hX
  have hX : X_sx σ.2.2.2.2.2.2.2.2.2.1 σ.2.2.2.2.2.2.2.2.2.2.1 σ.2.2.2.2.2.2.2.2.2.2.2.1 M := ⟨tw, lw, pl, hX9⟩
  have hcu := (X_st_cu hX9).1
  have hlv := (X_st_cu hX9).2
  have hg := hG _ (Nat.le_refl _)
  exact c_X11_many hcu hlv.1 hg.1 (fun M' fx hs => kk M' ⟨hs, ((X_tr_dp _).kp fx rfl hTr), ((X_tp_dp _).kp fx rfl hTp), hRg, ((X_ft_dp _).kp fx rfl hFt), ((X_fr_dp _).kp fx rfl hFr), ((X_sp_dp _).kp fx rfl hSp), ((X_nt_dp _).kp fx rfl hNt), ((X_th_dp _).kp fx rfl hTh), ((X_lv_dp _).kp fx rfl hLv), ((X_rs_dp).kp fx rfl hRs), ((X_hal_dp).kp fx rfl hAl), ((X_sx_dp hG).kp fx rfl hX), hG⟩)

theorem ay_many (a : Nat → Int32) : r_api RYs GY 3 (lw_mY 12) (lw_av 12 a) (G9_many a) := by
  intro M σ Q h kk
  have hh := h
  obtain ⟨hS, hTr, hTp, hFt, hFr, hSp, hNt, hTh, hLv, hY, hG⟩ := h
  show Ca 3 mt_X12_many 0 0 [.ref 0, .int (a 1)] GY M Q
  have hg := hG _ (Nat.le_refl _)
  have hy0 := Y_bk_tm hY.2.1
  exact c_X12_many hy0 hg.1 (fun M' fx hs => kk M' ⟨hs, ((Y_tr_dp _).kp fx rfl hTr), ((Y_tp_dp _).kp fx rfl hTp), ((Y_ft_dp _).kp fx rfl hFt), ((Y_fr_dp _).kp fx rfl hFr), ((Y_sp_dp _).kp fx rfl hSp), ((Y_nt_dp _).kp fx rfl hNt), ((Y_th_dp _).kp fx rfl hTh), ((Y_lv_dp _).kp fx rfl hLv), ((Y_st_dp hG).kp fx rfl hY), hG⟩)

noncomputable def G9_thing (a : Nat → Int32) (σ : Sg9) : Value × Sg9 := (.int (g_thing (σ.2.2.2.2.2.2.2.2.2.2.1 σ.2.2.2.2.2.2.2.2.2.1) ((a 1)) ((a 2))).1, (nI (g_thing (σ.2.2.2.2.2.2.2.2.2.2.1 σ.2.2.2.2.2.2.2.2.2.1) ((a 1)) ((a 2))).2, σ.2.1, σ.2.2.1, σ.2.2.2.1, σ.2.2.2.2.1, σ.2.2.2.2.2.1, σ.2.2.2.2.2.2.1, σ.2.2.2.2.2.2.2.1, σ.2.2.2.2.2.2.2.2.1, σ.2.2.2.2.2.2.2.2.2))

theorem ax_thing (a : Nat → Int32) : r_api RXs GX 3 (lw_mX 13) (lw_av 13 a) (G9_thing a) := by
  intro M σ Q h kk
  have hh := h
  obtain ⟨hS, hTr, hTp, hRg, hFt, hFr, hSp, hNt, hTh, hLv, hRs, hAl, hX, hG⟩ := h
  show Ca 3 mt_X11_thing 0 0 [.ref 0, .int (a 1), .int (a 2)] GX M Q
  obtain ⟨tw, lw, pl, hX9⟩ := hX
  have hX : X_sx σ.2.2.2.2.2.2.2.2.2.1 σ.2.2.2.2.2.2.2.2.2.2.1 σ.2.2.2.2.2.2.2.2.2.2.2.1 M := ⟨tw, lw, pl, hX9⟩
  have hcu := (X_st_cu hX9).1
  have hlv := (X_st_cu hX9).2
  have hg := hG _ (Nat.le_refl _)
  exact c_X11_thing hcu hlv.1 hg.1 (fun M' fx hs => kk M' ⟨hs, ((X_tr_dp _).kp fx rfl hTr), ((X_tp_dp _).kp fx rfl hTp), hRg, ((X_ft_dp _).kp fx rfl hFt), ((X_fr_dp _).kp fx rfl hFr), ((X_sp_dp _).kp fx rfl hSp), ((X_nt_dp _).kp fx rfl hNt), ((X_th_dp _).kp fx rfl hTh), ((X_lv_dp _).kp fx rfl hLv), ((X_rs_dp).kp fx rfl hRs), ((X_hal_dp).kp fx rfl hAl), ((X_sx_dp hG).kp fx rfl hX), hG⟩)

theorem ay_thing (a : Nat → Int32) : r_api RYs GY 2 (lw_mY 13) (lw_av 13 a) (G9_thing a) := by
  intro M σ Q h kk
  have hh := h
  obtain ⟨hS, hTr, hTp, hFt, hFr, hSp, hNt, hTh, hLv, hY, hG⟩ := h
  show Ca 2 mt_X12_thing 0 0 [.ref 0, .int (a 1), .int (a 2)] GY M Q
  have hg := hG _ (Nat.le_refl _)
  have hy0 := Y_bk_tm hY.2.1
  exact c_X12_thing hy0 hg.1 (fun M' fx hs => kk M' ⟨hs, ((Y_tr_dp _).kp fx rfl hTr), ((Y_tp_dp _).kp fx rfl hTp), ((Y_ft_dp _).kp fx rfl hFt), ((Y_fr_dp _).kp fx rfl hFr), ((Y_sp_dp _).kp fx rfl hSp), ((Y_nt_dp _).kp fx rfl hNt), ((Y_th_dp _).kp fx rfl hTh), ((Y_lv_dp _).kp fx rfl hLv), ((Y_st_dp hG).kp fx rfl hY), hG⟩)

noncomputable def G9_making (a : Nat → Int32) (σ : Sg9) : Value × Sg9 := (.int (g_making (σ.2.2.2.2.2.2.2.2.2.2.1 σ.2.2.2.2.2.2.2.2.2.1) ((a 1)) ((a 2))).1, (nI (g_making (σ.2.2.2.2.2.2.2.2.2.2.1 σ.2.2.2.2.2.2.2.2.2.1) ((a 1)) ((a 2))).2, σ.2.1, σ.2.2.1, σ.2.2.2.1, σ.2.2.2.2.1, σ.2.2.2.2.2.1, σ.2.2.2.2.2.2.1, σ.2.2.2.2.2.2.2.1, σ.2.2.2.2.2.2.2.2.1, σ.2.2.2.2.2.2.2.2.2))

theorem ax_making (a : Nat → Int32) : r_api RXs GX 1 (lw_mX 14) (lw_av 14 a) (G9_making a) := by
  intro M σ Q h kk
  have hh := h
  obtain ⟨hS, hTr, hTp, hRg, hFt, hFr, hSp, hNt, hTh, hLv, hRs, hAl, hX, hG⟩ := h
  show Ca 1 mt_X11_making 0 0 [.ref 0, .int (a 1), .int (a 2)] GX M Q
  obtain ⟨tw, lw, pl, hX9⟩ := hX
  have hX : X_sx σ.2.2.2.2.2.2.2.2.2.1 σ.2.2.2.2.2.2.2.2.2.2.1 σ.2.2.2.2.2.2.2.2.2.2.2.1 M := ⟨tw, lw, pl, hX9⟩
  have hcu := (X_st_cu hX9).1
  have hlv := (X_st_cu hX9).2
  have hg := hG _ (Nat.le_refl _)
  exact c_X11_making hcu hlv.1 hg.1 (fun M' fx hs => kk M' ⟨hs, ((X_tr_dp _).kp fx rfl hTr), ((X_tp_dp _).kp fx rfl hTp), hRg, ((X_ft_dp _).kp fx rfl hFt), ((X_fr_dp _).kp fx rfl hFr), ((X_sp_dp _).kp fx rfl hSp), ((X_nt_dp _).kp fx rfl hNt), ((X_th_dp _).kp fx rfl hTh), ((X_lv_dp _).kp fx rfl hLv), ((X_rs_dp).kp fx rfl hRs), ((X_hal_dp).kp fx rfl hAl), ((X_sx_dp hG).kp fx rfl hX), hG⟩)

theorem ay_making (a : Nat → Int32) : r_api RYs GY 2 (lw_mY 14) (lw_av 14 a) (G9_making a) := by
  intro M σ Q h kk
  have hh := h
  obtain ⟨hS, hTr, hTp, hFt, hFr, hSp, hNt, hTh, hLv, hY, hG⟩ := h
  show Ca 2 mt_X12_making 0 0 [.ref 0, .int (a 1), .int (a 2)] GY M Q
  have hg := hG _ (Nat.le_refl _)
  have hy0 := Y_bk_tm hY.2.1
  exact c_X12_making hy0 hg.1 (fun M' fx hs => kk M' ⟨hs, ((Y_tr_dp _).kp fx rfl hTr), ((Y_tp_dp _).kp fx rfl hTp), ((Y_ft_dp _).kp fx rfl hFt), ((Y_fr_dp _).kp fx rfl hFr), ((Y_sp_dp _).kp fx rfl hSp), ((Y_nt_dp _).kp fx rfl hNt), ((Y_th_dp _).kp fx rfl hTh), ((Y_lv_dp _).kp fx rfl hLv), ((Y_st_dp hG).kp fx rfl hY), hG⟩)

noncomputable def G9_awake (a : Nat → Int32) (σ : Sg9) : Value × Sg9 := (.int (g_awake (σ.2.2.2.2.2.2.2.2.2.2.1 σ.2.2.2.2.2.2.2.2.2.1) ((a 1)) ((a 2))).1, (nI (g_awake (σ.2.2.2.2.2.2.2.2.2.2.1 σ.2.2.2.2.2.2.2.2.2.1) ((a 1)) ((a 2))).2, σ.2.1, σ.2.2.1, σ.2.2.2.1, σ.2.2.2.2.1, σ.2.2.2.2.2.1, σ.2.2.2.2.2.2.1, σ.2.2.2.2.2.2.2.1, σ.2.2.2.2.2.2.2.2.1, σ.2.2.2.2.2.2.2.2.2))

theorem ax_awake (a : Nat → Int32) : r_api RXs GX 1 (lw_mX 15) (lw_av 15 a) (G9_awake a) := by
  intro M σ Q h kk
  have hh := h
  obtain ⟨hS, hTr, hTp, hRg, hFt, hFr, hSp, hNt, hTh, hLv, hRs, hAl, hX, hG⟩ := h
  show Ca 1 mt_X11_awake 0 0 [.ref 0, .int (a 1), .int (a 2)] GX M Q
  obtain ⟨tw, lw, pl, hX9⟩ := hX
  have hX : X_sx σ.2.2.2.2.2.2.2.2.2.1 σ.2.2.2.2.2.2.2.2.2.2.1 σ.2.2.2.2.2.2.2.2.2.2.2.1 M := ⟨tw, lw, pl, hX9⟩
  have hcu := (X_st_cu hX9).1
  have hlv := (X_st_cu hX9).2
  have hg := hG _ (Nat.le_refl _)
  exact c_X11_awake hcu hlv.1 hg.1 (fun M' fx hs => kk M' ⟨hs, ((X_tr_dp _).kp fx rfl hTr), ((X_tp_dp _).kp fx rfl hTp), hRg, ((X_ft_dp _).kp fx rfl hFt), ((X_fr_dp _).kp fx rfl hFr), ((X_sp_dp _).kp fx rfl hSp), ((X_nt_dp _).kp fx rfl hNt), ((X_th_dp _).kp fx rfl hTh), ((X_lv_dp _).kp fx rfl hLv), ((X_rs_dp).kp fx rfl hRs), ((X_hal_dp).kp fx rfl hAl), ((X_sx_dp hG).kp fx rfl hX), hG⟩)

theorem ay_awake (a : Nat → Int32) : r_api RYs GY 2 (lw_mY 15) (lw_av 15 a) (G9_awake a) := by
  intro M σ Q h kk
  have hh := h
  obtain ⟨hS, hTr, hTp, hFt, hFr, hSp, hNt, hTh, hLv, hY, hG⟩ := h
  show Ca 2 mt_X12_awake 0 0 [.ref 0, .int (a 1), .int (a 2)] GY M Q
  have hg := hG _ (Nat.le_refl _)
  have hy0 := Y_bk_tm hY.2.1
  exact c_X12_awake hy0 hg.1 (fun M' fx hs => kk M' ⟨hs, ((Y_tr_dp _).kp fx rfl hTr), ((Y_tp_dp _).kp fx rfl hTp), ((Y_ft_dp _).kp fx rfl hFt), ((Y_fr_dp _).kp fx rfl hFr), ((Y_sp_dp _).kp fx rfl hSp), ((Y_nt_dp _).kp fx rfl hNt), ((Y_th_dp _).kp fx rfl hTh), ((Y_lv_dp _).kp fx rfl hLv), ((Y_st_dp hG).kp fx rfl hY), hG⟩)

noncomputable def G9_want (a : Nat → Int32) (σ : Sg9) : Value × Sg9 := (.int (g_want (σ.2.2.2.2.2.2.2.2.2.2.1 σ.2.2.2.2.2.2.2.2.2.1) ((a 1)) ((a 2))).1, (nI (g_want (σ.2.2.2.2.2.2.2.2.2.2.1 σ.2.2.2.2.2.2.2.2.2.1) ((a 1)) ((a 2))).2, σ.2.1, σ.2.2.1, σ.2.2.2.1, σ.2.2.2.2.1, σ.2.2.2.2.2.1, σ.2.2.2.2.2.2.1, σ.2.2.2.2.2.2.2.1, σ.2.2.2.2.2.2.2.2.1, σ.2.2.2.2.2.2.2.2.2))

theorem ax_want (a : Nat → Int32) : r_api RXs GX 1 (lw_mX 16) (lw_av 16 a) (G9_want a) := by
  intro M σ Q h kk
  have hh := h
  obtain ⟨hS, hTr, hTp, hRg, hFt, hFr, hSp, hNt, hTh, hLv, hRs, hAl, hX, hG⟩ := h
  show Ca 1 mt_X11_want 0 0 [.ref 0, .int (a 1), .int (a 2)] GX M Q
  obtain ⟨tw, lw, pl, hX9⟩ := hX
  have hX : X_sx σ.2.2.2.2.2.2.2.2.2.1 σ.2.2.2.2.2.2.2.2.2.2.1 σ.2.2.2.2.2.2.2.2.2.2.2.1 M := ⟨tw, lw, pl, hX9⟩
  have hcu := (X_st_cu hX9).1
  have hlv := (X_st_cu hX9).2
  have hg := hG _ (Nat.le_refl _)
  exact c_X11_want hcu hlv.1 hg.1 (fun M' fx hs => kk M' ⟨hs, ((X_tr_dp _).kp fx rfl hTr), ((X_tp_dp _).kp fx rfl hTp), hRg, ((X_ft_dp _).kp fx rfl hFt), ((X_fr_dp _).kp fx rfl hFr), ((X_sp_dp _).kp fx rfl hSp), ((X_nt_dp _).kp fx rfl hNt), ((X_th_dp _).kp fx rfl hTh), ((X_lv_dp _).kp fx rfl hLv), ((X_rs_dp).kp fx rfl hRs), ((X_hal_dp).kp fx rfl hAl), ((X_sx_dp hG).kp fx rfl hX), hG⟩)

theorem ay_want (a : Nat → Int32) : r_api RYs GY 2 (lw_mY 16) (lw_av 16 a) (G9_want a) := by
  intro M σ Q h kk
  have hh := h
  obtain ⟨hS, hTr, hTp, hFt, hFr, hSp, hNt, hTh, hLv, hY, hG⟩ := h
  show Ca 2 mt_X12_want 0 0 [.ref 0, .int (a 1), .int (a 2)] GY M Q
  have hg := hG _ (Nat.le_refl _)
  have hy0 := Y_bk_tm hY.2.1
  exact c_X12_want hy0 hg.1 (fun M' fx hs => kk M' ⟨hs, ((Y_tr_dp _).kp fx rfl hTr), ((Y_tp_dp _).kp fx rfl hTp), ((Y_ft_dp _).kp fx rfl hFt), ((Y_fr_dp _).kp fx rfl hFr), ((Y_sp_dp _).kp fx rfl hSp), ((Y_nt_dp _).kp fx rfl hNt), ((Y_th_dp _).kp fx rfl hTh), ((Y_lv_dp _).kp fx rfl hLv), ((Y_st_dp hG).kp fx rfl hY), hG⟩)

noncomputable def G9_soonest (a : Nat → Int32) (σ : Sg9) : Value × Sg9 := (.int (g_soonest (σ.2.2.2.2.2.2.2.2.2.2.1 σ.2.2.2.2.2.2.2.2.2.1) ((a 1)) ((a 2))).1, (nI (g_soonest (σ.2.2.2.2.2.2.2.2.2.2.1 σ.2.2.2.2.2.2.2.2.2.1) ((a 1)) ((a 2))).2, σ.2.1, σ.2.2.1, σ.2.2.2.1, σ.2.2.2.2.1, σ.2.2.2.2.2.1, σ.2.2.2.2.2.2.1, σ.2.2.2.2.2.2.2.1, σ.2.2.2.2.2.2.2.2.1, σ.2.2.2.2.2.2.2.2.2))

theorem ax_soonest (a : Nat → Int32) : r_api RXs GX 3 (lw_mX 18) (lw_av 18 a) (G9_soonest a) := by
  intro M σ Q h kk
  have hh := h
  obtain ⟨hS, hTr, hTp, hRg, hFt, hFr, hSp, hNt, hTh, hLv, hRs, hAl, hX, hG⟩ := h
  show Ca 3 mt_X11_soonest 0 0 [.ref 0, .int (a 1), .int (a 2)] GX M Q
  obtain ⟨tw, lw, pl, hX9⟩ := hX
  have hX : X_sx σ.2.2.2.2.2.2.2.2.2.1 σ.2.2.2.2.2.2.2.2.2.2.1 σ.2.2.2.2.2.2.2.2.2.2.2.1 M := ⟨tw, lw, pl, hX9⟩
  have hcu := (X_st_cu hX9).1
  have hlv := (X_st_cu hX9).2
  have hg := hG _ (Nat.le_refl _)
  exact c_X11_soonest hcu hlv.1 hg.1 (fun M' fx hs => kk M' ⟨hs, ((X_tr_dp _).kp fx rfl hTr), ((X_tp_dp _).kp fx rfl hTp), hRg, ((X_ft_dp _).kp fx rfl hFt), ((X_fr_dp _).kp fx rfl hFr), ((X_sp_dp _).kp fx rfl hSp), ((X_nt_dp _).kp fx rfl hNt), ((X_th_dp _).kp fx rfl hTh), ((X_lv_dp _).kp fx rfl hLv), ((X_rs_dp).kp fx rfl hRs), ((X_hal_dp).kp fx rfl hAl), ((X_sx_dp hG).kp fx rfl hX), hG⟩)

theorem ay_soonest (a : Nat → Int32) : r_api RYs GY 3 (lw_mY 18) (lw_av 18 a) (G9_soonest a) := by
  intro M σ Q h kk
  have hh := h
  obtain ⟨hS, hTr, hTp, hFt, hFr, hSp, hNt, hTh, hLv, hY, hG⟩ := h
  show Ca 3 mt_X12_soonest 0 0 [.ref 0, .int (a 1), .int (a 2)] GY M Q
  have hg := hG _ (Nat.le_refl _)
  have hy0 := Y_bk_tm hY.2.1
  exact c_X12_soonest hy0 hg.1 (fun M' fx hs => kk M' ⟨hs, ((Y_tr_dp _).kp fx rfl hTr), ((Y_tp_dp _).kp fx rfl hTp), ((Y_ft_dp _).kp fx rfl hFt), ((Y_fr_dp _).kp fx rfl hFr), ((Y_sp_dp _).kp fx rfl hSp), ((Y_nt_dp _).kp fx rfl hNt), ((Y_th_dp _).kp fx rfl hTh), ((Y_lv_dp _).kp fx rfl hLv), ((Y_st_dp hG).kp fx rfl hY), hG⟩)

noncomputable def G9_bars (a : Nat → Int32) (σ : Sg9) : Value × Sg9 := (.int (g_bars (σ.2.2.2.2.2.2.2.2.2.2.1 σ.2.2.2.2.2.2.2.2.2.1) ((a 1)) ((a 2)) ((a 3))).1, (nI (g_bars (σ.2.2.2.2.2.2.2.2.2.2.1 σ.2.2.2.2.2.2.2.2.2.1) ((a 1)) ((a 2)) ((a 3))).2, σ.2.1, σ.2.2.1, σ.2.2.2.1, σ.2.2.2.2.1, σ.2.2.2.2.2.1, σ.2.2.2.2.2.2.1, σ.2.2.2.2.2.2.2.1, σ.2.2.2.2.2.2.2.2.1, σ.2.2.2.2.2.2.2.2.2))

theorem ax_bars (a : Nat → Int32) : r_api RXs GX 3 (lw_mX 19) (lw_av 19 a) (G9_bars a) := by
  intro M σ Q h kk
  have hh := h
  obtain ⟨hS, hTr, hTp, hRg, hFt, hFr, hSp, hNt, hTh, hLv, hRs, hAl, hX, hG⟩ := h
  show Ca 3 mt_X11_bars 0 0 [.ref 0, .int (a 1), .int (a 2), .int (a 3)] GX M Q
  obtain ⟨tw, lw, pl, hX9⟩ := hX
  have hX : X_sx σ.2.2.2.2.2.2.2.2.2.1 σ.2.2.2.2.2.2.2.2.2.2.1 σ.2.2.2.2.2.2.2.2.2.2.2.1 M := ⟨tw, lw, pl, hX9⟩
  have hcu := (X_st_cu hX9).1
  have hlv := (X_st_cu hX9).2
  have hg := hG _ (Nat.le_refl _)
  exact c_X11_bars hcu hlv.1 hg.1 (fun M' fx hs => kk M' ⟨hs, ((X_tr_dp _).kp fx rfl hTr), ((X_tp_dp _).kp fx rfl hTp), hRg, ((X_ft_dp _).kp fx rfl hFt), ((X_fr_dp _).kp fx rfl hFr), ((X_sp_dp _).kp fx rfl hSp), ((X_nt_dp _).kp fx rfl hNt), ((X_th_dp _).kp fx rfl hTh), ((X_lv_dp _).kp fx rfl hLv), ((X_rs_dp).kp fx rfl hRs), ((X_hal_dp).kp fx rfl hAl), ((X_sx_dp hG).kp fx rfl hX), hG⟩)

theorem ay_bars (a : Nat → Int32) : r_api RYs GY 3 (lw_mY 19) (lw_av 19 a) (G9_bars a) := by
  intro M σ Q h kk
  have hh := h
  obtain ⟨hS, hTr, hTp, hFt, hFr, hSp, hNt, hTh, hLv, hY, hG⟩ := h
  show Ca 3 mt_X12_bars 0 0 [.ref 0, .int (a 1), .int (a 2), .int (a 3)] GY M Q
  have hg := hG _ (Nat.le_refl _)
  have hy0 := Y_bk_tm hY.2.1
  exact c_X12_bars hy0 hg.1 (fun M' fx hs => kk M' ⟨hs, ((Y_tr_dp _).kp fx rfl hTr), ((Y_tp_dp _).kp fx rfl hTp), ((Y_ft_dp _).kp fx rfl hFt), ((Y_fr_dp _).kp fx rfl hFr), ((Y_sp_dp _).kp fx rfl hSp), ((Y_nt_dp _).kp fx rfl hNt), ((Y_th_dp _).kp fx rfl hTh), ((Y_lv_dp _).kp fx rfl hLv), ((Y_st_dp hG).kp fx rfl hY), hG⟩)

noncomputable def G9_labour (a : Nat → Int32) (σ : Sg9) : Value × Sg9 := (.int (g_labour (σ.2.2.2.2.2.2.2.2.2.2.1 σ.2.2.2.2.2.2.2.2.2.1) ((a 1)) ((a 2))).1, (nI (g_labour (σ.2.2.2.2.2.2.2.2.2.2.1 σ.2.2.2.2.2.2.2.2.2.1) ((a 1)) ((a 2))).2, σ.2.1, σ.2.2.1, σ.2.2.2.1, σ.2.2.2.2.1, σ.2.2.2.2.2.1, σ.2.2.2.2.2.2.1, σ.2.2.2.2.2.2.2.1, σ.2.2.2.2.2.2.2.2.1, σ.2.2.2.2.2.2.2.2.2))

theorem ax_labour (a : Nat → Int32) : r_api RXs GX 3 (lw_mX 20) (lw_av 20 a) (G9_labour a) := by
  intro M σ Q h kk
  have hh := h
  obtain ⟨hS, hTr, hTp, hRg, hFt, hFr, hSp, hNt, hTh, hLv, hRs, hAl, hX, hG⟩ := h
  show Ca 3 mt_X11_labour 0 0 [.ref 0, .int (a 1), .int (a 2)] GX M Q
  obtain ⟨tw, lw, pl, hX9⟩ := hX
  have hX : X_sx σ.2.2.2.2.2.2.2.2.2.1 σ.2.2.2.2.2.2.2.2.2.2.1 σ.2.2.2.2.2.2.2.2.2.2.2.1 M := ⟨tw, lw, pl, hX9⟩
  have hcu := (X_st_cu hX9).1
  have hlv := (X_st_cu hX9).2
  have hg := hG _ (Nat.le_refl _)
  exact c_X11_labour hcu hlv.1 hg.1 (fun M' fx hs => kk M' ⟨hs, ((X_tr_dp _).kp fx rfl hTr), ((X_tp_dp _).kp fx rfl hTp), hRg, ((X_ft_dp _).kp fx rfl hFt), ((X_fr_dp _).kp fx rfl hFr), ((X_sp_dp _).kp fx rfl hSp), ((X_nt_dp _).kp fx rfl hNt), ((X_th_dp _).kp fx rfl hTh), ((X_lv_dp _).kp fx rfl hLv), ((X_rs_dp).kp fx rfl hRs), ((X_hal_dp).kp fx rfl hAl), ((X_sx_dp hG).kp fx rfl hX), hG⟩)

theorem ay_labour (a : Nat → Int32) : r_api RYs GY 2 (lw_mY 20) (lw_av 20 a) (G9_labour a) := by
  intro M σ Q h kk
  have hh := h
  obtain ⟨hS, hTr, hTp, hFt, hFr, hSp, hNt, hTh, hLv, hY, hG⟩ := h
  show Ca 2 mt_X12_labour 0 0 [.ref 0, .int (a 1), .int (a 2)] GY M Q
  have hg := hG _ (Nat.le_refl _)
  have hy0 := Y_bk_tm hY.2.1
  exact c_X12_labour hy0 hg.1 (fun M' fx hs => kk M' ⟨hs, ((Y_tr_dp _).kp fx rfl hTr), ((Y_tp_dp _).kp fx rfl hTp), ((Y_ft_dp _).kp fx rfl hFt), ((Y_fr_dp _).kp fx rfl hFr), ((Y_sp_dp _).kp fx rfl hSp), ((Y_nt_dp _).kp fx rfl hNt), ((Y_th_dp _).kp fx rfl hTh), ((Y_lv_dp _).kp fx rfl hLv), ((Y_st_dp hG).kp fx rfl hY), hG⟩)

noncomputable def G9_hands (a : Nat → Int32) (σ : Sg9) : Value × Sg9 := (.int (g_hands (σ.2.2.2.2.2.2.2.2.2.2.1 σ.2.2.2.2.2.2.2.2.2.1) ((a 1))).1, (nI (g_hands (σ.2.2.2.2.2.2.2.2.2.2.1 σ.2.2.2.2.2.2.2.2.2.1) ((a 1))).2, σ.2.1, σ.2.2.1, σ.2.2.2.1, σ.2.2.2.2.1, σ.2.2.2.2.2.1, σ.2.2.2.2.2.2.1, σ.2.2.2.2.2.2.2.1, σ.2.2.2.2.2.2.2.2.1, σ.2.2.2.2.2.2.2.2.2))

theorem ax_hands (a : Nat → Int32) : r_api RXs GX 5 (lw_mX 21) (lw_av 21 a) (G9_hands a) := by
  intro M σ Q h kk
  have hh := h
  obtain ⟨hS, hTr, hTp, hRg, hFt, hFr, hSp, hNt, hTh, hLv, hRs, hAl, hX, hG⟩ := h
  show Ca 5 mt_X11_hands 0 0 [.ref 0, .int (a 1)] GX M Q
  obtain ⟨tw, lw, pl, hX9⟩ := hX
  have hX : X_sx σ.2.2.2.2.2.2.2.2.2.1 σ.2.2.2.2.2.2.2.2.2.2.1 σ.2.2.2.2.2.2.2.2.2.2.2.1 M := ⟨tw, lw, pl, hX9⟩
  have hcu := (X_st_cu hX9).1
  have hlv := (X_st_cu hX9).2
  have hg := hG _ (Nat.le_refl _)
  exact c_X11_hands hcu hlv.1 hg.1 (fun M' fx hs => kk M' ⟨hs, ((X_tr_dp _).kp fx rfl hTr), ((X_tp_dp _).kp fx rfl hTp), hRg, ((X_ft_dp _).kp fx rfl hFt), ((X_fr_dp _).kp fx rfl hFr), ((X_sp_dp _).kp fx rfl hSp), ((X_nt_dp _).kp fx rfl hNt), ((X_th_dp _).kp fx rfl hTh), ((X_lv_dp _).kp fx rfl hLv), ((X_rs_dp).kp fx rfl hRs), ((X_hal_dp).kp fx rfl hAl), ((X_sx_dp hG).kp fx rfl hX), hG⟩)

theorem ay_hands (a : Nat → Int32) : r_api RYs GY 3 (lw_mY 21) (lw_av 21 a) (G9_hands a) := by
  intro M σ Q h kk
  have hh := h
  obtain ⟨hS, hTr, hTp, hFt, hFr, hSp, hNt, hTh, hLv, hY, hG⟩ := h
  show Ca 3 mt_X12_hands 0 0 [.ref 0, .int (a 1)] GY M Q
  have hg := hG _ (Nat.le_refl _)
  have hy0 := Y_bk_tm hY.2.1
  exact c_X12_hands hy0 hg.1 (fun M' fx hs => kk M' ⟨hs, ((Y_tr_dp _).kp fx rfl hTr), ((Y_tp_dp _).kp fx rfl hTp), ((Y_ft_dp _).kp fx rfl hFt), ((Y_fr_dp _).kp fx rfl hFr), ((Y_sp_dp _).kp fx rfl hSp), ((Y_nt_dp _).kp fx rfl hNt), ((Y_th_dp _).kp fx rfl hTh), ((Y_lv_dp _).kp fx rfl hLv), ((Y_st_dp hG).kp fx rfl hY), hG⟩)

noncomputable def G9_shift (a : Nat → Int32) (σ : Sg9) : Value × Sg9 := (.int (g_shift (σ.2.2.2.2.2.2.2.2.2.2.1 σ.2.2.2.2.2.2.2.2.2.1) ((a 1))).1, (nI (g_shift (σ.2.2.2.2.2.2.2.2.2.2.1 σ.2.2.2.2.2.2.2.2.2.1) ((a 1))).2, σ.2.1, σ.2.2.1, σ.2.2.2.1, σ.2.2.2.2.1, σ.2.2.2.2.2.1, σ.2.2.2.2.2.2.1, σ.2.2.2.2.2.2.2.1, σ.2.2.2.2.2.2.2.2.1, σ.2.2.2.2.2.2.2.2.2))

theorem ax_shift (a : Nat → Int32) : r_api RXs GX 1 (lw_mX 32) (lw_av 32 a) (G9_shift a) := by
  intro M σ Q h kk
  have hh := h
  obtain ⟨hS, hTr, hTp, hRg, hFt, hFr, hSp, hNt, hTh, hLv, hRs, hAl, hX, hG⟩ := h
  show Ca 1 mt_X11_shift 0 0 [.ref 0, .int (a 1)] GX M Q
  obtain ⟨tw, lw, pl, hX9⟩ := hX
  have hX : X_sx σ.2.2.2.2.2.2.2.2.2.1 σ.2.2.2.2.2.2.2.2.2.2.1 σ.2.2.2.2.2.2.2.2.2.2.2.1 M := ⟨tw, lw, pl, hX9⟩
  have hcu := (X_st_cu hX9).1
  have hlv := (X_st_cu hX9).2
  have hg := hG _ (Nat.le_refl _)
  exact c_X11_shift hcu hlv.1 hg.1 (fun M' fx hs => kk M' ⟨hs, ((X_tr_dp _).kp fx rfl hTr), ((X_tp_dp _).kp fx rfl hTp), hRg, ((X_ft_dp _).kp fx rfl hFt), ((X_fr_dp _).kp fx rfl hFr), ((X_sp_dp _).kp fx rfl hSp), ((X_nt_dp _).kp fx rfl hNt), ((X_th_dp _).kp fx rfl hTh), ((X_lv_dp _).kp fx rfl hLv), ((X_rs_dp).kp fx rfl hRs), ((X_hal_dp).kp fx rfl hAl), ((X_sx_dp hG).kp fx rfl hX), hG⟩)

theorem ay_shift (a : Nat → Int32) : r_api RYs GY 3 (lw_mY 32) (lw_av 32 a) (G9_shift a) := by
  intro M σ Q h kk
  have hh := h
  obtain ⟨hS, hTr, hTp, hFt, hFr, hSp, hNt, hTh, hLv, hY, hG⟩ := h
  show Ca 3 mt_X12_shift 0 0 [.ref 0, .int (a 1)] GY M Q
  have hg := hG _ (Nat.le_refl _)
  have hy0 := Y_bk_tm hY.2.1
  exact c_X12_shift hy0 hg.1 (fun M' fx hs => kk M' ⟨hs, ((Y_tr_dp _).kp fx rfl hTr), ((Y_tp_dp _).kp fx rfl hTp), ((Y_ft_dp _).kp fx rfl hFt), ((Y_fr_dp _).kp fx rfl hFr), ((Y_sp_dp _).kp fx rfl hSp), ((Y_nt_dp _).kp fx rfl hNt), ((Y_th_dp _).kp fx rfl hTh), ((Y_lv_dp _).kp fx rfl hLv), ((Y_st_dp hG).kp fx rfl hY), hG⟩)

noncomputable def G9_night (a : Nat → Int32) (σ : Sg9) : Value × Sg9 := (.int (g_night (σ.2.2.2.2.2.2.2.2.2.2.1 σ.2.2.2.2.2.2.2.2.2.1) ((a 1)) ((a 2)) ((a 3)) ((a 4)) ((a 5))).1, (nI (g_night (σ.2.2.2.2.2.2.2.2.2.2.1 σ.2.2.2.2.2.2.2.2.2.1) ((a 1)) ((a 2)) ((a 3)) ((a 4)) ((a 5))).2, σ.2.1, σ.2.2.1, σ.2.2.2.1, σ.2.2.2.2.1, σ.2.2.2.2.2.1, σ.2.2.2.2.2.2.1, σ.2.2.2.2.2.2.2.1, σ.2.2.2.2.2.2.2.2.1, σ.2.2.2.2.2.2.2.2.2))

theorem ax_night (a : Nat → Int32) : r_api RXs GX 3 (lw_mX 17) (lw_av 17 a) (G9_night a) := by
  intro M σ Q h kk
  have hh := h
  obtain ⟨hS, hTr, hTp, hRg, hFt, hFr, hSp, hNt, hTh, hLv, hRs, hAl, hX, hG⟩ := h
  show Ca 3 mt_X11_night 0 0 [.ref 0, .int (a 1), .int (a 2), .int (a 3), .int (a 4), .int (a 5)] GX M Q
  obtain ⟨tw, lw, pl, hX9⟩ := hX
  have hX : X_sx σ.2.2.2.2.2.2.2.2.2.1 σ.2.2.2.2.2.2.2.2.2.2.1 σ.2.2.2.2.2.2.2.2.2.2.2.1 M := ⟨tw, lw, pl, hX9⟩
  have hcu := (X_st_cu hX9).1
  have hlv := (X_st_cu hX9).2
  have hg := hG _ (Nat.le_refl _)
  exact c_X11_night hcu hlv.1 hlv.2.2.2.1 hg.1 hg.2.1 (fun M' fx hs => kk M' ⟨hs, ((X_tr_dp _).kp fx rfl hTr), ((X_tp_dp _).kp fx rfl hTp), hRg, ((X_ft_dp _).kp fx rfl hFt), ((X_fr_dp _).kp fx rfl hFr), ((X_sp_dp _).kp fx rfl hSp), ((X_nt_dp _).kp fx rfl hNt), ((X_th_dp _).kp fx rfl hTh), ((X_lv_dp _).kp fx rfl hLv), ((X_rs_dp).kp fx rfl hRs), ((X_hal_dp).kp fx rfl hAl), ((X_sx_dp hG).kp fx rfl hX), hG⟩)

theorem ay_night (a : Nat → Int32) : r_api RYs GY 4 (lw_mY 17) (lw_av 17 a) (G9_night a) := by
  intro M σ Q h kk
  have hh := h
  obtain ⟨hS, hTr, hTp, hFt, hFr, hSp, hNt, hTh, hLv, hY, hG⟩ := h
  show Ca 4 mt_X12_night 0 0 [.ref 0, .int (a 1), .int (a 2), .int (a 3), .int (a 4), .int (a 5)] GY M Q
  have hg := hG _ (Nat.le_refl _)
  have hy0 := Y_bk_tm hY.2.1
  exact c_X12_night hy0 hg.1 hg.2.1 (fun M' fx hs => kk M' ⟨hs, ((Y_tr_dp _).kp fx rfl hTr), ((Y_tp_dp _).kp fx rfl hTp), ((Y_ft_dp _).kp fx rfl hFt), ((Y_fr_dp _).kp fx rfl hFr), ((Y_sp_dp _).kp fx rfl hSp), ((Y_nt_dp _).kp fx rfl hNt), ((Y_th_dp _).kp fx rfl hTh), ((Y_lv_dp _).kp fx rfl hLv), ((Y_st_dp hG).kp fx rfl hY), hG⟩)

noncomputable def G9_price (a : Nat → Int32) (σ : Sg9) : Value × Sg9 := (.int (g_price (σ.2.2.2.2.2.2.2.2.2.2.1 σ.2.2.2.2.2.2.2.2.2.1) ((a 1)) ((a 2)) ((a 3))).1, (nI (g_price (σ.2.2.2.2.2.2.2.2.2.2.1 σ.2.2.2.2.2.2.2.2.2.1) ((a 1)) ((a 2)) ((a 3))).2, σ.2.1, σ.2.2.1, σ.2.2.2.1, σ.2.2.2.2.1, σ.2.2.2.2.2.1, σ.2.2.2.2.2.2.1, σ.2.2.2.2.2.2.2.1, σ.2.2.2.2.2.2.2.2.1, σ.2.2.2.2.2.2.2.2.2))

theorem ax_price (a : Nat → Int32) : r_api RXs GX 6 (lw_mX 27) (lw_av 27 a) (G9_price a) := by
  intro M σ Q h kk
  have hh := h
  obtain ⟨hS, hTr, hTp, hRg, hFt, hFr, hSp, hNt, hTh, hLv, hRs, hAl, hX, hG⟩ := h
  show Ca 6 mt_X11_price 0 0 [.ref 0, .int (a 1), .int (a 2), .int (a 3)] GX M Q
  obtain ⟨tw, lw, pl, hX9⟩ := hX
  have hX : X_sx σ.2.2.2.2.2.2.2.2.2.1 σ.2.2.2.2.2.2.2.2.2.2.1 σ.2.2.2.2.2.2.2.2.2.2.2.1 M := ⟨tw, lw, pl, hX9⟩
  have hcu := (X_st_cu hX9).1
  have hlv := (X_st_cu hX9).2
  have hg := hG _ (Nat.le_refl _)
  exact c_X11_price hcu hlv.1 hlv.2.2.2.1 hg.1 hg.2.1 hAl (fun M' fx hs => kk M' ⟨hs, ((X_tr_dp _).kp fx rfl hTr), ((X_tp_dp _).kp fx rfl hTp), hRg, ((X_ft_dp _).kp fx rfl hFt), ((X_fr_dp _).kp fx rfl hFr), ((X_sp_dp _).kp fx rfl hSp), ((X_nt_dp _).kp fx rfl hNt), ((X_th_dp _).kp fx rfl hTh), ((X_lv_dp _).kp fx rfl hLv), ((X_rs_dp).kp fx rfl hRs), ((X_hal_dp).kp fx rfl hAl), ((X_sx_dp hG).kp fx rfl hX), hG⟩)

theorem ay_price (a : Nat → Int32) : r_api RYs GY 5 (lw_mY 27) (lw_av 27 a) (G9_price a) := by
  intro M σ Q h kk
  have hh := h
  obtain ⟨hS, hTr, hTp, hFt, hFr, hSp, hNt, hTh, hLv, hY, hG⟩ := h
  show Ca 5 mt_X12_price 0 0 [.ref 0, .int (a 1), .int (a 2), .int (a 3)] GY M Q
  have hg := hG _ (Nat.le_refl _)
  have hy0 := Y_bk_tm hY.2.1
  exact c_X12_price9 hy0 hg.1 (fun M' fx hs => kk M' ⟨hs, ((Y_tr_dp _).kp fx rfl hTr), ((Y_tp_dp _).kp fx rfl hTp), ((Y_ft_dp _).kp fx rfl hFt), ((Y_fr_dp _).kp fx rfl hFr), ((Y_sp_dp _).kp fx rfl hSp), ((Y_nt_dp _).kp fx rfl hNt), ((Y_th_dp _).kp fx rfl hTh), ((Y_lv_dp _).kp fx rfl hLv), ((Y_st_dp hG).kp fx rfl hY), hG⟩)

noncomputable def G9_kept (a : Nat → Int32) (σ : Sg9) : Value × Sg9 := (.int (g_kept (σ.2.2.2.2.2.2.2.2.2.2.1 σ.2.2.2.2.2.2.2.2.2.1) ((a 1)) ((a 2))).1, (nI (g_kept (σ.2.2.2.2.2.2.2.2.2.2.1 σ.2.2.2.2.2.2.2.2.2.1) ((a 1)) ((a 2))).2, σ.2.1, σ.2.2.1, σ.2.2.2.1, σ.2.2.2.2.1, σ.2.2.2.2.2.1, σ.2.2.2.2.2.2.1, σ.2.2.2.2.2.2.2.1, σ.2.2.2.2.2.2.2.2.1, σ.2.2.2.2.2.2.2.2.2))

theorem ax_kept (a : Nat → Int32) : r_api RXs GX 6 (lw_mX 28) (lw_av 28 a) (G9_kept a) := by
  intro M σ Q h kk
  have hh := h
  obtain ⟨hS, hTr, hTp, hRg, hFt, hFr, hSp, hNt, hTh, hLv, hRs, hAl, hX, hG⟩ := h
  show Ca 6 mt_X11_kept 0 0 [.ref 0, .int (a 1), .int (a 2)] GX M Q
  obtain ⟨tw, lw, pl, hX9⟩ := hX
  have hX : X_sx σ.2.2.2.2.2.2.2.2.2.1 σ.2.2.2.2.2.2.2.2.2.2.1 σ.2.2.2.2.2.2.2.2.2.2.2.1 M := ⟨tw, lw, pl, hX9⟩
  have hcu := (X_st_cu hX9).1
  have hlv := (X_st_cu hX9).2
  have hg := hG _ (Nat.le_refl _)
  exact c_X11_kept hcu hlv.1 hlv.2.2.2.1 hg.1 hg.2.1 hAl (fun M' fx hs => kk M' ⟨hs, ((X_tr_dp _).kp fx rfl hTr), ((X_tp_dp _).kp fx rfl hTp), hRg, ((X_ft_dp _).kp fx rfl hFt), ((X_fr_dp _).kp fx rfl hFr), ((X_sp_dp _).kp fx rfl hSp), ((X_nt_dp _).kp fx rfl hNt), ((X_th_dp _).kp fx rfl hTh), ((X_lv_dp _).kp fx rfl hLv), ((X_rs_dp).kp fx rfl hRs), ((X_hal_dp).kp fx rfl hAl), ((X_sx_dp hG).kp fx rfl hX), hG⟩)

theorem ay_kept (a : Nat → Int32) : r_api RYs GY 7 (lw_mY 28) (lw_av 28 a) (G9_kept a) := by
  intro M σ Q h kk
  have hh := h
  obtain ⟨hS, hTr, hTp, hFt, hFr, hSp, hNt, hTh, hLv, hY, hG⟩ := h
  show Ca 7 mt_X12_kept 0 0 [.ref 0, .int (a 1), .int (a 2)] GY M Q
  have hg := hG _ (Nat.le_refl _)
  have hy0 := Y_bk_tm hY.2.1
  exact c_X12_kept hy0 hg.1 hg.2.1 (fun M' fx hs => kk M' ⟨hs, ((Y_tr_dp _).kp fx rfl hTr), ((Y_tp_dp _).kp fx rfl hTp), ((Y_ft_dp _).kp fx rfl hFt), ((Y_fr_dp _).kp fx rfl hFr), ((Y_sp_dp _).kp fx rfl hSp), ((Y_nt_dp _).kp fx rfl hNt), ((Y_th_dp _).kp fx rfl hTh), ((Y_lv_dp _).kp fx rfl hLv), ((Y_st_dp hG).kp fx rfl hY), hG⟩)

noncomputable def G9_bestKept (a : Nat → Int32) (σ : Sg9) : Value × Sg9 := (.int (g_bestKept (σ.2.2.2.2.2.2.2.2.2.2.1 σ.2.2.2.2.2.2.2.2.2.1) ((a 1))).1, (nI (g_bestKept (σ.2.2.2.2.2.2.2.2.2.2.1 σ.2.2.2.2.2.2.2.2.2.1) ((a 1))).2, σ.2.1, σ.2.2.1, σ.2.2.2.1, σ.2.2.2.2.1, σ.2.2.2.2.2.1, σ.2.2.2.2.2.2.1, σ.2.2.2.2.2.2.2.1, σ.2.2.2.2.2.2.2.2.1, σ.2.2.2.2.2.2.2.2.2))

theorem ax_bestKept (a : Nat → Int32) : r_api RXs GX 6 (lw_mX 29) (lw_av 29 a) (G9_bestKept a) := by
  intro M σ Q h kk
  have hh := h
  obtain ⟨hS, hTr, hTp, hRg, hFt, hFr, hSp, hNt, hTh, hLv, hRs, hAl, hX, hG⟩ := h
  show Ca 6 mt_X11_bestKept 0 0 [.ref 0, .int (a 1)] GX M Q
  obtain ⟨tw, lw, pl, hX9⟩ := hX
  have hX : X_sx σ.2.2.2.2.2.2.2.2.2.1 σ.2.2.2.2.2.2.2.2.2.2.1 σ.2.2.2.2.2.2.2.2.2.2.2.1 M := ⟨tw, lw, pl, hX9⟩
  have hcu := (X_st_cu hX9).1
  have hlv := (X_st_cu hX9).2
  have hg := hG _ (Nat.le_refl _)
  exact c_X11_bestKept hcu hlv.1 hlv.2.2.2.1 hg.1 hg.2.1 hAl (fun M' fx hs => kk M' ⟨hs, ((X_tr_dp _).kp fx rfl hTr), ((X_tp_dp _).kp fx rfl hTp), hRg, ((X_ft_dp _).kp fx rfl hFt), ((X_fr_dp _).kp fx rfl hFr), ((X_sp_dp _).kp fx rfl hSp), ((X_nt_dp _).kp fx rfl hNt), ((X_th_dp _).kp fx rfl hTh), ((X_lv_dp _).kp fx rfl hLv), ((X_rs_dp).kp fx rfl hRs), ((X_hal_dp).kp fx rfl hAl), ((X_sx_dp hG).kp fx rfl hX), hG⟩)

theorem ay_bestKept (a : Nat → Int32) : r_api RYs GY 6 (lw_mY 29) (lw_av 29 a) (G9_bestKept a) := by
  intro M σ Q h kk
  have hh := h
  obtain ⟨hS, hTr, hTp, hFt, hFr, hSp, hNt, hTh, hLv, hY, hG⟩ := h
  show Ca 6 mt_X12_bestKept 0 0 [.ref 0, .int (a 1)] GY M Q
  have hg := hG _ (Nat.le_refl _)
  have hy0 := Y_bk_tm hY.2.1
  exact c_X12_bestKept hy0 hg.1 hg.2.1 (fun M' fx hs => kk M' ⟨hs, ((Y_tr_dp _).kp fx rfl hTr), ((Y_tp_dp _).kp fx rfl hTp), ((Y_ft_dp _).kp fx rfl hFt), ((Y_fr_dp _).kp fx rfl hFr), ((Y_sp_dp _).kp fx rfl hSp), ((Y_nt_dp _).kp fx rfl hNt), ((Y_th_dp _).kp fx rfl hTh), ((Y_lv_dp _).kp fx rfl hLv), ((Y_st_dp hG).kp fx rfl hY), hG⟩)

noncomputable def G9_more (a : Nat → Int32) (σ : Sg9) : Value × Sg9 := (.int (g_more (σ.2.2.2.2.2.2.2.2.2.2.1 σ.2.2.2.2.2.2.2.2.2.1) ((a 1)) ((a 2))).1, (nI (g_more (σ.2.2.2.2.2.2.2.2.2.2.1 σ.2.2.2.2.2.2.2.2.2.1) ((a 1)) ((a 2))).2, σ.2.1, σ.2.2.1, σ.2.2.2.1, σ.2.2.2.2.1, σ.2.2.2.2.2.1, σ.2.2.2.2.2.2.1, σ.2.2.2.2.2.2.2.1, σ.2.2.2.2.2.2.2.2.1, σ.2.2.2.2.2.2.2.2.2))

theorem ax_more (a : Nat → Int32) : r_api RXs GX 6 (lw_mX 30) (lw_av 30 a) (G9_more a) := by
  intro M σ Q h kk
  have hh := h
  obtain ⟨hS, hTr, hTp, hRg, hFt, hFr, hSp, hNt, hTh, hLv, hRs, hAl, hX, hG⟩ := h
  show Ca 6 mt_X11_more 0 0 [.ref 0, .int (a 1), .int (a 2)] GX M Q
  obtain ⟨tw, lw, pl, hX9⟩ := hX
  have hX : X_sx σ.2.2.2.2.2.2.2.2.2.1 σ.2.2.2.2.2.2.2.2.2.2.1 σ.2.2.2.2.2.2.2.2.2.2.2.1 M := ⟨tw, lw, pl, hX9⟩
  have hcu := (X_st_cu hX9).1
  have hlv := (X_st_cu hX9).2
  have hg := hG _ (Nat.le_refl _)
  exact c_X11_more hcu hlv.1 hlv.2.2.2.1 hg.1 hg.2.1 hAl (fun M' fx hs ha => kk M' ⟨hs, ((X_tr_dp _).kp fx rfl hTr), ((X_tp_dp _).kp fx rfl hTp), hRg, ((X_ft_dp _).kp fx rfl hFt), ((X_fr_dp _).kp fx rfl hFr), ((X_sp_dp _).kp fx rfl hSp), ((X_nt_dp _).kp fx rfl hNt), ((X_th_dp _).kp fx rfl hTh), ((X_lv_dp _).kp fx rfl hLv), ((X_rs_dp).kp fx rfl hRs), ha, ((X_sx_dp hG).kp fx rfl hX), hG⟩)

theorem ay_more (a : Nat → Int32) : r_api RYs GY 7 (lw_mY 30) (lw_av 30 a) (G9_more a) := by
  intro M σ Q h kk
  have hh := h
  obtain ⟨hS, hTr, hTp, hFt, hFr, hSp, hNt, hTh, hLv, hY, hG⟩ := h
  show Ca 7 mt_X12_more 0 0 [.ref 0, .int (a 1), .int (a 2)] GY M Q
  have hg := hG _ (Nat.le_refl _)
  have hy0 := Y_bk_tm hY.2.1
  exact c_X12_more hy0 hg.1 hg.2.1 (fun M' fx hs => kk M' ⟨hs, ((Y_tr_dp _).kp fx rfl hTr), ((Y_tp_dp _).kp fx rfl hTp), ((Y_ft_dp _).kp fx rfl hFt), ((Y_fr_dp _).kp fx rfl hFr), ((Y_sp_dp _).kp fx rfl hSp), ((Y_nt_dp _).kp fx rfl hNt), ((Y_th_dp _).kp fx rfl hTh), ((Y_lv_dp _).kp fx rfl hLv), ((Y_st_dp hG).kp fx rfl hY), hG⟩)

noncomputable def G9_bestMore (a : Nat → Int32) (σ : Sg9) : Value × Sg9 := (.int (g_bestMore (σ.2.2.2.2.2.2.2.2.2.2.1 σ.2.2.2.2.2.2.2.2.2.1) ((a 1))).1, (nI (g_bestMore (σ.2.2.2.2.2.2.2.2.2.2.1 σ.2.2.2.2.2.2.2.2.2.1) ((a 1))).2, σ.2.1, σ.2.2.1, σ.2.2.2.1, σ.2.2.2.2.1, σ.2.2.2.2.2.1, σ.2.2.2.2.2.2.1, σ.2.2.2.2.2.2.2.1, σ.2.2.2.2.2.2.2.2.1, σ.2.2.2.2.2.2.2.2.2))

theorem ax_bestMore (a : Nat → Int32) : r_api RXs GX 6 (lw_mX 31) (lw_av 31 a) (G9_bestMore a) := by
  intro M σ Q h kk
  have hh := h
  obtain ⟨hS, hTr, hTp, hRg, hFt, hFr, hSp, hNt, hTh, hLv, hRs, hAl, hX, hG⟩ := h
  show Ca 6 mt_X11_bestMore 0 0 [.ref 0, .int (a 1)] GX M Q
  obtain ⟨tw, lw, pl, hX9⟩ := hX
  have hX : X_sx σ.2.2.2.2.2.2.2.2.2.1 σ.2.2.2.2.2.2.2.2.2.2.1 σ.2.2.2.2.2.2.2.2.2.2.2.1 M := ⟨tw, lw, pl, hX9⟩
  have hcu := (X_st_cu hX9).1
  have hlv := (X_st_cu hX9).2
  have hg := hG _ (Nat.le_refl _)
  exact c_X11_bestMore hcu hlv.1 hlv.2.2.2.1 hg.1 hg.2.1 hAl (fun M' fx hs ha => kk M' ⟨hs, ((X_tr_dp _).kp fx rfl hTr), ((X_tp_dp _).kp fx rfl hTp), hRg, ((X_ft_dp _).kp fx rfl hFt), ((X_fr_dp _).kp fx rfl hFr), ((X_sp_dp _).kp fx rfl hSp), ((X_nt_dp _).kp fx rfl hNt), ((X_th_dp _).kp fx rfl hTh), ((X_lv_dp _).kp fx rfl hLv), ((X_rs_dp).kp fx rfl hRs), ha, ((X_sx_dp hG).kp fx rfl hX), hG⟩)

theorem ay_bestMore (a : Nat → Int32) : r_api RYs GY 7 (lw_mY 31) (lw_av 31 a) (G9_bestMore a) := by
  intro M σ Q h kk
  have hh := h
  obtain ⟨hS, hTr, hTp, hFt, hFr, hSp, hNt, hTh, hLv, hY, hG⟩ := h
  show Ca 7 mt_X12_bestMore 0 0 [.ref 0, .int (a 1)] GY M Q
  have hg := hG _ (Nat.le_refl _)
  have hy0 := Y_bk_tm hY.2.1
  exact c_X12_bestMore hy0 hg.1 hg.2.1 (fun M' fx hs => kk M' ⟨hs, ((Y_tr_dp _).kp fx rfl hTr), ((Y_tp_dp _).kp fx rfl hTp), ((Y_ft_dp _).kp fx rfl hFt), ((Y_fr_dp _).kp fx rfl hFr), ((Y_sp_dp _).kp fx rfl hSp), ((Y_nt_dp _).kp fx rfl hNt), ((Y_th_dp _).kp fx rfl hTh), ((Y_lv_dp _).kp fx rfl hLv), ((Y_st_dp hG).kp fx rfl hY), hG⟩)

noncomputable def G9_day (a : Nat → Int32) (σ : Sg9) : Value × Sg9 := (.int (g_day (σ.2.2.2.2.2.2.2.2.2.2.1 σ.2.2.2.2.2.2.2.2.2.1) ((a 1)) ((a 2))).1, (nI (g_day (σ.2.2.2.2.2.2.2.2.2.2.1 σ.2.2.2.2.2.2.2.2.2.1) ((a 1)) ((a 2))).2, σ.2.1, σ.2.2.1, σ.2.2.2.1, σ.2.2.2.2.1, f_daySp (σ.2.2.2.2.2.2.2.2.2.2.1 σ.2.2.2.2.2.2.2.2.2.1) ((a 1)) ((a 2)) σ.2.2.2.2.2.1, σ.2.2.2.2.2.2.1, σ.2.2.2.2.2.2.2.1, σ.2.2.2.2.2.2.2.2.1, σ.2.2.2.2.2.2.2.2.2))

theorem ax_day (a : Nat → Int32) : r_api RXs GX 6 (lw_mX 22) (lw_av 22 a) (G9_day a) := by
  intro M σ Q h kk
  have hh := h
  obtain ⟨hS, hTr, hTp, hRg, hFt, hFr, hSp, hNt, hTh, hLv, hRs, hAl, hX, hG⟩ := h
  show Ca 6 mt_X11_day 0 0 [.ref 0, .int (a 1), .int (a 2)] GX M Q
  obtain ⟨tw, lw, pl, hX9⟩ := hX
  have hX : X_sx σ.2.2.2.2.2.2.2.2.2.1 σ.2.2.2.2.2.2.2.2.2.2.1 σ.2.2.2.2.2.2.2.2.2.2.2.1 M := ⟨tw, lw, pl, hX9⟩
  have hcu := (X_st_cu hX9).1
  have hlv := (X_st_cu hX9).2
  have hg := hG _ (Nat.le_refl _)
  exact c_X11_day hSp hcu hlv.1 hlv.2.2.2.1 hg.1 hg.2.1 hAl (fun M' fx hs hp => kk M' ⟨hs, ((X_tr_dp _).kp fx rfl hTr), ((X_tp_dp _).kp fx rfl hTp), hRg, ((X_ft_dp _).kp fx rfl hFt), ((X_fr_dp _).kp fx rfl hFr), hp, ((X_nt_dp _).kp fx rfl hNt), ((X_th_dp _).kp fx rfl hTh), ((X_lv_dp _).kp fx rfl hLv), ((X_rs_dp).kp fx rfl hRs), ((X_hal_dp).kp fx rfl hAl), ((X_sx_dp hG).kp fx rfl hX), hG⟩)

theorem ay_day (a : Nat → Int32) : r_api RYs GY 5 (lw_mY 22) (lw_av 22 a) (G9_day a) := by
  intro M σ Q h kk
  have hh := h
  obtain ⟨hS, hTr, hTp, hFt, hFr, hSp, hNt, hTh, hLv, hY, hG⟩ := h
  show Ca 5 mt_X12_day 0 0 [.ref 0, .int (a 1), .int (a 2)] GY M Q
  have hg := hG _ (Nat.le_refl _)
  have hy0 := Y_bk_tm hY.2.1
  exact c_X12_day hy0 hg.1 hSp (fun M' fx hs hp => kk M' ⟨hs, ((Y_tr_dp _).kp fx rfl hTr), ((Y_tp_dp _).kp fx rfl hTp), ((Y_ft_dp _).kp fx rfl hFt), ((Y_fr_dp _).kp fx rfl hFr), hp, ((Y_nt_dp _).kp fx rfl hNt), ((Y_th_dp _).kp fx rfl hTh), ((Y_lv_dp _).kp fx rfl hLv), ((Y_st_dp hG).kp fx rfl hY), hG⟩)

noncomputable def G9_days (a : Nat → Int32) (σ : Sg9) : Value × Sg9 := (.int (g_days (σ.2.2.2.2.2.2.2.2.2.2.1 σ.2.2.2.2.2.2.2.2.2.1) ((a 1)) ((a 2)) ((a 3))).1, (nI (g_days (σ.2.2.2.2.2.2.2.2.2.2.1 σ.2.2.2.2.2.2.2.2.2.1) ((a 1)) ((a 2)) ((a 3))).2, σ.2.1, σ.2.2.1, σ.2.2.2.1, σ.2.2.2.2.1, (f_days (σ.2.2.2.2.2.2.2.2.2.2.1 σ.2.2.2.2.2.2.2.2.2.1) ((a 1)) ((a 2)) ((a 3)) (σ.2.2.2.2.2.1, σ.2.2.2.2.2.2.1)).1, (f_days (σ.2.2.2.2.2.2.2.2.2.2.1 σ.2.2.2.2.2.2.2.2.2.1) ((a 1)) ((a 2)) ((a 3)) (σ.2.2.2.2.2.1, σ.2.2.2.2.2.2.1)).2, σ.2.2.2.2.2.2.2.1, σ.2.2.2.2.2.2.2.2.1, σ.2.2.2.2.2.2.2.2.2))

theorem ax_days (a : Nat → Int32) : r_api RXs GX 6 (lw_mX 23) (lw_av 23 a) (G9_days a) := by
  intro M σ Q h kk
  have hh := h
  obtain ⟨hS, hTr, hTp, hRg, hFt, hFr, hSp, hNt, hTh, hLv, hRs, hAl, hX, hG⟩ := h
  show Ca 6 mt_X11_days 0 0 [.ref 0, .int (a 1), .int (a 2), .int (a 3)] GX M Q
  obtain ⟨tw, lw, pl, hX9⟩ := hX
  have hX : X_sx σ.2.2.2.2.2.2.2.2.2.1 σ.2.2.2.2.2.2.2.2.2.2.1 σ.2.2.2.2.2.2.2.2.2.2.2.1 M := ⟨tw, lw, pl, hX9⟩
  have hcu := (X_st_cu hX9).1
  have hlv := (X_st_cu hX9).2
  have hg := hG _ (Nat.le_refl _)
  exact c_X11_days (x := (σ.2.2.2.2.2.1, σ.2.2.2.2.2.2.1)) ⟨hSp, hNt⟩ hcu hlv.1 hlv.2.2.2.1 hg.1 hg.2.1 hAl (fun M' fx hs hp => kk M' ⟨hs, ((X_tr_dp _).kp fx rfl hTr), ((X_tp_dp _).kp fx rfl hTp), hRg, ((X_ft_dp _).kp fx rfl hFt), ((X_fr_dp _).kp fx rfl hFr), hp.1, hp.2, ((X_th_dp _).kp fx rfl hTh), ((X_lv_dp _).kp fx rfl hLv), ((X_rs_dp).kp fx rfl hRs), ((X_hal_dp).kp fx rfl hAl), ((X_sx_dp hG).kp fx rfl hX), hG⟩)

theorem ay_days (a : Nat → Int32) : r_api RYs GY 6 (lw_mY 23) (lw_av 23 a) (G9_days a) := by
  intro M σ Q h kk
  have hh := h
  obtain ⟨hS, hTr, hTp, hFt, hFr, hSp, hNt, hTh, hLv, hY, hG⟩ := h
  show Ca 6 mt_X12_days 0 0 [.ref 0, .int (a 1), .int (a 2), .int (a 3)] GY M Q
  have hg := hG _ (Nat.le_refl _)
  have hy0 := Y_bk_tm hY.2.1
  exact c_X12_days (x := (σ.2.2.2.2.2.1, σ.2.2.2.2.2.2.1)) hy0 hg.1 hg.2.1 ⟨hSp, hNt⟩ (fun M' fx hs hp => kk M' ⟨hs, ((Y_tr_dp _).kp fx rfl hTr), ((Y_tp_dp _).kp fx rfl hTp), ((Y_ft_dp _).kp fx rfl hFt), ((Y_fr_dp _).kp fx rfl hFr), hp.1, hp.2, ((Y_th_dp _).kp fx rfl hTh), ((Y_lv_dp _).kp fx rfl hLv), ((Y_st_dp hG).kp fx rfl hY), hG⟩)

noncomputable def G9_step (a : Nat → Int32) (σ : Sg9) : Value × Sg9 := (.int (f_sg σ.2.2.2.2.2.1.1 σ.2.2.2.2.2.1.2.1 (a 1)).1, (nI (f_sg σ.2.2.2.2.2.1.1 σ.2.2.2.2.2.1.2.1 (a 1)).2, σ.2.1, σ.2.2.1, σ.2.2.2.1, σ.2.2.2.2.1, σ.2.2.2.2.2.1, σ.2.2.2.2.2.2.1, σ.2.2.2.2.2.2.2.1, σ.2.2.2.2.2.2.2.2.1, σ.2.2.2.2.2.2.2.2.2))

theorem ax_step (a : Nat → Int32) : r_api RXs GX 1 (lw_mX 24) (lw_av 24 a) (G9_step a) := by
  intro M σ Q h kk
  have hh := h
  obtain ⟨hS, hTr, hTp, hRg, hFt, hFr, hSp, hNt, hTh, hLv, hRs, hAl, hX, hG⟩ := h
  show Ca 1 mt_X11_step 0 0 [.ref 0, .int (a 1)] GX M Q
  exact c_X11_step hSp (fun M' fx hs => kk M' ⟨hs, ((X_tr_dp _).kp fx rfl hTr), ((X_tp_dp _).kp fx rfl hTp), hRg, ((X_ft_dp _).kp fx rfl hFt), ((X_fr_dp _).kp fx rfl hFr), ((X_sp_dp _).kp fx rfl hSp), ((X_nt_dp _).kp fx rfl hNt), ((X_th_dp _).kp fx rfl hTh), ((X_lv_dp _).kp fx rfl hLv), ((X_rs_dp).kp fx rfl hRs), ((X_hal_dp).kp fx rfl hAl), ((X_sx_dp hG).kp fx rfl hX), hG⟩)

theorem ay_step (a : Nat → Int32) : r_api RYs GY 1 (lw_mY 24) (lw_av 24 a) (G9_step a) := by
  intro M σ Q h kk
  have hh := h
  obtain ⟨hS, hTr, hTp, hFt, hFr, hSp, hNt, hTh, hLv, hY, hG⟩ := h
  show Ca 1 mt_X12_step 0 0 [.ref 0, .int (a 1)] GY M Q
  exact c_X12_step hSp (fun M' fx hs => kk M' ⟨hs, ((Y_tr_dp _).kp fx rfl hTr), ((Y_tp_dp _).kp fx rfl hTp), ((Y_ft_dp _).kp fx rfl hFt), ((Y_fr_dp _).kp fx rfl hFr), ((Y_sp_dp _).kp fx rfl hSp), ((Y_nt_dp _).kp fx rfl hNt), ((Y_th_dp _).kp fx rfl hTh), ((Y_lv_dp _).kp fx rfl hLv), ((Y_st_dp hG).kp fx rfl hY), hG⟩)

noncomputable def G9_stepTime (a : Nat → Int32) (σ : Sg9) : Value × Sg9 := (.int (f_sg σ.2.2.2.2.2.1.1 σ.2.2.2.2.2.1.2.2 (a 1)).1, (nI (f_sg σ.2.2.2.2.2.1.1 σ.2.2.2.2.2.1.2.2 (a 1)).2, σ.2.1, σ.2.2.1, σ.2.2.2.1, σ.2.2.2.2.1, σ.2.2.2.2.2.1, σ.2.2.2.2.2.2.1, σ.2.2.2.2.2.2.2.1, σ.2.2.2.2.2.2.2.2.1, σ.2.2.2.2.2.2.2.2.2))

theorem ax_stepTime (a : Nat → Int32) : r_api RXs GX 1 (lw_mX 25) (lw_av 25 a) (G9_stepTime a) := by
  intro M σ Q h kk
  have hh := h
  obtain ⟨hS, hTr, hTp, hRg, hFt, hFr, hSp, hNt, hTh, hLv, hRs, hAl, hX, hG⟩ := h
  show Ca 1 mt_X11_stepTime 0 0 [.ref 0, .int (a 1)] GX M Q
  exact c_X11_stepTime hSp (fun M' fx hs => kk M' ⟨hs, ((X_tr_dp _).kp fx rfl hTr), ((X_tp_dp _).kp fx rfl hTp), hRg, ((X_ft_dp _).kp fx rfl hFt), ((X_fr_dp _).kp fx rfl hFr), ((X_sp_dp _).kp fx rfl hSp), ((X_nt_dp _).kp fx rfl hNt), ((X_th_dp _).kp fx rfl hTh), ((X_lv_dp _).kp fx rfl hLv), ((X_rs_dp).kp fx rfl hRs), ((X_hal_dp).kp fx rfl hAl), ((X_sx_dp hG).kp fx rfl hX), hG⟩)

theorem ay_stepTime (a : Nat → Int32) : r_api RYs GY 1 (lw_mY 25) (lw_av 25 a) (G9_stepTime a) := by
  intro M σ Q h kk
  have hh := h
  obtain ⟨hS, hTr, hTp, hFt, hFr, hSp, hNt, hTh, hLv, hY, hG⟩ := h
  show Ca 1 mt_X12_stepTime 0 0 [.ref 0, .int (a 1)] GY M Q
  exact c_X12_stepTime hSp (fun M' fx hs => kk M' ⟨hs, ((Y_tr_dp _).kp fx rfl hTr), ((Y_tp_dp _).kp fx rfl hTp), ((Y_ft_dp _).kp fx rfl hFt), ((Y_fr_dp _).kp fx rfl hFr), ((Y_sp_dp _).kp fx rfl hSp), ((Y_nt_dp _).kp fx rfl hNt), ((Y_th_dp _).kp fx rfl hTh), ((Y_lv_dp _).kp fx rfl hLv), ((Y_st_dp hG).kp fx rfl hY), hG⟩)

noncomputable def G9_firstNight (a : Nat → Int32) (σ : Sg9) : Value × Sg9 := (.int (f_ng 4 σ.2.2.2.2.2.2.1.1 σ.2.2.2.2.2.2.1.2 (a 1)).1, (nI (f_ng 4 σ.2.2.2.2.2.2.1.1 σ.2.2.2.2.2.2.1.2 (a 1)).2, σ.2.1, σ.2.2.1, σ.2.2.2.1, σ.2.2.2.2.1, σ.2.2.2.2.2.1, σ.2.2.2.2.2.2.1, σ.2.2.2.2.2.2.2.1, σ.2.2.2.2.2.2.2.2.1, σ.2.2.2.2.2.2.2.2.2))

theorem ax_firstNight (a : Nat → Int32) : r_api RXs GX 1 (lw_mX 26) (lw_av 26 a) (G9_firstNight a) := by
  intro M σ Q h kk
  have hh := h
  obtain ⟨hS, hTr, hTp, hRg, hFt, hFr, hSp, hNt, hTh, hLv, hRs, hAl, hX, hG⟩ := h
  show Ca 1 mt_X11_firstNight 0 0 [.ref 0, .int (a 1)] GX M Q
  exact c_X11_firstNight hNt (fun M' fx hs => kk M' ⟨hs, ((X_tr_dp _).kp fx rfl hTr), ((X_tp_dp _).kp fx rfl hTp), hRg, ((X_ft_dp _).kp fx rfl hFt), ((X_fr_dp _).kp fx rfl hFr), ((X_sp_dp _).kp fx rfl hSp), ((X_nt_dp _).kp fx rfl hNt), ((X_th_dp _).kp fx rfl hTh), ((X_lv_dp _).kp fx rfl hLv), ((X_rs_dp).kp fx rfl hRs), ((X_hal_dp).kp fx rfl hAl), ((X_sx_dp hG).kp fx rfl hX), hG⟩)

theorem ay_firstNight (a : Nat → Int32) : r_api RYs GY 1 (lw_mY 26) (lw_av 26 a) (G9_firstNight a) := by
  intro M σ Q h kk
  have hh := h
  obtain ⟨hS, hTr, hTp, hFt, hFr, hSp, hNt, hTh, hLv, hY, hG⟩ := h
  show Ca 1 mt_X12_firstNight 0 0 [.ref 0, .int (a 1)] GY M Q
  exact c_X12_firstNight hNt (fun M' fx hs => kk M' ⟨hs, ((Y_tr_dp _).kp fx rfl hTr), ((Y_tp_dp _).kp fx rfl hTp), ((Y_ft_dp _).kp fx rfl hFt), ((Y_fr_dp _).kp fx rfl hFr), ((Y_sp_dp _).kp fx rfl hSp), ((Y_nt_dp _).kp fx rfl hNt), ((Y_th_dp _).kp fx rfl hTh), ((Y_lv_dp _).kp fx rfl hLv), ((Y_st_dp hG).kp fx rfl hY), hG⟩)

noncomputable def G9_there (a : Nat → Int32) (σ : Sg9) : Value × Sg9 := (.int (f_ng 26 σ.2.2.2.2.2.2.2.1.1 σ.2.2.2.2.2.2.2.1.2 (a 1)).1, (nI (f_ng 26 σ.2.2.2.2.2.2.2.1.1 σ.2.2.2.2.2.2.2.1.2 (a 1)).2, σ.2.1, σ.2.2.1, σ.2.2.2.1, σ.2.2.2.2.1, σ.2.2.2.2.2.1, σ.2.2.2.2.2.2.1, σ.2.2.2.2.2.2.2.1, σ.2.2.2.2.2.2.2.2.1, σ.2.2.2.2.2.2.2.2.2))

theorem ax_there (a : Nat → Int32) : r_api RXs GX 1 (lw_mX 38) (lw_av 38 a) (G9_there a) := by
  intro M σ Q h kk
  have hh := h
  obtain ⟨hS, hTr, hTp, hRg, hFt, hFr, hSp, hNt, hTh, hLv, hRs, hAl, hX, hG⟩ := h
  show Ca 1 mt_X11_there 0 0 [.ref 0, .int (a 1)] GX M Q
  exact c_X11_there hTh (fun M' fx hs => kk M' ⟨hs, ((X_tr_dp _).kp fx rfl hTr), ((X_tp_dp _).kp fx rfl hTp), hRg, ((X_ft_dp _).kp fx rfl hFt), ((X_fr_dp _).kp fx rfl hFr), ((X_sp_dp _).kp fx rfl hSp), ((X_nt_dp _).kp fx rfl hNt), ((X_th_dp _).kp fx rfl hTh), ((X_lv_dp _).kp fx rfl hLv), ((X_rs_dp).kp fx rfl hRs), ((X_hal_dp).kp fx rfl hAl), ((X_sx_dp hG).kp fx rfl hX), hG⟩)

theorem ay_there (a : Nat → Int32) : r_api RYs GY 1 (lw_mY 38) (lw_av 38 a) (G9_there a) := by
  intro M σ Q h kk
  have hh := h
  obtain ⟨hS, hTr, hTp, hFt, hFr, hSp, hNt, hTh, hLv, hY, hG⟩ := h
  show Ca 1 mt_X12_there 0 0 [.ref 0, .int (a 1)] GY M Q
  exact c_X12_there hTh (fun M' fx hs => kk M' ⟨hs, ((Y_tr_dp _).kp fx rfl hTr), ((Y_tp_dp _).kp fx rfl hTp), ((Y_ft_dp _).kp fx rfl hFt), ((Y_fr_dp _).kp fx rfl hFr), ((Y_sp_dp _).kp fx rfl hSp), ((Y_nt_dp _).kp fx rfl hNt), ((Y_th_dp _).kp fx rfl hTh), ((Y_lv_dp _).kp fx rfl hLv), ((Y_st_dp hG).kp fx rfl hY), hG⟩)

noncomputable def G9_lived (a : Nat → Int32) (σ : Sg9) : Value × Sg9 := (.int (f_ng 4 σ.2.2.2.2.2.2.2.2.1.1 σ.2.2.2.2.2.2.2.2.1.2 (a 1)).1, (nI (f_ng 4 σ.2.2.2.2.2.2.2.2.1.1 σ.2.2.2.2.2.2.2.2.1.2 (a 1)).2, σ.2.1, σ.2.2.1, σ.2.2.2.1, σ.2.2.2.2.1, σ.2.2.2.2.2.1, σ.2.2.2.2.2.2.1, σ.2.2.2.2.2.2.2.1, σ.2.2.2.2.2.2.2.2.1, σ.2.2.2.2.2.2.2.2.2))

theorem ax_lived (a : Nat → Int32) : r_api RXs GX 1 (lw_mX 41) (lw_av 41 a) (G9_lived a) := by
  intro M σ Q h kk
  have hh := h
  obtain ⟨hS, hTr, hTp, hRg, hFt, hFr, hSp, hNt, hTh, hLv, hRs, hAl, hX, hG⟩ := h
  show Ca 1 mt_X11_lived 0 0 [.ref 0, .int (a 1)] GX M Q
  exact c_X11_lived hLv (fun M' fx hs => kk M' ⟨hs, ((X_tr_dp _).kp fx rfl hTr), ((X_tp_dp _).kp fx rfl hTp), hRg, ((X_ft_dp _).kp fx rfl hFt), ((X_fr_dp _).kp fx rfl hFr), ((X_sp_dp _).kp fx rfl hSp), ((X_nt_dp _).kp fx rfl hNt), ((X_th_dp _).kp fx rfl hTh), ((X_lv_dp _).kp fx rfl hLv), ((X_rs_dp).kp fx rfl hRs), ((X_hal_dp).kp fx rfl hAl), ((X_sx_dp hG).kp fx rfl hX), hG⟩)

theorem ay_lived (a : Nat → Int32) : r_api RYs GY 1 (lw_mY 41) (lw_av 41 a) (G9_lived a) := by
  intro M σ Q h kk
  have hh := h
  obtain ⟨hS, hTr, hTp, hFt, hFr, hSp, hNt, hTh, hLv, hY, hG⟩ := h
  show Ca 1 mt_X12_lived 0 0 [.ref 0, .int (a 1)] GY M Q
  exact c_X12_lived hLv (fun M' fx hs => kk M' ⟨hs, ((Y_tr_dp _).kp fx rfl hTr), ((Y_tp_dp _).kp fx rfl hTp), ((Y_ft_dp _).kp fx rfl hFt), ((Y_fr_dp _).kp fx rfl hFr), ((Y_sp_dp _).kp fx rfl hSp), ((Y_nt_dp _).kp fx rfl hNt), ((Y_th_dp _).kp fx rfl hTh), ((Y_lv_dp _).kp fx rfl hLv), ((Y_st_dp hG).kp fx rfl hY), hG⟩)

noncomputable def G9_west (a : Nat → Int32) (σ : Sg9) : Value × Sg9 := (.int (r_b (f_west ((a 1)) ((a 2)) ((a 3)) σ.2.2.2.2.1).1), (nI (f_west ((a 1)) ((a 2)) ((a 3)) σ.2.2.2.2.1).2.1, σ.2.1, σ.2.2.1, σ.2.2.2.1, (f_west ((a 1)) ((a 2)) ((a 3)) σ.2.2.2.2.1).2.2, σ.2.2.2.2.2.1, σ.2.2.2.2.2.2.1, σ.2.2.2.2.2.2.2.1, σ.2.2.2.2.2.2.2.2.1, σ.2.2.2.2.2.2.2.2.2))

theorem ax_west (a : Nat → Int32) : r_api RXs GX 1 (lw_mX 33) (lw_av 33 a) (G9_west a) := by
  intro M σ Q h kk
  have hh := h
  obtain ⟨hS, hTr, hTp, hRg, hFt, hFr, hSp, hNt, hTh, hLv, hRs, hAl, hX, hG⟩ := h
  show Ca 1 mt_X11_west 0 0 [.ref 0, .int (a 1), .int (a 2), .int (a 3)] GX M Q
  exact c_X11_west hFr (fun M' fx hs hf => kk M' ⟨hs, ((X_tr_dp _).kp fx rfl hTr), ((X_tp_dp _).kp fx rfl hTp), hRg, ((X_ft_dp _).kp fx rfl hFt), hf, ((X_sp_dp _).kp fx rfl hSp), ((X_nt_dp _).kp fx rfl hNt), ((X_th_dp _).kp fx rfl hTh), ((X_lv_dp _).kp fx rfl hLv), ((X_rs_dp).kp fx rfl hRs), ((X_hal_dp).kp fx rfl hAl), ((X_sx_dp hG).kp fx rfl hX), hG⟩)

theorem ay_west (a : Nat → Int32) : r_api RYs GY 2 (lw_mY 33) (lw_av 33 a) (G9_west a) := by
  intro M σ Q h kk
  have hh := h
  obtain ⟨hS, hTr, hTp, hFt, hFr, hSp, hNt, hTh, hLv, hY, hG⟩ := h
  show Ca 2 mt_X12_west 0 0 [.ref 0, .int (a 1), .int (a 2), .int (a 3)] GY M Q
  exact c_X12_west hFr (fun M' fx hs hf => kk M' ⟨hs, ((Y_tr_dp _).kp fx rfl hTr), ((Y_tp_dp _).kp fx rfl hTp), ((Y_ft_dp _).kp fx rfl hFt), hf, ((Y_sp_dp _).kp fx rfl hSp), ((Y_nt_dp _).kp fx rfl hNt), ((Y_th_dp _).kp fx rfl hTh), ((Y_lv_dp _).kp fx rfl hLv), ((Y_st_dp hG).kp fx rfl hY), hG⟩)

noncomputable def G9_speed (a : Nat → Int32) (σ : Sg9) : Value × Sg9 := (.int (r_b (f_speed ((a 1)) ((a 2)) σ.2.2.2.2.1).1), (nI (f_speed ((a 1)) ((a 2)) σ.2.2.2.2.1).2.1, σ.2.1, σ.2.2.1, σ.2.2.2.1, (f_speed ((a 1)) ((a 2)) σ.2.2.2.2.1).2.2, σ.2.2.2.2.2.1, σ.2.2.2.2.2.2.1, σ.2.2.2.2.2.2.2.1, σ.2.2.2.2.2.2.2.2.1, σ.2.2.2.2.2.2.2.2.2))

theorem ax_speed (a : Nat → Int32) : r_api RXs GX 1 (lw_mX 34) (lw_av 34 a) (G9_speed a) := by
  intro M σ Q h kk
  have hh := h
  obtain ⟨hS, hTr, hTp, hRg, hFt, hFr, hSp, hNt, hTh, hLv, hRs, hAl, hX, hG⟩ := h
  show Ca 1 mt_X11_speed 0 0 [.ref 0, .int (a 1), .int (a 2)] GX M Q
  exact c_X11_speed hFr (fun M' fx hs hf => kk M' ⟨hs, ((X_tr_dp _).kp fx rfl hTr), ((X_tp_dp _).kp fx rfl hTp), hRg, ((X_ft_dp _).kp fx rfl hFt), hf, ((X_sp_dp _).kp fx rfl hSp), ((X_nt_dp _).kp fx rfl hNt), ((X_th_dp _).kp fx rfl hTh), ((X_lv_dp _).kp fx rfl hLv), ((X_rs_dp).kp fx rfl hRs), ((X_hal_dp).kp fx rfl hAl), ((X_sx_dp hG).kp fx rfl hX), hG⟩)

theorem ay_speed (a : Nat → Int32) : r_api RYs GY 2 (lw_mY 34) (lw_av 34 a) (G9_speed a) := by
  intro M σ Q h kk
  have hh := h
  obtain ⟨hS, hTr, hTp, hFt, hFr, hSp, hNt, hTh, hLv, hY, hG⟩ := h
  show Ca 2 mt_X12_speed 0 0 [.ref 0, .int (a 1), .int (a 2)] GY M Q
  exact c_X12_speed hFr (fun M' fx hs hf => kk M' ⟨hs, ((Y_tr_dp _).kp fx rfl hTr), ((Y_tp_dp _).kp fx rfl hTp), ((Y_ft_dp _).kp fx rfl hFt), hf, ((Y_sp_dp _).kp fx rfl hSp), ((Y_nt_dp _).kp fx rfl hNt), ((Y_th_dp _).kp fx rfl hTh), ((Y_lv_dp _).kp fx rfl hLv), ((Y_st_dp hG).kp fx rfl hY), hG⟩)

noncomputable def G9_way (a : Nat → Int32) (σ : Sg9) : Value × Sg9 := (.int (g_way σ.2.1 ((a 1)) ((a 2)) ((a 3))).1, (nI (g_way σ.2.1 ((a 1)) ((a 2)) ((a 3))).2, σ.2.1, σ.2.2.1, σ.2.2.2.1, σ.2.2.2.2.1, σ.2.2.2.2.2.1, σ.2.2.2.2.2.2.1, σ.2.2.2.2.2.2.2.1, σ.2.2.2.2.2.2.2.2.1, σ.2.2.2.2.2.2.2.2.2))

theorem ax_way (a : Nat → Int32) : r_api RXs GX 3 (lw_mX 35) (lw_av 35 a) (G9_way a) := by
  intro M σ Q h kk
  have hh := h
  obtain ⟨hS, hTr, hTp, hRg, hFt, hFr, hSp, hNt, hTh, hLv, hRs, hAl, hX, hG⟩ := h
  show Ca 3 mt_X11_way 0 0 [.ref 0, .int (a 1), .int (a 2), .int (a 3)] GX M Q
  exact c_X11_way hTr (fun M' fx hs => kk M' ⟨hs, ((X_tr_dp _).kp fx rfl hTr), ((X_tp_dp _).kp fx rfl hTp), hRg, ((X_ft_dp _).kp fx rfl hFt), ((X_fr_dp _).kp fx rfl hFr), ((X_sp_dp _).kp fx rfl hSp), ((X_nt_dp _).kp fx rfl hNt), ((X_th_dp _).kp fx rfl hTh), ((X_lv_dp _).kp fx rfl hLv), ((X_rs_dp).kp fx rfl hRs), ((X_hal_dp).kp fx rfl hAl), ((X_sx_dp hG).kp fx rfl hX), hG⟩)

theorem ay_way (a : Nat → Int32) : r_api RYs GY 2 (lw_mY 35) (lw_av 35 a) (G9_way a) := by
  intro M σ Q h kk
  have hh := h
  obtain ⟨hS, hTr, hTp, hFt, hFr, hSp, hNt, hTh, hLv, hY, hG⟩ := h
  show Ca 2 mt_X12_way 0 0 [.ref 0, .int (a 1), .int (a 2), .int (a 3)] GY M Q
  exact c_X12_way hTr (fun M' fx hs => kk M' ⟨hs, ((Y_tr_dp _).kp fx rfl hTr), ((Y_tp_dp _).kp fx rfl hTp), ((Y_ft_dp _).kp fx rfl hFt), ((Y_fr_dp _).kp fx rfl hFr), ((Y_sp_dp _).kp fx rfl hSp), ((Y_nt_dp _).kp fx rfl hNt), ((Y_th_dp _).kp fx rfl hTh), ((Y_lv_dp _).kp fx rfl hLv), ((Y_st_dp hG).kp fx rfl hY), hG⟩)

noncomputable def G9_judged (a : Nat → Int32) (σ : Sg9) : Value × Sg9 := (.int (g_judged (σ.2.2.2.2.2.2.2.2.2.2.1 σ.2.2.2.2.2.2.2.2.2.1) ((a 1))).1, (nI (g_judged (σ.2.2.2.2.2.2.2.2.2.2.1 σ.2.2.2.2.2.2.2.2.2.1) ((a 1))).2, σ.2.1, σ.2.2.1, σ.2.2.2.1, σ.2.2.2.2.1, σ.2.2.2.2.2.1, σ.2.2.2.2.2.2.1, σ.2.2.2.2.2.2.2.1, σ.2.2.2.2.2.2.2.2.1, σ.2.2.2.2.2.2.2.2.2))

theorem ax_judged (a : Nat → Int32) : r_api RXs GX 6 (lw_mX 36) (lw_av 36 a) (G9_judged a) := by
  intro M σ Q h kk
  have hh := h
  obtain ⟨hS, hTr, hTp, hRg, hFt, hFr, hSp, hNt, hTh, hLv, hRs, hAl, hX, hG⟩ := h
  show Ca 6 mt_X11_judged 0 0 [.ref 0, .int (a 1)] GX M Q
  obtain ⟨tw, lw, pl, hX9⟩ := hX
  have hX : X_sx σ.2.2.2.2.2.2.2.2.2.1 σ.2.2.2.2.2.2.2.2.2.2.1 σ.2.2.2.2.2.2.2.2.2.2.2.1 M := ⟨tw, lw, pl, hX9⟩
  have hcu := (X_st_cu hX9).1
  have hlv := (X_st_cu hX9).2
  have hg := hG _ (Nat.le_refl _)
  exact c_X11_judged hcu hlv.1 hlv.2.2.2.1 hg.1 hg.2.1 hg.2.2.1 hg.2.2.2 hlv.2.2.2.2.2.2 (fun M' fx hs => kk M' ⟨hs, ((X_tr_dp _).kp fx rfl hTr), ((X_tp_dp _).kp fx rfl hTp), hRg, ((X_ft_dp _).kp fx rfl hFt), ((X_fr_dp _).kp fx rfl hFr), ((X_sp_dp _).kp fx rfl hSp), ((X_nt_dp _).kp fx rfl hNt), ((X_th_dp _).kp fx rfl hTh), ((X_lv_dp _).kp fx rfl hLv), ((X_rs_dp).kp fx rfl hRs), ((X_hal_dp).kp fx rfl hAl), ((X_sx_dp hG).kp fx rfl hX), hG⟩)

theorem ay_judged (a : Nat → Int32) : r_api RYs GY 6 (lw_mY 36) (lw_av 36 a) (G9_judged a) := by
  intro M σ Q h kk
  have hh := h
  obtain ⟨hS, hTr, hTp, hFt, hFr, hSp, hNt, hTh, hLv, hY, hG⟩ := h
  show Ca 6 mt_X12_judged 0 0 [.ref 0, .int (a 1)] GY M Q
  have hg := hG _ (Nat.le_refl _)
  have hy0 := Y_bk_tm hY.2.1
  exact c_X12_judged hy0 hg.1 hg.2.1 hg.2.2.1 hg.2.2.2 (Y_bk_pj hY.2.1) (fun M' fx hs => kk M' ⟨hs, ((Y_tr_dp _).kp fx rfl hTr), ((Y_tp_dp _).kp fx rfl hTp), ((Y_ft_dp _).kp fx rfl hFt), ((Y_fr_dp _).kp fx rfl hFr), ((Y_sp_dp _).kp fx rfl hSp), ((Y_nt_dp _).kp fx rfl hNt), ((Y_th_dp _).kp fx rfl hTh), ((Y_lv_dp _).kp fx rfl hLv), ((Y_st_dp hG).kp fx rfl hY), hG⟩)

noncomputable def G9_done (a : Nat → Int32) (σ : Sg9) : Value × Sg9 := (.int (g_done (σ.2.2.2.2.2.2.2.2.2.2.1 σ.2.2.2.2.2.2.2.2.2.1) ((a 1)) ((a 2))).1, (nI (g_done (σ.2.2.2.2.2.2.2.2.2.2.1 σ.2.2.2.2.2.2.2.2.2.1) ((a 1)) ((a 2))).2, σ.2.1, σ.2.2.1, σ.2.2.2.1, σ.2.2.2.2.1, σ.2.2.2.2.2.1, σ.2.2.2.2.2.2.1, f_done (σ.2.2.2.2.2.2.2.2.2.2.1 σ.2.2.2.2.2.2.2.2.2.1) ((a 1)) ((a 2)) σ.2.2.2.2.2.2.2.1, σ.2.2.2.2.2.2.2.2.1, σ.2.2.2.2.2.2.2.2.2))

theorem ax_done (a : Nat → Int32) : r_api RXs GX 6 (lw_mX 37) (lw_av 37 a) (G9_done a) := by
  intro M σ Q h kk
  have hh := h
  obtain ⟨hS, hTr, hTp, hRg, hFt, hFr, hSp, hNt, hTh, hLv, hRs, hAl, hX, hG⟩ := h
  show Ca 6 mt_X11_done 0 0 [.ref 0, .int (a 1), .int (a 2)] GX M Q
  obtain ⟨tw, lw, pl, hX9⟩ := hX
  have hX : X_sx σ.2.2.2.2.2.2.2.2.2.1 σ.2.2.2.2.2.2.2.2.2.2.1 σ.2.2.2.2.2.2.2.2.2.2.2.1 M := ⟨tw, lw, pl, hX9⟩
  have hcu := (X_st_cu hX9).1
  have hlv := (X_st_cu hX9).2
  have hg := hG _ (Nat.le_refl _)
  exact c_X11_done hTh hcu hlv.1 hlv.2.2.2.1 hg.1 hg.2.1 hg.2.2.1 hg.2.2.2 hlv.2.2.2.2.2.2 (fun M' fx hs ht => kk M' ⟨hs, ((X_tr_dp _).kp fx rfl hTr), ((X_tp_dp _).kp fx rfl hTp), hRg, ((X_ft_dp _).kp fx rfl hFt), ((X_fr_dp _).kp fx rfl hFr), ((X_sp_dp _).kp fx rfl hSp), ((X_nt_dp _).kp fx rfl hNt), ht, ((X_lv_dp _).kp fx rfl hLv), ((X_rs_dp).kp fx rfl hRs), ((X_hal_dp).kp fx rfl hAl), ((X_sx_dp hG).kp fx rfl hX), hG⟩)

theorem ay_done (a : Nat → Int32) : r_api RYs GY 6 (lw_mY 37) (lw_av 37 a) (G9_done a) := by
  intro M σ Q h kk
  have hh := h
  obtain ⟨hS, hTr, hTp, hFt, hFr, hSp, hNt, hTh, hLv, hY, hG⟩ := h
  show Ca 6 mt_X12_done 0 0 [.ref 0, .int (a 1), .int (a 2)] GY M Q
  have hg := hG _ (Nat.le_refl _)
  have hy0 := Y_bk_tm hY.2.1
  exact c_X12_done hTh hy0 hg.1 hg.2.1 hg.2.2.1 hg.2.2.2 (Y_bk_pj hY.2.1) (fun M' fx hs ht => kk M' ⟨hs, ((Y_tr_dp _).kp fx rfl hTr), ((Y_tp_dp _).kp fx rfl hTp), ((Y_ft_dp _).kp fx rfl hFt), ((Y_fr_dp _).kp fx rfl hFr), ((Y_sp_dp _).kp fx rfl hSp), ((Y_nt_dp _).kp fx rfl hNt), ht, ((Y_lv_dp _).kp fx rfl hLv), ((Y_st_dp hG).kp fx rfl hY), hG⟩)

noncomputable def G9_lives (a : Nat → Int32) (σ : Sg9) : Value × Sg9 := (.int (g_lives (σ.2.2.2.2.2.2.2.2.2.2.1 σ.2.2.2.2.2.2.2.2.2.1) ((a 1))).1, (nI (g_lives (σ.2.2.2.2.2.2.2.2.2.2.1 σ.2.2.2.2.2.2.2.2.2.1) ((a 1))).2, σ.2.1, σ.2.2.1, σ.2.2.2.1, σ.2.2.2.2.1, σ.2.2.2.2.2.1, σ.2.2.2.2.2.2.1, σ.2.2.2.2.2.2.2.1, f_lives (σ.2.2.2.2.2.2.2.2.2.2.1 σ.2.2.2.2.2.2.2.2.2.1) ((a 1)) σ.2.2.2.2.2.2.2.2.1, σ.2.2.2.2.2.2.2.2.2))

theorem ax_lives (a : Nat → Int32) : r_api RXs GX 6 (lw_mX 39) (lw_av 39 a) (G9_lives a) := by
  intro M σ Q h kk
  have hh := h
  obtain ⟨hS, hTr, hTp, hRg, hFt, hFr, hSp, hNt, hTh, hLv, hRs, hAl, hX, hG⟩ := h
  show Ca 6 mt_X11_lives 0 0 [.ref 0, .int (a 1)] GX M Q
  obtain ⟨tw, lw, pl, hX9⟩ := hX
  have hX : X_sx σ.2.2.2.2.2.2.2.2.2.1 σ.2.2.2.2.2.2.2.2.2.2.1 σ.2.2.2.2.2.2.2.2.2.2.2.1 M := ⟨tw, lw, pl, hX9⟩
  have hcu := (X_st_cu hX9).1
  have hlv := (X_st_cu hX9).2
  have hg := hG _ (Nat.le_refl _)
  exact c_X11_lives hLv hcu hlv.1 hlv.2.2.2.1 hg.1 hg.2.1 hg.2.2.1 hg.2.2.2 hlv.2.2.2.2.2.2 (fun M' fx hs ht => kk M' ⟨hs, ((X_tr_dp _).kp fx rfl hTr), ((X_tp_dp _).kp fx rfl hTp), hRg, ((X_ft_dp _).kp fx rfl hFt), ((X_fr_dp _).kp fx rfl hFr), ((X_sp_dp _).kp fx rfl hSp), ((X_nt_dp _).kp fx rfl hNt), ((X_th_dp _).kp fx rfl hTh), ht, ((X_rs_dp).kp fx rfl hRs), ((X_hal_dp).kp fx rfl hAl), ((X_sx_dp hG).kp fx rfl hX), hG⟩)

theorem ay_lives (a : Nat → Int32) : r_api RYs GY 6 (lw_mY 39) (lw_av 39 a) (G9_lives a) := by
  intro M σ Q h kk
  have hh := h
  obtain ⟨hS, hTr, hTp, hFt, hFr, hSp, hNt, hTh, hLv, hY, hG⟩ := h
  show Ca 6 mt_X12_lives 0 0 [.ref 0, .int (a 1)] GY M Q
  have hg := hG _ (Nat.le_refl _)
  have hy0 := Y_bk_tm hY.2.1
  exact c_X12_lives hLv hy0 hg.1 hg.2.1 hg.2.2.1 hg.2.2.2 (Y_bk_pj hY.2.1) (fun M' fx hs ht => kk M' ⟨hs, ((Y_tr_dp _).kp fx rfl hTr), ((Y_tp_dp _).kp fx rfl hTp), ((Y_ft_dp _).kp fx rfl hFt), ((Y_fr_dp _).kp fx rfl hFr), ((Y_sp_dp _).kp fx rfl hSp), ((Y_nt_dp _).kp fx rfl hNt), ((Y_th_dp _).kp fx rfl hTh), ht, ((Y_st_dp hG).kp fx rfl hY), hG⟩)

noncomputable def G9_ill (a : Nat → Int32) (σ : Sg9) : Value × Sg9 := (.int (g_ill (σ.2.2.2.2.2.2.2.2.2.2.1 σ.2.2.2.2.2.2.2.2.2.1) ((a 1)) ((a 2))).1, (nI (g_ill (σ.2.2.2.2.2.2.2.2.2.2.1 σ.2.2.2.2.2.2.2.2.2.1) ((a 1)) ((a 2))).2, σ.2.1, σ.2.2.1, σ.2.2.2.1, σ.2.2.2.2.1, σ.2.2.2.2.2.1, σ.2.2.2.2.2.2.1, σ.2.2.2.2.2.2.2.1, f_ill (σ.2.2.2.2.2.2.2.2.2.2.1 σ.2.2.2.2.2.2.2.2.2.1) ((a 1)) ((a 2)) σ.2.2.2.2.2.2.2.2.1, σ.2.2.2.2.2.2.2.2.2))

theorem ax_ill (a : Nat → Int32) : r_api RXs GX 6 (lw_mX 40) (lw_av 40 a) (G9_ill a) := by
  intro M σ Q h kk
  have hh := h
  obtain ⟨hS, hTr, hTp, hRg, hFt, hFr, hSp, hNt, hTh, hLv, hRs, hAl, hX, hG⟩ := h
  show Ca 6 mt_X11_ill 0 0 [.ref 0, .int (a 1), .int (a 2)] GX M Q
  obtain ⟨tw, lw, pl, hX9⟩ := hX
  have hX : X_sx σ.2.2.2.2.2.2.2.2.2.1 σ.2.2.2.2.2.2.2.2.2.2.1 σ.2.2.2.2.2.2.2.2.2.2.2.1 M := ⟨tw, lw, pl, hX9⟩
  have hcu := (X_st_cu hX9).1
  have hlv := (X_st_cu hX9).2
  have hg := hG _ (Nat.le_refl _)
  exact c_X11_ill hLv hcu hlv.1 hlv.2.2.2.1 hg.1 hg.2.1 hg.2.2.1 hg.2.2.2 hlv.2.2.2.2.2.2 (fun M' fx hs ht => kk M' ⟨hs, ((X_tr_dp _).kp fx rfl hTr), ((X_tp_dp _).kp fx rfl hTp), hRg, ((X_ft_dp _).kp fx rfl hFt), ((X_fr_dp _).kp fx rfl hFr), ((X_sp_dp _).kp fx rfl hSp), ((X_nt_dp _).kp fx rfl hNt), ((X_th_dp _).kp fx rfl hTh), ht, ((X_rs_dp).kp fx rfl hRs), ((X_hal_dp).kp fx rfl hAl), ((X_sx_dp hG).kp fx rfl hX), hG⟩)

theorem ay_ill (a : Nat → Int32) : r_api RYs GY 6 (lw_mY 40) (lw_av 40 a) (G9_ill a) := by
  intro M σ Q h kk
  have hh := h
  obtain ⟨hS, hTr, hTp, hFt, hFr, hSp, hNt, hTh, hLv, hY, hG⟩ := h
  show Ca 6 mt_X12_ill 0 0 [.ref 0, .int (a 1), .int (a 2)] GY M Q
  have hg := hG _ (Nat.le_refl _)
  have hy0 := Y_bk_tm hY.2.1
  exact c_X12_ill hLv hy0 hg.1 hg.2.1 hg.2.2.1 hg.2.2.2 (Y_bk_pj hY.2.1) (fun M' fx hs ht => kk M' ⟨hs, ((Y_tr_dp _).kp fx rfl hTr), ((Y_tp_dp _).kp fx rfl hTp), ((Y_ft_dp _).kp fx rfl hFt), ((Y_fr_dp _).kp fx rfl hFr), ((Y_sp_dp _).kp fx rfl hSp), ((Y_nt_dp _).kp fx rfl hNt), ((Y_th_dp _).kp fx rfl hTh), ht, ((Y_st_dp hG).kp fx rfl hY), hG⟩)
