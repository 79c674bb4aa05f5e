-- DEEDS: the reference, judged, done, lives, ill

theorem c_X12_draw {Q : Rq} {M : Mem} {z : Nat} (hz : z < 65536) (h59 : M.1 0 59 = nI z) (k : ∀ M', r_fx [(0, 59)] [] M M' → M'.1 0 59 = nI (jDw z) → Q (some (.int (nI (jDw z / 8 % 16)))) GY M') : Ca 0 mt_X12_draw 0 0 [.ref 0] GY M Q := by
  refine Ca_of rfl (Nat.le_of_ble_eq_true rfl) ?_
  refine Ru_aload_n (pc := 0) dX12_draw_0 rfl rfl ?_
  refine Ru_aload_n (pc := 1) dX12_draw_1 rfl rfl ?_
  refine Ru_getI (pc := 2) dX12_draw_2 fl_X12_566 rfl rfl ?_
  refine Ru_top h59 ?_
  refine Ru_sipush (pc := 5) (nI 2333) dX12_draw_5 rfl ?_
  refine Ru_imulN (pc := 8) dX12_draw_8 ?_
  refine Ru_sipush (pc := 9) (nI 10007) dX12_draw_9 rfl ?_
  refine Ru_iaddN (pc := 12) dX12_draw_12 ?_
  refine Ru_ldcw (pc := 13) dX12_draw_13 tw_2161 ?_
  refine Ru_top (show (65536 : Int32) = nI 65536 from rfl) ?_
  refine Ru_iremN (pc := 16) dX12_draw_16 (by omega) ?_
  refine Ru_putI (pc := 17) rfl dX12_draw_17 fl_X12_566 rfl ?_
  refine Ru_aload_n (pc := 20) dX12_draw_20 rfl rfl ?_
  refine Ru_getI (pc := 21) dX12_draw_21 fl_X12_566 rfl rfl ?_
  refine Ru_top r_sI_s ?_
  refine Ru_bipush (pc := 24) (nI 8) dX12_draw_24 rfl ?_
  refine Ru_idivN (pc := 26) dX12_draw_26 (by omega) ?_
  refine Ru_bipush (pc := 27) (nI 16) dX12_draw_27 rfl ?_
  refine Ru_iremN (pc := 29) dX12_draw_29 (by omega) ?_
  refine Ru_iret (pc := 30) dX12_draw_30 rfl ⟨Nat.le_refl _, Nat.le_refl _⟩ ?_
  exact k _ (r_fx.sI rfl r_fx.rf) r_sI_s

theorem l_X12_live_f {Q : Rq} {M0 : Mem} {d : Td} (hc0 : ∀ k, k < 521 → M0.1 5 k = nI (d k)) (wf : Wf d) (wj : Wj d) (wn : Wn d) (hwl : Wl d) (hpj0 : Y_pj d M0) (hal0 : M0.1 0 29 = nI 0) {n9 : Nat} (hn9 : n9 ≤ 99) (k : ∀ M', r_fx [(0, 38), (0, 39), (0, 40), (0, 41), (0, 45), (0, 46), (0, 47), (0, 52), (0, 53), (0, 54), (0, 55), (0, 56), (0, 57), (0, 59)] [7, 20, 21] M0 M' → M'.1 0 38 = nI (jV d false 0 n9).2.1 → M'.1 0 39 = nI (jV d false 0 n9).1.1 → M'.1 0 40 = nI (jV d false 0 n9).2.2.1 → M'.1 0 41 = nI (jV d false 0 n9).2.2.2 → Ru 5 mt_X12_liveDays r_z 179 [(0, some (.ref 0)), (1, some (.int (nI n9))), (2, some (.int (nI 0))), (3, some (.int (nI (jV d false 0 n9).1.2.2))), (4, some (.int (nI n9)))] [] GY M' Q) : ∀ (zw : Nat) (n : Nat) (M : Mem), n9 - n = zw → (n ≤ n9) → (M.1 0 38 = nI (jV d false 0 n).2.1) → (M.1 0 39 = nI (jV d false 0 n).1.1) → (M.1 0 40 = nI (jV d false 0 n).2.2.1) → (M.1 0 41 = nI (jV d false 0 n).2.2.2) → (r_fx [(0, 38), (0, 39), (0, 40), (0, 41), (0, 45), (0, 46), (0, 47), (0, 52), (0, 53), (0, 54), (0, 55), (0, 56), (0, 57), (0, 59)] [7, 20, 21] M0 M) → Ru 5 mt_X12_liveDays r_z 30 [(0, some (.ref 0)), (1, some (.int (nI n9))), (2, some (.int (nI 0))), (3, some (.int (nI (jV d false 0 n).1.2.2))), (4, some (.int (nI n)))] [] GY M Q := by
  intro zw
  induction zw using Nat.strongRecOn with
  | ind zw ih =>
    intro n M hw hn h38 h39 h40 h41 fx
    subst hw
    have hb := wf.1
    have hc : ∀ k, k < 521 → M.1 5 k = nI (d k) := fun k hk => (fx 5 k rfl).1.trans (hc0 k hk)
    have hpj : Y_pj d M := (Y_pj_dp d).kp fx rfl hpj0
    have hal : M.1 0 29 = nI 0 := (fx 0 29 rfl).1.trans hal0
    have hvb := jV_b (d := d) wf (il := false) (s := 0) (by omega) n
    refine Ru_iload (pc := 30) dX12_liveDays_30 rfl ?_
    refine Ru_iload_n (pc := 32) dX12_liveDays_32 rfl rfl ?_
    refine Ru_icmp_geN (pc := 33) 179 dX12_liveDays_33 (by decide) (by omega) (fun h1 => ?_) (fun h1 => ?_)
    · have en : n = n9 := by omega
      subst en
      exact Ru_weak (k M fx h38 h39 h40 h41) rfl
    · refine Ru_iconst (pc := 36) (nI 0) dX12_liveDays_36 rfl ?_
      refine Ru_istore (pc := 37) dX12_liveDays_37 rfl (by decide) ?_
      refine Ru_iconst (pc := 39) (nI 0) dX12_liveDays_39 rfl ?_
      refine Ru_istore (pc := 40) dX12_liveDays_40 rfl (by decide) ?_
      refine Ru_iload (pc := 42) dX12_liveDays_42 rfl ?_
      refine Ru_aload_n (pc := 44) dX12_liveDays_44 rfl rfl ?_
      refine Ru_getR (pc := 45) 5 dX12_liveDays_45 fl_X12_35 rfl rfl rfl ?_
      refine Ru_iconst (pc := 48) (nI 2) dX12_liveDays_48 rfl ?_
      refine Ru_iald (pc := 49) dX12_liveDays_49 rfl (by omega) ?_
      refine Ru_top (hc 2 (by omega)) ?_
      refine Ru_icmp_geN (pc := 50) 89 dX12_liveDays_50 (by decide) (by omega) (fun h2 => ?_) (fun h2 => ?_)
      · refine Ru_weak (L' := [(0, some (.ref 0)), (1, some (.int (nI n9))), (2, some (.int (nI 0))), (3, some (.int (nI (jV d false 0 n).1.2.2))), (4, some (.int (nI n))), (5, some (.int (nI (jSk d false (jV d false 0 n).1.2.1).2))), (6, some (.int (nI 0)))]) ?_ rfl
        refine Ru_aload_n (pc := 89) dX12_liveDays_89 rfl rfl ?_
        refine Ru_aload_n (pc := 90) dX12_liveDays_90 rfl rfl ?_
        refine Ru_aload_n (pc := 91) dX12_liveDays_91 rfl rfl ?_
        refine Ru_getI (pc := 92) dX12_liveDays_92 fl_X12_573 rfl rfl ?_
        refine Ru_top h39 ?_
        refine Ru_iload (pc := 95) dX12_liveDays_95 rfl ?_
        refine Ru_iload (pc := 97) dX12_liveDays_97 rfl ?_
        refine Ru_cv3 (pc := 99) dX12_liveDays_99 mv_X12_558 rfl (by decide) (Nat.le_of_ble_eq_true rfl) (c_X12_doDay (s := (jV d false 0 n).1.1) (y := n) (ill := (jSk d false (jV d false 0 n).1.2.1).2) hc wf wj wn hwl hpj hal hvb.1 (by omega) (jSk_b wf hvb.2) (fun M4 gx4 k52 k53 k54 k55 k56 k21 => ?_)) 
        have fx4 : r_fx [(0, 38), (0, 39), (0, 40), (0, 41), (0, 45), (0, 46), (0, 47), (0, 52), (0, 53), (0, 54), (0, 55), (0, 56), (0, 57), (0, 59)] [7, 20, 21] M0 M4 := fx.tr (gx4.mono rfl)
        have h384 : M4.1 0 38 = nI (jV d false 0 n).2.1 := (gx4 0 38 rfl).1.trans h38
        have h394 : M4.1 0 39 = nI (jV d false 0 n).1.1 := (gx4 0 39 rfl).1.trans h39
        have h404 : M4.1 0 40 = nI (jV d false 0 n).2.2.1 := (gx4 0 40 rfl).1.trans h40
        have h414 : M4.1 0 41 = nI (jV d false 0 n).2.2.2 := (gx4 0 41 rfl).1.trans h41
        have hc4 : ∀ k, k < 521 → M4.1 5 k = nI (d k) := fun k hk => (fx4 5 k rfl).1.trans (hc0 k hk)
        have hhb := jX_had wf (jV d false 0 n).1.1 (jSk d false (jV d false 0 n).1.2.1).2
        have hzb := jX_z wf (jV d false 0 n).1.1 (jSk d false (jV d false 0 n).1.2.1).2
        have hwb := (jT_b wf (x := jX0 d (jV d false 0 n).1.1 (jSk d false (jV d false 0 n).1.2.1).2) ⟨rfl, rfl⟩ 25).1
        have hwb2 : (jX d (jV d false 0 n).1.1 (jSk d false (jV d false 0 n).1.2.1).2).2.1 ≤ 7992 * 25 := hwb
        refine Ru_putI (pc := 102) rfl dX12_liveDays_102 fl_X12_573 rfl ?_
        refine Ru_iload_n (pc := 105) dX12_liveDays_105 rfl rfl ?_
        refine Ru_aload_n (pc := 106) dX12_liveDays_106 rfl rfl ?_
        refine Ru_getI (pc := 107) dX12_liveDays_107 fl_X12_534 rfl rfl ?_
        refine Ru_top ((r_sI_n (by decide)).trans k52) ?_
        refine Ru_iaddN (pc := 110) dX12_liveDays_110 ?_
        refine Ru_istore_n (pc := 111) dX12_liveDays_111 rfl rfl (by decide) ?_
        refine Ru_aload_n (pc := 112) dX12_liveDays_112 rfl rfl ?_
        refine Ru_dup (pc := 113) dX12_liveDays_113 rfl ?_
        refine Ru_getI (pc := 114) dX12_liveDays_114 fl_X12_570 rfl rfl ?_
        refine Ru_top ((r_sI_n (by decide)).trans h384) ?_
        refine Ru_aload_n (pc := 117) dX12_liveDays_117 rfl rfl ?_
        refine Ru_getI (pc := 118) dX12_liveDays_118 fl_X12_555 rfl rfl ?_
        refine Ru_top ((r_sI_n (by decide)).trans k54) ?_
        refine Ru_iaddN (pc := 121) dX12_liveDays_121 ?_
        refine Ru_putI (pc := 122) rfl dX12_liveDays_122 fl_X12_570 rfl ?_
        refine Ru_aload_n (pc := 125) dX12_liveDays_125 rfl rfl ?_
        refine Ru_dup (pc := 126) dX12_liveDays_126 rfl ?_
        refine Ru_getI (pc := 127) dX12_liveDays_127 fl_X12_576 rfl rfl ?_
        refine Ru_top ((r_sI_n (by decide)).trans ((r_sI_n (by decide)).trans h404)) ?_
        refine Ru_aload_n (pc := 130) dX12_liveDays_130 rfl rfl ?_
        refine Ru_getI (pc := 131) dX12_liveDays_131 fl_X12_537 rfl rfl ?_
        refine Ru_top ((r_sI_n (by decide)).trans ((r_sI_n (by decide)).trans k53)) ?_
        refine Ru_aload_n (pc := 134) dX12_liveDays_134 rfl rfl ?_
        refine Ru_getR (pc := 135) 5 dX12_liveDays_135 fl_X12_35 rfl rfl rfl ?_
        refine Ru_iconst (pc := 138) (nI 3) dX12_liveDays_138 rfl ?_
        refine Ru_iald (pc := 139) dX12_liveDays_139 rfl (by omega) ?_
        refine Ru_top ((r_sI_n (by decide)).trans ((r_sI_n (by decide)).trans (hc4 3 (by omega)))) ?_
        refine Ru_icmp_neN (pc := 140) 147 dX12_liveDays_140 (by decide) ⟨by omega, by omega⟩ (fun h1 => ?_) (fun h1 => ?_)
        · refine Ru_iconst (pc := 147) (nI 0) dX12_liveDays_147 rfl ?_
          refine Ru_iaddN (pc := 148) dX12_liveDays_148 ?_
          refine Ru_putI (pc := 149) rfl dX12_liveDays_149 fl_X12_576 rfl ?_
          refine Ru_aload_n (pc := 152) dX12_liveDays_152 rfl rfl ?_
          refine Ru_dup (pc := 153) dX12_liveDays_153 rfl ?_
          refine Ru_getI (pc := 154) dX12_liveDays_154 fl_X12_579 rfl rfl ?_
          refine Ru_top ((r_sI_n (by decide)).trans ((r_sI_n (by decide)).trans ((r_sI_n (by decide)).trans h414))) ?_
          refine Ru_aload_n (pc := 157) dX12_liveDays_157 rfl rfl ?_
          refine Ru_getI (pc := 158) dX12_liveDays_158 fl_X12_534 rfl rfl ?_
          refine Ru_top ((r_sI_n (by decide)).trans ((r_sI_n (by decide)).trans ((r_sI_n (by decide)).trans k52))) ?_
          refine Ru_if_neN (pc := 161) 168 dX12_liveDays_161 (by decide) (by omega) (fun h2 => ?_) (fun h2 => ?_)
          · refine Ru_iconst (pc := 168) (nI 0) dX12_liveDays_168 rfl ?_
            refine Ru_iaddN (pc := 169) dX12_liveDays_169 ?_
            refine Ru_putI (pc := 170) rfl dX12_liveDays_170 fl_X12_579 rfl ?_
            refine Ru_iincN (pc := 173) 1 dX12_liveDays_173 rfl rfl rfl (by decide) ?_
            refine Ru_goto (pc := 176) 30 dX12_liveDays_176 (by decide) ?_
            have e2 : (jV d false 0 (n + 1)).2.2.1 = (jV d false 0 n).2.2.1 + 0 := by
              show (jV d false 0 n).2.2.1 + (if _ then _ else _) = _
              rw [if_neg (by omega)]
            have e3 : (jV d false 0 (n + 1)).2.2.2 = (jV d false 0 n).2.2.2 + 0 := by
              show (jV d false 0 n).2.2.2 + (if _ then _ else _) = _
              rw [if_neg (by omega)]
            refine Ru_weak (ih (n9 - (n + 1)) (by omega) (n + 1) _ rfl (by omega) ?_ ?_ ?_ ?_ (r_fx.sI rfl (r_fx.sI rfl (r_fx.sI rfl (r_fx.sI rfl fx4))))) rfl
            · exact ((r_sI_n (by decide)).trans ((r_sI_n (by decide)).trans r_sI_s))
            · exact ((r_sI_n (by decide)).trans ((r_sI_n (by decide)).trans ((r_sI_n (by decide)).trans r_sI_s)))
            · rw [e2]
              exact ((r_sI_n (by decide)).trans r_sI_s)
            · rw [e3]
              exact r_sI_s
          · refine Ru_iconst (pc := 164) (nI 1) dX12_liveDays_164 rfl ?_
            refine Ru_goto (pc := 165) 169 dX12_liveDays_165 (by decide) ?_
            refine Ru_iaddN (pc := 169) dX12_liveDays_169 ?_
            refine Ru_putI (pc := 170) rfl dX12_liveDays_170 fl_X12_579 rfl ?_
            refine Ru_iincN (pc := 173) 1 dX12_liveDays_173 rfl rfl rfl (by decide) ?_
            refine Ru_goto (pc := 176) 30 dX12_liveDays_176 (by decide) ?_
            have e2 : (jV d false 0 (n + 1)).2.2.1 = (jV d false 0 n).2.2.1 + 0 := by
              show (jV d false 0 n).2.2.1 + (if _ then _ else _) = _
              rw [if_neg (by omega)]
            have e3 : (jV d false 0 (n + 1)).2.2.2 = (jV d false 0 n).2.2.2 + 1 := by
              show (jV d false 0 n).2.2.2 + (if _ then _ else _) = _
              rw [if_pos (by omega)]
            refine Ru_weak (ih (n9 - (n + 1)) (by omega) (n + 1) _ rfl (by omega) ?_ ?_ ?_ ?_ (r_fx.sI rfl (r_fx.sI rfl (r_fx.sI rfl (r_fx.sI rfl fx4))))) rfl
            · exact ((r_sI_n (by decide)).trans ((r_sI_n (by decide)).trans r_sI_s))
            · exact ((r_sI_n (by decide)).trans ((r_sI_n (by decide)).trans ((r_sI_n (by decide)).trans r_sI_s)))
            · rw [e2]
              exact ((r_sI_n (by decide)).trans r_sI_s)
            · rw [e3]
              exact r_sI_s
        · refine Ru_iconst (pc := 143) (nI 1) dX12_liveDays_143 rfl ?_
          refine Ru_goto (pc := 144) 148 dX12_liveDays_144 (by decide) ?_
          refine Ru_iaddN (pc := 148) dX12_liveDays_148 ?_
          refine Ru_putI (pc := 149) rfl dX12_liveDays_149 fl_X12_576 rfl ?_
          refine Ru_aload_n (pc := 152) dX12_liveDays_152 rfl rfl ?_
          refine Ru_dup (pc := 153) dX12_liveDays_153 rfl ?_
          refine Ru_getI (pc := 154) dX12_liveDays_154 fl_X12_579 rfl rfl ?_
          refine Ru_top ((r_sI_n (by decide)).trans ((r_sI_n (by decide)).trans ((r_sI_n (by decide)).trans h414))) ?_
          refine Ru_aload_n (pc := 157) dX12_liveDays_157 rfl rfl ?_
          refine Ru_getI (pc := 158) dX12_liveDays_158 fl_X12_534 rfl rfl ?_
          refine Ru_top ((r_sI_n (by decide)).trans ((r_sI_n (by decide)).trans ((r_sI_n (by decide)).trans k52))) ?_
          refine Ru_if_neN (pc := 161) 168 dX12_liveDays_161 (by decide) (by omega) (fun h3 => ?_) (fun h3 => ?_)
          · refine Ru_iconst (pc := 168) (nI 0) dX12_liveDays_168 rfl ?_
            refine Ru_iaddN (pc := 169) dX12_liveDays_169 ?_
            refine Ru_putI (pc := 170) rfl dX12_liveDays_170 fl_X12_579 rfl ?_
            refine Ru_iincN (pc := 173) 1 dX12_liveDays_173 rfl rfl rfl (by decide) ?_
            refine Ru_goto (pc := 176) 30 dX12_liveDays_176 (by decide) ?_
            have e2 : (jV d false 0 (n + 1)).2.2.1 = (jV d false 0 n).2.2.1 + 1 := by
              show (jV d false 0 n).2.2.1 + (if _ then _ else _) = _
              rw [if_pos (by omega)]
            have e3 : (jV d false 0 (n + 1)).2.2.2 = (jV d false 0 n).2.2.2 + 0 := by
              show (jV d false 0 n).2.2.2 + (if _ then _ else _) = _
              rw [if_neg (by omega)]
            refine Ru_weak (ih (n9 - (n + 1)) (by omega) (n + 1) _ rfl (by omega) ?_ ?_ ?_ ?_ (r_fx.sI rfl (r_fx.sI rfl (r_fx.sI rfl (r_fx.sI rfl fx4))))) rfl
            · exact ((r_sI_n (by decide)).trans ((r_sI_n (by decide)).trans r_sI_s))
            · exact ((r_sI_n (by decide)).trans ((r_sI_n (by decide)).trans ((r_sI_n (by decide)).trans r_sI_s)))
            · rw [e2]
              exact ((r_sI_n (by decide)).trans r_sI_s)
            · rw [e3]
              exact r_sI_s
          · refine Ru_iconst (pc := 164) (nI 1) dX12_liveDays_164 rfl ?_
            refine Ru_goto (pc := 165) 169 dX12_liveDays_165 (by decide) ?_
            refine Ru_iaddN (pc := 169) dX12_liveDays_169 ?_
            refine Ru_putI (pc := 170) rfl dX12_liveDays_170 fl_X12_579 rfl ?_
            refine Ru_iincN (pc := 173) 1 dX12_liveDays_173 rfl rfl rfl (by decide) ?_
            refine Ru_goto (pc := 176) 30 dX12_liveDays_176 (by decide) ?_
            have e2 : (jV d false 0 (n + 1)).2.2.1 = (jV d false 0 n).2.2.1 + 1 := by
              show (jV d false 0 n).2.2.1 + (if _ then _ else _) = _
              rw [if_pos (by omega)]
            have e3 : (jV d false 0 (n + 1)).2.2.2 = (jV d false 0 n).2.2.2 + 1 := by
              show (jV d false 0 n).2.2.2 + (if _ then _ else _) = _
              rw [if_pos (by omega)]
            refine Ru_weak (ih (n9 - (n + 1)) (by omega) (n + 1) _ rfl (by omega) ?_ ?_ ?_ ?_ (r_fx.sI rfl (r_fx.sI rfl (r_fx.sI rfl (r_fx.sI rfl fx4))))) rfl
            · exact ((r_sI_n (by decide)).trans ((r_sI_n (by decide)).trans r_sI_s))
            · exact ((r_sI_n (by decide)).trans ((r_sI_n (by decide)).trans ((r_sI_n (by decide)).trans r_sI_s)))
            · rw [e2]
              exact ((r_sI_n (by decide)).trans r_sI_s)
            · rw [e3]
              exact r_sI_s
      · refine Ru_iload_n (pc := 53) dX12_liveDays_53 rfl rfl ?_
        refine Ru_if_eqN (pc := 54) 89 dX12_liveDays_54 (by decide) (by omega) (fun h3 => ?_) (fun h3 => ?_)
        · refine Ru_weak (L' := [(0, some (.ref 0)), (1, some (.int (nI n9))), (2, some (.int (nI 0))), (3, some (.int (nI (jV d false 0 n).1.2.2))), (4, some (.int (nI n))), (5, some (.int (nI (jSk d false (jV d false 0 n).1.2.1).2))), (6, some (.int (nI 0)))]) ?_ rfl
          refine Ru_aload_n (pc := 89) dX12_liveDays_89 rfl rfl ?_
          refine Ru_aload_n (pc := 90) dX12_liveDays_90 rfl rfl ?_
          refine Ru_aload_n (pc := 91) dX12_liveDays_91 rfl rfl ?_
          refine Ru_getI (pc := 92) dX12_liveDays_92 fl_X12_573 rfl rfl ?_
          refine Ru_top h39 ?_
          refine Ru_iload (pc := 95) dX12_liveDays_95 rfl ?_
          refine Ru_iload (pc := 97) dX12_liveDays_97 rfl ?_
          refine Ru_cv3 (pc := 99) dX12_liveDays_99 mv_X12_558 rfl (by decide) (Nat.le_of_ble_eq_true rfl) (c_X12_doDay (s := (jV d false 0 n).1.1) (y := n) (ill := (jSk d false (jV d false 0 n).1.2.1).2) hc wf wj wn hwl hpj hal hvb.1 (by omega) (jSk_b wf hvb.2) (fun M4 gx4 k52 k53 k54 k55 k56 k21 => ?_)) 
          have fx4 : r_fx [(0, 38), (0, 39), (0, 40), (0, 41), (0, 45), (0, 46), (0, 47), (0, 52), (0, 53), (0, 54), (0, 55), (0, 56), (0, 57), (0, 59)] [7, 20, 21] M0 M4 := fx.tr (gx4.mono rfl)
          have h384 : M4.1 0 38 = nI (jV d false 0 n).2.1 := (gx4 0 38 rfl).1.trans h38
          have h394 : M4.1 0 39 = nI (jV d false 0 n).1.1 := (gx4 0 39 rfl).1.trans h39
          have h404 : M4.1 0 40 = nI (jV d false 0 n).2.2.1 := (gx4 0 40 rfl).1.trans h40
          have h414 : M4.1 0 41 = nI (jV d false 0 n).2.2.2 := (gx4 0 41 rfl).1.trans h41
          have hc4 : ∀ k, k < 521 → M4.1 5 k = nI (d k) := fun k hk => (fx4 5 k rfl).1.trans (hc0 k hk)
          have hhb := jX_had wf (jV d false 0 n).1.1 (jSk d false (jV d false 0 n).1.2.1).2
          have hzb := jX_z wf (jV d false 0 n).1.1 (jSk d false (jV d false 0 n).1.2.1).2
          have hwb := (jT_b wf (x := jX0 d (jV d false 0 n).1.1 (jSk d false (jV d false 0 n).1.2.1).2) ⟨rfl, rfl⟩ 25).1
          have hwb2 : (jX d (jV d false 0 n).1.1 (jSk d false (jV d false 0 n).1.2.1).2).2.1 ≤ 7992 * 25 := hwb
          refine Ru_putI (pc := 102) rfl dX12_liveDays_102 fl_X12_573 rfl ?_
          refine Ru_iload_n (pc := 105) dX12_liveDays_105 rfl rfl ?_
          refine Ru_aload_n (pc := 106) dX12_liveDays_106 rfl rfl ?_
          refine Ru_getI (pc := 107) dX12_liveDays_107 fl_X12_534 rfl rfl ?_
          refine Ru_top ((r_sI_n (by decide)).trans k52) ?_
          refine Ru_iaddN (pc := 110) dX12_liveDays_110 ?_
          refine Ru_istore_n (pc := 111) dX12_liveDays_111 rfl rfl (by decide) ?_
          refine Ru_aload_n (pc := 112) dX12_liveDays_112 rfl rfl ?_
          refine Ru_dup (pc := 113) dX12_liveDays_113 rfl ?_
          refine Ru_getI (pc := 114) dX12_liveDays_114 fl_X12_570 rfl rfl ?_
          refine Ru_top ((r_sI_n (by decide)).trans h384) ?_
          refine Ru_aload_n (pc := 117) dX12_liveDays_117 rfl rfl ?_
          refine Ru_getI (pc := 118) dX12_liveDays_118 fl_X12_555 rfl rfl ?_
          refine Ru_top ((r_sI_n (by decide)).trans k54) ?_
          refine Ru_iaddN (pc := 121) dX12_liveDays_121 ?_
          refine Ru_putI (pc := 122) rfl dX12_liveDays_122 fl_X12_570 rfl ?_
          refine Ru_aload_n (pc := 125) dX12_liveDays_125 rfl rfl ?_
          refine Ru_dup (pc := 126) dX12_liveDays_126 rfl ?_
          refine Ru_getI (pc := 127) dX12_liveDays_127 fl_X12_576 rfl rfl ?_
          refine Ru_top ((r_sI_n (by decide)).trans ((r_sI_n (by decide)).trans h404)) ?_
          refine Ru_aload_n (pc := 130) dX12_liveDays_130 rfl rfl ?_
          refine Ru_getI (pc := 131) dX12_liveDays_131 fl_X12_537 rfl rfl ?_
          refine Ru_top ((r_sI_n (by decide)).trans ((r_sI_n (by decide)).trans k53)) ?_
          refine Ru_aload_n (pc := 134) dX12_liveDays_134 rfl rfl ?_
          refine Ru_getR (pc := 135) 5 dX12_liveDays_135 fl_X12_35 rfl rfl rfl ?_
          refine Ru_iconst (pc := 138) (nI 3) dX12_liveDays_138 rfl ?_
          refine Ru_iald (pc := 139) dX12_liveDays_139 rfl (by omega) ?_
          refine Ru_top ((r_sI_n (by decide)).trans ((r_sI_n (by decide)).trans (hc4 3 (by omega)))) ?_
          refine Ru_icmp_neN (pc := 140) 147 dX12_liveDays_140 (by decide) ⟨by omega, by omega⟩ (fun h1 => ?_) (fun h1 => ?_)
          · refine Ru_iconst (pc := 147) (nI 0) dX12_liveDays_147 rfl ?_
            refine Ru_iaddN (pc := 148) dX12_liveDays_148 ?_
            refine Ru_putI (pc := 149) rfl dX12_liveDays_149 fl_X12_576 rfl ?_
            refine Ru_aload_n (pc := 152) dX12_liveDays_152 rfl rfl ?_
            refine Ru_dup (pc := 153) dX12_liveDays_153 rfl ?_
            refine Ru_getI (pc := 154) dX12_liveDays_154 fl_X12_579 rfl rfl ?_
            refine Ru_top ((r_sI_n (by decide)).trans ((r_sI_n (by decide)).trans ((r_sI_n (by decide)).trans h414))) ?_
            refine Ru_aload_n (pc := 157) dX12_liveDays_157 rfl rfl ?_
            refine Ru_getI (pc := 158) dX12_liveDays_158 fl_X12_534 rfl rfl ?_
            refine Ru_top ((r_sI_n (by decide)).trans ((r_sI_n (by decide)).trans ((r_sI_n (by decide)).trans k52))) ?_
            refine Ru_if_neN (pc := 161) 168 dX12_liveDays_161 (by decide) (by omega) (fun h2 => ?_) (fun h2 => ?_)
            · refine Ru_iconst (pc := 168) (nI 0) dX12_liveDays_168 rfl ?_
              refine Ru_iaddN (pc := 169) dX12_liveDays_169 ?_
              refine Ru_putI (pc := 170) rfl dX12_liveDays_170 fl_X12_579 rfl ?_
              refine Ru_iincN (pc := 173) 1 dX12_liveDays_173 rfl rfl rfl (by decide) ?_
              refine Ru_goto (pc := 176) 30 dX12_liveDays_176 (by decide) ?_
              have e2 : (jV d false 0 (n + 1)).2.2.1 = (jV d false 0 n).2.2.1 + 0 := by
                show (jV d false 0 n).2.2.1 + (if _ then _ else _) = _
                rw [if_neg (by omega)]
              have e3 : (jV d false 0 (n + 1)).2.2.2 = (jV d false 0 n).2.2.2 + 0 := by
                show (jV d false 0 n).2.2.2 + (if _ then _ else _) = _
                rw [if_neg (by omega)]
              refine Ru_weak (ih (n9 - (n + 1)) (by omega) (n + 1) _ rfl (by omega) ?_ ?_ ?_ ?_ (r_fx.sI rfl (r_fx.sI rfl (r_fx.sI rfl (r_fx.sI rfl fx4))))) rfl
              · exact ((r_sI_n (by decide)).trans ((r_sI_n (by decide)).trans r_sI_s))
              · exact ((r_sI_n (by decide)).trans ((r_sI_n (by decide)).trans ((r_sI_n (by decide)).trans r_sI_s)))
              · rw [e2]
                exact ((r_sI_n (by decide)).trans r_sI_s)
              · rw [e3]
                exact r_sI_s
            · refine Ru_iconst (pc := 164) (nI 1) dX12_liveDays_164 rfl ?_
              refine Ru_goto (pc := 165) 169 dX12_liveDays_165 (by decide) ?_
              refine Ru_iaddN (pc := 169) dX12_liveDays_169 ?_
              refine Ru_putI (pc := 170) rfl dX12_liveDays_170 fl_X12_579 rfl ?_
              refine Ru_iincN (pc := 173) 1 dX12_liveDays_173 rfl rfl rfl (by decide) ?_
              refine Ru_goto (pc := 176) 30 dX12_liveDays_176 (by decide) ?_
              have e2 : (jV d false 0 (n + 1)).2.2.1 = (jV d false 0 n).2.2.1 + 0 := by
                show (jV d false 0 n).2.2.1 + (if _ then _ else _) = _
                rw [if_neg (by omega)]
              have e3 : (jV d false 0 (n + 1)).2.2.2 = (jV d false 0 n).2.2.2 + 1 := by
                show (jV d false 0 n).2.2.2 + (if _ then _ else _) = _
                rw [if_pos (by omega)]
              refine Ru_weak (ih (n9 - (n + 1)) (by omega) (n + 1) _ rfl (by omega) ?_ ?_ ?_ ?_ (r_fx.sI rfl (r_fx.sI rfl (r_fx.sI rfl (r_fx.sI rfl fx4))))) rfl
              · exact ((r_sI_n (by decide)).trans ((r_sI_n (by decide)).trans r_sI_s))
              · exact ((r_sI_n (by decide)).trans ((r_sI_n (by decide)).trans ((r_sI_n (by decide)).trans r_sI_s)))
              · rw [e2]
                exact ((r_sI_n (by decide)).trans r_sI_s)
              · rw [e3]
                exact r_sI_s
          · refine Ru_iconst (pc := 143) (nI 1) dX12_liveDays_143 rfl ?_
            refine Ru_goto (pc := 144) 148 dX12_liveDays_144 (by decide) ?_
            refine Ru_iaddN (pc := 148) dX12_liveDays_148 ?_
            refine Ru_putI (pc := 149) rfl dX12_liveDays_149 fl_X12_576 rfl ?_
            refine Ru_aload_n (pc := 152) dX12_liveDays_152 rfl rfl ?_
            refine Ru_dup (pc := 153) dX12_liveDays_153 rfl ?_
            refine Ru_getI (pc := 154) dX12_liveDays_154 fl_X12_579 rfl rfl ?_
            refine Ru_top ((r_sI_n (by decide)).trans ((r_sI_n (by decide)).trans ((r_sI_n (by decide)).trans h414))) ?_
            refine Ru_aload_n (pc := 157) dX12_liveDays_157 rfl rfl ?_
            refine Ru_getI (pc := 158) dX12_liveDays_158 fl_X12_534 rfl rfl ?_
            refine Ru_top ((r_sI_n (by decide)).trans ((r_sI_n (by decide)).trans ((r_sI_n (by decide)).trans k52))) ?_
            refine Ru_if_neN (pc := 161) 168 dX12_liveDays_161 (by decide) (by omega) (fun h3 => ?_) (fun h3 => ?_)
            · refine Ru_iconst (pc := 168) (nI 0) dX12_liveDays_168 rfl ?_
              refine Ru_iaddN (pc := 169) dX12_liveDays_169 ?_
              refine Ru_putI (pc := 170) rfl dX12_liveDays_170 fl_X12_579 rfl ?_
              refine Ru_iincN (pc := 173) 1 dX12_liveDays_173 rfl rfl rfl (by decide) ?_
              refine Ru_goto (pc := 176) 30 dX12_liveDays_176 (by decide) ?_
              have e2 : (jV d false 0 (n + 1)).2.2.1 = (jV d false 0 n).2.2.1 + 1 := by
                show (jV d false 0 n).2.2.1 + (if _ then _ else _) = _
                rw [if_pos (by omega)]
              have e3 : (jV d false 0 (n + 1)).2.2.2 = (jV d false 0 n).2.2.2 + 0 := by
                show (jV d false 0 n).2.2.2 + (if _ then _ else _) = _
                rw [if_neg (by omega)]
              refine Ru_weak (ih (n9 - (n + 1)) (by omega) (n + 1) _ rfl (by omega) ?_ ?_ ?_ ?_ (r_fx.sI rfl (r_fx.sI rfl (r_fx.sI rfl (r_fx.sI rfl fx4))))) rfl
              · exact ((r_sI_n (by decide)).trans ((r_sI_n (by decide)).trans r_sI_s))
              · exact ((r_sI_n (by decide)).trans ((r_sI_n (by decide)).trans ((r_sI_n (by decide)).trans r_sI_s)))
              · rw [e2]
                exact ((r_sI_n (by decide)).trans r_sI_s)
              · rw [e3]
                exact r_sI_s
            · refine Ru_iconst (pc := 164) (nI 1) dX12_liveDays_164 rfl ?_
              refine Ru_goto (pc := 165) 169 dX12_liveDays_165 (by decide) ?_
              refine Ru_iaddN (pc := 169) dX12_liveDays_169 ?_
              refine Ru_putI (pc := 170) rfl dX12_liveDays_170 fl_X12_579 rfl ?_
              refine Ru_iincN (pc := 173) 1 dX12_liveDays_173 rfl rfl rfl (by decide) ?_
              refine Ru_goto (pc := 176) 30 dX12_liveDays_176 (by decide) ?_
              have e2 : (jV d false 0 (n + 1)).2.2.1 = (jV d false 0 n).2.2.1 + 1 := by
                show (jV d false 0 n).2.2.1 + (if _ then _ else _) = _
                rw [if_pos (by omega)]
              have e3 : (jV d false 0 (n + 1)).2.2.2 = (jV d false 0 n).2.2.2 + 1 := by
                show (jV d false 0 n).2.2.2 + (if _ then _ else _) = _
                rw [if_pos (by omega)]
              refine Ru_weak (ih (n9 - (n + 1)) (by omega) (n + 1) _ rfl (by omega) ?_ ?_ ?_ ?_ (r_fx.sI rfl (r_fx.sI rfl (r_fx.sI rfl (r_fx.sI rfl fx4))))) rfl
              · exact ((r_sI_n (by decide)).trans ((r_sI_n (by decide)).trans r_sI_s))
              · exact ((r_sI_n (by decide)).trans ((r_sI_n (by decide)).trans ((r_sI_n (by decide)).trans r_sI_s)))
              · rw [e2]
                exact ((r_sI_n (by decide)).trans r_sI_s)
              · rw [e3]
                exact r_sI_s
        · exfalso
          omega

theorem c_X12_liveDays_f {Q : Rq} {M : Mem} {d : Td} (hc : ∀ k, k < 521 → M.1 5 k = nI (d k)) (wf : Wf d) (wj : Wj d) (wn : Wn d) (hwl : Wl d) (hpj : Y_pj d M) {n9 : Nat} (hn9 : n9 ≤ 99) (k : ∀ M', r_fx [(0, 29), (0, 38), (0, 39), (0, 40), (0, 41), (0, 44), (0, 45), (0, 46), (0, 47), (0, 52), (0, 53), (0, 54), (0, 55), (0, 56), (0, 57), (0, 59)] [7, 20, 21] M M' → M'.1 0 29 = nI 0 → Y_lv (f_lv (jV d false 0 n9)) M' → Q (some (.int (nI (jV d false 0 n9).1.2.2))) GY M') : Ca 5 mt_X12_liveDays 0 0 [.ref 0, .int (nI n9), .int (nI 0)] GY M Q := by
  refine Ca_of rfl (Nat.le_of_ble_eq_true rfl) ?_
  have hb := wf.1
  refine Ru_aload_n (pc := 0) dX12_liveDays_0 rfl rfl ?_
  refine Ru_iconst (pc := 1) (nI 0) dX12_liveDays_1 rfl ?_
  refine Ru_putI (pc := 2) rfl dX12_liveDays_2 fl_X12_570 rfl ?_
  refine Ru_aload_n (pc := 5) dX12_liveDays_5 rfl rfl ?_
  refine Ru_iconst (pc := 6) (nI 0) dX12_liveDays_6 rfl ?_
  refine Ru_putI (pc := 7) rfl dX12_liveDays_7 fl_X12_573 rfl ?_
  refine Ru_aload_n (pc := 10) dX12_liveDays_10 rfl rfl ?_
  refine Ru_iconst (pc := 11) (nI 0) dX12_liveDays_11 rfl ?_
  refine Ru_putI (pc := 12) rfl dX12_liveDays_12 fl_X12_576 rfl ?_
  refine Ru_aload_n (pc := 15) dX12_liveDays_15 rfl rfl ?_
  refine Ru_iconst (pc := 16) (nI 0) dX12_liveDays_16 rfl ?_
  refine Ru_putI (pc := 17) rfl dX12_liveDays_17 fl_X12_579 rfl ?_
  refine Ru_aload_n (pc := 20) dX12_liveDays_20 rfl rfl ?_
  refine Ru_iconst (pc := 21) (nI 0) dX12_liveDays_21 rfl ?_
  refine Ru_putI (pc := 22) rfl dX12_liveDays_22 fl_X12_375 rfl ?_
  refine Ru_iconst (pc := 25) (nI 0) dX12_liveDays_25 rfl ?_
  refine Ru_istore_n (pc := 26) dX12_liveDays_26 rfl rfl (by decide) ?_
  refine Ru_iconst (pc := 27) (nI 0) dX12_liveDays_27 rfl ?_
  refine Ru_istore (pc := 28) dX12_liveDays_28 rfl (by decide) ?_
  have fx1 : r_fx [(0, 29), (0, 38), (0, 39), (0, 40), (0, 41), (0, 44), (0, 45), (0, 46), (0, 47), (0, 52), (0, 53), (0, 54), (0, 55), (0, 56), (0, 57), (0, 59)] [7, 20, 21] M (r_sI (r_sI (r_sI (r_sI (r_sI M 0 38 (nI 0)) 0 39 (nI 0)) 0 40 (nI 0)) 0 41 (nI 0)) 0 29 (nI 0)) := (r_fx.sI rfl (r_fx.sI rfl (r_fx.sI rfl (r_fx.sI rfl (r_fx.sI rfl r_fx.rf)))))
  have hc1 : ∀ k, k < 521 → (r_sI (r_sI (r_sI (r_sI (r_sI M 0 38 (nI 0)) 0 39 (nI 0)) 0 40 (nI 0)) 0 41 (nI 0)) 0 29 (nI 0)).1 5 k = nI (d k) := fun k hk => (fx1 5 k rfl).1.trans (hc k hk)
  have hpj1 : Y_pj d (r_sI (r_sI (r_sI (r_sI (r_sI M 0 38 (nI 0)) 0 39 (nI 0)) 0 40 (nI 0)) 0 41 (nI 0)) 0 29 (nI 0)) := (Y_pj_dp d).kp fx1 rfl hpj
  refine Ru_weak (l_X12_live_f (n9 := n9) hc1 wf wj wn hwl hpj1 r_sI_s hn9 (fun M2 gx2 h38 h39 h40 h41 => ?_) n9 0 _ rfl (Nat.zero_le _) ((r_sI_n (by decide)).trans ((r_sI_n (by decide)).trans ((r_sI_n (by decide)).trans ((r_sI_n (by decide)).trans r_sI_s)))) ((r_sI_n (by decide)).trans ((r_sI_n (by decide)).trans ((r_sI_n (by decide)).trans r_sI_s))) ((r_sI_n (by decide)).trans ((r_sI_n (by decide)).trans r_sI_s)) ((r_sI_n (by decide)).trans r_sI_s) r_fx.rf) rfl
  have fx2 : r_fx [(0, 29), (0, 38), (0, 39), (0, 40), (0, 41), (0, 44), (0, 45), (0, 46), (0, 47), (0, 52), (0, 53), (0, 54), (0, 55), (0, 56), (0, 57), (0, 59)] [7, 20, 21] M M2 := fx1.tr (gx2.mono rfl)
  refine Ru_aload_n (pc := 179) dX12_liveDays_179 rfl rfl ?_
  refine Ru_iconst (pc := 180) (nI 1) dX12_liveDays_180 rfl ?_
  refine Ru_putZ (pc := 181) rfl dX12_liveDays_181 fl_X12_585 rfl (Or.inr rfl) ?_
  refine Ru_iload_n (pc := 184) dX12_liveDays_184 rfl rfl ?_
  refine Ru_iret (pc := 185) dX12_liveDays_185 rfl ⟨Nat.le_refl _, Nat.le_refl _⟩ ?_
  refine k _ (r_fx.sI rfl fx2) ((r_sI_n (by omega)).trans ((gx2 0 29 rfl).1.trans r_sI_s)) ⟨r_sI_s, fun _ i hi => ?_⟩
  have h4 : i = 0 ∨ i = 1 ∨ i = 2 ∨ i = 3 := by omega
  rcases h4 with rfl | rfl | rfl | rfl
  · exact (r_sI_n (by omega)).trans h38
  · exact (r_sI_n (by omega)).trans h39
  · exact (r_sI_n (by omega)).trans h40
  · exact (r_sI_n (by omega)).trans h41

theorem l_X12_live_i {Q : Rq} {M0 : Mem} {d : Td} (hc0 : ∀ k, k < 521 → M0.1 5 k = nI (d k)) (wf : Wf d) {n n9 sd z : Nat} (hz : z < 65536) (k : ∀ M', r_fx [(0, 59)] [] M0 M' → M'.1 0 59 = nI (jDr d z (d 2)).1 → Ru 5 mt_X12_liveDays r_z 89 [(0, some (.ref 0)), (1, some (.int (nI n9))), (2, some (.int (nI 1))), (3, some (.int (nI (jV d true sd n).1.2.2))), (4, some (.int (nI n))), (5, some (.int (nI (jDr d z (d 2)).2))), (6, some (.int (nI (d 2))))] [] GY M' Q) : ∀ (zw : Nat) (p : Nat) (M : Mem), d 2 - p = zw → (p ≤ d 2) → (M.1 0 59 = nI (jDr d z p).1) → (r_fx [(0, 59)] [] M0 M) → Ru 5 mt_X12_liveDays r_z 42 [(0, some (.ref 0)), (1, some (.int (nI n9))), (2, some (.int (nI 1))), (3, some (.int (nI (jV d true sd n).1.2.2))), (4, some (.int (nI n))), (5, some (.int (nI (jDr d z p).2))), (6, some (.int (nI p)))] [] GY M Q := by
  intro zw
  induction zw using Nat.strongRecOn with
  | ind zw ih =>
    intro p M hw hn h59 fx
    subst hw
    have hb := wf.1
    have hc : ∀ k, k < 521 → M.1 5 k = nI (d k) := fun k hk => (fx 5 k rfl).1.trans (hc0 k hk)
    have hdb := (jDr_b (d := d) hz p).1
    refine Ru_iload (pc := 42) dX12_liveDays_42 rfl ?_
    refine Ru_aload_n (pc := 44) dX12_liveDays_44 rfl rfl ?_
    refine Ru_getR (pc := 45) 5 dX12_liveDays_45 fl_X12_35 rfl rfl rfl ?_
    refine Ru_iconst (pc := 48) (nI 2) dX12_liveDays_48 rfl ?_
    refine Ru_iald (pc := 49) dX12_liveDays_49 rfl (by omega) ?_
    refine Ru_top (hc 2 (by omega)) ?_
    refine Ru_icmp_geN (pc := 50) 89 dX12_liveDays_50 (by decide) (by omega) (fun h1 => ?_) (fun h1 => ?_)
    · have en : p = d 2 := by omega
      subst en
      exact Ru_weak (k M fx h59) rfl
    · refine Ru_iload_n (pc := 53) dX12_liveDays_53 rfl rfl ?_
      refine Ru_if_eqN (pc := 54) 89 dX12_liveDays_54 (by decide) (by omega) (fun h2 => ?_) (fun h2 => ?_)
      · exfalso
        omega
      · have hbb := wf.2.2.2.2.2.1 p (by omega)
        refine Ru_aload_n (pc := 57) dX12_liveDays_57 rfl rfl ?_
        refine Ru_cv0 (pc := 58) dX12_liveDays_58 mv_X12_582 rfl (by decide) (Nat.le_of_ble_eq_true rfl) (c_X12_draw (z := (jDr d z p).1) hdb h59 (fun M2 gx2 h592 => ?_)) 
        have fx2 := fx.tr gx2
        have hc2 : ∀ k, k < 521 → M2.1 5 k = nI (d k) := fun k hk => (fx2 5 k rfl).1.trans (hc0 k hk)
        refine Ru_aload_n (pc := 61) dX12_liveDays_61 rfl rfl ?_
        refine Ru_getR (pc := 62) 5 dX12_liveDays_62 fl_X12_35 rfl rfl rfl ?_
        refine Ru_bipush (pc := 65) (nI 101) dX12_liveDays_65 rfl ?_
        refine Ru_iload (pc := 67) dX12_liveDays_67 rfl ?_
        refine Ru_iaddN (pc := 69) dX12_liveDays_69 ?_
        refine Ru_iald (pc := 70) dX12_liveDays_70 rfl (by omega) ?_
        refine Ru_top (hc2 (101 + p) (by omega)) ?_
        refine Ru_icmp_geN (pc := 71) 83 dX12_liveDays_71 (by decide) (by omega) (fun h3 => ?_) (fun h3 => ?_)
        · refine Ru_iincN (pc := 83) 1 dX12_liveDays_83 rfl rfl rfl (by decide) ?_
          refine Ru_goto (pc := 86) 42 dX12_liveDays_86 (by decide) ?_
          have e1 : (jDr d z (p + 1)).1 = jDw (jDr d z p).1 := rfl
          have e2 : (jDr d z (p + 1)).2 = (jDr d z p).2 := by
            rw [jDr_n]
            show (if _ then _ else _) = _
            exact if_neg (show ¬ (jDw (jDr d z p).1 / 8 % 16 < d (101 + p)) by omega)
          have hr := ih (d 2 - (p + 1)) (by omega) (p + 1) M2 rfl (by omega) (by rw [e1]; exact h592) fx2
          rw [e2] at hr
          exact Ru_weak hr rfl
        · refine Ru_iload (pc := 74) dX12_liveDays_74 rfl ?_
          refine Ru_iconst (pc := 76) (nI 1) dX12_liveDays_76 rfl ?_
          refine Ru_iload (pc := 77) dX12_liveDays_77 rfl ?_
          refine Ru_ishl1N (pc := 79) dX12_liveDays_79 (by omega) ?_
          refine Ru_iorN (pc := 80) dX12_liveDays_80 ?_
          refine Ru_istore (pc := 81) dX12_liveDays_81 rfl (by decide) ?_
          refine Ru_iincN (pc := 83) 1 dX12_liveDays_83 rfl rfl rfl (by decide) ?_
          refine Ru_goto (pc := 86) 42 dX12_liveDays_86 (by decide) ?_
          have e1 : (jDr d z (p + 1)).1 = jDw (jDr d z p).1 := rfl
          have e2 : (jDr d z (p + 1)).2 = ((jDr d z p).2 ||| (2 ^ p)) := by
            rw [jDr_n]
            show (if _ then _ else _) = _
            exact if_pos (show (jDw (jDr d z p).1 / 8 % 16 < d (101 + p)) by omega)
          have hr := ih (d 2 - (p + 1)) (by omega) (p + 1) M2 rfl (by omega) (by rw [e1]; exact h592) fx2
          rw [e2] at hr
          exact Ru_weak hr rfl

theorem l_X12_live_t {Q : Rq} {M0 : Mem} {d : Td} (hc0 : ∀ k, k < 521 → M0.1 5 k = nI (d k)) (wf : Wf d) (wj : Wj d) (wn : Wn d) (hwl : Wl d) (hpj0 : Y_pj d M0) (hal0 : M0.1 0 29 = nI 0) {n9 sd : Nat} (hn9 : n9 ≤ 99) (hsd : sd < 65536) (k : ∀ M', r_fx [(0, 38), (0, 39), (0, 40), (0, 41), (0, 45), (0, 46), (0, 47), (0, 52), (0, 53), (0, 54), (0, 55), (0, 56), (0, 57), (0, 59)] [7, 20, 21] M0 M' → M'.1 0 38 = nI (jV d true sd n9).2.1 → M'.1 0 39 = nI (jV d true sd n9).1.1 → M'.1 0 40 = nI (jV d true sd n9).2.2.1 → M'.1 0 41 = nI (jV d true sd n9).2.2.2 → Ru 5 mt_X12_liveDays r_z 179 [(0, some (.ref 0)), (1, some (.int (nI n9))), (2, some (.int (nI 1))), (3, some (.int (nI (jV d true sd n9).1.2.2))), (4, some (.int (nI n9)))] [] GY M' Q) : ∀ (zw : Nat) (n : Nat) (M : Mem), n9 - n = zw → (n ≤ n9) → (M.1 0 38 = nI (jV d true sd n).2.1) → (M.1 0 39 = nI (jV d true sd n).1.1) → (M.1 0 40 = nI (jV d true sd n).2.2.1) → (M.1 0 41 = nI (jV d true sd n).2.2.2) → (M.1 0 59 = nI (jV d true sd n).1.2.1) → (r_fx [(0, 38), (0, 39), (0, 40), (0, 41), (0, 45), (0, 46), (0, 47), (0, 52), (0, 53), (0, 54), (0, 55), (0, 56), (0, 57), (0, 59)] [7, 20, 21] M0 M) → Ru 5 mt_X12_liveDays r_z 30 [(0, some (.ref 0)), (1, some (.int (nI n9))), (2, some (.int (nI 1))), (3, some (.int (nI (jV d true sd n).1.2.2))), (4, some (.int (nI n)))] [] GY M Q := by
  intro zw
  induction zw using Nat.strongRecOn with
  | ind zw ih =>
    intro n M hw hn h38 h39 h40 h41 h59 fx
    subst hw
    have hb := wf.1
    have hc : ∀ k, k < 521 → M.1 5 k = nI (d k) := fun k hk => (fx 5 k rfl).1.trans (hc0 k hk)
    have hpj : Y_pj d M := (Y_pj_dp d).kp fx rfl hpj0
    have hal : M.1 0 29 = nI 0 := (fx 0 29 rfl).1.trans hal0
    have hvb := jV_b (d := d) wf (il := true) (s := sd) (by omega) n
    refine Ru_iload (pc := 30) dX12_liveDays_30 rfl ?_
    refine Ru_iload_n (pc := 32) dX12_liveDays_32 rfl rfl ?_
    refine Ru_icmp_geN (pc := 33) 179 dX12_liveDays_33 (by decide) (by omega) (fun h1 => ?_) (fun h1 => ?_)
    · have en : n = n9 := by omega
      subst en
      exact Ru_weak (k M fx h38 h39 h40 h41) rfl
    · refine Ru_iconst (pc := 36) (nI 0) dX12_liveDays_36 rfl ?_
      refine Ru_istore (pc := 37) dX12_liveDays_37 rfl (by decide) ?_
      refine Ru_iconst (pc := 39) (nI 0) dX12_liveDays_39 rfl ?_
      refine Ru_istore (pc := 40) dX12_liveDays_40 rfl (by decide) ?_
      refine Ru_weak (l_X12_live_i (n := n) (n9 := n9) (z := (jV d true sd n).1.2.1) hc wf hvb.2 (fun M3 gx3 h593 => ?_) (d 2) 0 M rfl (Nat.zero_le _) h59 r_fx.rf) rfl
      have fx3 : r_fx [(0, 38), (0, 39), (0, 40), (0, 41), (0, 45), (0, 46), (0, 47), (0, 52), (0, 53), (0, 54), (0, 55), (0, 56), (0, 57), (0, 59)] [7, 20, 21] M0 M3 := fx.tr (gx3.mono rfl)
      have h383 : M3.1 0 38 = nI (jV d true sd n).2.1 := (gx3 0 38 rfl).1.trans h38
      have h393 : M3.1 0 39 = nI (jV d true sd n).1.1 := (gx3 0 39 rfl).1.trans h39
      have h403 : M3.1 0 40 = nI (jV d true sd n).2.2.1 := (gx3 0 40 rfl).1.trans h40
      have h413 : M3.1 0 41 = nI (jV d true sd n).2.2.2 := (gx3 0 41 rfl).1.trans h41
      have hc3 : ∀ k, k < 521 → M3.1 5 k = nI (d k) := fun k hk => (fx3 5 k rfl).1.trans (hc0 k hk)
      have hpj3 : Y_pj d M3 := (Y_pj_dp d).kp fx3 rfl hpj0
      have hal3 : M3.1 0 29 = nI 0 := (fx3 0 29 rfl).1.trans hal0
      have eS : jSk d true (jV d true sd n).1.2.1 = jDr d (jV d true sd n).1.2.1 (d 2) := rfl
      rw [← eS] at h593
      refine Ru_weak (L' := [(0, some (.ref 0)), (1, some (.int (nI n9))), (2, some (.int (nI 1))), (3, some (.int (nI (jV d true sd n).1.2.2))), (4, some (.int (nI n))), (5, some (.int (nI (jSk d true (jV d true sd n).1.2.1).2))), (6, some (.int (nI (d 2))))]) ?_ rfl
      refine Ru_aload_n (pc := 89) dX12_liveDays_89 rfl rfl ?_
      refine Ru_aload_n (pc := 90) dX12_liveDays_90 rfl rfl ?_
      refine Ru_aload_n (pc := 91) dX12_liveDays_91 rfl rfl ?_
      refine Ru_getI (pc := 92) dX12_liveDays_92 fl_X12_573 rfl rfl ?_
      refine Ru_top h393 ?_
      refine Ru_iload (pc := 95) dX12_liveDays_95 rfl ?_
      refine Ru_iload (pc := 97) dX12_liveDays_97 rfl ?_
      refine Ru_cv3 (pc := 99) dX12_liveDays_99 mv_X12_558 rfl (by decide) (Nat.le_of_ble_eq_true rfl) (c_X12_doDay (s := (jV d true sd n).1.1) (y := n) (ill := (jSk d true (jV d true sd n).1.2.1).2) hc3 wf wj wn hwl hpj3 hal3 hvb.1 (by omega) (jSk_b wf hvb.2) (fun M4 gx4 k52 k53 k54 k55 k56 k21 => ?_)) 
      have fx4 : r_fx [(0, 38), (0, 39), (0, 40), (0, 41), (0, 45), (0, 46), (0, 47), (0, 52), (0, 53), (0, 54), (0, 55), (0, 56), (0, 57), (0, 59)] [7, 20, 21] M0 M4 := fx3.tr (gx4.mono rfl)
      have h384 : M4.1 0 38 = nI (jV d true sd n).2.1 := (gx4 0 38 rfl).1.trans h383
      have h394 : M4.1 0 39 = nI (jV d true sd n).1.1 := (gx4 0 39 rfl).1.trans h393
      have h404 : M4.1 0 40 = nI (jV d true sd n).2.2.1 := (gx4 0 40 rfl).1.trans h403
      have h414 : M4.1 0 41 = nI (jV d true sd n).2.2.2 := (gx4 0 41 rfl).1.trans h413
      have h594 : M4.1 0 59 = nI (jSk d true (jV d true sd n).1.2.1).1 := (gx4 0 59 rfl).1.trans h593
      have hc4 : ∀ k, k < 521 → M4.1 5 k = nI (d k) := fun k hk => (fx4 5 k rfl).1.trans (hc0 k hk)
      have hhb := jX_had wf (jV d true sd n).1.1 (jSk d true (jV d true sd n).1.2.1).2
      have hzb := jX_z wf (jV d true sd n).1.1 (jSk d true (jV d true sd n).1.2.1).2
      have hwb := (jT_b wf (x := jX0 d (jV d true sd n).1.1 (jSk d true (jV d true sd n).1.2.1).2) ⟨rfl, rfl⟩ 25).1
      have hwb2 : (jX d (jV d true sd n).1.1 (jSk d true (jV d true sd n).1.2.1).2).2.1 ≤ 7992 * 25 := hwb
      refine Ru_putI (pc := 102) rfl dX12_liveDays_102 fl_X12_573 rfl ?_
      refine Ru_iload_n (pc := 105) dX12_liveDays_105 rfl rfl ?_
      refine Ru_aload_n (pc := 106) dX12_liveDays_106 rfl rfl ?_
      refine Ru_getI (pc := 107) dX12_liveDays_107 fl_X12_534 rfl rfl ?_
      refine Ru_top ((r_sI_n (by decide)).trans k52) ?_
      refine Ru_iaddN (pc := 110) dX12_liveDays_110 ?_
      refine Ru_istore_n (pc := 111) dX12_liveDays_111 rfl rfl (by decide) ?_
      refine Ru_aload_n (pc := 112) dX12_liveDays_112 rfl rfl ?_
      refine Ru_dup (pc := 113) dX12_liveDays_113 rfl ?_
      refine Ru_getI (pc := 114) dX12_liveDays_114 fl_X12_570 rfl rfl ?_
      refine Ru_top ((r_sI_n (by decide)).trans h384) ?_
      refine Ru_aload_n (pc := 117) dX12_liveDays_117 rfl rfl ?_
      refine Ru_getI (pc := 118) dX12_liveDays_118 fl_X12_555 rfl rfl ?_
      refine Ru_top ((r_sI_n (by decide)).trans k54) ?_
      refine Ru_iaddN (pc := 121) dX12_liveDays_121 ?_
      refine Ru_putI (pc := 122) rfl dX12_liveDays_122 fl_X12_570 rfl ?_
      refine Ru_aload_n (pc := 125) dX12_liveDays_125 rfl rfl ?_
      refine Ru_dup (pc := 126) dX12_liveDays_126 rfl ?_
      refine Ru_getI (pc := 127) dX12_liveDays_127 fl_X12_576 rfl rfl ?_
      refine Ru_top ((r_sI_n (by decide)).trans ((r_sI_n (by decide)).trans h404)) ?_
      refine Ru_aload_n (pc := 130) dX12_liveDays_130 rfl rfl ?_
      refine Ru_getI (pc := 131) dX12_liveDays_131 fl_X12_537 rfl rfl ?_
      refine Ru_top ((r_sI_n (by decide)).trans ((r_sI_n (by decide)).trans k53)) ?_
      refine Ru_aload_n (pc := 134) dX12_liveDays_134 rfl rfl ?_
      refine Ru_getR (pc := 135) 5 dX12_liveDays_135 fl_X12_35 rfl rfl rfl ?_
      refine Ru_iconst (pc := 138) (nI 3) dX12_liveDays_138 rfl ?_
      refine Ru_iald (pc := 139) dX12_liveDays_139 rfl (by omega) ?_
      refine Ru_top ((r_sI_n (by decide)).trans ((r_sI_n (by decide)).trans (hc4 3 (by omega)))) ?_
      refine Ru_icmp_neN (pc := 140) 147 dX12_liveDays_140 (by decide) ⟨by omega, by omega⟩ (fun h1 => ?_) (fun h1 => ?_)
      · refine Ru_iconst (pc := 147) (nI 0) dX12_liveDays_147 rfl ?_
        refine Ru_iaddN (pc := 148) dX12_liveDays_148 ?_
        refine Ru_putI (pc := 149) rfl dX12_liveDays_149 fl_X12_576 rfl ?_
        refine Ru_aload_n (pc := 152) dX12_liveDays_152 rfl rfl ?_
        refine Ru_dup (pc := 153) dX12_liveDays_153 rfl ?_
        refine Ru_getI (pc := 154) dX12_liveDays_154 fl_X12_579 rfl rfl ?_
        refine Ru_top ((r_sI_n (by decide)).trans ((r_sI_n (by decide)).trans ((r_sI_n (by decide)).trans h414))) ?_
        refine Ru_aload_n (pc := 157) dX12_liveDays_157 rfl rfl ?_
        refine Ru_getI (pc := 158) dX12_liveDays_158 fl_X12_534 rfl rfl ?_
        refine Ru_top ((r_sI_n (by decide)).trans ((r_sI_n (by decide)).trans ((r_sI_n (by decide)).trans k52))) ?_
        refine Ru_if_neN (pc := 161) 168 dX12_liveDays_161 (by decide) (by omega) (fun h2 => ?_) (fun h2 => ?_)
        · refine Ru_iconst (pc := 168) (nI 0) dX12_liveDays_168 rfl ?_
          refine Ru_iaddN (pc := 169) dX12_liveDays_169 ?_
          refine Ru_putI (pc := 170) rfl dX12_liveDays_170 fl_X12_579 rfl ?_
          refine Ru_iincN (pc := 173) 1 dX12_liveDays_173 rfl rfl rfl (by decide) ?_
          refine Ru_goto (pc := 176) 30 dX12_liveDays_176 (by decide) ?_
          have e2 : (jV d true sd (n + 1)).2.2.1 = (jV d true sd n).2.2.1 + 0 := by
            show (jV d true sd n).2.2.1 + (if _ then _ else _) = _
            rw [if_neg (by omega)]
          have e3 : (jV d true sd (n + 1)).2.2.2 = (jV d true sd n).2.2.2 + 0 := by
            show (jV d true sd n).2.2.2 + (if _ then _ else _) = _
            rw [if_neg (by omega)]
          refine Ru_weak (ih (n9 - (n + 1)) (by omega) (n + 1) _ rfl (by omega) ?_ ?_ ?_ ?_ ?_ (r_fx.sI rfl (r_fx.sI rfl (r_fx.sI rfl (r_fx.sI rfl fx4))))) rfl
          · exact ((r_sI_n (by decide)).trans ((r_sI_n (by decide)).trans r_sI_s))
          · exact ((r_sI_n (by decide)).trans ((r_sI_n (by decide)).trans ((r_sI_n (by decide)).trans r_sI_s)))
          · rw [e2]
            exact ((r_sI_n (by decide)).trans r_sI_s)
          · rw [e3]
            exact r_sI_s
          · exact ((r_sI_n (by decide)).trans ((r_sI_n (by decide)).trans ((r_sI_n (by decide)).trans ((r_sI_n (by decide)).trans h594))))
        · refine Ru_iconst (pc := 164) (nI 1) dX12_liveDays_164 rfl ?_
          refine Ru_goto (pc := 165) 169 dX12_liveDays_165 (by decide) ?_
          refine Ru_iaddN (pc := 169) dX12_liveDays_169 ?_
          refine Ru_putI (pc := 170) rfl dX12_liveDays_170 fl_X12_579 rfl ?_
          refine Ru_iincN (pc := 173) 1 dX12_liveDays_173 rfl rfl rfl (by decide) ?_
          refine Ru_goto (pc := 176) 30 dX12_liveDays_176 (by decide) ?_
          have e2 : (jV d true sd (n + 1)).2.2.1 = (jV d true sd n).2.2.1 + 0 := by
            show (jV d true sd n).2.2.1 + (if _ then _ else _) = _
            rw [if_neg (by omega)]
          have e3 : (jV d true sd (n + 1)).2.2.2 = (jV d true sd n).2.2.2 + 1 := by
            show (jV d true sd n).2.2.2 + (if _ then _ else _) = _
            rw [if_pos (by omega)]
          refine Ru_weak (ih (n9 - (n + 1)) (by omega) (n + 1) _ rfl (by omega) ?_ ?_ ?_ ?_ ?_ (r_fx.sI rfl (r_fx.sI rfl (r_fx.sI rfl (r_fx.sI rfl fx4))))) rfl
          · exact ((r_sI_n (by decide)).trans ((r_sI_n (by decide)).trans r_sI_s))
          · exact ((r_sI_n (by decide)).trans ((r_sI_n (by decide)).trans ((r_sI_n (by decide)).trans r_sI_s)))
          · rw [e2]
            exact ((r_sI_n (by decide)).trans r_sI_s)
          · rw [e3]
            exact r_sI_s
          · exact ((r_sI_n (by decide)).trans ((r_sI_n (by decide)).trans ((r_sI_n (by decide)).trans ((r_sI_n (by decide)).trans h594))))
      · refine Ru_iconst (pc := 143) (nI 1) dX12_liveDays_143 rfl ?_
        refine Ru_goto (pc := 144) 148 dX12_liveDays_144 (by decide) ?_
        refine Ru_iaddN (pc := 148) dX12_liveDays_148 ?_
        refine Ru_putI (pc := 149) rfl dX12_liveDays_149 fl_X12_576 rfl ?_
        refine Ru_aload_n (pc := 152) dX12_liveDays_152 rfl rfl ?_
        refine Ru_dup (pc := 153) dX12_liveDays_153 rfl ?_
        refine Ru_getI (pc := 154) dX12_liveDays_154 fl_X12_579 rfl rfl ?_
        refine Ru_top ((r_sI_n (by decide)).trans ((r_sI_n (by decide)).trans ((r_sI_n (by decide)).trans h414))) ?_
        refine Ru_aload_n (pc := 157) dX12_liveDays_157 rfl rfl ?_
        refine Ru_getI (pc := 158) dX12_liveDays_158 fl_X12_534 rfl rfl ?_
        refine Ru_top ((r_sI_n (by decide)).trans ((r_sI_n (by decide)).trans ((r_sI_n (by decide)).trans k52))) ?_
        refine Ru_if_neN (pc := 161) 168 dX12_liveDays_161 (by decide) (by omega) (fun h3 => ?_) (fun h3 => ?_)
        · refine Ru_iconst (pc := 168) (nI 0) dX12_liveDays_168 rfl ?_
          refine Ru_iaddN (pc := 169) dX12_liveDays_169 ?_
          refine Ru_putI (pc := 170) rfl dX12_liveDays_170 fl_X12_579 rfl ?_
          refine Ru_iincN (pc := 173) 1 dX12_liveDays_173 rfl rfl rfl (by decide) ?_
          refine Ru_goto (pc := 176) 30 dX12_liveDays_176 (by decide) ?_
          have e2 : (jV d true sd (n + 1)).2.2.1 = (jV d true sd n).2.2.1 + 1 := by
            show (jV d true sd n).2.2.1 + (if _ then _ else _) = _
            rw [if_pos (by omega)]
          have e3 : (jV d true sd (n + 1)).2.2.2 = (jV d true sd n).2.2.2 + 0 := by
            show (jV d true sd n).2.2.2 + (if _ then _ else _) = _
            rw [if_neg (by omega)]
          refine Ru_weak (ih (n9 - (n + 1)) (by omega) (n + 1) _ rfl (by omega) ?_ ?_ ?_ ?_ ?_ (r_fx.sI rfl (r_fx.sI rfl (r_fx.sI rfl (r_fx.sI rfl fx4))))) rfl
          · exact ((r_sI_n (by decide)).trans ((r_sI_n (by decide)).trans r_sI_s))
          · exact ((r_sI_n (by decide)).trans ((r_sI_n (by decide)).trans ((r_sI_n (by decide)).trans r_sI_s)))
          · rw [e2]
            exact ((r_sI_n (by decide)).trans r_sI_s)
          · rw [e3]
            exact r_sI_s
          · exact ((r_sI_n (by decide)).trans ((r_sI_n (by decide)).trans ((r_sI_n (by decide)).trans ((r_sI_n (by decide)).trans h594))))
        · refine Ru_iconst (pc := 164) (nI 1) dX12_liveDays_164 rfl ?_
          refine Ru_goto (pc := 165) 169 dX12_liveDays_165 (by decide) ?_
          refine Ru_iaddN (pc := 169) dX12_liveDays_169 ?_
          refine Ru_putI (pc := 170) rfl dX12_liveDays_170 fl_X12_579 rfl ?_
          refine Ru_iincN (pc := 173) 1 dX12_liveDays_173 rfl rfl rfl (by decide) ?_
          refine Ru_goto (pc := 176) 30 dX12_liveDays_176 (by decide) ?_
          have e2 : (jV d true sd (n + 1)).2.2.1 = (jV d true sd n).2.2.1 + 1 := by
            show (jV d true sd n).2.2.1 + (if _ then _ else _) = _
            rw [if_pos (by omega)]
          have e3 : (jV d true sd (n + 1)).2.2.2 = (jV d true sd n).2.2.2 + 1 := by
            show (jV d true sd n).2.2.2 + (if _ then _ else _) = _
            rw [if_pos (by omega)]
          refine Ru_weak (ih (n9 - (n + 1)) (by omega) (n + 1) _ rfl (by omega) ?_ ?_ ?_ ?_ ?_ (r_fx.sI rfl (r_fx.sI rfl (r_fx.sI rfl (r_fx.sI rfl fx4))))) rfl
          · exact ((r_sI_n (by decide)).trans ((r_sI_n (by decide)).trans r_sI_s))
          · exact ((r_sI_n (by decide)).trans ((r_sI_n (by decide)).trans ((r_sI_n (by decide)).trans r_sI_s)))
          · rw [e2]
            exact ((r_sI_n (by decide)).trans r_sI_s)
          · rw [e3]
            exact r_sI_s
          · exact ((r_sI_n (by decide)).trans ((r_sI_n (by decide)).trans ((r_sI_n (by decide)).trans ((r_sI_n (by decide)).trans h594))))

theorem c_X12_liveDays_t {Q : Rq} {M : Mem} {d : Td} (hc : ∀ k, k < 521 → M.1 5 k = nI (d k)) (wf : Wf d) (wj : Wj d) (wn : Wn d) (hwl : Wl d) (hpj : Y_pj d M) {n9 sd : Nat} (hn9 : n9 ≤ 99) (hsd : sd < 65536) (h59 : M.1 0 59 = nI sd) (k : ∀ M', r_fx [(0, 29), (0, 38), (0, 39), (0, 40), (0, 41), (0, 44), (0, 45), (0, 46), (0, 47), (0, 52), (0, 53), (0, 54), (0, 55), (0, 56), (0, 57), (0, 59)] [7, 20, 21] M M' → M'.1 0 29 = nI 0 → Y_lv (f_lv (jV d true sd n9)) M' → Q (some (.int (nI (jV d true sd n9).1.2.2))) GY M') : Ca 5 mt_X12_liveDays 0 0 [.ref 0, .int (nI n9), .int (nI 1)] GY M Q := by
  refine Ca_of rfl (Nat.le_of_ble_eq_true rfl) ?_
  have hb := wf.1
  refine Ru_aload_n (pc := 0) dX12_liveDays_0 rfl rfl ?_
  refine Ru_iconst (pc := 1) (nI 0) dX12_liveDays_1 rfl ?_
  refine Ru_putI (pc := 2) rfl dX12_liveDays_2 fl_X12_570 rfl ?_
  refine Ru_aload_n (pc := 5) dX12_liveDays_5 rfl rfl ?_
  refine Ru_iconst (pc := 6) (nI 0) dX12_liveDays_6 rfl ?_
  refine Ru_putI (pc := 7) rfl dX12_liveDays_7 fl_X12_573 rfl ?_
  refine Ru_aload_n (pc := 10) dX12_liveDays_10 rfl rfl ?_
  refine Ru_iconst (pc := 11) (nI 0) dX12_liveDays_11 rfl ?_
  refine Ru_putI (pc := 12) rfl dX12_liveDays_12 fl_X12_576 rfl ?_
  refine Ru_aload_n (pc := 15) dX12_liveDays_15 rfl rfl ?_
  refine Ru_iconst (pc := 16) (nI 0) dX12_liveDays_16 rfl ?_
  refine Ru_putI (pc := 17) rfl dX12_liveDays_17 fl_X12_579 rfl ?_
  refine Ru_aload_n (pc := 20) dX12_liveDays_20 rfl rfl ?_
  refine Ru_iconst (pc := 21) (nI 0) dX12_liveDays_21 rfl ?_
  refine Ru_putI (pc := 22) rfl dX12_liveDays_22 fl_X12_375 rfl ?_
  refine Ru_iconst (pc := 25) (nI 0) dX12_liveDays_25 rfl ?_
  refine Ru_istore_n (pc := 26) dX12_liveDays_26 rfl rfl (by decide) ?_
  refine Ru_iconst (pc := 27) (nI 0) dX12_liveDays_27 rfl ?_
  refine Ru_istore (pc := 28) dX12_liveDays_28 rfl (by decide) ?_
  have fx1 : r_fx [(0, 29), (0, 38), (0, 39), (0, 40), (0, 41), (0, 44), (0, 45), (0, 46), (0, 47), (0, 52), (0, 53), (0, 54), (0, 55), (0, 56), (0, 57), (0, 59)] [7, 20, 21] M (r_sI (r_sI (r_sI (r_sI (r_sI M 0 38 (nI 0)) 0 39 (nI 0)) 0 40 (nI 0)) 0 41 (nI 0)) 0 29 (nI 0)) := (r_fx.sI rfl (r_fx.sI rfl (r_fx.sI rfl (r_fx.sI rfl (r_fx.sI rfl r_fx.rf)))))
  have hc1 : ∀ k, k < 521 → (r_sI (r_sI (r_sI (r_sI (r_sI M 0 38 (nI 0)) 0 39 (nI 0)) 0 40 (nI 0)) 0 41 (nI 0)) 0 29 (nI 0)).1 5 k = nI (d k) := fun k hk => (fx1 5 k rfl).1.trans (hc k hk)
  have hpj1 : Y_pj d (r_sI (r_sI (r_sI (r_sI (r_sI M 0 38 (nI 0)) 0 39 (nI 0)) 0 40 (nI 0)) 0 41 (nI 0)) 0 29 (nI 0)) := (Y_pj_dp d).kp fx1 rfl hpj
  refine Ru_weak (l_X12_live_t (n9 := n9) (sd := sd) hc1 wf wj wn hwl hpj1 r_sI_s hn9 hsd (fun M2 gx2 h38 h39 h40 h41 => ?_) n9 0 _ rfl (Nat.zero_le _) ((r_sI_n (by decide)).trans ((r_sI_n (by decide)).trans ((r_sI_n (by decide)).trans ((r_sI_n (by decide)).trans r_sI_s)))) ((r_sI_n (by decide)).trans ((r_sI_n (by decide)).trans ((r_sI_n (by decide)).trans r_sI_s))) ((r_sI_n (by decide)).trans ((r_sI_n (by decide)).trans r_sI_s)) ((r_sI_n (by decide)).trans r_sI_s) ((r_sI_n (by decide)).trans ((r_sI_n (by decide)).trans ((r_sI_n (by decide)).trans ((r_sI_n (by decide)).trans ((r_sI_n (by decide)).trans h59))))) r_fx.rf) rfl
  have fx2 : r_fx [(0, 29), (0, 38), (0, 39), (0, 40), (0, 41), (0, 44), (0, 45), (0, 46), (0, 47), (0, 52), (0, 53), (0, 54), (0, 55), (0, 56), (0, 57), (0, 59)] [7, 20, 21] M M2 := fx1.tr (gx2.mono rfl)
  refine Ru_aload_n (pc := 179) dX12_liveDays_179 rfl rfl ?_
  refine Ru_iconst (pc := 180) (nI 1) dX12_liveDays_180 rfl ?_
  refine Ru_putZ (pc := 181) rfl dX12_liveDays_181 fl_X12_585 rfl (Or.inr rfl) ?_
  refine Ru_iload_n (pc := 184) dX12_liveDays_184 rfl rfl ?_
  refine Ru_iret (pc := 185) dX12_liveDays_185 rfl ⟨Nat.le_refl _, Nat.le_refl _⟩ ?_
  refine k _ (r_fx.sI rfl fx2) ((r_sI_n (by omega)).trans ((gx2 0 29 rfl).1.trans r_sI_s)) ⟨r_sI_s, fun _ i hi => ?_⟩
  have h4 : i = 0 ∨ i = 1 ∨ i = 2 ∨ i = 3 := by omega
  rcases h4 with rfl | rfl | rfl | rfl
  · exact (r_sI_n (by omega)).trans h38
  · exact (r_sI_n (by omega)).trans h39
  · exact (r_sI_n (by omega)).trans h40
  · exact (r_sI_n (by omega)).trans h41
