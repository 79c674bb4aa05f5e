-- READING: the developers' law: EITHER

theorem l_X2_ei {Q : Rq} {M0 : Mem} {T : Tx} {cnt u lw w h : Nat} {x : St9} {g : Lg} {R : Lq × Ps} (tw : Tw T) (hT3 : T.2 ≤ 300) (hu : isTown u) (hl : isLaw lw) (bw0 : X_bw u x M0) (hg : lGd T 0 0 g) (H : XL T x cnt lw u mt_X2_buildOne h w g) (k : ∀ M', r_ow (lP lw) M0 M' → X_rd T cnt R.2 M' → (R.2.2 = 0 → X_lz lw R.1 M') → Q (some (.int (r_b (decide (R.2.2 = 0))))) GX M') : ∀ (zw : Nat) (i : Nat) (oo : Nat) (aa : Nat) (fa : Nat) (fo : Nat) (y : Lq) (s : Ps) (M : Mem), 300 - i = zw → (oo ≤ 1) → (aa ≤ 1) → (s.2 = 0) → (X_rd T cnt s M) → (X_lz lw y M) → (y.2.1 ≤ 20) → (2 * (y.1 + aa + oo) ≤ tp T s.1) → (2 * i ≤ s.1) → (i = 0 ∨ s.1 ≤ 300) → (801 ≤ fa + s.1) → (801 ≤ fo + s.1) → (oE T g oo fo (aE T g aa fa (g y s)) = R) → (r_ow (lP lw) M0 M) → Ru (h + 1) mt_X2_buildEither r_z 9 [(0, some (.ref lw)), (1, some (.ref 40)), (2, some (.ref (u + 1))), (3, some (.int (nI w))), (4, some (.int (nI oo))), (5, some (.int (nI aa))), (6, some (.int (nI i)))] [] GX M Q := by
  intro zw
  induction zw using Nat.strongRecOn with
  | ind zw ih =>
    intro i oo aa fa fo y s M hw hoo haa h0 hr hz hc hB hi2 hi3 hfa hfo hR cw
    subst hw
    have npu := lP_u hu hl
    refine Ru_iload (pc := 9) dX2_buildEither_9 rfl ?_
    refine Ru_sipush (pc := 11) (nI 300) dX2_buildEither_11 rfl ?_
    refine Ru_icmp_geN (pc := 14) 114 dX2_buildEither_14 (by decide) (by omega) (fun h1 => ?_) (fun h1 => ?_)
    · exfalso
      omega
    · refine Ru_aload_n (pc := 17) dX2_buildEither_17 rfl rfl ?_
      refine Ru_aload_n (pc := 18) dX2_buildEither_18 rfl rfl ?_
      refine Ru_aload_n (pc := 19) dX2_buildEither_19 rfl rfl ?_
      refine Ru_iload_n (pc := 20) dX2_buildEither_20 rfl rfl ?_
      refine Ru_cv3 (pc := 21) dX2_buildEither_21 mv_X2_52 (shLaw_0 hl) (by omega) (Nat.le_of_ble_eq_true rfl) (H _ M s y h0 hr (X_bw_ow hu cw npu bw0) hz hc (by omega) (fun M2 ow2 hr2 hzq => ?_)) 
      have cw2 := cw.tr ow2
      refine Ru_if_neB (pc := 24) 29 dX2_buildEither_24 (by decide) (fun h2 => ?_) (fun h2 => ?_)
      · replace h2 := of_decide_eq_true h2
        have hq0 := h2
        have hz2 := hzq hq0
        obtain ⟨w1, w2, w3, w4, w5⟩ := hg.2 y s h0 (Nat.zero_le _) hc hq0
        have wt := tp_le tw (g y s).2.1
        have hk155 := tK_155 T (g y s).2.1
        have wc := w4 hc
        refine Ru_iload (pc := 29) dX2_buildEither_29 rfl ?_
        refine Ru_if_eqN (pc := 31) 41 dX2_buildEither_31 (by decide) (by omega) (fun h3 => ?_) (fun h3 => ?_)
        · have haa0 : aa = 0 := h3
          refine Ru_aload_n (pc := 41) dX2_buildEither_41 rfl rfl ?_
          refine Ru_cv0 (pc := 42) dX2_buildEither_42 mv_X2_34 rfl (by omega) (Nat.le_of_ble_eq_true rfl) (c_X8_kind (s := (g y s).2) tw hr2 hq0 ?_) 
          refine Ru_sipush (pc := 45) (nI 152) dX2_buildEither_45 rfl ?_
          refine Ru_icmp_neN (pc := 48) 55 dX2_buildEither_48 (by decide) (by omega) (fun h4 => ?_) (fun h4 => ?_)
          · have hk152 : ¬ tK T (g y s).2.1 = 152 := h4
            refine Ru_iconst (pc := 55) (nI 0) dX2_buildEither_55 rfl ?_
            refine Ru_istore (pc := 56) dX2_buildEither_56 rfl (by decide) ?_
            refine Ru_iload (pc := 58) dX2_buildEither_58 rfl ?_
            refine Ru_if_neN (pc := 60) 92 dX2_buildEither_60 (by decide) (by omega) (fun h5 => ?_) (fun h5 => ?_)
            · exfalso
              omega
            · refine Ru_iload (pc := 63) dX2_buildEither_63 rfl ?_
              refine Ru_if_eqN (pc := 65) 75 dX2_buildEither_65 (by decide) (by omega) (fun h6 => ?_) (fun h6 => ?_)
              · have hoo0 : oo = 0 := h6
                refine Ru_aload_n (pc := 75) dX2_buildEither_75 rfl rfl ?_
                refine Ru_cv0 (pc := 76) dX2_buildEither_76 mv_X2_34 rfl (by omega) (Nat.le_of_ble_eq_true rfl) (c_X8_kind (s := (g y s).2) tw hr2 hq0 ?_) 
                refine Ru_sipush (pc := 79) (nI 151) dX2_buildEither_79 rfl ?_
                refine Ru_icmp_neN (pc := 82) 89 dX2_buildEither_82 (by decide) (by omega) (fun h7 => ?_) (fun h7 => ?_)
                · have hk151 : ¬ tK T (g y s).2.1 = 151 := h7
                  refine Ru_iconst (pc := 89) (nI 0) dX2_buildEither_89 rfl ?_
                  refine Ru_istore (pc := 90) dX2_buildEither_90 rfl (by decide) ?_
                  refine Ru_iload (pc := 92) dX2_buildEither_92 rfl ?_
                  refine Ru_if_neN (pc := 94) 104 dX2_buildEither_94 (by decide) (by omega) (fun h8 => ?_) (fun h8 => ?_)
                  · exfalso
                    omega
                  · refine Ru_iload (pc := 97) dX2_buildEither_97 rfl ?_
                    refine Ru_if_neN (pc := 99) 104 dX2_buildEither_99 (by decide) (by omega) (fun h9 => ?_) (fun h9 => ?_)
                    · exfalso
                      omega
                    · refine Ru_iconst (pc := 102) (nI 1) dX2_buildEither_102 rfl ?_
                      refine Ru_zret (pc := 103) dX2_buildEither_103 rfl ⟨Nat.le_refl _, Nat.le_refl _⟩ (Or.inr rfl) ?_
                      have eY1 : (if aa = 0 then (g y s).1 else lSt 8 0 (g y s).1 (g y s).2) = (g y s).1 := if_pos haa0
                      have eY2 : (if oo = 0 then (g y s).1 else lSt 9 0 (g y s).1 (g y s).2) = (g y s).1 := if_pos hoo0
                      have eR : R = ((g y s).1, (g y s).2) := by
                        rw [← hR, aE_n eY1 hk152, oE_n eY2 hk151]
                      have hn : R.2.2 = 0 := by
                        rw [eR]
                        exact hq0
                      exact r_qe (r_b_t (decide_eq_true hn)) (k M2 cw2 (by rw [eR]; exact hr2) (fun q => by rw [eR]; exact hz2))
                · have hk151 : tK T (g y s).2.1 = 151 := h7
                  refine Ru_iconst (pc := 85) (nI 1) dX2_buildEither_85 rfl ?_
                  refine Ru_goto (pc := 86) 90 dX2_buildEither_86 (by decide) ?_
                  refine Ru_istore (pc := 90) dX2_buildEither_90 rfl (by decide) ?_
                  refine Ru_iload (pc := 92) dX2_buildEither_92 rfl ?_
                  refine Ru_if_neN (pc := 94) 104 dX2_buildEither_94 (by decide) (by omega) (fun h10 => ?_) (fun h10 => ?_)
                  · exfalso
                    omega
                  · refine Ru_iload (pc := 97) dX2_buildEither_97 rfl ?_
                    refine Ru_if_neN (pc := 99) 104 dX2_buildEither_99 (by decide) (by omega) (fun h11 => ?_) (fun h11 => ?_)
                    · refine Ru_aload_n (pc := 104) dX2_buildEither_104 rfl rfl ?_
                      refine Ru_cv0 (pc := 105) dX2_buildEither_105 mv_X2_59 rfl (by omega) (Nat.le_of_ble_eq_true rfl) (c_X8_next (s := (g y s).2) tw hr2 hq0 (by omega) (fun M3 gx3 (hr3 : X_rd T cnt ((g y s).2.1 + 1, 0) M3) => ?_)) 
                      have cw3 := cw2.fx1 (gx3.mono rfl)
                      have hz3 := lz_fx hl (gx3.mono rfl) hz2
                      refine Ru_iincN (pc := 108) 1 dX2_buildEither_108 rfl rfl rfl (by decide) ?_
                      refine Ru_goto (pc := 111) 9 dX2_buildEither_111 (by decide) ?_
                      have hpn : (g y s).2.1 < 300 := by
                        have h9 := (tK_i tw (i := (g y s).2.1) (by omega))
                        omega
                      have hp2 := tpq2 tw (i := (g y s).2.1) (by omega)
                      have hp1 := tpq1 tw (i := (g y s).2.1)
                      have eY1 : (if aa = 0 then (g y s).1 else lSt 8 0 (g y s).1 (g y s).2) = (g y s).1 := if_pos haa0
                      have eY2 : (if oo = 0 then (g y s).1 else lSt 9 0 (g y s).1 (g y s).2) = (g y s).1 := if_pos hoo0
                      obtain ⟨f', rfl⟩ : ∃ f', fo = f' + 1 := ⟨fo - 1, by omega⟩
                      have hR2 : oE T g 1 f' (aE T g 0 801 (g (g y s).1 ((g y s).2.1 + 1, 0))) = R := by
                        rw [← oE_y eY2 hq0 hk151, ← aE_n (f := fa) eY1 hk152]
                        exact hR
                      refine Ru_weak (ih (300 - (i + 1)) (by omega) (i + 1) 1 0 801 f' (g y s).1 ((g y s).2.1 + 1, 0) M3 rfl (by decide) (by decide) rfl hr3 hz3 wc ?_ ?_ ?_ ?_ ?_ hR2 cw3) rfl
                      · show 2 * ((g y s).1.1 + 0 + 1) ≤ tp T ((g y s).2.1 + 1)
                        omega
                      · show 2 * (i + 1) ≤ (g y s).2.1 + 1
                        omega
                      · exact Or.inr (by show (g y s).2.1 + 1 ≤ 300; omega)
                      · show 801 ≤ 801 + ((g y s).2.1 + 1)
                        omega
                      · show 801 ≤ f' + ((g y s).2.1 + 1)
                        omega
                    · exfalso
                      omega
              · have hoo0 : ¬ oo = 0 := h6
                have hoo1 : oo = 1 := by omega
                refine Ru_aload_n (pc := 68) dX2_buildEither_68 rfl rfl ?_
                refine Ru_bipush (pc := 69) (nI 7) dX2_buildEither_69 rfl ?_
                refine Ru_iconst (pc := 71) (nI 0) dX2_buildEither_71 rfl ?_
                refine Ru_cv2 (pc := 72) dX2_buildEither_72 mv_X2_55 (shLaw_0 hl) (by omega) (Nat.le_of_ble_eq_true rfl) (c_X2_add (op := 9) (arg := 0) (y := (g y s).1) hl hz2 (show (g y s).1.1 ≤ 200 by omega) (by first | decide | omega) nCd_9 (fun M3 gx3 hz3 => ?_)) 
                have cw3 := cw2.tr (os_ow gx3)
                have hr3 := os_rd hl gx3 hr2
                refine Ru_aload_n (pc := 75) dX2_buildEither_75 rfl rfl ?_
                refine Ru_cv0 (pc := 76) dX2_buildEither_76 mv_X2_34 rfl (by omega) (Nat.le_of_ble_eq_true rfl) (c_X8_kind (s := (g y s).2) tw hr3 hq0 ?_) 
                refine Ru_sipush (pc := 79) (nI 151) dX2_buildEither_79 rfl ?_
                refine Ru_icmp_neN (pc := 82) 89 dX2_buildEither_82 (by decide) (by omega) (fun h12 => ?_) (fun h12 => ?_)
                · have hk151 : ¬ tK T (g y s).2.1 = 151 := h12
                  refine Ru_iconst (pc := 89) (nI 0) dX2_buildEither_89 rfl ?_
                  refine Ru_istore (pc := 90) dX2_buildEither_90 rfl (by decide) ?_
                  refine Ru_iload (pc := 92) dX2_buildEither_92 rfl ?_
                  refine Ru_if_neN (pc := 94) 104 dX2_buildEither_94 (by decide) (by omega) (fun h13 => ?_) (fun h13 => ?_)
                  · exfalso
                    omega
                  · refine Ru_iload (pc := 97) dX2_buildEither_97 rfl ?_
                    refine Ru_if_neN (pc := 99) 104 dX2_buildEither_99 (by decide) (by omega) (fun h14 => ?_) (fun h14 => ?_)
                    · exfalso
                      omega
                    · refine Ru_iconst (pc := 102) (nI 1) dX2_buildEither_102 rfl ?_
                      refine Ru_zret (pc := 103) dX2_buildEither_103 rfl ⟨Nat.le_refl _, Nat.le_refl _⟩ (Or.inr rfl) ?_
                      have eY1 : (if aa = 0 then (g y s).1 else lSt 8 0 (g y s).1 (g y s).2) = (g y s).1 := if_pos haa0
                      have eY2 : (if oo = 0 then (g y s).1 else lSt 9 0 (g y s).1 (g y s).2) = (lSq 9 0 (g y s).1) := (if_neg hoo0).trans (lSt_q hq0)
                      have eR : R = ((lSq 9 0 (g y s).1), (g y s).2) := by
                        rw [← hR, aE_n eY1 hk152, oE_n eY2 hk151]
                      have hn : R.2.2 = 0 := by
                        rw [eR]
                        exact hq0
                      exact r_qe (r_b_t (decide_eq_true hn)) (k M3 cw3 (by rw [eR]; exact hr3) (fun q => by rw [eR]; exact hz3))
                · have hk151 : tK T (g y s).2.1 = 151 := h12
                  refine Ru_iconst (pc := 85) (nI 1) dX2_buildEither_85 rfl ?_
                  refine Ru_goto (pc := 86) 90 dX2_buildEither_86 (by decide) ?_
                  refine Ru_istore (pc := 90) dX2_buildEither_90 rfl (by decide) ?_
                  refine Ru_iload (pc := 92) dX2_buildEither_92 rfl ?_
                  refine Ru_if_neN (pc := 94) 104 dX2_buildEither_94 (by decide) (by omega) (fun h15 => ?_) (fun h15 => ?_)
                  · exfalso
                    omega
                  · refine Ru_iload (pc := 97) dX2_buildEither_97 rfl ?_
                    refine Ru_if_neN (pc := 99) 104 dX2_buildEither_99 (by decide) (by omega) (fun h16 => ?_) (fun h16 => ?_)
                    · refine Ru_aload_n (pc := 104) dX2_buildEither_104 rfl rfl ?_
                      refine Ru_cv0 (pc := 105) dX2_buildEither_105 mv_X2_59 rfl (by omega) (Nat.le_of_ble_eq_true rfl) (c_X8_next (s := (g y s).2) tw hr3 hq0 (by omega) (fun M4 gx4 (hr4 : X_rd T cnt ((g y s).2.1 + 1, 0) M4) => ?_)) 
                      have cw4 := cw3.fx1 (gx4.mono rfl)
                      have hz4 := lz_fx hl (gx4.mono rfl) hz3
                      refine Ru_iincN (pc := 108) 1 dX2_buildEither_108 rfl rfl rfl (by decide) ?_
                      refine Ru_goto (pc := 111) 9 dX2_buildEither_111 (by decide) ?_
                      have hpn : (g y s).2.1 < 300 := by
                        have h9 := (tK_i tw (i := (g y s).2.1) (by omega))
                        omega
                      have hp2 := tpq2 tw (i := (g y s).2.1) (by omega)
                      have hp1 := tpq1 tw (i := (g y s).2.1)
                      have eY1 : (if aa = 0 then (g y s).1 else lSt 8 0 (g y s).1 (g y s).2) = (g y s).1 := if_pos haa0
                      have eY2 : (if oo = 0 then (g y s).1 else lSt 9 0 (g y s).1 (g y s).2) = (lSq 9 0 (g y s).1) := (if_neg hoo0).trans (lSt_q hq0)
                      obtain ⟨f', rfl⟩ : ∃ f', fo = f' + 1 := ⟨fo - 1, by omega⟩
                      have hR2 : oE T g 1 f' (aE T g 0 801 (g (lSq 9 0 (g y s).1) ((g y s).2.1 + 1, 0))) = R := by
                        rw [← oE_y eY2 hq0 hk151, ← aE_n (f := fa) eY1 hk152]
                        exact hR
                      refine Ru_weak (ih (300 - (i + 1)) (by omega) (i + 1) 1 0 801 f' (lSq 9 0 (g y s).1) ((g y s).2.1 + 1, 0) M4 rfl (by decide) (by decide) rfl hr4 hz4 wc ?_ ?_ ?_ ?_ ?_ hR2 cw4) rfl
                      · show 2 * ((g y s).1.1 + 1 + 0 + 1) ≤ tp T ((g y s).2.1 + 1)
                        omega
                      · show 2 * (i + 1) ≤ (g y s).2.1 + 1
                        omega
                      · exact Or.inr (by show (g y s).2.1 + 1 ≤ 300; omega)
                      · show 801 ≤ 801 + ((g y s).2.1 + 1)
                        omega
                      · show 801 ≤ f' + ((g y s).2.1 + 1)
                        omega
                    · exfalso
                      omega
          · have hk152 : tK T (g y s).2.1 = 152 := h4
            refine Ru_iconst (pc := 51) (nI 1) dX2_buildEither_51 rfl ?_
            refine Ru_goto (pc := 52) 56 dX2_buildEither_52 (by decide) ?_
            refine Ru_istore (pc := 56) dX2_buildEither_56 rfl (by decide) ?_
            refine Ru_iload (pc := 58) dX2_buildEither_58 rfl ?_
            refine Ru_if_neN (pc := 60) 92 dX2_buildEither_60 (by decide) (by omega) (fun h17 => ?_) (fun h17 => ?_)
            · refine Ru_iload (pc := 92) dX2_buildEither_92 rfl ?_
              refine Ru_if_neN (pc := 94) 104 dX2_buildEither_94 (by decide) (by omega) (fun h18 => ?_) (fun h18 => ?_)
              · refine Ru_aload_n (pc := 104) dX2_buildEither_104 rfl rfl ?_
                refine Ru_cv0 (pc := 105) dX2_buildEither_105 mv_X2_59 rfl (by omega) (Nat.le_of_ble_eq_true rfl) (c_X8_next (s := (g y s).2) tw hr2 hq0 (by omega) (fun M3 gx3 (hr3 : X_rd T cnt ((g y s).2.1 + 1, 0) M3) => ?_)) 
                have cw3 := cw2.fx1 (gx3.mono rfl)
                have hz3 := lz_fx hl (gx3.mono rfl) hz2
                refine Ru_iincN (pc := 108) 1 dX2_buildEither_108 rfl rfl rfl (by decide) ?_
                refine Ru_goto (pc := 111) 9 dX2_buildEither_111 (by decide) ?_
                have hpn : (g y s).2.1 < 300 := by
                  have h9 := (tK_i tw (i := (g y s).2.1) (by omega))
                  omega
                have hp2 := tpq2 tw (i := (g y s).2.1) (by omega)
                have hp1 := tpq1 tw (i := (g y s).2.1)
                have eY1 : (if aa = 0 then (g y s).1 else lSt 8 0 (g y s).1 (g y s).2) = (g y s).1 := if_pos haa0
                obtain ⟨f', rfl⟩ : ∃ f', fa = f' + 1 := ⟨fa - 1, by omega⟩
                have hR2 : oE T g oo fo (aE T g 1 f' (g (g y s).1 ((g y s).2.1 + 1, 0))) = R := by
                  rw [← aE_y eY1 hq0 hk152]
                  exact hR
                refine Ru_weak (ih (300 - (i + 1)) (by omega) (i + 1) oo 1 f' fo (g y s).1 ((g y s).2.1 + 1, 0) M3 rfl hoo (by decide) rfl hr3 hz3 wc ?_ ?_ ?_ ?_ ?_ hR2 cw3) rfl
                · show 2 * ((g y s).1.1 + 1 + oo) ≤ tp T ((g y s).2.1 + 1)
                  
                  omega
                · show 2 * (i + 1) ≤ (g y s).2.1 + 1
                  omega
                · exact Or.inr (by show (g y s).2.1 + 1 ≤ 300; omega)
                · show 801 ≤ f' + ((g y s).2.1 + 1)
                  omega
                · show 801 ≤ fo + ((g y s).2.1 + 1)
                  omega
              · exfalso
                omega
            · exfalso
              omega
        · have haa0 : ¬ aa = 0 := h3
          have haa1 : aa = 1 := by omega
          refine Ru_aload_n (pc := 34) dX2_buildEither_34 rfl rfl ?_
          refine Ru_bipush (pc := 35) (nI 6) dX2_buildEither_35 rfl ?_
          refine Ru_iconst (pc := 37) (nI 0) dX2_buildEither_37 rfl ?_
          refine Ru_cv2 (pc := 38) dX2_buildEither_38 mv_X2_55 (shLaw_0 hl) (by omega) (Nat.le_of_ble_eq_true rfl) (c_X2_add (op := 8) (arg := 0) (y := (g y s).1) hl hz2 (by omega) (by first | decide | omega) nCd_8 (fun M3 gx3 hz3 => ?_)) 
          have cw3 := cw2.tr (os_ow gx3)
          have hr3 := os_rd hl gx3 hr2
          refine Ru_aload_n (pc := 41) dX2_buildEither_41 rfl rfl ?_
          refine Ru_cv0 (pc := 42) dX2_buildEither_42 mv_X2_34 rfl (by omega) (Nat.le_of_ble_eq_true rfl) (c_X8_kind (s := (g y s).2) tw hr3 hq0 ?_) 
          refine Ru_sipush (pc := 45) (nI 152) dX2_buildEither_45 rfl ?_
          refine Ru_icmp_neN (pc := 48) 55 dX2_buildEither_48 (by decide) (by omega) (fun h19 => ?_) (fun h19 => ?_)
          · have hk152 : ¬ tK T (g y s).2.1 = 152 := h19
            refine Ru_iconst (pc := 55) (nI 0) dX2_buildEither_55 rfl ?_
            refine Ru_istore (pc := 56) dX2_buildEither_56 rfl (by decide) ?_
            refine Ru_iload (pc := 58) dX2_buildEither_58 rfl ?_
            refine Ru_if_neN (pc := 60) 92 dX2_buildEither_60 (by decide) (by omega) (fun h20 => ?_) (fun h20 => ?_)
            · exfalso
              omega
            · refine Ru_iload (pc := 63) dX2_buildEither_63 rfl ?_
              refine Ru_if_eqN (pc := 65) 75 dX2_buildEither_65 (by decide) (by omega) (fun h21 => ?_) (fun h21 => ?_)
              · have hoo0 : oo = 0 := h21
                refine Ru_aload_n (pc := 75) dX2_buildEither_75 rfl rfl ?_
                refine Ru_cv0 (pc := 76) dX2_buildEither_76 mv_X2_34 rfl (by omega) (Nat.le_of_ble_eq_true rfl) (c_X8_kind (s := (g y s).2) tw hr3 hq0 ?_) 
                refine Ru_sipush (pc := 79) (nI 151) dX2_buildEither_79 rfl ?_
                refine Ru_icmp_neN (pc := 82) 89 dX2_buildEither_82 (by decide) (by omega) (fun h22 => ?_) (fun h22 => ?_)
                · have hk151 : ¬ tK T (g y s).2.1 = 151 := h22
                  refine Ru_iconst (pc := 89) (nI 0) dX2_buildEither_89 rfl ?_
                  refine Ru_istore (pc := 90) dX2_buildEither_90 rfl (by decide) ?_
                  refine Ru_iload (pc := 92) dX2_buildEither_92 rfl ?_
                  refine Ru_if_neN (pc := 94) 104 dX2_buildEither_94 (by decide) (by omega) (fun h23 => ?_) (fun h23 => ?_)
                  · exfalso
                    omega
                  · refine Ru_iload (pc := 97) dX2_buildEither_97 rfl ?_
                    refine Ru_if_neN (pc := 99) 104 dX2_buildEither_99 (by decide) (by omega) (fun h24 => ?_) (fun h24 => ?_)
                    · exfalso
                      omega
                    · refine Ru_iconst (pc := 102) (nI 1) dX2_buildEither_102 rfl ?_
                      refine Ru_zret (pc := 103) dX2_buildEither_103 rfl ⟨Nat.le_refl _, Nat.le_refl _⟩ (Or.inr rfl) ?_
                      have eY1 : (if aa = 0 then (g y s).1 else lSt 8 0 (g y s).1 (g y s).2) = (lSq 8 0 (g y s).1) := (if_neg haa0).trans (lSt_q hq0)
                      have eY2 : (if oo = 0 then (lSq 8 0 (g y s).1) else lSt 9 0 (lSq 8 0 (g y s).1) (g y s).2) = (lSq 8 0 (g y s).1) := if_pos hoo0
                      have eR : R = ((lSq 8 0 (g y s).1), (g y s).2) := by
                        rw [← hR, aE_n eY1 hk152, oE_n eY2 hk151]
                      have hn : R.2.2 = 0 := by
                        rw [eR]
                        exact hq0
                      exact r_qe (r_b_t (decide_eq_true hn)) (k M3 cw3 (by rw [eR]; exact hr3) (fun q => by rw [eR]; exact hz3))
                · have hk151 : tK T (g y s).2.1 = 151 := h22
                  refine Ru_iconst (pc := 85) (nI 1) dX2_buildEither_85 rfl ?_
                  refine Ru_goto (pc := 86) 90 dX2_buildEither_86 (by decide) ?_
                  refine Ru_istore (pc := 90) dX2_buildEither_90 rfl (by decide) ?_
                  refine Ru_iload (pc := 92) dX2_buildEither_92 rfl ?_
                  refine Ru_if_neN (pc := 94) 104 dX2_buildEither_94 (by decide) (by omega) (fun h25 => ?_) (fun h25 => ?_)
                  · exfalso
                    omega
                  · refine Ru_iload (pc := 97) dX2_buildEither_97 rfl ?_
                    refine Ru_if_neN (pc := 99) 104 dX2_buildEither_99 (by decide) (by omega) (fun h26 => ?_) (fun h26 => ?_)
                    · refine Ru_aload_n (pc := 104) dX2_buildEither_104 rfl rfl ?_
                      refine Ru_cv0 (pc := 105) dX2_buildEither_105 mv_X2_59 rfl (by omega) (Nat.le_of_ble_eq_true rfl) (c_X8_next (s := (g y s).2) tw hr3 hq0 (by omega) (fun M4 gx4 (hr4 : X_rd T cnt ((g y s).2.1 + 1, 0) M4) => ?_)) 
                      have cw4 := cw3.fx1 (gx4.mono rfl)
                      have hz4 := lz_fx hl (gx4.mono rfl) hz3
                      refine Ru_iincN (pc := 108) 1 dX2_buildEither_108 rfl rfl rfl (by decide) ?_
                      refine Ru_goto (pc := 111) 9 dX2_buildEither_111 (by decide) ?_
                      have hpn : (g y s).2.1 < 300 := by
                        have h9 := (tK_i tw (i := (g y s).2.1) (by omega))
                        omega
                      have hp2 := tpq2 tw (i := (g y s).2.1) (by omega)
                      have hp1 := tpq1 tw (i := (g y s).2.1)
                      have eY1 : (if aa = 0 then (g y s).1 else lSt 8 0 (g y s).1 (g y s).2) = (lSq 8 0 (g y s).1) := (if_neg haa0).trans (lSt_q hq0)
                      have eY2 : (if oo = 0 then (lSq 8 0 (g y s).1) else lSt 9 0 (lSq 8 0 (g y s).1) (g y s).2) = (lSq 8 0 (g y s).1) := if_pos hoo0
                      obtain ⟨f', rfl⟩ : ∃ f', fo = f' + 1 := ⟨fo - 1, by omega⟩
                      have hR2 : oE T g 1 f' (aE T g 0 801 (g (lSq 8 0 (g y s).1) ((g y s).2.1 + 1, 0))) = R := by
                        rw [← oE_y eY2 hq0 hk151, ← aE_n (f := fa) eY1 hk152]
                        exact hR
                      refine Ru_weak (ih (300 - (i + 1)) (by omega) (i + 1) 1 0 801 f' (lSq 8 0 (g y s).1) ((g y s).2.1 + 1, 0) M4 rfl (by decide) (by decide) rfl hr4 hz4 wc ?_ ?_ ?_ ?_ ?_ hR2 cw4) rfl
                      · show 2 * ((g y s).1.1 + 1 + 0 + 1) ≤ tp T ((g y s).2.1 + 1)
                        omega
                      · show 2 * (i + 1) ≤ (g y s).2.1 + 1
                        omega
                      · exact Or.inr (by show (g y s).2.1 + 1 ≤ 300; omega)
                      · show 801 ≤ 801 + ((g y s).2.1 + 1)
                        omega
                      · show 801 ≤ f' + ((g y s).2.1 + 1)
                        omega
                    · exfalso
                      omega
              · have hoo0 : ¬ oo = 0 := h21
                have hoo1 : oo = 1 := by omega
                refine Ru_aload_n (pc := 68) dX2_buildEither_68 rfl rfl ?_
                refine Ru_bipush (pc := 69) (nI 7) dX2_buildEither_69 rfl ?_
                refine Ru_iconst (pc := 71) (nI 0) dX2_buildEither_71 rfl ?_
                refine Ru_cv2 (pc := 72) dX2_buildEither_72 mv_X2_55 (shLaw_0 hl) (by omega) (Nat.le_of_ble_eq_true rfl) (c_X2_add (op := 9) (arg := 0) (y := (lSq 8 0 (g y s).1)) hl hz3 (show (lSq 8 0 (g y s).1).1 ≤ 200 by show (g y s).1.1 + 1 ≤ 200; omega) (by first | decide | omega) nCd_9 (fun M4 gx4 hz4 => ?_)) 
                have cw4 := cw3.tr (os_ow gx4)
                have hr4 := os_rd hl gx4 hr3
                refine Ru_aload_n (pc := 75) dX2_buildEither_75 rfl rfl ?_
                refine Ru_cv0 (pc := 76) dX2_buildEither_76 mv_X2_34 rfl (by omega) (Nat.le_of_ble_eq_true rfl) (c_X8_kind (s := (g y s).2) tw hr4 hq0 ?_) 
                refine Ru_sipush (pc := 79) (nI 151) dX2_buildEither_79 rfl ?_
                refine Ru_icmp_neN (pc := 82) 89 dX2_buildEither_82 (by decide) (by omega) (fun h27 => ?_) (fun h27 => ?_)
                · have hk151 : ¬ tK T (g y s).2.1 = 151 := h27
                  refine Ru_iconst (pc := 89) (nI 0) dX2_buildEither_89 rfl ?_
                  refine Ru_istore (pc := 90) dX2_buildEither_90 rfl (by decide) ?_
                  refine Ru_iload (pc := 92) dX2_buildEither_92 rfl ?_
                  refine Ru_if_neN (pc := 94) 104 dX2_buildEither_94 (by decide) (by omega) (fun h28 => ?_) (fun h28 => ?_)
                  · exfalso
                    omega
                  · refine Ru_iload (pc := 97) dX2_buildEither_97 rfl ?_
                    refine Ru_if_neN (pc := 99) 104 dX2_buildEither_99 (by decide) (by omega) (fun h29 => ?_) (fun h29 => ?_)
                    · exfalso
                      omega
                    · refine Ru_iconst (pc := 102) (nI 1) dX2_buildEither_102 rfl ?_
                      refine Ru_zret (pc := 103) dX2_buildEither_103 rfl ⟨Nat.le_refl _, Nat.le_refl _⟩ (Or.inr rfl) ?_
                      have eY1 : (if aa = 0 then (g y s).1 else lSt 8 0 (g y s).1 (g y s).2) = (lSq 8 0 (g y s).1) := (if_neg haa0).trans (lSt_q hq0)
                      have eY2 : (if oo = 0 then (lSq 8 0 (g y s).1) else lSt 9 0 (lSq 8 0 (g y s).1) (g y s).2) = (lSq 9 0 (lSq 8 0 (g y s).1)) := (if_neg hoo0).trans (lSt_q hq0)
                      have eR : R = ((lSq 9 0 (lSq 8 0 (g y s).1)), (g y s).2) := by
                        rw [← hR, aE_n eY1 hk152, oE_n eY2 hk151]
                      have hn : R.2.2 = 0 := by
                        rw [eR]
                        exact hq0
                      exact r_qe (r_b_t (decide_eq_true hn)) (k M4 cw4 (by rw [eR]; exact hr4) (fun q => by rw [eR]; exact hz4))
                · have hk151 : tK T (g y s).2.1 = 151 := h27
                  refine Ru_iconst (pc := 85) (nI 1) dX2_buildEither_85 rfl ?_
                  refine Ru_goto (pc := 86) 90 dX2_buildEither_86 (by decide) ?_
                  refine Ru_istore (pc := 90) dX2_buildEither_90 rfl (by decide) ?_
                  refine Ru_iload (pc := 92) dX2_buildEither_92 rfl ?_
                  refine Ru_if_neN (pc := 94) 104 dX2_buildEither_94 (by decide) (by omega) (fun h30 => ?_) (fun h30 => ?_)
                  · exfalso
                    omega
                  · refine Ru_iload (pc := 97) dX2_buildEither_97 rfl ?_
                    refine Ru_if_neN (pc := 99) 104 dX2_buildEither_99 (by decide) (by omega) (fun h31 => ?_) (fun h31 => ?_)
                    · refine Ru_aload_n (pc := 104) dX2_buildEither_104 rfl rfl ?_
                      refine Ru_cv0 (pc := 105) dX2_buildEither_105 mv_X2_59 rfl (by omega) (Nat.le_of_ble_eq_true rfl) (c_X8_next (s := (g y s).2) tw hr4 hq0 (by omega) (fun M5 gx5 (hr5 : X_rd T cnt ((g y s).2.1 + 1, 0) M5) => ?_)) 
                      have cw5 := cw4.fx1 (gx5.mono rfl)
                      have hz5 := lz_fx hl (gx5.mono rfl) hz4
                      refine Ru_iincN (pc := 108) 1 dX2_buildEither_108 rfl rfl rfl (by decide) ?_
                      refine Ru_goto (pc := 111) 9 dX2_buildEither_111 (by decide) ?_
                      have hpn : (g y s).2.1 < 300 := by
                        have h9 := (tK_i tw (i := (g y s).2.1) (by omega))
                        omega
                      have hp2 := tpq2 tw (i := (g y s).2.1) (by omega)
                      have hp1 := tpq1 tw (i := (g y s).2.1)
                      have eY1 : (if aa = 0 then (g y s).1 else lSt 8 0 (g y s).1 (g y s).2) = (lSq 8 0 (g y s).1) := (if_neg haa0).trans (lSt_q hq0)
                      have eY2 : (if oo = 0 then (lSq 8 0 (g y s).1) else lSt 9 0 (lSq 8 0 (g y s).1) (g y s).2) = (lSq 9 0 (lSq 8 0 (g y s).1)) := (if_neg hoo0).trans (lSt_q hq0)
                      obtain ⟨f', rfl⟩ : ∃ f', fo = f' + 1 := ⟨fo - 1, by omega⟩
                      have hR2 : oE T g 1 f' (aE T g 0 801 (g (lSq 9 0 (lSq 8 0 (g y s).1)) ((g y s).2.1 + 1, 0))) = R := by
                        rw [← oE_y eY2 hq0 hk151, ← aE_n (f := fa) eY1 hk152]
                        exact hR
                      refine Ru_weak (ih (300 - (i + 1)) (by omega) (i + 1) 1 0 801 f' (lSq 9 0 (lSq 8 0 (g y s).1)) ((g y s).2.1 + 1, 0) M5 rfl (by decide) (by decide) rfl hr5 hz5 wc ?_ ?_ ?_ ?_ ?_ hR2 cw5) rfl
                      · show 2 * ((g y s).1.1 + 1 + 1 + 0 + 1) ≤ tp T ((g y s).2.1 + 1)
                        omega
                      · show 2 * (i + 1) ≤ (g y s).2.1 + 1
                        omega
                      · exact Or.inr (by show (g y s).2.1 + 1 ≤ 300; omega)
                      · show 801 ≤ 801 + ((g y s).2.1 + 1)
                        omega
                      · show 801 ≤ f' + ((g y s).2.1 + 1)
                        omega
                    · exfalso
                      omega
          · have hk152 : tK T (g y s).2.1 = 152 := h19
            refine Ru_iconst (pc := 51) (nI 1) dX2_buildEither_51 rfl ?_
            refine Ru_goto (pc := 52) 56 dX2_buildEither_52 (by decide) ?_
            refine Ru_istore (pc := 56) dX2_buildEither_56 rfl (by decide) ?_
            refine Ru_iload (pc := 58) dX2_buildEither_58 rfl ?_
            refine Ru_if_neN (pc := 60) 92 dX2_buildEither_60 (by decide) (by omega) (fun h32 => ?_) (fun h32 => ?_)
            · refine Ru_iload (pc := 92) dX2_buildEither_92 rfl ?_
              refine Ru_if_neN (pc := 94) 104 dX2_buildEither_94 (by decide) (by omega) (fun h33 => ?_) (fun h33 => ?_)
              · refine Ru_aload_n (pc := 104) dX2_buildEither_104 rfl rfl ?_
                refine Ru_cv0 (pc := 105) dX2_buildEither_105 mv_X2_59 rfl (by omega) (Nat.le_of_ble_eq_true rfl) (c_X8_next (s := (g y s).2) tw hr3 hq0 (by omega) (fun M4 gx4 (hr4 : X_rd T cnt ((g y s).2.1 + 1, 0) M4) => ?_)) 
                have cw4 := cw3.fx1 (gx4.mono rfl)
                have hz4 := lz_fx hl (gx4.mono rfl) hz3
                refine Ru_iincN (pc := 108) 1 dX2_buildEither_108 rfl rfl rfl (by decide) ?_
                refine Ru_goto (pc := 111) 9 dX2_buildEither_111 (by decide) ?_
                have hpn : (g y s).2.1 < 300 := by
                  have h9 := (tK_i tw (i := (g y s).2.1) (by omega))
                  omega
                have hp2 := tpq2 tw (i := (g y s).2.1) (by omega)
                have hp1 := tpq1 tw (i := (g y s).2.1)
                have eY1 : (if aa = 0 then (g y s).1 else lSt 8 0 (g y s).1 (g y s).2) = (lSq 8 0 (g y s).1) := (if_neg haa0).trans (lSt_q hq0)
                obtain ⟨f', rfl⟩ : ∃ f', fa = f' + 1 := ⟨fa - 1, by omega⟩
                have hR2 : oE T g oo fo (aE T g 1 f' (g (lSq 8 0 (g y s).1) ((g y s).2.1 + 1, 0))) = R := by
                  rw [← aE_y eY1 hq0 hk152]
                  exact hR
                refine Ru_weak (ih (300 - (i + 1)) (by omega) (i + 1) oo 1 f' fo (lSq 8 0 (g y s).1) ((g y s).2.1 + 1, 0) M4 rfl hoo (by decide) rfl hr4 hz4 wc ?_ ?_ ?_ ?_ ?_ hR2 cw4) rfl
                · show 2 * ((lSq 8 0 (g y s).1).1 + 1 + oo) ≤ tp T ((g y s).2.1 + 1)
                  show 2 * ((g y s).1.1 + 1 + 1 + oo) ≤ tp T ((g y s).2.1 + 1)
                  omega
                · show 2 * (i + 1) ≤ (g y s).2.1 + 1
                  omega
                · exact Or.inr (by show (g y s).2.1 + 1 ≤ 300; omega)
                · show 801 ≤ f' + ((g y s).2.1 + 1)
                  omega
                · show 801 ≤ fo + ((g y s).2.1 + 1)
                  omega
              · exfalso
                omega
            · exfalso
              omega
      · replace h2 := of_decide_eq_false h2
        have hqf := h2
        refine Ru_iconst (pc := 27) (nI 0) dX2_buildEither_27 rfl ?_
        refine Ru_zret (pc := 28) dX2_buildEither_28 rfl ⟨Nat.le_refl _, Nat.le_refl _⟩ (Or.inl rfl) ?_
        have e9 : R.2 = (g y s).2 := by
          have ea := aE_b (T := T) (g := g) (aa := aa) (f := fa) hqf
          rw [← hR, oE_b (by rw [ea]; exact hqf), ea]
        have hn : ¬ R.2.2 = 0 := by
          rw [e9]
          exact hqf
        exact r_qe (r_b_f (decide_eq_false hn)) (k M2 cw2 (by rw [e9]; exact hr2) (fun q => absurd q hn))

theorem t_X2_either {T : Tx} {cnt u lw w h : Nat} {x : St9} {g : Lg} (tw : Tw T) (hT3 : T.2 ≤ 300) (hu : isTown u) (hl : isLaw lw) (hg : lGd T 0 0 g) (H : XL T x cnt lw u mt_X2_buildOne h w g) : XL T x cnt lw u mt_X2_buildEither (h + 1) w (lEi T g) := by
  intro Q M s y h0 hr bw hz hc hB k
  refine Ca_of rfl (Nat.le_of_ble_eq_true rfl) ?_
  refine Ru_iconst (pc := 0) (nI 0) dX2_buildEither_0 rfl ?_
  refine Ru_istore (pc := 1) dX2_buildEither_1 rfl (by decide) ?_
  refine Ru_iconst (pc := 3) (nI 0) dX2_buildEither_3 rfl ?_
  refine Ru_istore (pc := 4) dX2_buildEither_4 rfl (by decide) ?_
  refine Ru_iconst (pc := 6) (nI 0) dX2_buildEither_6 rfl ?_
  refine Ru_istore (pc := 7) dX2_buildEither_7 rfl (by decide) ?_
  exact Ru_weak (l_X2_ei (M0 := M) (R := lEi T g y s) (g := g) tw hT3 hu hl bw hg H k 300 0 0 0 801 801 y s M rfl (Nat.zero_le _) (Nat.zero_le _) h0 hr hz hc hB (Nat.zero_le _) (Or.inl rfl) (Nat.le_add_right _ _) (Nat.le_add_right _ _) rfl (fun _ _ _ _ => ⟨rfl, rfl, rfl⟩)) rfl
theorem t_X2_all {T : Tx} {cnt u lw : Nat} {x : St9} (tw : Tw T) (hT3 : T.2 ≤ 300) (hu : isTown u) (hl : isLaw lw) (wf : Wf x.1) (m : Nat) : m ≤ 6 → XL T x cnt lw u mt_X2_buildEither (5 + 2 * m) (6 - m) (lEi T (lOn T x m)) := by
  induction m using Nat.strongRecOn with
  | ind m ih =>
    intro hm
    have H := t_X2_one tw hT3 hu hl wf m (6 - m) (3 + 2 * m) (by omega) (by omega) (fun q hq => ⟨5 + 2 * q, by omega, ih q hq (by omega)⟩)
    have E := t_X2_either tw hT3 hu hl (lOn_w tw wf.1.1 m hm 0 (by omega)) H
    have e : 3 + 2 * m + 1 + 1 = 5 + 2 * m := by omega
    rw [e] at E
    exact E
theorem t_X2_top {T : Tx} {cnt u lw : Nat} {x : St9} (tw : Tw T) (hT3 : T.2 ≤ 300) (hu : isTown u) (hl : isLaw lw) (wf : Wf x.1) : XL T x cnt lw u mt_X2_buildEither 17 0 (lEi T (lOn T x 6)) := t_X2_all tw hT3 hu hl wf 6 (Nat.le_refl _)
