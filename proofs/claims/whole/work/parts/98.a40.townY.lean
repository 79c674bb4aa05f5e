-- READING: the reference's town
theorem paS_t {T : Tx} {x : St9} {s : Ps} (h : tK T s.1 = 128) : thS T x s = paS T x s ∧ thX T x s = prX T x s := ⟨(if_pos h).symm, (if_pos h).symm⟩
theorem paS_m {T : Tx} {x : St9} {s : Ps} (h : tK T s.1 = 131) : mkS T x s = paS T x s ∧ mkX T x s = prX T x s := by
  unfold paS prX
  rw [if_neg (by omega), if_pos h, if_neg (by omega), if_pos h]
  exact ⟨rfl, rfl⟩
theorem paS_p {T : Tx} {x : St9} {s : Ps} (h : tK T s.1 = 137) : peS T x s = paS T x s ∧ peX T x s = prX T x s := by
  unfold paS prX
  rw [if_neg (by omega), if_neg (by omega), if_pos h, if_neg (by omega), if_neg (by omega), if_pos h]
  exact ⟨rfl, rfl⟩
theorem paS_wa {T : Tx} {x : St9} {s : Ps} (h : tK T s.1 = 141) : waS T x s = paS T x s ∧ waX T x s = prX T x s := by
  unfold paS prX
  rw [if_neg (by omega), if_neg (by omega), if_neg (by omega), if_pos h, if_neg (by omega), if_neg (by omega), if_neg (by omega)]
  exact ⟨rfl, rfl⟩
theorem paS_no {T : Tx} {x : St9} {s : Ps} (h : ¬ tK T s.1 = 128 ∧ ¬ tK T s.1 = 131 ∧ ¬ tK T s.1 = 137 ∧ ¬ tK T s.1 = 141) : sWrong T s = paS T x s := by
  unfold paS
  rw [if_neg h.1, if_neg h.2.1, if_neg h.2.2.1, if_neg h.2.2.2]
theorem twP_end {T : Tx} {x : St9} {s : Ps} (h : tK T s.1 = 0) : ∀ f, twP T f x s = (x, s)
  | 0 => rfl
  | f + 1 => by rw [twP, if_pos h]

theorem l_X12_town {Q : Rq} {M0 : Mem} {T : Tx} {R : St9 × Ps} (tw : Tw T) (k : ∀ M', r_fx [(0, 12), (0, 13), (0, 14), (0, 15), (0, 16), (0, 17), (0, 18), (0, 21)] [5, 6] M0 M' → Y_lo M0 M' → Y_rd T R.2 M' → (R.2.2 = 0 → Y_b4 R.1.1 M' ∧ Y_w4 R.1 M') → Ru 8 mt_X12_town r_z 132 [(0, some (.ref 0))] [] GY M' Q) : ∀ (zw : Nat) (f : Nat) (x : St9) (s : Ps) (M : Mem), f = zw → (s.2 = 0 → 801 ≤ f + s.1) → (Y_rd T s M) → (s.2 = 0 → Y_b4 x.1 M ∧ Y_w4 x M) → (s.2 = 0 → twP T f x s = R) → (¬ s.2 = 0 → R.2 = s) → (r_fx [(0, 12), (0, 13), (0, 14), (0, 15), (0, 16), (0, 17), (0, 18), (0, 21)] [5, 6] M0 M) → (Y_lo M0 M) → Ru 8 mt_X12_town r_z 49 [(0, some (.ref 0))] [] GY M Q := by
  intro zw
  induction zw using Nat.strongRecOn with
  | ind zw ih =>
    intro f x s M hw hf9 hr hg hR0 hR1 fx lo
    subst hw
    have hb0 := hr.2.2.2.2
    have ht0 := tTok_b (tK T s.1)
    have hps := pWd_sp (tK T s.1)
    have hpn := pWd_n (tK T s.1)
    refine Ru_aload_n (pc := 49) dX12_town_49 rfl rfl ?_
    refine Ru_getI (pc := 50) dX12_town_50 fl_X12_251 rfl rfl ?_
    refine Ru_top hr.2.2.1 ?_
    refine Ru_if_neN (pc := 53) 132 dX12_town_53 (by decide) (by omega) (fun h1 => ?_) (fun h1 => ?_)
    · have hz : ¬ s.2 = 0 := by omega
      refine Ru_weak (k M fx lo (by rw [hR1 hz]; exact hr) (fun z => ?_)) rfl
      rw [hR1 hz] at z
      omega
    · refine Ru_aload_n (pc := 56) dX12_town_56 rfl rfl ?_
      refine Ru_getI (pc := 57) dX12_town_57 fl_X12_138 rfl rfl ?_
      refine Ru_top hr.2.1.2.2.1 ?_
      refine Ru_if_eqN (pc := 60) 132 dX12_town_60 (by decide) (by have := tTok_b (tK T s.1); omega) (fun h2 => ?_) (fun h2 => ?_)
      · have hz : s.2 = 0 := by assumption
        have eR : (x, s) = R := (twP_end (tTok_0.mp (by assumption)) f).symm.trans (hR0 hz)
        subst eR
        exact Ru_weak (k M fx lo hr (fun _ => hg hz)) rfl
      · have hz0 : s.2 = 0 := by assumption
        have hK9 : ¬ tK T s.1 = 0 := fun z => absurd (tTok_0.mpr z) (by assumption)
        have hb4 := (hg hz0).1
        have hw4 := (hg hz0).2
        refine Ru_aload_n (pc := 63) dX12_town_63 rfl rfl ?_
        refine Ru_cv0 (pc := 64) dX12_town_64 mv_X12_171 rfl (by decide) (Nat.le_of_ble_eq_true rfl) (c_X12_partWord (i := s.1) tw hr.2.1 ?_) 
        refine Ru_istore_n (pc := 67) dX12_town_67 rfl rfl (by decide) ?_
        refine Ru_iload_n (pc := 68) dX12_town_68 rfl rfl ?_
        refine Ru_if_neT (pc := 69) 79 dX12_town_69 (by decide) (fun h3 => ?_) (fun h3 => ?_)
        · refine Ru_iload_n (pc := 79) dX12_town_79 rfl rfl ?_
          refine Ru_iconst (pc := 80) (nI 1) dX12_town_80 rfl ?_
          refine Ru_icmp_neL (pc := 81) 91 dX12_town_81 (by decide) (by omega) (fun h4 => ?_) (fun h4 => ?_)
          · refine Ru_iload_n (pc := 91) dX12_town_91 rfl rfl ?_
            refine Ru_iconst (pc := 92) (nI 2) dX12_town_92 rfl ?_
            refine Ru_icmp_neL (pc := 93) 103 dX12_town_93 (by decide) (by omega) (fun h5 => ?_) (fun h5 => ?_)
            · refine Ru_iload_n (pc := 103) dX12_town_103 rfl rfl ?_
              refine Ru_iconst (pc := 104) (nI 3) dX12_town_104 rfl ?_
              refine Ru_icmp_neL (pc := 105) 115 dX12_town_105 (by decide) (by omega) (fun h6 => ?_) (fun h6 => ?_)
              · refine Ru_aload_n (pc := 115) dX12_town_115 rfl rfl ?_
                refine Ru_cv0 (pc := 116) dX12_town_116 mv_X12_264 rfl (by decide) (Nat.le_of_ble_eq_true rfl) (c_X12_wrong (s := s) tw hr (fun M2 gx20 hr2 => ?_)) 
                have gx2 : r_fx [(0, 12), (0, 13), (0, 14), (0, 15), (0, 16), (0, 17), (0, 18), (0, 21)] [5, 6] M M2 := gx20.mono rfl
                have lo2 : Y_lo M M2 := ⟨fun j _ => (gx20 5 j rfl).1, fun j _ => (gx20 6 j rfl).2.1⟩
                rw [paS_no (x := x) (by omega)] at hr2
                have hg2 : (paS T x s).2 = 0 → Y_b4 (prX T x s).1 M2 ∧ Y_w4 (prX T x s) M2 := fun z => by
                  have := paS_w (by assumption) z
                  omega
                have hb2 := hr2.2.2.2.2
                refine Ru_aload_n (pc := 119) dX12_town_119 rfl rfl ?_
                refine Ru_aload_n (pc := 120) dX12_town_120 rfl rfl ?_
                refine Ru_bipush (pc := 121) (nI 59) dX12_town_121 rfl ?_
                refine Ru_cv1 (pc := 123) dX12_town_123 mv_X12_316 rfl (by decide) (Nat.le_of_ble_eq_true rfl) (c_X12_isSign (i := (paS T x s).1) tw hr2.2.1 (x := 59) (by decide) ?_) 
                refine Ru_cv1 (pc := 126) dX12_town_126 mv_X12_290 rfl (by decide) (Nat.le_of_ble_eq_true rfl) (c_X12_must (s := paS T x s) tw hr2 (fun M3 gx3 (hr3 : Y_rd T (prS T x s) M3) => ?_)) 
                refine Ru_goto (pc := 129) 49 dX12_town_129 (by decide) ?_
                obtain ⟨f', rfl⟩ : ∃ f', f = f' + 1 := ⟨f - 1, by have := (tK_i tw (i := s.1) hK9).1; omega⟩
                refine Ru_weak (ih f' (by omega) f' (prX T x s) (prS T x s) M3 rfl (fun z => ?_) hr3 (fun z => ?_) (fun z => ?_) (fun z => ?_) (fx.tr (gx2.tr (gx3.mono rfl))) ⟨fun j hj => (gx3 5 j rfl).1.trans ((lo2.1 j hj).trans (lo.1 j hj)), fun j hj => (gx3 6 j rfl).2.1.trans ((lo2.2 j hj).trans (lo.2 j hj))⟩) rfl
                · have := (prS_adv z).1
                  have := hf9 hz0
                  omega
                · have zz := (prS_adv z).2.1
                  exact ⟨(Y_b4_dp _).kp gx3 rfl (hg2 zz).1, (Y_w4_dp _).kp gx3 rfl (hg2 zz).2⟩
                · rw [← hR0 hz0, twP, if_neg hK9, if_neg (fun y => y z)]
                · rw [← hR0 hz0, twP, if_neg hK9, if_pos z]
              · refine Ru_aload_n (pc := 108) dX12_town_108 rfl rfl ?_
                refine Ru_cv0 (pc := 109) dX12_town_109 mv_X12_313 rfl (by decide) (Nat.le_of_ble_eq_true rfl) (c_X12_readWant (s := s) (x := x) tw hr hb4 hw4 (fun M2 gx2 lo2 hr2 hg2 => ?_)) 
                have eP := paS_wa (T := T) (x := x) (s := s) (by omega)
                rw [eP.1] at hr2 hg2
                rw [eP.2] at hg2
                have hb2 := hr2.2.2.2.2
                refine Ru_goto (pc := 112) 119 dX12_town_112 (by decide) ?_
                refine Ru_aload_n (pc := 119) dX12_town_119 rfl rfl ?_
                refine Ru_aload_n (pc := 120) dX12_town_120 rfl rfl ?_
                refine Ru_bipush (pc := 121) (nI 59) dX12_town_121 rfl ?_
                refine Ru_cv1 (pc := 123) dX12_town_123 mv_X12_316 rfl (by decide) (Nat.le_of_ble_eq_true rfl) (c_X12_isSign (i := (paS T x s).1) tw hr2.2.1 (x := 59) (by decide) ?_) 
                refine Ru_cv1 (pc := 126) dX12_town_126 mv_X12_290 rfl (by decide) (Nat.le_of_ble_eq_true rfl) (c_X12_must (s := paS T x s) tw hr2 (fun M3 gx3 (hr3 : Y_rd T (prS T x s) M3) => ?_)) 
                refine Ru_goto (pc := 129) 49 dX12_town_129 (by decide) ?_
                obtain ⟨f', rfl⟩ : ∃ f', f = f' + 1 := ⟨f - 1, by have := (tK_i tw (i := s.1) hK9).1; omega⟩
                refine Ru_weak (ih f' (by omega) f' (prX T x s) (prS T x s) M3 rfl (fun z => ?_) hr3 (fun z => ?_) (fun z => ?_) (fun z => ?_) (fx.tr (gx2.tr (gx3.mono rfl))) ⟨fun j hj => (gx3 5 j rfl).1.trans ((lo2.1 j hj).trans (lo.1 j hj)), fun j hj => (gx3 6 j rfl).2.1.trans ((lo2.2 j hj).trans (lo.2 j hj))⟩) rfl
                · have := (prS_adv z).1
                  have := hf9 hz0
                  omega
                · have zz := (prS_adv z).2.1
                  exact ⟨(Y_b4_dp _).kp gx3 rfl (hg2 zz).1, (Y_w4_dp _).kp gx3 rfl (hg2 zz).2⟩
                · rw [← hR0 hz0, twP, if_neg hK9, if_neg (fun y => y z)]
                · rw [← hR0 hz0, twP, if_neg hK9, if_pos z]
            · refine Ru_aload_n (pc := 96) dX12_town_96 rfl rfl ?_
              refine Ru_cv0 (pc := 97) dX12_town_97 mv_X12_310 rfl (by decide) (Nat.le_of_ble_eq_true rfl) (c_X12_readPerson (s := s) (x := x) tw hr hb4 hw4 (fun M2 gx2 lo2 hr2 hg2 => ?_)) 
              have eP := paS_p (T := T) (x := x) (s := s) (by omega)
              rw [eP.1] at hr2 hg2
              rw [eP.2] at hg2
              have hb2 := hr2.2.2.2.2
              refine Ru_goto (pc := 100) 119 dX12_town_100 (by decide) ?_
              refine Ru_aload_n (pc := 119) dX12_town_119 rfl rfl ?_
              refine Ru_aload_n (pc := 120) dX12_town_120 rfl rfl ?_
              refine Ru_bipush (pc := 121) (nI 59) dX12_town_121 rfl ?_
              refine Ru_cv1 (pc := 123) dX12_town_123 mv_X12_316 rfl (by decide) (Nat.le_of_ble_eq_true rfl) (c_X12_isSign (i := (paS T x s).1) tw hr2.2.1 (x := 59) (by decide) ?_) 
              refine Ru_cv1 (pc := 126) dX12_town_126 mv_X12_290 rfl (by decide) (Nat.le_of_ble_eq_true rfl) (c_X12_must (s := paS T x s) tw hr2 (fun M3 gx3 (hr3 : Y_rd T (prS T x s) M3) => ?_)) 
              refine Ru_goto (pc := 129) 49 dX12_town_129 (by decide) ?_
              obtain ⟨f', rfl⟩ : ∃ f', f = f' + 1 := ⟨f - 1, by have := (tK_i tw (i := s.1) hK9).1; omega⟩
              refine Ru_weak (ih f' (by omega) f' (prX T x s) (prS T x s) M3 rfl (fun z => ?_) hr3 (fun z => ?_) (fun z => ?_) (fun z => ?_) (fx.tr (gx2.tr (gx3.mono rfl))) ⟨fun j hj => (gx3 5 j rfl).1.trans ((lo2.1 j hj).trans (lo.1 j hj)), fun j hj => (gx3 6 j rfl).2.1.trans ((lo2.2 j hj).trans (lo.2 j hj))⟩) rfl
              · have := (prS_adv z).1
                have := hf9 hz0
                omega
              · have zz := (prS_adv z).2.1
                exact ⟨(Y_b4_dp _).kp gx3 rfl (hg2 zz).1, (Y_w4_dp _).kp gx3 rfl (hg2 zz).2⟩
              · rw [← hR0 hz0, twP, if_neg hK9, if_neg (fun y => y z)]
              · rw [← hR0 hz0, twP, if_neg hK9, if_pos z]
          · refine Ru_aload_n (pc := 84) dX12_town_84 rfl rfl ?_
            refine Ru_cv0 (pc := 85) dX12_town_85 mv_X12_307 rfl (by decide) (Nat.le_of_ble_eq_true rfl) (c_X12_readMaking (s := s) (x := x) tw hr hb4 hw4 (fun M2 gx2 lo2 hr2 hg2 => ?_)) 
            have eP := paS_m (T := T) (x := x) (s := s) (by omega)
            rw [eP.1] at hr2 hg2
            rw [eP.2] at hg2
            have hb2 := hr2.2.2.2.2
            refine Ru_goto (pc := 88) 119 dX12_town_88 (by decide) ?_
            refine Ru_aload_n (pc := 119) dX12_town_119 rfl rfl ?_
            refine Ru_aload_n (pc := 120) dX12_town_120 rfl rfl ?_
            refine Ru_bipush (pc := 121) (nI 59) dX12_town_121 rfl ?_
            refine Ru_cv1 (pc := 123) dX12_town_123 mv_X12_316 rfl (by decide) (Nat.le_of_ble_eq_true rfl) (c_X12_isSign (i := (paS T x s).1) tw hr2.2.1 (x := 59) (by decide) ?_) 
            refine Ru_cv1 (pc := 126) dX12_town_126 mv_X12_290 rfl (by decide) (Nat.le_of_ble_eq_true rfl) (c_X12_must (s := paS T x s) tw hr2 (fun M3 gx3 (hr3 : Y_rd T (prS T x s) M3) => ?_)) 
            refine Ru_goto (pc := 129) 49 dX12_town_129 (by decide) ?_
            obtain ⟨f', rfl⟩ : ∃ f', f = f' + 1 := ⟨f - 1, by have := (tK_i tw (i := s.1) hK9).1; omega⟩
            refine Ru_weak (ih f' (by omega) f' (prX T x s) (prS T x s) M3 rfl (fun z => ?_) hr3 (fun z => ?_) (fun z => ?_) (fun z => ?_) (fx.tr (gx2.tr (gx3.mono rfl))) ⟨fun j hj => (gx3 5 j rfl).1.trans ((lo2.1 j hj).trans (lo.1 j hj)), fun j hj => (gx3 6 j rfl).2.1.trans ((lo2.2 j hj).trans (lo.2 j hj))⟩) rfl
            · have := (prS_adv z).1
              have := hf9 hz0
              omega
            · have zz := (prS_adv z).2.1
              exact ⟨(Y_b4_dp _).kp gx3 rfl (hg2 zz).1, (Y_w4_dp _).kp gx3 rfl (hg2 zz).2⟩
            · rw [← hR0 hz0, twP, if_neg hK9, if_neg (fun y => y z)]
            · rw [← hR0 hz0, twP, if_neg hK9, if_pos z]
        · refine Ru_aload_n (pc := 72) dX12_town_72 rfl rfl ?_
          refine Ru_cv0 (pc := 73) dX12_town_73 mv_X12_304 rfl (by decide) (Nat.le_of_ble_eq_true rfl) (c_X12_readThing (s := s) (x := x) tw hr hb4 hw4 (fun M2 gx2 lo2 hr2 hg2 => ?_)) 
          have eP := paS_t (T := T) (x := x) (s := s) (by omega)
          rw [eP.1] at hr2 hg2
          rw [eP.2] at hg2
          have hb2 := hr2.2.2.2.2
          refine Ru_goto (pc := 76) 119 dX12_town_76 (by decide) ?_
          refine Ru_aload_n (pc := 119) dX12_town_119 rfl rfl ?_
          refine Ru_aload_n (pc := 120) dX12_town_120 rfl rfl ?_
          refine Ru_bipush (pc := 121) (nI 59) dX12_town_121 rfl ?_
          refine Ru_cv1 (pc := 123) dX12_town_123 mv_X12_316 rfl (by decide) (Nat.le_of_ble_eq_true rfl) (c_X12_isSign (i := (paS T x s).1) tw hr2.2.1 (x := 59) (by decide) ?_) 
          refine Ru_cv1 (pc := 126) dX12_town_126 mv_X12_290 rfl (by decide) (Nat.le_of_ble_eq_true rfl) (c_X12_must (s := paS T x s) tw hr2 (fun M3 gx3 (hr3 : Y_rd T (prS T x s) M3) => ?_)) 
          refine Ru_goto (pc := 129) 49 dX12_town_129 (by decide) ?_
          obtain ⟨f', rfl⟩ : ∃ f', f = f' + 1 := ⟨f - 1, by have := (tK_i tw (i := s.1) hK9).1; omega⟩
          refine Ru_weak (ih f' (by omega) f' (prX T x s) (prS T x s) M3 rfl (fun z => ?_) hr3 (fun z => ?_) (fun z => ?_) (fun z => ?_) (fx.tr (gx2.tr (gx3.mono rfl))) ⟨fun j hj => (gx3 5 j rfl).1.trans ((lo2.1 j hj).trans (lo.1 j hj)), fun j hj => (gx3 6 j rfl).2.1.trans ((lo2.2 j hj).trans (lo.2 j hj))⟩) rfl
          · have := (prS_adv z).1
            have := hf9 hz0
            omega
          · have zz := (prS_adv z).2.1
            exact ⟨(Y_b4_dp _).kp gx3 rfl (hg2 zz).1, (Y_w4_dp _).kp gx3 rfl (hg2 zz).2⟩
          · rw [← hR0 hz0, twP, if_neg hK9, if_neg (fun y => y z)]
          · rw [← hR0 hz0, twP, if_neg hK9, if_pos z]

theorem l_X12_town0 {Q : Rq} {M0 : Mem} {n' : Nat} (k : ∀ M', (∀ k, k < 650 → M'.1 5 (2600 + k) = nI 0) → (∀ j, j < 2600 → M'.1 5 j = M0.1 5 j) → r_fx [] [5] M0 M' → Ru 8 mt_X12_town r_z 49 [(0, some (.ref 0))] [] GY M' Q) : ∀ (zw : Nat) (q : Nat) (M : Mem), 650 - q = zw → (q ≤ 650) → (∀ k, k < q → M.1 5 (2600 + k) = nI 0) → (∀ j, j < 2600 → M.1 5 j = M0.1 5 j) → (r_fx [] [5] M0 M) → Ru 8 mt_X12_town r_z 25 [(0, some (.ref 0)), (1, some (.int (nI n'))), (2, some (.int (nI q)))] [] GY M Q := by
  intro zw
  induction zw using Nat.strongRecOn with
  | ind zw ih =>
    intro q M hw hn hz lo fx
    subst hw
    refine Ru_iload_n (pc := 25) dX12_town_25 rfl rfl ?_
    refine Ru_sipush (pc := 26) (nI 650) dX12_town_26 rfl ?_
    refine Ru_icmp_geN (pc := 29) 49 dX12_town_29 (by decide) (by omega) (fun h1 => ?_) (fun h1 => ?_)
    · exact Ru_weak (k M (fun k hk => hz k (by omega)) lo fx) rfl
    · refine Ru_aload_n (pc := 32) dX12_town_32 rfl rfl ?_
      refine Ru_getR (pc := 33) 5 dX12_town_33 fl_X12_35 rfl rfl rfl ?_
      refine Ru_sipush (pc := 36) (nI 2600) dX12_town_36 rfl ?_
      refine Ru_iload_n (pc := 39) dX12_town_39 rfl rfl ?_
      refine Ru_iaddN (pc := 40) dX12_town_40 ?_
      refine Ru_iconst (pc := 41) (nI 0) dX12_town_41 rfl ?_
      refine Ru_iast (pc := 42) rfl dX12_town_42 rfl (by omega) ?_
      refine Ru_iincN (pc := 43) 1 dX12_town_43 rfl rfl rfl (by decide) ?_
      refine Ru_goto (pc := 46) 25 dX12_town_46 (by decide) ?_
      refine Ru_weak (ih (650 - (q + 1)) (by omega) (q + 1) _ rfl (by omega) (fun k hk => ?_) (fun j hj => (r_sI_n (by omega)).trans (lo j hj)) (r_fx.sI rfl fx)) rfl
      rw [r_sI_g]
      by_cases e : k = q
      · subst e
        rw [if_pos ⟨rfl, rfl⟩]
      · rw [if_neg (by omega)]
        exact hz k (by omega)

theorem l_X12_town1 {Q : Rq} {M0 : Mem} (k : ∀ M', (∀ k, k < 650 → M'.1 5 k = M0.1 5 (2600 + k)) → (∀ j, 650 ≤ j → M'.1 5 j = M0.1 5 j) → r_fx [] [5] M0 M' → Ru 8 mt_X12_town r_z 172 [(0, some (.ref 0))] [] GY M' Q) : ∀ (zw : Nat) (q : Nat) (M : Mem), 650 - q = zw → (q ≤ 650) → (∀ k, k < q → M.1 5 k = M0.1 5 (2600 + k)) → (∀ j, 650 ≤ j → M.1 5 j = M0.1 5 j) → (r_fx [] [5] M0 M) → Ru 8 mt_X12_town r_z 143 [(0, some (.ref 0)), (2, some (.int (nI q)))] [] GY M Q := by
  intro zw
  induction zw using Nat.strongRecOn with
  | ind zw ih =>
    intro q M hw hn hc hz fx
    subst hw
    refine Ru_iload_n (pc := 143) dX12_town_143 rfl rfl ?_
    refine Ru_sipush (pc := 144) (nI 650) dX12_town_144 rfl ?_
    refine Ru_icmp_geN (pc := 147) 172 dX12_town_147 (by decide) (by omega) (fun h1 => ?_) (fun h1 => ?_)
    · exact Ru_weak (k M (fun k hk => hc k (by omega)) hz fx) rfl
    · refine Ru_aload_n (pc := 150) dX12_town_150 rfl rfl ?_
      refine Ru_getR (pc := 151) 5 dX12_town_151 fl_X12_35 rfl rfl rfl ?_
      refine Ru_iload_n (pc := 154) dX12_town_154 rfl rfl ?_
      refine Ru_aload_n (pc := 155) dX12_town_155 rfl rfl ?_
      refine Ru_getR (pc := 156) 5 dX12_town_156 fl_X12_35 rfl rfl rfl ?_
      refine Ru_sipush (pc := 159) (nI 2600) dX12_town_159 rfl ?_
      refine Ru_iload_n (pc := 162) dX12_town_162 rfl rfl ?_
      refine Ru_iaddN (pc := 163) dX12_town_163 ?_
      refine Ru_iald (pc := 164) dX12_town_164 rfl (by omega) ?_
      refine Ru_top (hz (2600 + q) (by omega)) ?_
      refine Ru_iast (pc := 165) rfl dX12_town_165 rfl (by omega) ?_
      refine Ru_iincN (pc := 166) 1 dX12_town_166 rfl rfl rfl (by decide) ?_
      refine Ru_goto (pc := 169) 143 dX12_town_169 (by decide) ?_
      refine Ru_weak (ih (650 - (q + 1)) (by omega) (q + 1) _ rfl (by omega) (fun k hk => ?_) (fun j hj => (r_sI_n (by omega)).trans (hz j hj)) (r_fx.sI rfl fx)) rfl
      rw [r_sI_g]
      by_cases e : k = q
      · subst e
        rw [if_pos ⟨rfl, rfl⟩]
      · rw [if_neg (by omega)]
        exact hc k (by omega)

theorem l_X12_town2 {Q : Rq} {M0 : Mem} (k : ∀ M', (∀ k, k < 26 → M'.2.1 6 k = M0.2.1 6 (104 + k)) → (∀ j, 26 ≤ j → M'.2.1 6 j = M0.2.1 6 j) → r_fx [] [6] M0 M' → Q (some (.int (M'.1 5 0))) GY M') : ∀ (zw : Nat) (q : Nat) (M : Mem), 26 - q = zw → (q ≤ 26) → (∀ k, k < q → M.2.1 6 k = M0.2.1 6 (104 + k)) → (∀ j, 26 ≤ j → M.2.1 6 j = M0.2.1 6 j) → (r_fx [] [6] M0 M) → Ru 8 mt_X12_town r_z 174 [(0, some (.ref 0)), (2, some (.int (nI q)))] [] GY M Q := by
  intro zw
  induction zw using Nat.strongRecOn with
  | ind zw ih =>
    intro q M hw hn hc hz fx
    subst hw
    refine Ru_iload_n (pc := 174) dX12_town_174 rfl rfl ?_
    refine Ru_bipush (pc := 175) (nI 26) dX12_town_175 rfl ?_
    refine Ru_icmp_geN (pc := 177) 201 dX12_town_177 (by decide) (by omega) (fun h1 => ?_) (fun h1 => ?_)
    · refine Ru_aload_n (pc := 201) dX12_town_201 rfl rfl ?_
      refine Ru_getR (pc := 202) 5 dX12_town_202 fl_X12_35 rfl rfl rfl ?_
      refine Ru_iconst (pc := 205) (nI 0) dX12_town_205 rfl ?_
      refine Ru_iald (pc := 206) dX12_town_206 rfl (by omega) ?_
      refine Ru_iret (pc := 207) dX12_town_207 rfl ⟨Nat.le_refl _, Nat.le_refl _⟩ ?_
      exact k M (fun k hk => hc k (by omega)) hz fx
    · refine Ru_aload_n (pc := 180) dX12_town_180 rfl rfl ?_
      refine Ru_getR (pc := 181) 6 dX12_town_181 fl_X12_38 rfl rfl rfl ?_
      refine Ru_iload_n (pc := 184) dX12_town_184 rfl rfl ?_
      refine Ru_aload_n (pc := 185) dX12_town_185 rfl rfl ?_
      refine Ru_getR (pc := 186) 6 dX12_town_186 fl_X12_38 rfl rfl rfl ?_
      refine Ru_bipush (pc := 189) (nI 104) dX12_town_189 rfl ?_
      refine Ru_iload_n (pc := 191) dX12_town_191 rfl rfl ?_
      refine Ru_iaddN (pc := 192) dX12_town_192 ?_
      refine Ru_lald (pc := 193) dX12_town_193 rfl (by omega) ?_
      refine Ru_topL (hz (104 + q) (by omega)) ?_
      refine Ru_last (pc := 194) rfl dX12_town_194 rfl (by omega) ?_
      refine Ru_iincN (pc := 195) 1 dX12_town_195 rfl rfl rfl (by decide) ?_
      refine Ru_goto (pc := 198) 174 dX12_town_198 (by decide) ?_
      refine Ru_weak (ih (26 - (q + 1)) (by omega) (q + 1) _ rfl (by omega) (fun k hk => ?_) (fun j hj => (r_sJ_n (by omega)).trans (hz j hj)) (r_fx.sJ rfl fx)) rfl
      rw [r_sJ_g]
      by_cases e : k = q
      · subst e
        rw [if_pos ⟨rfl, rfl⟩]
      · rw [if_neg (by omega)]
        exact hc k (by omega)

/-- nothing was told yet -/
def x09 : St9 := (fun _ => 0, fun _ => [])
def twR (T : Tx) : St9 × Ps := twP T 801 x09 (0, 0)
def Y_bl (M M' : Mem) : Prop := (∀ j, 650 ≤ j → j < 2600 → M'.1 5 j = M.1 5 j) ∧ ∀ j, 26 ≤ j → j < 104 → M'.2.1 6 j = M.2.1 6 j
def Y_w0 (x : St9) (M : Mem) : Prop := (∀ k, k < x.1 0 → M.2.1 6 k = nJ (cd 32 (x.2 (0 + k))) ∧ Lv (x.2 (0 + k)) ∧ (x.2 (0 + k)).length ≤ 8) ∧ (∀ k, k < x.1 1 → M.2.1 6 (8 + k) = nJ (cd 32 (x.2 (8 + k))) ∧ Lv (x.2 (8 + k)) ∧ (x.2 (8 + k)).length ≤ 8) ∧ (∀ k, k < x.1 2 → M.2.1 6 (20 + k) = nJ (cd 32 (x.2 (20 + k))) ∧ Lv (x.2 (20 + k)) ∧ (x.2 (20 + k)).length ≤ 8) ∧ x.1 0 ≤ 8 ∧ x.1 1 ≤ 12 ∧ x.1 2 ≤ 6 ∧ x.1 3 ≤ 8
theorem Y_w0_of {x : St9} {M M' : Mem} (h : Y_w4 x M) (hc : ∀ k, k < 26 → M'.2.1 6 k = M.2.1 6 (104 + k)) : Y_w0 x M' := by
  have hb := h.2.2.2
  refine ⟨fun k hk => ⟨(hc k (by omega)).trans (h.1 k hk).1, (h.1 k hk).2⟩, fun k hk => ⟨(hc (8 + k) (by omega)).trans ?_, (h.2.1 k hk).2⟩, fun k hk => ⟨(hc (20 + k) (by omega)).trans ?_, (h.2.2.1 k hk).2⟩, hb⟩
  · rw [show 104 + (8 + k) = 112 + k by omega]
    exact (h.2.1 k hk).1
  · rw [show 104 + (20 + k) = 124 + k by omega]
    exact (h.2.2.1 k hk).1

theorem c_X12_town {Q : Rq} {M : Mem} {tp : Nat × (Nat → Int32)} {n : Int32} (hy : Y_tp tp M) (k5 : n.toInt < 0 ∨ (tp.1 : Int) < n.toInt ∨ (800 : Int) < n.toInt → ∀ M', r_fx [(0, 0), (0, 1)] [] M M' → M'.1 0 0 = nI 5 → Q (some (.int (-1))) GY M') (k10 : ∀ n', n = nI n' → n' ≤ tp.1 → n' ≤ 800 → ¬ (twR (txT tp n')).2.2 = 0 → ∀ M', r_fx [(0, 0), (0, 1), (0, 8), (0, 9), (0, 10), (0, 11), (0, 12), (0, 13), (0, 14), (0, 15), (0, 16), (0, 17), (0, 18), (0, 21)] [5, 6] M M' → (∀ j, j < 2600 → M'.1 5 j = M.1 5 j) → (∀ j, j < 104 → M'.2.1 6 j = M.2.1 6 j) → (∀ j, 139 ≤ j → j < 155 → M'.1 5 (2600 + j) = nI 0) → M'.1 0 8 = nI 0 → M'.1 0 0 = nI 10 → M'.1 0 10 = nI (twR (txT tp n')).2.2 → M'.1 0 11 = nI (tA (txT tp n') (twR (txT tp n')).2.1) → Q (some (.int (-1))) GY M') (k0 : ∀ n', n = nI n' → n' ≤ tp.1 → n' ≤ 800 → (twR (txT tp n')).2.2 = 0 → ∀ M', r_fx [(0, 0), (0, 1), (0, 8), (0, 9), (0, 10), (0, 11), (0, 12), (0, 13), (0, 14), (0, 15), (0, 16), (0, 17), (0, 18), (0, 21)] [5, 6] M M' → Y_bl M M' → (∀ k, k < 521 → M'.1 5 k = nI ((twR (txT tp n')).1.1 k)) → Y_w0 (twR (txT tp n')).1 M' → (∀ j, 139 ≤ j → j < 155 → M'.1 5 (2600 + j) = nI 0) → M'.1 0 8 = nI 0 → M'.1 0 0 = nI 0 → M'.1 0 10 = nI 0 → M'.1 0 11 = -1 → Q (some (.int (nI ((twR (txT tp n')).1.1 0)))) GY M') : Ca 8 mt_X12_town 0 0 [.ref 0, .int n] GY M Q := by
  refine Ca_of rfl (Nat.le_of_ble_eq_true rfl) ?_
  refine Ru_aload_n (pc := 0) dX12_town_0 rfl rfl ?_
  refine Ru_iconst (pc := 1) (nI 0) dX12_town_1 rfl ?_
  refine Ru_putI (pc := 2) rfl dX12_town_2 fl_X12_87 rfl ?_
  refine Ru_aload_n (pc := 5) dX12_town_5 rfl rfl ?_
  refine Ru_iconst (pc := 6) (nI 0) dX12_town_6 rfl ?_
  refine Ru_putI (pc := 7) rfl dX12_town_7 fl_X12_90 rfl ?_
  have fx1 : r_fx [(0, 0), (0, 1)] [] M (r_sI (r_sI M 0 1 (nI 0)) 0 0 (nI 0)) := r_fx.sI rfl (r_fx.sI rfl r_fx.rf)
  have hy1 : Y_tp tp (r_sI (r_sI M 0 1 (nI 0)) 0 0 (nI 0)) := ⟨((r_sI_n (by decide)).trans ((r_sI_n (by decide)).trans hy.1)), hy.2.1, fun k hk => (r_sI_n (by omega)).trans ((r_sI_n (by omega)).trans (hy.2.2 k hk))⟩
  have hst1 : (r_sI (r_sI M 0 1 (nI 0)) 0 0 (nI 0)).1 0 0 = nI 0 := r_sI_s
  refine Ru_aload_n (pc := 10) dX12_town_10 rfl rfl ?_
  refine Ru_iload_n (pc := 11) dX12_town_11 rfl rfl ?_
  refine Ru_sipush (pc := 12) (nI 800) dX12_town_12 rfl ?_
  refine Ru_cv2 (pc := 15) dX12_town_15 mv_X12_300 rfl (by decide) (Nat.le_of_ble_eq_true rfl) (c_X12_opens (tp := tp) (most := 800) hy1 (Nat.le_refl _) (fun hn5 M5 gx5 h05 => ?_) (fun n' en hn1 hn2 M2 gx2 h82 hr2 => ?_)) 
  · refine Ru_if_neN (pc := 18) 23 dX12_town_18 (by decide) (by omega) (fun h1 => ?_) (fun h1 => ?_)
    · exfalso
      omega
    · refine Ru_iconst (pc := 21) (-1) dX12_town_21 rfl ?_
      refine Ru_iret (pc := 22) dX12_town_22 rfl ⟨Nat.le_refl _, Nat.le_refl _⟩ ?_
      exact k5 hn5 M5 (fx1.tr (gx5.mono rfl)) h05
  subst en
  have tw := txT_w tp hn2
  have fx2 : r_fx [(0, 0), (0, 1), (0, 8), (0, 9), (0, 10), (0, 11), (0, 12), (0, 13), (0, 14), (0, 15), (0, 16), (0, 17), (0, 18), (0, 21)] [5, 6] M M2 := (fx1.mono rfl).tr (gx2.mono rfl)
  have h02 : M2.1 0 0 = nI 0 := (gx2 0 0 rfl).1.trans hst1
  refine Ru_if_neN (pc := 18) 23 dX12_town_18 (by decide) (by omega) (fun h1 => ?_) (fun h1 => ?_)
  · refine Ru_iconst (pc := 23) (nI 0) dX12_town_23 rfl ?_
    refine Ru_istore_n (pc := 24) dX12_town_24 rfl rfl (by decide) ?_
    refine Ru_weak (l_X12_town0 (n' := n') (fun M3 hz3 lo3 gx3 => ?_) 650 0 M2 rfl (Nat.zero_le _) (fun k hk => by omega) (fun _ _ => rfl) r_fx.rf) rfl
    have fx3 : r_fx [(0, 0), (0, 1), (0, 8), (0, 9), (0, 10), (0, 11), (0, 12), (0, 13), (0, 14), (0, 15), (0, 16), (0, 17), (0, 18), (0, 21)] [5, 6] M M3 := fx2.tr (gx3.mono rfl)
    have hr3 : Y_rd (txT tp n') (0, 0) M3 := (Y_rd_dp _ _).kp gx3 rfl hr2
    refine Ru_weak (l_X12_town (T := (txT tp n')) (R := twR (txT tp n')) tw (fun M4 gx4 lo4 hr4 hg4 => ?_) 801 801 x09 (0, 0) M3 rfl (fun _ => Nat.le_refl _) hr3 (fun _ => ⟨fun k hk => hz3 k (by omega), ⟨fun k hk => absurd hk (Nat.not_lt_zero _), fun k hk => absurd hk (Nat.not_lt_zero _), fun k hk => absurd hk (Nat.not_lt_zero _), by decide⟩⟩) (fun _ => rfl) (fun z => absurd rfl z) r_fx.rf ⟨fun _ _ => rfl, fun _ _ => rfl⟩) rfl
    have fx4 : r_fx [(0, 0), (0, 1), (0, 8), (0, 9), (0, 10), (0, 11), (0, 12), (0, 13), (0, 14), (0, 15), (0, 16), (0, 17), (0, 18), (0, 21)] [5, 6] M M4 := fx3.tr (gx4.mono rfl)
    have h04 : M4.1 0 0 = nI 0 := (gx4 0 0 rfl).1.trans ((gx3 0 0 rfl).1.trans h02)
    have h84 : M4.1 0 8 = nI 0 := (gx4 0 8 rfl).1.trans ((gx3 0 8 rfl).1.trans h82)
    have c4 : ∀ j, j < 2600 → M4.1 5 j = M.1 5 j := fun j hj => (lo4.1 j (Or.inl hj)).trans ((lo3 j hj).trans ((gx2 5 j rfl).1.trans (fx1 5 j rfl).1))
    have z4 : ∀ j, 139 ≤ j → j < 155 → M4.1 5 (2600 + j) = nI 0 := fun j j1 j2 => (lo4.1 _ (Or.inr (by omega))).trans (hz3 j (by omega))
    have w4 : ∀ j, j < 104 → M4.2.1 6 j = M.2.1 6 j := fun j hj => (lo4.2 j hj).trans ((gx3 6 j rfl).2.1.trans ((gx2 6 j rfl).2.1.trans (fx1 6 j rfl).2.1))
    refine Ru_aload_n (pc := 132) dX12_town_132 rfl rfl ?_
    refine Ru_cv0 (pc := 133) dX12_town_133 mv_X12_319 rfl (by decide) (Nat.le_of_ble_eq_true rfl) (c_X12_isWell tw hr4 (fun hb9 M5 gx5 h105 h115 => ?_) (fun hb9 M5 gx5 h105 h115 h05 => ?_)) 
    rotate_left
    · refine Ru_if_neN (pc := 136) 141 dX12_town_136 (by decide) (by omega) (fun h1 => ?_) (fun h1 => ?_)
      · exfalso
        omega
      · refine Ru_iconst (pc := 139) (-1) dX12_town_139 rfl ?_
        refine Ru_iret (pc := 140) dX12_town_140 rfl ⟨Nat.le_refl _, Nat.le_refl _⟩ ?_
        exact k10 n' rfl hn1 hn2 hb9 M5 (fx4.tr (gx5.mono rfl)) (fun j hj => (gx5 5 j rfl).1.trans (c4 j hj)) (fun j hj => (gx5 6 j rfl).2.1.trans (w4 j hj)) (fun j j1 j2 => (gx5 5 _ rfl).1.trans (z4 j j1 j2)) ((gx5 0 8 rfl).1.trans h84) h05 h105 h115
    have hg := hg4 hb9
    have fx5 : r_fx [(0, 0), (0, 1), (0, 8), (0, 9), (0, 10), (0, 11), (0, 12), (0, 13), (0, 14), (0, 15), (0, 16), (0, 17), (0, 18), (0, 21)] [5, 6] M M5 := fx4.tr (gx5.mono rfl)
    refine Ru_if_neN (pc := 136) 141 dX12_town_136 (by decide) (by omega) (fun h1 => ?_) (fun h1 => ?_)
    · refine Ru_iconst (pc := 141) (nI 0) dX12_town_141 rfl ?_
      refine Ru_istore_n (pc := 142) dX12_town_142 rfl rfl (by decide) ?_
      refine Ru_weak (l_X12_town1 (fun M6 hc6 hz6 gx6 => ?_) 650 0 M5 rfl (Nat.zero_le _) (fun k hk => by omega) (fun _ _ => rfl) r_fx.rf) rfl
      have fx6 : r_fx [(0, 0), (0, 1), (0, 8), (0, 9), (0, 10), (0, 11), (0, 12), (0, 13), (0, 14), (0, 15), (0, 16), (0, 17), (0, 18), (0, 21)] [5, 6] M M6 := fx5.tr (gx6.mono rfl)
      refine Ru_iconst (pc := 172) (nI 0) dX12_town_172 rfl ?_
      refine Ru_istore_n (pc := 173) dX12_town_173 rfl rfl (by decide) ?_
      refine Ru_weak (l_X12_town2 (fun M7 hc7 hz7 gx7 => ?_) 26 0 M6 rfl (Nat.zero_le _) (fun k hk => by omega) (fun _ _ => rfl) r_fx.rf) rfl
      have hcc : ∀ k, k < 521 → M7.1 5 k = nI ((twR (txT tp n')).1.1 k) := fun k hk => (gx7 5 k rfl).1.trans ((hc6 k (by omega)).trans ((gx5 5 _ rfl).1.trans (hg.1 k hk)))
      rw [hcc 0 (by decide)]
      refine k0 n' rfl hn1 hn2 hb9 M7 (fx6.tr (gx7.mono rfl)) ⟨fun j h1 h2 => ?_, fun j h1 h2 => ?_⟩ hcc (Y_w0_of hg.2 (fun k hk => (hc7 k hk).trans ((gx6 6 _ rfl).2.1.trans (gx5 6 _ rfl).2.1))) (fun j j1 j2 => (gx7 5 _ rfl).1.trans ((hz6 _ (by omega)).trans ((gx5 5 _ rfl).1.trans (z4 j j1 j2)))) ?_ ?_ ?_ ?_
      · exact (gx7 5 j rfl).1.trans ((hz6 j h1).trans ((gx5 5 j rfl).1.trans (c4 j h2)))
      · exact (hz7 j h1).trans ((gx6 6 j rfl).2.1.trans ((gx5 6 j rfl).2.1.trans (w4 j h2)))
      · exact (gx7 0 8 rfl).1.trans ((gx6 0 8 rfl).1.trans ((gx5 0 8 rfl).1.trans h84))
      · exact (gx7 0 0 rfl).1.trans ((gx6 0 0 rfl).1.trans ((gx5 0 0 rfl).1.trans h04))
      · exact (gx7 0 10 rfl).1.trans ((gx6 0 10 rfl).1.trans h105)
      · exact (gx7 0 11 rfl).1.trans ((gx6 0 11 rfl).1.trans h115)
    · exfalso
      omega
  · exfalso
    omega
