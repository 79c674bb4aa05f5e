-- THE NIGHT THAT IS CHOSEN

theorem l_X0_choose {Q : Rq} {M : Mem} {d : Td} {t s r : Nat} {n9 y9 : Nat} {f : Nat → Nat} (wf : Wf d) (hs : s < 2 ^ d 0) (hFb : ∀ x, f x ≤ 100000000) (hN : nF d s r (qL d s r) M) (h57 : ∀ s', s' < 2 ^ d 0 → M.1 57 s' = nI (f s')) (k : Ru 4 mt_X0_chooseNight r_z 98 [(4, some (.int (nI (qF (qG d f s r) (qL d s r).length)))), (0, some (.ref 55)), (1, some (.ref 46)), (2, some (.int (nI n9))), (3, some (.int (nI y9)))] [] GX M Q) : ∀ (zw : Nat) (n : Nat), (qL d s r).length - n = zw → (n ≤ (qL d s r).length) → (1 ≤ n) → Ru 4 mt_X0_chooseNight r_z 52 [(4, some (.int (nI (qF (qG d f s r) n)))), (5, some (.int (nI n))), (0, some (.ref 55)), (1, some (.ref 46)), (2, some (.int (nI n9))), (3, some (.int (nI y9)))] [] GX M Q := by
  intro zw
  induction zw using Nat.strongRecOn with
  | ind zw ih =>
    intro n hw hn hn1
    subst hw
    have hb := wf.1
    have hp := pw_le hb.1
    have hll := qL_len hb.1 s r
    have h52 : ∀ i, i < (qL d s r).length → M.1 52 i = nI (qSt d 0 s r (qL d s r) i) := fun i hi => (hN.2 i hi).2.2.2
    have hq := (qF_sp (qG d f s r) n hn1).1
    have hst1 := qSt_lt d 0 s r n
    have hst2 := qSt_lt d 0 s r (qF (qG d f s r) n)
    have hfb1 := hFb (qSt d 0 s r (qL d s r) n)
    have hfb2 := hFb (qSt d 0 s r (qL d s r) (qF (qG d f s r) n))
    refine Ru_iload (pc := 52) dX0_chooseNight_52 rfl ?_
    refine Ru_aload_n (pc := 54) dX0_chooseNight_54 rfl rfl ?_
    refine Ru_getI (pc := 55) dX0_chooseNight_55 fl_X0_84 rfl rfl ?_
    refine Ru_top hN.1 ?_
    refine Ru_icmp_geN (pc := 58) 98 dX0_chooseNight_58 (by decide) (by omega) (fun h1 => ?_) (fun h1 => ?_)
    · have en : n = (qL d s r).length := by omega
      subst en
      exact Ru_weak k rfl
    · refine Ru_aload_n (pc := 61) dX0_chooseNight_61 rfl rfl ?_
      refine Ru_getR (pc := 62) 57 dX0_chooseNight_62 fl_X0_15 rfl rfl (rfX_of (o := 55) (j := 2) rfl rfl) ?_
      refine Ru_aload_n (pc := 65) dX0_chooseNight_65 rfl rfl ?_
      refine Ru_getR (pc := 66) 52 dX0_chooseNight_66 fl_X0_88 rfl rfl (rfX_of (o := 46) (j := 6) rfl rfl) ?_
      refine Ru_iload (pc := 69) dX0_chooseNight_69 rfl ?_
      refine Ru_iald (pc := 71) dX0_chooseNight_71 rfl (by omega) ?_
      refine Ru_top (h52 n (by omega)) ?_
      refine Ru_iald (pc := 72) dX0_chooseNight_72 rfl (by omega) ?_
      refine Ru_top (h57 (qSt d 0 s r (qL d s r) n) (by assumption)) ?_
      refine Ru_aload_n (pc := 73) dX0_chooseNight_73 rfl rfl ?_
      refine Ru_getR (pc := 74) 57 dX0_chooseNight_74 fl_X0_15 rfl rfl (rfX_of (o := 55) (j := 2) rfl rfl) ?_
      refine Ru_aload_n (pc := 77) dX0_chooseNight_77 rfl rfl ?_
      refine Ru_getR (pc := 78) 52 dX0_chooseNight_78 fl_X0_88 rfl rfl (rfX_of (o := 46) (j := 6) rfl rfl) ?_
      refine Ru_iload (pc := 81) dX0_chooseNight_81 rfl ?_
      refine Ru_iald (pc := 83) dX0_chooseNight_83 rfl (by omega) ?_
      refine Ru_top (h52 (qF (qG d f s r) n) (by omega)) ?_
      refine Ru_iald (pc := 84) dX0_chooseNight_84 rfl (by omega) ?_
      refine Ru_top (h57 (qSt d 0 s r (qL d s r) (qF (qG d f s r) n)) (by assumption)) ?_
      refine Ru_icmp_leN (pc := 85) 92 dX0_chooseNight_85 (by decide) (by omega) (fun h2 => ?_) (fun h2 => ?_)
      · refine Ru_iincN (pc := 92) 1 dX0_chooseNight_92 rfl rfl rfl (by decide) ?_
        refine Ru_goto (pc := 95) 52 dX0_chooseNight_95 (by decide) ?_
        have e : qF (qG d f s r) (n + 1) = (qF (qG d f s r) n) := by
          rw [qF, if_neg (by omega)]
          exact if_neg (show ¬ f (qSt d 0 s r (qL d s r) (qF (qG d f s r) n)) < f (qSt d 0 s r (qL d s r) n) by omega)
        have hr := ih ((qL d s r).length - (n + 1)) (by omega) (n + 1) rfl (by omega) (by omega)
        rw [e] at hr
        exact Ru_weak hr rfl
      · refine Ru_iload (pc := 88) dX0_chooseNight_88 rfl ?_
        refine Ru_istore (pc := 90) dX0_chooseNight_90 rfl (by decide) ?_
        refine Ru_iincN (pc := 92) 1 dX0_chooseNight_92 rfl rfl rfl (by decide) ?_
        refine Ru_goto (pc := 95) 52 dX0_chooseNight_95 (by decide) ?_
        have e : qF (qG d f s r) (n + 1) = n := by
          rw [qF, if_neg (by omega)]
          exact if_pos (show f (qSt d 0 s r (qL d s r) (qF (qG d f s r) n)) < f (qSt d 0 s r (qL d s r) n) by omega)
        have hr := ih ((qL d s r).length - (n + 1)) (by omega) (n + 1) rfl (by omega) (by omega)
        rw [e] at hr
        exact Ru_weak hr rfl

theorem c_X0_chooseNight {Q : Rq} {M : Mem} {mk t lw pl : Nat} {d : Td} {s n9 y9 : Nat} {f : Nat → Nat} {nt : Tl} (hu : X_cu mk t lw pl d M) (hx : X_tm t d M) (hlw : X_lw lw d M) (wf : Wf d) (hwl : Wl d) (htw : M.2.2 55 0 = some t) (hn9 : n9 ≤ 9) (hy9 : y9 ≤ 999) (hs : s < 2 ^ d 0) (hFb : ∀ x, f x ≤ 100000000) (h5510 : M.1 55 10 = nI s) (h57 : 1 < n9 → ∀ s', s' < 2 ^ d 0 → M.1 57 s' = nI (f s')) (k : ∀ M', r_fx [(46, 0), (46, 2), (46, 4), (55, 11)] [47, 48, 49, 50, 51, 52, 64] M M' → X_nt (if 1 < n9 then (true, nCho d 0 s (y9 % 7) (f1 d 0 f s (y9 % 7) (nBest d 0 f s (y9 % 7)) (d 0 + 1))) else (false, nt.2)) M' → Q none GX M') : Ca 4 mt_X0_chooseNight 0 0 [.ref 55, .ref 46, .int (nI n9), .int (nI y9)] GX M Q := by
  refine Ca_of rfl (Nat.le_of_ble_eq_true rfl) ?_
  have hb := wf.1
  have hp := pw_le hb.1
  have ht : isTown t := hu.1.2.2.2
  have hT : t = 3 ∨ t = 83 ∨ t = 111 ∨ t = 139 ∨ t = 167 := ht
  have hlwi : isLaw lw := hu.2.1.2.1
  refine Ru_aload_n (pc := 0) dX0_chooseNight_0 rfl rfl ?_
  refine Ru_iload_n (pc := 1) dX0_chooseNight_1 rfl rfl ?_
  refine Ru_iconst (pc := 2) (nI 1) dX0_chooseNight_2 rfl ?_
  refine Ru_icmp_leN (pc := 3) 10 dX0_chooseNight_3 (by decide) (by omega) (fun h1 => ?_) (fun h1 => ?_)
  · refine Ru_iconst (pc := 10) (nI 0) dX0_chooseNight_10 rfl ?_
    refine Ru_putZ (pc := 11) rfl dX0_chooseNight_11 fl_X0_167 rfl (Or.inl rfl) ?_
    refine Ru_aload_n (pc := 14) dX0_chooseNight_14 rfl rfl ?_
    refine Ru_getI (pc := 15) dX0_chooseNight_15 fl_X0_167 rfl rfl ?_
    refine Ru_top r_sI_s ?_
    refine Ru_if_neN (pc := 18) 22 dX0_chooseNight_18 (by decide) (by omega) (fun h2 => ?_) (fun h2 => ?_)
    · exfalso
      omega
    · refine Ru_vret (pc := 21) dX0_chooseNight_21 rfl ⟨Nat.le_refl _, Nat.le_refl _⟩ ?_
      refine k _ (r_fx.sI rfl r_fx.rf) ?_
      rw [if_neg (by omega)]
      exact ⟨r_sI_s, fun q => by cases q⟩
  · refine Ru_iconst (pc := 6) (nI 1) dX0_chooseNight_6 rfl ?_
    refine Ru_goto (pc := 7) 11 dX0_chooseNight_7 (by decide) ?_
    refine Ru_putZ (pc := 11) rfl dX0_chooseNight_11 fl_X0_167 rfl (Or.inr rfl) ?_
    refine Ru_aload_n (pc := 14) dX0_chooseNight_14 rfl rfl ?_
    refine Ru_getI (pc := 15) dX0_chooseNight_15 fl_X0_167 rfl rfl ?_
    refine Ru_top r_sI_s ?_
    refine Ru_if_neN (pc := 18) 22 dX0_chooseNight_18 (by decide) (by omega) (fun h3 => ?_) (fun h3 => ?_)
    · have fx1 : r_fx [(46, 0), (46, 2), (46, 4), (55, 11)] [47, 48, 49, 50, 51, 52, 64] M (r_sI M 55 11 (nI 1)) := (r_fx.sI rfl r_fx.rf)
      have h1u : (r_sI M 55 11 (nI 1)).1 55 11 = r_b true := r_sI_s
      have hu1 : X_cu mk t lw pl d (r_sI M 55 11 (nI 1)) := (X_cu_dp mk t lw pl d).kp fx1 rfl hu
      have hx1 : X_tm t d (r_sI M 55 11 (nI 1)) := (X_tm_dp ht d).kp fx1 rfl hx
      have hlw1 : X_lw lw d (r_sI M 55 11 (nI 1)) := (X_lw_dp hlwi d).kp fx1 rfl hlw
      have htw1 : (r_sI M 55 11 (nI 1)).2.2 55 0 = some t := (fx1 55 0 rfl).2.2.trans htw
      have h10 : (r_sI M 55 11 (nI 1)).1 55 10 = nI s := by simp [r_sI_g]; exact h5510
      generalize (r_sI M 55 11 (nI 1)) = M1 at *
      refine Ru_aload_n (pc := 22) dX0_chooseNight_22 rfl rfl ?_
      refine Ru_aload_n (pc := 23) dX0_chooseNight_23 rfl rfl ?_
      refine Ru_getR (pc := 24) t dX0_chooseNight_24 fl_X0_50 rfl rfl ((rfX_mut rfl rfl).trans htw1) ?_
      refine Ru_aload_n (pc := 27) dX0_chooseNight_27 rfl rfl ?_
      refine Ru_getI (pc := 28) dX0_chooseNight_28 fl_X0_164 rfl rfl ?_
      refine Ru_top h10 ?_
      refine Ru_iload_n (pc := 31) dX0_chooseNight_31 rfl rfl ?_
      refine Ru_bipush (pc := 32) (nI 7) dX0_chooseNight_32 rfl ?_
      refine Ru_iremN (pc := 34) dX0_chooseNight_34 (by omega) ?_
      refine Ru_cv3 (pc := 35) dX0_chooseNight_35 mv_X0_74 rfl (by decide) (Nat.le_of_ble_eq_true rfl) (c_X4_look hu1 hx1 hlw1 wf hwl (s := s) (r := (y9 % 7)) (by omega) (by omega) (fun M2 h47 hth hpl gx2 => ?_)) 
      have fx2 : r_fx [(46, 0), (46, 2), (46, 4), (55, 11)] [47, 48, 49, 50, 51, 52, 64] M M2 := fx1.tr (gx2.mono rfl)
      have hx2 : X_tm t d M2 := (X_tm_dp ht d).kp fx2 rfl hx
      have htw2 : M2.2.2 55 0 = some t := (fx2 55 0 rfl).2.2.trans htw
      refine Ru_aload_n (pc := 38) dX0_chooseNight_38 rfl rfl ?_
      refine Ru_aload_n (pc := 39) dX0_chooseNight_39 rfl rfl ?_
      refine Ru_getR (pc := 40) t dX0_chooseNight_40 fl_X0_50 rfl rfl ((rfX_mut rfl rfl).trans htw2) ?_
      refine Ru_cv1 (pc := 43) dX0_chooseNight_43 mv_X0_80 rfl (by decide) (Nat.le_of_ble_eq_true rfl) (c_X4_list wf h47 hth hpl ht hx2 (fun M3 hN3 gx3 => ?_)) 
      have fx3 : r_fx [(46, 0), (46, 2), (46, 4), (55, 11)] [47, 48, 49, 50, 51, 52, 64] M M3 := fx2.tr (gx3.mono rfl)
      refine Ru_iconst (pc := 46) (nI 0) dX0_chooseNight_46 rfl ?_
      refine Ru_istore (pc := 47) dX0_chooseNight_47 rfl (by decide) ?_
      refine Ru_iconst (pc := 49) (nI 1) dX0_chooseNight_49 rfl ?_
      refine Ru_istore (pc := 50) dX0_chooseNight_50 rfl (by decide) ?_
      have h573 : ∀ s', s' < 2 ^ d 0 → M3.1 57 s' = nI (f s') := fun s' q1 => (fx3 57 s' rfl).1.trans (h57 (by omega) s' q1)
      have hpos := qL_pos d wf (y9 % 7) hs
      have hix := (qF_sp (qG d f s (y9 % 7)) (qL d s (y9 % 7)).length hpos).1
      have hll := qL_len hb.1 s (y9 % 7)
      have hat := hN3.2 (qF (qG d f s (y9 % 7)) (qL d s (y9 % 7)).length) hix
      refine Ru_weak (l_X0_choose (M := M3) (t := t) (r := (y9 % 7)) (n9 := n9) (y9 := y9) wf hs hFb hN3 h573 ?_ ((qL d s (y9 % 7)).length - 1) 1 rfl hpos (Nat.le_refl _)) rfl
      refine Ru_aload_n (pc := 98) dX0_chooseNight_98 rfl rfl ?_
      refine Ru_getR (pc := 99) 64 dX0_chooseNight_99 fl_X0_40 rfl rfl (rfX_of (o := 55) (j := 9) rfl rfl) ?_
      refine Ru_iconst (pc := 102) (nI 0) dX0_chooseNight_102 rfl ?_
      refine Ru_aload_n (pc := 103) dX0_chooseNight_103 rfl rfl ?_
      refine Ru_getR (pc := 104) 49 dX0_chooseNight_104 fl_X0_171 rfl rfl (rfX_of (o := 46) (j := 3) rfl rfl) ?_
      refine Ru_iload (pc := 107) dX0_chooseNight_107 rfl ?_
      refine Ru_iald (pc := 109) dX0_chooseNight_109 rfl (by omega) ?_
      refine Ru_top hat.1 ?_
      refine Ru_iast (pc := 110) rfl dX0_chooseNight_110 rfl (by omega) ?_
      refine Ru_aload_n (pc := 111) dX0_chooseNight_111 rfl rfl ?_
      refine Ru_getR (pc := 112) 64 dX0_chooseNight_112 fl_X0_40 rfl rfl (rfX_of (o := 55) (j := 9) rfl rfl) ?_
      refine Ru_iconst (pc := 115) (nI 1) dX0_chooseNight_115 rfl ?_
      refine Ru_aload_n (pc := 116) dX0_chooseNight_116 rfl rfl ?_
      refine Ru_getR (pc := 117) 50 dX0_chooseNight_117 fl_X0_174 rfl rfl (rfX_of (o := 46) (j := 4) rfl rfl) ?_
      refine Ru_iload (pc := 120) dX0_chooseNight_120 rfl ?_
      refine Ru_iald (pc := 122) dX0_chooseNight_122 rfl (by omega) ?_
      refine Ru_top ((r_sI_n (by omega)).trans hat.2.1) ?_
      refine Ru_iast (pc := 123) rfl dX0_chooseNight_123 rfl (by omega) ?_
      refine Ru_aload_n (pc := 124) dX0_chooseNight_124 rfl rfl ?_
      refine Ru_getR (pc := 125) 64 dX0_chooseNight_125 fl_X0_40 rfl rfl (rfX_of (o := 55) (j := 9) rfl rfl) ?_
      refine Ru_iconst (pc := 128) (nI 2) dX0_chooseNight_128 rfl ?_
      refine Ru_aload_n (pc := 129) dX0_chooseNight_129 rfl rfl ?_
      refine Ru_getR (pc := 130) 51 dX0_chooseNight_130 fl_X0_177 rfl rfl (rfX_of (o := 46) (j := 5) rfl rfl) ?_
      refine Ru_iload (pc := 133) dX0_chooseNight_133 rfl ?_
      refine Ru_iald (pc := 135) dX0_chooseNight_135 rfl (by omega) ?_
      refine Ru_top ((r_sI_n (by omega)).trans ((r_sI_n (by omega)).trans hat.2.2.1)) ?_
      refine Ru_iast (pc := 136) rfl dX0_chooseNight_136 rfl (by omega) ?_
      refine Ru_aload_n (pc := 137) dX0_chooseNight_137 rfl rfl ?_
      refine Ru_getR (pc := 138) 64 dX0_chooseNight_138 fl_X0_40 rfl rfl (rfX_of (o := 55) (j := 9) rfl rfl) ?_
      refine Ru_iconst (pc := 141) (nI 3) dX0_chooseNight_141 rfl ?_
      refine Ru_aload_n (pc := 142) dX0_chooseNight_142 rfl rfl ?_
      refine Ru_getR (pc := 143) 52 dX0_chooseNight_143 fl_X0_88 rfl rfl (rfX_of (o := 46) (j := 6) rfl rfl) ?_
      refine Ru_iload (pc := 146) dX0_chooseNight_146 rfl ?_
      refine Ru_iald (pc := 148) dX0_chooseNight_148 rfl (by omega) ?_
      refine Ru_top ((r_sI_n (by omega)).trans ((r_sI_n (by omega)).trans ((r_sI_n (by omega)).trans hat.2.2.2))) ?_
      refine Ru_iast (pc := 149) rfl dX0_chooseNight_149 rfl (by omega) ?_
      refine Ru_vret (pc := 150) dX0_chooseNight_150 rfl ⟨Nat.le_refl _, Nat.le_refl _⟩ ?_
      refine k _ (r_fx.sI rfl (r_fx.sI rfl (r_fx.sI rfl (r_fx.sI rfl fx3)))) ?_
      rw [if_pos (by omega)]
      refine ⟨?_, fun _ k' hk' => ?_⟩
      · simp only [r_sI_g]
        rw [if_neg (by omega), if_neg (by omega), if_neg (by omega), if_neg (by omega)]
        exact (gx3 55 11 rfl).1.trans ((gx2 55 11 rfl).1.trans h1u)
      · rw [qX_cho wf hs]
        have h4 : k' = 0 ∨ k' = 1 ∨ k' = 2 ∨ k' = 3 := by omega
        rcases h4 with rfl | rfl | rfl | rfl <;> simp [r_sI_g] <;> rfl
    · exfalso
      omega
