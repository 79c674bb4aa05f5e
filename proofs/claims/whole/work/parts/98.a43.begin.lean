-- TOKENS: the developers' own, all of a text
theorem rsv_fF (l : List Nat) : rsv l = if fF (fun i => decide (RW.getD i [] = l)) 28 = 0 then 3 else 127 + fF (fun i => decide (RW.getD i [] = l)) 28 := by
  rcases fF_sp (p := fun i => decide (RW.getD i [] = l)) 28 with ⟨h1, h2⟩ | ⟨k, h1, h2, h3, _⟩
  · rw [if_pos h1]
    rcases rsI_sp (l := l) RW 128 with ⟨h3, _⟩ | ⟨j, h3, h4, h5⟩
    · exact h3
    · rw [RW_len] at h3
      have h6 := h2 j h3
      rw [decide_eq_false_iff_not] at h6
      exact absurd h5.symm h6
  · rw [if_neg (by omega), h2]
    have h4 : rsv l = 128 + k := (rsv_k h1).mpr (of_decide_eq_true h3).symm
    omega
theorem nI_J {v : Nat} (h : v < 2147483648) : (nI v).toInt64 = nJ v := by
  apply Int64.toInt_inj.mp
  rw [Int32.toInt_toInt64, r_tn h, nJ_t (by omega)]
theorem w_dig {v B : Nat} {c : Int32} (hv : v < 100000) (hx : 48 ≤ B ∧ B ≤ 57) (hb : bB c B) : nI (v * 10) + c - nI 48 = nI (v * 10 + (B - 48)) := by
  obtain ⟨h1, h2, h3⟩ := hb
  apply Int32.toInt_inj.mp
  rw [Int32.toInt_sub, Int32.toInt_add, r_tn (by omega), r_tn (by decide), r_tn (by omega), Int.bmod_eq_of_le (n := ((v * 10 : Nat) : Int) + c.toInt) (by omega) (by omega), Int.bmod_eq_of_le (by omega) (by omega)]
  omega

theorem c_X8_scanWord {Q : Rq} {M : Mem} {T : Tx} {q s : Nat} (tw : Tw T) (htx : X_tx T M) (hrs : X_rs M) (hq : q ≤ 800) (hs : s < T.2) (hlt0 : isLt (T.1 s) = true) (k : ∀ M', r_fx [] [43, 45] M M' → (∀ j, ¬ j = q → M'.1 43 j = M.1 43 j ∧ M'.2.1 45 j = M.2.1 45 j) → M'.1 43 q = nI (kK T s) → (kK T s = 3 → M'.2.1 45 q = nJ (cd 27 (wl T s (xL T s - s)))) → Q (some (.int (nI (xL T s)))) GX M') : Ca 1 mt_X8_scanWord 0 0 [.ref 40, .int (nI q), .int (nI s), .int (nI T.2)] GX M Q := by
  refine Ca_of rfl (Nat.le_of_ble_eq_true rfl) ?_
  have t8 := tw.1
  refine Ru_iload_n (pc := 0) dX8_scanWord_0 rfl rfl ?_
  refine Ru_istore (pc := 1) dX8_scanWord_1 rfl (by decide) ?_
  refine Ru_lconst (pc := 3) 0 dX8_scanWord_3 rfl ?_
  refine Ru_lstore (pc := 4) dX8_scanWord_4 rfl (by decide) ?_
  refine Ru_weak (l_X8_scanWord (q := q) tw htx hq (fun m w hm hw8 hw9 => ?_) (T.2 - (s + 0)) 0 0 rfl (by omega) (fun j a b => by omega) (fun _ => rfl) (fun z => by omega)) rfl
  have hl := xL_sp tw (show s ≤ T.2 by omega)
  have eK : kK T s = if 8 < m then 4 else rsv (wl T s m) := by
    rw [hm]
    exact kK_L hs hlt0
  have hlv : Lv (wl T s m) := wl_v (fun i a b => hl.2.2.1 i a (by omega))
  refine Ru_aload_n (pc := 58) dX8_scanWord_58 rfl rfl ?_
  refine Ru_getR (pc := 59) 45 dX8_scanWord_59 fl_X8_26 rfl rfl (rfX_of (o := 40) (j := 5) rfl rfl) ?_
  refine Ru_iload_n (pc := 62) dX8_scanWord_62 rfl rfl ?_
  refine Ru_lload (pc := 63) dX8_scanWord_63 rfl ?_
  refine Ru_last (pc := 65) rfl dX8_scanWord_65 rfl (by omega) ?_
  refine Ru_aload_n (pc := 66) dX8_scanWord_66 rfl rfl ?_
  refine Ru_getR (pc := 67) 43 dX8_scanWord_67 fl_X8_19 rfl rfl (rfX_of (o := 40) (j := 3) rfl rfl) ?_
  refine Ru_iload_n (pc := 70) dX8_scanWord_70 rfl rfl ?_
  refine Ru_iload (pc := 71) dX8_scanWord_71 rfl ?_
  refine Ru_iload_n (pc := 73) dX8_scanWord_73 rfl rfl ?_
  refine Ru_isubN (pc := 74) dX8_scanWord_74 (by omega) ?_
  refine Ru_bipush (pc := 75) (nI 8) dX8_scanWord_75 rfl ?_
  refine Ru_icmp_leN (pc := 77) 84 dX8_scanWord_77 (by decide) (by omega) (fun h1 => ?_) (fun h1 => ?_)
  · refine Ru_iconst (pc := 84) (nI 3) dX8_scanWord_84 rfl ?_
    refine Ru_iast (pc := 85) rfl dX8_scanWord_85 rfl (by omega) ?_
    refine Ru_iconst (pc := 86) (nI 0) dX8_scanWord_86 rfl ?_
    refine Ru_istore (pc := 87) dX8_scanWord_87 rfl (by decide) ?_
    have hM2 : ∃ M2, M2 = (r_sI (r_sJ M 45 q w) 43 q (nI 3)) := ⟨_, rfl⟩
    obtain ⟨M2, eM2⟩ := hM2
    rw [← eM2]
    have gx2 : r_fx [] [43, 45] M M2 := by
      rw [eM2]
      exact r_fx.sI rfl (r_fx.sJ rfl r_fx.rf)
    have h432 : M2.1 43 q = nI 3 := by
      rw [eM2]
      exact r_sI_s
    have h452 : M2.2.1 45 q = w := by
      rw [eM2]
      exact r_sJ_s
    have ho2 : ∀ j, ¬ j = q → M2.1 43 j = M.1 43 j ∧ M2.2.1 45 j = M.2.1 45 j := fun j hj => by
      rw [eM2]
      exact ⟨r_sI_n (by omega), r_sJ_n (by omega)⟩
    have h8 : ¬ 8 < m := by omega
    rw [if_neg h8, rsv_fF] at eK
    have hw := hw8 (by omega)
    have hc8 := cd_8 (b := 27) (by decide) hlv (by rw [wl_len]; omega)
    have hP : ∀ i, i < 28 → (nJ (cd 27 (RW.getD i [])) = w ↔ (fun i => decide (RW.getD i [] = wl T s m)) i = true) := fun i hi => by
      have h9 := cd_8 (b := 27) (by decide) (RW_ok i hi).1 (RW_ok i hi).2
      rw [hw, nJ_eq ⟨by omega, by omega⟩, decide_eq_true_iff]
      exact ⟨fun z => cd_inj (Or.inl rfl) (RW_ok i hi).1 hlv z, fun z => by rw [z]⟩
    have hun : ∀ i j, i < 28 → j < 28 → (fun i => decide (RW.getD i [] = wl T s m)) i = true → (fun i => decide (RW.getD i [] = wl T s m)) j = true → i = j := fun i j hi hj z1 z2 => RW_inj hi hj ((of_decide_eq_true z1).trans (of_decide_eq_true z2).symm)
    refine Ru_weak (l_X8_scanWord2 (M0 := M2) (base := 3) (P := (fun i => decide (RW.getD i [] = wl T s m))) (s := s) (n := T.2) hq (X_rs_dp.kp gx2 rfl hrs) hP hun (fun M3 gx3 ho3 h433 => ?_) 28 0 M2 rfl (Nat.zero_le _) h432 (fun _ _ => rfl) r_fx.rf) rfl
    rw [show s + m = xL T s by omega]
    refine k M3 (gx2.tr (gx3.mono rfl)) (fun j hj => ⟨(ho3 j hj).trans (ho2 j hj).1, (gx3 45 j rfl).2.1.trans (ho2 j hj).2⟩) ?_ (fun z => ?_)
    · rw [eK]
      exact h433
    · rw [show xL T s - s = m by omega]
      exact (gx3 45 q rfl).2.1.trans (h452.trans hw)
  · refine Ru_iconst (pc := 80) (nI 4) dX8_scanWord_80 rfl ?_
    refine Ru_goto (pc := 81) 85 dX8_scanWord_81 (by decide) ?_
    refine Ru_iast (pc := 85) rfl dX8_scanWord_85 rfl (by omega) ?_
    refine Ru_iconst (pc := 86) (nI 0) dX8_scanWord_86 rfl ?_
    refine Ru_istore (pc := 87) dX8_scanWord_87 rfl (by decide) ?_
    have hM2 : ∃ M2, M2 = (r_sI (r_sJ M 45 q w) 43 q (nI 4)) := ⟨_, rfl⟩
    obtain ⟨M2, eM2⟩ := hM2
    rw [← eM2]
    have gx2 : r_fx [] [43, 45] M M2 := by
      rw [eM2]
      exact r_fx.sI rfl (r_fx.sJ rfl r_fx.rf)
    have h432 : M2.1 43 q = nI 4 := by
      rw [eM2]
      exact r_sI_s
    have h452 : M2.2.1 45 q = w := by
      rw [eM2]
      exact r_sJ_s
    have ho2 : ∀ j, ¬ j = q → M2.1 43 j = M.1 43 j ∧ M2.2.1 45 j = M.2.1 45 j := fun j hj => by
      rw [eM2]
      exact ⟨r_sI_n (by omega), r_sJ_n (by omega)⟩
    have h8 : 8 < m := by omega
    rw [if_pos h8] at eK
    have hP : ∀ i, i < 28 → (nJ (cd 27 (RW.getD i [])) = w ↔ (fun _ => false) i = true) := fun i hi => by
      have hp := cd27_pos (RW_ok i hi).1 (RW_ne i hi)
      have h9 := cd_8 (b := 27) (by decide) (RW_ok i hi).1 (RW_ok i hi).2
      rw [hw9 h8]
      constructor
      · intro z
        have := (nJ_eq ⟨by omega, by omega⟩).mp z
        omega
      · intro z
        cases z
    have hun : ∀ i j, i < 28 → j < 28 → (fun _ => false) i = true → (fun _ => false) j = true → i = j := fun i j _ _ z _ => by cases z
    refine Ru_weak (l_X8_scanWord2 (M0 := M2) (base := 4) (P := (fun _ => false)) (s := s) (n := T.2) hq (X_rs_dp.kp gx2 rfl hrs) hP hun (fun M3 gx3 ho3 h433 => ?_) 28 0 M2 rfl (Nat.zero_le _) h432 (fun _ _ => rfl) r_fx.rf) rfl
    rw [show s + m = xL T s by omega]
    refine k M3 (gx2.tr (gx3.mono rfl)) (fun j hj => ⟨(ho3 j hj).trans (ho2 j hj).1, (gx3 45 j rfl).2.1.trans (ho2 j hj).2⟩) ?_ (fun z => ?_)
    · rw [eK, h433, show fF (fun _ => false) 28 = 0 from fF_no (fun _ _ => rfl)]
      rfl
    · rw [eK] at z
      omega

theorem l_X8_scanNumber {Q : Rq} {M : Mem} {T : Tx} {q s : Nat} (tw : Tw T) (htx : X_tx T M) (hq : q ≤ 800) (k : ∀ m v, m = xD T s - s → (m ≤ 4 → v = nvf T s m) → v < 2147483648 → Ru 1 mt_X8_scanNumber r_z 61 [(4, some (.int (nI (s + m)))), (5, some (.int (nI v))), (0, some (.ref 40)), (1, some (.int (nI q))), (2, some (.int (nI s))), (3, some (.int (nI T.2)))] [] GX M Q) : ∀ (zw : Nat) (m : Nat) (v : Nat), T.2 - (s + m) = zw → (s + m ≤ T.2) → (∀ j, s ≤ j → j < s + m → isDg (T.1 j) = true) → (m ≤ 4 → v = nvf T s m) → (v < 2147483648) → Ru 1 mt_X8_scanNumber r_z 6 [(4, some (.int (nI (s + m)))), (5, some (.int (nI v))), (0, some (.ref 40)), (1, some (.int (nI q))), (2, some (.int (nI s))), (3, some (.int (nI T.2)))] [] GX M Q := by
  intro zw
  induction zw using Nat.strongRecOn with
  | ind zw ih =>
    intro m v hw hn hall hv4 hv3
    subst hw
    have t8 := tw.1
    refine Ru_iload (pc := 6) dX8_scanNumber_6 rfl ?_
    refine Ru_iload_n (pc := 8) dX8_scanNumber_8 rfl rfl ?_
    refine Ru_icmp_geN (pc := 9) 61 dX8_scanNumber_9 (by decide) (by omega) (fun h1 => ?_) (fun h1 => ?_)
    · have hnl : isDg (T.1 (s + m)) = false := by
        by_cases e : s + m < T.2
        · first | assumption | (exfalso; omega)
        · rw [tw.2.1 _ (by omega)]
          rfl
      have hm : xD T s = s + m := xD_eq tw (by omega) hn (fun j a b => hall j a b) hnl
      exact Ru_weak (k m v (by omega) hv4 hv3) rfl
    · refine Ru_aload_n (pc := 12) dX8_scanNumber_12 rfl rfl ?_
      refine Ru_getR (pc := 13) 41 dX8_scanNumber_13 fl_X8_9 rfl rfl (rfX_of (o := 40) (j := 1) rfl rfl) ?_
      refine Ru_iload (pc := 16) dX8_scanNumber_16 rfl ?_
      refine Ru_bald (pc := 18) dX8_scanNumber_18 rfl (by omega) ?_
      refine Ru_top (rfl : M.1 41 (s + m) = _) ?_
      refine Ru_cs1 (pc := 19) dX8_scanNumber_19 ms_X8_78 (by decide) (Nat.le_of_ble_eq_true rfl) (c_X8_isDigit (B := T.1 (s + m)) (htx (s + m) (by omega)) ?_) 
      refine Ru_if_eqB (pc := 22) 61 dX8_scanNumber_22 (by decide) (fun h2 => ?_) (fun h2 => ?_)
      · have hnl : isDg (T.1 (s + m)) = false := by
          by_cases e : s + m < T.2
          · first | assumption | (exfalso; omega)
          · rw [tw.2.1 _ (by omega)]
            rfl
        have hm : xD T s = s + m := xD_eq tw (by omega) hn (fun j a b => hall j a b) hnl
        exact Ru_weak (k m v (by omega) hv4 hv3) rfl
      · refine Ru_iload (pc := 25) dX8_scanNumber_25 rfl ?_
        refine Ru_iload_n (pc := 27) dX8_scanNumber_27 rfl rfl ?_
        refine Ru_isubN (pc := 28) dX8_scanNumber_28 (by omega) ?_
        refine Ru_iconst (pc := 29) (nI 4) dX8_scanNumber_29 rfl ?_
        refine Ru_icmp_geN (pc := 30) 52 dX8_scanNumber_30 (by decide) (by omega) (fun h3 => ?_) (fun h3 => ?_)
        · refine Ru_iconst (pc := 52) (nI 0) dX8_scanNumber_52 rfl ?_
          refine Ru_istore (pc := 53) dX8_scanNumber_53 rfl (by decide) ?_
          refine Ru_iincN (pc := 55) 1 dX8_scanNumber_55 rfl rfl rfl (by decide) ?_
          refine Ru_goto (pc := 58) 6 dX8_scanNumber_58 (by decide) ?_
          have hlt9 : isDg (T.1 (s + m)) = true := by assumption
          refine Ru_weak (ih (T.2 - (s + m) - 1) (by omega) (m + 1) _ (by omega) (by omega) (fun j a b => ?_) (fun z => by omega) (by omega)) rfl
          by_cases e : j = s + m
          · rw [e]
            exact hlt9
          · exact hall j a (by omega)
        · refine Ru_iload (pc := 33) dX8_scanNumber_33 rfl ?_
          refine Ru_bipush (pc := 35) (nI 10) dX8_scanNumber_35 rfl ?_
          refine Ru_imulN (pc := 37) dX8_scanNumber_37 ?_
          refine Ru_aload_n (pc := 38) dX8_scanNumber_38 rfl rfl ?_
          refine Ru_getR (pc := 39) 41 dX8_scanNumber_39 fl_X8_9 rfl rfl (rfX_of (o := 40) (j := 1) rfl rfl) ?_
          refine Ru_iload (pc := 42) dX8_scanNumber_42 rfl ?_
          refine Ru_bald (pc := 44) dX8_scanNumber_44 rfl (by omega) ?_
          refine Ru_top (rfl : M.1 41 (s + m) = _) ?_
          refine Ru_iadd (pc := 45) dX8_scanNumber_45 ?_
          refine Ru_bipush (pc := 46) (nI 48) dX8_scanNumber_46 rfl ?_
          refine Ru_isub (pc := 48) dX8_scanNumber_48 ?_
          have hdg := of_decide_eq_true (show isDg (T.1 (s + m)) = true by assumption)
          have hv9 := hv4 (by omega)
          have hn9 := nvf_4 (T := T) (s := s) (m := m) hall (by omega)
          refine Ru_top (show (((nI (v * 10)) + (M.1 41 (s + m))) - (nI 48)) = nI (v * 10 + (T.1 (s + m) - 48)) from w_dig (by omega) hdg (htx (s + m) (by omega))) ?_
          refine Ru_goto (pc := 49) 53 dX8_scanNumber_49 (by decide) ?_
          refine Ru_istore (pc := 53) dX8_scanNumber_53 rfl (by decide) ?_
          refine Ru_iincN (pc := 55) 1 dX8_scanNumber_55 rfl rfl rfl (by decide) ?_
          refine Ru_goto (pc := 58) 6 dX8_scanNumber_58 (by decide) ?_
          have hlt9 : isDg (T.1 (s + m)) = true := by assumption
          refine Ru_weak (ih (T.2 - (s + m) - 1) (by omega) (m + 1) _ (by omega) (by omega) (fun j a b => ?_) (fun _ => by rw [nvf, ← hv9]) (by omega)) rfl
          by_cases e : j = s + m
          · rw [e]
            exact hlt9
          · exact hall j a (by omega)

theorem c_X8_scanNumber {Q : Rq} {M : Mem} {T : Tx} {q s : Nat} (tw : Tw T) (htx : X_tx T M) (hrs : X_rs M) (hq : q ≤ 800) (hs : s < T.2) (hnl0 : isLt (T.1 s) = false) (hdg0 : isDg (T.1 s) = true) (k : ∀ M', r_fx [] [43, 45] M M' → (∀ j, ¬ j = q → M'.1 43 j = M.1 43 j ∧ M'.2.1 45 j = M.2.1 45 j) → M'.1 43 q = nI (kK T s) → (kK T s = 2 → M'.2.1 45 q = nJ (nvf T s (xD T s - s))) → Q (some (.int (nI (xD T s)))) GX M') : Ca 1 mt_X8_scanNumber 0 0 [.ref 40, .int (nI q), .int (nI s), .int (nI T.2)] GX M Q := by
  refine Ca_of rfl (Nat.le_of_ble_eq_true rfl) ?_
  have t8 := tw.1
  refine Ru_iload_n (pc := 0) dX8_scanNumber_0 rfl rfl ?_
  refine Ru_istore (pc := 1) dX8_scanNumber_1 rfl (by decide) ?_
  refine Ru_iconst (pc := 3) (nI 0) dX8_scanNumber_3 rfl ?_
  refine Ru_istore (pc := 4) dX8_scanNumber_4 rfl (by decide) ?_
  refine Ru_weak (l_X8_scanNumber (q := q) tw htx hq (fun m v hm hv4 hv3 => ?_) (T.2 - (s + 0)) 0 0 rfl (by omega) (fun j a b => by omega) (fun _ => rfl) (by decide)) rfl
  have hl := xD_sp tw (show s ≤ T.2 by omega)
  have eK : kK T s = if 4 < m then 1 else 2 := by
    rw [hm]
    exact kK_D hs hnl0 hdg0
  refine Ru_aload_n (pc := 61) dX8_scanNumber_61 rfl rfl ?_
  refine Ru_getR (pc := 62) 45 dX8_scanNumber_62 fl_X8_26 rfl rfl (rfX_of (o := 40) (j := 5) rfl rfl) ?_
  refine Ru_iload_n (pc := 65) dX8_scanNumber_65 rfl rfl ?_
  refine Ru_iload (pc := 66) dX8_scanNumber_66 rfl ?_
  refine Ru_i2l (pc := 68) _ dX8_scanNumber_68 rfl ?_
  refine Ru_last (pc := 69) rfl dX8_scanNumber_69 rfl (by omega) ?_
  refine Ru_aload_n (pc := 70) dX8_scanNumber_70 rfl rfl ?_
  refine Ru_getR (pc := 71) 43 dX8_scanNumber_71 fl_X8_19 rfl rfl (rfX_of (o := 40) (j := 3) rfl rfl) ?_
  refine Ru_iload_n (pc := 74) dX8_scanNumber_74 rfl rfl ?_
  refine Ru_iload (pc := 75) dX8_scanNumber_75 rfl ?_
  refine Ru_iload_n (pc := 77) dX8_scanNumber_77 rfl rfl ?_
  refine Ru_isubN (pc := 78) dX8_scanNumber_78 (by omega) ?_
  refine Ru_iconst (pc := 79) (nI 4) dX8_scanNumber_79 rfl ?_
  refine Ru_icmp_leN (pc := 80) 87 dX8_scanNumber_80 (by decide) (by omega) (fun h1 => ?_) (fun h1 => ?_)
  · refine Ru_iconst (pc := 87) (nI 2) dX8_scanNumber_87 rfl ?_
    refine Ru_iast (pc := 88) rfl dX8_scanNumber_88 rfl (by omega) ?_
    refine Ru_iload (pc := 89) dX8_scanNumber_89 rfl ?_
    refine Ru_iret (pc := 91) dX8_scanNumber_91 rfl ⟨Nat.le_refl _, Nat.le_refl _⟩ ?_
    have h4 : ¬ 4 < m := by omega
    rw [if_neg h4] at eK
    rw [show s + m = xD T s by omega]
    refine k _ (r_fx.sI rfl (r_fx.sJ rfl r_fx.rf)) (fun j hj => ⟨r_sI_n (by omega), r_sJ_n (by omega)⟩) (by rw [eK]; exact r_sI_s) (fun z => ?_)
    rw [show xD T s - s = m by omega, ← hv4 (by omega)]
    exact r_sJ_s.trans (nI_J hv3)
  · refine Ru_iconst (pc := 83) (nI 1) dX8_scanNumber_83 rfl ?_
    refine Ru_goto (pc := 84) 88 dX8_scanNumber_84 (by decide) ?_
    refine Ru_iast (pc := 88) rfl dX8_scanNumber_88 rfl (by omega) ?_
    refine Ru_iload (pc := 89) dX8_scanNumber_89 rfl ?_
    refine Ru_iret (pc := 91) dX8_scanNumber_91 rfl ⟨Nat.le_refl _, Nat.le_refl _⟩ ?_
    have h4 : 4 < m := by omega
    rw [if_pos h4] at eK
    rw [show s + m = xD T s by omega]
    refine k _ (r_fx.sI rfl (r_fx.sJ rfl r_fx.rf)) (fun j hj => ⟨r_sI_n (by omega), r_sJ_n (by omega)⟩) (by rw [eK]; exact r_sI_s) (fun z => ?_)
    rw [eK] at z
    omega

theorem c_X8_scan {Q : Rq} {M : Mem} {T : Tx} {q s : Nat} (tw : Tw T) (htx : X_tx T M) (hrs : X_rs M) (hq : q ≤ 800) (hs : s < T.2) (k : ∀ M', r_fx [] [43, 45] M M' → (∀ j, ¬ j = q → M'.1 43 j = M.1 43 j ∧ M'.2.1 45 j = M.2.1 45 j) → M'.1 43 q = nI (kK T s) → ((kK T s = 3 → M'.2.1 45 q = nJ (cd 27 (wl T s (xL T s - s)))) ∧ (kK T s = 2 → M'.2.1 45 q = nJ (nvf T s (xD T s - s)))) → Q (some (.int (nI (xE T s)))) GX M') : Ca 4 mt_X8_scan 0 0 [.ref 40, .int (nI q), .int (nI s), .int (nI T.2)] GX M Q := by
  refine Ca_of rfl (Nat.le_of_ble_eq_true rfl) ?_
  have t8 := tw.1
  refine Ru_aload_n (pc := 0) dX8_scan_0 rfl rfl ?_
  refine Ru_getR (pc := 1) 41 dX8_scan_1 fl_X8_9 rfl rfl (rfX_of (o := 40) (j := 1) rfl rfl) ?_
  refine Ru_iload_n (pc := 4) dX8_scan_4 rfl rfl ?_
  refine Ru_bald (pc := 5) dX8_scan_5 rfl (by omega) ?_
  refine Ru_top (rfl : M.1 41 s = _) ?_
  refine Ru_cs1 (pc := 6) dX8_scan_6 ms_X8_72 (by decide) (Nat.le_of_ble_eq_true rfl) (c_X8_isLetter (B := T.1 s) (htx s (by omega)) ?_) 
  refine Ru_if_eqB (pc := 9) 20 dX8_scan_9 (by decide) (fun h1 => ?_) (fun h1 => ?_)
  · refine Ru_aload_n (pc := 20) dX8_scan_20 rfl rfl ?_
    refine Ru_getR (pc := 21) 41 dX8_scan_21 fl_X8_9 rfl rfl (rfX_of (o := 40) (j := 1) rfl rfl) ?_
    refine Ru_iload_n (pc := 24) dX8_scan_24 rfl rfl ?_
    refine Ru_bald (pc := 25) dX8_scan_25 rfl (by omega) ?_
    refine Ru_top (rfl : M.1 41 s = _) ?_
    refine Ru_cs1 (pc := 26) dX8_scan_26 ms_X8_78 (by decide) (Nat.le_of_ble_eq_true rfl) (c_X8_isDigit (B := T.1 s) (htx s (by omega)) ?_) 
    refine Ru_if_eqB (pc := 29) 40 dX8_scan_29 (by decide) (fun h2 => ?_) (fun h2 => ?_)
    · refine Ru_aload_n (pc := 40) dX8_scan_40 rfl rfl ?_
      refine Ru_getR (pc := 41) 43 dX8_scan_41 fl_X8_19 rfl rfl (rfX_of (o := 40) (j := 3) rfl rfl) ?_
      refine Ru_iload_n (pc := 44) dX8_scan_44 rfl rfl ?_
      refine Ru_ldcS (k := 1) (idx := 84) (tx := r_tx1) (pc := 45) dX8_scan_45 rfl (Or.inr ⟨rfl, rfl, rfl⟩) ?_
      refine Ru_aload_n (pc := 47) dX8_scan_47 rfl rfl ?_
      refine Ru_getR (pc := 48) 41 dX8_scan_48 fl_X8_9 rfl rfl (rfX_of (o := 40) (j := 1) rfl rfl) ?_
      refine Ru_iload_n (pc := 51) dX8_scan_51 rfl rfl ?_
      refine Ru_bald (pc := 52) dX8_scan_52 rfl (by omega) ?_
      refine Ru_top (rfl : M.1 41 s = _) ?_
      refine Ru_sipush (pc := 53) (nI 255) dX8_scan_53 rfl ?_
      refine Ru_iand (pc := 56) dX8_scan_56 ?_
      refine Ru_top (bB_and (htx s hs)) ?_
      refine Ru_i2c (pc := 57) _ dX8_scan_57 rfl ?_
      refine Ru_top (c255 _ (tw.2.2 _)) ?_
      refine Ru_callSV (pc := 58) (As := [.int (nI (T.1 s))]) (d' := 3) (k := 1) (by decide) dX8_scan_58 sv_T86 (by decide) rfl rfl (Nat.le_of_ble_eq_true rfl) ⟨Nat.le_refl _, Nat.le_refl _⟩ ?_
      refine c_sidx (tw.2.2 _) (fun hsg j hj => ?_) (fun hsg => ?_)
      · have hraw : M.1 41 s = nI (T.1 s) := by
          have hb := htx s hs
          obtain ⟨b1, b2, b3⟩ := hb
          have hs6 := isSg_iff.mp hsg
          apply Int32.toInt_inj.mp
          rw [r_tn (by omega)]
          omega
        refine Ru_if_ltN (n := j) (pc := 61) dX8_scan_61 (by omega) ?_ (tgt := 73) (by decide)
        refine Ru_aload_n (pc := 64) dX8_scan_64 rfl rfl ?_
        refine Ru_getR (pc := 65) 41 dX8_scan_65 fl_X8_9 rfl rfl (rfX_of (o := 40) (j := 1) rfl rfl) ?_
        refine Ru_iload_n (pc := 68) dX8_scan_68 rfl rfl ?_
        refine Ru_bald (pc := 69) dX8_scan_69 rfl (by omega) ?_
        refine Ru_top (rfl : M.1 41 s = _) ?_
        refine Ru_goto (pc := 70) 74 dX8_scan_70 (by decide) ?_
        refine Ru_iast (pc := 74) rfl dX8_scan_74 rfl (by omega) ?_
        refine Ru_iload_n (pc := 75) dX8_scan_75 rfl rfl ?_
        refine Ru_iconst (pc := 76) (nI 1) dX8_scan_76 rfl ?_
        refine Ru_iaddN (pc := 77) dX8_scan_77 ?_
        refine Ru_iret (pc := 78) dX8_scan_78 rfl ⟨Nat.le_refl _, Nat.le_refl _⟩ ?_
        have hl9 : isLt (T.1 s) = false := by assumption
        have hd9 : isDg (T.1 s) = false := by assumption
        have eK := kK_S hs hl9 hd9
        rw [if_pos hsg] at eK
        rw [show s + 1 = xE T s from by unfold xE; rw [if_neg (by omega), if_neg (nb_f hl9), if_neg (nb_f hd9)]]
        refine k _ (r_fx.sI rfl r_fx.rf) (fun j hj => ⟨r_sI_n (by omega), rfl⟩) ?_ ⟨fun z => ?_, fun z => ?_⟩
        · rw [eK]
          exact r_sI_s.trans hraw
        · have := isSg_iff.mp hsg
          omega
        · have := isSg_iff.mp hsg
          omega
      · refine Ru_if_ltT (pc := 61) 73 dX8_scan_61 (by decide) (fun h9 => ?_) (fun h9 => absurd h9 (by decide))
        refine Ru_iconst (pc := 73) (nI 1) dX8_scan_73 rfl ?_
        refine Ru_iast (pc := 74) rfl dX8_scan_74 rfl (by omega) ?_
        refine Ru_iload_n (pc := 75) dX8_scan_75 rfl rfl ?_
        refine Ru_iconst (pc := 76) (nI 1) dX8_scan_76 rfl ?_
        refine Ru_iaddN (pc := 77) dX8_scan_77 ?_
        refine Ru_iret (pc := 78) dX8_scan_78 rfl ⟨Nat.le_refl _, Nat.le_refl _⟩ ?_
        have hl9 : isLt (T.1 s) = false := by assumption
        have hd9 : isDg (T.1 s) = false := by assumption
        have eK := kK_S hs hl9 hd9
        rw [if_neg (nb_f hsg)] at eK
        rw [show s + 1 = xE T s from by unfold xE; rw [if_neg (by omega), if_neg (nb_f hl9), if_neg (nb_f hd9)]]
        refine k _ (r_fx.sI rfl r_fx.rf) (fun j hj => ⟨r_sI_n (by omega), rfl⟩) ?_ ⟨fun z => ?_, fun z => ?_⟩
        · rw [eK]
          exact r_sI_s
        · omega
        · omega
    · refine Ru_aload_n (pc := 32) dX8_scan_32 rfl rfl ?_
      refine Ru_iload_n (pc := 33) dX8_scan_33 rfl rfl ?_
      refine Ru_iload_n (pc := 34) dX8_scan_34 rfl rfl ?_
      refine Ru_iload_n (pc := 35) dX8_scan_35 rfl rfl ?_
      refine Ru_cv3 (pc := 36) dX8_scan_36 mv_X8_81 rfl (by decide) (Nat.le_of_ble_eq_true rfl) (c_X8_scanNumber tw htx hrs hq hs (by assumption) (by assumption) (fun M2 gx2 ho2 hk2 hw2 => ?_)) 
      refine Ru_iret (pc := 39) dX8_scan_39 rfl ⟨Nat.le_refl _, Nat.le_refl _⟩ ?_
      have hl9 : isLt (T.1 s) = false := by assumption
      have hd9 : isDg (T.1 s) = true := by assumption
      rw [show xD T s = xE T s from by unfold xE; rw [if_neg (by omega), if_neg (nb_f hl9), if_pos hd9]]
      refine k M2 gx2 ho2 hk2 ⟨fun z => ?_, hw2⟩
      have := kK_D hs hl9 hd9
      rw [z] at this
      split at this <;> omega
  · refine Ru_aload_n (pc := 12) dX8_scan_12 rfl rfl ?_
    refine Ru_iload_n (pc := 13) dX8_scan_13 rfl rfl ?_
    refine Ru_iload_n (pc := 14) dX8_scan_14 rfl rfl ?_
    refine Ru_iload_n (pc := 15) dX8_scan_15 rfl rfl ?_
    refine Ru_cv3 (pc := 16) dX8_scan_16 mv_X8_75 rfl (by decide) (Nat.le_of_ble_eq_true rfl) (c_X8_scanWord tw htx hrs hq hs (by assumption) (fun M2 gx2 ho2 hk2 hw2 => ?_)) 
    refine Ru_iret (pc := 19) dX8_scan_19 rfl ⟨Nat.le_refl _, Nat.le_refl _⟩ ?_
    have hl9 : isLt (T.1 s) = true := by assumption
    rw [show xL T s = xE T s from by unfold xE; rw [if_neg (by omega), if_pos hl9]]
    refine k M2 gx2 ho2 hk2 ⟨hw2, fun z => ?_⟩
    have := kK_L hs hl9
    have hb := rsv_b (wl T s (xL T s - s))
    rw [z] at this
    split at this <;> omega

def X_tk (T : Tx) (cnt i : Nat) (M : Mem) : Prop := M.1 40 6 = nI i ∧ (i ≤ cnt ∧ cnt ≤ 800 ∧ tK T cnt = 0) ∧ ∀ j, j ≤ cnt → M.1 43 j = nI (tK T j) ∧ M.1 44 j = nI (tA T j) ∧ (tK T j = 2 → M.2.1 45 j = nJ (tV T j)) ∧ (tK T j = 3 → M.2.1 45 j = nJ (cd 27 (tL T j)))

theorem l_X8_begin {Q : Rq} {M0 : Mem} {T : Tx} {n' : Nat} (tw : Tw T) (htx0 : X_tx T M0) (hrs0 : X_rs M0) (k : ∀ M' cnt, r_fx [(40, 6), (40, 7), (40, 8)] [43, 44, 45] M0 M' → X_tk T cnt 0 M' → M'.1 40 7 = nI 0 → M'.1 40 8 = -1 → Q none GX M') : ∀ (zw : Nat) (cnt : Nat) (p : Nat) (i : Nat) (M : Mem), 801 - i = zw → (i ≤ p) → (cnt ≤ p) → (p ≤ T.2) → (xS T p = tA T cnt) → (∀ j, j < cnt → M.1 43 j = nI (tK T j) ∧ M.1 44 j = nI (tA T j) ∧ (tK T j = 2 → M.2.1 45 j = nJ (tV T j)) ∧ (tK T j = 3 → M.2.1 45 j = nJ (cd 27 (tL T j)))) → (r_fx [(40, 6), (40, 7), (40, 8)] [43, 44, 45] M0 M) → Ru 5 mt_X8_begin r_z 22 [(0, some (.ref 40)), (1, some (.int (nI n'))), (2, some (.int (nI T.2))), (3, some (.int (nI cnt))), (4, some (.int (nI p))), (5, some (.int (nI i)))] [] GX M Q := by
  intro zw
  induction zw using Nat.strongRecOn with
  | ind zw ih =>
    intro cnt p i M hw hi hc9 hn hS hall fx
    subst hw
    have t8 := tw.1
    have htx : X_tx T M := (X_tx_dp T).kp fx rfl htx0
    have hrs : X_rs M := X_rs_dp.kp fx rfl hrs0
    refine Ru_iload (pc := 22) dX8_begin_22 rfl ?_
    refine Ru_sipush (pc := 24) (nI 800) dX8_begin_24 rfl ?_
    refine Ru_icmp_geN (pc := 27) 82 dX8_begin_27 (by decide) (by omega) (fun h1 => ?_) (fun h1 => ?_)
    · have ei : p = T.2 := by omega
      refine Ru_aload_n (pc := 82) dX8_begin_82 rfl rfl ?_
      refine Ru_getR (pc := 83) 43 dX8_begin_83 fl_X8_19 rfl rfl (rfX_of (o := 40) (j := 3) rfl rfl) ?_
      refine Ru_iload_n (pc := 86) dX8_begin_86 rfl rfl ?_
      refine Ru_iconst (pc := 87) (nI 0) dX8_begin_87 rfl ?_
      refine Ru_iast (pc := 88) rfl dX8_begin_88 rfl (by omega) ?_
      refine Ru_aload_n (pc := 89) dX8_begin_89 rfl rfl ?_
      refine Ru_getR (pc := 90) 44 dX8_begin_90 fl_X8_23 rfl rfl (rfX_of (o := 40) (j := 4) rfl rfl) ?_
      refine Ru_iload_n (pc := 93) dX8_begin_93 rfl rfl ?_
      refine Ru_iload_n (pc := 94) dX8_begin_94 rfl rfl ?_
      refine Ru_iast (pc := 95) rfl dX8_begin_95 rfl (by omega) ?_
      refine Ru_aload_n (pc := 96) dX8_begin_96 rfl rfl ?_
      refine Ru_iconst (pc := 97) (nI 0) dX8_begin_97 rfl ?_
      refine Ru_putI (pc := 98) rfl dX8_begin_98 fl_X8_69 rfl ?_
      refine Ru_aload_n (pc := 101) dX8_begin_101 rfl rfl ?_
      refine Ru_iconst (pc := 102) (nI 0) dX8_begin_102 rfl ?_
      refine Ru_putI (pc := 103) rfl dX8_begin_103 fl_X8_29 rfl ?_
      refine Ru_aload_n (pc := 106) dX8_begin_106 rfl rfl ?_
      refine Ru_iconst (pc := 107) (-1) dX8_begin_107 rfl ?_
      refine Ru_putI (pc := 108) rfl dX8_begin_108 fl_X8_33 rfl ?_
      refine Ru_vret (pc := 111) dX8_begin_111 rfl ⟨Nat.le_refl _, Nat.le_refl _⟩ ?_
      have ep : p = T.2 := by omega
      subst ep
      have eA : tA T cnt = T.2 := hS.symm.trans (xS_id tw (Nat.le_refl _) (Bk_z tw T.2 (Nat.le_refl _)))
      have eK : tK T cnt = 0 := tK_0.mpr (by omega)
      refine k _ cnt (r_fx.sI rfl (r_fx.sI rfl (r_fx.sI rfl (r_fx.sI rfl (r_fx.sI rfl fx))))) ⟨((r_sI_n (by decide)).trans ((r_sI_n (by decide)).trans r_sI_s)), ⟨Nat.zero_le _, by omega, eK⟩, fun j hj => ?_⟩ ((r_sI_n (by decide)).trans r_sI_s) r_sI_s
      by_cases e : j = cnt
      · subst e
        refine ⟨?_, ?_, fun z => by omega, fun z => by omega⟩
        · rw [eK]
          exact ((r_sI_n (by omega)).trans ((r_sI_n (by omega)).trans ((r_sI_n (by omega)).trans ((r_sI_n (by omega)).trans r_sI_s))))
        · rw [eA]
          exact ((r_sI_n (by omega)).trans ((r_sI_n (by omega)).trans ((r_sI_n (by omega)).trans r_sI_s)))
      · have h4 := hall j (by omega)
        exact ⟨((r_sI_n (by omega)).trans ((r_sI_n (by omega)).trans ((r_sI_n (by omega)).trans ((r_sI_n (by omega)).trans ((r_sI_n (by omega)).trans h4.1))))), ((r_sI_n (by omega)).trans ((r_sI_n (by omega)).trans ((r_sI_n (by omega)).trans ((r_sI_n (by omega)).trans ((r_sI_n (by omega)).trans h4.2.1))))), h4.2.2.1, h4.2.2.2⟩
    · refine Ru_iload (pc := 30) dX8_begin_30 rfl ?_
      refine Ru_iload_n (pc := 32) dX8_begin_32 rfl rfl ?_
      refine Ru_icmp_geN (pc := 33) 82 dX8_begin_33 (by decide) (by omega) (fun h2 => ?_) (fun h2 => ?_)
      · refine Ru_aload_n (pc := 82) dX8_begin_82 rfl rfl ?_
        refine Ru_getR (pc := 83) 43 dX8_begin_83 fl_X8_19 rfl rfl (rfX_of (o := 40) (j := 3) rfl rfl) ?_
        refine Ru_iload_n (pc := 86) dX8_begin_86 rfl rfl ?_
        refine Ru_iconst (pc := 87) (nI 0) dX8_begin_87 rfl ?_
        refine Ru_iast (pc := 88) rfl dX8_begin_88 rfl (by omega) ?_
        refine Ru_aload_n (pc := 89) dX8_begin_89 rfl rfl ?_
        refine Ru_getR (pc := 90) 44 dX8_begin_90 fl_X8_23 rfl rfl (rfX_of (o := 40) (j := 4) rfl rfl) ?_
        refine Ru_iload_n (pc := 93) dX8_begin_93 rfl rfl ?_
        refine Ru_iload_n (pc := 94) dX8_begin_94 rfl rfl ?_
        refine Ru_iast (pc := 95) rfl dX8_begin_95 rfl (by omega) ?_
        refine Ru_aload_n (pc := 96) dX8_begin_96 rfl rfl ?_
        refine Ru_iconst (pc := 97) (nI 0) dX8_begin_97 rfl ?_
        refine Ru_putI (pc := 98) rfl dX8_begin_98 fl_X8_69 rfl ?_
        refine Ru_aload_n (pc := 101) dX8_begin_101 rfl rfl ?_
        refine Ru_iconst (pc := 102) (nI 0) dX8_begin_102 rfl ?_
        refine Ru_putI (pc := 103) rfl dX8_begin_103 fl_X8_29 rfl ?_
        refine Ru_aload_n (pc := 106) dX8_begin_106 rfl rfl ?_
        refine Ru_iconst (pc := 107) (-1) dX8_begin_107 rfl ?_
        refine Ru_putI (pc := 108) rfl dX8_begin_108 fl_X8_33 rfl ?_
        refine Ru_vret (pc := 111) dX8_begin_111 rfl ⟨Nat.le_refl _, Nat.le_refl _⟩ ?_
        have ep : p = T.2 := by omega
        subst ep
        have eA : tA T cnt = T.2 := hS.symm.trans (xS_id tw (Nat.le_refl _) (Bk_z tw T.2 (Nat.le_refl _)))
        have eK : tK T cnt = 0 := tK_0.mpr (by omega)
        refine k _ cnt (r_fx.sI rfl (r_fx.sI rfl (r_fx.sI rfl (r_fx.sI rfl (r_fx.sI rfl fx))))) ⟨((r_sI_n (by decide)).trans ((r_sI_n (by decide)).trans r_sI_s)), ⟨Nat.zero_le _, by omega, eK⟩, fun j hj => ?_⟩ ((r_sI_n (by decide)).trans r_sI_s) r_sI_s
        by_cases e : j = cnt
        · subst e
          refine ⟨?_, ?_, fun z => by omega, fun z => by omega⟩
          · rw [eK]
            exact ((r_sI_n (by omega)).trans ((r_sI_n (by omega)).trans ((r_sI_n (by omega)).trans ((r_sI_n (by omega)).trans r_sI_s))))
          · rw [eA]
            exact ((r_sI_n (by omega)).trans ((r_sI_n (by omega)).trans ((r_sI_n (by omega)).trans r_sI_s)))
        · have h4 := hall j (by omega)
          exact ⟨((r_sI_n (by omega)).trans ((r_sI_n (by omega)).trans ((r_sI_n (by omega)).trans ((r_sI_n (by omega)).trans ((r_sI_n (by omega)).trans h4.1))))), ((r_sI_n (by omega)).trans ((r_sI_n (by omega)).trans ((r_sI_n (by omega)).trans ((r_sI_n (by omega)).trans ((r_sI_n (by omega)).trans h4.2.1))))), h4.2.2.1, h4.2.2.2⟩
      · refine Ru_aload_n (pc := 36) dX8_begin_36 rfl rfl ?_
        refine Ru_getR (pc := 37) 41 dX8_begin_37 fl_X8_9 rfl rfl (rfX_of (o := 40) (j := 1) rfl rfl) ?_
        refine Ru_iload (pc := 40) dX8_begin_40 rfl ?_
        refine Ru_bald (pc := 42) dX8_begin_42 rfl (by omega) ?_
        refine Ru_top (rfl : M.1 41 p = _) ?_
        refine Ru_cs1 (pc := 43) dX8_begin_43 ms_X8_61 (by decide) (Nat.le_of_ble_eq_true rfl) (c_X8_isBlank (B := T.1 p) (htx p (by omega)) ?_) 
        refine Ru_if_eqB (pc := 46) 55 dX8_begin_46 (by decide) (fun h3 => ?_) (fun h3 => ?_)
        · refine Ru_aload_n (pc := 55) dX8_begin_55 rfl rfl ?_
          refine Ru_getR (pc := 56) 44 dX8_begin_56 fl_X8_23 rfl rfl (rfX_of (o := 40) (j := 4) rfl rfl) ?_
          refine Ru_iload_n (pc := 59) dX8_begin_59 rfl rfl ?_
          refine Ru_iload (pc := 60) dX8_begin_60 rfl ?_
          refine Ru_iast (pc := 62) rfl dX8_begin_62 rfl (by omega) ?_
          have hM2 : ∃ M2, M2 = (r_sI M 44 cnt (nI p)) := ⟨_, rfl⟩
          obtain ⟨M2, eM2⟩ := hM2
          rw [← eM2]
          have gx2 : r_fx [] [44] M M2 := by
            rw [eM2]
            exact r_fx.sI rfl r_fx.rf
          have htx2 : X_tx T M2 := (X_tx_dp T).kp gx2 rfl htx
          have hrs2 : X_rs M2 := X_rs_dp.kp gx2 rfl hrs
          refine Ru_aload_n (pc := 63) dX8_begin_63 rfl rfl ?_
          refine Ru_iload_n (pc := 64) dX8_begin_64 rfl rfl ?_
          refine Ru_iload (pc := 65) dX8_begin_65 rfl ?_
          refine Ru_iload_n (pc := 67) dX8_begin_67 rfl rfl ?_
          refine Ru_cv3 (pc := 68) dX8_begin_68 mv_X8_65 rfl (by decide) (Nat.le_of_ble_eq_true rfl) (c_X8_scan tw htx2 hrs2 (q := cnt) (s := p) (by omega) (by omega) (fun M3 gx3 ho3 hk3 hw3 => ?_)) 
          refine Ru_istore (pc := 71) dX8_begin_71 rfl (by decide) ?_
          refine Ru_iincN (pc := 73) 1 dX8_begin_73 rfl rfl rfl (by decide) ?_
          refine Ru_iincN (pc := 76) 1 dX8_begin_76 rfl rfl rfl (by decide) ?_
          refine Ru_goto (pc := 79) 22 dX8_begin_79 (by decide) ?_
          have hbk : isBk (T.1 p) = false := by assumption
          have eA : tA T cnt = p := by
            rw [← hS]
            exact xS_id tw (by omega) hbk
          have hE := xE_b tw (s := p) (by omega)
          refine Ru_weak (ih (801 - (i + 1)) (by omega) (cnt + 1) (xE T p) (i + 1) M3 (by omega) (by omega) (by omega) hE.2 ?_ (fun j hj => ?_) (fx.tr ((gx2.mono rfl).tr (gx3.mono rfl)))) rfl
          · show xS T (xE T p) = tA T (cnt + 1)
            rw [← eA]
            rfl
          · by_cases e : j = cnt
            · subst e
              have eK : kK T p = tK T j := by
                rw [← eA]
                rfl
              rw [← eK]
              refine ⟨hk3, ?_, fun z => ?_, fun z => ?_⟩
              · refine (gx3 44 j rfl).1.trans ?_
                rw [eM2, eA]
                exact r_sI_s
              · rw [hw3.2 z]
                unfold tV
                rw [eA]
              · rw [hw3.1 z]
                unfold tL
                rw [eA]
            · have h4 := hall j (by omega)
              have h5 := ho3 j e
              have h6 : M2.1 43 j = M.1 43 j ∧ M2.2.1 45 j = M.2.1 45 j ∧ M2.1 44 j = M.1 44 j := by
                rw [eM2]
                exact ⟨r_sI_n (by omega), rfl, r_sI_n (by omega)⟩
              exact ⟨h5.1.trans (h6.1.trans h4.1), ((gx3 44 j rfl).1.trans h6.2.2).trans h4.2.1, fun z => (h5.2.trans h6.2.1).trans (h4.2.2.1 z), fun z => (h5.2.trans h6.2.1).trans (h4.2.2.2 z)⟩
        · refine Ru_iincN (pc := 49) 1 dX8_begin_49 rfl rfl rfl (by decide) ?_
          refine Ru_goto (pc := 52) 76 dX8_begin_52 (by decide) ?_
          refine Ru_iincN (pc := 76) 1 dX8_begin_76 rfl rfl rfl (by decide) ?_
          refine Ru_goto (pc := 79) 22 dX8_begin_79 (by decide) ?_
          have hbk : isBk (T.1 p) = true := by assumption
          exact Ru_weak (ih (801 - (i + 1)) (by omega) cnt (p + 1) (i + 1) M (by omega) (by omega) (by omega) (by omega) ((xS_st tw (by omega) hbk).symm.trans hS) hall fx) rfl

theorem txT_x {tp : Nat × (Nat → Int32)} {n : Nat} {M : Mem} (hb : ∀ k, k < n → -128 ≤ (tp.2 k).toInt ∧ (tp.2 k).toInt ≤ 127) (ht : ∀ k, k < n → M.1 41 k = tp.2 k) : X_tx (txT tp n) M := by
  intro k hk
  have hk2 : k < n := hk
  have h1 := hb k hk2
  rw [ht k hk2]
  refine ⟨h1.1, h1.2, ?_⟩
  show ((if k < n then (tp.2 k &&& nI 255).toInt.toNat else 0 : Nat) : Int) = _
  rw [if_pos hk2]
  have h2 := and255 (tp.2 k)
  have h3 := bB_and (c := tp.2 k) (B := ((tp.2 k).toInt % 256).toNat) ⟨h1.1, h1.2, by omega⟩
  rw [h3, r_tn (by omega)]
  omega

theorem c_X8_begin {Q : Rq} {M : Mem} {tp : Nat × (Nat → Int32)} {n' : Nat} (hy : X_tp tp M) (hwt : ∀ k, k < tp.1 → -128 ≤ (tp.2 k).toInt ∧ (tp.2 k).toInt ≤ 127) (hrs : X_rs M) (hn9 : n' ≤ tp.1) (k : ∀ M' cnt, r_fx [(40, 1), (40, 6), (40, 7), (40, 8)] [43, 44, 45] M M' → M'.1 40 1 = nI 0 → X_tk (txT tp n') cnt 0 M' → M'.1 40 7 = nI 0 → M'.1 40 8 = -1 → Q none GX M') : Ca 5 mt_X8_begin 0 0 [.ref 40, .int (nI n')] GX M Q := by
  refine Ca_of rfl (Nat.le_of_ble_eq_true rfl) ?_
  have h80 := hy.2.1
  have tw := txT_w tp (n := n') (by omega)
  have htx : X_tx (txT tp n') M := txT_x (fun k hk => hwt k (by omega)) (fun k hk => hy.2.2 k (by omega))
  refine Ru_iload_n (pc := 0) dX8_begin_0 rfl rfl ?_
  refine Ru_aload_n (pc := 1) dX8_begin_1 rfl rfl ?_
  refine Ru_getI (pc := 2) dX8_begin_2 fl_X8_52 rfl rfl ?_
  refine Ru_top hy.1 ?_
  refine Ru_cs2 (pc := 5) dX8_begin_5 ms_X8_55 (by decide) (Nat.le_of_ble_eq_true rfl) (c_X_minN (by omega) (by omega) ?_) 
  refine Ru_top (show nI (min n' tp.1) = nI n' from congrArg nI (by omega)) ?_
  refine Ru_istore_n (pc := 8) dX8_begin_8 rfl rfl (by decide) ?_
  refine Ru_aload_n (pc := 9) dX8_begin_9 rfl rfl ?_
  refine Ru_iconst (pc := 10) (nI 0) dX8_begin_10 rfl ?_
  refine Ru_putI (pc := 11) rfl dX8_begin_11 fl_X8_52 rfl ?_
  refine Ru_iconst (pc := 14) (nI 0) dX8_begin_14 rfl ?_
  refine Ru_istore_n (pc := 15) dX8_begin_15 rfl rfl (by decide) ?_
  refine Ru_iconst (pc := 16) (nI 0) dX8_begin_16 rfl ?_
  refine Ru_istore (pc := 17) dX8_begin_17 rfl (by decide) ?_
  refine Ru_iconst (pc := 19) (nI 0) dX8_begin_19 rfl ?_
  refine Ru_istore (pc := 20) dX8_begin_20 rfl (by decide) ?_
  have hM2 : ∃ M2, M2 = (r_sI M 40 1 (nI 0)) := ⟨_, rfl⟩
  obtain ⟨M2, eM2⟩ := hM2
  rw [← eM2]
  have gx2 : r_fx [(40, 1)] [] M M2 := by
    rw [eM2]
    exact r_fx.sI rfl r_fx.rf
  have h12 : M2.1 40 1 = nI 0 := by
    rw [eM2]
    exact r_sI_s
  refine Ru_weak (l_X8_begin (T := (txT tp n')) (n' := n') tw ((X_tx_dp _).kp gx2 rfl htx) (X_rs_dp.kp gx2 rfl hrs) (fun M3 cnt gx3 hk3 h7 h8 => k M3 cnt ((gx2.mono rfl).tr (gx3.mono rfl)) ((gx3 40 1 rfl).1.trans h12) hk3 h7 h8) 801 0 0 0 M2 rfl (Nat.le_refl _) (Nat.le_refl _) (Nat.zero_le _) rfl (fun j hj => by omega) r_fx.rf) rfl
