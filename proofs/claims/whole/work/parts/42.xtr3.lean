theorem X_tr_S {tr : Nat → Tr} {M M' : Mem} (h : r_fx [(0, 0)] [] M M') (hy : X_tr tr M) : X_tr tr M' := (X_tr_dp tr).kp h rfl hy
theorem X_tr_new {tr : Nat → Tr} {M M' : Mem} {t n : Nat} {s : Int32} (hy : X_tr tr M) (ht : t < 4) (hn : n ≤ 60) (hf : ∀ o' k', o' ≠ 75 + 2 * t → o' ≠ 75 + 2 * t + 1 → r_eq3 M M' o' k') (h1 : M'.1 (75 + 2 * t) 0 = s) (h2 : M'.1 (75 + 2 * t) 1 = nI n) (hz : ∀ q, q < 60 → M'.2.1 (75 + 2 * t + 1) q = 0) : X_tr (fun j => if j = t then (s, nI n, fun _ => 0) else tr j) M' := by
  intro j hj
  obtain ⟨a, b, c, d, e⟩ := hy j hj
  have f0 := (hf 1 j (by omega) (by omega)).2.2
  by_cases hjt : j = t
  · subst hjt
    simp only [if_pos]
    have en := r_tn (show n < 2147483648 by omega)
    refine ⟨f0.trans a, h1, h2, by rw [en]; omega, fun q hq => ?_⟩
    rw [en] at hq
    exact hz q (by omega)
  · simp only [if_neg hjt]
    refine ⟨f0.trans a, ((hf _ 0 (by omega) (by omega)).1).trans b, ((hf _ 1 (by omega) (by omega)).1).trans c, d, fun q hq => ?_⟩
    exact ((hf _ q (by omega) (by omega)).2.1).trans (e q hq)
theorem X_tr_put {tr : Nat → Tr} {M : Mem} {t k : Nat} {v : Int64} (hy : X_tr tr M) (ht : t < 4) : X_tr (fun j => if j = t then ((tr j).1, (tr j).2.1, fun i => if i = k then f_cut (tr j).1 v else (tr j).2.2 i) else tr j) (r_sJ M (75 + 2 * t + 1) k (f_cut (tr t).1 v)) := by
  intro j hj
  obtain ⟨a, b, c, d, e⟩ := hy j hj
  by_cases hjt : j = t
  · subst hjt
    simp only [if_pos]
    refine ⟨a, b, c, d, fun i hi => ?_⟩
    rw [r_sJ_g]
    by_cases hik : i = k
    · subst hik
      rw [if_pos ⟨rfl, rfl⟩, if_pos rfl]
    · rw [if_neg (by omega), if_neg hik]
      exact e i hi
  · simp only [if_neg hjt]
    refine ⟨a, b, c, d, fun i hi => ?_⟩
    rw [r_sJ_g, if_neg (by omega)]
    exact e i hi
theorem X_tr_pour {tr : Nat → Tr} {M : Mem} {t i u j n : Nat} (hy : X_tr tr M) (ht : t < 4) (hu : u < 4) (hi : (i + n : Int) ≤ (tr t).2.1.toInt) : X_tr (fun q => if q = u then ((tr q).1, (tr q).2.1, fun k => if j ≤ k ∧ k < j + n then (tr t).2.2 (i + (k - j)) else (tr q).2.2 k) else tr q) (r_wJ M (75 + 2 * u + 1) (va_cpy (M.2.1 (75 + 2 * t + 1)) (M.2.1 (75 + 2 * u + 1)) i j n)) := by
  intro q hq
  obtain ⟨a, b, c, d, e⟩ := hy q hq
  obtain ⟨a2, b2, c2, d2, e2⟩ := hy t ht
  by_cases hqu : q = u
  · subst hqu
    simp only [if_pos]
    refine ⟨a, b, c, d, fun k hk => ?_⟩
    simp only [r_wJ, if_pos, va_cpy]
    by_cases hjk : j ≤ k ∧ k < j + n
    · rw [if_pos hjk, if_pos hjk]
      exact e2 _ (by omega)
    · rw [if_neg hjk, if_neg hjk]
      exact e k hk
  · simp only [if_neg hqu]
    refine ⟨a, b, c, d, fun k hk => ?_⟩
    show (if 75 + 2 * q + 1 = 75 + 2 * u + 1 then _ else M.2.1 (75 + 2 * q + 1)) k = _
    rw [if_neg (by omega)]
    exact e k hk
theorem r_fx.wJ {F : List (Nat × Nat)} {A : List Nat} {M M' : Mem} {o : Nat} {f : Nat → Int64} (hi : ∀ k, r_in F A o k = true) (h : r_fx F A M M') : r_fx F A M (r_wJ M' o f) := fun o' k' q => by
  have a := h o' k' q
  refine ⟨a.1, ?_, a.2.2⟩
  have hne : o' ≠ o := fun z => by
    rw [z, hi k'] at q
    cases q
  show (if o' = o then f else M'.2.1 o') k' = _
  rw [if_neg hne]
  exact a.2.1
theorem r_fx.wI {F : List (Nat × Nat)} {A : List Nat} {M M' : Mem} {o : Nat} {f : Nat → Int32} (hi : ∀ k, r_in F A o k = true) (h : r_fx F A M M') : r_fx F A M (r_wI M' o f) := fun o' k' q => by
  have a := h o' k' q
  refine ⟨?_, a.2.1, a.2.2⟩
  have hne : o' ≠ o := fun z => by
    rw [z, hi k'] at q
    cases q
  show (if o' = o then f else M'.1 o') k' = _
  rw [if_neg hne]
  exact a.1

theorem c_X11_tray {Q : Rq} {M : Mem} {t s n : Int32} {tr : Nat → Tr} (hy : X_tr tr M) (k : ∀ M', r_fx [(0, 0)] trA M M' → M'.1 0 0 = (f_tray t s n tr).2.1 → X_tr (f_tray t s n tr).2.2 M' → Q (some (.int (r_b (f_tray t s n tr).1))) GX M') : Ca 1 mt_X11_tray 0 0 [.ref 0, .int t, .int s, .int n] GX M Q := by
  refine Ca_of rfl (Nat.le_of_ble_eq_true rfl) ?_
  refine Ru_aload_n (pc := 0) dX11_tray_0 rfl rfl ?_
  refine Ru_iload_n (pc := 1) dX11_tray_1 rfl rfl ?_
  refine Ru_cv1 (pc := 2) dX11_tray_2 mv_X11_87 rfl (by decide) (Nat.le_of_ble_eq_true rfl) (c_X11_isTray ?_) 
  refine Ru_if_eqB (pc := 5) 17 dX11_tray_5 (by decide) (fun h1 => ?_) (fun h1 => ?_)
  · replace h1 := of_decide_eq_false h1
    refine Ru_aload_n (pc := 17) dX11_tray_17 rfl rfl ?_
    refine Ru_iconst (pc := 18) (nI 1) dX11_tray_18 rfl ?_
    refine Ru_cv1 (pc := 19) dX11_tray_19 mv_X11_91 rfl (by decide) (Nat.le_of_ble_eq_true rfl) (c_X11_refuse ?_) 
    refine Ru_zret (pc := 22) dX11_tray_22 rfl ⟨Nat.le_refl _, Nat.le_refl _⟩ (Or.inl rfl) ?_
    have e : f_tray t s n tr = (false, nI 1, tr) := by
      unfold f_tray
      repeat' split
      all_goals first | rfl | (exfalso; omega)
    rw [e] at k
    exact k _ (r_fx.sI rfl r_fx.rf) r_sI_s (X_tr_S (r_fx.sI rfl r_fx.rf) hy)
  · replace h1 := of_decide_eq_true h1
    refine Ru_iload_n (pc := 8) dX11_tray_8 rfl rfl ?_
    refine Ru_if_ltT (pc := 9) 17 dX11_tray_9 (by decide) (fun h2 => ?_) (fun h2 => ?_)
    · refine Ru_aload_n (pc := 17) dX11_tray_17 rfl rfl ?_
      refine Ru_iconst (pc := 18) (nI 1) dX11_tray_18 rfl ?_
      refine Ru_cv1 (pc := 19) dX11_tray_19 mv_X11_91 rfl (by decide) (Nat.le_of_ble_eq_true rfl) (c_X11_refuse ?_) 
      refine Ru_zret (pc := 22) dX11_tray_22 rfl ⟨Nat.le_refl _, Nat.le_refl _⟩ (Or.inl rfl) ?_
      have e : f_tray t s n tr = (false, nI 1, tr) := by
        unfold f_tray
        repeat' split
        all_goals first | rfl | (exfalso; omega)
      rw [e] at k
      exact k _ (r_fx.sI rfl r_fx.rf) r_sI_s (X_tr_S (r_fx.sI rfl r_fx.rf) hy)
    · refine Ru_iload_n (pc := 12) dX11_tray_12 rfl rfl ?_
      refine Ru_iconst (pc := 13) (nI 3) dX11_tray_13 rfl ?_
      refine Ru_icmp_leL (pc := 14) 23 dX11_tray_14 (by decide) (by omega) (fun h3 => ?_) (fun h3 => ?_)
      · refine Ru_iload_n (pc := 23) dX11_tray_23 rfl rfl ?_
        refine Ru_bipush (pc := 24) (nI 60) dX11_tray_24 rfl ?_
        refine Ru_icmp_leL (pc := 26) 35 dX11_tray_26 (by decide) (by omega) (fun h4 => ?_) (fun h4 => ?_)
        · refine Ru_iload_n (pc := 35) dX11_tray_35 rfl rfl ?_
          refine Ru_if_geT (pc := 36) 46 dX11_tray_36 (by decide) (fun h5 => ?_) (fun h5 => ?_)
          · obtain ⟨t', ht', rfl⟩ := r_nat (x := t) (n := 4) (by omega) (by decide)
            obtain ⟨n', hn', rfl⟩ := r_nat (x := n) (n := 61) (by omega) (by decide)
            have et := r_tnn (show t' < 2147483648 by omega)
            have et2 := r_tn (show t' < 2147483648 by omega)
            have en2 := r_tn (show n' < 2147483648 by omega)
            refine Ru_aload_n (pc := 46) dX11_tray_46 rfl rfl ?_
            refine Ru_getR (pc := 47) 1 dX11_tray_47 fl_X11_15 rfl rfl (rfX_of (o := 0) (j := 1) rfl rfl) ?_
            refine Ru_iload_n (pc := 50) dX11_tray_50 rfl rfl ?_
            refine Ru_aald (pc := 51) dX11_tray_51 rfl (by decide) (by omega) (hy t' ht').1 ?_
            refine Ru_iload_n (pc := 52) dX11_tray_52 rfl rfl ?_
            refine Ru_iload_n (pc := 53) dX11_tray_53 rfl rfl ?_
            refine Ru_cv2 (pc := 54) dX11_tray_54 mv_X11_94 (shTray_0 (isTray_of ht')) (by decide) (Nat.le_of_ble_eq_true rfl) (c_X10_make (isTray_of ht') (fun M1 f1 g1 g2 g3 g4 => ?_)) 
            refine Ru_aload_n (pc := 57) dX11_tray_57 rfl rfl ?_
            refine Ru_cv0 (pc := 58) dX11_tray_58 mv_X11_98 rfl (by decide) (Nat.le_of_ble_eq_true rfl) (c_X11_accept ?_) 
            refine Ru_zret (pc := 61) dX11_tray_61 rfl ⟨Nat.le_refl _, Nat.le_refl _⟩ (Or.inr rfl) ?_
            have e : f_tray (nI t') s (nI n') tr = (true, nI 0, fun j => if j = t' then (s, nI n', fun _ => 0) else tr j) := by
              unfold f_tray
              rw [if_neg (by omega), if_neg (by omega), if_neg (by omega), et]
            rw [e] at k
            refine k _ (r_fx.sI rfl (fun o' k' q => f1 o' k' (fun z => ?_) (fun z => ?_))) r_sI_s (X_tr_S (r_fx.sI rfl r_fx.rf) (X_tr_new hy ht' (by omega) f1 g1 g2 g4))
            · rw [z, (tr_in (isTray_of ht') k').1] at q
              cases q
            · rw [z, (tr_in (isTray_of ht') k').2] at q
              cases q
          · refine Ru_aload_n (pc := 39) dX11_tray_39 rfl rfl ?_
            refine Ru_bipush (pc := 40) (nI 6) dX11_tray_40 rfl ?_
            refine Ru_cv1 (pc := 42) dX11_tray_42 mv_X11_91 rfl (by decide) (Nat.le_of_ble_eq_true rfl) (c_X11_refuse ?_) 
            refine Ru_zret (pc := 45) dX11_tray_45 rfl ⟨Nat.le_refl _, Nat.le_refl _⟩ (Or.inl rfl) ?_
            have e : f_tray t s n tr = (false, nI 6, tr) := by
              unfold f_tray
              repeat' split
              all_goals first | rfl | (exfalso; omega)
            rw [e] at k
            exact k _ (r_fx.sI rfl r_fx.rf) r_sI_s (X_tr_S (r_fx.sI rfl r_fx.rf) hy)
        · refine Ru_aload_n (pc := 29) dX11_tray_29 rfl rfl ?_
          refine Ru_iconst (pc := 30) (nI 5) dX11_tray_30 rfl ?_
          refine Ru_cv1 (pc := 31) dX11_tray_31 mv_X11_91 rfl (by decide) (Nat.le_of_ble_eq_true rfl) (c_X11_refuse ?_) 
          refine Ru_zret (pc := 34) dX11_tray_34 rfl ⟨Nat.le_refl _, Nat.le_refl _⟩ (Or.inl rfl) ?_
          have e : f_tray t s n tr = (false, nI 5, tr) := by
            unfold f_tray
            repeat' split
            all_goals first | rfl | (exfalso; omega)
          rw [e] at k
          exact k _ (r_fx.sI rfl r_fx.rf) r_sI_s (X_tr_S (r_fx.sI rfl r_fx.rf) hy)
      · refine Ru_aload_n (pc := 17) dX11_tray_17 rfl rfl ?_
        refine Ru_iconst (pc := 18) (nI 1) dX11_tray_18 rfl ?_
        refine Ru_cv1 (pc := 19) dX11_tray_19 mv_X11_91 rfl (by decide) (Nat.le_of_ble_eq_true rfl) (c_X11_refuse ?_) 
        refine Ru_zret (pc := 22) dX11_tray_22 rfl ⟨Nat.le_refl _, Nat.le_refl _⟩ (Or.inl rfl) ?_
        have e : f_tray t s n tr = (false, nI 1, tr) := by
          unfold f_tray
          repeat' split
          all_goals first | rfl | (exfalso; omega)
        rw [e] at k
        exact k _ (r_fx.sI rfl r_fx.rf) r_sI_s (X_tr_S (r_fx.sI rfl r_fx.rf) hy)

theorem c_X11_write {Q : Rq} {M : Mem} {t x : Int32} {v : Int64} {tr : Nat → Tr} (hy : X_tr tr M) (k : ∀ M', r_fx [(0, 0)] trA M M' → M'.1 0 0 = (f_write t x v tr).2.1 → X_tr (f_write t x v tr).2.2 M' → Q (some (.int (r_b (f_write t x v tr).1))) GX M') : Ca 2 mt_X11_write 0 0 [.ref 0, .int t, .int x, .long v] GX M Q := by
  refine Ca_of rfl (Nat.le_of_ble_eq_true rfl) ?_
  refine Ru_aload_n (pc := 0) dX11_write_0 rfl rfl ?_
  refine Ru_iload_n (pc := 1) dX11_write_1 rfl rfl ?_
  refine Ru_cv1 (pc := 2) dX11_write_2 mv_X11_87 rfl (by decide) (Nat.le_of_ble_eq_true rfl) (c_X11_isTray ?_) 
  refine Ru_if_neB (pc := 5) 14 dX11_write_5 (by decide) (fun h1 => ?_) (fun h1 => ?_)
  · replace h1 := of_decide_eq_true h1
    obtain ⟨t', ht', rfl⟩ := r_nat (x := t) (n := 4) (by omega) (by decide)
    have et := r_tnn (show t' < 2147483648 by omega)
    have et2 := r_tn (show t' < 2147483648 by omega)
    have lt := (hy t' ht').2.2.2.1
    refine Ru_aload_n (pc := 14) dX11_write_14 rfl rfl ?_
    refine Ru_getR (pc := 15) 1 dX11_write_15 fl_X11_15 rfl rfl (rfX_of (o := 0) (j := 1) rfl rfl) ?_
    refine Ru_iload_n (pc := 18) dX11_write_18 rfl rfl ?_
    refine Ru_aald (pc := 19) dX11_write_19 rfl (by decide) (by omega) (hy t' ht').1 ?_
    refine Ru_cv0 (pc := 20) dX11_write_20 mv_X11_102 (shTray_0 (isTray_of ht')) (by decide) (Nat.le_of_ble_eq_true rfl) (c_X10_isMissing (isTray_of ht') (hy t' ht').2.2.1 ?_) 
    refine Ru_if_eqB (pc := 23) 32 dX11_write_23 (by decide) (fun h2 => ?_) (fun h2 => ?_)
    · replace h2 := of_decide_eq_false h2
      refine Ru_aload_n (pc := 32) dX11_write_32 rfl rfl ?_
      refine Ru_getR (pc := 33) 1 dX11_write_33 fl_X11_15 rfl rfl (rfX_of (o := 0) (j := 1) rfl rfl) ?_
      refine Ru_iload_n (pc := 36) dX11_write_36 rfl rfl ?_
      refine Ru_aald (pc := 37) dX11_write_37 rfl (by decide) (by omega) (hy t' ht').1 ?_
      refine Ru_iload_n (pc := 38) dX11_write_38 rfl rfl ?_
      refine Ru_cv1 (pc := 39) dX11_write_39 mv_X11_105 (shTray_0 (isTray_of ht')) (by decide) (Nat.le_of_ble_eq_true rfl) (c_X10_has (isTray_of ht') (hy t' ht').2.2.1 ?_) 
      refine Ru_if_neB (pc := 42) 51 dX11_write_42 (by decide) (fun h3 => ?_) (fun h3 => ?_)
      · replace h3 := of_decide_eq_true h3
        obtain ⟨x', hx', rfl⟩ := r_nat (x := x) (n := 60) (by omega) (by decide)
        have ex := r_tnn (show x' < 2147483648 by omega)
        have ex2 := r_tn (show x' < 2147483648 by omega)
        refine Ru_aload_n (pc := 51) dX11_write_51 rfl rfl ?_
        refine Ru_getR (pc := 52) 1 dX11_write_52 fl_X11_15 rfl rfl (rfX_of (o := 0) (j := 1) rfl rfl) ?_
        refine Ru_iload_n (pc := 55) dX11_write_55 rfl rfl ?_
        refine Ru_aald (pc := 56) dX11_write_56 rfl (by decide) (by omega) (hy t' ht').1 ?_
        refine Ru_iload_n (pc := 57) dX11_write_57 rfl rfl ?_
        refine Ru_lload_n (pc := 58) dX11_write_58 rfl rfl ?_
        refine Ru_cv2 (pc := 59) dX11_write_59 mv_X11_108 (shTray_0 (isTray_of ht')) (by decide) (Nat.le_of_ble_eq_true rfl) (c_X10_put (isTray_of ht') (hy t' ht').2.1 (hy t' ht').2.2.1 (by omega) ?_) 
        refine Ru_aload_n (pc := 62) dX11_write_62 rfl rfl ?_
        refine Ru_cv0 (pc := 63) dX11_write_63 mv_X11_98 rfl (by decide) (Nat.le_of_ble_eq_true rfl) (c_X11_accept ?_) 
        refine Ru_zret (pc := 66) dX11_write_66 rfl ⟨Nat.le_refl _, Nat.le_refl _⟩ (Or.inr rfl) ?_
        have ep : f_placed (nI t') (nI x') tr = 0 := by
          unfold f_placed f_trayed
          rw [et]
          repeat' split
          all_goals first | rfl | (exfalso; omega)
        have e : f_write (nI t') (nI x') v tr = (true, nI 0, fun j => if j = t' then ((tr j).1, (tr j).2.1, fun i => if i = x' then f_cut (tr j).1 v else (tr j).2.2 i) else tr j) := by
          unfold f_write
          rw [ep, if_neg (by omega), et, ex]
        rw [e] at k
        exact k _ (r_fx.sI rfl (r_fx.sJ (tr_in (isTray_of ht') x').2 r_fx.rf)) r_sI_s (X_tr_S (r_fx.sI rfl r_fx.rf) (X_tr_put hy ht'))
      · replace h3 := of_decide_eq_false h3
        refine Ru_aload_n (pc := 45) dX11_write_45 rfl rfl ?_
        refine Ru_iconst (pc := 46) (nI 4) dX11_write_46 rfl ?_
        refine Ru_cv1 (pc := 47) dX11_write_47 mv_X11_91 rfl (by decide) (Nat.le_of_ble_eq_true rfl) (c_X11_refuse ?_) 
        refine Ru_zret (pc := 50) dX11_write_50 rfl ⟨Nat.le_refl _, Nat.le_refl _⟩ (Or.inl rfl) ?_
        have ep : f_placed (nI t') x tr = 4 := by
          unfold f_placed f_trayed
          rw [et]
          repeat' split
          all_goals first | rfl | (exfalso; omega)
        have e : f_write (nI t') x v tr = (false, nI 4, tr) := by
          unfold f_write
          rw [ep]
          rfl
        rw [e] at k
        exact k _ (r_fx.sI rfl r_fx.rf) r_sI_s (X_tr_S (r_fx.sI rfl r_fx.rf) hy)
    · replace h2 := of_decide_eq_true h2
      refine Ru_aload_n (pc := 26) dX11_write_26 rfl rfl ?_
      refine Ru_iconst (pc := 27) (nI 3) dX11_write_27 rfl ?_
      refine Ru_cv1 (pc := 28) dX11_write_28 mv_X11_91 rfl (by decide) (Nat.le_of_ble_eq_true rfl) (c_X11_refuse ?_) 
      refine Ru_zret (pc := 31) dX11_write_31 rfl ⟨Nat.le_refl _, Nat.le_refl _⟩ (Or.inl rfl) ?_
      have ep : f_placed (nI t') x tr = 3 := by
        unfold f_placed f_trayed
        rw [et]
        repeat' split
        all_goals first | rfl | (exfalso; omega)
      have e : f_write (nI t') x v tr = (false, nI 3, tr) := by
        unfold f_write
        rw [ep]
        rfl
      rw [e] at k
      exact k _ (r_fx.sI rfl r_fx.rf) r_sI_s (X_tr_S (r_fx.sI rfl r_fx.rf) hy)
  · replace h1 := of_decide_eq_false h1
    refine Ru_aload_n (pc := 8) dX11_write_8 rfl rfl ?_
    refine Ru_iconst (pc := 9) (nI 1) dX11_write_9 rfl ?_
    refine Ru_cv1 (pc := 10) dX11_write_10 mv_X11_91 rfl (by decide) (Nat.le_of_ble_eq_true rfl) (c_X11_refuse ?_) 
    refine Ru_zret (pc := 13) dX11_write_13 rfl ⟨Nat.le_refl _, Nat.le_refl _⟩ (Or.inl rfl) ?_
    have ep : f_placed t x tr = 1 := by
      unfold f_placed f_trayed
      repeat' split
      all_goals first | rfl | (exfalso; omega)
    have e : f_write t x v tr = (false, nI 1, tr) := by
      unfold f_write
      rw [ep]
      rfl
    rw [e] at k
    exact k _ (r_fx.sI rfl r_fx.rf) r_sI_s (X_tr_S (r_fx.sI rfl r_fx.rf) hy)

theorem c_X11_read {Q : Rq} {M : Mem} {t x : Int32} {tr : Nat → Tr} (hy : X_tr tr M) (k : ∀ M', r_fx [(0, 0)] [] M M' → M'.1 0 0 = (f_read t x tr).2 → Q (some (.long (f_read t x tr).1)) GX M') : Ca 2 mt_X11_read 0 0 [.ref 0, .int t, .int x] GX M Q := by
  refine Ca_of rfl (Nat.le_of_ble_eq_true rfl) ?_
  refine Ru_aload_n (pc := 0) dX11_read_0 rfl rfl ?_
  refine Ru_iload_n (pc := 1) dX11_read_1 rfl rfl ?_
  refine Ru_cv1 (pc := 2) dX11_read_2 mv_X11_87 rfl (by decide) (Nat.le_of_ble_eq_true rfl) (c_X11_isTray ?_) 
  refine Ru_if_neB (pc := 5) 15 dX11_read_5 (by decide) (fun h1 => ?_) (fun h1 => ?_)
  · replace h1 := of_decide_eq_true h1
    obtain ⟨t', ht', rfl⟩ := r_nat (x := t) (n := 4) (by omega) (by decide)
    have et := r_tnn (show t' < 2147483648 by omega)
    have et2 := r_tn (show t' < 2147483648 by omega)
    have lt := (hy t' ht').2.2.2.1
    refine Ru_aload_n (pc := 15) dX11_read_15 rfl rfl ?_
    refine Ru_getR (pc := 16) 1 dX11_read_16 fl_X11_15 rfl rfl (rfX_of (o := 0) (j := 1) rfl rfl) ?_
    refine Ru_iload_n (pc := 19) dX11_read_19 rfl rfl ?_
    refine Ru_aald (pc := 20) dX11_read_20 rfl (by decide) (by omega) (hy t' ht').1 ?_
    refine Ru_cv0 (pc := 21) dX11_read_21 mv_X11_102 (shTray_0 (isTray_of ht')) (by decide) (Nat.le_of_ble_eq_true rfl) (c_X10_isMissing (isTray_of ht') (hy t' ht').2.2.1 ?_) 
    refine Ru_if_eqB (pc := 24) 34 dX11_read_24 (by decide) (fun h2 => ?_) (fun h2 => ?_)
    · replace h2 := of_decide_eq_false h2
      refine Ru_aload_n (pc := 34) dX11_read_34 rfl rfl ?_
      refine Ru_getR (pc := 35) 1 dX11_read_35 fl_X11_15 rfl rfl (rfX_of (o := 0) (j := 1) rfl rfl) ?_
      refine Ru_iload_n (pc := 38) dX11_read_38 rfl rfl ?_
      refine Ru_aald (pc := 39) dX11_read_39 rfl (by decide) (by omega) (hy t' ht').1 ?_
      refine Ru_iload_n (pc := 40) dX11_read_40 rfl rfl ?_
      refine Ru_cv1 (pc := 41) dX11_read_41 mv_X11_105 (shTray_0 (isTray_of ht')) (by decide) (Nat.le_of_ble_eq_true rfl) (c_X10_has (isTray_of ht') (hy t' ht').2.2.1 ?_) 
      refine Ru_if_neB (pc := 44) 54 dX11_read_44 (by decide) (fun h3 => ?_) (fun h3 => ?_)
      · replace h3 := of_decide_eq_true h3
        obtain ⟨x', hx', rfl⟩ := r_nat (x := x) (n := 60) (by omega) (by decide)
        have ex := r_tnn (show x' < 2147483648 by omega)
        have ex2 := r_tn (show x' < 2147483648 by omega)
        refine Ru_aload_n (pc := 54) dX11_read_54 rfl rfl ?_
        refine Ru_iconst (pc := 55) (nI 0) dX11_read_55 rfl ?_
        refine Ru_putI (pc := 56) rfl dX11_read_56 fl_X11_80 rfl ?_
        replace hy : X_tr tr (r_sI M 0 0 (nI 0)) := X_tr_S (r_fx.sI rfl r_fx.rf) hy
        refine Ru_aload_n (pc := 59) dX11_read_59 rfl rfl ?_
        refine Ru_getR (pc := 60) 1 dX11_read_60 fl_X11_15 rfl rfl (rfX_of (o := 0) (j := 1) rfl rfl) ?_
        refine Ru_iload_n (pc := 63) dX11_read_63 rfl rfl ?_
        refine Ru_aald (pc := 64) dX11_read_64 rfl (by decide) (by omega) (hy t' ht').1 ?_
        refine Ru_iload_n (pc := 65) dX11_read_65 rfl rfl ?_
        refine Ru_cv1 (pc := 66) dX11_read_66 mv_X11_116 (shTray_0 (isTray_of ht')) (by decide) (Nat.le_of_ble_eq_true rfl) (c_X10_number (isTray_of ht') (hy t' ht').2.2.1 (by omega) ?_) 
        refine Ru_topL ((hy t' ht').2.2.2.2 x' (by omega)) ?_
        refine Ru_lret (pc := 69) dX11_read_69 rfl ⟨Nat.le_refl _, Nat.le_refl _⟩ ?_
        have ep : f_placed (nI t') (nI x') tr = 0 := by
          unfold f_placed f_trayed
          rw [et]
          repeat' split
          all_goals first | rfl | (exfalso; omega)
        have e : f_read (nI t') (nI x') tr = ((tr t').2.2 x', nI 0) := by
          unfold f_read
          rw [ep, if_neg (by omega), et, ex]
        rw [e] at k
        exact k _ (r_fx.sI rfl r_fx.rf) r_sI_s
      · replace h3 := of_decide_eq_false h3
        refine Ru_aload_n (pc := 47) dX11_read_47 rfl rfl ?_
        refine Ru_iconst (pc := 48) (nI 4) dX11_read_48 rfl ?_
        refine Ru_cv1 (pc := 49) dX11_read_49 mv_X11_112 rfl (by decide) (Nat.le_of_ble_eq_true rfl) (c_X11_fail ?_) 
        refine Ru_i2l (pc := 52) _ dX11_read_52 rfl ?_
        refine Ru_lret (pc := 53) dX11_read_53 rfl ⟨Nat.le_refl _, Nat.le_refl _⟩ ?_
        have ep : f_placed (nI t') x tr = 4 := by
          unfold f_placed f_trayed
          rw [et]
          repeat' split
          all_goals first | rfl | (exfalso; omega)
        have e : f_read (nI t') x tr = (-1, nI 4) := by
          unfold f_read
          rw [ep]
          rfl
        rw [e] at k
        exact k _ (r_fx.sI rfl r_fx.rf) r_sI_s
    · replace h2 := of_decide_eq_true h2
      refine Ru_aload_n (pc := 27) dX11_read_27 rfl rfl ?_
      refine Ru_iconst (pc := 28) (nI 3) dX11_read_28 rfl ?_
      refine Ru_cv1 (pc := 29) dX11_read_29 mv_X11_112 rfl (by decide) (Nat.le_of_ble_eq_true rfl) (c_X11_fail ?_) 
      refine Ru_i2l (pc := 32) _ dX11_read_32 rfl ?_
      refine Ru_lret (pc := 33) dX11_read_33 rfl ⟨Nat.le_refl _, Nat.le_refl _⟩ ?_
      have ep : f_placed (nI t') x tr = 3 := by
        unfold f_placed f_trayed
        rw [et]
        repeat' split
        all_goals first | rfl | (exfalso; omega)
      have e : f_read (nI t') x tr = (-1, nI 3) := by
        unfold f_read
        rw [ep]
        rfl
      rw [e] at k
      exact k _ (r_fx.sI rfl r_fx.rf) r_sI_s
  · replace h1 := of_decide_eq_false h1
    refine Ru_aload_n (pc := 8) dX11_read_8 rfl rfl ?_
    refine Ru_iconst (pc := 9) (nI 1) dX11_read_9 rfl ?_
    refine Ru_cv1 (pc := 10) dX11_read_10 mv_X11_112 rfl (by decide) (Nat.le_of_ble_eq_true rfl) (c_X11_fail ?_) 
    refine Ru_i2l (pc := 13) _ dX11_read_13 rfl ?_
    refine Ru_lret (pc := 14) dX11_read_14 rfl ⟨Nat.le_refl _, Nat.le_refl _⟩ ?_
    have ep : f_placed t x tr = 1 := by
      unfold f_placed f_trayed
      repeat' split
      all_goals first | rfl | (exfalso; omega)
    have e : f_read t x tr = (-1, nI 1) := by
      unfold f_read
      rw [ep]
      rfl
    rw [e] at k
    exact k _ (r_fx.sI rfl r_fx.rf) r_sI_s
