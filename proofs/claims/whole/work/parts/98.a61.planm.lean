-- READING: a making of a plan, the developers' side
def nm1 (T : Tx) (s : Ps) : Ps := sCount T 0 23 s
def nm2 (T : Tx) (x : St9) (s : Ps) : Ps := sNext (sOld T x.2 8 (x.1 1) (nm1 T s))
def nm3 (T : Tx) (x : St9) (s : Ps) : Ps := sMust T (decide (tK T (nm2 T x s).1 = 154)) (nm2 T x s)
def nm4 (T : Tx) (x : St9) (s : Ps) : Nat × Ps := if (nm3 T x s).2 = 0 then sRw T x.2 20 (x.1 2) 0 0 (801 - (nm3 T x s).1) 0 (nm3 T x s) else (0, nm3 T x s)
theorem ma4_n (T : Tx) (x : St9) (z : Pl9) (s : Ps) : ma4 T x z s = nm4 T x (sNext (jb0 T z s)) := rfl
theorem nm_f3 {T : Tx} {x : St9} {s : Ps} (h : ¬ (nm3 T x s).2 = 0) : prE T (nm4 T x s).2 = nm3 T x s := by
  have e : nm4 T x s = (0, nm3 T x s) := if_neg h
  unfold prE
  rw [e]
  exact sMust_f h
theorem nm_f2 {T : Tx} {x : St9} {s : Ps} (h : ¬ (nm2 T x s).2 = 0) : prE T (nm4 T x s).2 = nm2 T x s := by
  have e : nm3 T x s = nm2 T x s := sMust_f h
  exact (nm_f3 (by rw [e]; exact h)).trans e
theorem nm_f1 {T : Tx} {x : St9} {s : Ps} (h : ¬ (nm1 T s).2 = 0) : prE T (nm4 T x s).2 = nm1 T s := by
  have e : nm2 T x s = nm1 T s := by
    unfold nm2
    rw [sOld_f h]
    exact sNext_f h
  exact (nm_f2 (by rw [e]; exact h)).trans e
def nR (T : Tx) (x : St9) (s : Ps) : Nat × Ps := sRx T x.2 20 (x.1 2) 0 (801 - (nm3 T x s).1) 0 (nm3 T x s)
theorem nm4_R {T : Tx} (tw : Tw T) {x : St9} {s : Ps} (h : (nm3 T x s).2 = 0) (h8 : (nm3 T x s).1 ≤ 800) : nm4 T x s = rwE T 0 (nR T x s) := by
  have e : nm4 T x s = sRw T x.2 20 (x.1 2) 0 0 (801 - (nm3 T x s).1) 0 (nm3 T x s) := if_pos h
  rw [e]
  exact sRx_Rw tw (by decide) (801 - (nm3 T x s).1) 0 (nm3 T x s) h (by omega) h8
def pQ (pl j o k : Nat) : Prop := (o = pl + 2 ∨ o = pl + 3 ∨ o = pl + 4) ∧ k = j
theorem n4p {pl j k : Nat} (hp : isPlan pl) (hj : j ≤ 4) : ¬ (pl + j = 40 ∧ 6 ≤ k ∧ k ≤ 8) := by
  unfold isPlan at hp
  omega
theorem X_rd_sp {T : Tx} {cnt pl j k : Nat} {s : Ps} {M M' : Mem} {v : Int32} (hp : isPlan pl) (hj : j ≤ 4) (hn : ¬ (pl + j = 40)) (en : r_sI M (pl + j) k v = M') (hr : X_rd T cnt s M) : X_rd T cnt s M' := by
  unfold isPlan at hp
  subst en
  exact X_rd_eq (fun k => ⟨r_sI_n (by omega), rfl, rfl⟩) (fun o k h1 h2 => ⟨r_sI_n (by omega), rfl, rfl⟩) hr

theorem c_X5_buildMake {Q : Rq} {M : Mem} {T : Tx} {cnt u pl j : Nat} {s : Ps} {x : St9} (tw : Tw T) (hu : isTown u) (hp : isPlan pl) (bw : X_bw u x M) (wf : Wf x.1) (hr : X_rd T cnt s M) (h0 : s.2 = 0) (hj : j < 24) (k : ∀ M', r_ow (pQ pl j) M M' → X_rd T cnt (prE T (nm4 T x s).2) M' → ((prE T (nm4 T x s).2).2 = 0 → M'.1 (pl + 2) j = nI (tV T s.1) ∧ M'.1 (pl + 3) j = nI (fN x.2 (tL T (nm1 T s).1) 8 (x.1 1) - 1) ∧ M'.1 (pl + 4) j = nI (nm4 T x s).1) → Q (some (.int (r_b (decide ((prE T (nm4 T x s).2).2 = 0))))) GX M') : Ca 3 mt_X5_buildMake 0 0 [.ref pl, .ref 40, .ref u, .int (nI j)] GX M Q := by
  refine Ca_of rfl (Nat.le_of_ble_eq_true rfl) ?_
  have hT : u = 3 ∨ u = 83 ∨ u = 111 ∨ u = 139 ∨ u = 167 := hu
  have hP9 : pl = 26 ∨ pl = 35 ∨ pl = 106 ∨ pl = 134 ∨ pl = 162 ∨ pl = 190 := hp
  have npu : ∀ i k, i ≤ 18 → ¬ pQ pl j (u + i) k := fun i k hi => by
    unfold pQ
    omega
  have cw : r_ow (pQ pl j) M M := fun _ _ _ _ => ⟨rfl, rfl, rfl⟩
  have hx := wf.1
  have em : (-1 : Int32).toInt = -1 := rfl
  refine Ru_aload_n (pc := 0) dX5_buildMake_0 rfl rfl ?_
  refine Ru_getR (pc := 1) (pl + 2) dX5_buildMake_1 fl_X5_15 (shPlan_0 hp) rfl (rfX_of (o := pl) (j := 2) (shPlan_0 hp) rfl) ?_
  refine Ru_iload_n (pc := 4) dX5_buildMake_4 rfl rfl ?_
  refine Ru_aload_n (pc := 5) dX5_buildMake_5 rfl rfl ?_
  refine Ru_iconst (pc := 6) (nI 0) dX5_buildMake_6 rfl ?_
  refine Ru_bipush (pc := 7) (nI 23) dX5_buildMake_7 rfl ?_
  refine Ru_cv2 (pc := 9) dX5_buildMake_9 mv_X5_75 rfl (by decide) (Nat.le_of_ble_eq_true rfl) (c_X8_number (s := s) (lo := 0) (hi := 23) tw hr (by assumption) (by decide) (fun M2 gx2 (hr2 : X_rd T cnt (sCount T 0 23 s) M2) => ?_)) 
  have st2 : ∀ o k, ¬ (o = 40 ∧ 6 ≤ k ∧ k ≤ 8) → r_eq3 M M2 o k := fun o k h => r_ow.fx (P := fun _ _ => False) (gx2.mono rfl) o k h (fun z => z)
  have cw2 := cw.fx1 (gx2.mono rfl)
  refine Ru_iast (pc := 12) rfl dX5_buildMake_12 (shPlan_2 hp) (by omega) ?_
  generalize en3 : r_sI M2 (pl + 2) j (if (sCount T 0 23 s).2 = 0 then nI (tV T s.1) else -1) = M3
  have st3 : ∀ o k, ¬ (o = (pl + 2) ∧ k = j) → r_eq3 M2 M3 o k := fun o k h => by
    rw [← en3]
    exact ⟨r_sI_n h, rfl, rfl⟩
  have vl3 : M3.1 (pl + 2) j = (if (sCount T 0 23 s).2 = 0 then nI (tV T s.1) else -1) := by
    rw [← en3]
    exact r_sI_s
  have hr3 : X_rd T cnt (nm1 T s) M3 := X_rd_sp hp (by decide) (by omega) en3 hr2
  have cw3 := cw2.st (by unfold pQ; omega) en3
  refine Ru_aload_n (pc := 13) dX5_buildMake_13 rfl rfl ?_
  refine Ru_getR (pc := 14) (pl + 2) dX5_buildMake_14 fl_X5_15 (shPlan_0 hp) rfl (rfX_of (o := pl) (j := 2) (shPlan_0 hp) rfl) ?_
  refine Ru_iload_n (pc := 17) dX5_buildMake_17 rfl rfl ?_
  refine Ru_iald (pc := 18) dX5_buildMake_18 (shPlan_2 hp) (by omega) ?_
  refine Ru_top vl3 ?_
  refine Ru_iconst (pc := 19) (-1) dX5_buildMake_19 rfl ?_
  refine Ru_icmp_neT (pc := 20) 25 dX5_buildMake_20 (by decide) (fun h1 => ?_) (fun h1 => ?_)
  · have hz1 : (nm1 T s).2 = 0 := Classical.byContradiction (fun z => h1 ((numb_neg (by decide)).mpr z))
    refine Ru_aload_n (pc := 25) dX5_buildMake_25 rfl rfl ?_
    refine Ru_getR (pc := 26) (pl + 3) dX5_buildMake_26 fl_X5_18 (shPlan_0 hp) rfl (rfX_of (o := pl) (j := 3) (shPlan_0 hp) rfl) ?_
    refine Ru_iload_n (pc := 29) dX5_buildMake_29 rfl rfl ?_
    refine Ru_aload_n (pc := 30) dX5_buildMake_30 rfl rfl ?_
    refine Ru_aload_n (pc := 31) dX5_buildMake_31 rfl rfl ?_
    refine Ru_getR (pc := 32) (u + 3) dX5_buildMake_32 fl_X5_79 (shTown_0 hu) rfl (rfX_of (o := u) (j := 3) (shTown_0 hu) rfl) ?_
    refine Ru_iconst (pc := 35) (nI 0) dX5_buildMake_35 rfl ?_
    refine Ru_cv2 (pc := 36) dX5_buildMake_36 mv_X5_68 rfl (by decide) (Nat.le_of_ble_eq_true rfl) (c_X8_named0 (s := (nm1 T s)) (W := x.2) (b := 8) (n := x.1 1) tw hr3 (by assumption) (isNames_t hu).2.1 ((cw3 (u + 3) 2 (n40 hu (by decide)) (npu 3 2 (by decide))).1.trans bw.1.2.1) (by omega) (fun k hk => ⟨(cw3 (u + 4) k (n40 hu (by decide)) (npu 4 k (by decide))).2.1.trans (bw.2.2.1 k hk).1, (bw.2.2.1 k hk).2⟩) (fun M4 gx4 (hr4 : X_rd T cnt (sNext (sOld T x.2 8 (x.1 1) (nm1 T s))) M4) => ?_)) 
    have st4 : ∀ o k, ¬ (o = 40 ∧ 6 ≤ k ∧ k ≤ 8) → r_eq3 M3 M4 o k := fun o k h => r_ow.fx (P := fun _ _ => False) (gx4.mono rfl) o k h (fun z => z)
    have cw4 := cw3.fx1 (gx4.mono rfl)
    refine Ru_iast (pc := 39) rfl dX5_buildMake_39 (shPlan_3 hp) (by omega) ?_
    generalize en5 : r_sI M4 (pl + 3) j (if (sNext (sOld T x.2 8 (x.1 1) (nm1 T s))).2 = 0 then nI (fN x.2 (tL T (nm1 T s).1) 8 (x.1 1) - 1) else -1) = M5
    have st5 : ∀ o k, ¬ (o = (pl + 3) ∧ k = j) → r_eq3 M4 M5 o k := fun o k h => by
      rw [← en5]
      exact ⟨r_sI_n h, rfl, rfl⟩
    have vl5 : M5.1 (pl + 3) j = (if (sNext (sOld T x.2 8 (x.1 1) (nm1 T s))).2 = 0 then nI (fN x.2 (tL T (nm1 T s).1) 8 (x.1 1) - 1) else -1) := by
      rw [← en5]
      exact r_sI_s
    have hr5 : X_rd T cnt (nm2 T x s) M5 := X_rd_sp hp (by decide) (by omega) en5 hr4
    have cw5 := cw4.st (by unfold pQ; omega) en5
    refine Ru_aload_n (pc := 40) dX5_buildMake_40 rfl rfl ?_
    refine Ru_getR (pc := 41) (pl + 3) dX5_buildMake_41 fl_X5_18 (shPlan_0 hp) rfl (rfX_of (o := pl) (j := 3) (shPlan_0 hp) rfl) ?_
    refine Ru_iload_n (pc := 44) dX5_buildMake_44 rfl rfl ?_
    refine Ru_iald (pc := 45) dX5_buildMake_45 (shPlan_3 hp) (by omega) ?_
    refine Ru_top vl5 ?_
    refine Ru_iconst (pc := 46) (-1) dX5_buildMake_46 rfl ?_
    refine Ru_icmp_eqT (pc := 47) 60 dX5_buildMake_47 (by decide) (fun h2 => ?_) (fun h2 => ?_)
    · have hzf : ¬ (nm2 T x s).2 = 0 := (numb_iff _ (show fN x.2 (tL T (nm1 T s).1) 8 (x.1 1) - 1 < 2147483648 by have := fN_le x.2 (tL T (nm1 T s).1) 8 (x.1 1); omega)).mp h2
      refine Ru_iconst (pc := 60) (nI 0) dX5_buildMake_60 rfl ?_
      refine Ru_zret (pc := 61) dX5_buildMake_61 rfl ⟨Nat.le_refl _, Nat.le_refl _⟩ (Or.inl rfl) ?_
      have eS : (prE T (nm4 T x s).2) = (nm2 T x s) := nm_f2 hzf
      rw [eS] at k
      exact r_qe (r_b_f (decide_eq_false hzf)) (k M5 cw5 hr5 (fun z => absurd z hzf))
    · have hz2 : (nm2 T x s).2 = 0 := Classical.byContradiction (fun z => h2 ((numb_iff _ (show fN x.2 (tL T (nm1 T s).1) 8 (x.1 1) - 1 < 2147483648 by have := fN_le x.2 (tL T (nm1 T s).1) 8 (x.1 1); omega)).mpr z))
      refine Ru_aload_n (pc := 50) dX5_buildMake_50 rfl rfl ?_
      refine Ru_sipush (pc := 51) (nI 154) dX5_buildMake_51 rfl ?_
      refine Ru_cv1 (pc := 54) dX5_buildMake_54 mv_X5_72 rfl (by decide) (Nat.le_of_ble_eq_true rfl) (c_X8_expect (s := (nm2 T x s)) (w := 154) tw hr5 (by assumption) (by decide) (fun M6 gx6 (hr6 : X_rd T cnt (sMust T (decide (tK T (nm2 T x s).1 = 154)) (nm2 T x s)) M6) => ?_)) 
      have st6 : ∀ o k, ¬ (o = 40 ∧ 6 ≤ k ∧ k ≤ 8) → r_eq3 M5 M6 o k := fun o k h => r_ow.fx (P := fun _ _ => False) (gx6.mono rfl) o k h (fun z => z)
      have cw6 := cw5.fx1 (gx6.mono rfl)
      refine Ru_if_neB (pc := 57) 62 dX5_buildMake_57 (by decide) (fun h3 => ?_) (fun h3 => ?_)
      · replace h3 := of_decide_eq_true h3
        have hz3 : (nm3 T x s).2 = 0 := h3
        have o3 := sMust_ok hz3
        have hs8 : (nm3 T x s).1 ≤ 800 := by
          have h9 : tK T (nm2 T x s).1 = 154 := of_decide_eq_true o3.2.1
          have h8 := (tK_i tw (i := (nm2 T x s).1) (by omega)).1
          have h7 : (nm3 T x s).1 = (nm2 T x s).1 + 1 := congrArg Prod.fst o3.2.2
          omega
        refine Ru_aload_n (pc := 62) dX5_buildMake_62 rfl rfl ?_
        refine Ru_getR (pc := 63) (pl + 4) dX5_buildMake_63 fl_X5_21 (shPlan_0 hp) rfl (rfX_of (o := pl) (j := 4) (shPlan_0 hp) rfl) ?_
        refine Ru_iload_n (pc := 66) dX5_buildMake_66 rfl rfl ?_
        refine Ru_aload_n (pc := 67) dX5_buildMake_67 rfl rfl ?_
        refine Ru_aload_n (pc := 68) dX5_buildMake_68 rfl rfl ?_
        refine Ru_getR (pc := 69) (u + 10) dX5_buildMake_69 fl_X5_82 (shTown_0 hu) rfl (rfX_of (o := u) (j := 10) (shTown_0 hu) rfl) ?_
        refine Ru_iconst (pc := 72) (nI 0) dX5_buildMake_72 rfl ?_
        refine Ru_cv2 (pc := 73) dX5_buildMake_73 mv_X5_85 rfl (by decide) (Nat.le_of_ble_eq_true rfl) (c_X8_namedRow (s := (nm3 T x s)) (W := x.2) (b := 20) (n := x.1 2) (had := 0) tw hr6 (by assumption) (isNames_t hu).2.2 (by omega) ((cw6 (u + 10) 2 (n40 hu (by decide)) (npu 10 2 (by decide))).1.trans bw.1.2.2) (fun k hk => ⟨(cw6 (u + 11) k (n40 hu (by decide)) (npu 11 k (by decide))).2.1.trans (bw.2.2.2 k hk).1, (bw.2.2.2 k hk).2⟩) (by decide) hs8 (fun M7 gx7 (hr7 : X_rd T cnt (nR T x s).2 M7) => ?_)) 
        have st7 : ∀ o k, ¬ (o = 40 ∧ 6 ≤ k ∧ k ≤ 8) → r_eq3 M6 M7 o k := fun o k h => r_ow.fx (P := fun _ _ => False) (gx7.mono rfl) o k h (fun z => z)
        have cw7 := cw6.fx1 (gx7.mono rfl)
        refine Ru_top (show nI (sRx T x.2 20 (x.1 2) 0 (801 - (nm3 T x s).1) 0 (nm3 T x s)).1 = nI (nR T x s).1 from rfl) ?_
        have rz := sRx_nz (T := T) (W := x.2) (b := 20) (n := x.1 2) (had := 0) (801 - (nm3 T x s).1) 0 (nm3 T x s) hz3 (fun z => by omega)
        have rl : (nR T x s).1 < 256 := Nat.lt_of_lt_of_le (sRx_lt _ _ _ (Nat.two_pow_pos _)) (pw_le (by omega)).2
        refine Ru_iast (pc := 76) rfl dX5_buildMake_76 (shPlan_4 hp) (by omega) ?_
        generalize en8 : r_sI M7 (pl + 4) j (nI (nR T x s).1) = M8
        have st8 : ∀ o k, ¬ (o = (pl + 4) ∧ k = j) → r_eq3 M7 M8 o k := fun o k h => by
          rw [← en8]
          exact ⟨r_sI_n h, rfl, rfl⟩
        have vl8 : M8.1 (pl + 4) j = (nI (nR T x s).1) := by
          rw [← en8]
          exact r_sI_s
        have hr8 : X_rd T cnt (nR T x s).2 M8 := X_rd_sp hp (by decide) (by omega) en8 hr7
        have cw8 := cw7.st (by unfold pQ; omega) en8
        refine Ru_aload_n (pc := 77) dX5_buildMake_77 rfl rfl ?_
        refine Ru_getR (pc := 78) (pl + 4) dX5_buildMake_78 fl_X5_21 (shPlan_0 hp) rfl (rfX_of (o := pl) (j := 4) (shPlan_0 hp) rfl) ?_
        refine Ru_iload_n (pc := 81) dX5_buildMake_81 rfl rfl ?_
        refine Ru_iald (pc := 82) dX5_buildMake_82 (shPlan_4 hp) (by omega) ?_
        refine Ru_top vl8 ?_
        refine Ru_if_eqN (pc := 83) 99 dX5_buildMake_83 (by decide) (by omega) (fun h4 => ?_) (fun h4 => ?_)
        · have hzf : ¬ (nR T x s).2.2 = 0 := by
            rcases rz with z | z
            · exact absurd (by assumption) z.2
            · exact z.1
          refine Ru_iconst (pc := 99) (nI 0) dX5_buildMake_99 rfl ?_
          refine Ru_zret (pc := 100) dX5_buildMake_100 rfl ⟨Nat.le_refl _, Nat.le_refl _⟩ (Or.inl rfl) ?_
          have e4 := nm4_R tw hz3 hs8
          have eS : (prE T (nm4 T x s).2) = (nR T x s).2 := by
            rw [e4, rwE_f hzf]
            exact sMust_f hzf
          rw [eS] at k
          exact r_qe (r_b_f (decide_eq_false hzf)) (k M8 cw8 hr8 (fun z => absurd z hzf))
        · have hz4 : (nR T x s).2.2 = 0 := by
            rcases rz with z | z
            · exact z.1
            · exact absurd z.2 (by assumption)
          refine Ru_aload_n (pc := 86) dX5_buildMake_86 rfl rfl ?_
          refine Ru_bipush (pc := 87) (nI 59) dX5_buildMake_87 rfl ?_
          refine Ru_cv1 (pc := 89) dX5_buildMake_89 mv_X5_72 rfl (by decide) (Nat.le_of_ble_eq_true rfl) (c_X8_expect (s := (nR T x s).2) (w := 59) tw hr8 (by assumption) (by decide) (fun M9 gx9 (hr9 : X_rd T cnt (sMust T (decide (tK T (nR T x s).2.1 = 59)) (nR T x s).2) M9) => ?_)) 
          have st9 : ∀ o k, ¬ (o = 40 ∧ 6 ≤ k ∧ k ≤ 8) → r_eq3 M8 M9 o k := fun o k h => r_ow.fx (P := fun _ _ => False) (gx9.mono rfl) o k h (fun z => z)
          have cw9 := cw8.fx1 (gx9.mono rfl)
          refine Ru_if_eqB (pc := 92) 99 dX5_buildMake_92 (by decide) (fun h5 => ?_) (fun h5 => ?_)
          · replace h5 := of_decide_eq_false h5
            have hz5 := h5
            refine Ru_iconst (pc := 99) (nI 0) dX5_buildMake_99 rfl ?_
            refine Ru_zret (pc := 100) dX5_buildMake_100 rfl ⟨Nat.le_refl _, Nat.le_refl _⟩ (Or.inl rfl) ?_
            have e4 := nm4_R tw hz3 hs8
            have re := rwE_end (T := T) (e := 0) hz4
            have eS : (prE T (nm4 T x s).2) = prE T (nR T x s).2 := by
              rw [e4]
              exact re.1
            have hzf : ¬ (prE T (nR T x s).2).2 = 0 := hz5
            rw [eS] at k
            exact r_qe (r_b_f (decide_eq_false hzf)) (k M9 cw9 hr9 (fun z => absurd z hzf))
          · replace h5 := of_decide_eq_true h5
            have hz5 := h5
            refine Ru_iconst (pc := 95) (nI 1) dX5_buildMake_95 rfl ?_
            refine Ru_goto (pc := 96) 100 dX5_buildMake_96 (by decide) ?_
            refine Ru_zret (pc := 100) dX5_buildMake_100 rfl ⟨Nat.le_refl _, Nat.le_refl _⟩ (Or.inr rfl) ?_
            have e4 := nm4_R tw hz3 hs8
            have re := rwE_end (T := T) (e := 0) hz4
            have eS : (prE T (nm4 T x s).2) = prE T (nR T x s).2 := by
              rw [e4]
              exact re.1
            have hz6 : (prE T (nR T x s).2).2 = 0 := hz5
            have e6 : (nm4 T x s).1 = (nR T x s).1 := by rw [e4, re.2 hz6]
            rw [eS, e6] at k
            exact r_qe (r_b_t (decide_eq_true hz6)) (k M9 cw9 hr9 (fun _ => ⟨((e3t (e3t (e3t (e3t (e3t (st4 (pl + 2) j (n4p hp (by decide))) (st5 (pl + 2) j (nuj (by decide)))) (st6 (pl + 2) j (n4p hp (by decide)))) (st7 (pl + 2) j (n4p hp (by decide)))) (st8 (pl + 2) j (nuj (by decide)))) (st9 (pl + 2) j (n4p hp (by decide)))).1.trans vl3).trans (if_pos hz1), ((e3t (e3t (e3t (st6 (pl + 3) j (n4p hp (by decide))) (st7 (pl + 3) j (n4p hp (by decide)))) (st8 (pl + 3) j (nuj (by decide)))) (st9 (pl + 3) j (n4p hp (by decide)))).1.trans vl5).trans (if_pos hz2), ((st9 (pl + 4) j (n4p hp (by decide))).1.trans vl8)⟩))
      · replace h3 := of_decide_eq_false h3
        have hzf : ¬ (nm3 T x s).2 = 0 := h3
        refine Ru_iconst (pc := 60) (nI 0) dX5_buildMake_60 rfl ?_
        refine Ru_zret (pc := 61) dX5_buildMake_61 rfl ⟨Nat.le_refl _, Nat.le_refl _⟩ (Or.inl rfl) ?_
        have eS : (prE T (nm4 T x s).2) = (nm3 T x s) := nm_f3 hzf
        rw [eS] at k
        exact r_qe (r_b_f (decide_eq_false hzf)) (k M6 cw6 hr6 (fun z => absurd z hzf))
  · have hzf : ¬ (nm1 T s).2 = 0 := (numb_neg (by decide)).mp h1
    refine Ru_iconst (pc := 23) (nI 0) dX5_buildMake_23 rfl ?_
    refine Ru_zret (pc := 24) dX5_buildMake_24 rfl ⟨Nat.le_refl _, Nat.le_refl _⟩ (Or.inl rfl) ?_
    have eS : (prE T (nm4 T x s).2) = (nm1 T s) := nm_f1 hzf
    rw [eS] at k
    exact r_qe (r_b_f (decide_eq_false hzf)) (k M3 cw3 hr3 (fun z => absurd z hzf))
