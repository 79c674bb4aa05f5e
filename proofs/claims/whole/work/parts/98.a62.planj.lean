-- READING: a job of a plan, the developers' side
def pJ (pl n o k : Nat) : Prop := (o = pl ∧ k = 1) ∨ (pl + 1 ≤ o ∧ o ≤ pl + 4 ∧ k = n)
theorem X_bw_ow {u : Nat} {x : St9} {P : Nat → Nat → Prop} {M M' : Mem} (hu : isTown u) (h : r_ow P M M') (hn : ∀ j k, j ≤ 18 → ¬ P (u + j) k) (b : X_bw u x M) : X_bw u x M' := by
  obtain ⟨⟨c1, c2, c3⟩, w1, w2, w3⟩ := b
  have g : ∀ j k, j ≤ 18 → r_eq3 M M' (u + j) k := fun j k hj => h (u + j) k (n40 hu hj) (hn j k hj)
  exact ⟨⟨(g 1 2 (by decide)).1.trans c1, (g 3 2 (by decide)).1.trans c2, (g 10 2 (by decide)).1.trans c3⟩, fun k hk => ⟨(g 2 k (by decide)).2.1.trans (w1 k hk).1, (w1 k hk).2⟩, fun k hk => ⟨(g 4 k (by decide)).2.1.trans (w2 k hk).1, (w2 k hk).2⟩, fun k hk => ⟨(g 11 k (by decide)).2.1.trans (w3 k hk).1, (w3 k hk).2⟩⟩
theorem X_jb_n {pl a b c e : Nat} {z y : Pl9} {M M' : Mem} (hz : X_jb pl z M) (hlt : z.1 < 24) (kp : ∀ o k, pl ≤ o → o ≤ pl + 4 → ¬ (o = pl ∧ k = 1) → ¬ k = z.1 → M'.1 o k = M.1 o k) (hc : M'.1 pl 1 = nI (z.1 + 1)) (h1 : M'.1 (pl + 1) z.1 = nI a) (h2 : a = 0 → M'.1 (pl + 2) z.1 = nI b) (h3 : M'.1 (pl + 3) z.1 = nI c) (h4 : M'.1 (pl + 4) z.1 = nI e) (y0 : y.1 = z.1 + 1) (y1 : y.2 (5 * z.1) = a) (y2 : y.2 (5 * z.1 + 1) = b) (y3 : y.2 (5 * z.1 + 2) = c) (y4 : y.2 (5 * z.1 + 3) = e) (ys : ∀ j, j < 5 * z.1 → y.2 j = z.2 j) : X_jb pl y M' := by
  refine ⟨hc.trans (congrArg nI y0.symm), by omega, fun j hj => ?_⟩
  by_cases ej : j = z.1
  · subst ej
    rw [y1, y2, y3, y4]
    exact ⟨h1, h2, h3, h4⟩
  · obtain ⟨q1, q2, q3, q4⟩ := hz.2.2 j (by omega)
    rw [ys (5 * j) (by omega), ys (5 * j + 1) (by omega), ys (5 * j + 2) (by omega), ys (5 * j + 3) (by omega)]
    exact ⟨(kp _ _ (by omega) (by omega) (by omega) ej).trans q1, fun t => (kp _ _ (by omega) (by omega) (by omega) ej).trans (q2 t), (kp _ _ (by omega) (by omega) (by omega) ej).trans q3, (kp _ _ (by omega) (by omega) (by omega) ej).trans q4⟩
theorem jbX_c (T : Tx) (x : St9) (z : Pl9) (s : Ps) : (jbX T x z s).1 = z.1 + 1 ∧ (jbX T x z s).2 (5 * z.1) = kO (tK T s.1) ∧ (jbX T x z s).2 (5 * z.1 + 1) = tV T (s.1 + 1) ∧ (jbX T x z s).2 (5 * z.1 + 2) = (if kO (tK T s.1) = 0 then fN x.2 (tL T (s.1 + 2)) 8 (x.1 1) - 1 else fN x.2 (tL T (s.1 + 1)) 0 (x.1 0) - 1) ∧ (jbX T x z s).2 (5 * z.1 + 3) = (if kO (tK T s.1) = 0 then (ma4 T x z s).1 else 0) ∧ ∀ j, j < 5 * z.1 → (jbX T x z s).2 j = z.2 j := by
  unfold jbX
  dsimp only
  refine ⟨rfl, if_pos rfl, ?_, ?_, ?_, fun j hj => ?_⟩
  · rw [if_neg (by omega), if_pos rfl]
  · rw [if_neg (by omega), if_neg (by omega), if_pos rfl]
  · rw [if_neg (by omega), if_neg (by omega), if_neg (by omega), if_pos rfl]
  · rw [if_neg (by omega), if_neg (by omega), if_neg (by omega), if_neg (by omega)]
theorem jo_f0 {T : Tx} {x : St9} {z : Pl9} {s : Ps} (h : ¬ (jb0 T z s).2 = 0) : joS T x z s = jb0 T z s := by
  have e1 : sNext (jb0 T z s) = jb0 T z s := sNext_f h
  unfold joS jbS
  split
  · rw [ma4_n, e1]
    have e2 : nm1 T (jb0 T z s) = jb0 T z s := sCount_f h
    exact (nm_f1 (by rw [e2]; exact h)).trans e2
  · unfold ke1 prE
    rw [e1, sOld_f h, e1]
    exact sMust_f h
theorem jb0_ok {T : Tx} {z : Pl9} {s : Ps} (h0 : s.2 = 0) (h4 : ¬ kO (tK T s.1) = 4) (ht : ¬ kO (tK T s.1) = 0 → pTold z (kO (tK T s.1)) z.1 = false) (hn : ¬ z.1 = 24) : jb0 T z s = s := by
  unfold jb0
  rw [if_neg (fun q => q h0), if_neg h4, if_neg (fun q => by rw [ht q.1] at q; exact absurd q.2 (by decide)), if_neg hn]
theorem kO_m1 (k : Nat) : (if kO k = 4 then -1 else nI (kO k) : Int32).toInt = -1 ↔ kO k = 4 := by
  have em : (-1 : Int32).toInt = -1 := rfl
  by_cases h : kO k = 4
  · rw [if_pos h]
    exact ⟨fun _ => h, fun _ => em⟩
  · rw [if_neg h, r_tn (by have := kO_le k; omega)]
    exact ⟨fun z => by omega, fun z => absurd z h⟩
theorem kO_1 {k : Nat} (h : ¬ kO k = 4) : ¬ k = 1 ∧ ¬ k = 0 := by
  constructor <;> intro z <;> subst z <;> exact h rfl

theorem c_X5_buildJob {Q : Rq} {M : Mem} {T : Tx} {cnt u pl : Nat} {s : Ps} {x : St9} {z : Pl9} (tw : Tw T) (hu : isTown u) (hp : isPlan pl) (bw : X_bw u x M) (wf : Wf x.1) (hz : X_jb pl z M) (hz4 : ∀ j, z.2 (5 * j) ≤ 4) (hr : X_rd T cnt s M) (h0 : s.2 = 0) (k : ∀ M', r_ow (pJ pl z.1) M M' → X_rd T cnt (joS T x z s) M' → ((joS T x z s).2 = 0 → X_jb pl (jbX T x z s) M') → Q (some (.int (r_b (decide ((joS T x z s).2 = 0))))) GX M') : Ca 4 mt_X5_buildJob 0 0 [.ref pl, .ref 40, .ref u] GX M Q := by
  refine Ca_of rfl (Nat.le_of_ble_eq_true rfl) ?_
  have hT : u = 3 ∨ u = 83 ∨ u = 111 ∨ u = 139 ∨ u = 167 := hu
  have hP9 : pl = 26 ∨ pl = 35 ∨ pl = 106 ∨ pl = 134 ∨ pl = 162 ∨ pl = 190 := hp
  have npu : ∀ i k, i ≤ 18 → ¬ pJ pl z.1 (u + i) k := fun i k hi => by
    unfold pJ
    omega
  have cw : r_ow (pJ pl z.1) M M := fun _ _ _ _ => ⟨rfl, rfl, rfl⟩
  have hx := wf.1
  have hz24 := hz.2.1
  have em : (-1 : Int32).toInt = -1 := rfl
  refine Ru_aload_n (pc := 0) dX5_buildJob_0 rfl rfl ?_
  refine Ru_cv0 (pc := 1) dX5_buildJob_1 mv_X5_35 rfl (by decide) (Nat.le_of_ble_eq_true rfl) (c_X8_kind (s := s) tw hr (by assumption) ?_) 
  refine Ru_cs1 (pc := 4) dX5_buildJob_4 ms_X5_44 (by decide) (Nat.le_of_ble_eq_true rfl) (c_X5_kindOf (tK_155 T s.1) ?_) 
  refine Ru_istore_n (pc := 7) dX5_buildJob_7 rfl rfl (by decide) ?_
  refine Ru_iload_n (pc := 8) dX5_buildJob_8 rfl rfl ?_
  refine Ru_iconst (pc := 9) (-1) dX5_buildJob_9 rfl ?_
  refine Ru_icmp_neT (pc := 10) 19 dX5_buildJob_10 (by decide) (fun h1 => ?_) (fun h1 => ?_)
  · have hne := h1
    have hk4 : ¬ kO (tK T s.1) = 4 := fun z => hne ((kO_m1 _).mpr z)
    have hk1 := kO_1 hk4
    have hko := kO_le (tK T s.1)
    refine Ru_weak (L' := [(0, some (.ref pl)), (1, some (.ref 40)), (2, some (.ref u)), (3, some (.int (nI (kO (tK T s.1)))))]) ?_ (by rw [if_neg hk4]; rfl)
    refine Ru_iload_n (pc := 19) dX5_buildJob_19 rfl rfl ?_
    refine Ru_if_eqN (pc := 20) 37 dX5_buildJob_20 (by decide) (by omega) (fun h2 => ?_) (fun h2 => ?_)
    · have hk0 := h2
      have htq : ¬ kO (tK T s.1) = 0 → pTold z (kO (tK T s.1)) z.1 = false := fun q => absurd hk0 q
      refine Ru_aload_n (pc := 37) dX5_buildJob_37 rfl rfl ?_
      refine Ru_getI (pc := 38) dX5_buildJob_38 fl_X5_28 (shPlan_0 hp) rfl ?_
      refine Ru_top hz.1 ?_
      refine Ru_bipush (pc := 41) (nI 24) dX5_buildJob_41 rfl ?_
      refine Ru_icmp_ltN (pc := 43) 53 dX5_buildJob_43 (by decide) (by omega) (fun h3 => ?_) (fun h3 => ?_)
      · have hlt := h3
        refine Ru_aload_n (pc := 53) dX5_buildJob_53 rfl rfl ?_
        refine Ru_getI (pc := 54) dX5_buildJob_54 fl_X5_28 (shPlan_0 hp) rfl ?_
        refine Ru_top hz.1 ?_
        refine Ru_istore (pc := 57) dX5_buildJob_57 rfl (by decide) ?_
        refine Ru_aload_n (pc := 59) dX5_buildJob_59 rfl rfl ?_
        refine Ru_dup (pc := 60) dX5_buildJob_60 rfl ?_
        refine Ru_getI (pc := 61) dX5_buildJob_61 fl_X5_28 (shPlan_0 hp) rfl ?_
        refine Ru_top hz.1 ?_
        refine Ru_iconst (pc := 64) (nI 1) dX5_buildJob_64 rfl ?_
        refine Ru_iaddN (pc := 65) dX5_buildJob_65 ?_
        refine Ru_putI (pc := 66) rfl dX5_buildJob_66 fl_X5_28 (shPlan_0 hp) ?_
        generalize en2 : r_sI M pl 1 (nI (z.1 + 1)) = M2
        have st2 : ∀ o k, ¬ (o = pl ∧ k = 1) → r_eq3 M M2 o k := fun o k h => by
          rw [← en2]
          exact ⟨r_sI_n h, rfl, rfl⟩
        have vl2 : M2.1 pl 1 = (nI (z.1 + 1)) := by
          rw [← en2]
          exact r_sI_s
        have hr2 : X_rd T cnt s M2 := X_rd_sp (j := 0) hp (by decide) (by omega) en2 hr
        have cw2 := cw.st (by unfold pJ; omega) en2
        refine Ru_aload_n (pc := 69) dX5_buildJob_69 rfl rfl ?_
        refine Ru_getR (pc := 70) (pl + 1) dX5_buildJob_70 fl_X5_9 (shPlan_0 hp) rfl (rfX_of (o := pl) (j := 1) (shPlan_0 hp) rfl) ?_
        refine Ru_iload (pc := 73) dX5_buildJob_73 rfl ?_
        refine Ru_iload_n (pc := 75) dX5_buildJob_75 rfl rfl ?_
        refine Ru_iast (pc := 76) rfl dX5_buildJob_76 (shPlan_1 hp) (by omega) ?_
        generalize en3 : r_sI M2 (pl + 1) z.1 (nI (kO (tK T s.1))) = M3
        have st3 : ∀ o k, ¬ (o = (pl + 1) ∧ k = z.1) → r_eq3 M2 M3 o k := fun o k h => by
          rw [← en3]
          exact ⟨r_sI_n h, rfl, rfl⟩
        have vl3 : M3.1 (pl + 1) z.1 = (nI (kO (tK T s.1))) := by
          rw [← en3]
          exact r_sI_s
        have hr3 : X_rd T cnt s M3 := X_rd_sp hp (by decide) (by omega) en3 hr2
        have cw3 := cw2.st (by unfold pJ; omega) en3
        refine Ru_aload_n (pc := 77) dX5_buildJob_77 rfl rfl ?_
        refine Ru_getR (pc := 78) (pl + 2) dX5_buildJob_78 fl_X5_15 (shPlan_0 hp) rfl (rfX_of (o := pl) (j := 2) (shPlan_0 hp) rfl) ?_
        refine Ru_iload (pc := 81) dX5_buildJob_81 rfl ?_
        refine Ru_bipush (pc := 83) (nI 24) dX5_buildJob_83 rfl ?_
        refine Ru_iast (pc := 85) rfl dX5_buildJob_85 (shPlan_2 hp) (by omega) ?_
        generalize en4 : r_sI M3 (pl + 2) z.1 (nI 24) = M4
        have st4 : ∀ o k, ¬ (o = (pl + 2) ∧ k = z.1) → r_eq3 M3 M4 o k := fun o k h => by
          rw [← en4]
          exact ⟨r_sI_n h, rfl, rfl⟩
        have vl4 : M4.1 (pl + 2) z.1 = (nI 24) := by
          rw [← en4]
          exact r_sI_s
        have hr4 : X_rd T cnt s M4 := X_rd_sp hp (by decide) (by omega) en4 hr3
        have cw4 := cw3.st (by unfold pJ; omega) en4
        refine Ru_aload_n (pc := 86) dX5_buildJob_86 rfl rfl ?_
        refine Ru_getR (pc := 87) (pl + 4) dX5_buildJob_87 fl_X5_21 (shPlan_0 hp) rfl (rfX_of (o := pl) (j := 4) (shPlan_0 hp) rfl) ?_
        refine Ru_iload (pc := 90) dX5_buildJob_90 rfl ?_
        refine Ru_iconst (pc := 92) (nI 0) dX5_buildJob_92 rfl ?_
        refine Ru_iast (pc := 93) rfl dX5_buildJob_93 (shPlan_4 hp) (by omega) ?_
        generalize en5 : r_sI M4 (pl + 4) z.1 (nI 0) = M5
        have st5 : ∀ o k, ¬ (o = (pl + 4) ∧ k = z.1) → r_eq3 M4 M5 o k := fun o k h => by
          rw [← en5]
          exact ⟨r_sI_n h, rfl, rfl⟩
        have vl5 : M5.1 (pl + 4) z.1 = (nI 0) := by
          rw [← en5]
          exact r_sI_s
        have hr5 : X_rd T cnt s M5 := X_rd_sp hp (by decide) (by omega) en5 hr4
        have cw5 := cw4.st (by unfold pJ; omega) en5
        refine Ru_aload_n (pc := 94) dX5_buildJob_94 rfl rfl ?_
        refine Ru_cv0 (pc := 95) dX5_buildJob_95 mv_X5_55 rfl (by decide) (Nat.le_of_ble_eq_true rfl) (c_X8_next (s := s) tw hr5 (by assumption) (by omega) (fun M6 gx6 (hr6 : X_rd T cnt (s.1 + 1, 0) M6) => ?_)) 
        have st6 : ∀ o k, ¬ (o = 40 ∧ 6 ≤ k ∧ k ≤ 8) → r_eq3 M5 M6 o k := fun o k h => r_ow.fx (P := fun _ _ => False) (gx6.mono rfl) o k h (fun z => z)
        have cw6 := cw5.fx1 (gx6.mono rfl)
        refine Ru_iload_n (pc := 98) dX5_buildJob_98 rfl rfl ?_
        refine Ru_if_neN (pc := 99) 111 dX5_buildJob_99 (by decide) (by omega) (fun h4 => ?_) (fun h4 => ?_)
        · have hkx := h4
          have hk0 : ¬ kO (tK T s.1) = 0 := by first | assumption | omega
          refine Ru_aload_n (pc := 111) dX5_buildJob_111 rfl rfl ?_
          refine Ru_getR (pc := 112) (pl + 3) dX5_buildJob_112 fl_X5_18 (shPlan_0 hp) rfl (rfX_of (o := pl) (j := 3) (shPlan_0 hp) rfl) ?_
          refine Ru_iload (pc := 115) dX5_buildJob_115 rfl ?_
          refine Ru_aload_n (pc := 117) dX5_buildJob_117 rfl rfl ?_
          refine Ru_aload_n (pc := 118) dX5_buildJob_118 rfl rfl ?_
          refine Ru_getR (pc := 119) (u + 1) dX5_buildJob_119 fl_X5_62 (shTown_0 hu) rfl (rfX_of (o := u) (j := 1) (shTown_0 hu) rfl) ?_
          refine Ru_iconst (pc := 122) (nI 0) dX5_buildJob_122 rfl ?_
          refine Ru_cv2 (pc := 123) dX5_buildJob_123 mv_X5_68 rfl (by decide) (Nat.le_of_ble_eq_true rfl) (c_X8_named0 (s := (s.1 + 1, 0)) (W := x.2) (b := 0) (n := x.1 0) tw hr6 rfl (isNames_t hu).1 ((cw6 (u + 1) 2 (n40 hu (by decide)) (npu 1 2 (by decide))).1.trans bw.1.1) (by omega) (fun k hk => ⟨(cw6 (u + 2) k (n40 hu (by decide)) (npu 2 k (by decide))).2.1.trans (bw.2.1 k hk).1, (bw.2.1 k hk).2⟩) (fun M7 gx7 (hr7 : X_rd T cnt (sNext (sOld T x.2 0 (x.1 0) (s.1 + 1, 0))) M7) => ?_)) 
          have st7 : ∀ o k, ¬ (o = 40 ∧ 6 ≤ k ∧ k ≤ 8) → r_eq3 M6 M7 o k := fun o k h => r_ow.fx (P := fun _ _ => False) (gx7.mono rfl) o k h (fun z => z)
          have cw7 := cw6.fx1 (gx7.mono rfl)
          refine Ru_iast (pc := 126) rfl dX5_buildJob_126 (shPlan_3 hp) (by omega) ?_
          generalize en8 : r_sI M7 (pl + 3) z.1 (if (sNext (sOld T x.2 0 (x.1 0) (s.1 + 1, 0))).2 = 0 then nI (fN x.2 (tL T (s.1 + 1)) 0 (x.1 0) - 1) else -1) = M8
          have st8 : ∀ o k, ¬ (o = (pl + 3) ∧ k = z.1) → r_eq3 M7 M8 o k := fun o k h => by
            rw [← en8]
            exact ⟨r_sI_n h, rfl, rfl⟩
          have vl8 : M8.1 (pl + 3) z.1 = (if (sNext (sOld T x.2 0 (x.1 0) (s.1 + 1, 0))).2 = 0 then nI (fN x.2 (tL T (s.1 + 1)) 0 (x.1 0) - 1) else -1) := by
            rw [← en8]
            exact r_sI_s
          have hr8 : X_rd T cnt (sNext (sOld T x.2 0 (x.1 0) (s.1 + 1, 0))) M8 := X_rd_sp hp (by decide) (by omega) en8 hr7
          have cw8 := cw7.st (by unfold pJ; omega) en8
          refine Ru_aload_n (pc := 127) dX5_buildJob_127 rfl rfl ?_
          refine Ru_getR (pc := 128) (pl + 3) dX5_buildJob_128 fl_X5_18 (shPlan_0 hp) rfl (rfX_of (o := pl) (j := 3) (shPlan_0 hp) rfl) ?_
          refine Ru_iload (pc := 131) dX5_buildJob_131 rfl ?_
          refine Ru_iald (pc := 133) dX5_buildJob_133 (shPlan_3 hp) (by omega) ?_
          refine Ru_top vl8 ?_
          refine Ru_iconst (pc := 134) (-1) dX5_buildJob_134 rfl ?_
          refine Ru_icmp_eqT (pc := 135) 151 dX5_buildJob_135 (by decide) (fun h5 => ?_) (fun h5 => ?_)
          · have hzf : ¬ (sNext (sOld T x.2 0 (x.1 0) (s.1 + 1, 0))).2 = 0 := (numb_iff _ (show fN x.2 (tL T (s.1 + 1)) 0 (x.1 0) - 1 < 2147483648 by have := fN_le x.2 (tL T (s.1 + 1)) 0 (x.1 0); omega)).mp h5
            refine Ru_iconst (pc := 151) (nI 0) dX5_buildJob_151 rfl ?_
            refine Ru_zret (pc := 152) dX5_buildJob_152 rfl ⟨Nat.le_refl _, Nat.le_refl _⟩ (Or.inl rfl) ?_
            have e0 : jb0 T z s = s := jb0_ok h0 hk4 htq (by omega)
            have e1 : sNext (jb0 T z s) = (s.1 + 1, 0) := by
              rw [e0]
              exact if_pos h0
            have jc := jbX_c T x z s
            have eb : jbS T x z s = ke1 T x z s := by
              unfold jbS
              exact if_neg hk0
            have ek : ke1 T x z s = sNext (sOld T x.2 0 (x.1 0) (s.1 + 1, 0)) := by
              unfold ke1
              rw [e1]
            rw [if_neg hk0, if_neg hk0] at jc
            have eS : (joS T x z s) = prE T (sNext (sOld T x.2 0 (x.1 0) (s.1 + 1, 0))) := by
              unfold joS
              rw [eb, ek]
            have eT : prE T (sNext (sOld T x.2 0 (x.1 0) (s.1 + 1, 0))) = sNext (sOld T x.2 0 (x.1 0) (s.1 + 1, 0)) := sMust_f hzf
            rw [eT] at eS
            rw [eS] at k
            exact r_qe (r_b_f (decide_eq_false hzf)) (k M8 cw8 hr8 (fun q => absurd q hzf))
          · have hz4' : (sNext (sOld T x.2 0 (x.1 0) (s.1 + 1, 0))).2 = 0 := Classical.byContradiction (fun q => h5 ((numb_iff _ (show fN x.2 (tL T (s.1 + 1)) 0 (x.1 0) - 1 < 2147483648 by have := fN_le x.2 (tL T (s.1 + 1)) 0 (x.1 0); omega)).mpr q))
            refine Ru_aload_n (pc := 138) dX5_buildJob_138 rfl rfl ?_
            refine Ru_bipush (pc := 139) (nI 59) dX5_buildJob_139 rfl ?_
            refine Ru_cv1 (pc := 141) dX5_buildJob_141 mv_X5_72 rfl (by decide) (Nat.le_of_ble_eq_true rfl) (c_X8_expect (s := (sNext (sOld T x.2 0 (x.1 0) (s.1 + 1, 0)))) (w := 59) tw hr8 (by assumption) (by decide) (fun M9 gx9 (hr9 : X_rd T cnt (sMust T (decide (tK T (sNext (sOld T x.2 0 (x.1 0) (s.1 + 1, 0))).1 = 59)) (sNext (sOld T x.2 0 (x.1 0) (s.1 + 1, 0)))) M9) => ?_)) 
            have st9 : ∀ o k, ¬ (o = 40 ∧ 6 ≤ k ∧ k ≤ 8) → r_eq3 M8 M9 o k := fun o k h => r_ow.fx (P := fun _ _ => False) (gx9.mono rfl) o k h (fun z => z)
            have cw9 := cw8.fx1 (gx9.mono rfl)
            refine Ru_if_eqB (pc := 144) 151 dX5_buildJob_144 (by decide) (fun h6 => ?_) (fun h6 => ?_)
            · replace h6 := of_decide_eq_false h6
              have hz5 := h6
              refine Ru_iconst (pc := 151) (nI 0) dX5_buildJob_151 rfl ?_
              refine Ru_zret (pc := 152) dX5_buildJob_152 rfl ⟨Nat.le_refl _, Nat.le_refl _⟩ (Or.inl rfl) ?_
              have e0 : jb0 T z s = s := jb0_ok h0 hk4 htq (by omega)
              have e1 : sNext (jb0 T z s) = (s.1 + 1, 0) := by
                rw [e0]
                exact if_pos h0
              have jc := jbX_c T x z s
              have eb : jbS T x z s = ke1 T x z s := by
                unfold jbS
                exact if_neg hk0
              have ek : ke1 T x z s = sNext (sOld T x.2 0 (x.1 0) (s.1 + 1, 0)) := by
                unfold ke1
                rw [e1]
              rw [if_neg hk0, if_neg hk0] at jc
              have eS : (joS T x z s) = prE T (sNext (sOld T x.2 0 (x.1 0) (s.1 + 1, 0))) := by
                unfold joS
                rw [eb, ek]
              rw [eS] at k
              exact r_qe (r_b_f (decide_eq_false hz5)) (k M9 cw9 hr9 (fun q => absurd q hz5))
            · replace h6 := of_decide_eq_true h6
              have hz5 := h6
              refine Ru_iconst (pc := 147) (nI 1) dX5_buildJob_147 rfl ?_
              refine Ru_goto (pc := 148) 152 dX5_buildJob_148 (by decide) ?_
              refine Ru_zret (pc := 152) dX5_buildJob_152 rfl ⟨Nat.le_refl _, Nat.le_refl _⟩ (Or.inr rfl) ?_
              have e0 : jb0 T z s = s := jb0_ok h0 hk4 htq (by omega)
              have e1 : sNext (jb0 T z s) = (s.1 + 1, 0) := by
                rw [e0]
                exact if_pos h0
              have jc := jbX_c T x z s
              have eb : jbS T x z s = ke1 T x z s := by
                unfold jbS
                exact if_neg hk0
              have ek : ke1 T x z s = sNext (sOld T x.2 0 (x.1 0) (s.1 + 1, 0)) := by
                unfold ke1
                rw [e1]
              rw [if_neg hk0, if_neg hk0] at jc
              have eS : (joS T x z s) = prE T (sNext (sOld T x.2 0 (x.1 0) (s.1 + 1, 0))) := by
                unfold joS
                rw [eb, ek]
              rw [eS] at k
              refine r_qe (r_b_t (decide_eq_true hz5)) (k M9 cw9 hr9 (fun q => ?_))
              refine X_jb_n (M := M) (a := kO (tK T s.1)) hz (by omega) (fun o k y1 y2 y3 y4 => (cw9 o k (by omega) (by unfold pJ; omega)).1) ((e3t (e3t (e3t (e3t (e3t (e3t (st3 pl 1 (n0u (by decide))) (st4 pl 1 (n0u (by decide)))) (st5 pl 1 (n0u (by decide)))) (st6 pl 1 (n4p (j := 0) hp (by decide)))) (st7 pl 1 (n4p (j := 0) hp (by decide)))) (st8 pl 1 (n0u (by decide)))) (st9 pl 1 (n4p (j := 0) hp (by decide)))).1.trans vl2) ((e3t (e3t (e3t (e3t (e3t (st4 (pl + 1) z.1 (nuj (by decide))) (st5 (pl + 1) z.1 (nuj (by decide)))) (st6 (pl + 1) z.1 (n4p (j := 1) hp (by decide)))) (st7 (pl + 1) z.1 (n4p (j := 1) hp (by decide)))) (st8 (pl + 1) z.1 (nuj (by decide)))) (st9 (pl + 1) z.1 (n4p (j := 1) hp (by decide)))).1.trans vl3) (fun q => absurd q hk0) (((st9 (pl + 3) z.1 (n4p (j := 3) hp (by decide))).1.trans vl8).trans (if_pos hz4')) ((e3t (e3t (e3t (st6 (pl + 4) z.1 (n4p (j := 4) hp (by decide))) (st7 (pl + 4) z.1 (n4p (j := 4) hp (by decide)))) (st8 (pl + 4) z.1 (nuj (by decide)))) (st9 (pl + 4) z.1 (n4p (j := 4) hp (by decide)))).1.trans vl5) jc.1 jc.2.1 jc.2.2.1 jc.2.2.2.1 jc.2.2.2.2.1 jc.2.2.2.2.2
        · have hkx := h4
          have hk0 : kO (tK T s.1) = 0 := by omega
          refine Ru_aload_n (pc := 102) dX5_buildJob_102 rfl rfl ?_
          refine Ru_aload_n (pc := 103) dX5_buildJob_103 rfl rfl ?_
          refine Ru_aload_n (pc := 104) dX5_buildJob_104 rfl rfl ?_
          refine Ru_iload (pc := 105) dX5_buildJob_105 rfl ?_
          refine Ru_cv3 (pc := 107) dX5_buildJob_107 mv_X5_58 (shPlan_0 hp) (by decide) (Nat.le_of_ble_eq_true rfl) (c_X5_buildMake (s := (s.1 + 1, 0)) (x := x) tw hu hp (X_bw_ow hu cw6 npu bw) wf hr6 rfl hlt (fun M7 ow7 hr7 vv7 => ?_)) 
          refine Ru_zret (pc := 110) dX5_buildJob_110 rfl ⟨Nat.le_refl _, Nat.le_refl _⟩ (r_b_01 _) ?_
          have e0 : jb0 T z s = s := jb0_ok h0 hk4 htq (by omega)
          have e1 : sNext (jb0 T z s) = (s.1 + 1, 0) := by
            rw [e0]
            exact if_pos h0
          have jc := jbX_c T x z s
          have eb : jbS T x z s = (nm4 T x (s.1 + 1, 0)).2 := by
            unfold jbS
            rw [if_pos hk0, ma4_n, e1]
          have eS : (joS T x z s) = prE T (nm4 T x (s.1 + 1, 0)).2 := by
            unfold joS
            rw [eb]
          have em4 : ma4 T x z s = nm4 T x (s.1 + 1, 0) := by
            rw [ma4_n, e1]
          rw [if_pos hk0, if_pos hk0, em4] at jc
          have owf : r_ow (pJ pl z.1) M M7 := cw6.tr (ow7.mn (fun o k q => by
            unfold pQ at q
            unfold pJ
            omega))
          rw [eS] at k
          refine k M7 owf hr7 (fun q => ?_)
          have v := vv7 q
          have ok1 : nm1 T (s.1 + 1, 0) = (s.1 + 2, 0) := by
            have h1 : (nm1 T (s.1 + 1, 0)).2 = 0 := Classical.byContradiction (fun y => by rw [nm_f1 y] at q; exact y q)
            exact (sCount_ok h1).2.2.2
          rw [ok1] at v
          refine X_jb_n (M := M) (a := kO (tK T s.1)) hz (by omega) (fun o k y1 y2 y3 y4 => (owf o k (by omega) (by unfold pJ; omega)).1) ?_ ?_ (fun _ => v.1) v.2.1 v.2.2 jc.1 jc.2.1 jc.2.2.1 jc.2.2.2.1 jc.2.2.2.2.1 jc.2.2.2.2.2
          · exact (ow7 pl 1 (by omega) (by unfold pQ; omega)).1.trans ((e3t (e3t (e3t (st3 pl 1 (n0u (by decide))) (st4 pl 1 (n0u (by decide)))) (st5 pl 1 (n0u (by decide)))) (st6 pl 1 (n4p (j := 0) hp (by decide)))).1.trans vl2)
          · exact (ow7 (pl + 1) z.1 (by omega) (by unfold pQ; omega)).1.trans ((e3t (e3t (st4 (pl + 1) z.1 (nuj (by decide))) (st5 (pl + 1) z.1 (nuj (by decide)))) (st6 (pl + 1) z.1 (n4p (j := 1) hp (by decide)))).1.trans vl3)
      · refine Ru_aload_n (pc := 46) dX5_buildJob_46 rfl rfl ?_
        refine Ru_bipush (pc := 47) (nI 6) dX5_buildJob_47 rfl ?_
        refine Ru_cv1 (pc := 49) dX5_buildJob_49 mv_X5_48 rfl (by decide) (Nat.le_of_ble_eq_true rfl) (c_X8_refuse (s := s) (f := 6) tw hr (by assumption) (by decide) (fun M2 gx2 hr2 => ?_)) 
        have st2 : ∀ o k, ¬ (o = 40 ∧ 6 ≤ k ∧ k ≤ 8) → r_eq3 M M2 o k := fun o k h => r_ow.fx (P := fun _ _ => False) (gx2.mono rfl) o k h (fun z => z)
        have cw2 := cw.fx1 (gx2.mono rfl)
        refine Ru_zret (pc := 52) dX5_buildJob_52 rfl ⟨Nat.le_refl _, Nat.le_refl _⟩ (Or.inl rfl) ?_
        have e0 : jb0 T z s = sRf T 6 s := by
          unfold jb0
          rw [if_neg (fun q => q h0), if_neg hk4, if_neg (fun q => by rw [htq q.1] at q; exact absurd q.2 (by decide)), if_pos (by omega), sRf_f h0 hk1.1]
        have hn : ¬ (jb0 T z s).2 = 0 := by
          rw [e0]
          exact sRf_n (by decide)
        have eS := jo_f0 (x := x) hn
        rw [e0] at eS hn
        rw [eS] at k
        exact r_qe (r_b_f (decide_eq_false hn)) (k M2 (r_ow.fx (gx2.mono rfl)) hr2 (fun q => absurd q hn))
    · have hk0 := h2
      refine Ru_aload_n (pc := 23) dX5_buildJob_23 rfl rfl ?_
      refine Ru_iload_n (pc := 24) dX5_buildJob_24 rfl rfl ?_
      refine Ru_cv1 (pc := 25) dX5_buildJob_25 mv_X5_52 (shPlan_0 hp) (by decide) (Nat.le_of_ble_eq_true rfl) (c_X5_tells hp hz hz4 (kO_le _) ?_) 
      refine Ru_if_eqB (pc := 28) 37 dX5_buildJob_28 (by decide) (fun h7 => ?_) (fun h7 => ?_)
      · have htq : ¬ kO (tK T s.1) = 0 → pTold z (kO (tK T s.1)) z.1 = false := fun _ => h7
        refine Ru_aload_n (pc := 37) dX5_buildJob_37 rfl rfl ?_
        refine Ru_getI (pc := 38) dX5_buildJob_38 fl_X5_28 (shPlan_0 hp) rfl ?_
        refine Ru_top hz.1 ?_
        refine Ru_bipush (pc := 41) (nI 24) dX5_buildJob_41 rfl ?_
        refine Ru_icmp_ltN (pc := 43) 53 dX5_buildJob_43 (by decide) (by omega) (fun h8 => ?_) (fun h8 => ?_)
        · have hlt := h8
          refine Ru_aload_n (pc := 53) dX5_buildJob_53 rfl rfl ?_
          refine Ru_getI (pc := 54) dX5_buildJob_54 fl_X5_28 (shPlan_0 hp) rfl ?_
          refine Ru_top hz.1 ?_
          refine Ru_istore (pc := 57) dX5_buildJob_57 rfl (by decide) ?_
          refine Ru_aload_n (pc := 59) dX5_buildJob_59 rfl rfl ?_
          refine Ru_dup (pc := 60) dX5_buildJob_60 rfl ?_
          refine Ru_getI (pc := 61) dX5_buildJob_61 fl_X5_28 (shPlan_0 hp) rfl ?_
          refine Ru_top hz.1 ?_
          refine Ru_iconst (pc := 64) (nI 1) dX5_buildJob_64 rfl ?_
          refine Ru_iaddN (pc := 65) dX5_buildJob_65 ?_
          refine Ru_putI (pc := 66) rfl dX5_buildJob_66 fl_X5_28 (shPlan_0 hp) ?_
          generalize en2 : r_sI M pl 1 (nI (z.1 + 1)) = M2
          have st2 : ∀ o k, ¬ (o = pl ∧ k = 1) → r_eq3 M M2 o k := fun o k h => by
            rw [← en2]
            exact ⟨r_sI_n h, rfl, rfl⟩
          have vl2 : M2.1 pl 1 = (nI (z.1 + 1)) := by
            rw [← en2]
            exact r_sI_s
          have hr2 : X_rd T cnt s M2 := X_rd_sp (j := 0) hp (by decide) (by omega) en2 hr
          have cw2 := cw.st (by unfold pJ; omega) en2
          refine Ru_aload_n (pc := 69) dX5_buildJob_69 rfl rfl ?_
          refine Ru_getR (pc := 70) (pl + 1) dX5_buildJob_70 fl_X5_9 (shPlan_0 hp) rfl (rfX_of (o := pl) (j := 1) (shPlan_0 hp) rfl) ?_
          refine Ru_iload (pc := 73) dX5_buildJob_73 rfl ?_
          refine Ru_iload_n (pc := 75) dX5_buildJob_75 rfl rfl ?_
          refine Ru_iast (pc := 76) rfl dX5_buildJob_76 (shPlan_1 hp) (by omega) ?_
          generalize en3 : r_sI M2 (pl + 1) z.1 (nI (kO (tK T s.1))) = M3
          have st3 : ∀ o k, ¬ (o = (pl + 1) ∧ k = z.1) → r_eq3 M2 M3 o k := fun o k h => by
            rw [← en3]
            exact ⟨r_sI_n h, rfl, rfl⟩
          have vl3 : M3.1 (pl + 1) z.1 = (nI (kO (tK T s.1))) := by
            rw [← en3]
            exact r_sI_s
          have hr3 : X_rd T cnt s M3 := X_rd_sp hp (by decide) (by omega) en3 hr2
          have cw3 := cw2.st (by unfold pJ; omega) en3
          refine Ru_aload_n (pc := 77) dX5_buildJob_77 rfl rfl ?_
          refine Ru_getR (pc := 78) (pl + 2) dX5_buildJob_78 fl_X5_15 (shPlan_0 hp) rfl (rfX_of (o := pl) (j := 2) (shPlan_0 hp) rfl) ?_
          refine Ru_iload (pc := 81) dX5_buildJob_81 rfl ?_
          refine Ru_bipush (pc := 83) (nI 24) dX5_buildJob_83 rfl ?_
          refine Ru_iast (pc := 85) rfl dX5_buildJob_85 (shPlan_2 hp) (by omega) ?_
          generalize en4 : r_sI M3 (pl + 2) z.1 (nI 24) = M4
          have st4 : ∀ o k, ¬ (o = (pl + 2) ∧ k = z.1) → r_eq3 M3 M4 o k := fun o k h => by
            rw [← en4]
            exact ⟨r_sI_n h, rfl, rfl⟩
          have vl4 : M4.1 (pl + 2) z.1 = (nI 24) := by
            rw [← en4]
            exact r_sI_s
          have hr4 : X_rd T cnt s M4 := X_rd_sp hp (by decide) (by omega) en4 hr3
          have cw4 := cw3.st (by unfold pJ; omega) en4
          refine Ru_aload_n (pc := 86) dX5_buildJob_86 rfl rfl ?_
          refine Ru_getR (pc := 87) (pl + 4) dX5_buildJob_87 fl_X5_21 (shPlan_0 hp) rfl (rfX_of (o := pl) (j := 4) (shPlan_0 hp) rfl) ?_
          refine Ru_iload (pc := 90) dX5_buildJob_90 rfl ?_
          refine Ru_iconst (pc := 92) (nI 0) dX5_buildJob_92 rfl ?_
          refine Ru_iast (pc := 93) rfl dX5_buildJob_93 (shPlan_4 hp) (by omega) ?_
          generalize en5 : r_sI M4 (pl + 4) z.1 (nI 0) = M5
          have st5 : ∀ o k, ¬ (o = (pl + 4) ∧ k = z.1) → r_eq3 M4 M5 o k := fun o k h => by
            rw [← en5]
            exact ⟨r_sI_n h, rfl, rfl⟩
          have vl5 : M5.1 (pl + 4) z.1 = (nI 0) := by
            rw [← en5]
            exact r_sI_s
          have hr5 : X_rd T cnt s M5 := X_rd_sp hp (by decide) (by omega) en5 hr4
          have cw5 := cw4.st (by unfold pJ; omega) en5
          refine Ru_aload_n (pc := 94) dX5_buildJob_94 rfl rfl ?_
          refine Ru_cv0 (pc := 95) dX5_buildJob_95 mv_X5_55 rfl (by decide) (Nat.le_of_ble_eq_true rfl) (c_X8_next (s := s) tw hr5 (by assumption) (by omega) (fun M6 gx6 (hr6 : X_rd T cnt (s.1 + 1, 0) M6) => ?_)) 
          have st6 : ∀ o k, ¬ (o = 40 ∧ 6 ≤ k ∧ k ≤ 8) → r_eq3 M5 M6 o k := fun o k h => r_ow.fx (P := fun _ _ => False) (gx6.mono rfl) o k h (fun z => z)
          have cw6 := cw5.fx1 (gx6.mono rfl)
          refine Ru_iload_n (pc := 98) dX5_buildJob_98 rfl rfl ?_
          refine Ru_if_neN (pc := 99) 111 dX5_buildJob_99 (by decide) (by omega) (fun h9 => ?_) (fun h9 => ?_)
          · have hkx := h9
            have hk0 : ¬ kO (tK T s.1) = 0 := by first | assumption | omega
            refine Ru_aload_n (pc := 111) dX5_buildJob_111 rfl rfl ?_
            refine Ru_getR (pc := 112) (pl + 3) dX5_buildJob_112 fl_X5_18 (shPlan_0 hp) rfl (rfX_of (o := pl) (j := 3) (shPlan_0 hp) rfl) ?_
            refine Ru_iload (pc := 115) dX5_buildJob_115 rfl ?_
            refine Ru_aload_n (pc := 117) dX5_buildJob_117 rfl rfl ?_
            refine Ru_aload_n (pc := 118) dX5_buildJob_118 rfl rfl ?_
            refine Ru_getR (pc := 119) (u + 1) dX5_buildJob_119 fl_X5_62 (shTown_0 hu) rfl (rfX_of (o := u) (j := 1) (shTown_0 hu) rfl) ?_
            refine Ru_iconst (pc := 122) (nI 0) dX5_buildJob_122 rfl ?_
            refine Ru_cv2 (pc := 123) dX5_buildJob_123 mv_X5_68 rfl (by decide) (Nat.le_of_ble_eq_true rfl) (c_X8_named0 (s := (s.1 + 1, 0)) (W := x.2) (b := 0) (n := x.1 0) tw hr6 rfl (isNames_t hu).1 ((cw6 (u + 1) 2 (n40 hu (by decide)) (npu 1 2 (by decide))).1.trans bw.1.1) (by omega) (fun k hk => ⟨(cw6 (u + 2) k (n40 hu (by decide)) (npu 2 k (by decide))).2.1.trans (bw.2.1 k hk).1, (bw.2.1 k hk).2⟩) (fun M7 gx7 (hr7 : X_rd T cnt (sNext (sOld T x.2 0 (x.1 0) (s.1 + 1, 0))) M7) => ?_)) 
            have st7 : ∀ o k, ¬ (o = 40 ∧ 6 ≤ k ∧ k ≤ 8) → r_eq3 M6 M7 o k := fun o k h => r_ow.fx (P := fun _ _ => False) (gx7.mono rfl) o k h (fun z => z)
            have cw7 := cw6.fx1 (gx7.mono rfl)
            refine Ru_iast (pc := 126) rfl dX5_buildJob_126 (shPlan_3 hp) (by omega) ?_
            generalize en8 : r_sI M7 (pl + 3) z.1 (if (sNext (sOld T x.2 0 (x.1 0) (s.1 + 1, 0))).2 = 0 then nI (fN x.2 (tL T (s.1 + 1)) 0 (x.1 0) - 1) else -1) = M8
            have st8 : ∀ o k, ¬ (o = (pl + 3) ∧ k = z.1) → r_eq3 M7 M8 o k := fun o k h => by
              rw [← en8]
              exact ⟨r_sI_n h, rfl, rfl⟩
            have vl8 : M8.1 (pl + 3) z.1 = (if (sNext (sOld T x.2 0 (x.1 0) (s.1 + 1, 0))).2 = 0 then nI (fN x.2 (tL T (s.1 + 1)) 0 (x.1 0) - 1) else -1) := by
              rw [← en8]
              exact r_sI_s
            have hr8 : X_rd T cnt (sNext (sOld T x.2 0 (x.1 0) (s.1 + 1, 0))) M8 := X_rd_sp hp (by decide) (by omega) en8 hr7
            have cw8 := cw7.st (by unfold pJ; omega) en8
            refine Ru_aload_n (pc := 127) dX5_buildJob_127 rfl rfl ?_
            refine Ru_getR (pc := 128) (pl + 3) dX5_buildJob_128 fl_X5_18 (shPlan_0 hp) rfl (rfX_of (o := pl) (j := 3) (shPlan_0 hp) rfl) ?_
            refine Ru_iload (pc := 131) dX5_buildJob_131 rfl ?_
            refine Ru_iald (pc := 133) dX5_buildJob_133 (shPlan_3 hp) (by omega) ?_
            refine Ru_top vl8 ?_
            refine Ru_iconst (pc := 134) (-1) dX5_buildJob_134 rfl ?_
            refine Ru_icmp_eqT (pc := 135) 151 dX5_buildJob_135 (by decide) (fun h10 => ?_) (fun h10 => ?_)
            · have hzf : ¬ (sNext (sOld T x.2 0 (x.1 0) (s.1 + 1, 0))).2 = 0 := (numb_iff _ (show fN x.2 (tL T (s.1 + 1)) 0 (x.1 0) - 1 < 2147483648 by have := fN_le x.2 (tL T (s.1 + 1)) 0 (x.1 0); omega)).mp h10
              refine Ru_iconst (pc := 151) (nI 0) dX5_buildJob_151 rfl ?_
              refine Ru_zret (pc := 152) dX5_buildJob_152 rfl ⟨Nat.le_refl _, Nat.le_refl _⟩ (Or.inl rfl) ?_
              have e0 : jb0 T z s = s := jb0_ok h0 hk4 htq (by omega)
              have e1 : sNext (jb0 T z s) = (s.1 + 1, 0) := by
                rw [e0]
                exact if_pos h0
              have jc := jbX_c T x z s
              have eb : jbS T x z s = ke1 T x z s := by
                unfold jbS
                exact if_neg hk0
              have ek : ke1 T x z s = sNext (sOld T x.2 0 (x.1 0) (s.1 + 1, 0)) := by
                unfold ke1
                rw [e1]
              rw [if_neg hk0, if_neg hk0] at jc
              have eS : (joS T x z s) = prE T (sNext (sOld T x.2 0 (x.1 0) (s.1 + 1, 0))) := by
                unfold joS
                rw [eb, ek]
              have eT : prE T (sNext (sOld T x.2 0 (x.1 0) (s.1 + 1, 0))) = sNext (sOld T x.2 0 (x.1 0) (s.1 + 1, 0)) := sMust_f hzf
              rw [eT] at eS
              rw [eS] at k
              exact r_qe (r_b_f (decide_eq_false hzf)) (k M8 cw8 hr8 (fun q => absurd q hzf))
            · have hz4' : (sNext (sOld T x.2 0 (x.1 0) (s.1 + 1, 0))).2 = 0 := Classical.byContradiction (fun q => h10 ((numb_iff _ (show fN x.2 (tL T (s.1 + 1)) 0 (x.1 0) - 1 < 2147483648 by have := fN_le x.2 (tL T (s.1 + 1)) 0 (x.1 0); omega)).mpr q))
              refine Ru_aload_n (pc := 138) dX5_buildJob_138 rfl rfl ?_
              refine Ru_bipush (pc := 139) (nI 59) dX5_buildJob_139 rfl ?_
              refine Ru_cv1 (pc := 141) dX5_buildJob_141 mv_X5_72 rfl (by decide) (Nat.le_of_ble_eq_true rfl) (c_X8_expect (s := (sNext (sOld T x.2 0 (x.1 0) (s.1 + 1, 0)))) (w := 59) tw hr8 (by assumption) (by decide) (fun M9 gx9 (hr9 : X_rd T cnt (sMust T (decide (tK T (sNext (sOld T x.2 0 (x.1 0) (s.1 + 1, 0))).1 = 59)) (sNext (sOld T x.2 0 (x.1 0) (s.1 + 1, 0)))) M9) => ?_)) 
              have st9 : ∀ o k, ¬ (o = 40 ∧ 6 ≤ k ∧ k ≤ 8) → r_eq3 M8 M9 o k := fun o k h => r_ow.fx (P := fun _ _ => False) (gx9.mono rfl) o k h (fun z => z)
              have cw9 := cw8.fx1 (gx9.mono rfl)
              refine Ru_if_eqB (pc := 144) 151 dX5_buildJob_144 (by decide) (fun h11 => ?_) (fun h11 => ?_)
              · replace h11 := of_decide_eq_false h11
                have hz5 := h11
                refine Ru_iconst (pc := 151) (nI 0) dX5_buildJob_151 rfl ?_
                refine Ru_zret (pc := 152) dX5_buildJob_152 rfl ⟨Nat.le_refl _, Nat.le_refl _⟩ (Or.inl rfl) ?_
                have e0 : jb0 T z s = s := jb0_ok h0 hk4 htq (by omega)
                have e1 : sNext (jb0 T z s) = (s.1 + 1, 0) := by
                  rw [e0]
                  exact if_pos h0
                have jc := jbX_c T x z s
                have eb : jbS T x z s = ke1 T x z s := by
                  unfold jbS
                  exact if_neg hk0
                have ek : ke1 T x z s = sNext (sOld T x.2 0 (x.1 0) (s.1 + 1, 0)) := by
                  unfold ke1
                  rw [e1]
                rw [if_neg hk0, if_neg hk0] at jc
                have eS : (joS T x z s) = prE T (sNext (sOld T x.2 0 (x.1 0) (s.1 + 1, 0))) := by
                  unfold joS
                  rw [eb, ek]
                rw [eS] at k
                exact r_qe (r_b_f (decide_eq_false hz5)) (k M9 cw9 hr9 (fun q => absurd q hz5))
              · replace h11 := of_decide_eq_true h11
                have hz5 := h11
                refine Ru_iconst (pc := 147) (nI 1) dX5_buildJob_147 rfl ?_
                refine Ru_goto (pc := 148) 152 dX5_buildJob_148 (by decide) ?_
                refine Ru_zret (pc := 152) dX5_buildJob_152 rfl ⟨Nat.le_refl _, Nat.le_refl _⟩ (Or.inr rfl) ?_
                have e0 : jb0 T z s = s := jb0_ok h0 hk4 htq (by omega)
                have e1 : sNext (jb0 T z s) = (s.1 + 1, 0) := by
                  rw [e0]
                  exact if_pos h0
                have jc := jbX_c T x z s
                have eb : jbS T x z s = ke1 T x z s := by
                  unfold jbS
                  exact if_neg hk0
                have ek : ke1 T x z s = sNext (sOld T x.2 0 (x.1 0) (s.1 + 1, 0)) := by
                  unfold ke1
                  rw [e1]
                rw [if_neg hk0, if_neg hk0] at jc
                have eS : (joS T x z s) = prE T (sNext (sOld T x.2 0 (x.1 0) (s.1 + 1, 0))) := by
                  unfold joS
                  rw [eb, ek]
                rw [eS] at k
                refine r_qe (r_b_t (decide_eq_true hz5)) (k M9 cw9 hr9 (fun q => ?_))
                refine X_jb_n (M := M) (a := kO (tK T s.1)) hz (by omega) (fun o k y1 y2 y3 y4 => (cw9 o k (by omega) (by unfold pJ; omega)).1) ((e3t (e3t (e3t (e3t (e3t (e3t (st3 pl 1 (n0u (by decide))) (st4 pl 1 (n0u (by decide)))) (st5 pl 1 (n0u (by decide)))) (st6 pl 1 (n4p (j := 0) hp (by decide)))) (st7 pl 1 (n4p (j := 0) hp (by decide)))) (st8 pl 1 (n0u (by decide)))) (st9 pl 1 (n4p (j := 0) hp (by decide)))).1.trans vl2) ((e3t (e3t (e3t (e3t (e3t (st4 (pl + 1) z.1 (nuj (by decide))) (st5 (pl + 1) z.1 (nuj (by decide)))) (st6 (pl + 1) z.1 (n4p (j := 1) hp (by decide)))) (st7 (pl + 1) z.1 (n4p (j := 1) hp (by decide)))) (st8 (pl + 1) z.1 (nuj (by decide)))) (st9 (pl + 1) z.1 (n4p (j := 1) hp (by decide)))).1.trans vl3) (fun q => absurd q hk0) (((st9 (pl + 3) z.1 (n4p (j := 3) hp (by decide))).1.trans vl8).trans (if_pos hz4')) ((e3t (e3t (e3t (st6 (pl + 4) z.1 (n4p (j := 4) hp (by decide))) (st7 (pl + 4) z.1 (n4p (j := 4) hp (by decide)))) (st8 (pl + 4) z.1 (nuj (by decide)))) (st9 (pl + 4) z.1 (n4p (j := 4) hp (by decide)))).1.trans vl5) jc.1 jc.2.1 jc.2.2.1 jc.2.2.2.1 jc.2.2.2.2.1 jc.2.2.2.2.2
          · have hkx := h9
            have hk0 : kO (tK T s.1) = 0 := by omega
            refine Ru_aload_n (pc := 102) dX5_buildJob_102 rfl rfl ?_
            refine Ru_aload_n (pc := 103) dX5_buildJob_103 rfl rfl ?_
            refine Ru_aload_n (pc := 104) dX5_buildJob_104 rfl rfl ?_
            refine Ru_iload (pc := 105) dX5_buildJob_105 rfl ?_
            refine Ru_cv3 (pc := 107) dX5_buildJob_107 mv_X5_58 (shPlan_0 hp) (by decide) (Nat.le_of_ble_eq_true rfl) (c_X5_buildMake (s := (s.1 + 1, 0)) (x := x) tw hu hp (X_bw_ow hu cw6 npu bw) wf hr6 rfl hlt (fun M7 ow7 hr7 vv7 => ?_)) 
            refine Ru_zret (pc := 110) dX5_buildJob_110 rfl ⟨Nat.le_refl _, Nat.le_refl _⟩ (r_b_01 _) ?_
            have e0 : jb0 T z s = s := jb0_ok h0 hk4 htq (by omega)
            have e1 : sNext (jb0 T z s) = (s.1 + 1, 0) := by
              rw [e0]
              exact if_pos h0
            have jc := jbX_c T x z s
            have eb : jbS T x z s = (nm4 T x (s.1 + 1, 0)).2 := by
              unfold jbS
              rw [if_pos hk0, ma4_n, e1]
            have eS : (joS T x z s) = prE T (nm4 T x (s.1 + 1, 0)).2 := by
              unfold joS
              rw [eb]
            have em4 : ma4 T x z s = nm4 T x (s.1 + 1, 0) := by
              rw [ma4_n, e1]
            rw [if_pos hk0, if_pos hk0, em4] at jc
            have owf : r_ow (pJ pl z.1) M M7 := cw6.tr (ow7.mn (fun o k q => by
              unfold pQ at q
              unfold pJ
              omega))
            rw [eS] at k
            refine k M7 owf hr7 (fun q => ?_)
            have v := vv7 q
            have ok1 : nm1 T (s.1 + 1, 0) = (s.1 + 2, 0) := by
              have h1 : (nm1 T (s.1 + 1, 0)).2 = 0 := Classical.byContradiction (fun y => by rw [nm_f1 y] at q; exact y q)
              exact (sCount_ok h1).2.2.2
            rw [ok1] at v
            refine X_jb_n (M := M) (a := kO (tK T s.1)) hz (by omega) (fun o k y1 y2 y3 y4 => (owf o k (by omega) (by unfold pJ; omega)).1) ?_ ?_ (fun _ => v.1) v.2.1 v.2.2 jc.1 jc.2.1 jc.2.2.1 jc.2.2.2.1 jc.2.2.2.2.1 jc.2.2.2.2.2
            · exact (ow7 pl 1 (by omega) (by unfold pQ; omega)).1.trans ((e3t (e3t (e3t (st3 pl 1 (n0u (by decide))) (st4 pl 1 (n0u (by decide)))) (st5 pl 1 (n0u (by decide)))) (st6 pl 1 (n4p (j := 0) hp (by decide)))).1.trans vl2)
            · exact (ow7 (pl + 1) z.1 (by omega) (by unfold pQ; omega)).1.trans ((e3t (e3t (st4 (pl + 1) z.1 (nuj (by decide))) (st5 (pl + 1) z.1 (nuj (by decide)))) (st6 (pl + 1) z.1 (n4p (j := 1) hp (by decide)))).1.trans vl3)
        · refine Ru_aload_n (pc := 46) dX5_buildJob_46 rfl rfl ?_
          refine Ru_bipush (pc := 47) (nI 6) dX5_buildJob_47 rfl ?_
          refine Ru_cv1 (pc := 49) dX5_buildJob_49 mv_X5_48 rfl (by decide) (Nat.le_of_ble_eq_true rfl) (c_X8_refuse (s := s) (f := 6) tw hr (by assumption) (by decide) (fun M2 gx2 hr2 => ?_)) 
          have st2 : ∀ o k, ¬ (o = 40 ∧ 6 ≤ k ∧ k ≤ 8) → r_eq3 M M2 o k := fun o k h => r_ow.fx (P := fun _ _ => False) (gx2.mono rfl) o k h (fun z => z)
          have cw2 := cw.fx1 (gx2.mono rfl)
          refine Ru_zret (pc := 52) dX5_buildJob_52 rfl ⟨Nat.le_refl _, Nat.le_refl _⟩ (Or.inl rfl) ?_
          have e0 : jb0 T z s = sRf T 6 s := by
            unfold jb0
            rw [if_neg (fun q => q h0), if_neg hk4, if_neg (fun q => by rw [htq q.1] at q; exact absurd q.2 (by decide)), if_pos (by omega), sRf_f h0 hk1.1]
          have hn : ¬ (jb0 T z s).2 = 0 := by
            rw [e0]
            exact sRf_n (by decide)
          have eS := jo_f0 (x := x) hn
          rw [e0] at eS hn
          rw [eS] at k
          exact r_qe (r_b_f (decide_eq_false hn)) (k M2 (r_ow.fx (gx2.mono rfl)) hr2 (fun q => absurd q hn))
      · have htl := h7
        refine Ru_aload_n (pc := 31) dX5_buildJob_31 rfl rfl ?_
        refine Ru_iconst (pc := 32) (nI 5) dX5_buildJob_32 rfl ?_
        refine Ru_cv1 (pc := 33) dX5_buildJob_33 mv_X5_48 rfl (by decide) (Nat.le_of_ble_eq_true rfl) (c_X8_refuse (s := s) (f := 5) tw hr (by assumption) (by decide) (fun M2 gx2 hr2 => ?_)) 
        have st2 : ∀ o k, ¬ (o = 40 ∧ 6 ≤ k ∧ k ≤ 8) → r_eq3 M M2 o k := fun o k h => r_ow.fx (P := fun _ _ => False) (gx2.mono rfl) o k h (fun z => z)
        have cw2 := cw.fx1 (gx2.mono rfl)
        refine Ru_zret (pc := 36) dX5_buildJob_36 rfl ⟨Nat.le_refl _, Nat.le_refl _⟩ (Or.inl rfl) ?_
        have e0 : jb0 T z s = sRf T 5 s := by
          unfold jb0
          rw [if_neg (fun q => q h0), if_neg hk4, if_pos ⟨hk0, htl⟩, sRf_f h0 hk1.1]
        have hn : ¬ (jb0 T z s).2 = 0 := by
          rw [e0]
          exact sRf_n (by decide)
        have eS := jo_f0 (x := x) hn
        rw [e0] at eS hn
        rw [eS] at k
        exact r_qe (r_b_f (decide_eq_false hn)) (k M2 (r_ow.fx (gx2.mono rfl)) hr2 (fun q => absurd q hn))
  · have heq := h1
    refine Ru_aload_n (pc := 13) dX5_buildJob_13 rfl rfl ?_
    refine Ru_iconst (pc := 14) (nI 2) dX5_buildJob_14 rfl ?_
    refine Ru_cv1 (pc := 15) dX5_buildJob_15 mv_X5_48 rfl (by decide) (Nat.le_of_ble_eq_true rfl) (c_X8_refuse (s := s) (f := 2) tw hr (by assumption) (by decide) (fun M2 gx2 hr2 => ?_)) 
    have st2 : ∀ o k, ¬ (o = 40 ∧ 6 ≤ k ∧ k ≤ 8) → r_eq3 M M2 o k := fun o k h => r_ow.fx (P := fun _ _ => False) (gx2.mono rfl) o k h (fun z => z)
    have cw2 := cw.fx1 (gx2.mono rfl)
    refine Ru_zret (pc := 18) dX5_buildJob_18 rfl ⟨Nat.le_refl _, Nat.le_refl _⟩ (Or.inl rfl) ?_
    have h4 : kO (tK T s.1) = 4 := (kO_m1 _).mp heq
    have e0 : jb0 T z s = sRf T 2 s := by
      unfold jb0
      rw [if_neg (fun q => q h0), if_pos h4, sRf_w h0]
    have hn : ¬ (jb0 T z s).2 = 0 := by
      rw [e0]
      exact sRf_n (by decide)
    have eS := jo_f0 (x := x) hn
    rw [e0] at eS hn
    rw [eS] at k
    exact r_qe (r_b_f (decide_eq_false hn)) (k M2 (r_ow.fx (gx2.mono rfl)) hr2 (fun q => absurd q hn))
