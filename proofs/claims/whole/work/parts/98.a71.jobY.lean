-- READING: the reference, a job of a plan
theorem l_X12_rj_n {Q : Rq} {M : Mem} {T : Tx} {s : Ps} (tw : Tw T) (hr : Y_rd T s M) {x : St9} {z : Pl9} (wf : Wf x.1) (wm : Y_wm x M) (h0 : s.2 = 0) (hjb : Y_jb z M) (hko4 : (kO (tK T s.1)) = 4) (k : ∀ M', r_fx [(0, 12), (0, 13), (0, 14), (0, 15), (0, 16), (0, 17), (0, 18), (0, 21), (0, 50)] [5, 19] M M' → (∀ q, q < 3121 → M'.1 5 q = M.1 5 q) → Y_rd T (joS T x z s) M' → ((joS T x z s).2 = 0 → Y_jb (jbX T x z s) M') → Q none GY M') : Ru 7 mt_X12_readJob r_z 46 [(0, some (.ref 0)), (1, some (.int (-1 : Int32)))] [] GY M Q := by
  have hb := hr.2.2.2.2
  have hx := wf.1
  have hz24 := hjb.2.1
  have fx : r_fx [(0, 12), (0, 13), (0, 14), (0, 15), (0, 16), (0, 17), (0, 18), (0, 21), (0, 50)] [5, 19] M M := r_fx.rf
  refine Ru_iload_n (pc := 46) dX12_readJob_46 rfl rfl ?_
  refine Ru_if_geT (pc := 47) 54 dX12_readJob_47 (by decide) (fun h1 => ?_) (fun h1 => ?_)
  · exact absurd h1 (by decide)
  · refine Ru_aload_n (pc := 50) dX12_readJob_50 rfl rfl ?_
    refine Ru_cv0 (pc := 51) dX12_readJob_51 mv_X12_264 rfl (by decide) (Nat.le_of_ble_eq_true rfl) (c_X12_wrong (s := s) tw hr (fun M2 gx2 hr2 => ?_)) 
    have fx2 : r_fx [(0, 12), (0, 13), (0, 14), (0, 15), (0, 16), (0, 17), (0, 18), (0, 21), (0, 50)] [5, 19] M M2 := fx.tr (gx2.mono rfl)
    have fy2 : ∀ q, M2.1 5 q = M.1 5 q := fun q => (gx2 5 q rfl).1
    have fq2 : M2.1 0 50 = M.1 0 50 := (gx2 0 50 rfl).1
    have fh2 : ∀ q, M2.1 19 q = M.1 19 q := fun q => (gx2 19 q rfl).1
    have wm2 : Y_wm x M2 := Y_wm_k (fun q _ => fy2 q) (fun q => (gx2 6 q rfl).2.1) wm
    have hb2 := hr2.2.2.2.2
    have hn2 := (sWrong_n (T := T) h0).1
    refine Ru_aload_n (pc := 54) dX12_readJob_54 rfl rfl ?_
    refine Ru_getI (pc := 55) dX12_readJob_55 fl_X12_251 rfl rfl ?_
    refine Ru_top hr2.2.2.1 ?_
    refine Ru_if_neN (pc := 58) 83 dX12_readJob_58 (by decide) (by omega) (fun h2 => ?_) (fun h2 => ?_)
    · refine Ru_aload_n (pc := 83) dX12_readJob_83 rfl rfl ?_
      refine Ru_getI (pc := 84) dX12_readJob_84 fl_X12_251 rfl rfl ?_
      refine Ru_top hr2.2.2.1 ?_
      refine Ru_if_neN (pc := 87) 109 dX12_readJob_87 (by decide) (by omega) (fun h3 => ?_) (fun h3 => ?_)
      · refine Ru_aload_n (pc := 109) dX12_readJob_109 rfl rfl ?_
        refine Ru_getI (pc := 110) dX12_readJob_110 fl_X12_251 rfl rfl ?_
        refine Ru_top hr2.2.2.1 ?_
        refine Ru_if_leN (pc := 113) 117 dX12_readJob_113 (by decide) (by omega) (fun h4 => ?_) (fun h4 => ?_)
        · exfalso
          omega
        · refine Ru_vret (pc := 116) dX12_readJob_116 rfl ⟨Nat.le_refl _, Nat.le_refl _⟩ ?_
          have e0 : jb0 T z s = sWrong T s := by
            unfold jb0
            rw [if_neg (fun q => q h0), if_pos hko4]
          have hn : ¬ (jb0 T z s).2 = 0 := by
            rw [e0]
            exact hn2
          have eS := jo_f0 (x := x) hn
          rw [e0] at eS hn
          rw [eS] at k
          exact k M2 fx2 (fun q hq => fy2 q) hr2 (fun q => absurd q hn)
      · exfalso
        omega
    · exfalso
      omega

theorem l_X12_rj_p {Q : Rq} {M : Mem} {T : Tx} {s : Ps} (tw : Tw T) (hr : Y_rd T s M) {x : St9} {z : Pl9} (wf : Wf x.1) (wm : Y_wm x M) (h0 : s.2 = 0) (hjb : Y_jb z M) (hk4 : ¬ (kO (tK T s.1)) = 4) (k : ∀ M', r_fx [(0, 12), (0, 13), (0, 14), (0, 15), (0, 16), (0, 17), (0, 18), (0, 21), (0, 50)] [5, 19] M M' → (∀ q, q < 3121 → M'.1 5 q = M.1 5 q) → Y_rd T (joS T x z s) M' → ((joS T x z s).2 = 0 → Y_jb (jbX T x z s) M') → Q none GY M') : Ru 7 mt_X12_readJob r_z 46 [(0, some (.ref 0)), (1, some (.int (nI (kO (tK T s.1)))))] [] GY M Q := by
  have hb := hr.2.2.2.2
  have hx := wf.1
  have hz24 := hjb.2.1
  have fx : r_fx [(0, 12), (0, 13), (0, 14), (0, 15), (0, 16), (0, 17), (0, 18), (0, 21), (0, 50)] [5, 19] M M := r_fx.rf
  have hko := kO_le (tK T s.1)
  refine Ru_iload_n (pc := 46) dX12_readJob_46 rfl rfl ?_
  refine Ru_if_geN (n := (kO (tK T s.1))) (pc := 47) 54 dX12_readJob_47 (by decide) (by omega) ?_
  refine Ru_aload_n (pc := 54) dX12_readJob_54 rfl rfl ?_
  refine Ru_getI (pc := 55) dX12_readJob_55 fl_X12_251 rfl rfl ?_
  refine Ru_top hr.2.2.1 ?_
  refine Ru_if_neN (pc := 58) 83 dX12_readJob_58 (by decide) (by omega) (fun h2 => ?_) (fun h2 => ?_)
  · exfalso
    omega
  · refine Ru_iload_n (pc := 61) dX12_readJob_61 rfl rfl ?_
    refine Ru_if_leN (pc := 62) 83 dX12_readJob_62 (by decide) (by omega) (fun h3 => ?_) (fun h3 => ?_)
    · have hk0 : (kO (tK T s.1)) = 0 := by omega
      have htq : ¬ (kO (tK T s.1)) = 0 → pTold z (kO (tK T s.1)) z.1 = false := fun q => absurd hk0 q
      refine Ru_aload_n (pc := 83) dX12_readJob_83 rfl rfl ?_
      refine Ru_getI (pc := 84) dX12_readJob_84 fl_X12_251 rfl rfl ?_
      refine Ru_top hr.2.2.1 ?_
      refine Ru_if_neN (pc := 87) 109 dX12_readJob_87 (by decide) (by omega) (fun h4 => ?_) (fun h4 => ?_)
      · exfalso
        omega
      · refine Ru_aload_n (pc := 90) dX12_readJob_90 rfl rfl ?_
        refine Ru_getI (pc := 91) dX12_readJob_91 fl_X12_503 rfl rfl ?_
        refine Ru_top hjb.1 ?_
        refine Ru_bipush (pc := 94) (nI 24) dX12_readJob_94 rfl ?_
        refine Ru_icmp_neN (pc := 96) 109 dX12_readJob_96 (by decide) (by omega) (fun h5 => ?_) (fun h5 => ?_)
        · have hz24n := h5
          refine Ru_aload_n (pc := 109) dX12_readJob_109 rfl rfl ?_
          refine Ru_getI (pc := 110) dX12_readJob_110 fl_X12_251 rfl rfl ?_
          refine Ru_top hr.2.2.1 ?_
          refine Ru_if_leN (pc := 113) 117 dX12_readJob_113 (by decide) (by omega) (fun h6 => ?_) (fun h6 => ?_)
          · refine Ru_sipush (pc := 117) (nI 3121) dX12_readJob_117 rfl ?_
            refine Ru_iconst (pc := 120) (nI 5) dX12_readJob_120 rfl ?_
            refine Ru_aload_n (pc := 121) dX12_readJob_121 rfl rfl ?_
            refine Ru_getI (pc := 122) dX12_readJob_122 fl_X12_503 rfl rfl ?_
            refine Ru_top hjb.1 ?_
            refine Ru_imulN (pc := 125) dX12_readJob_125 ?_
            refine Ru_iaddN (pc := 126) dX12_readJob_126 ?_
            refine Ru_istore_n (pc := 127) dX12_readJob_127 rfl rfl (by decide) ?_
            refine Ru_aload_n (pc := 128) dX12_readJob_128 rfl rfl ?_
            refine Ru_dup (pc := 129) dX12_readJob_129 rfl ?_
            refine Ru_getI (pc := 130) dX12_readJob_130 fl_X12_503 rfl rfl ?_
            refine Ru_top hjb.1 ?_
            refine Ru_iconst (pc := 133) (nI 1) dX12_readJob_133 rfl ?_
            refine Ru_iaddN (pc := 134) dX12_readJob_134 ?_
            refine Ru_putI (pc := 135) rfl dX12_readJob_135 fl_X12_503 rfl ?_
            generalize en2 : r_sI M 0 50 (nI (z.1 + 1)) = M2
            have vl2 : M2.1 0 50 = (nI (z.1 + 1)) := by
              rw [← en2]
              exact r_sI_s
            have fn2 : r_fx [(0, 50)] [] M M2 := by
              rw [← en2]
              exact r_fx.sI rfl r_fx.rf
            have fy2 : ∀ q, M2.1 5 q = M.1 5 q := fun q => (fn2 5 q rfl).1
            have fh2 : ∀ q, M2.1 19 q = M.1 19 q := fun q => (fn2 19 q rfl).1
            have hr2 : Y_rd T s M2 := (Y_rd_dp T s).kp fn2 rfl hr
            have fx2 : r_fx [(0, 12), (0, 13), (0, 14), (0, 15), (0, 16), (0, 17), (0, 18), (0, 21), (0, 50)] [5, 19] M M2 := fx.tr (fn2.mono rfl)
            have wm2 : Y_wm x M2 := Y_wm_k (fun q hq => fy2 q) (fun q => (fn2 6 q rfl).2.1) wm
            have hb2 := hr2.2.2.2.2
            refine Ru_iload_n (pc := 138) dX12_readJob_138 rfl rfl ?_
            refine Ru_if_neN (pc := 139) 150 dX12_readJob_139 (by decide) (by omega) (fun h7 => ?_) (fun h7 => ?_)
            · exfalso
              omega
            · refine Ru_aload_n (pc := 142) dX12_readJob_142 rfl rfl ?_
              refine Ru_iload_n (pc := 143) dX12_readJob_143 rfl rfl ?_
              refine Ru_cv1 (pc := 144) dX12_readJob_144 mv_X12_506 rfl (by decide) (Nat.le_of_ble_eq_true rfl) (c_X12_readMake (s := s) (x := x) (c9 := (3121 + (5 * z.1))) tw hr2 wf wm2 h0 (by omega) (fun M3 gx3 fy3 hr3 vv3 => ?_)) 
              have fx3 : r_fx [(0, 12), (0, 13), (0, 14), (0, 15), (0, 16), (0, 17), (0, 18), (0, 21), (0, 50)] [5, 19] M M3 := fx2.tr (gx3.mono rfl)
              have fq3 : M3.1 0 50 = M2.1 0 50 := (gx3 0 50 rfl).1
              have fh3 : ∀ q, M3.1 19 q = M2.1 19 q := fun q => (gx3 19 q rfl).1
              have wm3 : Y_wm x M3 := Y_wm_k (fun q _ => fy3 q (by omega)) (fun q => (gx3 6 q rfl).2.1) wm2
              have hb3 := hr3.2.2.2.2
              refine Ru_goto (pc := 147) 197 dX12_readJob_147 (by decide) ?_
              refine Ru_aload_n (pc := 197) dX12_readJob_197 rfl rfl ?_
              refine Ru_aload_n (pc := 198) dX12_readJob_198 rfl rfl ?_
              refine Ru_bipush (pc := 199) (nI 59) dX12_readJob_199 rfl ?_
              refine Ru_cv1 (pc := 201) dX12_readJob_201 mv_X12_316 rfl (by decide) (Nat.le_of_ble_eq_true rfl) (c_X12_isSign (i := (nm4 T x (s.1 + 1, 0)).2.1) tw hr3.2.1 (x := 59) (by decide) ?_) 
              refine Ru_cv1 (pc := 204) dX12_readJob_204 mv_X12_290 rfl (by decide) (Nat.le_of_ble_eq_true rfl) (c_X12_must (s := (nm4 T x (s.1 + 1, 0)).2) (b := (decide (tK T (nm4 T x (s.1 + 1, 0)).2.1 = 59))) tw hr3 (fun M4 gx4 (hr4 : Y_rd T (sMust T (decide (tK T (nm4 T x (s.1 + 1, 0)).2.1 = 59)) (nm4 T x (s.1 + 1, 0)).2) M4) => ?_)) 
              have fx4 : r_fx [(0, 12), (0, 13), (0, 14), (0, 15), (0, 16), (0, 17), (0, 18), (0, 21), (0, 50)] [5, 19] M M4 := fx3.tr (gx4.mono rfl)
              have fy4 : ∀ q, M4.1 5 q = M3.1 5 q := fun q => (gx4 5 q rfl).1
              have fq4 : M4.1 0 50 = M3.1 0 50 := (gx4 0 50 rfl).1
              have fh4 : ∀ q, M4.1 19 q = M3.1 19 q := fun q => (gx4 19 q rfl).1
              have wm4 : Y_wm x M4 := Y_wm_k (fun q _ => fy4 q) (fun q => (gx4 6 q rfl).2.1) wm3
              have hb4 := hr4.2.2.2.2
              refine Ru_vret (pc := 207) dX12_readJob_207 rfl ⟨Nat.le_refl _, Nat.le_refl _⟩ ?_
              have e0 : jb0 T z s = s := jb0_ok h0 hk4 htq hz24n
              have e1 : sNext (jb0 T z s) = (s.1 + 1, 0) := by
                rw [e0]
                exact if_pos h0
              have jc := jbX_c T x z s
              have eb : jbS T x z s = (nm4 T x (s.1 + 1, 0)).2 := by
                unfold jbS
                rw [if_pos hk0, ma4_n, e1]
              have em4 : ma4 T x z s = (nm4 T x (s.1 + 1, 0)) := by
                rw [ma4_n, e1]
              rw [if_pos hk0, if_pos hk0, em4] at jc
              have eS : (joS T x z s) = prE T (nm4 T x (s.1 + 1, 0)).2 := by
                unfold joS
                rw [eb]
              rw [eS] at k
              refine k M4 fx4 (fun q hq => ((fy4 q).trans ((fy3 q (by omega)).trans (fy2 q)))) hr4 (fun q => ?_)
              have v := vv3 (sMust_0 q)
              have ok1 : nm1 T (s.1 + 1, 0) = (s.1 + 2, 0) := by
                have h1 : (nm1 T (s.1 + 1, 0)).2 = 0 := Classical.byContradiction (fun y => by
                  have q2 := q
                  rw [nm_f1 y] at q2
                  exact y q2)
                exact (sCount_ok h1).2.2.2
              rw [ok1] at v
              refine ⟨(fq4.trans (fq3.trans vl2)).trans (congrArg nI jc.1.symm), by rw [jc.1]; omega, Y_jc_n (M := M) (a := (kO (tK T s.1))) hjb.2.2.1 (fun q hq => ((fy4 q).trans ((fy3 q (by omega)).trans (fy2 q)))) ((fy4 (3121 + (5 * z.1))).trans (v.1.trans (congrArg nI hk0.symm))) (fun _ => ((fy4 ((3121 + (5 * z.1)) + 1)).trans v.2.1)) ((fy4 ((3121 + (5 * z.1)) + 2)).trans v.2.2.1) ((fy4 ((3121 + (5 * z.1)) + 3)).trans v.2.2.2) jc.1 jc.2.1 jc.2.2.1 jc.2.2.2.1 jc.2.2.2.2.1 jc.2.2.2.2.2, fun h l1 l3 => ?_⟩
              rw [jc.1, pTold_x]
              rw [decide_eq_false (show ¬ (kO (tK T s.1)) = h by omega), Bool.false_or]
              exact ((fh4 h).trans ((fh3 h).trans (fh2 h))).trans (hjb.2.2.2 h l1 l3)
          · exfalso
            omega
        · have hz24e := h5
          refine Ru_aload_n (pc := 99) dX12_readJob_99 rfl rfl ?_
          refine Ru_bipush (pc := 100) (nI 6) dX12_readJob_100 rfl ?_
          refine Ru_aload_n (pc := 102) dX12_readJob_102 rfl rfl ?_
          refine Ru_getI (pc := 103) dX12_readJob_103 fl_X12_132 rfl rfl ?_
          refine Ru_top hr.2.1.1 ?_
          refine Ru_cv2 (pc := 106) dX12_readJob_106 mv_X12_257 rfl (by decide) (Nat.le_of_ble_eq_true rfl) (c_X12_fail (f := 6) (s := s) tw hr (by decide) (fun M2 gx2 hr2 => ?_)) 
          have fx2 : r_fx [(0, 12), (0, 13), (0, 14), (0, 15), (0, 16), (0, 17), (0, 18), (0, 21), (0, 50)] [5, 19] M M2 := fx.tr (gx2.mono rfl)
          have fy2 : ∀ q, M2.1 5 q = M.1 5 q := fun q => (gx2 5 q rfl).1
          have fq2 : M2.1 0 50 = M.1 0 50 := (gx2 0 50 rfl).1
          have fh2 : ∀ q, M2.1 19 q = M.1 19 q := fun q => (gx2 19 q rfl).1
          have wm2 : Y_wm x M2 := Y_wm_k (fun q _ => fy2 q) (fun q => (gx2 6 q rfl).2.1) wm
          have hb2 := hr2.2.2.2.2
          have hn2 := sFail_n (f := 6) (by decide) h0
          refine Ru_aload_n (pc := 109) dX12_readJob_109 rfl rfl ?_
          refine Ru_getI (pc := 110) dX12_readJob_110 fl_X12_251 rfl rfl ?_
          refine Ru_top hr2.2.2.1 ?_
          refine Ru_if_leN (pc := 113) 117 dX12_readJob_113 (by decide) (by omega) (fun h8 => ?_) (fun h8 => ?_)
          · exfalso
            omega
          · refine Ru_vret (pc := 116) dX12_readJob_116 rfl ⟨Nat.le_refl _, Nat.le_refl _⟩ ?_
            have e0 : jb0 T z s = sFail 6 s := by
              unfold jb0
              rw [if_neg (fun q => q h0), if_neg hk4, if_neg (fun q => by rw [htq q.1] at q; exact absurd q.2 (by decide)), if_pos hz24e]
            have hn : ¬ (jb0 T z s).2 = 0 := by
              rw [e0]
              exact hn2
            have eS := jo_f0 (x := x) hn
            rw [e0] at eS hn
            rw [eS] at k
            exact k M2 fx2 (fun q hq => fy2 q) hr2 (fun q => absurd q hn)
    · have hk0 : ¬ (kO (tK T s.1)) = 0 := by omega
      refine Ru_aload_n (pc := 65) dX12_readJob_65 rfl rfl ?_
      refine Ru_getR (pc := 66) 19 dX12_readJob_66 fl_X12_78 rfl rfl rfl ?_
      refine Ru_iload_n (pc := 69) dX12_readJob_69 rfl rfl ?_
      refine Ru_zald (pc := 70) dX12_readJob_70 rfl (by omega) ?_
      refine Ru_top (hjb.2.2.2 (kO (tK T s.1)) (by omega) (by omega)) ?_
      refine Ru_if_eqB (pc := 71) 83 dX12_readJob_71 (by decide) (fun h9 => ?_) (fun h9 => ?_)
      · have htq : ¬ (kO (tK T s.1)) = 0 → pTold z (kO (tK T s.1)) z.1 = false := fun _ => h9
        refine Ru_aload_n (pc := 83) dX12_readJob_83 rfl rfl ?_
        refine Ru_getI (pc := 84) dX12_readJob_84 fl_X12_251 rfl rfl ?_
        refine Ru_top hr.2.2.1 ?_
        refine Ru_if_neN (pc := 87) 109 dX12_readJob_87 (by decide) (by omega) (fun h10 => ?_) (fun h10 => ?_)
        · exfalso
          omega
        · refine Ru_aload_n (pc := 90) dX12_readJob_90 rfl rfl ?_
          refine Ru_getI (pc := 91) dX12_readJob_91 fl_X12_503 rfl rfl ?_
          refine Ru_top hjb.1 ?_
          refine Ru_bipush (pc := 94) (nI 24) dX12_readJob_94 rfl ?_
          refine Ru_icmp_neN (pc := 96) 109 dX12_readJob_96 (by decide) (by omega) (fun h11 => ?_) (fun h11 => ?_)
          · have hz24n := h11
            refine Ru_aload_n (pc := 109) dX12_readJob_109 rfl rfl ?_
            refine Ru_getI (pc := 110) dX12_readJob_110 fl_X12_251 rfl rfl ?_
            refine Ru_top hr.2.2.1 ?_
            refine Ru_if_leN (pc := 113) 117 dX12_readJob_113 (by decide) (by omega) (fun h12 => ?_) (fun h12 => ?_)
            · refine Ru_sipush (pc := 117) (nI 3121) dX12_readJob_117 rfl ?_
              refine Ru_iconst (pc := 120) (nI 5) dX12_readJob_120 rfl ?_
              refine Ru_aload_n (pc := 121) dX12_readJob_121 rfl rfl ?_
              refine Ru_getI (pc := 122) dX12_readJob_122 fl_X12_503 rfl rfl ?_
              refine Ru_top hjb.1 ?_
              refine Ru_imulN (pc := 125) dX12_readJob_125 ?_
              refine Ru_iaddN (pc := 126) dX12_readJob_126 ?_
              refine Ru_istore_n (pc := 127) dX12_readJob_127 rfl rfl (by decide) ?_
              refine Ru_aload_n (pc := 128) dX12_readJob_128 rfl rfl ?_
              refine Ru_dup (pc := 129) dX12_readJob_129 rfl ?_
              refine Ru_getI (pc := 130) dX12_readJob_130 fl_X12_503 rfl rfl ?_
              refine Ru_top hjb.1 ?_
              refine Ru_iconst (pc := 133) (nI 1) dX12_readJob_133 rfl ?_
              refine Ru_iaddN (pc := 134) dX12_readJob_134 ?_
              refine Ru_putI (pc := 135) rfl dX12_readJob_135 fl_X12_503 rfl ?_
              generalize en2 : r_sI M 0 50 (nI (z.1 + 1)) = M2
              have vl2 : M2.1 0 50 = (nI (z.1 + 1)) := by
                rw [← en2]
                exact r_sI_s
              have fn2 : r_fx [(0, 50)] [] M M2 := by
                rw [← en2]
                exact r_fx.sI rfl r_fx.rf
              have fy2 : ∀ q, M2.1 5 q = M.1 5 q := fun q => (fn2 5 q rfl).1
              have fh2 : ∀ q, M2.1 19 q = M.1 19 q := fun q => (fn2 19 q rfl).1
              have hr2 : Y_rd T s M2 := (Y_rd_dp T s).kp fn2 rfl hr
              have fx2 : r_fx [(0, 12), (0, 13), (0, 14), (0, 15), (0, 16), (0, 17), (0, 18), (0, 21), (0, 50)] [5, 19] M M2 := fx.tr (fn2.mono rfl)
              have wm2 : Y_wm x M2 := Y_wm_k (fun q hq => fy2 q) (fun q => (fn2 6 q rfl).2.1) wm
              have hb2 := hr2.2.2.2.2
              refine Ru_iload_n (pc := 138) dX12_readJob_138 rfl rfl ?_
              refine Ru_if_neN (pc := 139) 150 dX12_readJob_139 (by decide) (by omega) (fun h13 => ?_) (fun h13 => ?_)
              · refine Ru_aload_n (pc := 150) dX12_readJob_150 rfl rfl ?_
                refine Ru_getR (pc := 151) 19 dX12_readJob_151 fl_X12_78 rfl rfl rfl ?_
                refine Ru_iload_n (pc := 154) dX12_readJob_154 rfl rfl ?_
                refine Ru_iconst (pc := 155) (nI 1) dX12_readJob_155 rfl ?_
                refine Ru_zast (pc := 156) rfl dX12_readJob_156 rfl (by omega) (Or.inr rfl) ?_
                generalize en3 : r_sI M2 19 (kO (tK T s.1)) (nI 1) = M3
                have fh3 : ∀ q, ¬ q = (kO (tK T s.1)) → M3.1 19 q = M2.1 19 q := fun q hq => by
                  rw [← en3]
                  exact r_sI_n (by omega)
                have vl3 : M3.1 19 (kO (tK T s.1)) = (nI 1) := by
                  rw [← en3]
                  exact r_sI_s
                have fn3 : r_fx [] [19] M2 M3 := by
                  rw [← en3]
                  exact r_fx.sI rfl r_fx.rf
                have fy3 : ∀ q, M3.1 5 q = M2.1 5 q := fun q => (fn3 5 q rfl).1
                have fq3 : M3.1 0 50 = M2.1 0 50 := (fn3 0 50 rfl).1
                have hr3 : Y_rd T s M3 := (Y_rd_dp T s).kp fn3 rfl hr2
                have fx3 : r_fx [(0, 12), (0, 13), (0, 14), (0, 15), (0, 16), (0, 17), (0, 18), (0, 21), (0, 50)] [5, 19] M M3 := fx2.tr (fn3.mono rfl)
                have wm3 : Y_wm x M3 := Y_wm_k (fun q hq => fy3 q) (fun q => (fn3 6 q rfl).2.1) wm2
                have hb3 := hr3.2.2.2.2
                refine Ru_aload_n (pc := 157) dX12_readJob_157 rfl rfl ?_
                refine Ru_cv0 (pc := 158) dX12_readJob_158 mv_X12_261 rfl (by decide) (Nat.le_of_ble_eq_true rfl) (c_X12_nextS (s := s) tw hr3 h0 (fun M4 gx4 (hr4 : Y_rd T (s.1 + 1, 0) M4) => ?_)) 
                have fx4 : r_fx [(0, 12), (0, 13), (0, 14), (0, 15), (0, 16), (0, 17), (0, 18), (0, 21), (0, 50)] [5, 19] M M4 := fx3.tr (gx4.mono rfl)
                have fy4 : ∀ q, M4.1 5 q = M3.1 5 q := fun q => (gx4 5 q rfl).1
                have fq4 : M4.1 0 50 = M3.1 0 50 := (gx4 0 50 rfl).1
                have fh4 : ∀ q, M4.1 19 q = M3.1 19 q := fun q => (gx4 19 q rfl).1
                have wm4 : Y_wm x M4 := Y_wm_k (fun q _ => fy4 q) (fun q => (gx4 6 q rfl).2.1) wm3
                have hb4 := hr4.2.2.2.2
                refine Ru_aload_n (pc := 161) dX12_readJob_161 rfl rfl ?_
                refine Ru_getR (pc := 162) 5 dX12_readJob_162 fl_X12_35 rfl rfl rfl ?_
                refine Ru_iload_n (pc := 165) dX12_readJob_165 rfl rfl ?_
                refine Ru_iload_n (pc := 166) dX12_readJob_166 rfl rfl ?_
                refine Ru_iast (pc := 167) rfl dX12_readJob_167 rfl (by omega) ?_
                generalize en5 : r_sI M4 5 (3121 + (5 * z.1)) (nI (kO (tK T s.1))) = M5
                have fy5 : ∀ q, ¬ q = (3121 + (5 * z.1)) → M5.1 5 q = M4.1 5 q := fun q hq => by
                  rw [← en5]
                  exact r_sI_n (by omega)
                have vl5 : M5.1 5 (3121 + (5 * z.1)) = (nI (kO (tK T s.1))) := by
                  rw [← en5]
                  exact r_sI_s
                have fn5 : r_fx [] [5] M4 M5 := by
                  rw [← en5]
                  exact r_fx.sI rfl r_fx.rf
                have fh5 : ∀ q, M5.1 19 q = M4.1 19 q := fun q => (fn5 19 q rfl).1
                have fq5 : M5.1 0 50 = M4.1 0 50 := (fn5 0 50 rfl).1
                have hr5 : Y_rd T (s.1 + 1, 0) M5 := (Y_rd_dp T (s.1 + 1, 0)).kp fn5 rfl hr4
                have fx5 : r_fx [(0, 12), (0, 13), (0, 14), (0, 15), (0, 16), (0, 17), (0, 18), (0, 21), (0, 50)] [5, 19] M M5 := fx4.tr (fn5.mono rfl)
                have wm5 : Y_wm x M5 := Y_wm_k (fun q hq => fy5 q (by omega)) (fun q => (fn5 6 q rfl).2.1) wm4
                have hb5 := hr5.2.2.2.2
                refine Ru_aload_n (pc := 168) dX12_readJob_168 rfl rfl ?_
                refine Ru_getR (pc := 169) 5 dX12_readJob_169 fl_X12_35 rfl rfl rfl ?_
                refine Ru_iload_n (pc := 172) dX12_readJob_172 rfl rfl ?_
                refine Ru_iconst (pc := 173) (nI 2) dX12_readJob_173 rfl ?_
                refine Ru_iaddN (pc := 174) dX12_readJob_174 ?_
                refine Ru_aload_n (pc := 175) dX12_readJob_175 rfl rfl ?_
                refine Ru_iconst (pc := 176) (nI 0) dX12_readJob_176 rfl ?_
                refine Ru_iconst (pc := 177) (nI 0) dX12_readJob_177 rfl ?_
                refine Ru_iconst (pc := 178) (nI 0) dX12_readJob_178 rfl ?_
                refine Ru_cv3 (pc := 179) dX12_readJob_179 mv_X12_287 rfl (by decide) (Nat.le_of_ble_eq_true rfl) (c_X12_readOld (s := (s.1 + 1, 0)) (W := x.2) (b := 0) (th := 0) (f := 0) (w0 := 0) (n := (x.1 0)) tw hr5 (by omega) (by decide) (by omega) wm5.1.2.2 (fun k hk => by rw [show 26 * 0 + 0 + k = k by omega]; have := wm5.2.1 k hk; rw [Nat.zero_add] at this; exact this) (fun M6 v6 gx6 hr6 hv6 => ?_)) 
                have fx6 : r_fx [(0, 12), (0, 13), (0, 14), (0, 15), (0, 16), (0, 17), (0, 18), (0, 21), (0, 50)] [5, 19] M M6 := fx5.tr (gx6.mono rfl)
                have fy6 : ∀ q, M6.1 5 q = M5.1 5 q := fun q => (gx6 5 q rfl).1
                have fq6 : M6.1 0 50 = M5.1 0 50 := (gx6 0 50 rfl).1
                have fh6 : ∀ q, M6.1 19 q = M5.1 19 q := fun q => (gx6 19 q rfl).1
                have wm6 : Y_wm x M6 := Y_wm_k (fun q _ => fy6 q) (fun q => (gx6 6 q rfl).2.1) wm5
                have hb6 := hr6.2.2.2.2
                refine Ru_iast (pc := 182) rfl dX12_readJob_182 rfl (by omega) ?_
                generalize en7 : r_sI M6 5 ((3121 + (5 * z.1)) + 2) v6 = M7
                have fy7 : ∀ q, ¬ q = ((3121 + (5 * z.1)) + 2) → M7.1 5 q = M6.1 5 q := fun q hq => by
                  rw [← en7]
                  exact r_sI_n (by omega)
                have vl7 : M7.1 5 ((3121 + (5 * z.1)) + 2) = v6 := by
                  rw [← en7]
                  exact r_sI_s
                have fn7 : r_fx [] [5] M6 M7 := by
                  rw [← en7]
                  exact r_fx.sI rfl r_fx.rf
                have fh7 : ∀ q, M7.1 19 q = M6.1 19 q := fun q => (fn7 19 q rfl).1
                have fq7 : M7.1 0 50 = M6.1 0 50 := (fn7 0 50 rfl).1
                have hr7 : Y_rd T (sOld T x.2 0 (x.1 0) (s.1 + 1, 0)) M7 := (Y_rd_dp T (sOld T x.2 0 (x.1 0) (s.1 + 1, 0))).kp fn7 rfl hr6
                have fx7 : r_fx [(0, 12), (0, 13), (0, 14), (0, 15), (0, 16), (0, 17), (0, 18), (0, 21), (0, 50)] [5, 19] M M7 := fx6.tr (fn7.mono rfl)
                have wm7 : Y_wm x M7 := Y_wm_k (fun q hq => fy7 q (by omega)) (fun q => (fn7 6 q rfl).2.1) wm6
                have hb7 := hr7.2.2.2.2
                refine Ru_aload_n (pc := 183) dX12_readJob_183 rfl rfl ?_
                refine Ru_getR (pc := 184) 5 dX12_readJob_184 fl_X12_35 rfl rfl rfl ?_
                refine Ru_iload_n (pc := 187) dX12_readJob_187 rfl rfl ?_
                refine Ru_iconst (pc := 188) (nI 3) dX12_readJob_188 rfl ?_
                refine Ru_iaddN (pc := 189) dX12_readJob_189 ?_
                refine Ru_iconst (pc := 190) (nI 0) dX12_readJob_190 rfl ?_
                refine Ru_iast (pc := 191) rfl dX12_readJob_191 rfl (by omega) ?_
                generalize en8 : r_sI M7 5 ((3121 + (5 * z.1)) + 3) (nI 0) = M8
                have fy8 : ∀ q, ¬ q = ((3121 + (5 * z.1)) + 3) → M8.1 5 q = M7.1 5 q := fun q hq => by
                  rw [← en8]
                  exact r_sI_n (by omega)
                have vl8 : M8.1 5 ((3121 + (5 * z.1)) + 3) = (nI 0) := by
                  rw [← en8]
                  exact r_sI_s
                have fn8 : r_fx [] [5] M7 M8 := by
                  rw [← en8]
                  exact r_fx.sI rfl r_fx.rf
                have fh8 : ∀ q, M8.1 19 q = M7.1 19 q := fun q => (fn8 19 q rfl).1
                have fq8 : M8.1 0 50 = M7.1 0 50 := (fn8 0 50 rfl).1
                have hr8 : Y_rd T (sOld T x.2 0 (x.1 0) (s.1 + 1, 0)) M8 := (Y_rd_dp T (sOld T x.2 0 (x.1 0) (s.1 + 1, 0))).kp fn8 rfl hr7
                have fx8 : r_fx [(0, 12), (0, 13), (0, 14), (0, 15), (0, 16), (0, 17), (0, 18), (0, 21), (0, 50)] [5, 19] M M8 := fx7.tr (fn8.mono rfl)
                have wm8 : Y_wm x M8 := Y_wm_k (fun q hq => fy8 q (by omega)) (fun q => (fn8 6 q rfl).2.1) wm7
                have hb8 := hr8.2.2.2.2
                refine Ru_aload_n (pc := 192) dX12_readJob_192 rfl rfl ?_
                refine Ru_iconst (pc := 193) (nI 1) dX12_readJob_193 rfl ?_
                refine Ru_cv1 (pc := 194) dX12_readJob_194 mv_X12_290 rfl (by decide) (Nat.le_of_ble_eq_true rfl) (c_X12_must (s := (sOld T x.2 0 (x.1 0) (s.1 + 1, 0))) (b := true) tw hr8 (fun M9 gx9 (hr9 : Y_rd T (sNext (sOld T x.2 0 (x.1 0) (s.1 + 1, 0))) M9) => ?_)) 
                have fx9 : r_fx [(0, 12), (0, 13), (0, 14), (0, 15), (0, 16), (0, 17), (0, 18), (0, 21), (0, 50)] [5, 19] M M9 := fx8.tr (gx9.mono rfl)
                have fy9 : ∀ q, M9.1 5 q = M8.1 5 q := fun q => (gx9 5 q rfl).1
                have fq9 : M9.1 0 50 = M8.1 0 50 := (gx9 0 50 rfl).1
                have fh9 : ∀ q, M9.1 19 q = M8.1 19 q := fun q => (gx9 19 q rfl).1
                have wm9 : Y_wm x M9 := Y_wm_k (fun q _ => fy9 q) (fun q => (gx9 6 q rfl).2.1) wm8
                have hb9 := hr9.2.2.2.2
                refine Ru_aload_n (pc := 197) dX12_readJob_197 rfl rfl ?_
                refine Ru_aload_n (pc := 198) dX12_readJob_198 rfl rfl ?_
                refine Ru_bipush (pc := 199) (nI 59) dX12_readJob_199 rfl ?_
                refine Ru_cv1 (pc := 201) dX12_readJob_201 mv_X12_316 rfl (by decide) (Nat.le_of_ble_eq_true rfl) (c_X12_isSign (i := (sNext (sOld T x.2 0 (x.1 0) (s.1 + 1, 0))).1) tw hr9.2.1 (x := 59) (by decide) ?_) 
                refine Ru_cv1 (pc := 204) dX12_readJob_204 mv_X12_290 rfl (by decide) (Nat.le_of_ble_eq_true rfl) (c_X12_must (s := (sNext (sOld T x.2 0 (x.1 0) (s.1 + 1, 0)))) (b := (decide (tK T (sNext (sOld T x.2 0 (x.1 0) (s.1 + 1, 0))).1 = 59))) tw hr9 (fun M10 gx10 (hr10 : Y_rd T (sMust T (decide (tK T (sNext (sOld T x.2 0 (x.1 0) (s.1 + 1, 0))).1 = 59)) (sNext (sOld T x.2 0 (x.1 0) (s.1 + 1, 0)))) M10) => ?_)) 
                have fx10 : r_fx [(0, 12), (0, 13), (0, 14), (0, 15), (0, 16), (0, 17), (0, 18), (0, 21), (0, 50)] [5, 19] M M10 := fx9.tr (gx10.mono rfl)
                have fy10 : ∀ q, M10.1 5 q = M9.1 5 q := fun q => (gx10 5 q rfl).1
                have fq10 : M10.1 0 50 = M9.1 0 50 := (gx10 0 50 rfl).1
                have fh10 : ∀ q, M10.1 19 q = M9.1 19 q := fun q => (gx10 19 q rfl).1
                have wm10 : Y_wm x M10 := Y_wm_k (fun q _ => fy10 q) (fun q => (gx10 6 q rfl).2.1) wm9
                have hb10 := hr10.2.2.2.2
                refine Ru_vret (pc := 207) dX12_readJob_207 rfl ⟨Nat.le_refl _, Nat.le_refl _⟩ ?_
                have e0 : jb0 T z s = s := jb0_ok h0 hk4 htq hz24n
                have e1 : sNext (jb0 T z s) = (s.1 + 1, 0) := by
                  rw [e0]
                  exact if_pos h0
                have jc := jbX_c T x z s
                have eb : jbS T x z s = ke1 T x z s := by
                  unfold jbS
                  exact if_neg hk0
                have ek : ke1 T x z s = (sNext (sOld T x.2 0 (x.1 0) (s.1 + 1, 0))) := by
                  unfold ke1
                  rw [e1]
                rw [if_neg hk0, if_neg hk0] at jc
                have eS : (joS T x z s) = prE T (sNext (sOld T x.2 0 (x.1 0) (s.1 + 1, 0))) := by
                  unfold joS
                  rw [eb, ek]
                rw [eS] at k
                refine k M10 fx10 (fun q hq => ((fy10 q).trans ((fy9 q).trans ((fy8 q (by omega)).trans ((fy7 q (by omega)).trans ((fy6 q).trans ((fy5 q (by omega)).trans ((fy4 q).trans ((fy3 q).trans (fy2 q)))))))))) hr10 (fun q => ?_)
                have hv := hv6 (sNext_0 (sMust_0 q))
                refine ⟨(fq10.trans (fq9.trans (fq8.trans (fq7.trans (fq6.trans (fq5.trans (fq4.trans (fq3.trans vl2)))))))).trans (congrArg nI jc.1.symm), by rw [jc.1]; omega, Y_jc_n (M := M) (a := (kO (tK T s.1))) hjb.2.2.1 (fun q hq => ((fy10 q).trans ((fy9 q).trans ((fy8 q (by omega)).trans ((fy7 q (by omega)).trans ((fy6 q).trans ((fy5 q (by omega)).trans ((fy4 q).trans ((fy3 q).trans (fy2 q)))))))))) ((fy10 (3121 + (5 * z.1))).trans ((fy9 (3121 + (5 * z.1))).trans ((fy8 (3121 + (5 * z.1)) (by omega)).trans ((fy7 (3121 + (5 * z.1)) (by omega)).trans ((fy6 (3121 + (5 * z.1))).trans vl5))))) (fun y => absurd y hk0) (((fy10 ((3121 + (5 * z.1)) + 2)).trans ((fy9 ((3121 + (5 * z.1)) + 2)).trans ((fy8 ((3121 + (5 * z.1)) + 2) (by omega)).trans vl7))).trans hv) ((fy10 ((3121 + (5 * z.1)) + 3)).trans ((fy9 ((3121 + (5 * z.1)) + 3)).trans vl8)) jc.1 jc.2.1 jc.2.2.1 jc.2.2.2.1 jc.2.2.2.2.1 jc.2.2.2.2.2, fun h l1 l3 => ?_⟩
                rw [jc.1, pTold_x]
                by_cases e : (kO (tK T s.1)) = h
                · rw [decide_eq_true e, Bool.true_or, ← e]
                  exact ((fh10 (kO (tK T s.1))).trans ((fh9 (kO (tK T s.1))).trans ((fh8 (kO (tK T s.1))).trans ((fh7 (kO (tK T s.1))).trans ((fh6 (kO (tK T s.1))).trans ((fh5 (kO (tK T s.1))).trans ((fh4 (kO (tK T s.1))).trans vl3)))))))
                · rw [decide_eq_false e, Bool.false_or]
                  exact ((fh10 h).trans ((fh9 h).trans ((fh8 h).trans ((fh7 h).trans ((fh6 h).trans ((fh5 h).trans ((fh4 h).trans ((fh3 h (by omega)).trans (fh2 h))))))))).trans (hjb.2.2.2 h l1 l3)
              · exfalso
                omega
            · exfalso
              omega
          · have hz24e := h11
            refine Ru_aload_n (pc := 99) dX12_readJob_99 rfl rfl ?_
            refine Ru_bipush (pc := 100) (nI 6) dX12_readJob_100 rfl ?_
            refine Ru_aload_n (pc := 102) dX12_readJob_102 rfl rfl ?_
            refine Ru_getI (pc := 103) dX12_readJob_103 fl_X12_132 rfl rfl ?_
            refine Ru_top hr.2.1.1 ?_
            refine Ru_cv2 (pc := 106) dX12_readJob_106 mv_X12_257 rfl (by decide) (Nat.le_of_ble_eq_true rfl) (c_X12_fail (f := 6) (s := s) tw hr (by decide) (fun M2 gx2 hr2 => ?_)) 
            have fx2 : r_fx [(0, 12), (0, 13), (0, 14), (0, 15), (0, 16), (0, 17), (0, 18), (0, 21), (0, 50)] [5, 19] M M2 := fx.tr (gx2.mono rfl)
            have fy2 : ∀ q, M2.1 5 q = M.1 5 q := fun q => (gx2 5 q rfl).1
            have fq2 : M2.1 0 50 = M.1 0 50 := (gx2 0 50 rfl).1
            have fh2 : ∀ q, M2.1 19 q = M.1 19 q := fun q => (gx2 19 q rfl).1
            have wm2 : Y_wm x M2 := Y_wm_k (fun q _ => fy2 q) (fun q => (gx2 6 q rfl).2.1) wm
            have hb2 := hr2.2.2.2.2
            have hn2 := sFail_n (f := 6) (by decide) h0
            refine Ru_aload_n (pc := 109) dX12_readJob_109 rfl rfl ?_
            refine Ru_getI (pc := 110) dX12_readJob_110 fl_X12_251 rfl rfl ?_
            refine Ru_top hr2.2.2.1 ?_
            refine Ru_if_leN (pc := 113) 117 dX12_readJob_113 (by decide) (by omega) (fun h14 => ?_) (fun h14 => ?_)
            · exfalso
              omega
            · refine Ru_vret (pc := 116) dX12_readJob_116 rfl ⟨Nat.le_refl _, Nat.le_refl _⟩ ?_
              have e0 : jb0 T z s = sFail 6 s := by
                unfold jb0
                rw [if_neg (fun q => q h0), if_neg hk4, if_neg (fun q => by rw [htq q.1] at q; exact absurd q.2 (by decide)), if_pos hz24e]
              have hn : ¬ (jb0 T z s).2 = 0 := by
                rw [e0]
                exact hn2
              have eS := jo_f0 (x := x) hn
              rw [e0] at eS hn
              rw [eS] at k
              exact k M2 fx2 (fun q hq => fy2 q) hr2 (fun q => absurd q hn)
      · have htl := h9
        refine Ru_aload_n (pc := 74) dX12_readJob_74 rfl rfl ?_
        refine Ru_iconst (pc := 75) (nI 5) dX12_readJob_75 rfl ?_
        refine Ru_aload_n (pc := 76) dX12_readJob_76 rfl rfl ?_
        refine Ru_getI (pc := 77) dX12_readJob_77 fl_X12_132 rfl rfl ?_
        refine Ru_top hr.2.1.1 ?_
        refine Ru_cv2 (pc := 80) dX12_readJob_80 mv_X12_257 rfl (by decide) (Nat.le_of_ble_eq_true rfl) (c_X12_fail (f := 5) (s := s) tw hr (by decide) (fun M2 gx2 hr2 => ?_)) 
        have fx2 : r_fx [(0, 12), (0, 13), (0, 14), (0, 15), (0, 16), (0, 17), (0, 18), (0, 21), (0, 50)] [5, 19] M M2 := fx.tr (gx2.mono rfl)
        have fy2 : ∀ q, M2.1 5 q = M.1 5 q := fun q => (gx2 5 q rfl).1
        have fq2 : M2.1 0 50 = M.1 0 50 := (gx2 0 50 rfl).1
        have fh2 : ∀ q, M2.1 19 q = M.1 19 q := fun q => (gx2 19 q rfl).1
        have wm2 : Y_wm x M2 := Y_wm_k (fun q _ => fy2 q) (fun q => (gx2 6 q rfl).2.1) wm
        have hb2 := hr2.2.2.2.2
        have hn2 := sFail_n (f := 5) (by decide) h0
        refine Ru_aload_n (pc := 83) dX12_readJob_83 rfl rfl ?_
        refine Ru_getI (pc := 84) dX12_readJob_84 fl_X12_251 rfl rfl ?_
        refine Ru_top hr2.2.2.1 ?_
        refine Ru_if_neN (pc := 87) 109 dX12_readJob_87 (by decide) (by omega) (fun h15 => ?_) (fun h15 => ?_)
        · refine Ru_aload_n (pc := 109) dX12_readJob_109 rfl rfl ?_
          refine Ru_getI (pc := 110) dX12_readJob_110 fl_X12_251 rfl rfl ?_
          refine Ru_top hr2.2.2.1 ?_
          refine Ru_if_leN (pc := 113) 117 dX12_readJob_113 (by decide) (by omega) (fun h16 => ?_) (fun h16 => ?_)
          · exfalso
            omega
          · refine Ru_vret (pc := 116) dX12_readJob_116 rfl ⟨Nat.le_refl _, Nat.le_refl _⟩ ?_
            have e0 : jb0 T z s = sFail 5 s := by
              unfold jb0
              rw [if_neg (fun q => q h0), if_neg hk4, if_pos ⟨hk0, htl⟩]
            have hn : ¬ (jb0 T z s).2 = 0 := by
              rw [e0]
              exact hn2
            have eS := jo_f0 (x := x) hn
            rw [e0] at eS hn
            rw [eS] at k
            exact k M2 fx2 (fun q hq => fy2 q) hr2 (fun q => absurd q hn)
        · exfalso
          omega

theorem c_X12_readJob {Q : Rq} {M : Mem} {T : Tx} {s : Ps} (tw : Tw T) (hr : Y_rd T s M) {x : St9} {z : Pl9} (wf : Wf x.1) (wm : Y_wm x M) (h0 : s.2 = 0) (hjb : Y_jb z M) (k : ∀ M', r_fx [(0, 12), (0, 13), (0, 14), (0, 15), (0, 16), (0, 17), (0, 18), (0, 21), (0, 50)] [5, 19] M M' → (∀ q, q < 3121 → M'.1 5 q = M.1 5 q) → Y_rd T (joS T x z s) M' → ((joS T x z s).2 = 0 → Y_jb (jbX T x z s) M') → Q none GY M') : Ca 7 mt_X12_readJob 0 0 [.ref 0] GY M Q := by
  refine Ca_of rfl (Nat.le_of_ble_eq_true rfl) ?_
  refine Ru_aload_n (pc := 0) dX12_readJob_0 rfl rfl ?_
  refine Ru_cv0 (pc := 1) dX12_readJob_1 mv_X12_209 rfl (by decide) (Nat.le_of_ble_eq_true rfl) (c_X12_isAt (i := s.1) tw hr.2.1 ?_) 
  refine Ru_if_eqB (pc := 4) 11 dX12_readJob_4 (by decide) (fun h1 => ?_) (fun h1 => ?_)
  · replace h1 := of_decide_eq_false h1
    have hno0 := h1
    refine Ru_aload_n (pc := 11) dX12_readJob_11 rfl rfl ?_
    refine Ru_cv0 (pc := 12) dX12_readJob_12 mv_X12_175 rfl (by decide) (Nat.le_of_ble_eq_true rfl) (c_X12_isWear (i := s.1) tw hr.2.1 ?_) 
    refine Ru_if_eqB (pc := 15) 22 dX12_readJob_15 (by decide) (fun h2 => ?_) (fun h2 => ?_)
    · replace h2 := of_decide_eq_false h2
      have hno1 := h2
      refine Ru_aload_n (pc := 22) dX12_readJob_22 rfl rfl ?_
      refine Ru_cv0 (pc := 23) dX12_readJob_23 mv_X12_182 rfl (by decide) (Nat.le_of_ble_eq_true rfl) (c_X12_isHold (i := s.1) tw hr.2.1 ?_) 
      refine Ru_if_eqB (pc := 26) 33 dX12_readJob_26 (by decide) (fun h3 => ?_) (fun h3 => ?_)
      · replace h3 := of_decide_eq_false h3
        have hno2 := h3
        refine Ru_aload_n (pc := 33) dX12_readJob_33 rfl rfl ?_
        refine Ru_cv0 (pc := 34) dX12_readJob_34 mv_X12_179 rfl (by decide) (Nat.le_of_ble_eq_true rfl) (c_X12_isSend (i := s.1) tw hr.2.1 ?_) 
        refine Ru_if_eqB (pc := 37) 44 dX12_readJob_37 (by decide) (fun h4 => ?_) (fun h4 => ?_)
        · replace h4 := of_decide_eq_false h4
          have hno3 := h4
          refine Ru_iconst (pc := 44) (-1) dX12_readJob_44 rfl ?_
          refine Ru_istore_n (pc := 45) dX12_readJob_45 rfl rfl (by decide) ?_
          have h4 : (kO (tK T s.1)) = 4 := kO_no hno0 hno1 hno2 hno3
          exact Ru_weak (l_X12_rj_n tw hr wf wm h0 hjb h4 k) rfl
        · replace h4 := of_decide_eq_true h4
          have hyes := h4
          refine Ru_iconst (pc := 40) (nI 3) dX12_readJob_40 rfl ?_
          refine Ru_goto (pc := 41) 45 dX12_readJob_41 (by decide) ?_
          refine Ru_istore_n (pc := 45) dX12_readJob_45 rfl rfl (by decide) ?_
          have e9 : (kO (tK T s.1)) = 3 := kO_send hyes
          refine Ru_weak (l_X12_rj_p tw hr wf wm h0 hjb (by omega) k) ?_
          rw [e9]
          rfl
      · replace h3 := of_decide_eq_true h3
        have hyes := h3
        refine Ru_iconst (pc := 29) (nI 2) dX12_readJob_29 rfl ?_
        refine Ru_goto (pc := 30) 45 dX12_readJob_30 (by decide) ?_
        refine Ru_istore_n (pc := 45) dX12_readJob_45 rfl rfl (by decide) ?_
        have e9 : (kO (tK T s.1)) = 2 := kO_hold hyes
        refine Ru_weak (l_X12_rj_p tw hr wf wm h0 hjb (by omega) k) ?_
        rw [e9]
        rfl
    · replace h2 := of_decide_eq_true h2
      have hyes := h2
      refine Ru_iconst (pc := 18) (nI 1) dX12_readJob_18 rfl ?_
      refine Ru_goto (pc := 19) 45 dX12_readJob_19 (by decide) ?_
      refine Ru_istore_n (pc := 45) dX12_readJob_45 rfl rfl (by decide) ?_
      have e9 : (kO (tK T s.1)) = 1 := kO_wear hyes
      refine Ru_weak (l_X12_rj_p tw hr wf wm h0 hjb (by omega) k) ?_
      rw [e9]
      rfl
  · replace h1 := of_decide_eq_true h1
    have hyes := h1
    refine Ru_iconst (pc := 7) (nI 0) dX12_readJob_7 rfl ?_
    refine Ru_goto (pc := 8) 45 dX12_readJob_8 (by decide) ?_
    refine Ru_istore_n (pc := 45) dX12_readJob_45 rfl rfl (by decide) ?_
    have e9 : (kO (tK T s.1)) = 0 := kO_at hyes
    refine Ru_weak (l_X12_rj_p tw hr wf wm h0 hjb (by omega) k) ?_
    rw [e9]
    rfl
