-- READING: the developers' law: CASE, ONE, EITHER
def lCa (T : Tx) (x : St9) (deep : Bool) (y : Lq) (s : Ps) : Lq × Ps := if ¬ (l1B T y s).2 = 0 then (y, l1B T y s) else if deep = true then (y, sFail 7 s) else (lcY T x y s, lcS T x s)
theorem lOn_ca {T : Tx} {x : St9} {y : Lq} {s : Ps} (h1 : ¬ tK T s.1 = 153) (h2 : ¬ tK T s.1 = 40) : ∀ m, lOn T x m y s = lCa T x (decide (m = 0)) y s
  | 0 => by
    show (y, sFail 7 (l1B T y s)) = _
    unfold lCa
    by_cases z : (l1B T y s).2 = 0
    · rw [if_neg (fun q => q z), if_pos (decide_eq_true rfl), (l1B_ok z).1]
    · rw [if_pos z, sFail_f z]
  | m + 1 => by
    show (if ¬ (l1B T y s).2 = 0 then (y, l1B T y s) else if tK T s.1 = 153 then lNt (lOn T x m) y s else if tK T s.1 = 40 then lPa T (lOn T x m) y s else (lcY T x y s, lcS T x s)) = _
    unfold lCa
    rw [if_neg h1, if_neg h2, decide_eq_false (Nat.succ_ne_zero m), if_neg (show ¬ false = true by decide)]
def lNs : Nat → Lq × Ps → Lq × Ps
  | 0, r => r
  | j + 1, r => lNs j (lSt 7 0 r.1 r.2, r.2)
theorem lNs_2 : ∀ (j : Nat) (r : Lq × Ps), (lNs j r).2 = r.2
  | 0, r => rfl
  | j + 1, r => lNs_2 j _
theorem lNs_1 : ∀ (j : Nat) (r : Lq × Ps), r.2.2 = 0 → (lNs j r).1.1 = r.1.1 + j
  | 0, r, _ => rfl
  | j + 1, r, h => by
    have e := lNs_1 j (lSt 7 0 r.1 r.2, r.2) h
    rw [lNs, e, lSt_q h]
    show r.1.1 + 1 + j = r.1.1 + (j + 1)
    omega
theorem lOn_nt {T : Tx} {x : St9} {y : Lq} {s : Ps} {m : Nat} (h0 : s.2 = 0) (hk : tK T s.1 = 153) : lOn T x (m + 1) y s = lNt (lOn T x m) y s := by
  have e1 : l1B T y s = s := by
    unfold l1B
    rw [if_neg (fun q => q h0), if_pos (Or.inl hk)]
  show (if ¬ (l1B T y s).2 = 0 then (y, l1B T y s) else if tK T s.1 = 153 then lNt (lOn T x m) y s else if tK T s.1 = 40 then lPa T (lOn T x m) y s else (lcY T x y s, lcS T x s)) = _
  rw [e1, if_neg (fun q => q h0), if_pos hk]
theorem lOn_pa {T : Tx} {x : St9} {y : Lq} {s : Ps} {m : Nat} (h0 : s.2 = 0) (hk : tK T s.1 = 40) : lOn T x (m + 1) y s = lPa T (lOn T x m) y s := by
  have e1 : l1B T y s = s := by
    unfold l1B
    rw [if_neg (fun q => q h0), if_pos (Or.inr hk)]
  show (if ¬ (l1B T y s).2 = 0 then (y, l1B T y s) else if tK T s.1 = 153 then lNt (lOn T x m) y s else if tK T s.1 = 40 then lPa T (lOn T x m) y s else (lcY T x y s, lcS T x s)) = _
  rw [e1, if_neg (fun q => q h0), if_neg (by omega), if_pos hk]
theorem lOn_dp {T : Tx} {x : St9} {y : Lq} {s : Ps} (h0 : s.2 = 0) (hk : tK T s.1 = 153 ∨ tK T s.1 = 40) : lOn T x 0 y s = (y, sFail 7 s) := by
  have e1 : l1B T y s = s := by
    unfold l1B
    rw [if_neg (fun q => q h0), if_pos hk]
  show (y, sFail 7 (l1B T y s)) = _
  rw [e1]
def aE (T : Tx) (g : Lg) (aa f : Nat) (q : Lq × Ps) : Lq × Ps := lLp T 152 8 g f (if aa = 0 then q.1 else lSt 8 0 q.1 q.2) q.2
def oE (T : Tx) (g : Lg) (oo f : Nat) (r : Lq × Ps) : Lq × Ps := lLp T 151 9 (lBo T g) f (if oo = 0 then r.1 else lSt 9 0 r.1 r.2) r.2
theorem aE_b {T : Tx} {g : Lg} {aa f : Nat} {q : Lq × Ps} (h : ¬ q.2.2 = 0) : (aE T g aa f q).2 = q.2 := by
  unfold aE
  rw [lLp_f h]
theorem oE_b {T : Tx} {g : Lg} {oo f : Nat} {q : Lq × Ps} (h : ¬ q.2.2 = 0) : (oE T g oo f q).2 = q.2 := by
  unfold oE
  rw [lLp_f h]
theorem aE_n {T : Tx} {g : Lg} {aa f : Nat} {q : Lq × Ps} {Y : Lq} (hY : (if aa = 0 then q.1 else lSt 8 0 q.1 q.2) = Y) (h : ¬ tK T q.2.1 = 152) : aE T g aa f q = (Y, q.2) := by
  unfold aE
  rw [lLp_n h, hY]
theorem oE_n {T : Tx} {g : Lg} {oo f : Nat} {Y1 Y : Lq} {s : Ps} (hY : (if oo = 0 then Y1 else lSt 9 0 Y1 s) = Y) (h : ¬ tK T s.1 = 151) : oE T g oo f (Y1, s) = (Y, s) := by
  unfold oE
  rw [lLp_n h, hY]
theorem aE_y {T : Tx} {g : Lg} {aa f : Nat} {q : Lq × Ps} {Y : Lq} (hY : (if aa = 0 then q.1 else lSt 8 0 q.1 q.2) = Y) (h0 : q.2.2 = 0) (h : tK T q.2.1 = 152) : aE T g aa (f + 1) q = aE T g 1 f (g Y (q.2.1 + 1, 0)) := by
  unfold aE
  rw [lLp_u, if_pos ⟨h0, h⟩, hY]
  rfl
theorem oE_y {T : Tx} {g : Lg} {oo f : Nat} {Y1 Y : Lq} {s : Ps} (hY : (if oo = 0 then Y1 else lSt 9 0 Y1 s) = Y) (h0 : s.2 = 0) (h : tK T s.1 = 151) : oE T g oo (f + 1) (Y1, s) = oE T g 1 f (aE T g 0 801 (g Y (s.1 + 1, 0))) := by
  unfold oE
  rw [lLp_u, if_pos ⟨h0, h⟩, hY]
  rfl
/-- what is told of a call of theirs that reads a law's piece -/
def XL (T : Tx) (x : St9) (cnt lw u : Nat) (mt : Mt) (h w : Nat) (g : Lg) : Prop := ∀ (Q : Rq) (M : Mem) (s : Ps) (y : Lq), s.2 = 0 → X_rd T cnt s M → X_bw u x M → X_lz lw y M → y.2.1 ≤ 20 → 2 * y.1 ≤ tp T s.1 → (∀ M', r_ow (lP lw) M M' → X_rd T cnt (g y s).2 M' → ((g y s).2.2 = 0 → X_lz lw (g y s).1 M') → Q (some (.int (r_b (decide ((g y s).2.2 = 0))))) GX M') → Ca h mt 0 0 [.ref lw, .ref 40, .ref (u + 1), .int (nI w)] GX M Q
theorem lz_5 {lw : Nat} {y : Lq} {M M' : Mem} {v : Int32} (hl : isLaw lw) (en : r_sI M lw 5 v = M') (hv : v = nI (y.2.1 + 1)) (hz : X_lz lw y M) : X_lz lw (y.1, y.2.1 + 1, y.2.2) M' ∧ r_ow (lP lw) M M' ∧ ∀ T cnt s, X_rd T cnt s M → X_rd T cnt s M' := by
  subst en hv
  unfold isLaw at hl
  refine ⟨⟨(r_sI_n (by omega)).trans hz.1, r_sI_s, fun i hi => (r_sI_n (by omega)).trans (hz.2.2 i hi)⟩, fun o k h1 h2 => ⟨r_sI_n (fun z => h2 (Or.inl ⟨z.1, Or.inr z.2⟩)), rfl, rfl⟩, fun T cnt s hr => X_rd_eq (fun k => ⟨r_sI_n (by omega), rfl, rfl⟩) (fun o k h1 h2 => ⟨r_sI_n (by omega), rfl, rfl⟩) hr⟩

theorem c_X2_buildCase {Q : Rq} {M : Mem} {T : Tx} {cnt u lw : Nat} {s : Ps} {x : St9} {y : Lq} (tw : Tw T) (hu : isTown u) (hl : isLaw lw) (wf : Wf x.1) (bw : X_bw u x M) (hr : X_rd T cnt s M) (h0 : s.2 = 0) (hz : X_lz lw y M) (hn : y.1 ≤ 150) (hc : y.2.1 ≤ 20) {deep : Bool} (hk40 : ¬ tK T s.1 = 40) (hk153 : ¬ tK T s.1 = 153) (k : ∀ M', r_ow (lP lw) M M' → X_rd T cnt (lCa T x deep y s).2 M' → ((lCa T x deep y s).2.2 = 0 → X_lz lw (lCa T x deep y s).1 M') → Q (some (.int (r_b (decide ((lCa T x deep y s).2.2 = 0))))) GX M') : Ca 3 mt_X2_buildCase 0 0 [.ref lw, .ref 40, .ref (u + 1), .int (r_b deep)] GX M Q := by
  refine Ca_of rfl (Nat.le_of_ble_eq_true rfl) ?_
  have npu := lP_u hu hl
  have cw : r_ow (lP lw) M M := fun _ _ _ _ => ⟨rfl, rfl, rfl⟩
  have hx12 : x.1 0 ≤ 12 := Nat.le_trans wf.1.1 (by decide)
  have hk155 := tK_155 T s.1
  refine Ru_aload_n (pc := 0) dX2_buildCase_0 rfl rfl ?_
  refine Ru_cv0 (pc := 1) dX2_buildCase_1 mv_X2_34 rfl (by decide) (Nat.le_of_ble_eq_true rfl) (c_X8_kind (s := s) tw hr h0 ?_) 
  refine Ru_istore (pc := 4) dX2_buildCase_4 rfl (by decide) ?_
  refine Ru_iload (pc := 6) dX2_buildCase_6 rfl ?_
  refine Ru_sipush (pc := 8) (nI 146) dX2_buildCase_8 rfl ?_
  refine Ru_icmp_eqN (pc := 11) 30 dX2_buildCase_11 (by decide) (by omega) (fun h1 => ?_) (fun h1 => ?_)
  · have hk9 : tK T s.1 = 146 := h1
    have hcs : isCs (tK T s.1) = true := decide_eq_true (by omega)
    refine Ru_iconst (pc := 30) (nI 1) dX2_buildCase_30 rfl ?_
    refine Ru_goto (pc := 31) 35 dX2_buildCase_31 (by decide) ?_
    refine Ru_istore (pc := 35) dX2_buildCase_35 rfl (by decide) ?_
    refine Ru_iload (pc := 37) dX2_buildCase_37 rfl ?_
    refine Ru_if_neN (pc := 39) 64 dX2_buildCase_39 (by decide) (by omega) (fun h2 => ?_) (fun h2 => ?_)
    · refine Ru_aload_n (pc := 64) dX2_buildCase_64 rfl rfl ?_
      refine Ru_getI (pc := 65) dX2_buildCase_65 fl_X2_28 (shLaw_0 hl) rfl ?_
      refine Ru_top hz.2.1 ?_
      refine Ru_bipush (pc := 68) (nI 20) dX2_buildCase_68 rfl ?_
      refine Ru_icmp_ltN (pc := 70) 80 dX2_buildCase_70 (by decide) (by omega) (fun h3 => ?_) (fun h3 => ?_)
      · refine Ru_iload_n (pc := 80) dX2_buildCase_80 rfl rfl ?_
        refine Ru_if_eqB (pc := 81) 91 dX2_buildCase_81 (by decide) (fun h4 => ?_) (fun h4 => ?_)
        · have hdp := h4
          refine Ru_aload_n (pc := 91) dX2_buildCase_91 rfl rfl ?_
          refine Ru_dup (pc := 92) dX2_buildCase_92 rfl ?_
          refine Ru_getI (pc := 93) dX2_buildCase_93 fl_X2_28 (shLaw_0 hl) rfl ?_
          refine Ru_top hz.2.1 ?_
          refine Ru_iconst (pc := 96) (nI 1) dX2_buildCase_96 rfl ?_
          refine Ru_iaddN (pc := 97) dX2_buildCase_97 ?_
          refine Ru_putI (pc := 98) rfl dX2_buildCase_98 fl_X2_28 (shLaw_0 hl) ?_
          generalize en2 : r_sI M lw 5 (nI (y.2.1 + 1)) = M2
          have q5 := lz_5 hl en2 rfl hz
          have hz2 := q5.1
          have cw2 := q5.2.1
          have hr2 := q5.2.2 T cnt s hr
          refine Ru_aload_n (pc := 101) dX2_buildCase_101 rfl rfl ?_
          refine Ru_cv0 (pc := 102) dX2_buildCase_102 mv_X2_59 rfl (by decide) (Nat.le_of_ble_eq_true rfl) (c_X8_next (s := s) tw hr2 h0 (show ¬ tK T s.1 = 0 by omega) (fun M3 gx3 (hr3 : X_rd T cnt (s.1 + 1, 0) M3) => ?_)) 
          have cw3 := cw2.fx1 (gx3.mono rfl)
          have hz3 := lz_fx hl (gx3.mono rfl) hz2
          refine Ru_iload (pc := 105) dX2_buildCase_105 rfl ?_
          refine Ru_if_eqN (pc := 107) 123 dX2_buildCase_107 (by decide) (by omega) (fun h5 => ?_) (fun h5 => ?_)
          · exfalso
            omega
          · have eS : lcS T x s = (s.1 + 1, 0) := (if_neg (by omega)).trans (if_neg (by omega))
            have eA : lcA T s = tK T s.1 - 146 := by
              unfold lcA
              rw [if_neg (by omega), if_neg (by omega)]
              rw [if_pos hk9, hk9]
            have eB : lcB T x s = 0 := (if_neg (by omega)).trans (if_neg (by omega))
            have hcdp : nCd (lcA T s) 0 = (tK T s.1 - 146) * 2 ^ 8 ||| 0 := by
              rw [eA]
              exact nCd_p (by omega)
            refine Ru_aload_n (pc := 110) dX2_buildCase_110 rfl rfl ?_
            refine Ru_iload (pc := 111) dX2_buildCase_111 rfl ?_
            refine Ru_sipush (pc := 113) (nI 146) dX2_buildCase_113 rfl ?_
            refine Ru_isubN (pc := 116) dX2_buildCase_116 (by omega) ?_
            refine Ru_iconst (pc := 117) (nI 0) dX2_buildCase_117 rfl ?_
            refine Ru_cv2 (pc := 118) dX2_buildCase_118 mv_X2_55 (shLaw_0 hl) (by decide) (Nat.le_of_ble_eq_true rfl) (c_X2_add (op := (lcA T s)) (arg := 0) (y := (y.1, y.2.1 + 1, y.2.2)) hl hz3 (Nat.le_trans hn (by decide)) (by first | decide | omega) hcdp (fun M4 gx4 hz4 => ?_)) 
            have cw4 := cw3.tr (os_ow gx4)
            have hr4 := os_rd hl gx4 hr3
            refine Ru_iconst (pc := 121) (nI 1) dX2_buildCase_121 rfl ?_
            refine Ru_zret (pc := 122) dX2_buildCase_122 rfl ⟨Nat.le_refl _, Nat.le_refl _⟩ (Or.inr rfl) ?_
            have e1 : l1B T y s = s := by
              unfold l1B
              rw [if_neg (fun q => q h0), if_neg (by omega), if_pos hcs, if_neg (by omega)]
            have eR : (lCa T x deep y s) = (lcY T x y s, lcS T x s) := by
              unfold lCa
              rw [e1, if_neg (fun q => q h0), if_neg (by rw [hdp]; decide)]
            rw [eR] at k
            have kk := k M4 cw4 (by dsimp only; rw [eS]; exact hr4) (fun q => by
              have q2 : (lcS T x s).2 = 0 := q
              show X_lz lw (lcY T x y s) M4
              unfold lcY
              rw [lSt_q q2, eB]
              exact hz4)
            dsimp only at kk
            rw [eS] at kk
            exact kk
        · have hdp := h4
          refine Ru_aload_n (pc := 84) dX2_buildCase_84 rfl rfl ?_
          refine Ru_bipush (pc := 85) (nI 7) dX2_buildCase_85 rfl ?_
          refine Ru_cv1 (pc := 87) dX2_buildCase_87 mv_X2_62 rfl (by decide) (Nat.le_of_ble_eq_true rfl) (c_X8_refuse (s := s) (f := 7) tw hr h0 (by decide) (fun M2 gx2 (hr2 : X_rd T cnt (sRf T 7 s) M2) => ?_)) 
          have cw2 := cw.fx1 (gx2.mono rfl)
          have hz2 := lz_fx hl (gx2.mono rfl) hz
          refine Ru_zret (pc := 90) dX2_buildCase_90 rfl ⟨Nat.le_refl _, Nat.le_refl _⟩ (Or.inl rfl) ?_
          have e1 : l1B T y s = s := by
            unfold l1B
            rw [if_neg (fun q => q h0), if_neg (by omega), if_pos hcs, if_neg (by omega)]
          have eR : (lCa T x deep y s) = (y, sRf T 7 s) := by
            unfold lCa
            rw [e1, if_neg (fun q => q h0), if_pos hdp, sRf_f h0 (by omega)]
          rw [eR] at k
          exact r_qe (r_b_f (decide_eq_false (sRf_n (by decide)))) (k M2 cw2 hr2 (fun q => absurd q (sRf_n (by decide))))
      · refine Ru_aload_n (pc := 73) dX2_buildCase_73 rfl rfl ?_
        refine Ru_bipush (pc := 74) (nI 6) dX2_buildCase_74 rfl ?_
        refine Ru_cv1 (pc := 76) dX2_buildCase_76 mv_X2_62 rfl (by decide) (Nat.le_of_ble_eq_true rfl) (c_X8_refuse (s := s) (f := 6) tw hr h0 (by decide) (fun M2 gx2 (hr2 : X_rd T cnt (sRf T 6 s) M2) => ?_)) 
        have cw2 := cw.fx1 (gx2.mono rfl)
        have hz2 := lz_fx hl (gx2.mono rfl) hz
        refine Ru_zret (pc := 79) dX2_buildCase_79 rfl ⟨Nat.le_refl _, Nat.le_refl _⟩ (Or.inl rfl) ?_
        have e1 : l1B T y s = sFail 6 s := by
          unfold l1B
          rw [if_neg (fun q => q h0), if_neg (by omega), if_pos hcs, if_pos (by omega)]
        have eR : (lCa T x deep y s) = (y, sRf T 6 s) := by
          unfold lCa
          rw [e1, if_pos (sFail_n (by decide) h0), sRf_f h0 (by omega)]
        rw [eR] at k
        exact r_qe (r_b_f (decide_eq_false (sRf_n (by decide)))) (k M2 cw2 hr2 (fun q => absurd q (sRf_n (by decide))))
    · exfalso
      omega
  · refine Ru_iload (pc := 14) dX2_buildCase_14 rfl ?_
    refine Ru_sipush (pc := 16) (nI 147) dX2_buildCase_16 rfl ?_
    refine Ru_icmp_eqN (pc := 19) 30 dX2_buildCase_19 (by decide) (by omega) (fun h6 => ?_) (fun h6 => ?_)
    · have hk9 : tK T s.1 = 147 := h6
      have hcs : isCs (tK T s.1) = true := decide_eq_true (by omega)
      refine Ru_iconst (pc := 30) (nI 1) dX2_buildCase_30 rfl ?_
      refine Ru_goto (pc := 31) 35 dX2_buildCase_31 (by decide) ?_
      refine Ru_istore (pc := 35) dX2_buildCase_35 rfl (by decide) ?_
      refine Ru_iload (pc := 37) dX2_buildCase_37 rfl ?_
      refine Ru_if_neN (pc := 39) 64 dX2_buildCase_39 (by decide) (by omega) (fun h7 => ?_) (fun h7 => ?_)
      · refine Ru_aload_n (pc := 64) dX2_buildCase_64 rfl rfl ?_
        refine Ru_getI (pc := 65) dX2_buildCase_65 fl_X2_28 (shLaw_0 hl) rfl ?_
        refine Ru_top hz.2.1 ?_
        refine Ru_bipush (pc := 68) (nI 20) dX2_buildCase_68 rfl ?_
        refine Ru_icmp_ltN (pc := 70) 80 dX2_buildCase_70 (by decide) (by omega) (fun h8 => ?_) (fun h8 => ?_)
        · refine Ru_iload_n (pc := 80) dX2_buildCase_80 rfl rfl ?_
          refine Ru_if_eqB (pc := 81) 91 dX2_buildCase_81 (by decide) (fun h9 => ?_) (fun h9 => ?_)
          · have hdp := h9
            refine Ru_aload_n (pc := 91) dX2_buildCase_91 rfl rfl ?_
            refine Ru_dup (pc := 92) dX2_buildCase_92 rfl ?_
            refine Ru_getI (pc := 93) dX2_buildCase_93 fl_X2_28 (shLaw_0 hl) rfl ?_
            refine Ru_top hz.2.1 ?_
            refine Ru_iconst (pc := 96) (nI 1) dX2_buildCase_96 rfl ?_
            refine Ru_iaddN (pc := 97) dX2_buildCase_97 ?_
            refine Ru_putI (pc := 98) rfl dX2_buildCase_98 fl_X2_28 (shLaw_0 hl) ?_
            generalize en2 : r_sI M lw 5 (nI (y.2.1 + 1)) = M2
            have q5 := lz_5 hl en2 rfl hz
            have hz2 := q5.1
            have cw2 := q5.2.1
            have hr2 := q5.2.2 T cnt s hr
            refine Ru_aload_n (pc := 101) dX2_buildCase_101 rfl rfl ?_
            refine Ru_cv0 (pc := 102) dX2_buildCase_102 mv_X2_59 rfl (by decide) (Nat.le_of_ble_eq_true rfl) (c_X8_next (s := s) tw hr2 h0 (show ¬ tK T s.1 = 0 by omega) (fun M3 gx3 (hr3 : X_rd T cnt (s.1 + 1, 0) M3) => ?_)) 
            have cw3 := cw2.fx1 (gx3.mono rfl)
            have hz3 := lz_fx hl (gx3.mono rfl) hz2
            refine Ru_iload (pc := 105) dX2_buildCase_105 rfl ?_
            refine Ru_if_eqN (pc := 107) 123 dX2_buildCase_107 (by decide) (by omega) (fun h10 => ?_) (fun h10 => ?_)
            · exfalso
              omega
            · have eS : lcS T x s = (s.1 + 1, 0) := (if_neg (by omega)).trans (if_neg (by omega))
              have eA : lcA T s = tK T s.1 - 146 := by
                unfold lcA
                rw [if_neg (by omega), if_neg (by omega)]
                rw [if_neg (by omega), if_pos hk9, hk9]
              have eB : lcB T x s = 0 := (if_neg (by omega)).trans (if_neg (by omega))
              have hcdp : nCd (lcA T s) 0 = (tK T s.1 - 146) * 2 ^ 8 ||| 0 := by
                rw [eA]
                exact nCd_p (by omega)
              refine Ru_aload_n (pc := 110) dX2_buildCase_110 rfl rfl ?_
              refine Ru_iload (pc := 111) dX2_buildCase_111 rfl ?_
              refine Ru_sipush (pc := 113) (nI 146) dX2_buildCase_113 rfl ?_
              refine Ru_isubN (pc := 116) dX2_buildCase_116 (by omega) ?_
              refine Ru_iconst (pc := 117) (nI 0) dX2_buildCase_117 rfl ?_
              refine Ru_cv2 (pc := 118) dX2_buildCase_118 mv_X2_55 (shLaw_0 hl) (by decide) (Nat.le_of_ble_eq_true rfl) (c_X2_add (op := (lcA T s)) (arg := 0) (y := (y.1, y.2.1 + 1, y.2.2)) hl hz3 (Nat.le_trans hn (by decide)) (by first | decide | omega) hcdp (fun M4 gx4 hz4 => ?_)) 
              have cw4 := cw3.tr (os_ow gx4)
              have hr4 := os_rd hl gx4 hr3
              refine Ru_iconst (pc := 121) (nI 1) dX2_buildCase_121 rfl ?_
              refine Ru_zret (pc := 122) dX2_buildCase_122 rfl ⟨Nat.le_refl _, Nat.le_refl _⟩ (Or.inr rfl) ?_
              have e1 : l1B T y s = s := by
                unfold l1B
                rw [if_neg (fun q => q h0), if_neg (by omega), if_pos hcs, if_neg (by omega)]
              have eR : (lCa T x deep y s) = (lcY T x y s, lcS T x s) := by
                unfold lCa
                rw [e1, if_neg (fun q => q h0), if_neg (by rw [hdp]; decide)]
              rw [eR] at k
              have kk := k M4 cw4 (by dsimp only; rw [eS]; exact hr4) (fun q => by
                have q2 : (lcS T x s).2 = 0 := q
                show X_lz lw (lcY T x y s) M4
                unfold lcY
                rw [lSt_q q2, eB]
                exact hz4)
              dsimp only at kk
              rw [eS] at kk
              exact kk
          · have hdp := h9
            refine Ru_aload_n (pc := 84) dX2_buildCase_84 rfl rfl ?_
            refine Ru_bipush (pc := 85) (nI 7) dX2_buildCase_85 rfl ?_
            refine Ru_cv1 (pc := 87) dX2_buildCase_87 mv_X2_62 rfl (by decide) (Nat.le_of_ble_eq_true rfl) (c_X8_refuse (s := s) (f := 7) tw hr h0 (by decide) (fun M2 gx2 (hr2 : X_rd T cnt (sRf T 7 s) M2) => ?_)) 
            have cw2 := cw.fx1 (gx2.mono rfl)
            have hz2 := lz_fx hl (gx2.mono rfl) hz
            refine Ru_zret (pc := 90) dX2_buildCase_90 rfl ⟨Nat.le_refl _, Nat.le_refl _⟩ (Or.inl rfl) ?_
            have e1 : l1B T y s = s := by
              unfold l1B
              rw [if_neg (fun q => q h0), if_neg (by omega), if_pos hcs, if_neg (by omega)]
            have eR : (lCa T x deep y s) = (y, sRf T 7 s) := by
              unfold lCa
              rw [e1, if_neg (fun q => q h0), if_pos hdp, sRf_f h0 (by omega)]
            rw [eR] at k
            exact r_qe (r_b_f (decide_eq_false (sRf_n (by decide)))) (k M2 cw2 hr2 (fun q => absurd q (sRf_n (by decide))))
        · refine Ru_aload_n (pc := 73) dX2_buildCase_73 rfl rfl ?_
          refine Ru_bipush (pc := 74) (nI 6) dX2_buildCase_74 rfl ?_
          refine Ru_cv1 (pc := 76) dX2_buildCase_76 mv_X2_62 rfl (by decide) (Nat.le_of_ble_eq_true rfl) (c_X8_refuse (s := s) (f := 6) tw hr h0 (by decide) (fun M2 gx2 (hr2 : X_rd T cnt (sRf T 6 s) M2) => ?_)) 
          have cw2 := cw.fx1 (gx2.mono rfl)
          have hz2 := lz_fx hl (gx2.mono rfl) hz
          refine Ru_zret (pc := 79) dX2_buildCase_79 rfl ⟨Nat.le_refl _, Nat.le_refl _⟩ (Or.inl rfl) ?_
          have e1 : l1B T y s = sFail 6 s := by
            unfold l1B
            rw [if_neg (fun q => q h0), if_neg (by omega), if_pos hcs, if_pos (by omega)]
          have eR : (lCa T x deep y s) = (y, sRf T 6 s) := by
            unfold lCa
            rw [e1, if_pos (sFail_n (by decide) h0), sRf_f h0 (by omega)]
          rw [eR] at k
          exact r_qe (r_b_f (decide_eq_false (sRf_n (by decide)))) (k M2 cw2 hr2 (fun q => absurd q (sRf_n (by decide))))
      · exfalso
        omega
    · refine Ru_iload (pc := 22) dX2_buildCase_22 rfl ?_
      refine Ru_sipush (pc := 24) (nI 148) dX2_buildCase_24 rfl ?_
      refine Ru_icmp_neN (pc := 27) 34 dX2_buildCase_27 (by decide) (by omega) (fun h11 => ?_) (fun h11 => ?_)
      · refine Ru_iconst (pc := 34) (nI 0) dX2_buildCase_34 rfl ?_
        refine Ru_istore (pc := 35) dX2_buildCase_35 rfl (by decide) ?_
        refine Ru_iload (pc := 37) dX2_buildCase_37 rfl ?_
        refine Ru_if_neN (pc := 39) 64 dX2_buildCase_39 (by decide) (by omega) (fun h12 => ?_) (fun h12 => ?_)
        · exfalso
          omega
        · refine Ru_iload (pc := 42) dX2_buildCase_42 rfl ?_
          refine Ru_sipush (pc := 44) (nI 149) dX2_buildCase_44 rfl ?_
          refine Ru_icmp_eqN (pc := 47) 64 dX2_buildCase_47 (by decide) (by omega) (fun h13 => ?_) (fun h13 => ?_)
          · have hk9 : tK T s.1 = 149 := h13
            have hcs : isCs (tK T s.1) = true := decide_eq_true (by omega)
            refine Ru_aload_n (pc := 64) dX2_buildCase_64 rfl rfl ?_
            refine Ru_getI (pc := 65) dX2_buildCase_65 fl_X2_28 (shLaw_0 hl) rfl ?_
            refine Ru_top hz.2.1 ?_
            refine Ru_bipush (pc := 68) (nI 20) dX2_buildCase_68 rfl ?_
            refine Ru_icmp_ltN (pc := 70) 80 dX2_buildCase_70 (by decide) (by omega) (fun h14 => ?_) (fun h14 => ?_)
            · refine Ru_iload_n (pc := 80) dX2_buildCase_80 rfl rfl ?_
              refine Ru_if_eqB (pc := 81) 91 dX2_buildCase_81 (by decide) (fun h15 => ?_) (fun h15 => ?_)
              · have hdp := h15
                refine Ru_aload_n (pc := 91) dX2_buildCase_91 rfl rfl ?_
                refine Ru_dup (pc := 92) dX2_buildCase_92 rfl ?_
                refine Ru_getI (pc := 93) dX2_buildCase_93 fl_X2_28 (shLaw_0 hl) rfl ?_
                refine Ru_top hz.2.1 ?_
                refine Ru_iconst (pc := 96) (nI 1) dX2_buildCase_96 rfl ?_
                refine Ru_iaddN (pc := 97) dX2_buildCase_97 ?_
                refine Ru_putI (pc := 98) rfl dX2_buildCase_98 fl_X2_28 (shLaw_0 hl) ?_
                generalize en2 : r_sI M lw 5 (nI (y.2.1 + 1)) = M2
                have q5 := lz_5 hl en2 rfl hz
                have hz2 := q5.1
                have cw2 := q5.2.1
                have hr2 := q5.2.2 T cnt s hr
                refine Ru_aload_n (pc := 101) dX2_buildCase_101 rfl rfl ?_
                refine Ru_cv0 (pc := 102) dX2_buildCase_102 mv_X2_59 rfl (by decide) (Nat.le_of_ble_eq_true rfl) (c_X8_next (s := s) tw hr2 h0 (show ¬ tK T s.1 = 0 by omega) (fun M3 gx3 (hr3 : X_rd T cnt (s.1 + 1, 0) M3) => ?_)) 
                have cw3 := cw2.fx1 (gx3.mono rfl)
                have hz3 := lz_fx hl (gx3.mono rfl) hz2
                refine Ru_iload (pc := 105) dX2_buildCase_105 rfl ?_
                refine Ru_if_eqN (pc := 107) 123 dX2_buildCase_107 (by decide) (by omega) (fun h16 => ?_) (fun h16 => ?_)
                · refine Ru_iload (pc := 123) dX2_buildCase_123 rfl ?_
                  refine Ru_sipush (pc := 125) (nI 149) dX2_buildCase_125 rfl ?_
                  refine Ru_icmp_neN (pc := 128) 140 dX2_buildCase_128 (by decide) (by omega) (fun h17 => ?_) (fun h17 => ?_)
                  · exfalso
                    omega
                  · refine Ru_aload_n (pc := 131) dX2_buildCase_131 rfl rfl ?_
                    refine Ru_aload_n (pc := 132) dX2_buildCase_132 rfl rfl ?_
                    refine Ru_aload_n (pc := 133) dX2_buildCase_133 rfl rfl ?_
                    refine Ru_cv2 (pc := 134) dX2_buildCase_134 mv_X2_69 (shLaw_0 hl) (by decide) (Nat.le_of_ble_eq_true rfl) (c_X2_buildHere (s := (s.1 + 1, 0)) (x := x) (y := (y.1, y.2.1 + 1, y.2.2)) tw hu hl wf (X_bw_ow hu cw3 npu bw) hr3 rfl hz3 hn (fun M4 ow4 hr4 hzk => ?_)) 
                    have cw4 := cw3.tr ow4
                    refine Ru_goto (pc := 137) 145 dX2_buildCase_137 (by decide) ?_
                    refine Ru_zret (pc := 145) dX2_buildCase_145 rfl ⟨Nat.le_refl _, Nat.le_refl _⟩ (r_b_01 _) ?_
                    have e1 : l1B T y s = s := by
                      unfold l1B
                      rw [if_neg (fun q => q h0), if_neg (by omega), if_pos hcs, if_neg (by omega)]
                    have eR : (lCa T x deep y s) = (lcY T x y s, lcS T x s) := by
                      unfold lCa
                      rw [e1, if_neg (fun q => q h0), if_neg (by rw [hdp]; decide)]
                    rw [eR] at k
                    have eS : lcS T x s = (sNext (sOld T x.2 0 (x.1 0) (s.1 + 1, 0))) := if_pos hk9
                    have eA : lcA T s = 3 := if_pos hk9
                    have eB : lcB T x s = fN x.2 (tL T (s.1 + 1)) 0 (x.1 0) - 1 := if_pos hk9
                    have kk := k M4 cw4 (by dsimp only; rw [eS]; exact hr4) (fun q => by
                      have q2 : (lcS T x s).2 = 0 := q
                      show X_lz lw (lcY T x y s) M4
                      unfold lcY
                      rw [lSt_q q2, eA, eB]
                      exact hzk (by rw [← eS]; exact q2))
                    dsimp only at kk
                    rw [eS] at kk
                    exact kk
                · exfalso
                  omega
              · have hdp := h15
                refine Ru_aload_n (pc := 84) dX2_buildCase_84 rfl rfl ?_
                refine Ru_bipush (pc := 85) (nI 7) dX2_buildCase_85 rfl ?_
                refine Ru_cv1 (pc := 87) dX2_buildCase_87 mv_X2_62 rfl (by decide) (Nat.le_of_ble_eq_true rfl) (c_X8_refuse (s := s) (f := 7) tw hr h0 (by decide) (fun M2 gx2 (hr2 : X_rd T cnt (sRf T 7 s) M2) => ?_)) 
                have cw2 := cw.fx1 (gx2.mono rfl)
                have hz2 := lz_fx hl (gx2.mono rfl) hz
                refine Ru_zret (pc := 90) dX2_buildCase_90 rfl ⟨Nat.le_refl _, Nat.le_refl _⟩ (Or.inl rfl) ?_
                have e1 : l1B T y s = s := by
                  unfold l1B
                  rw [if_neg (fun q => q h0), if_neg (by omega), if_pos hcs, if_neg (by omega)]
                have eR : (lCa T x deep y s) = (y, sRf T 7 s) := by
                  unfold lCa
                  rw [e1, if_neg (fun q => q h0), if_pos hdp, sRf_f h0 (by omega)]
                rw [eR] at k
                exact r_qe (r_b_f (decide_eq_false (sRf_n (by decide)))) (k M2 cw2 hr2 (fun q => absurd q (sRf_n (by decide))))
            · refine Ru_aload_n (pc := 73) dX2_buildCase_73 rfl rfl ?_
              refine Ru_bipush (pc := 74) (nI 6) dX2_buildCase_74 rfl ?_
              refine Ru_cv1 (pc := 76) dX2_buildCase_76 mv_X2_62 rfl (by decide) (Nat.le_of_ble_eq_true rfl) (c_X8_refuse (s := s) (f := 6) tw hr h0 (by decide) (fun M2 gx2 (hr2 : X_rd T cnt (sRf T 6 s) M2) => ?_)) 
              have cw2 := cw.fx1 (gx2.mono rfl)
              have hz2 := lz_fx hl (gx2.mono rfl) hz
              refine Ru_zret (pc := 79) dX2_buildCase_79 rfl ⟨Nat.le_refl _, Nat.le_refl _⟩ (Or.inl rfl) ?_
              have e1 : l1B T y s = sFail 6 s := by
                unfold l1B
                rw [if_neg (fun q => q h0), if_neg (by omega), if_pos hcs, if_pos (by omega)]
              have eR : (lCa T x deep y s) = (y, sRf T 6 s) := by
                unfold lCa
                rw [e1, if_pos (sFail_n (by decide) h0), sRf_f h0 (by omega)]
              rw [eR] at k
              exact r_qe (r_b_f (decide_eq_false (sRf_n (by decide)))) (k M2 cw2 hr2 (fun q => absurd q (sRf_n (by decide))))
          · refine Ru_iload (pc := 50) dX2_buildCase_50 rfl ?_
            refine Ru_sipush (pc := 52) (nI 150) dX2_buildCase_52 rfl ?_
            refine Ru_icmp_eqN (pc := 55) 64 dX2_buildCase_55 (by decide) (by omega) (fun h18 => ?_) (fun h18 => ?_)
            · have hk9 : tK T s.1 = 150 := h18
              have hcs : isCs (tK T s.1) = true := decide_eq_true (by omega)
              refine Ru_aload_n (pc := 64) dX2_buildCase_64 rfl rfl ?_
              refine Ru_getI (pc := 65) dX2_buildCase_65 fl_X2_28 (shLaw_0 hl) rfl ?_
              refine Ru_top hz.2.1 ?_
              refine Ru_bipush (pc := 68) (nI 20) dX2_buildCase_68 rfl ?_
              refine Ru_icmp_ltN (pc := 70) 80 dX2_buildCase_70 (by decide) (by omega) (fun h19 => ?_) (fun h19 => ?_)
              · refine Ru_iload_n (pc := 80) dX2_buildCase_80 rfl rfl ?_
                refine Ru_if_eqB (pc := 81) 91 dX2_buildCase_81 (by decide) (fun h20 => ?_) (fun h20 => ?_)
                · have hdp := h20
                  refine Ru_aload_n (pc := 91) dX2_buildCase_91 rfl rfl ?_
                  refine Ru_dup (pc := 92) dX2_buildCase_92 rfl ?_
                  refine Ru_getI (pc := 93) dX2_buildCase_93 fl_X2_28 (shLaw_0 hl) rfl ?_
                  refine Ru_top hz.2.1 ?_
                  refine Ru_iconst (pc := 96) (nI 1) dX2_buildCase_96 rfl ?_
                  refine Ru_iaddN (pc := 97) dX2_buildCase_97 ?_
                  refine Ru_putI (pc := 98) rfl dX2_buildCase_98 fl_X2_28 (shLaw_0 hl) ?_
                  generalize en2 : r_sI M lw 5 (nI (y.2.1 + 1)) = M2
                  have q5 := lz_5 hl en2 rfl hz
                  have hz2 := q5.1
                  have cw2 := q5.2.1
                  have hr2 := q5.2.2 T cnt s hr
                  refine Ru_aload_n (pc := 101) dX2_buildCase_101 rfl rfl ?_
                  refine Ru_cv0 (pc := 102) dX2_buildCase_102 mv_X2_59 rfl (by decide) (Nat.le_of_ble_eq_true rfl) (c_X8_next (s := s) tw hr2 h0 (show ¬ tK T s.1 = 0 by omega) (fun M3 gx3 (hr3 : X_rd T cnt (s.1 + 1, 0) M3) => ?_)) 
                  have cw3 := cw2.fx1 (gx3.mono rfl)
                  have hz3 := lz_fx hl (gx3.mono rfl) hz2
                  refine Ru_iload (pc := 105) dX2_buildCase_105 rfl ?_
                  refine Ru_if_eqN (pc := 107) 123 dX2_buildCase_107 (by decide) (by omega) (fun h21 => ?_) (fun h21 => ?_)
                  · refine Ru_iload (pc := 123) dX2_buildCase_123 rfl ?_
                    refine Ru_sipush (pc := 125) (nI 149) dX2_buildCase_125 rfl ?_
                    refine Ru_icmp_neN (pc := 128) 140 dX2_buildCase_128 (by decide) (by omega) (fun h22 => ?_) (fun h22 => ?_)
                    · refine Ru_aload_n (pc := 140) dX2_buildCase_140 rfl rfl ?_
                      refine Ru_aload_n (pc := 141) dX2_buildCase_141 rfl rfl ?_
                      refine Ru_cv1 (pc := 142) dX2_buildCase_142 mv_X2_73 (shLaw_0 hl) (by decide) (Nat.le_of_ble_eq_true rfl) (c_X2_buildDay (s := (s.1 + 1, 0)) (y := (y.1, y.2.1 + 1, y.2.2)) tw hl hr3 rfl hz3 hn (fun M4 ow4 hr4 hzk => ?_)) 
                      have cw4 := cw3.tr ow4
                      refine Ru_zret (pc := 145) dX2_buildCase_145 rfl ⟨Nat.le_refl _, Nat.le_refl _⟩ (r_b_01 _) ?_
                      have e1 : l1B T y s = s := by
                        unfold l1B
                        rw [if_neg (fun q => q h0), if_neg (by omega), if_pos hcs, if_neg (by omega)]
                      have eR : (lCa T x deep y s) = (lcY T x y s, lcS T x s) := by
                        unfold lCa
                        rw [e1, if_neg (fun q => q h0), if_neg (by rw [hdp]; decide)]
                      rw [eR] at k
                      have eS : lcS T x s = (sCount T 0 6 (sMust T (lcM (tK T (s.1 + 1))) (s.1 + 1, 0))) := (if_neg (by omega)).trans (if_pos hk9)
                      have eA : lcA T s = (if tK T (s.1 + 1) = 60 then 4 else if tK T (s.1 + 1) = 62 then 5 else 6) := (if_neg (by omega)).trans (if_pos hk9)
                      have eB : lcB T x s = tV T (s.1 + 2) := (if_neg (by omega)).trans (if_pos hk9)
                      have kk := k M4 cw4 (by dsimp only; rw [eS]; exact hr4) (fun q => by
                        have q2 : (lcS T x s).2 = 0 := q
                        show X_lz lw (lcY T x y s) M4
                        unfold lcY
                        rw [lSt_q q2, eA, eB]
                        exact hzk (by rw [← eS]; exact q2))
                      dsimp only at kk
                      rw [eS] at kk
                      exact kk
                    · exfalso
                      omega
                  · exfalso
                    omega
                · have hdp := h20
                  refine Ru_aload_n (pc := 84) dX2_buildCase_84 rfl rfl ?_
                  refine Ru_bipush (pc := 85) (nI 7) dX2_buildCase_85 rfl ?_
                  refine Ru_cv1 (pc := 87) dX2_buildCase_87 mv_X2_62 rfl (by decide) (Nat.le_of_ble_eq_true rfl) (c_X8_refuse (s := s) (f := 7) tw hr h0 (by decide) (fun M2 gx2 (hr2 : X_rd T cnt (sRf T 7 s) M2) => ?_)) 
                  have cw2 := cw.fx1 (gx2.mono rfl)
                  have hz2 := lz_fx hl (gx2.mono rfl) hz
                  refine Ru_zret (pc := 90) dX2_buildCase_90 rfl ⟨Nat.le_refl _, Nat.le_refl _⟩ (Or.inl rfl) ?_
                  have e1 : l1B T y s = s := by
                    unfold l1B
                    rw [if_neg (fun q => q h0), if_neg (by omega), if_pos hcs, if_neg (by omega)]
                  have eR : (lCa T x deep y s) = (y, sRf T 7 s) := by
                    unfold lCa
                    rw [e1, if_neg (fun q => q h0), if_pos hdp, sRf_f h0 (by omega)]
                  rw [eR] at k
                  exact r_qe (r_b_f (decide_eq_false (sRf_n (by decide)))) (k M2 cw2 hr2 (fun q => absurd q (sRf_n (by decide))))
              · refine Ru_aload_n (pc := 73) dX2_buildCase_73 rfl rfl ?_
                refine Ru_bipush (pc := 74) (nI 6) dX2_buildCase_74 rfl ?_
                refine Ru_cv1 (pc := 76) dX2_buildCase_76 mv_X2_62 rfl (by decide) (Nat.le_of_ble_eq_true rfl) (c_X8_refuse (s := s) (f := 6) tw hr h0 (by decide) (fun M2 gx2 (hr2 : X_rd T cnt (sRf T 6 s) M2) => ?_)) 
                have cw2 := cw.fx1 (gx2.mono rfl)
                have hz2 := lz_fx hl (gx2.mono rfl) hz
                refine Ru_zret (pc := 79) dX2_buildCase_79 rfl ⟨Nat.le_refl _, Nat.le_refl _⟩ (Or.inl rfl) ?_
                have e1 : l1B T y s = sFail 6 s := by
                  unfold l1B
                  rw [if_neg (fun q => q h0), if_neg (by omega), if_pos hcs, if_pos (by omega)]
                have eR : (lCa T x deep y s) = (y, sRf T 6 s) := by
                  unfold lCa
                  rw [e1, if_pos (sFail_n (by decide) h0), sRf_f h0 (by omega)]
                rw [eR] at k
                exact r_qe (r_b_f (decide_eq_false (sRf_n (by decide)))) (k M2 cw2 hr2 (fun q => absurd q (sRf_n (by decide))))
            · have hnc : ¬ isCs (tK T s.1) = true := fun q => by
                have q9 : 146 ≤ tK T s.1 ∧ tK T s.1 ≤ 150 := of_decide_eq_true q
                omega
              refine Ru_aload_n (pc := 58) dX2_buildCase_58 rfl rfl ?_
              refine Ru_iconst (pc := 59) (nI 2) dX2_buildCase_59 rfl ?_
              refine Ru_cv1 (pc := 60) dX2_buildCase_60 mv_X2_62 rfl (by decide) (Nat.le_of_ble_eq_true rfl) (c_X8_refuse (s := s) (f := 2) tw hr h0 (by decide) (fun M2 gx2 (hr2 : X_rd T cnt (sRf T 2 s) M2) => ?_)) 
              have cw2 := cw.fx1 (gx2.mono rfl)
              have hz2 := lz_fx hl (gx2.mono rfl) hz
              refine Ru_zret (pc := 63) dX2_buildCase_63 rfl ⟨Nat.le_refl _, Nat.le_refl _⟩ (Or.inl rfl) ?_
              have e1 : l1B T y s = sWrong T s := by
                unfold l1B
                rw [if_neg (fun q => q h0), if_neg (by omega), if_neg hnc]
              have eR : (lCa T x deep y s) = (y, sRf T 2 s) := by
                unfold lCa
                rw [e1, if_pos (sWrong_n h0).1, sRf_w h0]
              rw [eR] at k
              exact r_qe (r_b_f (decide_eq_false (sRf_n (by decide)))) (k M2 cw2 hr2 (fun q => absurd q (sRf_n (by decide))))
      · have hk9 : tK T s.1 = 148 := h11
        have hcs : isCs (tK T s.1) = true := decide_eq_true (by omega)
        refine Ru_iconst (pc := 30) (nI 1) dX2_buildCase_30 rfl ?_
        refine Ru_goto (pc := 31) 35 dX2_buildCase_31 (by decide) ?_
        refine Ru_istore (pc := 35) dX2_buildCase_35 rfl (by decide) ?_
        refine Ru_iload (pc := 37) dX2_buildCase_37 rfl ?_
        refine Ru_if_neN (pc := 39) 64 dX2_buildCase_39 (by decide) (by omega) (fun h23 => ?_) (fun h23 => ?_)
        · refine Ru_aload_n (pc := 64) dX2_buildCase_64 rfl rfl ?_
          refine Ru_getI (pc := 65) dX2_buildCase_65 fl_X2_28 (shLaw_0 hl) rfl ?_
          refine Ru_top hz.2.1 ?_
          refine Ru_bipush (pc := 68) (nI 20) dX2_buildCase_68 rfl ?_
          refine Ru_icmp_ltN (pc := 70) 80 dX2_buildCase_70 (by decide) (by omega) (fun h24 => ?_) (fun h24 => ?_)
          · refine Ru_iload_n (pc := 80) dX2_buildCase_80 rfl rfl ?_
            refine Ru_if_eqB (pc := 81) 91 dX2_buildCase_81 (by decide) (fun h25 => ?_) (fun h25 => ?_)
            · have hdp := h25
              refine Ru_aload_n (pc := 91) dX2_buildCase_91 rfl rfl ?_
              refine Ru_dup (pc := 92) dX2_buildCase_92 rfl ?_
              refine Ru_getI (pc := 93) dX2_buildCase_93 fl_X2_28 (shLaw_0 hl) rfl ?_
              refine Ru_top hz.2.1 ?_
              refine Ru_iconst (pc := 96) (nI 1) dX2_buildCase_96 rfl ?_
              refine Ru_iaddN (pc := 97) dX2_buildCase_97 ?_
              refine Ru_putI (pc := 98) rfl dX2_buildCase_98 fl_X2_28 (shLaw_0 hl) ?_
              generalize en2 : r_sI M lw 5 (nI (y.2.1 + 1)) = M2
              have q5 := lz_5 hl en2 rfl hz
              have hz2 := q5.1
              have cw2 := q5.2.1
              have hr2 := q5.2.2 T cnt s hr
              refine Ru_aload_n (pc := 101) dX2_buildCase_101 rfl rfl ?_
              refine Ru_cv0 (pc := 102) dX2_buildCase_102 mv_X2_59 rfl (by decide) (Nat.le_of_ble_eq_true rfl) (c_X8_next (s := s) tw hr2 h0 (show ¬ tK T s.1 = 0 by omega) (fun M3 gx3 (hr3 : X_rd T cnt (s.1 + 1, 0) M3) => ?_)) 
              have cw3 := cw2.fx1 (gx3.mono rfl)
              have hz3 := lz_fx hl (gx3.mono rfl) hz2
              refine Ru_iload (pc := 105) dX2_buildCase_105 rfl ?_
              refine Ru_if_eqN (pc := 107) 123 dX2_buildCase_107 (by decide) (by omega) (fun h26 => ?_) (fun h26 => ?_)
              · exfalso
                omega
              · have eS : lcS T x s = (s.1 + 1, 0) := (if_neg (by omega)).trans (if_neg (by omega))
                have eA : lcA T s = tK T s.1 - 146 := by
                  unfold lcA
                  rw [if_neg (by omega), if_neg (by omega)]
                  rw [if_neg (by omega), if_neg (by omega), hk9]
                have eB : lcB T x s = 0 := (if_neg (by omega)).trans (if_neg (by omega))
                have hcdp : nCd (lcA T s) 0 = (tK T s.1 - 146) * 2 ^ 8 ||| 0 := by
                  rw [eA]
                  exact nCd_p (by omega)
                refine Ru_aload_n (pc := 110) dX2_buildCase_110 rfl rfl ?_
                refine Ru_iload (pc := 111) dX2_buildCase_111 rfl ?_
                refine Ru_sipush (pc := 113) (nI 146) dX2_buildCase_113 rfl ?_
                refine Ru_isubN (pc := 116) dX2_buildCase_116 (by omega) ?_
                refine Ru_iconst (pc := 117) (nI 0) dX2_buildCase_117 rfl ?_
                refine Ru_cv2 (pc := 118) dX2_buildCase_118 mv_X2_55 (shLaw_0 hl) (by decide) (Nat.le_of_ble_eq_true rfl) (c_X2_add (op := (lcA T s)) (arg := 0) (y := (y.1, y.2.1 + 1, y.2.2)) hl hz3 (Nat.le_trans hn (by decide)) (by first | decide | omega) hcdp (fun M4 gx4 hz4 => ?_)) 
                have cw4 := cw3.tr (os_ow gx4)
                have hr4 := os_rd hl gx4 hr3
                refine Ru_iconst (pc := 121) (nI 1) dX2_buildCase_121 rfl ?_
                refine Ru_zret (pc := 122) dX2_buildCase_122 rfl ⟨Nat.le_refl _, Nat.le_refl _⟩ (Or.inr rfl) ?_
                have e1 : l1B T y s = s := by
                  unfold l1B
                  rw [if_neg (fun q => q h0), if_neg (by omega), if_pos hcs, if_neg (by omega)]
                have eR : (lCa T x deep y s) = (lcY T x y s, lcS T x s) := by
                  unfold lCa
                  rw [e1, if_neg (fun q => q h0), if_neg (by rw [hdp]; decide)]
                rw [eR] at k
                have kk := k M4 cw4 (by dsimp only; rw [eS]; exact hr4) (fun q => by
                  have q2 : (lcS T x s).2 = 0 := q
                  show X_lz lw (lcY T x y s) M4
                  unfold lcY
                  rw [lSt_q q2, eB]
                  exact hz4)
                dsimp only at kk
                rw [eS] at kk
                exact kk
            · have hdp := h25
              refine Ru_aload_n (pc := 84) dX2_buildCase_84 rfl rfl ?_
              refine Ru_bipush (pc := 85) (nI 7) dX2_buildCase_85 rfl ?_
              refine Ru_cv1 (pc := 87) dX2_buildCase_87 mv_X2_62 rfl (by decide) (Nat.le_of_ble_eq_true rfl) (c_X8_refuse (s := s) (f := 7) tw hr h0 (by decide) (fun M2 gx2 (hr2 : X_rd T cnt (sRf T 7 s) M2) => ?_)) 
              have cw2 := cw.fx1 (gx2.mono rfl)
              have hz2 := lz_fx hl (gx2.mono rfl) hz
              refine Ru_zret (pc := 90) dX2_buildCase_90 rfl ⟨Nat.le_refl _, Nat.le_refl _⟩ (Or.inl rfl) ?_
              have e1 : l1B T y s = s := by
                unfold l1B
                rw [if_neg (fun q => q h0), if_neg (by omega), if_pos hcs, if_neg (by omega)]
              have eR : (lCa T x deep y s) = (y, sRf T 7 s) := by
                unfold lCa
                rw [e1, if_neg (fun q => q h0), if_pos hdp, sRf_f h0 (by omega)]
              rw [eR] at k
              exact r_qe (r_b_f (decide_eq_false (sRf_n (by decide)))) (k M2 cw2 hr2 (fun q => absurd q (sRf_n (by decide))))
          · refine Ru_aload_n (pc := 73) dX2_buildCase_73 rfl rfl ?_
            refine Ru_bipush (pc := 74) (nI 6) dX2_buildCase_74 rfl ?_
            refine Ru_cv1 (pc := 76) dX2_buildCase_76 mv_X2_62 rfl (by decide) (Nat.le_of_ble_eq_true rfl) (c_X8_refuse (s := s) (f := 6) tw hr h0 (by decide) (fun M2 gx2 (hr2 : X_rd T cnt (sRf T 6 s) M2) => ?_)) 
            have cw2 := cw.fx1 (gx2.mono rfl)
            have hz2 := lz_fx hl (gx2.mono rfl) hz
            refine Ru_zret (pc := 79) dX2_buildCase_79 rfl ⟨Nat.le_refl _, Nat.le_refl _⟩ (Or.inl rfl) ?_
            have e1 : l1B T y s = sFail 6 s := by
              unfold l1B
              rw [if_neg (fun q => q h0), if_neg (by omega), if_pos hcs, if_pos (by omega)]
            have eR : (lCa T x deep y s) = (y, sRf T 6 s) := by
              unfold lCa
              rw [e1, if_pos (sFail_n (by decide) h0), sRf_f h0 (by omega)]
            rw [eR] at k
            exact r_qe (r_b_f (decide_eq_false (sRf_n (by decide)))) (k M2 cw2 hr2 (fun q => absurd q (sRf_n (by decide))))
        · exfalso
          omega

theorem l_X2_one1 {Q : Rq} {M0 : Mem} {T : Tx} {cnt u lw w h : Nat} {x : St9} {y : Lq} {R : Lq × Ps} (tw : Tw T) (hu : isTown u) (hl : isLaw lw) (k : ∀ m' dd j s M', dd + m' = 6 → dd = w + j → s.2 = 0 → X_rd T cnt s M' → X_lz lw y M' → lNs j (lOn T x m' y s) = R → r_ow (lP lw) M0 M' → 2 * y.1 ≤ tp T s.1 → (m' = 0 ∨ ¬ tK T s.1 = 153) → Ru (h + 1) mt_X2_buildOne r_z 30 [(0, some (.ref lw)), (1, some (.ref 40)), (2, some (.ref (u + 1))), (3, some (.int (nI w))), (4, some (.int (nI dd)))] [] GX M' Q) : ∀ (zw : Nat) (m' : Nat) (dd : Nat) (j : Nat) (s : Ps) (M : Mem), m' = zw → (dd + m' = 6) → (dd = w + j) → (s.2 = 0) → (X_rd T cnt s M) → (X_lz lw y M) → (lNs j (lOn T x m' y s) = R) → (r_ow (lP lw) M0 M) → (2 * y.1 ≤ tp T s.1) → Ru (h + 1) mt_X2_buildOne r_z 3 [(0, some (.ref lw)), (1, some (.ref 40)), (2, some (.ref (u + 1))), (3, some (.int (nI w))), (4, some (.int (nI dd)))] [] GX M Q := by
  intro zw
  induction zw using Nat.strongRecOn with
  | ind zw ih =>
    intro m' dd j s M hw hdd hj h0 hr hz hR cw hB
    subst hw
    have hk155 := tK_155 T s.1
    refine Ru_iload (pc := 3) dX2_buildOne_3 rfl ?_
    refine Ru_bipush (pc := 5) (nI 6) dX2_buildOne_5 rfl ?_
    refine Ru_icmp_geN (pc := 7) 30 dX2_buildOne_7 (by decide) (by omega) (fun h1 => ?_) (fun h1 => ?_)
    · refine Ru_weak (k m' dd j s M hdd hj h0 hr hz hR cw hB (by omega)) rfl
    · refine Ru_aload_n (pc := 10) dX2_buildOne_10 rfl rfl ?_
      refine Ru_cv0 (pc := 11) dX2_buildOne_11 mv_X2_34 rfl (by omega) (Nat.le_of_ble_eq_true rfl) (c_X8_kind (s := s) tw hr h0 ?_) 
      refine Ru_sipush (pc := 14) (nI 153) dX2_buildOne_14 rfl ?_
      refine Ru_icmp_neN (pc := 17) 30 dX2_buildOne_17 (by decide) (by omega) (fun h2 => ?_) (fun h2 => ?_)
      · refine Ru_weak (k m' dd j s M hdd hj h0 hr hz hR cw hB (by omega)) rfl
      · have hk9 : tK T s.1 = 153 := h2
        refine Ru_aload_n (pc := 20) dX2_buildOne_20 rfl rfl ?_
        refine Ru_cv0 (pc := 21) dX2_buildOne_21 mv_X2_59 rfl (by omega) (Nat.le_of_ble_eq_true rfl) (c_X8_next (s := s) tw hr h0 (show ¬ tK T s.1 = 0 by omega) (fun M2 gx2 (hr2 : X_rd T cnt (s.1 + 1, 0) M2) => ?_)) 
        have cw2 := cw.fx1 (gx2.mono rfl)
        have hz2 := lz_fx hl (gx2.mono rfl) hz
        refine Ru_iincN (pc := 24) 1 dX2_buildOne_24 rfl rfl rfl (by decide) ?_
        refine Ru_goto (pc := 27) 3 dX2_buildOne_27 (by decide) ?_
        obtain ⟨m9, rfl⟩ : ∃ m9, m' = m9 + 1 := ⟨m' - 1, by omega⟩
        have hR2 : lNs (j + 1) (lOn T x m9 y (s.1 + 1, 0)) = R := by
          rw [← hR, lOn_nt h0 hk9]
          rfl
        refine Ru_weak (ih m9 (by omega) m9 (dd + 1) (j + 1) (s.1 + 1, 0) M2 rfl (by omega) (by omega) rfl hr2 hz2 hR2 cw2 ?_) rfl
        have := tpq1 tw (i := s.1)
        show 2 * y.1 ≤ tp T (s.1 + 1)
        omega

theorem l_X2_one2 {Q : Rq} {M0 : Mem} {T : Tx} {cnt lw dd h : Nat} {s : Ps} {R : Lq × Ps} (hl : isLaw lw) (h0 : s.2 = 0) (hd6 : dd ≤ 6) (hb9 : R.1.1 ≤ 150) (k : ∀ M', r_ow (lP lw) M0 M' → X_rd T cnt R.2 M' → X_lz lw R.1 M' → Q (some (.int (nI 1))) GX M') : ∀ (zw : Nat) (q : Nat) (y : Lq) (M : Mem), dd - q = zw → (q ≤ dd) → (X_rd T cnt s M) → (X_lz lw y M) → (lNs (dd - q) (y, s) = R) → (r_ow (lP lw) M0 M) → Ru (h + 1) mt_X2_buildOne r_z 128 [(0, some (.ref lw)), (4, some (.int (nI dd))), (6, some (.int (nI q)))] [] GX M Q := by
  intro zw
  induction zw using Nat.strongRecOn with
  | ind zw ih =>
    intro q y M hw hq hr hz hR cw
    subst hw
    refine Ru_iload (pc := 128) dX2_buildOne_128 rfl ?_
    refine Ru_iload (pc := 130) dX2_buildOne_130 rfl ?_
    refine Ru_icmp_geN (pc := 132) 147 dX2_buildOne_132 (by decide) (by omega) (fun h1 => ?_) (fun h1 => ?_)
    · refine Ru_iconst (pc := 147) (nI 1) dX2_buildOne_147 rfl ?_
      refine Ru_zret (pc := 148) dX2_buildOne_148 rfl ⟨Nat.le_refl _, Nat.le_refl _⟩ (Or.inr rfl) ?_
      have e0 : dd - q = 0 := by omega
      rw [e0] at hR
      have eR : (y, s) = R := hR
      subst eR
      exact k M cw hr hz
    · have hn9 : y.1 ≤ 200 := by
        have := lNs_1 (dd - q) (y, s) h0
        rw [hR] at this
        dsimp only at this
        omega
      refine Ru_aload_n (pc := 135) dX2_buildOne_135 rfl rfl ?_
      refine Ru_iconst (pc := 136) (nI 5) dX2_buildOne_136 rfl ?_
      refine Ru_iconst (pc := 137) (nI 0) dX2_buildOne_137 rfl ?_
      refine Ru_cv2 (pc := 138) dX2_buildOne_138 mv_X2_55 (shLaw_0 hl) (by omega) (Nat.le_of_ble_eq_true rfl) (c_X2_add (op := 7) (arg := 0) (y := y) hl hz (by omega) (by first | decide | omega) nCd_7 (fun M2 gx2 hz2 => ?_)) 
      have cw2 := cw.tr (os_ow gx2)
      have hr2 := os_rd hl gx2 hr
      refine Ru_iincN (pc := 141) 1 dX2_buildOne_141 rfl rfl rfl (by decide) ?_
      refine Ru_goto (pc := 144) 128 dX2_buildOne_144 (by decide) ?_
      have hR2 : lNs (dd - (q + 1)) (lSq 7 0 y, s) = R := by
        rw [← hR, show dd - q = (dd - (q + 1)) + 1 by omega, lNs, lSt_q h0]
      refine Ru_weak (ih (dd - (q + 1)) (by omega) (q + 1) (lSq 7 0 y) M2 rfl (by omega) hr2 hz2 hR2 cw2) rfl

theorem t_X2_one {T : Tx} {cnt u lw : Nat} {x : St9} (tw : Tw T) (hT3 : T.2 ≤ 300) (hu : isTown u) (hl : isLaw lw) (wf : Wf x.1) (m w h : Nat) (hw : w + m = 6) (hh : 3 ≤ h) (HE : ∀ m', m' < m → ∃ h', h' ≤ h ∧ XL T x cnt lw u mt_X2_buildEither h' (6 - m') (lEi T (lOn T x m'))) : XL T x cnt lw u mt_X2_buildOne (h + 1) w (lOn T x m) := by
  intro Q M s0 y h00 hr0 bw hz0 hc hB0 k
  refine Ca_of rfl (Nat.le_of_ble_eq_true rfl) ?_
  have npu := lP_u hu hl
  have hgm : lGd T 0 0 (lOn T x m) := lOn_w tw wf.1.1 m (by omega) 0 (by omega)
  refine Ru_iload_n (pc := 0) dX2_buildOne_0 rfl rfl ?_
  refine Ru_istore (pc := 1) dX2_buildOne_1 rfl (by decide) ?_
  refine Ru_weak (l_X2_one1 (M0 := M) (R := (lOn T x m y s0)) (h := h) tw hu hl (fun m' dd j s M2 hdd hj h0 hr2 hz2 hR cw2 hB hx9 => ?_) m m w 0 s0 M rfl (by omega) rfl h00 hr0 hz0 rfl (fun _ _ _ _ => ⟨rfl, rfl, rfl⟩) hB0) rfl
  have hk155 := tK_155 T s.1
  have hn9 : y.1 ≤ 150 := by
    have := tp_le tw s.1
    omega
  refine Ru_iload (pc := 30) dX2_buildOne_30 rfl ?_
  refine Ru_bipush (pc := 32) (nI 6) dX2_buildOne_32 rfl ?_
  refine Ru_icmp_ltN (pc := 34) 41 dX2_buildOne_34 (by decide) (by omega) (fun h1 => ?_) (fun h1 => ?_)
  · refine Ru_iconst (pc := 41) (nI 0) dX2_buildOne_41 rfl ?_
    refine Ru_istore (pc := 42) dX2_buildOne_42 rfl (by decide) ?_
    refine Ru_aload_n (pc := 44) dX2_buildOne_44 rfl rfl ?_
    refine Ru_cv0 (pc := 45) dX2_buildOne_45 mv_X2_34 rfl (by omega) (Nat.le_of_ble_eq_true rfl) (c_X8_kind (s := s) tw hr2 h0 ?_) 
    refine Ru_bipush (pc := 48) (nI 40) dX2_buildOne_48 rfl ?_
    refine Ru_icmp_neN (pc := 50) 86 dX2_buildOne_50 (by decide) (by omega) (fun h2 => ?_) (fun h2 => ?_)
    · have hk40n : ¬ tK T s.1 = 40 := h2
      refine Ru_aload_n (pc := 86) dX2_buildOne_86 rfl rfl ?_
      refine Ru_cv0 (pc := 87) dX2_buildOne_87 mv_X2_34 rfl (by omega) (Nat.le_of_ble_eq_true rfl) (c_X8_kind (s := s) tw hr2 h0 ?_) 
      refine Ru_bipush (pc := 90) (nI 40) dX2_buildOne_90 rfl ?_
      refine Ru_icmp_eqN (pc := 92) 105 dX2_buildOne_92 (by decide) (by omega) (fun h3 => ?_) (fun h3 => ?_)
      · exfalso
        omega
      · refine Ru_aload_n (pc := 95) dX2_buildOne_95 rfl rfl ?_
        refine Ru_cv0 (pc := 96) dX2_buildOne_96 mv_X2_34 rfl (by omega) (Nat.le_of_ble_eq_true rfl) (c_X8_kind (s := s) tw hr2 h0 ?_) 
        refine Ru_sipush (pc := 99) (nI 153) dX2_buildOne_99 rfl ?_
        refine Ru_icmp_neN (pc := 102) 112 dX2_buildOne_102 (by decide) (by omega) (fun h4 => ?_) (fun h4 => ?_)
        · have hk153 : ¬ tK T s.1 = 153 := h4
          refine Ru_aload_n (pc := 112) dX2_buildOne_112 rfl rfl ?_
          refine Ru_aload_n (pc := 113) dX2_buildOne_113 rfl rfl ?_
          refine Ru_aload_n (pc := 114) dX2_buildOne_114 rfl rfl ?_
          refine Ru_iload (pc := 115) dX2_buildOne_115 rfl ?_
          refine Ru_cv3 (pc := 117) dX2_buildOne_117 mv_X2_65 (shLaw_0 hl) (by omega) (Nat.le_of_ble_eq_true rfl) (c_X2_buildCase (deep := false) (s := s) (x := x) (y := y) tw hu hl wf (X_bw_ow hu cw2 npu bw) hr2 h0 hz2 hn9 hc hk40n hk153 (fun M3 ow3 hr3 hz3 => ?_)) 
          have cw3 := cw2.tr ow3
          refine Ru_if_neB (pc := 120) 125 dX2_buildOne_120 (by decide) (fun h5 => ?_) (fun h5 => ?_)
          · replace h5 := of_decide_eq_true h5
            have hzo := h5
            refine Ru_iload_n (pc := 125) dX2_buildOne_125 rfl rfl ?_
            refine Ru_istore (pc := 126) dX2_buildOne_126 rfl (by decide) ?_
            have eO : lOn T x m' y s = lCa T x false y s := by
              rw [lOn_ca hk153 hk40n, decide_eq_false (show ¬ m' = 0 by omega)]
            rw [eO] at hR
            have hR2 : lNs (dd - w) ((lCa T x false y s).1, (lCa T x false y s).2) = (lOn T x m y s0) := by
              rw [← hR, show dd - w = j by omega]
            have eR2 : (lOn T x m y s0).2 = (lCa T x false y s).2 := by
              rw [← hR]
              exact lNs_2 j _
            have hR0 : (lOn T x m y s0).2.2 = 0 := by
              rw [eR2]
              exact hzo
            have hb9 := (lgo_b tw hT3 hgm h00 ⟨hc, hB0⟩ hR0).1
            refine Ru_weak (l_X2_one2 (M0 := M) (T := T) (cnt := cnt) (dd := dd) (s := (lCa T x false y s).2) (R := (lOn T x m y s0)) hl hzo (by omega) hb9 (fun M' ow' hr' hz' => r_qe (r_b_t (decide_eq_true hR0)) (k M' ow' hr' (fun _ => hz'))) (dd - w) w (lCa T x false y s).1 M3 rfl (by omega) hr3 (hz3 hzo) hR2 cw3) rfl
          · replace h5 := of_decide_eq_false h5
            have hzf := h5
            refine Ru_iconst (pc := 123) (nI 0) dX2_buildOne_123 rfl ?_
            refine Ru_zret (pc := 124) dX2_buildOne_124 rfl ⟨Nat.le_refl _, Nat.le_refl _⟩ (Or.inl rfl) ?_
            have e9 : (lOn T x m y s0).2 = (lCa T x false y s).2 := by
              rw [← hR, lNs_2, lOn_ca hk153 hk40n, decide_eq_false (show ¬ m' = 0 by omega)]
            have hn : ¬ (lOn T x m y s0).2.2 = 0 := by
              rw [e9]
              exact hzf
            exact r_qe (r_b_f (decide_eq_false hn)) (k M3 cw3 (by rw [e9]; exact hr3) (fun q => absurd q hn))
        · exfalso
          omega
    · have hk40 : tK T s.1 = 40 := h2
      refine Ru_iload (pc := 53) dX2_buildOne_53 rfl ?_
      refine Ru_if_neN (pc := 55) 86 dX2_buildOne_55 (by decide) (by omega) (fun h6 => ?_) (fun h6 => ?_)
      · exfalso
        omega
      · refine Ru_aload_n (pc := 58) dX2_buildOne_58 rfl rfl ?_
        refine Ru_cv0 (pc := 59) dX2_buildOne_59 mv_X2_59 rfl (by omega) (Nat.le_of_ble_eq_true rfl) (c_X8_next (s := s) tw hr2 h0 (show ¬ tK T s.1 = 0 by omega) (fun M3 gx3 (hr3 : X_rd T cnt (s.1 + 1, 0) M3) => ?_)) 
        have cw3 := cw2.fx1 (gx3.mono rfl)
        have hz3 := lz_fx hl (gx3.mono rfl) hz2
        obtain ⟨m9, rfl⟩ : ∃ m9, m' = m9 + 1 := ⟨m' - 1, by omega⟩
        obtain ⟨hq9, hle9, hE⟩ := HE m9 (by omega)
        rw [show 6 - m9 = dd + 1 by omega] at hE
        refine Ru_aload_n (pc := 62) dX2_buildOne_62 rfl rfl ?_
        refine Ru_aload_n (pc := 63) dX2_buildOne_63 rfl rfl ?_
        refine Ru_aload_n (pc := 64) dX2_buildOne_64 rfl rfl ?_
        refine Ru_iload (pc := 65) dX2_buildOne_65 rfl ?_
        refine Ru_iconst (pc := 67) (nI 1) dX2_buildOne_67 rfl ?_
        refine Ru_iaddN (pc := 68) dX2_buildOne_68 ?_
        refine Ru_cv3 (pc := 69) dX2_buildOne_69 mv_X2_48 (shLaw_0 hl) (by omega) (Nat.le_of_ble_eq_true rfl) (hE _ M3 (s.1 + 1, 0) y rfl hr3 (X_bw_ow hu cw3 npu bw) hz3 hc (show 2 * y.1 ≤ tp T (s.1 + 1) by have := tpq1 tw (i := s.1); omega) (fun M4 ow4 hr4 hz4 => ?_)) 
        have cw4 := cw3.tr ow4
        refine Ru_if_eqB (pc := 72) 84 dX2_buildOne_72 (by decide) (fun h7 => ?_) (fun h7 => ?_)
        · replace h7 := of_decide_eq_false h7
          have hzf := h7
          refine Ru_iconst (pc := 84) (nI 0) dX2_buildOne_84 rfl ?_
          refine Ru_zret (pc := 85) dX2_buildOne_85 rfl ⟨Nat.le_refl _, Nat.le_refl _⟩ (Or.inl rfl) ?_
          have e9 : (lOn T x m y s0).2 = (lPa T (lOn T x m9) y s).2 := by
            rw [← hR, lNs_2, lOn_pa h0 hk40]
          have e8 : (lPa T (lOn T x m9) y s).2 = (lEi T (lOn T x m9) y (s.1 + 1, 0)).2 := sMust_f hzf
          rw [e8] at e9
          have hn : ¬ (lOn T x m y s0).2.2 = 0 := by
            rw [e9]
            exact hzf
          exact r_qe (r_b_f (decide_eq_false hn)) (k M4 cw4 (by rw [e9]; exact hr4) (fun q => absurd q hn))
        · replace h7 := of_decide_eq_true h7
          have hE0 := h7
          refine Ru_aload_n (pc := 75) dX2_buildOne_75 rfl rfl ?_
          refine Ru_bipush (pc := 76) (nI 41) dX2_buildOne_76 rfl ?_
          refine Ru_cv1 (pc := 78) dX2_buildOne_78 mv_X2_44 rfl (by omega) (Nat.le_of_ble_eq_true rfl) (c_X8_expect (s := (lEi T (lOn T x m9) y (s.1 + 1, 0)).2) (w := 41) tw hr4 hE0 (by decide) (fun M5 gx5 (hr5 : X_rd T cnt (sMust T (decide (tK T (lEi T (lOn T x m9) y (s.1 + 1, 0)).2.1 = 41)) (lEi T (lOn T x m9) y (s.1 + 1, 0)).2) M5) => ?_)) 
          have cw5 := cw4.fx1 (gx5.mono rfl)
          have hz5 := lz_fx hl (gx5.mono rfl) (hz4 hE0)
          refine Ru_if_neB (pc := 81) 125 dX2_buildOne_81 (by decide) (fun h8 => ?_) (fun h8 => ?_)
          · replace h8 := of_decide_eq_true h8
            have hzo := h8
            refine Ru_iload_n (pc := 125) dX2_buildOne_125 rfl rfl ?_
            refine Ru_istore (pc := 126) dX2_buildOne_126 rfl (by decide) ?_
            have eO : lOn T x (m9 + 1) y s = ((lEi T (lOn T x m9) y (s.1 + 1, 0)).1, (sMust T (decide (tK T (lEi T (lOn T x m9) y (s.1 + 1, 0)).2.1 = 41)) (lEi T (lOn T x m9) y (s.1 + 1, 0)).2)) := lOn_pa h0 hk40
            rw [eO] at hR
            have hR2 : lNs (dd - w) ((lEi T (lOn T x m9) y (s.1 + 1, 0)).1, (sMust T (decide (tK T (lEi T (lOn T x m9) y (s.1 + 1, 0)).2.1 = 41)) (lEi T (lOn T x m9) y (s.1 + 1, 0)).2)) = (lOn T x m y s0) := by
              rw [← hR, show dd - w = j by omega]
            have eR2 : (lOn T x m y s0).2 = (sMust T (decide (tK T (lEi T (lOn T x m9) y (s.1 + 1, 0)).2.1 = 41)) (lEi T (lOn T x m9) y (s.1 + 1, 0)).2) := by
              rw [← hR]
              exact lNs_2 j _
            have hR0 : (lOn T x m y s0).2.2 = 0 := by
              rw [eR2]
              exact hzo
            have hb9 := (lgo_b tw hT3 hgm h00 ⟨hc, hB0⟩ hR0).1
            refine Ru_weak (l_X2_one2 (M0 := M) (T := T) (cnt := cnt) (dd := dd) (s := (sMust T (decide (tK T (lEi T (lOn T x m9) y (s.1 + 1, 0)).2.1 = 41)) (lEi T (lOn T x m9) y (s.1 + 1, 0)).2)) (R := (lOn T x m y s0)) hl hzo (by omega) hb9 (fun M' ow' hr' hz' => r_qe (r_b_t (decide_eq_true hR0)) (k M' ow' hr' (fun _ => hz'))) (dd - w) w (lEi T (lOn T x m9) y (s.1 + 1, 0)).1 M5 rfl (by omega) hr5 hz5 hR2 cw5) rfl
          · replace h8 := of_decide_eq_false h8
            have hzf := h8
            refine Ru_iconst (pc := 84) (nI 0) dX2_buildOne_84 rfl ?_
            refine Ru_zret (pc := 85) dX2_buildOne_85 rfl ⟨Nat.le_refl _, Nat.le_refl _⟩ (Or.inl rfl) ?_
            have e9 : (lOn T x m y s0).2 = (lPa T (lOn T x m9) y s).2 := by
              rw [← hR, lNs_2, lOn_pa h0 hk40]
            have hn : ¬ (lOn T x m y s0).2.2 = 0 := by
              rw [e9]
              exact hzf
            exact r_qe (r_b_f (decide_eq_false hn)) (k M5 cw5 (by rw [e9]; exact hr5) (fun q => absurd q hn))
  · refine Ru_iconst (pc := 37) (nI 1) dX2_buildOne_37 rfl ?_
    refine Ru_goto (pc := 38) 42 dX2_buildOne_38 (by decide) ?_
    refine Ru_istore (pc := 42) dX2_buildOne_42 rfl (by decide) ?_
    refine Ru_aload_n (pc := 44) dX2_buildOne_44 rfl rfl ?_
    refine Ru_cv0 (pc := 45) dX2_buildOne_45 mv_X2_34 rfl (by omega) (Nat.le_of_ble_eq_true rfl) (c_X8_kind (s := s) tw hr2 h0 ?_) 
    refine Ru_bipush (pc := 48) (nI 40) dX2_buildOne_48 rfl ?_
    refine Ru_icmp_neN (pc := 50) 86 dX2_buildOne_50 (by decide) (by omega) (fun h9 => ?_) (fun h9 => ?_)
    · have hk40n : ¬ tK T s.1 = 40 := h9
      refine Ru_aload_n (pc := 86) dX2_buildOne_86 rfl rfl ?_
      refine Ru_cv0 (pc := 87) dX2_buildOne_87 mv_X2_34 rfl (by omega) (Nat.le_of_ble_eq_true rfl) (c_X8_kind (s := s) tw hr2 h0 ?_) 
      refine Ru_bipush (pc := 90) (nI 40) dX2_buildOne_90 rfl ?_
      refine Ru_icmp_eqN (pc := 92) 105 dX2_buildOne_92 (by decide) (by omega) (fun h10 => ?_) (fun h10 => ?_)
      · exfalso
        omega
      · refine Ru_aload_n (pc := 95) dX2_buildOne_95 rfl rfl ?_
        refine Ru_cv0 (pc := 96) dX2_buildOne_96 mv_X2_34 rfl (by omega) (Nat.le_of_ble_eq_true rfl) (c_X8_kind (s := s) tw hr2 h0 ?_) 
        refine Ru_sipush (pc := 99) (nI 153) dX2_buildOne_99 rfl ?_
        refine Ru_icmp_neN (pc := 102) 112 dX2_buildOne_102 (by decide) (by omega) (fun h11 => ?_) (fun h11 => ?_)
        · have hk153 : ¬ tK T s.1 = 153 := h11
          refine Ru_aload_n (pc := 112) dX2_buildOne_112 rfl rfl ?_
          refine Ru_aload_n (pc := 113) dX2_buildOne_113 rfl rfl ?_
          refine Ru_aload_n (pc := 114) dX2_buildOne_114 rfl rfl ?_
          refine Ru_iload (pc := 115) dX2_buildOne_115 rfl ?_
          refine Ru_cv3 (pc := 117) dX2_buildOne_117 mv_X2_65 (shLaw_0 hl) (by omega) (Nat.le_of_ble_eq_true rfl) (c_X2_buildCase (deep := true) (s := s) (x := x) (y := y) tw hu hl wf (X_bw_ow hu cw2 npu bw) hr2 h0 hz2 hn9 hc hk40n hk153 (fun M3 ow3 hr3 hz3 => ?_)) 
          have cw3 := cw2.tr ow3
          refine Ru_if_neB (pc := 120) 125 dX2_buildOne_120 (by decide) (fun h12 => ?_) (fun h12 => ?_)
          · replace h12 := of_decide_eq_true h12
            have hzo := h12
            refine Ru_iload_n (pc := 125) dX2_buildOne_125 rfl rfl ?_
            refine Ru_istore (pc := 126) dX2_buildOne_126 rfl (by decide) ?_
            have eO : lOn T x m' y s = lCa T x true y s := by
              rw [lOn_ca hk153 hk40n, decide_eq_true (show m' = 0 by omega)]
            rw [eO] at hR
            have hR2 : lNs (dd - w) ((lCa T x true y s).1, (lCa T x true y s).2) = (lOn T x m y s0) := by
              rw [← hR, show dd - w = j by omega]
            have eR2 : (lOn T x m y s0).2 = (lCa T x true y s).2 := by
              rw [← hR]
              exact lNs_2 j _
            have hR0 : (lOn T x m y s0).2.2 = 0 := by
              rw [eR2]
              exact hzo
            have hb9 := (lgo_b tw hT3 hgm h00 ⟨hc, hB0⟩ hR0).1
            refine Ru_weak (l_X2_one2 (M0 := M) (T := T) (cnt := cnt) (dd := dd) (s := (lCa T x true y s).2) (R := (lOn T x m y s0)) hl hzo (by omega) hb9 (fun M' ow' hr' hz' => r_qe (r_b_t (decide_eq_true hR0)) (k M' ow' hr' (fun _ => hz'))) (dd - w) w (lCa T x true y s).1 M3 rfl (by omega) hr3 (hz3 hzo) hR2 cw3) rfl
          · replace h12 := of_decide_eq_false h12
            have hzf := h12
            refine Ru_iconst (pc := 123) (nI 0) dX2_buildOne_123 rfl ?_
            refine Ru_zret (pc := 124) dX2_buildOne_124 rfl ⟨Nat.le_refl _, Nat.le_refl _⟩ (Or.inl rfl) ?_
            have e9 : (lOn T x m y s0).2 = (lCa T x true y s).2 := by
              rw [← hR, lNs_2, lOn_ca hk153 hk40n, decide_eq_true (show m' = 0 by omega)]
            have hn : ¬ (lOn T x m y s0).2.2 = 0 := by
              rw [e9]
              exact hzf
            exact r_qe (r_b_f (decide_eq_false hn)) (k M3 cw3 (by rw [e9]; exact hr3) (fun q => absurd q hn))
        · refine Ru_aload_n (pc := 105) dX2_buildOne_105 rfl rfl ?_
          refine Ru_bipush (pc := 106) (nI 7) dX2_buildOne_106 rfl ?_
          refine Ru_cv1 (pc := 108) dX2_buildOne_108 mv_X2_62 rfl (by omega) (Nat.le_of_ble_eq_true rfl) (c_X8_refuse (s := s) (f := 7) tw hr2 h0 (by decide) (fun M3 gx3 (hr3 : X_rd T cnt (sRf T 7 s) M3) => ?_)) 
          have cw3 := cw2.fx1 (gx3.mono rfl)
          have hz3 := lz_fx hl (gx3.mono rfl) hz2
          refine Ru_zret (pc := 111) dX2_buildOne_111 rfl ⟨Nat.le_refl _, Nat.le_refl _⟩ (Or.inl rfl) ?_
          have hm0 : m' = 0 := by omega
          subst hm0
          have eO := lOn_dp (x := x) (y := y) h0 (show tK T s.1 = 153 ∨ tK T s.1 = 40 by omega)
          have eF : sRf T 7 s = sFail 7 s := sRf_f h0 (by omega)
          have hzf : ¬ (sRf T 7 s).2 = 0 := sRf_n (by decide)
          have e9 : (lOn T x m y s0).2 = sRf T 7 s := by
            rw [← hR, lNs_2, eO, eF]
          have hn : ¬ (lOn T x m y s0).2.2 = 0 := by
            rw [e9]
            exact hzf
          exact r_qe (r_b_f (decide_eq_false hn)) (k M3 cw3 (by rw [e9]; exact hr3) (fun q => absurd q hn))
    · have hk40 : tK T s.1 = 40 := h9
      refine Ru_iload (pc := 53) dX2_buildOne_53 rfl ?_
      refine Ru_if_neN (pc := 55) 86 dX2_buildOne_55 (by decide) (by omega) (fun h13 => ?_) (fun h13 => ?_)
      · refine Ru_aload_n (pc := 86) dX2_buildOne_86 rfl rfl ?_
        refine Ru_cv0 (pc := 87) dX2_buildOne_87 mv_X2_34 rfl (by omega) (Nat.le_of_ble_eq_true rfl) (c_X8_kind (s := s) tw hr2 h0 ?_) 
        refine Ru_bipush (pc := 90) (nI 40) dX2_buildOne_90 rfl ?_
        refine Ru_icmp_eqN (pc := 92) 105 dX2_buildOne_92 (by decide) (by omega) (fun h14 => ?_) (fun h14 => ?_)
        · refine Ru_aload_n (pc := 105) dX2_buildOne_105 rfl rfl ?_
          refine Ru_bipush (pc := 106) (nI 7) dX2_buildOne_106 rfl ?_
          refine Ru_cv1 (pc := 108) dX2_buildOne_108 mv_X2_62 rfl (by omega) (Nat.le_of_ble_eq_true rfl) (c_X8_refuse (s := s) (f := 7) tw hr2 h0 (by decide) (fun M3 gx3 (hr3 : X_rd T cnt (sRf T 7 s) M3) => ?_)) 
          have cw3 := cw2.fx1 (gx3.mono rfl)
          have hz3 := lz_fx hl (gx3.mono rfl) hz2
          refine Ru_zret (pc := 111) dX2_buildOne_111 rfl ⟨Nat.le_refl _, Nat.le_refl _⟩ (Or.inl rfl) ?_
          have hm0 : m' = 0 := by omega
          subst hm0
          have eO := lOn_dp (x := x) (y := y) h0 (show tK T s.1 = 153 ∨ tK T s.1 = 40 by omega)
          have eF : sRf T 7 s = sFail 7 s := sRf_f h0 (by omega)
          have hzf : ¬ (sRf T 7 s).2 = 0 := sRf_n (by decide)
          have e9 : (lOn T x m y s0).2 = sRf T 7 s := by
            rw [← hR, lNs_2, eO, eF]
          have hn : ¬ (lOn T x m y s0).2.2 = 0 := by
            rw [e9]
            exact hzf
          exact r_qe (r_b_f (decide_eq_false hn)) (k M3 cw3 (by rw [e9]; exact hr3) (fun q => absurd q hn))
        · exfalso
          omega
      · exfalso
        omega
