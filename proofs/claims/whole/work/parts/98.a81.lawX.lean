-- READING: the developers' law: the rows
def lQ (lw o k : Nat) : Prop := lw ≤ o ∧ o ≤ lw + 3
def X_la (lw : Nat) (y : Lq) (M : Mem) : Prop := X_lz lw y M ∧ M.1 lw 0 = nI (bt (fun i => y.2.2 (21 + i)) 8) ∧ ∀ k, k < 8 → y.2.2 (21 + k) = 1 → M.1 (lw + 1) k = nI (y.2.2 (139 + k)) ∧ M.1 (lw + 2) k = nI (y.2.2 (147 + k))
def X_lr (lw : Nat) (y : Lq) (k : Nat) (M : Mem) : Prop := M.1 lw 0 = nI (bt (fun i => (laB k y).2.2 (21 + i)) 8) ∧ M.1 (lw + 1) k = nI y.1 ∧ ∀ i, i < 8 → ¬ i = k → y.2.2 (21 + i) = 1 → M.1 (lw + 1) i = nI (y.2.2 (139 + i)) ∧ M.1 (lw + 2) i = nI (y.2.2 (147 + i))
theorem lQ_u {u lw : Nat} (hu : isTown u) (hl : isLaw lw) : ∀ j k, j ≤ 18 → ¬ lQ lw (u + j) k := fun j k hj => by
  unfold lQ
  unfold isTown at hu
  unfold isLaw at hl
  omega
theorem lP_Q {lw : Nat} : ∀ o k, lP lw o k → lQ lw o k := fun o k h => by
  unfold lP at h
  unfold lQ
  omega
theorem n4l {lw j k : Nat} (hl : isLaw lw) (hj : j ≤ 3) : ¬ (lw + j = 40 ∧ 6 ≤ k ∧ k ≤ 8) := by
  unfold isLaw at hl
  omega
theorem X_la_fx {lw : Nat} {y : Lq} {M M' : Mem} (hl : isLaw lw) (g : r_fx [(40, 6), (40, 7), (40, 8)] [] M M') (h : X_la lw y M) : X_la lw y M' := by
  have e : ∀ j k, j ≤ 3 → r_eq3 M M' (lw + j) k := fun j k hj => r_ow.fx (P := fun _ _ => False) g (lw + j) k (n4l hl hj) (fun z => z)
  exact ⟨lz_fx hl g h.1, (e 0 0 (by decide)).1.trans h.2.1, fun k hk h1 => ⟨(e 1 k (by decide)).1.trans (h.2.2 k hk h1).1, (e 2 k (by decide)).1.trans (h.2.2 k hk h1).2⟩⟩
theorem la_B {lw k : Nat} {y : Lq} {M M1 : Mem} (hl : isLaw lw) (hk : k < 8) (hz0 : y.2.2 (21 + k) = 0) (hle : ∀ i, i < 8 → y.2.2 (21 + i) ≤ 1) (h : X_la lw y M) (en : r_sI (r_sI M lw 0 (nI (bt (fun i => y.2.2 (21 + i)) 8 ||| 2 ^ k))) (lw + 1) k (nI y.1) = M1) : X_lz lw (laB k y) M1 ∧ X_lr lw y k M1 ∧ r_ow (lQ lw) M M1 ∧ ∀ T cnt s, X_rd T cnt s M → X_rd T cnt s M1 := by
  subst en
  obtain ⟨⟨a1, a2, a3⟩, b1, b2⟩ := h
  have ec : ∀ j, 155 ≤ j → (laB k y).2.2 j = y.2.2 j := fun j hj => by
    show (if j = 21 + k then 1 else if j = 139 + k then y.1 else y.2.2 j) = _
    rw [if_neg (by omega), if_neg (by omega)]
  have hb : bt (fun i => (laB k y).2.2 (21 + i)) 8 = bt (fun i => y.2.2 (21 + i)) 8 ||| 2 ^ k := by
    have := bt_up (f := fun i => y.2.2 (21 + i)) (g := fun i => (laB k y).2.2 (21 + i)) (k := k) (w := 1) hk (Nat.le_refl _) hle hz0 (fun i hi => by
      show (if 21 + i = 21 + k then 1 else if 21 + i = 139 + k then y.1 else y.2.2 (21 + i)) = _
      by_cases e : i = k
      · rw [if_pos (by omega), if_pos e]
      · rw [if_neg (by omega), if_neg (by omega), if_neg e])
    rw [this, if_pos rfl]
  refine ⟨⟨(r_sI_n (by omega)).trans ((r_sI_n (by omega)).trans a1), (r_sI_n (by omega)).trans ((r_sI_n (by omega)).trans a2), fun i hi => ?_⟩, ⟨?_, r_sI_s, fun i hi he h1 => ⟨?_, ?_⟩⟩, fun o q h1 h2 => ?_, fun T cnt s hr => ?_⟩
  · rw [ec _ (by omega), ec _ (by omega)]
    exact (r_sI_n (by omega)).trans ((r_sI_n (by omega)).trans (a3 i hi))
  · rw [hb]
    exact (r_sI_n (by omega)).trans r_sI_s
  · exact (r_sI_n (by omega)).trans ((r_sI_n (by omega)).trans (b2 i hi h1).1)
  · exact (r_sI_n (by omega)).trans ((r_sI_n (by omega)).trans (b2 i hi h1).2)
  · unfold lQ at h2
    exact ⟨(r_sI_n (by omega)).trans (r_sI_n (by omega)), rfl, rfl⟩
  · unfold isLaw at hl
    exact X_rd_eq (fun q => ⟨(r_sI_n (by omega)).trans (r_sI_n (by omega)), rfl, rfl⟩) (fun o q h1 h2 => ⟨(r_sI_n (by omega)).trans (r_sI_n (by omega)), rfl, rfl⟩) hr
theorem X_lr_ow {lw k : Nat} {y : Lq} {M M' : Mem} (hl : isLaw lw) (g : r_ow (lP lw) M M') (h : X_lr lw y k M) : X_lr lw y k M' := by
  have e : ∀ j q, j ≤ 2 → (j = 0 → q = 0) → r_eq3 M M' (lw + j) q := fun j q hj h0 => g (lw + j) q (n4l hl (by omega)) (by unfold lP; omega)
  exact ⟨(e 0 0 (by decide) (fun _ => rfl)).1.trans h.1, (e 1 k (by decide) (fun z => absurd z (by decide))).1.trans h.2.1, fun i hi he h1 => ⟨(e 1 i (by decide) (fun z => absurd z (by decide))).1.trans (h.2.2 i hi he h1).1, (e 2 i (by decide) (fun z => absurd z (by decide))).1.trans (h.2.2 i hi he h1).2⟩⟩
theorem la_E {lw k : Nat} {y r : Lq} {M M1 : Mem} (hl : isLaw lw) (hk : k < 8) (hr : ∀ j, j < 155 → r.2.2 j = (laB k y).2.2 j) (hz : X_lz lw r M) (h : X_lr lw y k M) (en : r_sI M (lw + 2) k (nI r.1) = M1) : X_la lw (laE k r) M1 ∧ r_ow (lQ lw) M M1 ∧ ∀ T cnt s, X_rd T cnt s M → X_rd T cnt s M1 := by
  subst en
  have ee : ∀ j, (laE k r).2.2 j = if j = 147 + k then r.1 else r.2.2 j := fun _ => rfl
  have eb : ∀ j, (laB k y).2.2 j = if j = 21 + k then 1 else if j = 139 + k then y.1 else y.2.2 j := fun _ => rfl
  refine ⟨⟨⟨(r_sI_n (by omega)).trans hz.1, (r_sI_n (by omega)).trans hz.2.1, fun i hi => ?_⟩, ?_, fun i hi h1 => ?_⟩, fun o q h1 h2 => ?_, fun T cnt s hr => ?_⟩
  · rw [ee, if_neg (by omega), ee, if_neg (by omega)]
    exact (r_sI_n (by omega)).trans (hz.2.2 i hi)
  · refine (r_sI_n (by omega)).trans (h.1.trans (congrArg nI (bt_cg9 8 (fun i hi => ?_))))
    rw [ee, if_neg (by omega), hr _ (by omega)]
  · rw [ee, if_neg (by omega), hr _ (by omega), eb] at h1
    rw [ee, if_neg (by omega), hr _ (by omega), eb, if_neg (by omega), ee]
    by_cases e : i = k
    · subst e
      rw [if_pos rfl, if_pos rfl]
      exact ⟨(r_sI_n (by omega)).trans h.2.1, r_sI_s⟩
    · rw [if_neg (by omega), if_neg (by omega)] at h1
      rw [if_neg (by omega), if_neg (by omega), hr _ (by omega), eb, if_neg (by omega), if_neg (by omega)]
      have q := h.2.2 i hi e h1
      exact ⟨(r_sI_n (by omega)).trans q.1, (r_sI_n (by omega)).trans q.2⟩
  · unfold lQ at h2
    exact ⟨r_sI_n (by omega), rfl, rfl⟩
  · unfold isLaw at hl
    exact X_rd_eq (fun q => ⟨r_sI_n (by omega), rfl, rfl⟩) (fun o q h1 h2 => ⟨r_sI_n (by omega), rfl, rfl⟩) hr
theorem laH_nm {T : Tx} {x : St9} {y : Lq} {s : Ps} (hx : x.1 0 ≤ 8) (h0 : s.2 = 0) (hle : ∀ i, i < 8 → y.2.2 (21 + i) ≤ 1) : laH T x y s = sMust T (decide (tK T (sNm T x.2 0 (x.1 0) (bt (fun i => y.2.2 (21 + i)) 8) s).1 = 145)) (sNm T x.2 0 (x.1 0) (bt (fun i => y.2.2 (21 + i)) 8) s) := by
  have e : sNext (if (sOld T x.2 0 (x.1 0) s).2 = 0 ∧ y.2.2 (21 + laK T x s) = 1 then sFail 5 (sOld T x.2 0 (x.1 0) s) else sOld T x.2 0 (x.1 0) s) = sNm T x.2 0 (x.1 0) (bt (fun i => y.2.2 (21 + i)) 8) s := by
    unfold sNm
    by_cases h1 : (sOld T x.2 0 (x.1 0) s).2 = 0
    · have ok := sOld_ok h1
      have hk := laK_lt ok.2.2.2
      have hb := bt_tb (f := fun i => y.2.2 (21 + i)) (n := 8) (t := laK T x s) hle (by omega)
      by_cases h2 : y.2.2 (21 + laK T x s) = 1
      · have eL : (if (sOld T x.2 0 (x.1 0) s).2 = 0 ∧ y.2.2 (21 + laK T x s) = 1 then sFail 5 (sOld T x.2 0 (x.1 0) s) else sOld T x.2 0 (x.1 0) s) = sFail 5 s := by
          rw [if_pos ⟨h1, h2⟩, ok.1]
        rw [eL, if_neg (fun z => z h1), show fN x.2 (tL T s.1) 0 (x.1 0) - 1 = laK T x s from rfl, hb, if_pos (decide_eq_true h2), sNext_f (sFail_n (by decide) h0)]
        exact if_pos h0
      · have eL : (if (sOld T x.2 0 (x.1 0) s).2 = 0 ∧ y.2.2 (21 + laK T x s) = 1 then sFail 5 (sOld T x.2 0 (x.1 0) s) else sOld T x.2 0 (x.1 0) s) = s := (if_neg (fun z => h2 z.2)).trans ok.1
        rw [eL, if_neg (fun z => z h1), show fN x.2 (tL T s.1) 0 (x.1 0) - 1 = laK T x s from rfl, hb, if_neg (fun z => h2 (of_decide_eq_true z))]
        exact if_pos h0
    · rw [if_neg (fun z => h1 z.1), if_pos h1]
      exact sNext_f h1
  unfold laH
  rw [e]

theorem l_X2_build {Q : Rq} {M0 : Mem} {T : Tx} {cnt u lw : Nat} {x : St9} {R : Nat × Lq × Ps} (tw : Tw T) (hT3 : T.2 ≤ 300) (hu : isTown u) (hl : isLaw lw) (wf : Wf x.1) (bw : X_bw u x M0) (k : ∀ M', r_ow (lQ lw) M0 M' → X_rd T cnt R.2.2 M' → (R.2.2.2 = 0 → X_la lw R.2.1 M') → Q (some (.int (r_b (decide (R.2.2.2 = 0))))) GX M') : ∀ (zw : Nat) (i : Nat) (f : Nat) (c : Nat) (y : Lq) (s : Ps) (M : Mem), 300 - i = zw → (801 ≤ f + s.1) → (s.2 = 0) → (X_rd T cnt s M) → (X_la lw y M) → (laV x y) → (2 * y.1 ≤ tp T s.1) → (2 * i ≤ s.1) → (i = 0 ∨ s.1 ≤ 300) → (laP T x f c y s = R) → (r_ow (lQ lw) M0 M) → Ru 19 mt_X2_build r_z 6 [(0, some (.ref lw)), (1, some (.ref 40)), (2, some (.ref (u + 1))), (3, some (.int (nI i)))] [] GX M Q := by
  intro zw
  induction zw using Nat.strongRecOn with
  | ind zw ih =>
    intro i f c y s M hw hf9 h0 hr hla hV hB hi2 hi3 hR cw
    subst hw
    have npu := lQ_u hu hl
    have hx12 : x.1 0 ≤ 12 := Nat.le_trans wf.1.1 (by decide)
    refine Ru_iload_n (pc := 6) dX2_build_6 rfl rfl ?_
    refine Ru_sipush (pc := 7) (nI 300) dX2_build_7 rfl ?_
    refine Ru_icmp_geN (pc := 10) 111 dX2_build_10 (by decide) (by omega) (fun h1 => ?_) (fun h1 => ?_)
    · exfalso
      omega
    · refine Ru_aload_n (pc := 13) dX2_build_13 rfl rfl ?_
      refine Ru_cv0 (pc := 14) dX2_build_14 mv_X2_34 rfl (by omega) (Nat.le_of_ble_eq_true rfl) (c_X8_kind (s := s) tw hr h0 ?_) 
      refine Ru_if_eqN (pc := 17) 111 dX2_build_17 (by decide) (by have := tK_155 T s.1; omega) (fun h2 => ?_) (fun h2 => ?_)
      · refine Ru_iconst (pc := 111) (nI 1) dX2_build_111 rfl ?_
        refine Ru_zret (pc := 112) dX2_build_112 rfl ⟨Nat.le_refl _, Nat.le_refl _⟩ (Or.inr rfl) ?_
        have hk0 : tK T s.1 = 0 := by omega
        have eR : R = (c, y, s) := by
          rw [← hR]
          exact laP_end hk0 f
        have hn : R.2.2.2 = 0 := by
          rw [eR]
          exact h0
        exact r_qe (r_b_t (decide_eq_true hn)) (k M cw (by rw [eR]; exact hr) (fun _ => by rw [eR]; exact hla))
      · have hK9 : ¬ tK T s.1 = 0 := h2
        have hhd : (bt (fun i => y.2.2 (21 + i)) 8) < 256 := bt_lt (n := 8) (fun i hi => (hV.2.1 i hi).1)
        have eH := laH_nm (T := T) (s := s) wf.1.1 h0 (fun i hi => (hV.2.1 i hi).1)
        refine Ru_aload_n (pc := 20) dX2_build_20 rfl rfl ?_
        refine Ru_aload_n (pc := 21) dX2_build_21 rfl rfl ?_
        refine Ru_aload_n (pc := 22) dX2_build_22 rfl rfl ?_
        refine Ru_getI (pc := 23) dX2_build_23 fl_X2_21 (shLaw_0 hl) rfl ?_
        refine Ru_top hla.2.1 ?_
        refine Ru_cv2 (pc := 26) dX2_build_26 mv_X2_40 rfl (by omega) (Nat.le_of_ble_eq_true rfl) (c_X8_named (s := s) (W := x.2) (b := 0) (n := x.1 0) (had := (bt (fun i => y.2.2 (21 + i)) 8)) tw hr h0 (isNames_t hu).1 ((cw (u + 1) 2 (n40 hu (by decide)) (npu 1 2 (by decide))).1.trans bw.1.1) hx12 (fun k hk => ⟨(cw (u + 1 + 1) k (n40 (j := 2) hu (by decide)) (npu 2 k (by decide))).2.1.trans (bw.2.1 k hk).1, (bw.2.1 k hk).2⟩) hhd (fun M2 gx2 hr2 => ?_)) 
        have cw2 := cw.fx1 gx2
        have la2 := X_la_fx hl gx2 hla
        refine Ru_istore (pc := 29) dX2_build_29 rfl (by decide) ?_
        refine Ru_iload (pc := 31) dX2_build_31 rfl ?_
        refine Ru_iconst (pc := 33) (-1) dX2_build_33 rfl ?_
        refine Ru_icmp_eqT (pc := 34) 47 dX2_build_34 (by decide) (fun h3 => ?_) (fun h3 => ?_)
        · have heq := h3
          refine Ru_iconst (pc := 47) (nI 0) dX2_build_47 rfl ?_
          refine Ru_zret (pc := 48) dX2_build_48 rfl ⟨Nat.le_refl _, Nat.le_refl _⟩ (Or.inl rfl) ?_
          obtain ⟨f', rfl⟩ : ∃ f', f = f' + 1 := ⟨f - 1, by have := (tK_i tw (i := s.1) hK9).1; omega⟩
          have hnm : ¬ (sNm T x.2 0 (x.1 0) (bt (fun i => y.2.2 (21 + i)) 8) s).2 = 0 := (numb_iff _ (show fN x.2 (tL T s.1) 0 (x.1 0) - 1 < 2147483648 by have := fN_le x.2 (tL T s.1) 0 (x.1 0); omega)).mp heq
          have eF : laH T x y s = (sNm T x.2 0 (x.1 0) (bt (fun i => y.2.2 (21 + i)) 8) s) := eH.trans (sMust_f hnm)
          have hHf : ¬ (laH T x y s).2 = 0 := by
            rw [eF]
            exact hnm
          have e9 : R.2.2 = laH T x y s := by
            rw [← hR, laP, if_neg hK9, if_pos hHf]
          rw [eF] at e9
          have hn : ¬ R.2.2.2 = 0 := by
            rw [e9]
            exact hnm
          exact r_qe (r_b_f (decide_eq_false hn)) (k M2 cw2 (by rw [e9]; exact hr2) (fun q => absurd q hn))
        · have hne := h3
          have hz1 : (sNm T x.2 0 (x.1 0) (bt (fun i => y.2.2 (21 + i)) 8) s).2 = 0 := Classical.byContradiction (fun q => hne ((numb_iff _ (show fN x.2 (tL T s.1) 0 (x.1 0) - 1 < 2147483648 by have := fN_le x.2 (tL T s.1) 0 (x.1 0); omega)).mpr q))
          refine Ru_weak (L' := [(0, some (.ref lw)), (1, some (.ref 40)), (2, some (.ref (u + 1))), (3, some (.int (nI i))), (4, some (.int (nI (laK T x s))))]) ?_ (by rw [if_pos hz1]; rfl)
          refine Ru_aload_n (pc := 37) dX2_build_37 rfl rfl ?_
          refine Ru_sipush (pc := 38) (nI 145) dX2_build_38 rfl ?_
          refine Ru_cv1 (pc := 41) dX2_build_41 mv_X2_44 rfl (by omega) (Nat.le_of_ble_eq_true rfl) (c_X8_expect (s := (sNm T x.2 0 (x.1 0) (bt (fun i => y.2.2 (21 + i)) 8) s)) (w := 145) tw hr2 hz1 (by decide) (fun M3 gx3 hr3 => ?_)) 
          rw [← eH] at hr3 ⊢
          have cw3 := cw2.fx1 gx3
          have la3 := X_la_fx hl gx3 la2
          refine Ru_if_neB (pc := 44) 49 dX2_build_44 (by decide) (fun h4 => ?_) (fun h4 => ?_)
          · replace h4 := of_decide_eq_true h4
            have hH0 := h4
            have oh := laH_ok hH0
            have hk9 := laK_lt oh.2.2.2.1
            have hx8 := wf.1.1
            have hf0 : y.2.2 (21 + (laK T x s)) = 0 := by
              have h1 := (hV.2.1 (laK T x s) (by omega)).1
              have h2 := oh.2.2.2.2.1
              omega
            have hB2 : 2 * y.1 ≤ tp T (laH T x y s).1 := by
              have t1 := tpq1 tw (i := s.1)
              have t2 := tpq1 tw (i := s.1 + 1)
              rw [oh.1]
              show 2 * y.1 ≤ tp T (s.1 + 1 + 1)
              omega
            refine Ru_aload_n (pc := 49) dX2_build_49 rfl rfl ?_
            refine Ru_dup (pc := 50) dX2_build_50 rfl ?_
            refine Ru_getI (pc := 51) dX2_build_51 fl_X2_21 (shLaw_0 hl) rfl ?_
            refine Ru_top la3.2.1 ?_
            refine Ru_iconst (pc := 54) (nI 1) dX2_build_54 rfl ?_
            refine Ru_iload (pc := 55) dX2_build_55 rfl ?_
            refine Ru_ishl1N (pc := 57) dX2_build_57 (by omega) ?_
            refine Ru_iorN (pc := 58) dX2_build_58 ?_
            refine Ru_putI (pc := 59) rfl dX2_build_59 fl_X2_21 (shLaw_0 hl) ?_
            refine Ru_aload_n (pc := 62) dX2_build_62 rfl rfl ?_
            refine Ru_getR (pc := 63) (lw + 1) dX2_build_63 fl_X2_9 (shLaw_0 hl) rfl (rfX_of (o := lw) (j := 1) (shLaw_0 hl) rfl) ?_
            refine Ru_iload (pc := 66) dX2_build_66 rfl ?_
            refine Ru_aload_n (pc := 68) dX2_build_68 rfl rfl ?_
            refine Ru_getI (pc := 69) dX2_build_69 fl_X2_25 (shLaw_0 hl) rfl ?_
            refine Ru_top ((r_sI_n (by omega)).trans la3.1.1) ?_
            refine Ru_iast (pc := 72) rfl dX2_build_72 (shLaw_1 hl) (by omega) ?_
            generalize en4 : r_sI (r_sI M3 lw 0 (nI ((bt (fun i => y.2.2 (21 + i)) 8) ||| 2 ^ (laK T x s)))) (lw + 1) (laK T x s) (nI y.1) = M4
            have q4 := la_B hl (show (laK T x s) < 8 by omega) hf0 (fun i hi => (hV.2.1 i hi).1) la3 en4
            have hz4 := q4.1
            have lr4 := q4.2.1
            have cw4 := cw3.tr q4.2.2.1
            have hr4 := q4.2.2.2 T cnt _ hr3
            refine Ru_aload_n (pc := 73) dX2_build_73 rfl rfl ?_
            refine Ru_aload_n (pc := 74) dX2_build_74 rfl rfl ?_
            refine Ru_aload_n (pc := 75) dX2_build_75 rfl rfl ?_
            refine Ru_iconst (pc := 76) (nI 0) dX2_build_76 rfl ?_
            refine Ru_cv3 (pc := 77) dX2_build_77 mv_X2_48 (shLaw_0 hl) (by omega) (Nat.le_of_ble_eq_true rfl) (t_X2_top tw hT3 hu hl wf _ M4 (laH T x y s) (laB (laK T x s) y) hH0 hr4 (X_bw_ow hu cw4 npu bw) hz4 hV.1 hB2 (fun M5 ow5 (hr5 : X_rd T cnt (laR1 T x y s).2 M5) (hz5 : (laR1 T x y s).2.2 = 0 → X_lz lw (laR1 T x y s).1 M5) => ?_)) 
            have cw5 := cw4.tr (ow5.mn lP_Q)
            have lr5 := X_lr_ow hl ow5 lr4
            refine Ru_if_eqB (pc := 80) 92 dX2_build_80 (by decide) (fun h5 => ?_) (fun h5 => ?_)
            · replace h5 := of_decide_eq_false h5
              have hEf : ¬ (laR1 T x y s).2.2 = 0 := h5
              refine Ru_iconst (pc := 92) (nI 0) dX2_build_92 rfl ?_
              refine Ru_zret (pc := 93) dX2_build_93 rfl ⟨Nat.le_refl _, Nat.le_refl _⟩ (Or.inl rfl) ?_
              obtain ⟨f', rfl⟩ : ∃ f', f = f' + 1 := ⟨f - 1, by have := (tK_i tw (i := s.1) hK9).1; omega⟩
              have eS9 : (laS T x y s) = (laR1 T x y s).2 := sMust_f hEf
              have hSf : ¬ (laS T x y s).2 = 0 := by
                rw [eS9]
                exact hEf
              have e9 : R.2.2 = (laS T x y s) := by
                rw [← hR, laP, if_neg hK9, if_neg (fun w => w hH0), if_pos hSf]
              rw [eS9] at e9
              have hn : ¬ R.2.2.2 = 0 := by
                rw [e9]
                exact hEf
              exact r_qe (r_b_f (decide_eq_false hn)) (k M5 cw5 (by rw [e9]; exact hr5) (fun q => absurd q hn))
            · replace h5 := of_decide_eq_true h5
              have hE0 : (laR1 T x y s).2.2 = 0 := h5
              refine Ru_aload_n (pc := 83) dX2_build_83 rfl rfl ?_
              refine Ru_bipush (pc := 84) (nI 59) dX2_build_84 rfl ?_
              refine Ru_cv1 (pc := 86) dX2_build_86 mv_X2_44 rfl (by omega) (Nat.le_of_ble_eq_true rfl) (c_X8_expect (s := (laR1 T x y s).2) (w := 59) tw hr5 hE0 (by decide) (fun M6 gx6 (hr6 : X_rd T cnt (laS T x y s) M6) => ?_)) 
              have cw6 := cw5.fx1 gx6
              have hz6 := lz_fx hl gx6 (hz5 hE0)
              have lr6 := X_lr_ow hl (r_ow.fx gx6) lr5
              refine Ru_if_neB (pc := 89) 94 dX2_build_89 (by decide) (fun h6 => ?_) (fun h6 => ?_)
              · replace h6 := of_decide_eq_true h6
                have hS0 : (laS T x y s).2 = 0 := h6
                refine Ru_aload_n (pc := 94) dX2_build_94 rfl rfl ?_
                refine Ru_getR (pc := 95) (lw + 2) dX2_build_95 fl_X2_15 (shLaw_0 hl) rfl (rfX_of (o := lw) (j := 2) (shLaw_0 hl) rfl) ?_
                refine Ru_iload (pc := 98) dX2_build_98 rfl ?_
                refine Ru_aload_n (pc := 100) dX2_build_100 rfl rfl ?_
                refine Ru_getI (pc := 101) dX2_build_101 fl_X2_25 (shLaw_0 hl) rfl ?_
                refine Ru_top hz6.1 ?_
                refine Ru_iast (pc := 104) rfl dX2_build_104 (shLaw_2 hl) (by omega) ?_
                refine Ru_iincN (pc := 105) 1 dX2_build_105 rfl rfl rfl (by decide) ?_
                refine Ru_goto (pc := 108) 6 dX2_build_108 (by decide) ?_
                generalize en7 : r_sI M6 (lw + 2) (laK T x s) (nI (laR1 T x y s).1.1) = M7
                have w5 := (laR1_w tw wf.1.1 hV.1 hH0 hE0).2.2.2.2.1
                have q7 := la_E (r := (laR1 T x y s).1) hl (show (laK T x s) < 8 by omega) (fun j hj => w5 j (by omega)) hz6 lr6 en7
                have hVs := laV_s (x := x) tw hT3 wf.1.1 hB hH0 hS0 hV
                have cw7 := cw6.tr q7.2.1
                have hr7 := q7.2.2 T cnt _ hr6
                have hp9 : (laS T x y s).1 ≤ 300 := by
                  have o1 := sMust_ok (show (sMust T (decide (tK T (laR1 T x y s).2.1 = 59)) (laR1 T x y s).2).2 = 0 from hS0)
                  have e7 : (laS T x y s) = ((laR1 T x y s).2.1 + 1, 0) := o1.2.2
                  have k9 : tK T (laR1 T x y s).2.1 = 59 := of_decide_eq_true o1.2.1
                  have h9 := tK_i tw (i := (laR1 T x y s).2.1) (by omega)
                  rw [e7]
                  show (laR1 T x y s).2.1 + 1 ≤ 300
                  omega
                obtain ⟨f', rfl⟩ : ∃ f', f = f' + 1 := ⟨f - 1, by have := (tK_i tw (i := s.1) hK9).1; omega⟩
                refine Ru_weak (ih (300 - (i + 1)) (by omega) (i + 1) f' (c + 1) (laE (laK T x s) (laR1 T x y s).1) (laS T x y s) M7 rfl (by have := hVs.2.2; omega) hS0 hr7 q7.1 hVs.1 hVs.2.1 (by have := hVs.2.2; omega) (Or.inr hp9) ?_ cw7) rfl
                rw [← hR, laP, if_neg hK9, if_neg (fun w => w hH0), if_neg (fun w => w hS0)]
              · replace h6 := of_decide_eq_false h6
                have hSf : ¬ (laS T x y s).2 = 0 := h6
                refine Ru_iconst (pc := 92) (nI 0) dX2_build_92 rfl ?_
                refine Ru_zret (pc := 93) dX2_build_93 rfl ⟨Nat.le_refl _, Nat.le_refl _⟩ (Or.inl rfl) ?_
                obtain ⟨f', rfl⟩ : ∃ f', f = f' + 1 := ⟨f - 1, by have := (tK_i tw (i := s.1) hK9).1; omega⟩
                have e9 : R.2.2 = (laS T x y s) := by
                  rw [← hR, laP, if_neg hK9, if_neg (fun w => w hH0), if_pos hSf]
                have hn : ¬ R.2.2.2 = 0 := by
                  rw [e9]
                  exact hSf
                exact r_qe (r_b_f (decide_eq_false hn)) (k M6 cw6 (by rw [e9]; exact hr6) (fun q => absurd q hn))
          · replace h4 := of_decide_eq_false h4
            have hHf := h4
            refine Ru_iconst (pc := 47) (nI 0) dX2_build_47 rfl ?_
            refine Ru_zret (pc := 48) dX2_build_48 rfl ⟨Nat.le_refl _, Nat.le_refl _⟩ (Or.inl rfl) ?_
            obtain ⟨f', rfl⟩ : ∃ f', f = f' + 1 := ⟨f - 1, by have := (tK_i tw (i := s.1) hK9).1; omega⟩
            have e9 : R.2.2 = laH T x y s := by
              rw [← hR, laP, if_neg hK9, if_pos hHf]
            have hn : ¬ R.2.2.2 = 0 := by
              rw [e9]
              exact hHf
            exact r_qe (r_b_f (decide_eq_false hn)) (k M3 cw3 (by rw [e9]; exact hr3) (fun q => absurd q hn))

theorem la_0 {lw : Nat} (hl : isLaw lw) (g : Td) (M : Mem) : X_la lw (0, 0, (fun j => if 21 ≤ j ∧ j < 29 then 0 else g j)) (r_sI (r_sI (r_sI M lw 0 (nI 0)) lw 4 (nI 0)) lw 5 (nI 0)) ∧ r_ow (lQ lw) M (r_sI (r_sI (r_sI M lw 0 (nI 0)) lw 4 (nI 0)) lw 5 (nI 0)) ∧ ∀ T cnt s, X_rd T cnt s M → X_rd T cnt s (r_sI (r_sI (r_sI M lw 0 (nI 0)) lw 4 (nI 0)) lw 5 (nI 0)) := by
  have z : ∀ k, k < 8 → ((fun j => if 21 ≤ j ∧ j < 29 then 0 else g j) : Td) (21 + k) = 0 := fun k hk => if_pos ⟨by omega, by omega⟩
  refine ⟨⟨⟨(r_sI_n (by omega)).trans r_sI_s, r_sI_s, fun i hi => absurd hi (Nat.not_lt_zero _)⟩, ?_, fun k hk h1 => absurd ((z k hk).symm.trans h1) (by decide)⟩, fun o k h1 h2 => ?_, fun T cnt s hr => ?_⟩
  · refine (r_sI_n (by omega)).trans ((r_sI_n (by omega)).trans (r_sI_s.trans (congrArg nI ?_)))
    exact (bt_cg9 (f := fun _ => 0) 8 (fun i hi => (z i hi).symm))
  · unfold lQ at h2
    exact ⟨(r_sI_n (by omega)).trans ((r_sI_n (by omega)).trans (r_sI_n (by omega))), rfl, rfl⟩
  · unfold isLaw at hl
    exact X_rd_eq (fun q => ⟨(r_sI_n (by omega)).trans ((r_sI_n (by omega)).trans (r_sI_n (by omega))), rfl, rfl⟩) (fun o q h1 h2 => ⟨(r_sI_n (by omega)).trans ((r_sI_n (by omega)).trans (r_sI_n (by omega))), rfl, rfl⟩) hr
theorem c_X2_build {Q : Rq} {M : Mem} {T : Tx} {cnt u lw : Nat} {x : St9} {g : Td} (tw : Tw T) (hT3 : T.2 ≤ 300) (hu : isTown u) (hl : isLaw lw) (wf : Wf x.1) (bw : X_bw u x M) (hr : X_rd T cnt (0, 0) M) (k : ∀ M', r_ow (lQ lw) M M' → X_rd T cnt (laR T x g).2.2 M' → ((laR T x g).2.2.2 = 0 → X_la lw (laR T x g).2.1 M') → Q (some (.int (r_b (decide ((laR T x g).2.2.2 = 0))))) GX M') : Ca 19 mt_X2_build 0 0 [.ref lw, .ref 40, .ref (u + 1)] GX M Q := by
  refine Ca_of rfl (Nat.le_of_ble_eq_true rfl) ?_
  refine Ru_aload_n (pc := 0) dX2_build_0 rfl rfl ?_
  refine Ru_cv0 (pc := 1) dX2_build_1 mv_X2_31 (shLaw_0 hl) (by decide) (Nat.le_of_ble_eq_true rfl) (c_X2_clear hl ?_)
  refine Ru_iconst (pc := 4) (nI 0) dX2_build_4 rfl ?_
  refine Ru_istore_n (pc := 5) dX2_build_5 rfl rfl (by decide) ?_
  have q0 := la_0 hl g M
  exact Ru_weak (l_X2_build (M0 := M) (R := (laR T x g)) tw hT3 hu hl wf bw k 300 0 801 0 (0, 0, (fun j => if 21 ≤ j ∧ j < 29 then 0 else g j)) (0, 0) _ rfl (Nat.le_refl _) rfl (q0.2.2 T cnt _ hr) q0.1 (laV_0 x g) (Nat.zero_le _) (Nat.zero_le _) (Or.inl rfl) rfl q0.2.1) rfl
/-- the cells that law may change -/
def lT (t lw2 o k : Nat) : Prop := lQ lw2 o k ∨ (o = 0 ∧ (k = 0 ∨ k = 7)) ∨ (o = t ∧ k = 19) ∨ (o = 40 ∧ (k = 1 ∨ (6 ≤ k ∧ k ≤ 8))) ∨ (43 ≤ o ∧ o ≤ 45)
theorem X_la_kp9 {lw : Nat} {y : Lq} {M M' : Mem} (h : X_la lw y M) (g : ∀ j k, j ≤ 3 → M'.1 (lw + j) k = M.1 (lw + j) k) : X_la lw y M' := by
  obtain ⟨⟨a1, a2, a3⟩, b1, b2⟩ := h
  exact ⟨⟨(g 0 4 (by decide)).trans a1, (g 0 5 (by decide)).trans a2, fun i hi => (g 3 i (by decide)).trans (a3 i hi)⟩, (g 0 0 (by decide)).trans b1, fun k hk h1 => ⟨(g 1 k (by decide)).trans (b2 k hk h1).1, (g 2 k (by decide)).trans (b2 k hk h1).2⟩⟩

theorem c_X11_law {Q : Rq} {M : Mem} {mk t lw lw2 pl : Nat} {d g : Td} {x : St9} {tp : Nat × (Nat → Int32)} {n : Int32} (hcu : X_cu mk t lw pl d M) (bw : X_bw t x M) (wf : Wf x.1) (hsp : M.2.2 0 7 = some lw2) (hl : isLaw lw2) (hy : X_tp tp M) (hwt : ∀ k, k < tp.1 → -128 ≤ (tp.2 k).toInt ∧ (tp.2 k).toInt ≤ 127) (hrs : X_rs M) (k5 : ¬ (0 ≤ n.toInt ∧ n.toInt ≤ (tp.1 : Int) ∧ n.toInt ≤ ((300 : Nat) : Int)) → Q (some (.int (-1))) GX (r_sI M 0 0 (nI 5))) (k10 : ∀ n', n = nI n' → n' ≤ tp.1 → n' ≤ 300 → (¬ (laR (txT tp n') x g).2.2.2 = 0) → ∀ M', (∀ o k, ¬ lT t lw2 o k → r_eq3 M M' o k) → M'.1 0 0 = nI 10 → M'.1 40 1 = nI 0 → X_ft (nI (laR (txT tp n') x g).2.2.2, nI (tA (txT tp n') (laR (txT tp n') x g).2.2.1)) M' → M'.2.2 0 7 = some lw2 → M'.2.2 t 19 = some lw → Q (some (.int (-1))) GX M') (k0 : ∀ n', n = nI n' → n' ≤ tp.1 → n' ≤ 300 → (laR (txT tp n') x g).2.2.2 = 0 → ∀ M', (∀ o k, ¬ lT t lw2 o k → r_eq3 M M' o k) → M'.1 0 0 = nI 0 → M'.1 40 1 = nI 0 → X_ft (nI 0, -1) M' → X_la lw2 (laR (txT tp n') x g).2.1 M' → M'.2.2 0 7 = some lw → M'.2.2 t 19 = some lw2 → Q (some (.int (nI (laR (txT tp n') x g).1))) GX M') : Ca 20 mt_X11_law 0 0 [.ref 0, .int n] GX M Q := by
  refine Ca_of rfl (Nat.le_of_ble_eq_true rfl) ?_
  have ht : isTown t := hcu.1.2.2.2
  have hT : t = 3 ∨ t = 83 ∨ t = 111 ∨ t = 139 ∨ t = 167 := ht
  have hP9 : lw2 = 22 ∨ lw2 = 31 ∨ lw2 = 102 ∨ lw2 = 130 ∨ lw2 = 158 ∨ lw2 = 186 := hl
  refine Ru_aload_n (pc := 0) dX11_law_0 rfl rfl ?_
  refine Ru_iload_n (pc := 1) dX11_law_1 rfl rfl ?_
  refine Ru_sipush (pc := 2) (nI 300) dX11_law_2 rfl ?_
  refine Ru_cv2 (pc := 5) dX11_law_5 mv_X11_144 rfl (by decide) (Nat.le_of_ble_eq_true rfl) (c_X11_isText (tp := tp) (most := 300) hy (by decide) ?_) 
  refine Ru_if_neB (pc := 8) 17 dX11_law_8 (by decide) (fun h1 => ?_) (fun h1 => ?_)
  · replace h1 := of_decide_eq_true h1
    have hok := h1
    have en : n = nI n.toInt.toNat := nI_pos9 hok.1
    have hn1 : n.toInt.toNat ≤ tp.1 := by omega
    have hn2 : n.toInt.toNat ≤ 300 := by omega
    clear hok k5
    generalize n.toInt.toNat = n' at en hn1 hn2
    subst en
    have tw := txT_w tp (show n' ≤ 800 by omega)
    refine Ru_aload_n (pc := 17) dX11_law_17 rfl rfl ?_
    refine Ru_getR (pc := 18) 40 dX11_law_18 fl_X11_47 rfl rfl (rfX_of (o := 0) (j := 40) rfl rfl) ?_
    refine Ru_iload_n (pc := 21) dX11_law_21 rfl rfl ?_
    refine Ru_cv1 (pc := 22) dX11_law_22 mv_X11_147 rfl (by decide) (Nat.le_of_ble_eq_true rfl) (c_X8_begin (tp := tp) hy hwt hrs hn1 (fun M2 cnt gx2 h12 htk h72 h82 => ?_)) 
    have hr2 : X_rd (txT tp n') cnt (0, 0) M2 := ⟨fun _ => htk, h72, h82⟩
    have gm : ∀ o k, ¬ (o = 40 ∧ (k = 1 ∨ (6 ≤ k ∧ k ≤ 8))) → ¬ (43 ≤ o ∧ o ≤ 45) → r_eq3 M M2 o k := fun o k h1 h2 => gx2 o k (by
      simp [r_in]
      omega)
    have bw2 : X_bw t x M2 := X_bw_ow (P := fun o k => (o = 40 ∧ k = 1) ∨ (43 ≤ o ∧ o ≤ 45)) ht (fun o k h1 h2 => gm o k (by omega) (by omega)) (fun j k hj => by omega) bw
    have f05 := gm 0 5 (by omega) (by omega)
    have f07 := gm 0 7 (by omega) (by omega)
    have f2k := gm 2 mk (by omega) (by omega)
    refine Ru_aload_n (pc := 25) dX11_law_25 rfl rfl ?_
    refine Ru_getR (pc := 26) lw2 dX11_law_26 fl_X11_33 rfl rfl ((rfX_mut rfl rfl).trans (f07.2.2.trans hsp)) ?_
    refine Ru_aload_n (pc := 29) dX11_law_29 rfl rfl ?_
    refine Ru_getR (pc := 30) 40 dX11_law_30 fl_X11_47 rfl rfl (rfX_of (o := 0) (j := 40) rfl rfl) ?_
    refine Ru_aload_n (pc := 33) dX11_law_33 rfl rfl ?_
    refine Ru_cv0 (pc := 34) dX11_law_34 mv_X11_154 rfl (by decide) (Nat.le_of_ble_eq_true rfl) (c_X11_nowR (mk := mk) (t := t) (f05.1.trans hcu.1.1) hcu.1.2.1 (f2k.2.2.trans hcu.1.2.2.1) ht ?_) 
    refine Ru_getR (pc := 37) (t + 1) dX11_law_37 fl_X11_161 (shTown_0 ht) rfl (rfX_of (o := t) (j := 1) (shTown_0 ht) rfl) ?_
    refine Ru_cv2 (pc := 40) dX11_law_40 mv_X11_173 (shLaw_0 hl) (by decide) (Nat.le_of_ble_eq_true rfl) (c_X2_build (x := x) (g := g) tw hn2 ht hl wf bw2 hr2 (fun M3 ow3 hr3 hg3 => ?_)) 
    have nb : ∀ o k, ¬ lQ lw2 o k → ¬ (o = 40 ∧ (k = 1 ∨ (6 ≤ k ∧ k ≤ 8))) → ¬ (43 ≤ o ∧ o ≤ 45) → r_eq3 M M3 o k := fun o k h1 h2 h3 => e3t (gm o k h2 h3) (ow3 o k (by omega) h1)
    have h13 : M3.1 40 1 = nI 0 := (ow3 40 1 (by omega) (by unfold lQ; omega)).1.trans h12
    have e05 := nb 0 5 (by unfold lQ; omega) (by omega) (by omega)
    have e07 := nb 0 7 (by unfold lQ; omega) (by omega) (by omega)
    have e2k := nb 2 mk (by unfold lQ; omega) (by omega) (by omega)
    have et := nb t 19 (by unfold lQ; omega) (by omega) (by omega)
    refine Ru_if_neB (pc := 43) 53 dX11_law_43 (by decide) (fun h2 => ?_) (fun h2 => ?_)
    · replace h2 := of_decide_eq_true h2
      have hz3 := h2
      have hla := hg3 hz3
      have hbt : (bt (fun i => (laR (txT tp n') x g).2.1.2.2 (21 + i)) 8) < 256 := bt_lt (n := 8) (fun i hi => ((laR_w tw hn2 wf.1.1 g hz3).1.2.1 i hi).1)
      refine Ru_aload_n (pc := 53) dX11_law_53 rfl rfl ?_
      refine Ru_cv0 (pc := 54) dX11_law_54 mv_X11_154 rfl (by decide) (Nat.le_of_ble_eq_true rfl) (c_X11_nowR (mk := mk) (t := t) (e05.1.trans hcu.1.1) hcu.1.2.1 (e2k.2.2.trans hcu.1.2.2.1) ht ?_) 
      refine Ru_getR (pc := 57) lw dX11_law_57 fl_X11_176 (shTown_0 ht) rfl ((rfX_mut (shTown_0 ht) rfl).trans (et.2.2.trans hcu.2.1.1)) ?_
      refine Ru_astore_n (pc := 60) dX11_law_60 rfl rfl (by decide) ?_
      refine Ru_aload_n (pc := 61) dX11_law_61 rfl rfl ?_
      refine Ru_cv0 (pc := 62) dX11_law_62 mv_X11_154 rfl (by decide) (Nat.le_of_ble_eq_true rfl) (c_X11_nowR (mk := mk) (t := t) (e05.1.trans hcu.1.1) hcu.1.2.1 (e2k.2.2.trans hcu.1.2.2.1) ht ?_) 
      refine Ru_aload_n (pc := 65) dX11_law_65 rfl rfl ?_
      refine Ru_getR (pc := 66) lw2 dX11_law_66 fl_X11_33 rfl rfl ((rfX_mut rfl rfl).trans (e07.2.2.trans hsp)) ?_
      refine Ru_putR (pc := 69) rfl dX11_law_69 fl_X11_176 (shTown_0 ht) (frX_none (o := t) (ci := 9) (k := 19) (shTown_0 ht) rfl) ?_
      refine Ru_aload_n (pc := 72) dX11_law_72 rfl rfl ?_
      refine Ru_aload_n (pc := 73) dX11_law_73 rfl rfl ?_
      refine Ru_putR (pc := 74) rfl dX11_law_74 fl_X11_33 rfl (frX_none (o := 0) (ci := 11) (k := 7) rfl rfl) ?_
      refine Ru_aload_n (pc := 77) dX11_law_77 rfl rfl ?_
      refine Ru_aload_n (pc := 78) dX11_law_78 rfl rfl ?_
      refine Ru_cv0 (pc := 79) dX11_law_79 mv_X11_154 rfl (by decide) (Nat.le_of_ble_eq_true rfl) (c_X11_nowR (mk := mk) (t := t) (e05.1.trans hcu.1.1) hcu.1.2.1 (by rw [r_sR_g, if_neg (by omega), r_sR_g, if_neg (by omega)]; exact e2k.2.2.trans hcu.1.2.2.1) ht ?_) 
      refine Ru_getR (pc := 82) lw2 dX11_law_82 fl_X11_176 (shTown_0 ht) rfl ((rfX_mut (shTown_0 ht) rfl).trans (by rw [r_sR_g, if_neg (by omega)]; exact r_sR_s)) ?_
      refine Ru_getI (pc := 85) dX11_law_85 fl_X11_179 (shLaw_0 hl) rfl ?_
      refine Ru_top hla.2.1 ?_
      refine Ru_cs1 (pc := 88) dX11_law_88 ms_X11_182 (by decide) (Nat.le_of_ble_eq_true rfl) (c_bitCount_X (s := (bt (fun i => (laR (txT tp n') x g).2.1.2.2 (21 + i)) 8)) hbt ?_) 
      refine Ru_cv1 (pc := 91) dX11_law_91 mv_X11_170 rfl (by decide) (Nat.le_of_ble_eq_true rfl) (c_X11_tell ?_) 
      refine Ru_iret (pc := 94) dX11_law_94 rfl ⟨Nat.le_refl _, Nat.le_refl _⟩ ?_
      have hw3 := laR_w tw hn2 wf.1.1 g hz3
      rw [pop8_bt (fun i hi => (hw3.1.2.1 i hi).1), ← hw3.2.1]
      refine k0 n' rfl hn1 hn2 hz3 (r_sI (r_sR (r_sR M3 t 19 (some lw2)) 0 7 (some lw)) 0 0 (nI 0)) (fun o k h => ?_) r_sI_s ((r_sI_n (by decide)).trans h13) ⟨(r_sI_n (by decide)).trans (hr3.2.1.trans (congrArg nI hz3)), (r_sI_n (by decide)).trans (hr3.2.2.trans (if_pos hz3))⟩ (X_la_kp9 hla (fun j k hj => r_sI_n (by omega))) ?_ ?_
      · unfold lT at h
        have e := nb o k (fun q => h (Or.inl q)) (by omega) (by omega)
        refine ⟨(r_sI_n (by omega)).trans e.1, e.2.1, ?_⟩
        show (r_sR (r_sR M3 t 19 (some lw2)) 0 7 (some lw)).2.2 o k = _
        rw [r_sR_g, if_neg (by omega), r_sR_g, if_neg (by omega)]
        exact e.2.2
      · show (r_sR (r_sR M3 t 19 (some lw2)) 0 7 (some lw)).2.2 0 7 = _
        exact r_sR_s
      · show (r_sR (r_sR M3 t 19 (some lw2)) 0 7 (some lw)).2.2 t 19 = _
        rw [r_sR_g, if_neg (by omega)]
        exact r_sR_s
    · replace h2 := of_decide_eq_false h2
      have hzf := h2
      refine Ru_aload_n (pc := 46) dX11_law_46 rfl rfl ?_
      refine Ru_bipush (pc := 47) (nI 10) dX11_law_47 rfl ?_
      refine Ru_cv1 (pc := 49) dX11_law_49 mv_X11_112 rfl (by decide) (Nat.le_of_ble_eq_true rfl) (c_X11_fail ?_) 
      refine Ru_iret (pc := 52) dX11_law_52 rfl ⟨Nat.le_refl _, Nat.le_refl _⟩ ?_
      refine k10 n' rfl hn1 hn2 hzf _ (fun o k h => ?_) r_sI_s ((r_sI_n (by decide)).trans h13) ⟨(r_sI_n (by decide)).trans hr3.2.1, (r_sI_n (by decide)).trans (hr3.2.2.trans (if_neg hzf))⟩ (e07.2.2.trans hsp) (et.2.2.trans hcu.2.1.1)
      unfold lT at h
      have e := nb o k (fun q => h (Or.inl q)) (by omega) (by omega)
      exact ⟨(r_sI_n (by omega)).trans e.1, e.2.1, e.2.2⟩
  · replace h1 := of_decide_eq_false h1
    have hok := h1
    refine Ru_aload_n (pc := 11) dX11_law_11 rfl rfl ?_
    refine Ru_iconst (pc := 12) (nI 5) dX11_law_12 rfl ?_
    refine Ru_cv1 (pc := 13) dX11_law_13 mv_X11_112 rfl (by decide) (Nat.le_of_ble_eq_true rfl) (c_X11_fail ?_) 
    refine Ru_iret (pc := 16) dX11_law_16 rfl ⟨Nat.le_refl _, Nat.le_refl _⟩ ?_
    exact k5 hok
