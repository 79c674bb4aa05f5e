-- READING: the reference, a case of a law
def Y_lq (y : Lq) (M : Mem) : Prop := M.1 0 19 = nI y.1 ∧ M.1 0 20 = nI y.2.1 ∧ ∀ j, ((21 ≤ j ∧ j < 29) ∨ (139 ≤ j ∧ j < 155 + 2 * y.1)) → M.1 5 (2600 + j) = nI (y.2.2 j)
theorem Y_lq_dp (y : Lq) : r_dp [(0, 19), (0, 20)] [5] (Y_lq y) := fun M M' q p => ⟨(q 0 19 rfl).1.trans p.1, (q 0 20 rfl).1.trans p.2.1, fun j hj => (q 5 _ rfl).1.trans (p.2.2 j hj)⟩
theorem Y_lq_k {y : Lq} {M M' : Mem} (h19 : M'.1 0 19 = M.1 0 19) (h20 : M'.1 0 20 = nI y.2.1) {c : Nat} (g : ∀ q, M'.1 5 q = M.1 5 q) (p : Y_lq (y.1, c, y.2.2) M) : Y_lq y M' := ⟨h19.trans p.1, h20, fun j hj => (g _).trans (p.2.2 j hj)⟩
/-- what is told of a call that reads a law's piece -/
def YL (T : Tx) (x : St9) (mt : Mt) (h w : Nat) (g : Lg) : Prop := ∀ (Q : Rq) (M : Mem) (s : Ps) (y : Lq), Y_rd T s M → Y_wm x M → Y_lq y M → (s.2 = 0 → y.2.1 ≤ 20 ∧ 2 * y.1 ≤ tp T s.1) → (∀ M', r_fx [(0, 12), (0, 13), (0, 14), (0, 15), (0, 16), (0, 17), (0, 18), (0, 21), (0, 19), (0, 20)] [5] M M' → (∀ q, q < 2621 → M'.1 5 q = M.1 5 q) → Y_rd T (g y s).2 M' → Y_lq (g y s).1 M' → Q none GY M') → Ca h mt 0 0 [.ref 0, .int (nI w)] GY M Q
theorem lst_b {T : Tx} (tw : Tw T) (h3 : T.2 ≤ 300) {k op : Nat} (hk : 128 ≤ k) {g : Lg} (hg : lGd T 0 0 g) {y : Lq} {s : Ps} (hkk : tK T s.1 = k) (hB : y.2.1 ≤ 20 ∧ 2 * y.1 ≤ tp T s.1) (h0 : (g y (s.1 + 1, 0)).2.2 = 0) : (g y (s.1 + 1, 0)).1.1 ≤ 150 ∧ s.1 + 2 ≤ (g y (s.1 + 1, 0)).2.1 ∧ (lSt op 0 (g y (s.1 + 1, 0)).1 (g y (s.1 + 1, 0)).2).2.1 ≤ 20 ∧ 2 * (lSt op 0 (g y (s.1 + 1, 0)).1 (g y (s.1 + 1, 0)).2).1 ≤ tp T (g y (s.1 + 1, 0)).2.1 := by
  obtain ⟨w1, w2, w3, w4, w5⟩ := hg.2 y (s.1 + 1, 0) rfl (Nat.zero_le _) hB.1 h0
  rw [lSt_t h0]
  have hp := tpq2 tw (i := s.1) (by omega)
  have hq := tp_le tw (g y (s.1 + 1, 0)).2.1
  dsimp only at w2 w3 ⊢
  exact ⟨by omega, by omega, w4 hB.1, by omega⟩
theorem lgo_b {T : Tx} (tw : Tw T) (h3 : T.2 ≤ 300) {g : Lg} (hg : lGd T 0 0 g) {y : Lq} {s : Ps} (h0 : s.2 = 0) (hB : y.2.1 ≤ 20 ∧ 2 * y.1 ≤ tp T s.1) (hr : (g y s).2.2 = 0) : (g y s).1.1 ≤ 150 ∧ s.1 + 1 ≤ (g y s).2.1 ∧ (g y s).1.2.1 ≤ 20 ∧ 2 * (g y s).1.1 ≤ tp T (g y s).2.1 := by
  obtain ⟨w1, w2, w3, w4, w5⟩ := hg.2 y s h0 (Nat.zero_le _) hB.1 hr
  have hq := tp_le tw (g y s).2.1
  exact ⟨by omega, w3, w4 hB.1, by omega⟩

theorem c_X12_lawStep {Q : Rq} {M : Mem} {T : Tx} {s : Ps} (tw : Tw T) (hr : Y_rd T s M) {y : Lq} (hy : Y_lq y M) {a b : Nat} {v : Int32} (hv : s.2 = 0 → v = nI b) (hl : s.2 = 0 → y.1 ≤ 160) (k : ∀ M', r_fx [(0, 19)] [5] M M' → (∀ q, q < 2621 → M'.1 5 q = M.1 5 q) → Y_rd T s M' → Y_lq (lSt a b y s) M' → Q none GY M') : Ca 0 mt_X12_lawStep 0 0 [.ref 0, .int (nI a), .int v] GY M Q := by
  refine Ca_of rfl (Nat.le_of_ble_eq_true rfl) ?_
  refine Ru_aload_n (pc := 0) dX12_lawStep_0 rfl rfl ?_
  refine Ru_getI (pc := 1) dX12_lawStep_1 fl_X12_251 rfl rfl ?_
  refine Ru_top hr.2.2.1 ?_
  refine Ru_if_leN (pc := 4) 8 dX12_lawStep_4 (by decide) (by have := hr.2.2.2.2; omega) (fun h1 => ?_) (fun h1 => ?_)
  · have hl9 := hl (by omega)
    refine Ru_aload_n (pc := 8) dX12_lawStep_8 rfl rfl ?_
    refine Ru_getR (pc := 9) 5 dX12_lawStep_9 fl_X12_35 rfl rfl rfl ?_
    refine Ru_sipush (pc := 12) (nI 2755) dX12_lawStep_12 rfl ?_
    refine Ru_iconst (pc := 15) (nI 2) dX12_lawStep_15 rfl ?_
    refine Ru_aload_n (pc := 16) dX12_lawStep_16 rfl rfl ?_
    refine Ru_getI (pc := 17) dX12_lawStep_17 fl_X12_322 rfl rfl ?_
    refine Ru_top hy.1 ?_
    refine Ru_imulN (pc := 20) dX12_lawStep_20 ?_
    refine Ru_iaddN (pc := 21) dX12_lawStep_21 ?_
    refine Ru_iload_n (pc := 22) dX12_lawStep_22 rfl rfl ?_
    refine Ru_iast (pc := 23) rfl dX12_lawStep_23 rfl (by omega) ?_
    refine Ru_aload_n (pc := 24) dX12_lawStep_24 rfl rfl ?_
    refine Ru_getR (pc := 25) 5 dX12_lawStep_25 fl_X12_35 rfl rfl rfl ?_
    refine Ru_sipush (pc := 28) (nI 2755) dX12_lawStep_28 rfl ?_
    refine Ru_iconst (pc := 31) (nI 2) dX12_lawStep_31 rfl ?_
    refine Ru_aload_n (pc := 32) dX12_lawStep_32 rfl rfl ?_
    refine Ru_getI (pc := 33) dX12_lawStep_33 fl_X12_322 rfl rfl ?_
    refine Ru_top ((r_sI_n (by omega)).trans hy.1) ?_
    refine Ru_imulN (pc := 36) dX12_lawStep_36 ?_
    refine Ru_iaddN (pc := 37) dX12_lawStep_37 ?_
    refine Ru_iconst (pc := 38) (nI 1) dX12_lawStep_38 rfl ?_
    refine Ru_iaddN (pc := 39) dX12_lawStep_39 ?_
    refine Ru_iload_n (pc := 40) dX12_lawStep_40 rfl rfl ?_
    refine Ru_iast (pc := 41) rfl dX12_lawStep_41 rfl (by omega) ?_
    refine Ru_aload_n (pc := 42) dX12_lawStep_42 rfl rfl ?_
    refine Ru_dup (pc := 43) dX12_lawStep_43 rfl ?_
    refine Ru_getI (pc := 44) dX12_lawStep_44 fl_X12_322 rfl rfl ?_
    refine Ru_top ((r_sI_n (by omega)).trans ((r_sI_n (by omega)).trans hy.1)) ?_
    refine Ru_iconst (pc := 47) (nI 1) dX12_lawStep_47 rfl ?_
    refine Ru_iaddN (pc := 48) dX12_lawStep_48 ?_
    refine Ru_putI (pc := 49) rfl dX12_lawStep_49 fl_X12_322 rfl ?_
    refine Ru_vret (pc := 52) dX12_lawStep_52 rfl ⟨Nat.le_refl _, Nat.le_refl _⟩ ?_
    have hz : s.2 = 0 := by omega
    rw [hv hz]
    rw [lSt_t hz] at k
    refine k _ (r_fx.sI rfl (r_fx.sI rfl (r_fx.sI rfl r_fx.rf))) (fun q hq => (r_sI_n (by omega)).trans ((r_sI_n (by omega)).trans (r_sI_n (by omega)))) ((Y_rd_dp T s).kp (F := [(0, 19)]) (A := [5]) (r_fx.sI rfl (r_fx.sI rfl (r_fx.sI rfl r_fx.rf))) rfl hr) ⟨r_sI_s, (r_sI_n (by decide)).trans ((r_sI_n (by omega)).trans ((r_sI_n (by omega)).trans hy.2.1)), fun j hj => ?_⟩
    refine (r_sI_n (by omega)).trans ?_
    rw [r_sI_g]
    dsimp only at hj ⊢
    by_cases e1 : j = 155 + 2 * y.1 + 1
    · rw [if_pos ⟨rfl, by omega⟩, if_neg (by omega), if_pos e1]
    · rw [if_neg (by omega), r_sI_g]
      by_cases e2 : j = 155 + 2 * y.1
      · rw [if_pos ⟨rfl, by omega⟩, if_pos e2]
      · rw [if_neg (by omega), if_neg e2, if_neg e1]
        exact hy.2.2 j (by omega)
  · refine Ru_vret (pc := 7) dX12_lawStep_7 rfl ⟨Nat.le_refl _, Nat.le_refl _⟩ ?_
    rw [lSt_f (show ¬ s.2 = 0 by omega)] at k
    exact k M r_fx.rf (fun _ _ => rfl) hr hy

theorem c_X12_isCase {Q : Rq} {M : Mem} {T : Tx} {s : Ps} (tw : Tw T) (hr : Y_rd T s M) (k : Q (some (.int (r_b (isCs (tK T s.1))))) GY M) : Ca 2 mt_X12_isCase 0 0 [.ref 0] GY M Q := by
  refine Ca_of rfl (Nat.le_of_ble_eq_true rfl) ?_
  refine Ru_aload_n (pc := 0) dX12_isCase_0 rfl rfl ?_
  refine Ru_cv0 (pc := 1) dX12_isCase_1 mv_X12_221 rfl (by decide) (Nat.le_of_ble_eq_true rfl) (c_X12_isWorn (i := s.1) tw hr.2.1 ?_) 
  refine Ru_if_neB (pc := 4) 35 dX12_isCase_4 (by decide) (fun h1 => ?_) (fun h1 => ?_)
  · replace h1 := of_decide_eq_true h1
    refine Ru_iconst (pc := 35) (nI 1) dX12_isCase_35 rfl ?_
    refine Ru_goto (pc := 36) 40 dX12_isCase_36 (by decide) ?_
    refine Ru_zret (pc := 40) dX12_isCase_40 rfl ⟨Nat.le_refl _, Nat.le_refl _⟩ (Or.inr rfl) ?_
    exact r_qe (r_b_t (by unfold isCs; exact decide_eq_true (by omega))) k
  · replace h1 := of_decide_eq_false h1
    refine Ru_aload_n (pc := 7) dX12_isCase_7 rfl rfl ?_
    refine Ru_cv0 (pc := 8) dX12_isCase_8 mv_X12_224 rfl (by decide) (Nat.le_of_ble_eq_true rfl) (c_X12_isHeld (i := s.1) tw hr.2.1 ?_) 
    refine Ru_if_neB (pc := 11) 35 dX12_isCase_11 (by decide) (fun h2 => ?_) (fun h2 => ?_)
    · replace h2 := of_decide_eq_true h2
      refine Ru_iconst (pc := 35) (nI 1) dX12_isCase_35 rfl ?_
      refine Ru_goto (pc := 36) 40 dX12_isCase_36 (by decide) ?_
      refine Ru_zret (pc := 40) dX12_isCase_40 rfl ⟨Nat.le_refl _, Nat.le_refl _⟩ (Or.inr rfl) ?_
      exact r_qe (r_b_t (by unfold isCs; exact decide_eq_true (by omega))) k
    · replace h2 := of_decide_eq_false h2
      refine Ru_aload_n (pc := 14) dX12_isCase_14 rfl rfl ?_
      refine Ru_cv0 (pc := 15) dX12_isCase_15 mv_X12_227 rfl (by decide) (Nat.le_of_ble_eq_true rfl) (c_X12_isSent (i := s.1) tw hr.2.1 ?_) 
      refine Ru_if_neB (pc := 18) 35 dX12_isCase_18 (by decide) (fun h3 => ?_) (fun h3 => ?_)
      · replace h3 := of_decide_eq_true h3
        refine Ru_iconst (pc := 35) (nI 1) dX12_isCase_35 rfl ?_
        refine Ru_goto (pc := 36) 40 dX12_isCase_36 (by decide) ?_
        refine Ru_zret (pc := 40) dX12_isCase_40 rfl ⟨Nat.le_refl _, Nat.le_refl _⟩ (Or.inr rfl) ?_
        exact r_qe (r_b_t (by unfold isCs; exact decide_eq_true (by omega))) k
      · replace h3 := of_decide_eq_false h3
        refine Ru_aload_n (pc := 21) dX12_isCase_21 rfl rfl ?_
        refine Ru_cv0 (pc := 22) dX12_isCase_22 mv_X12_230 rfl (by decide) (Nat.le_of_ble_eq_true rfl) (c_X12_isHere (i := s.1) tw hr.2.1 ?_) 
        refine Ru_if_neB (pc := 25) 35 dX12_isCase_25 (by decide) (fun h4 => ?_) (fun h4 => ?_)
        · replace h4 := of_decide_eq_true h4
          refine Ru_iconst (pc := 35) (nI 1) dX12_isCase_35 rfl ?_
          refine Ru_goto (pc := 36) 40 dX12_isCase_36 (by decide) ?_
          refine Ru_zret (pc := 40) dX12_isCase_40 rfl ⟨Nat.le_refl _, Nat.le_refl _⟩ (Or.inr rfl) ?_
          exact r_qe (r_b_t (by unfold isCs; exact decide_eq_true (by omega))) k
        · replace h4 := of_decide_eq_false h4
          refine Ru_aload_n (pc := 28) dX12_isCase_28 rfl rfl ?_
          refine Ru_cv0 (pc := 29) dX12_isCase_29 mv_X12_233 rfl (by decide) (Nat.le_of_ble_eq_true rfl) (c_X12_isDay (i := s.1) tw hr.2.1 ?_) 
          refine Ru_if_eqB (pc := 32) 39 dX12_isCase_32 (by decide) (fun h5 => ?_) (fun h5 => ?_)
          · replace h5 := of_decide_eq_false h5
            refine Ru_iconst (pc := 39) (nI 0) dX12_isCase_39 rfl ?_
            refine Ru_zret (pc := 40) dX12_isCase_40 rfl ⟨Nat.le_refl _, Nat.le_refl _⟩ (Or.inl rfl) ?_
            exact r_qe (r_b_f (by unfold isCs; exact decide_eq_false (by omega))) k
          · replace h5 := of_decide_eq_true h5
            refine Ru_iconst (pc := 35) (nI 1) dX12_isCase_35 rfl ?_
            refine Ru_goto (pc := 36) 40 dX12_isCase_36 (by decide) ?_
            refine Ru_zret (pc := 40) dX12_isCase_40 rfl ⟨Nat.le_refl _, Nat.le_refl _⟩ (Or.inr rfl) ?_
            exact r_qe (r_b_t (by unfold isCs; exact decide_eq_true (by omega))) k

theorem c_X12_readCase {Q : Rq} {M : Mem} {T : Tx} {s : Ps} (tw : Tw T) (hr : Y_rd T s M) {x : St9} {y : Lq} (wf : Wf x.1) (wm : Y_wm x M) (hy : Y_lq y M) (h0 : s.2 = 0) (hcs : isCs (tK T s.1) = true) (hc : ¬ y.2.1 = 20) (hc20 : y.2.1 ≤ 20) (hl : y.1 ≤ 150) (k : ∀ M', r_fx [(0, 12), (0, 13), (0, 14), (0, 15), (0, 16), (0, 17), (0, 18), (0, 21), (0, 19), (0, 20)] [5] M M' → (∀ q, q < 2621 → M'.1 5 q = M.1 5 q) → Y_rd T (lcS T x s) M' → Y_lq (lcY T x y s) M' → Q none GY M') : Ca 5 mt_X12_readCase 0 0 [.ref 0] GY M Q := by
  refine Ca_of rfl (Nat.le_of_ble_eq_true rfl) ?_
  have hb := hr.2.2.2.2
  have hx := wf.1
  have fx : r_fx [(0, 12), (0, 13), (0, 14), (0, 15), (0, 16), (0, 17), (0, 18), (0, 21), (0, 19), (0, 20)] [5] M M := r_fx.rf
  have fy : ∀ q, q < 2621 → M.1 5 q = M.1 5 q := fun _ _ => rfl
  have hcs9 : 146 ≤ tK T s.1 ∧ tK T s.1 ≤ 150 := of_decide_eq_true hcs
  refine Ru_aload_n (pc := 0) dX12_readCase_0 rfl rfl ?_
  refine Ru_getI (pc := 1) dX12_readCase_1 fl_X12_325 rfl rfl ?_
  refine Ru_top hy.2.1 ?_
  refine Ru_bipush (pc := 4) (nI 20) dX12_readCase_4 rfl ?_
  refine Ru_icmp_neN (pc := 6) 19 dX12_readCase_6 (by decide) (by omega) (fun h1 => ?_) (fun h1 => ?_)
  · refine Ru_aload_n (pc := 19) dX12_readCase_19 rfl rfl ?_
    refine Ru_getI (pc := 20) dX12_readCase_20 fl_X12_251 rfl rfl ?_
    refine Ru_top hr.2.2.1 ?_
    refine Ru_if_leN (pc := 23) 27 dX12_readCase_23 (by decide) (by omega) (fun h2 => ?_) (fun h2 => ?_)
    · refine Ru_aload_n (pc := 27) dX12_readCase_27 rfl rfl ?_
      refine Ru_dup (pc := 28) dX12_readCase_28 rfl ?_
      refine Ru_getI (pc := 29) dX12_readCase_29 fl_X12_325 rfl rfl ?_
      refine Ru_top hy.2.1 ?_
      refine Ru_iconst (pc := 32) (nI 1) dX12_readCase_32 rfl ?_
      refine Ru_iaddN (pc := 33) dX12_readCase_33 ?_
      refine Ru_putI (pc := 34) rfl dX12_readCase_34 fl_X12_325 rfl ?_
      generalize en2 : r_sI M 0 20 (nI (y.2.1 + 1)) = M2
      have vl2 : M2.1 0 20 = nI (y.2.1 + 1) := by
        rw [← en2]
        exact r_sI_s
      have fn2 : r_fx [(0, 20)] [] M M2 := by
        rw [← en2]
        exact r_fx.sI rfl r_fx.rf
      have hr2 : Y_rd T s M2 := (Y_rd_dp T s).kp fn2 rfl hr
      have fx2 : r_fx [(0, 12), (0, 13), (0, 14), (0, 15), (0, 16), (0, 17), (0, 18), (0, 21), (0, 19), (0, 20)] [5] M M2 := fn2.mono rfl
      have fy2 : ∀ q, q < 2621 → M2.1 5 q = M.1 5 q := fun q _ => (fn2 5 q rfl).1
      have wm2 : Y_wm x M2 := Y_wm_k (fun q _ => (fn2 5 q rfl).1) (fun q => (fn2 6 q rfl).2.1) wm
      have hy2 : Y_lq (y.1, y.2.1 + 1, y.2.2) M2 := Y_lq_k (c := y.2.1) (fn2 0 19 rfl).1 vl2 (fun q => (fn2 5 q rfl).1) hy
      have hb2 := hr2.2.2.2.2
      refine Ru_aload_n (pc := 37) dX12_readCase_37 rfl rfl ?_
      refine Ru_cv0 (pc := 38) dX12_readCase_38 mv_X12_230 rfl (by decide) (Nat.le_of_ble_eq_true rfl) (c_X12_isHere (i := s.1) tw hr2.2.1 ?_) 
      refine Ru_istore_n (pc := 41) dX12_readCase_41 rfl rfl (by decide) ?_
      refine Ru_aload_n (pc := 42) dX12_readCase_42 rfl rfl ?_
      refine Ru_cv0 (pc := 43) dX12_readCase_43 mv_X12_233 rfl (by decide) (Nat.le_of_ble_eq_true rfl) (c_X12_isDay (i := s.1) tw hr2.2.1 ?_) 
      refine Ru_istore_n (pc := 46) dX12_readCase_46 rfl rfl (by decide) ?_
      refine Ru_aload_n (pc := 47) dX12_readCase_47 rfl rfl ?_
      refine Ru_cv0 (pc := 48) dX12_readCase_48 mv_X12_221 rfl (by decide) (Nat.le_of_ble_eq_true rfl) (c_X12_isWorn (i := s.1) tw hr2.2.1 ?_) 
      refine Ru_if_eqB (pc := 51) 58 dX12_readCase_51 (by decide) (fun h3 => ?_) (fun h3 => ?_)
      · replace h3 := of_decide_eq_false h3
        refine Ru_aload_n (pc := 58) dX12_readCase_58 rfl rfl ?_
        refine Ru_cv0 (pc := 59) dX12_readCase_59 mv_X12_224 rfl (by decide) (Nat.le_of_ble_eq_true rfl) (c_X12_isHeld (i := s.1) tw hr2.2.1 ?_) 
        refine Ru_if_eqB (pc := 62) 69 dX12_readCase_62 (by decide) (fun h4 => ?_) (fun h4 => ?_)
        · replace h4 := of_decide_eq_false h4
          refine Ru_iconst (pc := 69) (nI 2) dX12_readCase_69 rfl ?_
          refine Ru_istore_n (pc := 70) dX12_readCase_70 rfl rfl (by decide) ?_
          refine Ru_aload_n (pc := 71) dX12_readCase_71 rfl rfl ?_
          refine Ru_cv0 (pc := 72) dX12_readCase_72 mv_X12_261 rfl (by decide) (Nat.le_of_ble_eq_true rfl) (c_X12_nextS (s := s) tw hr2 h0 (fun M3 gx3 (hr3 : Y_rd T (s.1 + 1, 0) M3) => ?_)) 
          have fx3 : r_fx [(0, 12), (0, 13), (0, 14), (0, 15), (0, 16), (0, 17), (0, 18), (0, 21), (0, 19), (0, 20)] [5] M M3 := fx2.tr (gx3.mono rfl)
          have fy3 : ∀ q, q < 2621 → M3.1 5 q = M.1 5 q := fun q hq => (gx3 5 q rfl).1.trans (fy2 q hq)
          have wm3 : Y_wm x M3 := Y_wm_k (fun q _ => (gx3 5 q rfl).1) (fun q => (gx3 6 q rfl).2.1) wm2
          have hy3 : Y_lq (y.1, y.2.1 + 1, y.2.2) M3 := (Y_lq_dp _).kp gx3 rfl hy2
          have hb3 := hr3.2.2.2.2
          refine Ru_iload_n (pc := 75) dX12_readCase_75 rfl rfl ?_
          refine Ru_if_eqB (pc := 76) 103 dX12_readCase_76 (by decide) (fun h5 => ?_) (fun h5 => ?_)
          · replace h5 := of_decide_eq_false h5
            have hn9 := h5
            refine Ru_iload_n (pc := 103) dX12_readCase_103 rfl rfl ?_
            refine Ru_if_eqB (pc := 104) 189 dX12_readCase_104 (by decide) (fun h6 => ?_) (fun h6 => ?_)
            · replace h6 := of_decide_eq_false h6
              have hm9 := h6
              refine Ru_aload_n (pc := 189) dX12_readCase_189 rfl rfl ?_
              refine Ru_iload_n (pc := 190) dX12_readCase_190 rfl rfl ?_
              refine Ru_iconst (pc := 191) (nI 0) dX12_readCase_191 rfl ?_
              refine Ru_cv2 (pc := 192) dX12_readCase_192 mv_X12_328 rfl (by decide) (Nat.le_of_ble_eq_true rfl) (c_X12_lawStep (s := (s.1 + 1, 0)) (y := (y.1, y.2.1 + 1, y.2.2)) (a := 2) (b := 0) tw hr3 hy3 (fun _ => rfl) (fun _ => Nat.le_trans hl (by decide)) (fun M4 gx4 gy4 hr4 hy4 => ?_)) 
              have fx4 : r_fx [(0, 12), (0, 13), (0, 14), (0, 15), (0, 16), (0, 17), (0, 18), (0, 21), (0, 19), (0, 20)] [5] M M4 := fx3.tr (gx4.mono rfl)
              have fy4 : ∀ q, q < 2621 → M4.1 5 q = M.1 5 q := fun q hq => (gy4 q hq).trans (fy3 q hq)
              have wm4 : Y_wm x M4 := Y_wm_k (fun q hq => gy4 q (by omega)) (fun q => (gx4 6 q rfl).2.1) wm3
              have hb4 := hr4.2.2.2.2
              refine Ru_vret (pc := 195) dX12_readCase_195 rfl ⟨Nat.le_refl _, Nat.le_refl _⟩ ?_
              have eS : lcS T x s = (s.1 + 1, 0) := (if_neg (by omega)).trans (if_neg (by omega))
              have eA : lcA T s = 2 := by
                unfold lcA
                rw [if_neg (by omega), if_neg (by omega)]
                rw [if_neg (by omega)]
                exact if_neg (by omega)
              have eB : lcB T x s = 0 := (if_neg (by omega)).trans (if_neg (by omega))
              have eY : lcY T x y s = (lSt 2 0 (y.1, y.2.1 + 1, y.2.2) (s.1 + 1, 0)) := by
                unfold lcY
                rw [eA, eB, eS]
              rw [eS, eY] at k
              exact k M4 fx4 fy4 hr4 hy4
            · replace h6 := of_decide_eq_true h6
              have hk9 := h6
              refine Ru_aload_n (pc := 107) dX12_readCase_107 rfl rfl ?_
              refine Ru_bipush (pc := 108) (nI 60) dX12_readCase_108 rfl ?_
              refine Ru_cv1 (pc := 110) dX12_readCase_110 mv_X12_316 rfl (by decide) (Nat.le_of_ble_eq_true rfl) (c_X12_isSign (i := (s.1 + 1)) tw hr3.2.1 (x := 60) (by decide) ?_) 
              refine Ru_if_eqB (pc := 113) 120 dX12_readCase_113 (by decide) (fun h7 => ?_) (fun h7 => ?_)
              · replace h7 := of_decide_eq_false h7
                refine Ru_aload_n (pc := 120) dX12_readCase_120 rfl rfl ?_
                refine Ru_bipush (pc := 121) (nI 62) dX12_readCase_121 rfl ?_
                refine Ru_cv1 (pc := 123) dX12_readCase_123 mv_X12_316 rfl (by decide) (Nat.le_of_ble_eq_true rfl) (c_X12_isSign (i := (s.1 + 1)) tw hr3.2.1 (x := 62) (by decide) ?_) 
                refine Ru_if_eqB (pc := 126) 133 dX12_readCase_126 (by decide) (fun h8 => ?_) (fun h8 => ?_)
                · replace h8 := of_decide_eq_false h8
                  refine Ru_bipush (pc := 133) (nI 6) dX12_readCase_133 rfl ?_
                  refine Ru_istore (pc := 135) dX12_readCase_135 rfl (by decide) ?_
                  refine Ru_aload_n (pc := 137) dX12_readCase_137 rfl rfl ?_
                  refine Ru_aload_n (pc := 138) dX12_readCase_138 rfl rfl ?_
                  refine Ru_bipush (pc := 139) (nI 60) dX12_readCase_139 rfl ?_
                  refine Ru_cv1 (pc := 141) dX12_readCase_141 mv_X12_316 rfl (by decide) (Nat.le_of_ble_eq_true rfl) (c_X12_isSign (i := (s.1 + 1)) tw hr3.2.1 (x := 60) (by decide) ?_) 
                  refine Ru_if_neB (pc := 144) 165 dX12_readCase_144 (by decide) (fun h9 => ?_) (fun h9 => ?_)
                  · replace h9 := of_decide_eq_true h9
                    exfalso
                    omega
                  · replace h9 := of_decide_eq_false h9
                    refine Ru_aload_n (pc := 147) dX12_readCase_147 rfl rfl ?_
                    refine Ru_bipush (pc := 148) (nI 62) dX12_readCase_148 rfl ?_
                    refine Ru_cv1 (pc := 150) dX12_readCase_150 mv_X12_316 rfl (by decide) (Nat.le_of_ble_eq_true rfl) (c_X12_isSign (i := (s.1 + 1)) tw hr3.2.1 (x := 62) (by decide) ?_) 
                    refine Ru_if_neB (pc := 153) 165 dX12_readCase_153 (by decide) (fun h10 => ?_) (fun h10 => ?_)
                    · replace h10 := of_decide_eq_true h10
                      exfalso
                      omega
                    · replace h10 := of_decide_eq_false h10
                      refine Ru_aload_n (pc := 156) dX12_readCase_156 rfl rfl ?_
                      refine Ru_bipush (pc := 157) (nI 61) dX12_readCase_157 rfl ?_
                      refine Ru_cv1 (pc := 159) dX12_readCase_159 mv_X12_316 rfl (by decide) (Nat.le_of_ble_eq_true rfl) (c_X12_isSign (i := (s.1 + 1)) tw hr3.2.1 (x := 61) (by decide) ?_) 
                      refine Ru_if_eqB (pc := 162) 169 dX12_readCase_162 (by decide) (fun h11 => ?_) (fun h11 => ?_)
                      · replace h11 := of_decide_eq_false h11
                        refine Ru_iconst (pc := 169) (nI 0) dX12_readCase_169 rfl ?_
                        refine Ru_cv1 (pc := 170) dX12_readCase_170 mv_X12_290 rfl (by decide) (Nat.le_of_ble_eq_true rfl) (c_X12_must (s := (s.1 + 1, 0)) (b := false) tw hr3 (fun M4 gx4 hr4 => ?_)) 
                        have eM : lcM (tK T (s.1 + 1)) = false := by
                          unfold lcM
                          exact decide_eq_false (by omega)
                        have hr4 : Y_rd T (sMust T (lcM (tK T (s.1 + 1))) (s.1 + 1, 0)) M4 := by
                          rw [eM]
                          exact hr4
                        have fx4 : r_fx [(0, 12), (0, 13), (0, 14), (0, 15), (0, 16), (0, 17), (0, 18), (0, 21), (0, 19), (0, 20)] [5] M M4 := fx3.tr (gx4.mono rfl)
                        have fy4 : ∀ q, q < 2621 → M4.1 5 q = M.1 5 q := fun q hq => (gx4 5 q rfl).1.trans (fy3 q hq)
                        have wm4 : Y_wm x M4 := Y_wm_k (fun q _ => (gx4 5 q rfl).1) (fun q => (gx4 6 q rfl).2.1) wm3
                        have hy4 : Y_lq (y.1, y.2.1 + 1, y.2.2) M4 := (Y_lq_dp _).kp gx4 rfl hy3
                        have hb4 := hr4.2.2.2.2
                        refine Ru_aload_n (pc := 173) dX12_readCase_173 rfl rfl ?_
                        refine Ru_iload (pc := 174) dX12_readCase_174 rfl ?_
                        refine Ru_aload_n (pc := 176) dX12_readCase_176 rfl rfl ?_
                        refine Ru_iconst (pc := 177) (nI 0) dX12_readCase_177 rfl ?_
                        refine Ru_bipush (pc := 178) (nI 6) dX12_readCase_178 rfl ?_
                        refine Ru_cv2 (pc := 180) dX12_readCase_180 mv_X12_294 rfl (by decide) (Nat.le_of_ble_eq_true rfl) (c_X12_count (s := (sMust T (lcM (tK T (s.1 + 1))) (s.1 + 1, 0))) (lo := 0) (hi := 6) tw hr4 (by decide) (fun M5 v5 gx5 hr5 hv5 => ?_)) 
                        have fx5 : r_fx [(0, 12), (0, 13), (0, 14), (0, 15), (0, 16), (0, 17), (0, 18), (0, 21), (0, 19), (0, 20)] [5] M M5 := fx4.tr (gx5.mono rfl)
                        have fy5 : ∀ q, q < 2621 → M5.1 5 q = M.1 5 q := fun q hq => (gx5 5 q rfl).1.trans (fy4 q hq)
                        have wm5 : Y_wm x M5 := Y_wm_k (fun q _ => (gx5 5 q rfl).1) (fun q => (gx5 6 q rfl).2.1) wm4
                        have hy5 : Y_lq (y.1, y.2.1 + 1, y.2.2) M5 := (Y_lq_dp _).kp gx5 rfl hy4
                        have hb5 := hr5.2.2.2.2
                        refine Ru_cv2 (pc := 183) dX12_readCase_183 mv_X12_328 rfl (by decide) (Nat.le_of_ble_eq_true rfl) (c_X12_lawStep (s := (sCount T 0 6 (sMust T (lcM (tK T (s.1 + 1))) (s.1 + 1, 0)))) (y := (y.1, y.2.1 + 1, y.2.2)) (a := 6) (b := (tV T (s.1 + 2))) tw hr5 hy5 (fun q => (hv5 q).trans (congrArg nI (congrArg (tV T) (by rw [(sMust_ok (sCount_0 q)).2.2])))) (fun _ => Nat.le_trans hl (by decide)) (fun M6 gx6 gy6 hr6 hy6 => ?_)) 
                        have fx6 : r_fx [(0, 12), (0, 13), (0, 14), (0, 15), (0, 16), (0, 17), (0, 18), (0, 21), (0, 19), (0, 20)] [5] M M6 := fx5.tr (gx6.mono rfl)
                        have fy6 : ∀ q, q < 2621 → M6.1 5 q = M.1 5 q := fun q hq => (gy6 q hq).trans (fy5 q hq)
                        have wm6 : Y_wm x M6 := Y_wm_k (fun q hq => gy6 q (by omega)) (fun q => (gx6 6 q rfl).2.1) wm5
                        have hb6 := hr6.2.2.2.2
                        refine Ru_goto (pc := 186) 195 dX12_readCase_186 (by decide) ?_
                        refine Ru_vret (pc := 195) dX12_readCase_195 rfl ⟨Nat.le_refl _, Nat.le_refl _⟩ ?_
                        have eS : lcS T x s = (sCount T 0 6 (sMust T (lcM (tK T (s.1 + 1))) (s.1 + 1, 0))) := (if_neg hn9).trans (if_pos hk9)
                        have eA : lcA T s = 6 := by
                          unfold lcA
                          rw [if_neg hn9, if_pos hk9]
                          rw [if_neg (by omega)]
                          exact if_neg (by omega)
                        have eB : lcB T x s = tV T (s.1 + 2) := (if_neg hn9).trans (if_pos hk9)
                        have eY : lcY T x y s = (lSt 6 (tV T (s.1 + 2)) (y.1, y.2.1 + 1, y.2.2) (sCount T 0 6 (sMust T (lcM (tK T (s.1 + 1))) (s.1 + 1, 0)))) := by
                          unfold lcY
                          rw [eA, eB, eS]
                        rw [eS, eY] at k
                        exact k M6 fx6 fy6 hr6 hy6
                      · replace h11 := of_decide_eq_true h11
                        refine Ru_iconst (pc := 165) (nI 1) dX12_readCase_165 rfl ?_
                        refine Ru_goto (pc := 166) 170 dX12_readCase_166 (by decide) ?_
                        refine Ru_cv1 (pc := 170) dX12_readCase_170 mv_X12_290 rfl (by decide) (Nat.le_of_ble_eq_true rfl) (c_X12_must (s := (s.1 + 1, 0)) (b := true) tw hr3 (fun M4 gx4 hr4 => ?_)) 
                        have eM : lcM (tK T (s.1 + 1)) = true := by
                          unfold lcM
                          exact decide_eq_true (by omega)
                        have hr4 : Y_rd T (sMust T (lcM (tK T (s.1 + 1))) (s.1 + 1, 0)) M4 := by
                          rw [eM]
                          exact hr4
                        have fx4 : r_fx [(0, 12), (0, 13), (0, 14), (0, 15), (0, 16), (0, 17), (0, 18), (0, 21), (0, 19), (0, 20)] [5] M M4 := fx3.tr (gx4.mono rfl)
                        have fy4 : ∀ q, q < 2621 → M4.1 5 q = M.1 5 q := fun q hq => (gx4 5 q rfl).1.trans (fy3 q hq)
                        have wm4 : Y_wm x M4 := Y_wm_k (fun q _ => (gx4 5 q rfl).1) (fun q => (gx4 6 q rfl).2.1) wm3
                        have hy4 : Y_lq (y.1, y.2.1 + 1, y.2.2) M4 := (Y_lq_dp _).kp gx4 rfl hy3
                        have hb4 := hr4.2.2.2.2
                        refine Ru_aload_n (pc := 173) dX12_readCase_173 rfl rfl ?_
                        refine Ru_iload (pc := 174) dX12_readCase_174 rfl ?_
                        refine Ru_aload_n (pc := 176) dX12_readCase_176 rfl rfl ?_
                        refine Ru_iconst (pc := 177) (nI 0) dX12_readCase_177 rfl ?_
                        refine Ru_bipush (pc := 178) (nI 6) dX12_readCase_178 rfl ?_
                        refine Ru_cv2 (pc := 180) dX12_readCase_180 mv_X12_294 rfl (by decide) (Nat.le_of_ble_eq_true rfl) (c_X12_count (s := (sMust T (lcM (tK T (s.1 + 1))) (s.1 + 1, 0))) (lo := 0) (hi := 6) tw hr4 (by decide) (fun M5 v5 gx5 hr5 hv5 => ?_)) 
                        have fx5 : r_fx [(0, 12), (0, 13), (0, 14), (0, 15), (0, 16), (0, 17), (0, 18), (0, 21), (0, 19), (0, 20)] [5] M M5 := fx4.tr (gx5.mono rfl)
                        have fy5 : ∀ q, q < 2621 → M5.1 5 q = M.1 5 q := fun q hq => (gx5 5 q rfl).1.trans (fy4 q hq)
                        have wm5 : Y_wm x M5 := Y_wm_k (fun q _ => (gx5 5 q rfl).1) (fun q => (gx5 6 q rfl).2.1) wm4
                        have hy5 : Y_lq (y.1, y.2.1 + 1, y.2.2) M5 := (Y_lq_dp _).kp gx5 rfl hy4
                        have hb5 := hr5.2.2.2.2
                        refine Ru_cv2 (pc := 183) dX12_readCase_183 mv_X12_328 rfl (by decide) (Nat.le_of_ble_eq_true rfl) (c_X12_lawStep (s := (sCount T 0 6 (sMust T (lcM (tK T (s.1 + 1))) (s.1 + 1, 0)))) (y := (y.1, y.2.1 + 1, y.2.2)) (a := 6) (b := (tV T (s.1 + 2))) tw hr5 hy5 (fun q => (hv5 q).trans (congrArg nI (congrArg (tV T) (by rw [(sMust_ok (sCount_0 q)).2.2])))) (fun _ => Nat.le_trans hl (by decide)) (fun M6 gx6 gy6 hr6 hy6 => ?_)) 
                        have fx6 : r_fx [(0, 12), (0, 13), (0, 14), (0, 15), (0, 16), (0, 17), (0, 18), (0, 21), (0, 19), (0, 20)] [5] M M6 := fx5.tr (gx6.mono rfl)
                        have fy6 : ∀ q, q < 2621 → M6.1 5 q = M.1 5 q := fun q hq => (gy6 q hq).trans (fy5 q hq)
                        have wm6 : Y_wm x M6 := Y_wm_k (fun q hq => gy6 q (by omega)) (fun q => (gx6 6 q rfl).2.1) wm5
                        have hb6 := hr6.2.2.2.2
                        refine Ru_goto (pc := 186) 195 dX12_readCase_186 (by decide) ?_
                        refine Ru_vret (pc := 195) dX12_readCase_195 rfl ⟨Nat.le_refl _, Nat.le_refl _⟩ ?_
                        have eS : lcS T x s = (sCount T 0 6 (sMust T (lcM (tK T (s.1 + 1))) (s.1 + 1, 0))) := (if_neg hn9).trans (if_pos hk9)
                        have eA : lcA T s = 6 := by
                          unfold lcA
                          rw [if_neg hn9, if_pos hk9]
                          rw [if_neg (by omega)]
                          exact if_neg (by omega)
                        have eB : lcB T x s = tV T (s.1 + 2) := (if_neg hn9).trans (if_pos hk9)
                        have eY : lcY T x y s = (lSt 6 (tV T (s.1 + 2)) (y.1, y.2.1 + 1, y.2.2) (sCount T 0 6 (sMust T (lcM (tK T (s.1 + 1))) (s.1 + 1, 0)))) := by
                          unfold lcY
                          rw [eA, eB, eS]
                        rw [eS, eY] at k
                        exact k M6 fx6 fy6 hr6 hy6
                · replace h8 := of_decide_eq_true h8
                  refine Ru_iconst (pc := 129) (nI 5) dX12_readCase_129 rfl ?_
                  refine Ru_goto (pc := 130) 135 dX12_readCase_130 (by decide) ?_
                  refine Ru_istore (pc := 135) dX12_readCase_135 rfl (by decide) ?_
                  refine Ru_aload_n (pc := 137) dX12_readCase_137 rfl rfl ?_
                  refine Ru_aload_n (pc := 138) dX12_readCase_138 rfl rfl ?_
                  refine Ru_bipush (pc := 139) (nI 60) dX12_readCase_139 rfl ?_
                  refine Ru_cv1 (pc := 141) dX12_readCase_141 mv_X12_316 rfl (by decide) (Nat.le_of_ble_eq_true rfl) (c_X12_isSign (i := (s.1 + 1)) tw hr3.2.1 (x := 60) (by decide) ?_) 
                  refine Ru_if_neB (pc := 144) 165 dX12_readCase_144 (by decide) (fun h12 => ?_) (fun h12 => ?_)
                  · replace h12 := of_decide_eq_true h12
                    exfalso
                    omega
                  · replace h12 := of_decide_eq_false h12
                    refine Ru_aload_n (pc := 147) dX12_readCase_147 rfl rfl ?_
                    refine Ru_bipush (pc := 148) (nI 62) dX12_readCase_148 rfl ?_
                    refine Ru_cv1 (pc := 150) dX12_readCase_150 mv_X12_316 rfl (by decide) (Nat.le_of_ble_eq_true rfl) (c_X12_isSign (i := (s.1 + 1)) tw hr3.2.1 (x := 62) (by decide) ?_) 
                    refine Ru_if_neB (pc := 153) 165 dX12_readCase_153 (by decide) (fun h13 => ?_) (fun h13 => ?_)
                    · replace h13 := of_decide_eq_true h13
                      refine Ru_iconst (pc := 165) (nI 1) dX12_readCase_165 rfl ?_
                      refine Ru_goto (pc := 166) 170 dX12_readCase_166 (by decide) ?_
                      refine Ru_cv1 (pc := 170) dX12_readCase_170 mv_X12_290 rfl (by decide) (Nat.le_of_ble_eq_true rfl) (c_X12_must (s := (s.1 + 1, 0)) (b := true) tw hr3 (fun M4 gx4 hr4 => ?_)) 
                      have eM : lcM (tK T (s.1 + 1)) = true := by
                        unfold lcM
                        exact decide_eq_true (by omega)
                      have hr4 : Y_rd T (sMust T (lcM (tK T (s.1 + 1))) (s.1 + 1, 0)) M4 := by
                        rw [eM]
                        exact hr4
                      have fx4 : r_fx [(0, 12), (0, 13), (0, 14), (0, 15), (0, 16), (0, 17), (0, 18), (0, 21), (0, 19), (0, 20)] [5] M M4 := fx3.tr (gx4.mono rfl)
                      have fy4 : ∀ q, q < 2621 → M4.1 5 q = M.1 5 q := fun q hq => (gx4 5 q rfl).1.trans (fy3 q hq)
                      have wm4 : Y_wm x M4 := Y_wm_k (fun q _ => (gx4 5 q rfl).1) (fun q => (gx4 6 q rfl).2.1) wm3
                      have hy4 : Y_lq (y.1, y.2.1 + 1, y.2.2) M4 := (Y_lq_dp _).kp gx4 rfl hy3
                      have hb4 := hr4.2.2.2.2
                      refine Ru_aload_n (pc := 173) dX12_readCase_173 rfl rfl ?_
                      refine Ru_iload (pc := 174) dX12_readCase_174 rfl ?_
                      refine Ru_aload_n (pc := 176) dX12_readCase_176 rfl rfl ?_
                      refine Ru_iconst (pc := 177) (nI 0) dX12_readCase_177 rfl ?_
                      refine Ru_bipush (pc := 178) (nI 6) dX12_readCase_178 rfl ?_
                      refine Ru_cv2 (pc := 180) dX12_readCase_180 mv_X12_294 rfl (by decide) (Nat.le_of_ble_eq_true rfl) (c_X12_count (s := (sMust T (lcM (tK T (s.1 + 1))) (s.1 + 1, 0))) (lo := 0) (hi := 6) tw hr4 (by decide) (fun M5 v5 gx5 hr5 hv5 => ?_)) 
                      have fx5 : r_fx [(0, 12), (0, 13), (0, 14), (0, 15), (0, 16), (0, 17), (0, 18), (0, 21), (0, 19), (0, 20)] [5] M M5 := fx4.tr (gx5.mono rfl)
                      have fy5 : ∀ q, q < 2621 → M5.1 5 q = M.1 5 q := fun q hq => (gx5 5 q rfl).1.trans (fy4 q hq)
                      have wm5 : Y_wm x M5 := Y_wm_k (fun q _ => (gx5 5 q rfl).1) (fun q => (gx5 6 q rfl).2.1) wm4
                      have hy5 : Y_lq (y.1, y.2.1 + 1, y.2.2) M5 := (Y_lq_dp _).kp gx5 rfl hy4
                      have hb5 := hr5.2.2.2.2
                      refine Ru_cv2 (pc := 183) dX12_readCase_183 mv_X12_328 rfl (by decide) (Nat.le_of_ble_eq_true rfl) (c_X12_lawStep (s := (sCount T 0 6 (sMust T (lcM (tK T (s.1 + 1))) (s.1 + 1, 0)))) (y := (y.1, y.2.1 + 1, y.2.2)) (a := 5) (b := (tV T (s.1 + 2))) tw hr5 hy5 (fun q => (hv5 q).trans (congrArg nI (congrArg (tV T) (by rw [(sMust_ok (sCount_0 q)).2.2])))) (fun _ => Nat.le_trans hl (by decide)) (fun M6 gx6 gy6 hr6 hy6 => ?_)) 
                      have fx6 : r_fx [(0, 12), (0, 13), (0, 14), (0, 15), (0, 16), (0, 17), (0, 18), (0, 21), (0, 19), (0, 20)] [5] M M6 := fx5.tr (gx6.mono rfl)
                      have fy6 : ∀ q, q < 2621 → M6.1 5 q = M.1 5 q := fun q hq => (gy6 q hq).trans (fy5 q hq)
                      have wm6 : Y_wm x M6 := Y_wm_k (fun q hq => gy6 q (by omega)) (fun q => (gx6 6 q rfl).2.1) wm5
                      have hb6 := hr6.2.2.2.2
                      refine Ru_goto (pc := 186) 195 dX12_readCase_186 (by decide) ?_
                      refine Ru_vret (pc := 195) dX12_readCase_195 rfl ⟨Nat.le_refl _, Nat.le_refl _⟩ ?_
                      have eS : lcS T x s = (sCount T 0 6 (sMust T (lcM (tK T (s.1 + 1))) (s.1 + 1, 0))) := (if_neg hn9).trans (if_pos hk9)
                      have eA : lcA T s = 5 := by
                        unfold lcA
                        rw [if_neg hn9, if_pos hk9]
                        rw [if_neg (by omega)]
                        exact if_pos (by omega)
                      have eB : lcB T x s = tV T (s.1 + 2) := (if_neg hn9).trans (if_pos hk9)
                      have eY : lcY T x y s = (lSt 5 (tV T (s.1 + 2)) (y.1, y.2.1 + 1, y.2.2) (sCount T 0 6 (sMust T (lcM (tK T (s.1 + 1))) (s.1 + 1, 0)))) := by
                        unfold lcY
                        rw [eA, eB, eS]
                      rw [eS, eY] at k
                      exact k M6 fx6 fy6 hr6 hy6
                    · replace h13 := of_decide_eq_false h13
                      exfalso
                      omega
              · replace h7 := of_decide_eq_true h7
                refine Ru_iconst (pc := 116) (nI 4) dX12_readCase_116 rfl ?_
                refine Ru_goto (pc := 117) 135 dX12_readCase_117 (by decide) ?_
                refine Ru_istore (pc := 135) dX12_readCase_135 rfl (by decide) ?_
                refine Ru_aload_n (pc := 137) dX12_readCase_137 rfl rfl ?_
                refine Ru_aload_n (pc := 138) dX12_readCase_138 rfl rfl ?_
                refine Ru_bipush (pc := 139) (nI 60) dX12_readCase_139 rfl ?_
                refine Ru_cv1 (pc := 141) dX12_readCase_141 mv_X12_316 rfl (by decide) (Nat.le_of_ble_eq_true rfl) (c_X12_isSign (i := (s.1 + 1)) tw hr3.2.1 (x := 60) (by decide) ?_) 
                refine Ru_if_neB (pc := 144) 165 dX12_readCase_144 (by decide) (fun h14 => ?_) (fun h14 => ?_)
                · replace h14 := of_decide_eq_true h14
                  refine Ru_iconst (pc := 165) (nI 1) dX12_readCase_165 rfl ?_
                  refine Ru_goto (pc := 166) 170 dX12_readCase_166 (by decide) ?_
                  refine Ru_cv1 (pc := 170) dX12_readCase_170 mv_X12_290 rfl (by decide) (Nat.le_of_ble_eq_true rfl) (c_X12_must (s := (s.1 + 1, 0)) (b := true) tw hr3 (fun M4 gx4 hr4 => ?_)) 
                  have eM : lcM (tK T (s.1 + 1)) = true := by
                    unfold lcM
                    exact decide_eq_true (by omega)
                  have hr4 : Y_rd T (sMust T (lcM (tK T (s.1 + 1))) (s.1 + 1, 0)) M4 := by
                    rw [eM]
                    exact hr4
                  have fx4 : r_fx [(0, 12), (0, 13), (0, 14), (0, 15), (0, 16), (0, 17), (0, 18), (0, 21), (0, 19), (0, 20)] [5] M M4 := fx3.tr (gx4.mono rfl)
                  have fy4 : ∀ q, q < 2621 → M4.1 5 q = M.1 5 q := fun q hq => (gx4 5 q rfl).1.trans (fy3 q hq)
                  have wm4 : Y_wm x M4 := Y_wm_k (fun q _ => (gx4 5 q rfl).1) (fun q => (gx4 6 q rfl).2.1) wm3
                  have hy4 : Y_lq (y.1, y.2.1 + 1, y.2.2) M4 := (Y_lq_dp _).kp gx4 rfl hy3
                  have hb4 := hr4.2.2.2.2
                  refine Ru_aload_n (pc := 173) dX12_readCase_173 rfl rfl ?_
                  refine Ru_iload (pc := 174) dX12_readCase_174 rfl ?_
                  refine Ru_aload_n (pc := 176) dX12_readCase_176 rfl rfl ?_
                  refine Ru_iconst (pc := 177) (nI 0) dX12_readCase_177 rfl ?_
                  refine Ru_bipush (pc := 178) (nI 6) dX12_readCase_178 rfl ?_
                  refine Ru_cv2 (pc := 180) dX12_readCase_180 mv_X12_294 rfl (by decide) (Nat.le_of_ble_eq_true rfl) (c_X12_count (s := (sMust T (lcM (tK T (s.1 + 1))) (s.1 + 1, 0))) (lo := 0) (hi := 6) tw hr4 (by decide) (fun M5 v5 gx5 hr5 hv5 => ?_)) 
                  have fx5 : r_fx [(0, 12), (0, 13), (0, 14), (0, 15), (0, 16), (0, 17), (0, 18), (0, 21), (0, 19), (0, 20)] [5] M M5 := fx4.tr (gx5.mono rfl)
                  have fy5 : ∀ q, q < 2621 → M5.1 5 q = M.1 5 q := fun q hq => (gx5 5 q rfl).1.trans (fy4 q hq)
                  have wm5 : Y_wm x M5 := Y_wm_k (fun q _ => (gx5 5 q rfl).1) (fun q => (gx5 6 q rfl).2.1) wm4
                  have hy5 : Y_lq (y.1, y.2.1 + 1, y.2.2) M5 := (Y_lq_dp _).kp gx5 rfl hy4
                  have hb5 := hr5.2.2.2.2
                  refine Ru_cv2 (pc := 183) dX12_readCase_183 mv_X12_328 rfl (by decide) (Nat.le_of_ble_eq_true rfl) (c_X12_lawStep (s := (sCount T 0 6 (sMust T (lcM (tK T (s.1 + 1))) (s.1 + 1, 0)))) (y := (y.1, y.2.1 + 1, y.2.2)) (a := 4) (b := (tV T (s.1 + 2))) tw hr5 hy5 (fun q => (hv5 q).trans (congrArg nI (congrArg (tV T) (by rw [(sMust_ok (sCount_0 q)).2.2])))) (fun _ => Nat.le_trans hl (by decide)) (fun M6 gx6 gy6 hr6 hy6 => ?_)) 
                  have fx6 : r_fx [(0, 12), (0, 13), (0, 14), (0, 15), (0, 16), (0, 17), (0, 18), (0, 21), (0, 19), (0, 20)] [5] M M6 := fx5.tr (gx6.mono rfl)
                  have fy6 : ∀ q, q < 2621 → M6.1 5 q = M.1 5 q := fun q hq => (gy6 q hq).trans (fy5 q hq)
                  have wm6 : Y_wm x M6 := Y_wm_k (fun q hq => gy6 q (by omega)) (fun q => (gx6 6 q rfl).2.1) wm5
                  have hb6 := hr6.2.2.2.2
                  refine Ru_goto (pc := 186) 195 dX12_readCase_186 (by decide) ?_
                  refine Ru_vret (pc := 195) dX12_readCase_195 rfl ⟨Nat.le_refl _, Nat.le_refl _⟩ ?_
                  have eS : lcS T x s = (sCount T 0 6 (sMust T (lcM (tK T (s.1 + 1))) (s.1 + 1, 0))) := (if_neg hn9).trans (if_pos hk9)
                  have eA : lcA T s = 4 := by
                    unfold lcA
                    rw [if_neg hn9, if_pos hk9]
                    exact if_pos (by omega)
                  have eB : lcB T x s = tV T (s.1 + 2) := (if_neg hn9).trans (if_pos hk9)
                  have eY : lcY T x y s = (lSt 4 (tV T (s.1 + 2)) (y.1, y.2.1 + 1, y.2.2) (sCount T 0 6 (sMust T (lcM (tK T (s.1 + 1))) (s.1 + 1, 0)))) := by
                    unfold lcY
                    rw [eA, eB, eS]
                  rw [eS, eY] at k
                  exact k M6 fx6 fy6 hr6 hy6
                · replace h14 := of_decide_eq_false h14
                  exfalso
                  omega
          · replace h5 := of_decide_eq_true h5
            have hk9 := h5
            refine Ru_aload_n (pc := 79) dX12_readCase_79 rfl rfl ?_
            refine Ru_iconst (pc := 80) (nI 0) dX12_readCase_80 rfl ?_
            refine Ru_iconst (pc := 81) (nI 0) dX12_readCase_81 rfl ?_
            refine Ru_iconst (pc := 82) (nI 0) dX12_readCase_82 rfl ?_
            refine Ru_cv3 (pc := 83) dX12_readCase_83 mv_X12_287 rfl (by decide) (Nat.le_of_ble_eq_true rfl) (c_X12_readOld (s := (s.1 + 1, 0)) (W := x.2) (b := 0) (th := 0) (f := 0) (w0 := 0) (n := (x.1 0)) tw hr3 (by omega) (by decide) (by omega) wm3.1.2.2 (fun k hk => by rw [show 26 * 0 + 0 + k = k by omega]; have := wm3.2.1 k hk; rw [Nat.zero_add] at this; exact this) (fun M4 v4 gx4 hr4 hv4 => ?_)) 
            have fx4 : r_fx [(0, 12), (0, 13), (0, 14), (0, 15), (0, 16), (0, 17), (0, 18), (0, 21), (0, 19), (0, 20)] [5] M M4 := fx3.tr (gx4.mono rfl)
            have fy4 : ∀ q, q < 2621 → M4.1 5 q = M.1 5 q := fun q hq => (gx4 5 q rfl).1.trans (fy3 q hq)
            have wm4 : Y_wm x M4 := Y_wm_k (fun q _ => (gx4 5 q rfl).1) (fun q => (gx4 6 q rfl).2.1) wm3
            have hy4 : Y_lq (y.1, y.2.1 + 1, y.2.2) M4 := (Y_lq_dp _).kp gx4 rfl hy3
            have hb4 := hr4.2.2.2.2
            refine Ru_istore (pc := 86) dX12_readCase_86 rfl (by decide) ?_
            refine Ru_aload_n (pc := 88) dX12_readCase_88 rfl rfl ?_
            refine Ru_iconst (pc := 89) (nI 1) dX12_readCase_89 rfl ?_
            refine Ru_cv1 (pc := 90) dX12_readCase_90 mv_X12_290 rfl (by decide) (Nat.le_of_ble_eq_true rfl) (c_X12_must (s := (sOld T x.2 0 (x.1 0) (s.1 + 1, 0))) (b := true) tw hr4 (fun M5 gx5 (hr5 : Y_rd T (sNext (sOld T x.2 0 (x.1 0) (s.1 + 1, 0))) M5) => ?_)) 
            have fx5 : r_fx [(0, 12), (0, 13), (0, 14), (0, 15), (0, 16), (0, 17), (0, 18), (0, 21), (0, 19), (0, 20)] [5] M M5 := fx4.tr (gx5.mono rfl)
            have fy5 : ∀ q, q < 2621 → M5.1 5 q = M.1 5 q := fun q hq => (gx5 5 q rfl).1.trans (fy4 q hq)
            have wm5 : Y_wm x M5 := Y_wm_k (fun q _ => (gx5 5 q rfl).1) (fun q => (gx5 6 q rfl).2.1) wm4
            have hy5 : Y_lq (y.1, y.2.1 + 1, y.2.2) M5 := (Y_lq_dp _).kp gx5 rfl hy4
            have hb5 := hr5.2.2.2.2
            refine Ru_aload_n (pc := 93) dX12_readCase_93 rfl rfl ?_
            refine Ru_iconst (pc := 94) (nI 3) dX12_readCase_94 rfl ?_
            refine Ru_iload (pc := 95) dX12_readCase_95 rfl ?_
            refine Ru_cv2 (pc := 97) dX12_readCase_97 mv_X12_328 rfl (by decide) (Nat.le_of_ble_eq_true rfl) (c_X12_lawStep (s := (sNext (sOld T x.2 0 (x.1 0) (s.1 + 1, 0)))) (y := (y.1, y.2.1 + 1, y.2.2)) (a := 3) (b := (fN x.2 (tL T (s.1 + 1)) 0 (x.1 0) - 1)) tw hr5 hy5 (fun q => hv4 (sNext_0 q)) (fun _ => Nat.le_trans hl (by decide)) (fun M6 gx6 gy6 hr6 hy6 => ?_)) 
            have fx6 : r_fx [(0, 12), (0, 13), (0, 14), (0, 15), (0, 16), (0, 17), (0, 18), (0, 21), (0, 19), (0, 20)] [5] M M6 := fx5.tr (gx6.mono rfl)
            have fy6 : ∀ q, q < 2621 → M6.1 5 q = M.1 5 q := fun q hq => (gy6 q hq).trans (fy5 q hq)
            have wm6 : Y_wm x M6 := Y_wm_k (fun q hq => gy6 q (by omega)) (fun q => (gx6 6 q rfl).2.1) wm5
            have hb6 := hr6.2.2.2.2
            refine Ru_goto (pc := 100) 195 dX12_readCase_100 (by decide) ?_
            refine Ru_vret (pc := 195) dX12_readCase_195 rfl ⟨Nat.le_refl _, Nat.le_refl _⟩ ?_
            have eS : lcS T x s = (sNext (sOld T x.2 0 (x.1 0) (s.1 + 1, 0))) := if_pos hk9
            have eA : lcA T s = 3 := if_pos hk9
            have eB : lcB T x s = fN x.2 (tL T (s.1 + 1)) 0 (x.1 0) - 1 := if_pos hk9
            have eY : lcY T x y s = (lSt 3 (fN x.2 (tL T (s.1 + 1)) 0 (x.1 0) - 1) (y.1, y.2.1 + 1, y.2.2) (sNext (sOld T x.2 0 (x.1 0) (s.1 + 1, 0)))) := by
              unfold lcY
              rw [eA, eB, eS]
            rw [eS, eY] at k
            exact k M6 fx6 fy6 hr6 hy6
        · replace h4 := of_decide_eq_true h4
          refine Ru_iconst (pc := 65) (nI 1) dX12_readCase_65 rfl ?_
          refine Ru_goto (pc := 66) 70 dX12_readCase_66 (by decide) ?_
          refine Ru_istore_n (pc := 70) dX12_readCase_70 rfl rfl (by decide) ?_
          refine Ru_aload_n (pc := 71) dX12_readCase_71 rfl rfl ?_
          refine Ru_cv0 (pc := 72) dX12_readCase_72 mv_X12_261 rfl (by decide) (Nat.le_of_ble_eq_true rfl) (c_X12_nextS (s := s) tw hr2 h0 (fun M3 gx3 (hr3 : Y_rd T (s.1 + 1, 0) M3) => ?_)) 
          have fx3 : r_fx [(0, 12), (0, 13), (0, 14), (0, 15), (0, 16), (0, 17), (0, 18), (0, 21), (0, 19), (0, 20)] [5] M M3 := fx2.tr (gx3.mono rfl)
          have fy3 : ∀ q, q < 2621 → M3.1 5 q = M.1 5 q := fun q hq => (gx3 5 q rfl).1.trans (fy2 q hq)
          have wm3 : Y_wm x M3 := Y_wm_k (fun q _ => (gx3 5 q rfl).1) (fun q => (gx3 6 q rfl).2.1) wm2
          have hy3 : Y_lq (y.1, y.2.1 + 1, y.2.2) M3 := (Y_lq_dp _).kp gx3 rfl hy2
          have hb3 := hr3.2.2.2.2
          refine Ru_iload_n (pc := 75) dX12_readCase_75 rfl rfl ?_
          refine Ru_if_eqB (pc := 76) 103 dX12_readCase_76 (by decide) (fun h15 => ?_) (fun h15 => ?_)
          · replace h15 := of_decide_eq_false h15
            have hn9 := h15
            refine Ru_iload_n (pc := 103) dX12_readCase_103 rfl rfl ?_
            refine Ru_if_eqB (pc := 104) 189 dX12_readCase_104 (by decide) (fun h16 => ?_) (fun h16 => ?_)
            · replace h16 := of_decide_eq_false h16
              have hm9 := h16
              refine Ru_aload_n (pc := 189) dX12_readCase_189 rfl rfl ?_
              refine Ru_iload_n (pc := 190) dX12_readCase_190 rfl rfl ?_
              refine Ru_iconst (pc := 191) (nI 0) dX12_readCase_191 rfl ?_
              refine Ru_cv2 (pc := 192) dX12_readCase_192 mv_X12_328 rfl (by decide) (Nat.le_of_ble_eq_true rfl) (c_X12_lawStep (s := (s.1 + 1, 0)) (y := (y.1, y.2.1 + 1, y.2.2)) (a := 1) (b := 0) tw hr3 hy3 (fun _ => rfl) (fun _ => Nat.le_trans hl (by decide)) (fun M4 gx4 gy4 hr4 hy4 => ?_)) 
              have fx4 : r_fx [(0, 12), (0, 13), (0, 14), (0, 15), (0, 16), (0, 17), (0, 18), (0, 21), (0, 19), (0, 20)] [5] M M4 := fx3.tr (gx4.mono rfl)
              have fy4 : ∀ q, q < 2621 → M4.1 5 q = M.1 5 q := fun q hq => (gy4 q hq).trans (fy3 q hq)
              have wm4 : Y_wm x M4 := Y_wm_k (fun q hq => gy4 q (by omega)) (fun q => (gx4 6 q rfl).2.1) wm3
              have hb4 := hr4.2.2.2.2
              refine Ru_vret (pc := 195) dX12_readCase_195 rfl ⟨Nat.le_refl _, Nat.le_refl _⟩ ?_
              have eS : lcS T x s = (s.1 + 1, 0) := (if_neg (by omega)).trans (if_neg (by omega))
              have eA : lcA T s = 1 := by
                unfold lcA
                rw [if_neg (by omega), if_neg (by omega)]
                rw [if_neg (by omega)]
                exact if_pos (by omega)
              have eB : lcB T x s = 0 := (if_neg (by omega)).trans (if_neg (by omega))
              have eY : lcY T x y s = (lSt 1 0 (y.1, y.2.1 + 1, y.2.2) (s.1 + 1, 0)) := by
                unfold lcY
                rw [eA, eB, eS]
              rw [eS, eY] at k
              exact k M4 fx4 fy4 hr4 hy4
            · replace h16 := of_decide_eq_true h16
              exfalso
              omega
          · replace h15 := of_decide_eq_true h15
            exfalso
            omega
      · replace h3 := of_decide_eq_true h3
        refine Ru_iconst (pc := 54) (nI 0) dX12_readCase_54 rfl ?_
        refine Ru_goto (pc := 55) 70 dX12_readCase_55 (by decide) ?_
        refine Ru_istore_n (pc := 70) dX12_readCase_70 rfl rfl (by decide) ?_
        refine Ru_aload_n (pc := 71) dX12_readCase_71 rfl rfl ?_
        refine Ru_cv0 (pc := 72) dX12_readCase_72 mv_X12_261 rfl (by decide) (Nat.le_of_ble_eq_true rfl) (c_X12_nextS (s := s) tw hr2 h0 (fun M3 gx3 (hr3 : Y_rd T (s.1 + 1, 0) M3) => ?_)) 
        have fx3 : r_fx [(0, 12), (0, 13), (0, 14), (0, 15), (0, 16), (0, 17), (0, 18), (0, 21), (0, 19), (0, 20)] [5] M M3 := fx2.tr (gx3.mono rfl)
        have fy3 : ∀ q, q < 2621 → M3.1 5 q = M.1 5 q := fun q hq => (gx3 5 q rfl).1.trans (fy2 q hq)
        have wm3 : Y_wm x M3 := Y_wm_k (fun q _ => (gx3 5 q rfl).1) (fun q => (gx3 6 q rfl).2.1) wm2
        have hy3 : Y_lq (y.1, y.2.1 + 1, y.2.2) M3 := (Y_lq_dp _).kp gx3 rfl hy2
        have hb3 := hr3.2.2.2.2
        refine Ru_iload_n (pc := 75) dX12_readCase_75 rfl rfl ?_
        refine Ru_if_eqB (pc := 76) 103 dX12_readCase_76 (by decide) (fun h17 => ?_) (fun h17 => ?_)
        · replace h17 := of_decide_eq_false h17
          have hn9 := h17
          refine Ru_iload_n (pc := 103) dX12_readCase_103 rfl rfl ?_
          refine Ru_if_eqB (pc := 104) 189 dX12_readCase_104 (by decide) (fun h18 => ?_) (fun h18 => ?_)
          · replace h18 := of_decide_eq_false h18
            have hm9 := h18
            refine Ru_aload_n (pc := 189) dX12_readCase_189 rfl rfl ?_
            refine Ru_iload_n (pc := 190) dX12_readCase_190 rfl rfl ?_
            refine Ru_iconst (pc := 191) (nI 0) dX12_readCase_191 rfl ?_
            refine Ru_cv2 (pc := 192) dX12_readCase_192 mv_X12_328 rfl (by decide) (Nat.le_of_ble_eq_true rfl) (c_X12_lawStep (s := (s.1 + 1, 0)) (y := (y.1, y.2.1 + 1, y.2.2)) (a := 0) (b := 0) tw hr3 hy3 (fun _ => rfl) (fun _ => Nat.le_trans hl (by decide)) (fun M4 gx4 gy4 hr4 hy4 => ?_)) 
            have fx4 : r_fx [(0, 12), (0, 13), (0, 14), (0, 15), (0, 16), (0, 17), (0, 18), (0, 21), (0, 19), (0, 20)] [5] M M4 := fx3.tr (gx4.mono rfl)
            have fy4 : ∀ q, q < 2621 → M4.1 5 q = M.1 5 q := fun q hq => (gy4 q hq).trans (fy3 q hq)
            have wm4 : Y_wm x M4 := Y_wm_k (fun q hq => gy4 q (by omega)) (fun q => (gx4 6 q rfl).2.1) wm3
            have hb4 := hr4.2.2.2.2
            refine Ru_vret (pc := 195) dX12_readCase_195 rfl ⟨Nat.le_refl _, Nat.le_refl _⟩ ?_
            have eS : lcS T x s = (s.1 + 1, 0) := (if_neg (by omega)).trans (if_neg (by omega))
            have eA : lcA T s = 0 := by
              unfold lcA
              rw [if_neg (by omega), if_neg (by omega)]
              exact if_pos (by omega)
            have eB : lcB T x s = 0 := (if_neg (by omega)).trans (if_neg (by omega))
            have eY : lcY T x y s = (lSt 0 0 (y.1, y.2.1 + 1, y.2.2) (s.1 + 1, 0)) := by
              unfold lcY
              rw [eA, eB, eS]
            rw [eS, eY] at k
            exact k M4 fx4 fy4 hr4 hy4
          · replace h18 := of_decide_eq_true h18
            exfalso
            omega
        · replace h17 := of_decide_eq_true h17
          exfalso
          omega
    · exfalso
      omega
  · exact absurd h1 hc
