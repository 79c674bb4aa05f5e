-- READING: the reference's hands
def Y_rd (T : Tx) (s : Ps) (M : Mem) : Prop := Y_tx T M ∧ Y_tk T s.1 M ∧ M.1 0 12 = nI s.2 ∧ (¬ s.2 = 0 → M.1 0 13 = nI (tA T s.1)) ∧ s.2 ≤ 7
theorem Y_rd_dp (T : Tx) (s : Ps) : r_dp [(0, 9), (0, 12), (0, 13), (0, 14), (0, 15), (0, 16), (0, 17), (0, 18), (0, 21)] [4] (Y_rd T s) := by
  intro M M' q p
  refine ⟨Y_tx_dp T M M' (fun o k h => q o k ?_) p.1, Y_tk_dp T s.1 M M' (fun o k h => q o k ?_) p.2.1, (q 0 12 rfl).1.trans p.2.2.1, fun z => (q 0 13 rfl).1.trans (p.2.2.2.1 z), p.2.2.2.2⟩
  · simp only [r_in, Bool.or_eq_true] at h ⊢
    rcases h with h | h
    · exact Or.inl h
    · refine Or.inr ?_
      simp at h ⊢
      omega
  · simp only [r_in, Bool.or_eq_true] at h ⊢
    rcases h with h | h
    · cases h
    · refine Or.inr ?_
      simp at h ⊢
      omega
theorem sWrong_1 {T : Tx} {s : Ps} (h : tK T s.1 = 1) : sFail 1 s = sWrong T s := by
  unfold sFail sWrong
  rw [if_pos h]
theorem sWrong_2 {T : Tx} {s : Ps} (h : ¬ tK T s.1 = 1) : sFail 2 s = sWrong T s := by
  unfold sFail sWrong
  rw [if_neg h]
theorem sFail_n {f : Nat} {s : Ps} (hf : 1 ≤ f) (h : s.2 = 0) : ¬ (sFail f s).2 = 0 := by
  rw [show sFail f s = (s.1, f) from if_pos h]
  show ¬ f = 0
  omega
theorem tTok_4 {T : Tx} {i : Nat} : tTok (tK T i) = 4 ↔ tK T i = 1 := (tTok_ T i).2.1
theorem tTok_2 {T : Tx} {i : Nat} : tTok (tK T i) = 2 ↔ tK T i = 2 := (tTok_ T i).2.2
theorem tTok_0 {T : Tx} {i : Nat} : tTok (tK T i) = 0 ↔ tK T i = 0 := (tTok_ T i).1

theorem c_X12_fail {Q : Rq} {M : Mem} {T : Tx} {s : Ps} (tw : Tw T) (hr : Y_rd T s M) {f : Nat} (hf : 1 ≤ f ∧ f ≤ 7) (k : ∀ M', r_fx [(0, 12), (0, 13)] [] M M' → Y_rd T (sFail f s) M' → Q none GY M') : Ca 0 mt_X12_fail 0 0 [.ref 0, .int (nI f), .int (nI (tA T s.1))] GY M Q := by
  refine Ca_of rfl (Nat.le_of_ble_eq_true rfl) ?_
  refine Ru_aload_n (pc := 0) dX12_fail_0 rfl rfl ?_
  refine Ru_getI (pc := 1) dX12_fail_1 fl_X12_251 rfl rfl ?_
  refine Ru_top hr.2.2.1 ?_
  refine Ru_if_leN (pc := 4) 8 dX12_fail_4 (by decide) (by have := hr.2.2.2.2; omega) (fun h1 => ?_) (fun h1 => ?_)
  · refine Ru_aload_n (pc := 8) dX12_fail_8 rfl rfl ?_
    refine Ru_iload_n (pc := 9) dX12_fail_9 rfl rfl ?_
    refine Ru_putI (pc := 10) rfl dX12_fail_10 fl_X12_251 rfl ?_
    refine Ru_aload_n (pc := 13) dX12_fail_13 rfl rfl ?_
    refine Ru_iload_n (pc := 14) dX12_fail_14 rfl rfl ?_
    refine Ru_putI (pc := 15) rfl dX12_fail_15 fl_X12_254 rfl ?_
    refine Ru_vret (pc := 18) dX12_fail_18 rfl ⟨Nat.le_refl _, Nat.le_refl _⟩ ?_
    have e : sFail f s = (s.1, f) := if_pos (by omega)
    rw [e] at k
    refine k _ (r_fx.sI rfl (r_fx.sI rfl r_fx.rf)) ⟨(Y_tx_dp T).kp (F := [(0, 12), (0, 13)]) (A := []) (r_fx.sI rfl (r_fx.sI rfl r_fx.rf)) rfl hr.1, (Y_tk_dp T s.1).kp (F := [(0, 12), (0, 13)]) (A := []) (r_fx.sI rfl (r_fx.sI rfl r_fx.rf)) rfl hr.2.1, (r_sI_n (by decide)).trans r_sI_s, fun _ => r_sI_s, hf.2⟩
  · refine Ru_vret (pc := 7) dX12_fail_7 rfl ⟨Nat.le_refl _, Nat.le_refl _⟩ ?_
    rw [sFail_f (show ¬ s.2 = 0 by omega)] at k
    exact k M r_fx.rf hr

theorem c_X12_wrong {Q : Rq} {M : Mem} {T : Tx} {s : Ps} (tw : Tw T) (hr : Y_rd T s M) (k : ∀ M', r_fx [(0, 12), (0, 13), (0, 14), (0, 15), (0, 16), (0, 17), (0, 18), (0, 21)] [] M M' → Y_rd T (sWrong T s) M' → Q none GY M') : Ca 1 mt_X12_wrong 0 0 [.ref 0] GY M Q := by
  refine Ca_of rfl (Nat.le_of_ble_eq_true rfl) ?_
  refine Ru_aload_n (pc := 0) dX12_wrong_0 rfl rfl ?_
  refine Ru_aload_n (pc := 1) dX12_wrong_1 rfl rfl ?_
  refine Ru_getI (pc := 2) dX12_wrong_2 fl_X12_138 rfl rfl ?_
  refine Ru_top hr.2.1.2.2.1 ?_
  refine Ru_iconst (pc := 5) (nI 4) dX12_wrong_5 rfl ?_
  refine Ru_icmp_neN (pc := 6) 13 dX12_wrong_6 (by decide) (by have := tTok_b (tK T s.1); omega) (fun h1 => ?_) (fun h1 => ?_)
  · refine Ru_iconst (pc := 13) (nI 2) dX12_wrong_13 rfl ?_
    refine Ru_aload_n (pc := 14) dX12_wrong_14 rfl rfl ?_
    refine Ru_getI (pc := 15) dX12_wrong_15 fl_X12_132 rfl rfl ?_
    refine Ru_top hr.2.1.1 ?_
    refine Ru_cv2 (pc := 18) dX12_wrong_18 mv_X12_257 rfl (by decide) (Nat.le_of_ble_eq_true rfl) (c_X12_fail (f := 2) (s := s) tw hr (by decide) (fun M2 gx2 hr2 => ?_)) 
    have fx2 : r_fx [(0, 12), (0, 13), (0, 14), (0, 15), (0, 16), (0, 17), (0, 18), (0, 21)] [] M M2 := gx2.mono rfl
    have hb2 := hr2.2.2.2.2
    have ht2 := tTok_b (tK T (sFail 2 s).1)
    refine Ru_vret (pc := 21) dX12_wrong_21 rfl ⟨Nat.le_refl _, Nat.le_refl _⟩ ?_
    rw [sWrong_2 (fun z => absurd (tTok_4.mpr z) (by assumption))] at hr2
    exact k M2 fx2 hr2
  · refine Ru_iconst (pc := 9) (nI 1) dX12_wrong_9 rfl ?_
    refine Ru_goto (pc := 10) 14 dX12_wrong_10 (by decide) ?_
    refine Ru_aload_n (pc := 14) dX12_wrong_14 rfl rfl ?_
    refine Ru_getI (pc := 15) dX12_wrong_15 fl_X12_132 rfl rfl ?_
    refine Ru_top hr.2.1.1 ?_
    refine Ru_cv2 (pc := 18) dX12_wrong_18 mv_X12_257 rfl (by decide) (Nat.le_of_ble_eq_true rfl) (c_X12_fail (f := 1) (s := s) tw hr (by decide) (fun M2 gx2 hr2 => ?_)) 
    have fx2 : r_fx [(0, 12), (0, 13), (0, 14), (0, 15), (0, 16), (0, 17), (0, 18), (0, 21)] [] M M2 := gx2.mono rfl
    have hb2 := hr2.2.2.2.2
    have ht2 := tTok_b (tK T (sFail 1 s).1)
    refine Ru_vret (pc := 21) dX12_wrong_21 rfl ⟨Nat.le_refl _, Nat.le_refl _⟩ ?_
    rw [sWrong_1 (tTok_4.mp (by assumption))] at hr2
    exact k M2 fx2 hr2

theorem c_X12_nextS {Q : Rq} {M : Mem} {T : Tx} {s : Ps} (tw : Tw T) (hr : Y_rd T s M) (h0 : s.2 = 0) (k : ∀ M', r_fx [(0, 12), (0, 13), (0, 14), (0, 15), (0, 16), (0, 17), (0, 18), (0, 21)] [] M M' → Y_rd T (s.1 + 1, 0) M' → Q none GY M') : Ca 2 mt_X12_next 0 0 [.ref 0] GY M Q :=
  c_X12_next (i := s.1 + 1) tw hr.1 hr.2.1.2.1 (fun M' gx hk => k M' (gx.mono rfl) ⟨(Y_tx_dp T).kp gx rfl hr.1, hk, (gx 0 12 rfl).1.trans (hr.2.2.1.trans (congrArg nI h0)), fun z => absurd rfl z, Nat.zero_le _⟩)

theorem c_X12_must {Q : Rq} {M : Mem} {T : Tx} {s : Ps} (tw : Tw T) (hr : Y_rd T s M) {b : Bool} (k : ∀ M', r_fx [(0, 12), (0, 13), (0, 14), (0, 15), (0, 16), (0, 17), (0, 18), (0, 21)] [] M M' → Y_rd T (sMust T b s) M' → Q none GY M') : Ca 3 mt_X12_must 0 0 [.ref 0, .int (r_b b)] GY M Q := by
  refine Ca_of rfl (Nat.le_of_ble_eq_true rfl) ?_
  refine Ru_aload_n (pc := 0) dX12_must_0 rfl rfl ?_
  refine Ru_getI (pc := 1) dX12_must_1 fl_X12_251 rfl rfl ?_
  refine Ru_top hr.2.2.1 ?_
  refine Ru_if_leN (pc := 4) 8 dX12_must_4 (by decide) (by have := hr.2.2.2.2; omega) (fun h1 => ?_) (fun h1 => ?_)
  · refine Ru_iload_n (pc := 8) dX12_must_8 rfl rfl ?_
    refine Ru_if_eqB (pc := 9) 19 dX12_must_9 (by decide) (fun h2 => ?_) (fun h2 => ?_)
    · refine Ru_aload_n (pc := 19) dX12_must_19 rfl rfl ?_
      refine Ru_cv0 (pc := 20) dX12_must_20 mv_X12_264 rfl (by decide) (Nat.le_of_ble_eq_true rfl) (c_X12_wrong (s := s) tw hr (fun M2 gx2 hr2 => ?_)) 
      have fx2 : r_fx [(0, 12), (0, 13), (0, 14), (0, 15), (0, 16), (0, 17), (0, 18), (0, 21)] [] M M2 := gx2.mono rfl
      have hb2 := hr2.2.2.2.2
      have ht2 := tTok_b (tK T (sWrong T s).1)
      refine Ru_vret (pc := 23) dX12_must_23 rfl ⟨Nat.le_refl _, Nat.le_refl _⟩ ?_
      have eb : b = false := by assumption
      rw [eb] at k
      exact k M2 fx2 hr2
    · refine Ru_aload_n (pc := 12) dX12_must_12 rfl rfl ?_
      refine Ru_cv0 (pc := 13) dX12_must_13 mv_X12_261 rfl (by decide) (Nat.le_of_ble_eq_true rfl) (c_X12_nextS (s := s) tw hr (by first | rfl | assumption | omega) (fun M2 gx2 (hr2 : Y_rd T (s.1 + 1, 0) M2) => ?_)) 
      have fx2 : r_fx [(0, 12), (0, 13), (0, 14), (0, 15), (0, 16), (0, 17), (0, 18), (0, 21)] [] M M2 := gx2.mono rfl
      have hb2 := hr2.2.2.2.2
      have ht2 := tTok_b (tK T (s.1 + 1))
      refine Ru_goto (pc := 16) 23 dX12_must_16 (by decide) ?_
      refine Ru_vret (pc := 23) dX12_must_23 rfl ⟨Nat.le_refl _, Nat.le_refl _⟩ ?_
      have eb : b = true := by assumption
      rw [eb, show sMust T true s = (s.1 + 1, 0) from if_pos (show s.2 = 0 by omega)] at k
      exact k M2 fx2 hr2
  · refine Ru_vret (pc := 7) dX12_must_7 rfl ⟨Nat.le_refl _, Nat.le_refl _⟩ ?_
    rw [sMust_f (show ¬ s.2 = 0 by omega)] at k
    exact k M r_fx.rf hr

theorem c_X12_count {Q : Rq} {M : Mem} {T : Tx} {s : Ps} (tw : Tw T) (hr : Y_rd T s M) {lo hi : Nat} (hlo : lo < 1000 ∧ hi < 1000) (k : ∀ M' v, r_fx [(0, 12), (0, 13), (0, 14), (0, 15), (0, 16), (0, 17), (0, 18), (0, 21)] [] M M' → Y_rd T (sCount T lo hi s) M' → ((sCount T lo hi s).2 = 0 → v = nI (tV T s.1)) → Q (some (.int v)) GY M') : Ca 3 mt_X12_count 0 0 [.ref 0, .int (nI lo), .int (nI hi)] GY M Q := by
  refine Ca_of rfl (Nat.le_of_ble_eq_true rfl) ?_
  have hb0 := hr.2.2.2.2
  have ht0 := tTok_b (tK T s.1)
  have hvb := @tV_b T tw s.1
  refine Ru_aload_n (pc := 0) dX12_count_0 rfl rfl ?_
  refine Ru_getI (pc := 1) dX12_count_1 fl_X12_251 rfl rfl ?_
  refine Ru_top hr.2.2.1 ?_
  refine Ru_if_neN (pc := 4) 19 dX12_count_4 (by decide) (by omega) (fun h1 => ?_) (fun h1 => ?_)
  · refine Ru_aload_n (pc := 19) dX12_count_19 rfl rfl ?_
    refine Ru_getI (pc := 20) dX12_count_20 fl_X12_251 rfl rfl ?_
    refine Ru_top hr.2.2.1 ?_
    refine Ru_if_neN (pc := 23) 50 dX12_count_23 (by decide) (by omega) (fun h2 => ?_) (fun h2 => ?_)
    · refine Ru_aload_n (pc := 50) dX12_count_50 rfl rfl ?_
      refine Ru_getI (pc := 51) dX12_count_51 fl_X12_251 rfl rfl ?_
      refine Ru_top hr.2.2.1 ?_
      refine Ru_if_leN (pc := 54) 59 dX12_count_54 (by decide) (by omega) (fun h3 => ?_) (fun h3 => ?_)
      · exfalso
        omega
      · refine Ru_iconst (pc := 57) (nI 0) dX12_count_57 rfl ?_
        refine Ru_iret (pc := 58) dX12_count_58 rfl ⟨Nat.le_refl _, Nat.le_refl _⟩ ?_
        have e : sCount T lo hi s = s := sCount_f (by omega)
        refine k M _ r_fx.rf (by rw [e]; exact hr) (fun z => ?_)
        exfalso
        rw [e] at z
        omega
    · exfalso
      omega
  · refine Ru_aload_n (pc := 7) dX12_count_7 rfl rfl ?_
    refine Ru_getI (pc := 8) dX12_count_8 fl_X12_138 rfl rfl ?_
    refine Ru_top hr.2.1.2.2.1 ?_
    refine Ru_iconst (pc := 11) (nI 2) dX12_count_11 rfl ?_
    refine Ru_icmp_eqN (pc := 12) 19 dX12_count_12 (by decide) (by omega) (fun h4 => ?_) (fun h4 => ?_)
    · have h2n : tTok (tK T s.1) = 2 := by assumption
      have evt := r_tn (show tV T s.1 < 2147483648 by have := hvb (tTok_2.mp h2n); omega)
      refine Ru_aload_n (pc := 19) dX12_count_19 rfl rfl ?_
      refine Ru_getI (pc := 20) dX12_count_20 fl_X12_251 rfl rfl ?_
      refine Ru_top hr.2.2.1 ?_
      refine Ru_if_neN (pc := 23) 50 dX12_count_23 (by decide) (by omega) (fun h5 => ?_) (fun h5 => ?_)
      · exfalso
        omega
      · refine Ru_aload_n (pc := 26) dX12_count_26 rfl rfl ?_
        refine Ru_getI (pc := 27) dX12_count_27 fl_X12_157 rfl rfl ?_
        refine Ru_top (hr.2.1.2.2.2.2.2.1 (tTok_2.mp (by assumption))) ?_
        refine Ru_i2l (pc := 30) _ dX12_count_30 rfl ?_
        refine Ru_iload_n (pc := 31) dX12_count_31 rfl rfl ?_
        refine Ru_i2l (pc := 32) _ dX12_count_32 rfl ?_
        refine Ru_iload_n (pc := 33) dX12_count_33 rfl rfl ?_
        refine Ru_i2l (pc := 34) _ dX12_count_34 rfl ?_
        refine Ru_cs3 (pc := 35) dX12_count_35 ms_X12_122 (by decide) (Nat.le_of_ble_eq_true rfl) (c_X12_isIn (lo : Int) (hi : Int) (r_hiK (by omega)) (r_hiK (by omega)) ?_) 
        refine Ru_if_neB (pc := 38) 50 dX12_count_38 (by decide) (fun h6 => ?_) (fun h6 => ?_)
        · replace h6 := of_decide_eq_true h6
          refine Ru_aload_n (pc := 50) dX12_count_50 rfl rfl ?_
          refine Ru_getI (pc := 51) dX12_count_51 fl_X12_251 rfl rfl ?_
          refine Ru_top hr.2.2.1 ?_
          refine Ru_if_leN (pc := 54) 59 dX12_count_54 (by decide) (by omega) (fun h7 => ?_) (fun h7 => ?_)
          · refine Ru_aload_n (pc := 59) dX12_count_59 rfl rfl ?_
            refine Ru_getI (pc := 60) dX12_count_60 fl_X12_157 rfl rfl ?_
            refine Ru_top (hr.2.1.2.2.2.2.2.1 (tTok_2.mp (by assumption))) ?_
            refine Ru_istore_n (pc := 63) dX12_count_63 rfl rfl (by decide) ?_
            refine Ru_aload_n (pc := 64) dX12_count_64 rfl rfl ?_
            refine Ru_cv0 (pc := 65) dX12_count_65 mv_X12_261 rfl (by decide) (Nat.le_of_ble_eq_true rfl) (c_X12_nextS (s := s) tw hr (by first | rfl | assumption | omega) (fun M2 gx2 (hr2 : Y_rd T (s.1 + 1, 0) M2) => ?_)) 
            have fx2 : r_fx [(0, 12), (0, 13), (0, 14), (0, 15), (0, 16), (0, 17), (0, 18), (0, 21)] [] M M2 := gx2.mono rfl
            have hb2 := hr2.2.2.2.2
            have ht2 := tTok_b (tK T (s.1 + 1))
            refine Ru_iload_n (pc := 68) dX12_count_68 rfl rfl ?_
            refine Ru_iret (pc := 69) dX12_count_69 rfl ⟨Nat.le_refl _, Nat.le_refl _⟩ ?_
            have e : sCount T lo hi s = (s.1 + 1, 0) := by
              unfold sCount
              rw [if_pos (tTok_2.mp (by assumption)), if_pos (by omega)]
              exact if_pos (by omega)
            refine k M2 _ fx2 (by rw [e]; exact hr2) (fun _ => rfl)
          · exfalso
            omega
        · replace h6 := of_decide_eq_false h6
          refine Ru_aload_n (pc := 41) dX12_count_41 rfl rfl ?_
          refine Ru_iconst (pc := 42) (nI 4) dX12_count_42 rfl ?_
          refine Ru_aload_n (pc := 43) dX12_count_43 rfl rfl ?_
          refine Ru_getI (pc := 44) dX12_count_44 fl_X12_132 rfl rfl ?_
          refine Ru_top hr.2.1.1 ?_
          refine Ru_cv2 (pc := 47) dX12_count_47 mv_X12_257 rfl (by decide) (Nat.le_of_ble_eq_true rfl) (c_X12_fail (f := 4) (s := s) tw hr (by decide) (fun M2 gx2 hr2 => ?_)) 
          have fx2 : r_fx [(0, 12), (0, 13), (0, 14), (0, 15), (0, 16), (0, 17), (0, 18), (0, 21)] [] M M2 := gx2.mono rfl
          have hb2 := hr2.2.2.2.2
          have ht2 := tTok_b (tK T (sFail 4 s).1)
          have hn2 := sFail_n (f := 4) (by decide) (show s.2 = 0 by assumption)
          refine Ru_aload_n (pc := 50) dX12_count_50 rfl rfl ?_
          refine Ru_getI (pc := 51) dX12_count_51 fl_X12_251 rfl rfl ?_
          refine Ru_top hr2.2.2.1 ?_
          refine Ru_if_leN (pc := 54) 59 dX12_count_54 (by decide) (by omega) (fun h8 => ?_) (fun h8 => ?_)
          · exfalso
            omega
          · refine Ru_iconst (pc := 57) (nI 0) dX12_count_57 rfl ?_
            refine Ru_iret (pc := 58) dX12_count_58 rfl ⟨Nat.le_refl _, Nat.le_refl _⟩ ?_
            have e : sCount T lo hi s = sFail 4 s := by
              unfold sCount
              rw [if_pos (tTok_2.mp (by assumption)), if_neg (by omega)]
            refine k M2 _ fx2 (by rw [e]; exact hr2) (fun z => ?_)
            exfalso
            rw [e] at z
            rw [show sFail 4 s = (s.1, 4) from if_pos (by assumption)] at z
            cases z
    · refine Ru_aload_n (pc := 15) dX12_count_15 rfl rfl ?_
      refine Ru_cv0 (pc := 16) dX12_count_16 mv_X12_264 rfl (by decide) (Nat.le_of_ble_eq_true rfl) (c_X12_wrong (s := s) tw hr (fun M2 gx2 hr2 => ?_)) 
      have fx2 : r_fx [(0, 12), (0, 13), (0, 14), (0, 15), (0, 16), (0, 17), (0, 18), (0, 21)] [] M M2 := gx2.mono rfl
      have hb2 := hr2.2.2.2.2
      have ht2 := tTok_b (tK T (sWrong T s).1)
      have hn2 := (sWrong_n (T := T) (show s.2 = 0 from by assumption)).1
      refine Ru_aload_n (pc := 19) dX12_count_19 rfl rfl ?_
      refine Ru_getI (pc := 20) dX12_count_20 fl_X12_251 rfl rfl ?_
      refine Ru_top hr2.2.2.1 ?_
      refine Ru_if_neN (pc := 23) 50 dX12_count_23 (by decide) (by omega) (fun h9 => ?_) (fun h9 => ?_)
      · refine Ru_aload_n (pc := 50) dX12_count_50 rfl rfl ?_
        refine Ru_getI (pc := 51) dX12_count_51 fl_X12_251 rfl rfl ?_
        refine Ru_top hr2.2.2.1 ?_
        refine Ru_if_leN (pc := 54) 59 dX12_count_54 (by decide) (by omega) (fun h10 => ?_) (fun h10 => ?_)
        · exfalso
          omega
        · refine Ru_iconst (pc := 57) (nI 0) dX12_count_57 rfl ?_
          refine Ru_iret (pc := 58) dX12_count_58 rfl ⟨Nat.le_refl _, Nat.le_refl _⟩ ?_
          have e : sCount T lo hi s = sWrong T s := if_neg (fun z => absurd (tTok_2.mpr z) (by assumption))
          refine k M2 _ fx2 (by rw [e]; exact hr2) (fun z => ?_)
          exfalso
          rw [e] at z
          exact (sWrong_n (by assumption)).1 z
      · exfalso
        omega

theorem l_X12_named {Q : Rq} {M : Mem} {T : Tx} {i : Nat} {W : Nat → List Nat} {b f w0 n : Nat} (tw : Tw T) (hk : Y_tk T i M) (h3 : tK T i = 3) (hbf : 26 * b + f + n ≤ 130) (hW : ∀ k, k < n → M.2.1 6 (26 * b + f + k) = nJ (cd 32 (W (w0 + k))) ∧ Lv (W (w0 + k)) ∧ (W (w0 + k)).length ≤ 8) (k : Q (some (.int (nM (fN W (tL T i) w0 n)))) GY M) : ∀ (zw : Nat) (q : Nat), n - q = zw → (q ≤ n) → (∀ j, j < q → ¬ W (w0 + j) = tL T i) → Ru 0 mt_X12_named r_z 3 [(0, some (.ref 0)), (1, some (.int (nI b))), (2, some (.int (nI f))), (3, some (.int (nI n))), (4, some (.int (nI q)))] [] GY M Q := by
  intro zw
  induction zw using Nat.strongRecOn with
  | ind zw ih =>
    intro q hw hn hno
    subst hw
    have hv := tL_v tw (Or.inl h3)
    have hv8 := cd_8 (b := 32) (by decide) hv.1 hv.2.1
    refine Ru_iload (pc := 3) dX12_named_3 rfl ?_
    refine Ru_iload_n (pc := 5) dX12_named_5 rfl rfl ?_
    refine Ru_icmp_geN (pc := 6) 40 dX12_named_6 (by decide) (by omega) (fun h1 => ?_) (fun h1 => ?_)
    · refine Ru_iconst (pc := 40) (-1) dX12_named_40 rfl ?_
      refine Ru_iret (pc := 41) dX12_named_41 rfl ⟨Nat.le_refl _, Nat.le_refl _⟩ ?_
      refine r_qe ?_ k
      rw [show fN W (tL T i) w0 n = 0 from fF_no (fun j hj => decide_eq_false (hno j (by omega)))]
      rfl
    · refine Ru_aload_n (pc := 9) dX12_named_9 rfl rfl ?_
      refine Ru_getR (pc := 10) 6 dX12_named_10 fl_X12_38 rfl rfl rfl ?_
      refine Ru_bipush (pc := 13) (nI 26) dX12_named_13 rfl ?_
      refine Ru_iload_n (pc := 15) dX12_named_15 rfl rfl ?_
      refine Ru_imulN (pc := 16) dX12_named_16 ?_
      refine Ru_iload_n (pc := 17) dX12_named_17 rfl rfl ?_
      refine Ru_iaddN (pc := 18) dX12_named_18 ?_
      refine Ru_iload (pc := 19) dX12_named_19 rfl ?_
      refine Ru_iaddN (pc := 21) dX12_named_21 ?_
      refine Ru_lald (pc := 22) dX12_named_22 rfl (by omega) ?_
      refine Ru_topL ((hW q (by omega)).1) ?_
      refine Ru_aload_n (pc := 23) dX12_named_23 rfl rfl ?_
      refine Ru_getJ (pc := 24) dX12_named_24 fl_X12_144 rfl ?_
      refine Ru_topL (hk.2.2.2.1 (Or.inl h3)).1 ?_
      refine Ru_lcmp (pc := 27) dX12_named_27 ?_
      refine Ru_if_neC (pc := 28) 34 dX12_named_28 (by decide) (fun h2 => ?_) (fun h2 => ?_)
      · refine Ru_iincN (pc := 34) 1 dX12_named_34 rfl rfl rfl (by decide) ?_
        refine Ru_goto (pc := 37) 3 dX12_named_37 (by decide) ?_
        refine Ru_weak (ih (n - (q + 1)) (by omega) (q + 1) rfl (by omega) (fun j hj => ?_)) rfl
        by_cases e : j = q
        · subst e
          intro z
          exact absurd (congrArg (fun l => nJ (cd 32 l)) z) (by assumption)
        · exact hno j (by omega)
      · refine Ru_iload (pc := 31) dX12_named_31 rfl ?_
        refine Ru_iret (pc := 33) dX12_named_33 rfl ⟨Nat.le_refl _, Nat.le_refl _⟩ ?_
        refine r_qe ?_ k
        rw [show fN W (tL T i) w0 n = q + 1 from fF_at (by omega) (decide_eq_true ?_) (fun j hj => decide_eq_false (hno j hj))]
        · rfl
        · exact cd_inj (Or.inr rfl) (hW q (by omega)).2.1 hv.1 ((nJ_eq ⟨by have := cd_8 (b := 32) (by decide) (hW q (by omega)).2.1 (hW q (by omega)).2.2; omega, by omega⟩).mp (by assumption))

theorem c_X12_named {Q : Rq} {M : Mem} {T : Tx} {i : Nat} {W : Nat → List Nat} {b f w0 n : Nat} (tw : Tw T) (hk : Y_tk T i M) (h3 : tK T i = 3) (hbf : 26 * b + f + n ≤ 130) (hW : ∀ k, k < n → M.2.1 6 (26 * b + f + k) = nJ (cd 32 (W (w0 + k))) ∧ Lv (W (w0 + k)) ∧ (W (w0 + k)).length ≤ 8) (k : Q (some (.int (nM (fN W (tL T i) w0 n)))) GY M) : Ca 0 mt_X12_named 0 0 [.ref 0, .int (nI b), .int (nI f), .int (nI n)] GY M Q := by
  refine Ca_of rfl (Nat.le_of_ble_eq_true rfl) ?_
  refine Ru_iconst (pc := 0) (nI 0) dX12_named_0 rfl ?_
  refine Ru_istore (pc := 1) dX12_named_1 rfl (by decide) ?_
  exact Ru_weak (l_X12_named tw hk h3 hbf hW k n 0 rfl (Nat.zero_le _) (fun j hj => by omega)) rfl
