-- READING: the developers' hands
def fE (T : Tx) (s : Ps) : Int32 := if s.2 = 0 then -1 else nI (tA T s.1)
def X_rd (T : Tx) (cnt : Nat) (s : Ps) (M : Mem) : Prop := (s.2 = 0 → X_tk T cnt s.1 M) ∧ M.1 40 7 = nI s.2 ∧ M.1 40 8 = fE T s
theorem X_tk_dp (T : Tx) (cnt i : Nat) : r_dp [(40, 6)] [43, 44, 45] (X_tk T cnt i) := by
  intro M M' q p
  obtain ⟨a, b, c⟩ := p
  refine ⟨(q 40 6 rfl).1.trans a, b, fun j hj => ?_⟩
  obtain ⟨c1, c2, c3, c4⟩ := c j hj
  exact ⟨(q 43 j (r_in_A rfl)).1.trans c1, (q 44 j (r_in_A rfl)).1.trans c2, fun z => (q 45 j (r_in_A rfl)).2.1.trans (c3 z), fun z => (q 45 j (r_in_A rfl)).2.1.trans (c4 z)⟩
theorem X_rd_dp (T : Tx) (cnt : Nat) (s : Ps) : r_dp [(40, 6), (40, 7), (40, 8)] [43, 44, 45] (X_rd T cnt s) := by
  intro M M' q p
  refine ⟨fun z => X_tk_dp T cnt s.1 M M' (fun o k h => q o k ?_) (p.1 z), (q 40 7 rfl).1.trans p.2.1, (q 40 8 rfl).1.trans p.2.2⟩
  simp only [r_in, Bool.or_eq_true] at h ⊢
  rcases h with h | h
  · exact Or.inl h
  · refine Or.inr ?_
    simp at h ⊢
    omega
def sRf (T : Tx) (f : Nat) (s : Ps) : Ps := (s.1, if tK T s.1 = 1 then 1 else f)
theorem sRf_w {T : Tx} {s : Ps} (h : s.2 = 0) : sRf T 2 s = sWrong T s := (if_pos h).symm
theorem sRf_f {T : Tx} {f : Nat} {s : Ps} (h : s.2 = 0) (hk : ¬ tK T s.1 = 1) : sRf T f s = sFail f s := by
  unfold sRf sFail
  rw [if_neg hk, if_pos h]
theorem sRf_n {T : Tx} {f : Nat} {s : Ps} (hf : ¬ f = 0) : ¬ (sRf T f s).2 = 0 := by
  unfold sRf
  show ¬ (if _ then 1 else f) = 0
  split <;> omega
/-- a name of these, none that was had -/
def sNm (T : Tx) (W : Nat → List Nat) (b n had : Nat) (s : Ps) : Ps := if ¬ (sOld T W b n s).2 = 0 then sOld T W b n s else if had.testBit (fN W (tL T s.1) b n - 1) = true then (s.1, 5) else (s.1 + 1, 0)
theorem numb_iff {c : Prop} (inst : Decidable c) {v : Nat} (hv : v < 2147483648) : (if c then nI v else -1 : Int32).toInt = -1 ↔ ¬ c := by
  have em : (-1 : Int32).toInt = -1 := rfl
  by_cases h : c
  · rw [if_pos h, r_tn hv]
    constructor
    · intro z
      omega
    · intro z
      exact absurd h z
  · rw [if_neg h]
    exact ⟨fun _ => h, fun _ => em⟩
theorem lit_l2i {v : Nat} (h : v < 2147483648) : (nJ v).toInt32 = nI v := by
  rw [← nI_J h]
  exact Int32.toInt32_toInt64 _

theorem c_X8_kind {Q : Rq} {M : Mem} {T : Tx} {cnt : Nat} {s : Ps} (tw : Tw T) (hr : X_rd T cnt s M) (h0 : s.2 = 0) (k : Q (some (.int (nI (tK T s.1)))) GX M) : Ca 0 mt_X8_kind 0 0 [.ref 40] GX M Q := by
  refine Ca_of rfl (Nat.le_of_ble_eq_true rfl) ?_
  have hk := hr.1 h0
  have hkc := hk.2.1
  have hkb := kK_b T (tA T s.1)
  have hkb2 : kK T (tA T s.1) = tK T s.1 := rfl
  rw [hkb2] at hkb
  refine Ru_aload_n (pc := 0) dX8_kind_0 rfl rfl ?_
  refine Ru_getR (pc := 1) 43 dX8_kind_1 fl_X8_19 rfl rfl (rfX_of (o := 40) (j := 3) rfl rfl) ?_
  refine Ru_aload_n (pc := 4) dX8_kind_4 rfl rfl ?_
  refine Ru_getI (pc := 5) dX8_kind_5 fl_X8_69 rfl rfl ?_
  refine Ru_top hk.1 ?_
  refine Ru_iald (pc := 8) dX8_kind_8 rfl (by omega) ?_
  refine Ru_top (hk.2.2 s.1 (by omega)).1 ?_
  refine Ru_iret (pc := 9) dX8_kind_9 rfl ⟨Nat.le_refl _, Nat.le_refl _⟩ ?_
  exact k

theorem c_X8_word {Q : Rq} {M : Mem} {T : Tx} {cnt : Nat} {s : Ps} (tw : Tw T) (hr : X_rd T cnt s M) (h0 : s.2 = 0) (h3 : tK T s.1 = 3) (k : Q (some (.long (nJ (cd 27 (tL T s.1))))) GX M) : Ca 0 mt_X8_word 0 0 [.ref 40] GX M Q := by
  refine Ca_of rfl (Nat.le_of_ble_eq_true rfl) ?_
  have hk := hr.1 h0
  have hkc := hk.2.1
  have hkb := kK_b T (tA T s.1)
  have hkb2 : kK T (tA T s.1) = tK T s.1 := rfl
  rw [hkb2] at hkb
  refine Ru_aload_n (pc := 0) dX8_word_0 rfl rfl ?_
  refine Ru_getR (pc := 1) 45 dX8_word_1 fl_X8_26 rfl rfl (rfX_of (o := 40) (j := 5) rfl rfl) ?_
  refine Ru_aload_n (pc := 4) dX8_word_4 rfl rfl ?_
  refine Ru_getI (pc := 5) dX8_word_5 fl_X8_69 rfl rfl ?_
  refine Ru_top hk.1 ?_
  refine Ru_lald (pc := 8) dX8_word_8 rfl (by omega) ?_
  refine Ru_topL ((hk.2.2 s.1 (by omega)).2.2.2 h3) ?_
  refine Ru_lret (pc := 9) dX8_word_9 rfl ⟨Nat.le_refl _, Nat.le_refl _⟩ ?_
  exact k

theorem c_X8_next {Q : Rq} {M : Mem} {T : Tx} {cnt : Nat} {s : Ps} (tw : Tw T) (hr : X_rd T cnt s M) (h0 : s.2 = 0) (hK : ¬ tK T s.1 = 0) (k : ∀ M', r_fx [(40, 6)] [] M M' → X_rd T cnt (s.1 + 1, 0) M' → Q none GX M') : Ca 0 mt_X8_next 0 0 [.ref 40] GX M Q := by
  refine Ca_of rfl (Nat.le_of_ble_eq_true rfl) ?_
  have hk := hr.1 h0
  have hkc := hk.2.1
  have hkb := kK_b T (tA T s.1)
  have hkb2 : kK T (tA T s.1) = tK T s.1 := rfl
  rw [hkb2] at hkb
  have hi8 := (tK_i tw hK).1
  have hic : ¬ s.1 = cnt := fun z => hK (by rw [z]; exact hkc.2.2)
  refine Ru_aload_n (pc := 0) dX8_next_0 rfl rfl ?_
  refine Ru_getR (pc := 1) 43 dX8_next_1 fl_X8_19 rfl rfl (rfX_of (o := 40) (j := 3) rfl rfl) ?_
  refine Ru_aload_n (pc := 4) dX8_next_4 rfl rfl ?_
  refine Ru_getI (pc := 5) dX8_next_5 fl_X8_69 rfl rfl ?_
  refine Ru_top hk.1 ?_
  refine Ru_iald (pc := 8) dX8_next_8 rfl (by omega) ?_
  refine Ru_top (hk.2.2 s.1 (by omega)).1 ?_
  refine Ru_if_eqN (pc := 9) 32 dX8_next_9 (by decide) (by omega) (fun h1 => ?_) (fun h1 => ?_)
  · exfalso
    omega
  · refine Ru_aload_n (pc := 12) dX8_next_12 rfl rfl ?_
    refine Ru_getI (pc := 13) dX8_next_13 fl_X8_69 rfl rfl ?_
    refine Ru_top hk.1 ?_
    refine Ru_sipush (pc := 16) (nI 800) dX8_next_16 rfl ?_
    refine Ru_icmp_geN (pc := 19) 32 dX8_next_19 (by decide) (by omega) (fun h2 => ?_) (fun h2 => ?_)
    · exfalso
      omega
    · refine Ru_aload_n (pc := 22) dX8_next_22 rfl rfl ?_
      refine Ru_dup (pc := 23) dX8_next_23 rfl ?_
      refine Ru_getI (pc := 24) dX8_next_24 fl_X8_69 rfl rfl ?_
      refine Ru_top hk.1 ?_
      refine Ru_iconst (pc := 27) (nI 1) dX8_next_27 rfl ?_
      refine Ru_iaddN (pc := 28) dX8_next_28 ?_
      refine Ru_putI (pc := 29) rfl dX8_next_29 fl_X8_69 rfl ?_
      refine Ru_vret (pc := 32) dX8_next_32 rfl ⟨Nat.le_refl _, Nat.le_refl _⟩ ?_
      exact k _ (r_fx.sI rfl r_fx.rf) ⟨fun _ => ⟨r_sI_s, ⟨by show s.1 + 1 ≤ cnt; omega, hkc.2⟩, fun j hj => ⟨(r_sI_n (by omega)).trans (hk.2.2 j hj).1, (r_sI_n (by omega)).trans (hk.2.2 j hj).2.1, (hk.2.2 j hj).2.2⟩⟩, (r_sI_n (by decide)).trans (hr.2.1.trans (congrArg nI h0)), (r_sI_n (by decide)).trans (hr.2.2.trans ((if_pos h0).trans (if_pos rfl).symm))⟩

theorem c_X8_refuse {Q : Rq} {M : Mem} {T : Tx} {cnt : Nat} {s : Ps} (tw : Tw T) (hr : X_rd T cnt s M) (h0 : s.2 = 0) {f : Nat} (hf : 1 ≤ f) (k : ∀ M', r_fx [(40, 7), (40, 8)] [] M M' → X_rd T cnt (sRf T f s) M' → Q (some (.int (nI 0))) GX M') : Ca 0 mt_X8_refuse 0 0 [.ref 40, .int (nI f)] GX M Q := by
  refine Ca_of rfl (Nat.le_of_ble_eq_true rfl) ?_
  have hk := hr.1 h0
  have hkc := hk.2.1
  have hkb := kK_b T (tA T s.1)
  have hkb2 : kK T (tA T s.1) = tK T s.1 := rfl
  rw [hkb2] at hkb
  refine Ru_aload_n (pc := 0) dX8_refuse_0 rfl rfl ?_
  refine Ru_aload_n (pc := 1) dX8_refuse_1 rfl rfl ?_
  refine Ru_getR (pc := 2) 43 dX8_refuse_2 fl_X8_19 rfl rfl (rfX_of (o := 40) (j := 3) rfl rfl) ?_
  refine Ru_aload_n (pc := 5) dX8_refuse_5 rfl rfl ?_
  refine Ru_getI (pc := 6) dX8_refuse_6 fl_X8_69 rfl rfl ?_
  refine Ru_top hk.1 ?_
  refine Ru_iald (pc := 9) dX8_refuse_9 rfl (by omega) ?_
  refine Ru_top (hk.2.2 s.1 (by omega)).1 ?_
  refine Ru_iconst (pc := 10) (nI 1) dX8_refuse_10 rfl ?_
  refine Ru_icmp_neN (pc := 11) 18 dX8_refuse_11 (by decide) (by omega) (fun h1 => ?_) (fun h1 => ?_)
  · refine Ru_iload_n (pc := 18) dX8_refuse_18 rfl rfl ?_
    refine Ru_putI (pc := 19) rfl dX8_refuse_19 fl_X8_29 rfl ?_
    refine Ru_aload_n (pc := 22) dX8_refuse_22 rfl rfl ?_
    refine Ru_aload_n (pc := 23) dX8_refuse_23 rfl rfl ?_
    refine Ru_getR (pc := 24) 44 dX8_refuse_24 fl_X8_23 rfl rfl (rfX_of (o := 40) (j := 4) rfl rfl) ?_
    refine Ru_aload_n (pc := 27) dX8_refuse_27 rfl rfl ?_
    refine Ru_getI (pc := 28) dX8_refuse_28 fl_X8_69 rfl rfl ?_
    refine Ru_top ((r_sI_n (by decide)).trans hk.1) ?_
    refine Ru_iald (pc := 31) dX8_refuse_31 rfl (by omega) ?_
    refine Ru_top ((r_sI_n (by omega)).trans (hk.2.2 s.1 (by omega)).2.1) ?_
    refine Ru_putI (pc := 32) rfl dX8_refuse_32 fl_X8_33 rfl ?_
    refine Ru_iconst (pc := 35) (nI 0) dX8_refuse_35 rfl ?_
    refine Ru_zret (pc := 36) dX8_refuse_36 rfl ⟨Nat.le_refl _, Nat.le_refl _⟩ (Or.inl rfl) ?_
    refine k _ (r_fx.sI rfl (r_fx.sI rfl r_fx.rf)) ⟨fun z => absurd z (sRf_n (by omega)), ?_, r_sI_s.trans (if_neg (sRf_n (by omega))).symm⟩
    refine (r_sI_n (by decide)).trans (r_sI_s.trans (congrArg nI ?_))
    show _ = (if tK T s.1 = 1 then 1 else f)
    rw [if_neg (by assumption)]
  · refine Ru_iconst (pc := 14) (nI 1) dX8_refuse_14 rfl ?_
    refine Ru_goto (pc := 15) 19 dX8_refuse_15 (by decide) ?_
    refine Ru_putI (pc := 19) rfl dX8_refuse_19 fl_X8_29 rfl ?_
    refine Ru_aload_n (pc := 22) dX8_refuse_22 rfl rfl ?_
    refine Ru_aload_n (pc := 23) dX8_refuse_23 rfl rfl ?_
    refine Ru_getR (pc := 24) 44 dX8_refuse_24 fl_X8_23 rfl rfl (rfX_of (o := 40) (j := 4) rfl rfl) ?_
    refine Ru_aload_n (pc := 27) dX8_refuse_27 rfl rfl ?_
    refine Ru_getI (pc := 28) dX8_refuse_28 fl_X8_69 rfl rfl ?_
    refine Ru_top ((r_sI_n (by decide)).trans hk.1) ?_
    refine Ru_iald (pc := 31) dX8_refuse_31 rfl (by omega) ?_
    refine Ru_top ((r_sI_n (by omega)).trans (hk.2.2 s.1 (by omega)).2.1) ?_
    refine Ru_putI (pc := 32) rfl dX8_refuse_32 fl_X8_33 rfl ?_
    refine Ru_iconst (pc := 35) (nI 0) dX8_refuse_35 rfl ?_
    refine Ru_zret (pc := 36) dX8_refuse_36 rfl ⟨Nat.le_refl _, Nat.le_refl _⟩ (Or.inl rfl) ?_
    refine k _ (r_fx.sI rfl (r_fx.sI rfl r_fx.rf)) ⟨fun z => absurd z (sRf_n (by omega)), ?_, r_sI_s.trans (if_neg (sRf_n (by omega))).symm⟩
    refine (r_sI_n (by decide)).trans (r_sI_s.trans (congrArg nI ?_))
    show _ = (if tK T s.1 = 1 then 1 else f)
    rw [if_pos (by assumption)]

theorem c_X8_expect {Q : Rq} {M : Mem} {T : Tx} {cnt : Nat} {s : Ps} (tw : Tw T) (hr : X_rd T cnt s M) (h0 : s.2 = 0) {w : Nat} (hw : 5 ≤ w ∧ w < 1000) (k : ∀ M', r_fx [(40, 6), (40, 7), (40, 8)] [] M M' → X_rd T cnt (sMust T (decide (tK T s.1 = w)) s) M' → Q (some (.int (r_b (decide ((sMust T (decide (tK T s.1 = w)) s).2 = 0))))) GX M') : Ca 1 mt_X8_expect 0 0 [.ref 40, .int (nI w)] GX M Q := by
  refine Ca_of rfl (Nat.le_of_ble_eq_true rfl) ?_
  have hk := hr.1 h0
  have hkc := hk.2.1
  have hkb := kK_b T (tA T s.1)
  have hkb2 : kK T (tA T s.1) = tK T s.1 := rfl
  rw [hkb2] at hkb
  refine Ru_aload_n (pc := 0) dX8_expect_0 rfl rfl ?_
  refine Ru_getR (pc := 1) 43 dX8_expect_1 fl_X8_19 rfl rfl (rfX_of (o := 40) (j := 3) rfl rfl) ?_
  refine Ru_aload_n (pc := 4) dX8_expect_4 rfl rfl ?_
  refine Ru_getI (pc := 5) dX8_expect_5 fl_X8_69 rfl rfl ?_
  refine Ru_top hk.1 ?_
  refine Ru_iald (pc := 8) dX8_expect_8 rfl (by omega) ?_
  refine Ru_top (hk.2.2 s.1 (by omega)).1 ?_
  refine Ru_iload_n (pc := 9) dX8_expect_9 rfl rfl ?_
  refine Ru_icmp_eqN (pc := 10) 19 dX8_expect_10 (by decide) (by omega) (fun h1 => ?_) (fun h1 => ?_)
  · refine Ru_aload_n (pc := 19) dX8_expect_19 rfl rfl ?_
    refine Ru_cv0 (pc := 20) dX8_expect_20 mv_X8_95 rfl (by decide) (Nat.le_of_ble_eq_true rfl) (c_X8_next (s := s) tw hr (by assumption) (by omega) (fun M2 gx2 (hr2 : X_rd T cnt (s.1 + 1, 0) M2) => ?_)) 
    refine Ru_iconst (pc := 23) (nI 1) dX8_expect_23 rfl ?_
    refine Ru_zret (pc := 24) dX8_expect_24 rfl ⟨Nat.le_refl _, Nat.le_refl _⟩ (Or.inr rfl) ?_
    have e : sMust T (decide (tK T s.1 = w)) s = (s.1 + 1, 0) := by
      rw [decide_eq_true (show tK T s.1 = w by assumption)]
      exact if_pos h0
    rw [e] at k
    exact k M2 (gx2.mono rfl) hr2
  · refine Ru_aload_n (pc := 13) dX8_expect_13 rfl rfl ?_
    refine Ru_iconst (pc := 14) (nI 2) dX8_expect_14 rfl ?_
    refine Ru_cv1 (pc := 15) dX8_expect_15 mv_X8_92 rfl (by decide) (Nat.le_of_ble_eq_true rfl) (c_X8_refuse (s := s) (f := 2) tw hr (by assumption) (by decide) (fun M2 gx2 hr2 => ?_)) 
    refine Ru_zret (pc := 18) dX8_expect_18 rfl ⟨Nat.le_refl _, Nat.le_refl _⟩ (Or.inl rfl) ?_
    have e : sMust T (decide (tK T s.1 = w)) s = sRf T 2 s := by
      rw [decide_eq_false (show ¬ tK T s.1 = w by assumption), sRf_w h0]
      rfl
    rw [e, decide_eq_false (sRf_n (T := T) (f := 2) (s := s) (by decide))] at k
    exact k M2 (gx2.mono rfl) hr2

theorem c_X8_number {Q : Rq} {M : Mem} {T : Tx} {cnt : Nat} {s : Ps} (tw : Tw T) (hr : X_rd T cnt s M) (h0 : s.2 = 0) {lo hi : Nat} (hlo : lo < 1000 ∧ hi < 1000) (k : ∀ M', r_fx [(40, 6), (40, 7), (40, 8)] [] M M' → X_rd T cnt (sCount T lo hi s) M' → Q (some (.int (if (sCount T lo hi s).2 = 0 then nI (tV T s.1) else -1))) GX M') : Ca 1 mt_X8_number 0 0 [.ref 40, .int (nI lo), .int (nI hi)] GX M Q := by
  refine Ca_of rfl (Nat.le_of_ble_eq_true rfl) ?_
  have hk := hr.1 h0
  have hkc := hk.2.1
  have hkb := kK_b T (tA T s.1)
  have hkb2 : kK T (tA T s.1) = tK T s.1 := rfl
  rw [hkb2] at hkb
  refine Ru_aload_n (pc := 0) dX8_number_0 rfl rfl ?_
  refine Ru_getR (pc := 1) 43 dX8_number_1 fl_X8_19 rfl rfl (rfX_of (o := 40) (j := 3) rfl rfl) ?_
  refine Ru_aload_n (pc := 4) dX8_number_4 rfl rfl ?_
  refine Ru_getI (pc := 5) dX8_number_5 fl_X8_69 rfl rfl ?_
  refine Ru_top hk.1 ?_
  refine Ru_iald (pc := 8) dX8_number_8 rfl (by omega) ?_
  refine Ru_top (hk.2.2 s.1 (by omega)).1 ?_
  refine Ru_iconst (pc := 9) (nI 2) dX8_number_9 rfl ?_
  refine Ru_icmp_eqN (pc := 10) 21 dX8_number_10 (by decide) (by omega) (fun h1 => ?_) (fun h1 => ?_)
  · refine Ru_aload_n (pc := 21) dX8_number_21 rfl rfl ?_
    refine Ru_getR (pc := 22) 45 dX8_number_22 fl_X8_26 rfl rfl (rfX_of (o := 40) (j := 5) rfl rfl) ?_
    refine Ru_aload_n (pc := 25) dX8_number_25 rfl rfl ?_
    refine Ru_getI (pc := 26) dX8_number_26 fl_X8_69 rfl rfl ?_
    refine Ru_top hk.1 ?_
    refine Ru_lald (pc := 29) dX8_number_29 rfl (by omega) ?_
    refine Ru_topL ((hk.2.2 s.1 (by omega)).2.2.1 (by assumption)) ?_
    refine Ru_l2i (pc := 30) _ dX8_number_30 rfl ?_
    have hvb := tV_b tw (i := s.1) (by assumption)
    refine Ru_top (lit_l2i (v := tV T s.1) (by omega)) ?_
    refine Ru_istore_n (pc := 31) dX8_number_31 rfl rfl (by decide) ?_
    refine Ru_iload_n (pc := 32) dX8_number_32 rfl rfl ?_
    refine Ru_iload_n (pc := 33) dX8_number_33 rfl rfl ?_
    refine Ru_icmp_ltN (pc := 34) 42 dX8_number_34 (by decide) (by omega) (fun h2 => ?_) (fun h2 => ?_)
    · refine Ru_aload_n (pc := 42) dX8_number_42 rfl rfl ?_
      refine Ru_iconst (pc := 43) (nI 4) dX8_number_43 rfl ?_
      refine Ru_cv1 (pc := 44) dX8_number_44 mv_X8_92 rfl (by decide) (Nat.le_of_ble_eq_true rfl) (c_X8_refuse (s := s) (f := 4) tw hr (by assumption) (by decide) (fun M2 gx2 hr2 => ?_)) 
      refine Ru_pop (pc := 47) dX8_number_47 rfl ?_
      refine Ru_iconst (pc := 48) (-1) dX8_number_48 rfl ?_
      refine Ru_iret (pc := 49) dX8_number_49 rfl ⟨Nat.le_refl _, Nat.le_refl _⟩ ?_
      have e : sCount T lo hi s = sRf T 4 s := by
        rw [sRf_f h0 (by omega)]
        unfold sCount
        rw [if_pos (by assumption), if_neg (by omega)]
      rw [e, if_neg (sRf_n (T := T) (f := 4) (s := s) (by decide))] at k
      exact k M2 (gx2.mono rfl) hr2
    · refine Ru_iload_n (pc := 37) dX8_number_37 rfl rfl ?_
      refine Ru_iload_n (pc := 38) dX8_number_38 rfl rfl ?_
      refine Ru_icmp_leN (pc := 39) 50 dX8_number_39 (by decide) (by omega) (fun h3 => ?_) (fun h3 => ?_)
      · refine Ru_aload_n (pc := 50) dX8_number_50 rfl rfl ?_
        refine Ru_cv0 (pc := 51) dX8_number_51 mv_X8_95 rfl (by decide) (Nat.le_of_ble_eq_true rfl) (c_X8_next (s := s) tw hr (by assumption) (by omega) (fun M2 gx2 (hr2 : X_rd T cnt (s.1 + 1, 0) M2) => ?_)) 
        refine Ru_iload_n (pc := 54) dX8_number_54 rfl rfl ?_
        refine Ru_iret (pc := 55) dX8_number_55 rfl ⟨Nat.le_refl _, Nat.le_refl _⟩ ?_
        have e : sCount T lo hi s = (s.1 + 1, 0) := by
          unfold sCount
          rw [if_pos (by assumption), if_pos (by omega)]
          exact if_pos h0
        rw [e] at k
        exact k M2 (gx2.mono rfl) hr2
      · refine Ru_aload_n (pc := 42) dX8_number_42 rfl rfl ?_
        refine Ru_iconst (pc := 43) (nI 4) dX8_number_43 rfl ?_
        refine Ru_cv1 (pc := 44) dX8_number_44 mv_X8_92 rfl (by decide) (Nat.le_of_ble_eq_true rfl) (c_X8_refuse (s := s) (f := 4) tw hr (by assumption) (by decide) (fun M2 gx2 hr2 => ?_)) 
        refine Ru_pop (pc := 47) dX8_number_47 rfl ?_
        refine Ru_iconst (pc := 48) (-1) dX8_number_48 rfl ?_
        refine Ru_iret (pc := 49) dX8_number_49 rfl ⟨Nat.le_refl _, Nat.le_refl _⟩ ?_
        have e : sCount T lo hi s = sRf T 4 s := by
          rw [sRf_f h0 (by omega)]
          unfold sCount
          rw [if_pos (by assumption), if_neg (by omega)]
        rw [e, if_neg (sRf_n (T := T) (f := 4) (s := s) (by decide))] at k
        exact k M2 (gx2.mono rfl) hr2
  · refine Ru_aload_n (pc := 13) dX8_number_13 rfl rfl ?_
    refine Ru_iconst (pc := 14) (nI 2) dX8_number_14 rfl ?_
    refine Ru_cv1 (pc := 15) dX8_number_15 mv_X8_92 rfl (by decide) (Nat.le_of_ble_eq_true rfl) (c_X8_refuse (s := s) (f := 2) tw hr (by assumption) (by decide) (fun M2 gx2 hr2 => ?_)) 
    refine Ru_pop (pc := 18) dX8_number_18 rfl ?_
    refine Ru_iconst (pc := 19) (-1) dX8_number_19 rfl ?_
    refine Ru_iret (pc := 20) dX8_number_20 rfl ⟨Nat.le_refl _, Nat.le_refl _⟩ ?_
    have e : sCount T lo hi s = sRf T 2 s := by
      rw [sRf_w h0]
      exact if_neg (by assumption)
    rw [e, if_neg (sRf_n (T := T) (f := 2) (s := s) (by decide))] at k
    exact k M2 (gx2.mono rfl) hr2

theorem l_X3_find {Q : Rq} {M : Mem} {o b n : Nat} {W : Nat → List Nat} {l : List Nat} (ho : isNames o) (hcn : M.1 o 2 = nI n) (hn9 : n ≤ 12) (hW : ∀ k, k < n → M.2.1 (o + 1) k = nJ (cd 27 (W (b + k))) ∧ Lv (W (b + k)) ∧ (W (b + k)).length ≤ 8) (hl : Lv l) (hl8 : l.length ≤ 8) (k : Q (some (.int (nM (fN W l b n)))) GX M) : ∀ (zw : Nat) (q : Nat), n - q = zw → (q ≤ n) → (∀ j, j < q → ¬ W (b + j) = l) → Ru 0 mt_X3_find r_z 2 [(0, some (.ref o)), (1, some (.long (nJ (cd 27 l)))), (3, some (.int (nI q)))] [] GX M Q := by
  intro zw
  induction zw using Nat.strongRecOn with
  | ind zw ih =>
    intro q hw hn hno
    subst hw
    have hl9 := cd_8 (b := 27) (by decide) hl hl8
    refine Ru_iload_n (pc := 2) dX3_find_2 rfl rfl ?_
    refine Ru_aload_n (pc := 3) dX3_find_3 rfl rfl ?_
    refine Ru_getI (pc := 4) dX3_find_4 fl_X3_25 (shNames_0 ho) rfl ?_
    refine Ru_top hcn ?_
    refine Ru_icmp_geN (pc := 7) 29 dX3_find_7 (by decide) (by omega) (fun h1 => ?_) (fun h1 => ?_)
    · refine Ru_iconst (pc := 29) (-1) dX3_find_29 rfl ?_
      refine Ru_iret (pc := 30) dX3_find_30 rfl ⟨Nat.le_refl _, Nat.le_refl _⟩ ?_
      refine r_qe ?_ k
      rw [show fN W l b n = 0 from fF_no (fun j hj => decide_eq_false (hno j (by omega)))]
      rfl
    · refine Ru_aload_n (pc := 10) dX3_find_10 rfl rfl ?_
      refine Ru_getR (pc := 11) (o + 1) dX3_find_11 fl_X3_9 (shNames_0 ho) rfl (rfX_of (o := o) (j := 1) (shNames_0 ho) rfl) ?_
      refine Ru_iload_n (pc := 14) dX3_find_14 rfl rfl ?_
      refine Ru_lald (pc := 15) dX3_find_15 (shNames_1 ho) (by omega) ?_
      refine Ru_topL ((hW q (by omega)).1) ?_
      refine Ru_lload_n (pc := 16) dX3_find_16 rfl rfl ?_
      refine Ru_lcmp (pc := 17) dX3_find_17 ?_
      refine Ru_if_neC (pc := 18) 23 dX3_find_18 (by decide) (fun h2 => ?_) (fun h2 => ?_)
      · refine Ru_iincN (pc := 23) 1 dX3_find_23 rfl rfl rfl (by decide) ?_
        refine Ru_goto (pc := 26) 2 dX3_find_26 (by decide) ?_
        refine Ru_weak (ih (n - (q + 1)) (by omega) (q + 1) rfl (by omega) (fun j hj => ?_)) rfl
        by_cases e : j = q
        · subst e
          intro z
          exact absurd (congrArg (fun l => nJ (cd 27 l)) z) (by assumption)
        · exact hno j (by omega)
      · refine Ru_iload_n (pc := 21) dX3_find_21 rfl rfl ?_
        refine Ru_iret (pc := 22) dX3_find_22 rfl ⟨Nat.le_refl _, Nat.le_refl _⟩ ?_
        refine r_qe ?_ k
        rw [show fN W l b n = q + 1 from fF_at (by omega) (decide_eq_true ?_) (fun j hj => decide_eq_false (hno j hj))]
        · rfl
        · exact cd_inj (Or.inl rfl) (hW q (by omega)).2.1 hl ((nJ_eq ⟨by have := cd_8 (b := 27) (by decide) (hW q (by omega)).2.1 (hW q (by omega)).2.2; omega, by omega⟩).mp (by assumption))

theorem c_X3_find {Q : Rq} {M : Mem} {o b n : Nat} {W : Nat → List Nat} {l : List Nat} (ho : isNames o) (hcn : M.1 o 2 = nI n) (hn9 : n ≤ 12) (hW : ∀ k, k < n → M.2.1 (o + 1) k = nJ (cd 27 (W (b + k))) ∧ Lv (W (b + k)) ∧ (W (b + k)).length ≤ 8) (hl : Lv l) (hl8 : l.length ≤ 8) (k : Q (some (.int (nM (fN W l b n)))) GX M) : Ca 0 mt_X3_find 0 0 [.ref o, .long (nJ (cd 27 l))] GX M Q := by
  refine Ca_of rfl (Nat.le_of_ble_eq_true rfl) ?_
  refine Ru_iconst (pc := 0) (nI 0) dX3_find_0 rfl ?_
  refine Ru_istore_n (pc := 1) dX3_find_1 rfl rfl (by decide) ?_
  exact Ru_weak (l_X3_find ho hcn hn9 hW hl hl8 k n 0 rfl (Nat.zero_le _) (fun j hj => by omega)) rfl

theorem c_X8_named {Q : Rq} {M : Mem} {T : Tx} {cnt : Nat} {s : Ps} (tw : Tw T) (hr : X_rd T cnt s M) (h0 : s.2 = 0) {o b n had : Nat} {W : Nat → List Nat} (ho : isNames o) (hcn : M.1 o 2 = nI n) (hn9 : n ≤ 12) (hW : ∀ k, k < n → M.2.1 (o + 1) k = nJ (cd 27 (W (b + k))) ∧ Lv (W (b + k)) ∧ (W (b + k)).length ≤ 8) (hhad : had < 256) (k : ∀ M', r_fx [(40, 6), (40, 7), (40, 8)] [] M M' → X_rd T cnt (sNm T W b n had s) M' → Q (some (.int (if (sNm T W b n had s).2 = 0 then nI (fN W (tL T s.1) b n - 1) else -1))) GX M') : Ca 1 mt_X8_named 0 0 [.ref 40, .ref o, .int (nI had)] GX M Q := by
  refine Ca_of rfl (Nat.le_of_ble_eq_true rfl) ?_
  have hk := hr.1 h0
  have hkc := hk.2.1
  have hkb := kK_b T (tA T s.1)
  have hkb2 : kK T (tA T s.1) = tK T s.1 := rfl
  rw [hkb2] at hkb
  have hfl := fN_le W (tL T s.1) b n
  have hnm := nM_t (k := fN W (tL T s.1) b n) (by omega)
  have em : (-1 : Int32).toInt = -1 := rfl
  refine Ru_aload_n (pc := 0) dX8_named_0 rfl rfl ?_
  refine Ru_getR (pc := 1) 43 dX8_named_1 fl_X8_19 rfl rfl (rfX_of (o := 40) (j := 3) rfl rfl) ?_
  refine Ru_aload_n (pc := 4) dX8_named_4 rfl rfl ?_
  refine Ru_getI (pc := 5) dX8_named_5 fl_X8_69 rfl rfl ?_
  refine Ru_top hk.1 ?_
  refine Ru_iald (pc := 8) dX8_named_8 rfl (by omega) ?_
  refine Ru_top (hk.2.2 s.1 (by omega)).1 ?_
  refine Ru_iconst (pc := 9) (nI 3) dX8_named_9 rfl ?_
  refine Ru_icmp_eqN (pc := 10) 21 dX8_named_10 (by decide) (by omega) (fun h1 => ?_) (fun h1 => ?_)
  · have hv := tL_v tw (i := s.1) (Or.inl (by assumption))
    refine Ru_aload_n (pc := 21) dX8_named_21 rfl rfl ?_
    refine Ru_aload_n (pc := 22) dX8_named_22 rfl rfl ?_
    refine Ru_getR (pc := 23) 45 dX8_named_23 fl_X8_26 rfl rfl (rfX_of (o := 40) (j := 5) rfl rfl) ?_
    refine Ru_aload_n (pc := 26) dX8_named_26 rfl rfl ?_
    refine Ru_getI (pc := 27) dX8_named_27 fl_X8_69 rfl rfl ?_
    refine Ru_top hk.1 ?_
    refine Ru_lald (pc := 30) dX8_named_30 rfl (by omega) ?_
    refine Ru_topL ((hk.2.2 s.1 (by omega)).2.2.2 (by assumption)) ?_
    refine Ru_cv1 (pc := 31) dX8_named_31 mv_X8_98 (shNames_0 ho) (by decide) (Nat.le_of_ble_eq_true rfl) (c_X3_find (W := W) (b := b) ho hcn hn9 hW hv.1 hv.2.1 ?_) 
    refine Ru_istore_n (pc := 34) dX8_named_34 rfl rfl (by decide) ?_
    refine Ru_iload_n (pc := 35) dX8_named_35 rfl rfl ?_
    refine Ru_iconst (pc := 36) (-1) dX8_named_36 rfl ?_
    refine Ru_icmp_neT (pc := 37) 48 dX8_named_37 (by decide) (fun h2 => ?_) (fun h2 => ?_)
    · obtain ⟨q, hq⟩ : ∃ q, fN W (tL T s.1) b n = q + 1 := ⟨fN W (tL T s.1) b n - 1, by omega⟩
      refine Ru_weak (L' := [(0, some (.ref 40)), (1, some (.ref o)), (2, some (.int (nI had))), (3, some (.int (nI (fN W (tL T s.1) b n - 1))))]) ?_ (by rw [hq]; rfl)
      refine Ru_iload_n (pc := 48) dX8_named_48 rfl rfl ?_
      refine Ru_iload_n (pc := 49) dX8_named_49 rfl rfl ?_
      refine Ru_ishrN (pc := 50) dX8_named_50 ⟨by omega, by omega⟩ ?_
      refine Ru_iconst (pc := 51) (nI 1) dX8_named_51 rfl ?_
      refine Ru_iandN (pc := 52) dX8_named_52 ?_
      refine Ru_if_eqN (pc := 53) 64 dX8_named_53 (by decide) (Nat.lt_of_le_of_lt Nat.and_le_right (by decide)) (fun h3 => ?_) (fun h3 => ?_)
      · have h3b := r_b1_f h3
        have hbit := h3b
        refine Ru_aload_n (pc := 64) dX8_named_64 rfl rfl ?_
        refine Ru_cv0 (pc := 65) dX8_named_65 mv_X8_95 rfl (by decide) (Nat.le_of_ble_eq_true rfl) (c_X8_next (s := s) tw hr (by assumption) (by omega) (fun M2 gx2 (hr2 : X_rd T cnt (s.1 + 1, 0) M2) => ?_)) 
        refine Ru_iload_n (pc := 68) dX8_named_68 rfl rfl ?_
        refine Ru_iret (pc := 69) dX8_named_69 rfl ⟨Nat.le_refl _, Nat.le_refl _⟩ ?_
        have eo : sOld T W b n s = s := by
          unfold sOld
          rw [if_pos (by assumption), if_neg (by omega)]
        have e : sNm T W b n had s = (s.1 + 1, 0) := by
          unfold sNm
          rw [eo, if_neg (fun z => z h0), if_neg (nb_f hbit)]
        rw [e] at k
        exact k M2 (gx2.mono rfl) hr2
      · have h3b := r_b1_t h3
        have hbit := h3b
        refine Ru_aload_n (pc := 56) dX8_named_56 rfl rfl ?_
        refine Ru_iconst (pc := 57) (nI 5) dX8_named_57 rfl ?_
        refine Ru_cv1 (pc := 58) dX8_named_58 mv_X8_92 rfl (by decide) (Nat.le_of_ble_eq_true rfl) (c_X8_refuse (s := s) (f := 5) tw hr (by assumption) (by decide) (fun M2 gx2 hr2 => ?_)) 
        refine Ru_pop (pc := 61) dX8_named_61 rfl ?_
        refine Ru_iconst (pc := 62) (-1) dX8_named_62 rfl ?_
        refine Ru_iret (pc := 63) dX8_named_63 rfl ⟨Nat.le_refl _, Nat.le_refl _⟩ ?_
        have eo : sOld T W b n s = s := by
          unfold sOld
          rw [if_pos (by assumption), if_neg (by omega)]
        have e5 : sRf T 5 s = (s.1, 5) := by
          unfold sRf
          rw [if_neg (by omega)]
        have e : sNm T W b n had s = (s.1, 5) := by
          unfold sNm
          rw [eo, if_neg (fun z => z h0), if_pos hbit]
        rw [e, if_neg (show ¬ (s.1, 5).2 = 0 from fun z => Nat.noConfusion z)] at k
        rw [e5] at hr2
        exact k M2 (gx2.mono rfl) hr2
    · refine Ru_aload_n (pc := 40) dX8_named_40 rfl rfl ?_
      refine Ru_iconst (pc := 41) (nI 3) dX8_named_41 rfl ?_
      refine Ru_cv1 (pc := 42) dX8_named_42 mv_X8_92 rfl (by decide) (Nat.le_of_ble_eq_true rfl) (c_X8_refuse (s := s) (f := 3) tw hr (by assumption) (by decide) (fun M2 gx2 hr2 => ?_)) 
      refine Ru_pop (pc := 45) dX8_named_45 rfl ?_
      refine Ru_iconst (pc := 46) (-1) dX8_named_46 rfl ?_
      refine Ru_iret (pc := 47) dX8_named_47 rfl ⟨Nat.le_refl _, Nat.le_refl _⟩ ?_
      have eo : sOld T W b n s = sRf T 3 s := by
        rw [sRf_f h0 (by omega)]
        unfold sOld
        rw [if_pos (by assumption), if_pos (by omega)]
      have e : sNm T W b n had s = sRf T 3 s := by
        unfold sNm
        rw [eo, if_pos (sRf_n (by decide))]
      rw [e, if_neg (sRf_n (T := T) (f := 3) (s := s) (by decide))] at k
      exact k M2 (gx2.mono rfl) hr2
  · refine Ru_aload_n (pc := 13) dX8_named_13 rfl rfl ?_
    refine Ru_iconst (pc := 14) (nI 2) dX8_named_14 rfl ?_
    refine Ru_cv1 (pc := 15) dX8_named_15 mv_X8_92 rfl (by decide) (Nat.le_of_ble_eq_true rfl) (c_X8_refuse (s := s) (f := 2) tw hr (by assumption) (by decide) (fun M2 gx2 hr2 => ?_)) 
    refine Ru_pop (pc := 18) dX8_named_18 rfl ?_
    refine Ru_iconst (pc := 19) (-1) dX8_named_19 rfl ?_
    refine Ru_iret (pc := 20) dX8_named_20 rfl ⟨Nat.le_refl _, Nat.le_refl _⟩ ?_
    have eo : sOld T W b n s = sRf T 2 s := by
      rw [sRf_w h0]
      exact if_neg (by assumption)
    have e : sNm T W b n had s = sRf T 2 s := by
      unfold sNm
      rw [eo, if_pos (sRf_n (by decide))]
    rw [e, if_neg (sRf_n (T := T) (f := 2) (s := s) (by decide))] at k
    exact k M2 (gx2.mono rfl) hr2
