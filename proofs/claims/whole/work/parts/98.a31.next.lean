-- TOKENS: the reference
theorem w_ltr32 {c x : Nat} (hc : c < 1099511627776) (hx : 97 ≤ x ∧ x ≤ 122) : nJ c * 32 + (nI x).toInt64 - 96 = nJ (c * 32 + (x - 96)) := by
  apply Int64.toInt_inj.mp
  have e32 : (32 : Int64).toInt = 32 := rfl
  have e96 : (96 : Int64).toInt = 96 := rfl
  rw [Int64.toInt_sub, Int64.toInt_add, Int64.toInt_mul, nJ_t (by omega), nJ_t (by omega), Int32.toInt_toInt64, r_tn (by omega), e32, e96, Int.bmod_eq_of_le (n := (c : Int) * 32) (by omega) (by omega), Int.bmod_eq_of_le (n := (c : Int) * 32 + x) (by omega) (by omega), Int.bmod_eq_of_le (by omega) (by omega)]
  omega
theorem r_sJ_s {M : Mem} {o k : Nat} {v : Int64} : (r_sJ M o k v).2.1 o k = v := by simp [r_sJ_g]
theorem r_sJ_n {M : Mem} {o k o' k' : Nat} {v : Int64} (h : ¬ (o' = o ∧ k' = k)) : (r_sJ M o k v).2.1 o' k' = M.2.1 o' k' := by rw [r_sJ_g, if_neg h]
/-- the text on the tape -/
def Y_tx (T : Tx) (M : Mem) : Prop := M.1 0 9 = nI T.2 ∧ ∀ k, k < T.2 → M.1 4 k &&& nI 255 = nI (T.1 k)
/-- the i-th token is ahead -/
def Y_tk (T : Tx) (i : Nat) (M : Mem) : Prop := M.1 0 15 = nI (tA T i) ∧ M.1 0 16 = nI (tp T (i + 1)) ∧ M.1 0 14 = nI (tTok (tK T i)) ∧ (tK T i = 3 ∨ 128 ≤ tK T i → M.2.1 0 21 = nJ (cd 32 (tL T i)) ∧ M.1 0 18 = nI (tL T i).length) ∧ (tK T i = 4 → M.2.1 0 21 = -1 ∧ ∃ l, 8 < l ∧ l < 2147483648 ∧ M.1 0 18 = nI l) ∧ (tK T i = 2 → M.1 0 17 = nI (tV T i)) ∧ (isSg (tK T i) = true → M.1 0 17 = nI (tK T i))
theorem Y_tx_dp (T : Tx) : r_dp [(0, 9)] [4] (Y_tx T) := by
  intro M M' q p
  exact ⟨(q 0 9 rfl).1.trans p.1, fun k hk => (congrArg (· &&& nI 255) (q 4 k rfl).1).trans (p.2 k hk)⟩
theorem Y_tk_dp (T : Tx) (i : Nat) : r_dp [(0, 14), (0, 15), (0, 16), (0, 17), (0, 18), (0, 21)] [] (Y_tk T i) := by
  intro M M' q p
  obtain ⟨a, b, c, d, e, f, g⟩ := p
  exact ⟨(q 0 15 rfl).1.trans a, (q 0 16 rfl).1.trans b, (q 0 14 rfl).1.trans c, fun z => ⟨(q 0 21 rfl).2.1.trans (d z).1, (q 0 18 rfl).1.trans (d z).2⟩, fun z => ⟨(q 0 21 rfl).2.1.trans (e z).1, let ⟨l, h1, h2, h3⟩ := (e z).2; ⟨l, h1, h2, (q 0 18 rfl).1.trans h3⟩⟩, fun z => (q 0 17 rfl).1.trans (f z), fun z => (q 0 17 rfl).1.trans (g z)⟩

theorem c_X12_look2 {Q : Rq} {M : Mem} {T : Tx} {p : Nat} (tw : Tw T) (hx : Y_tx T M) (hp : p < 2147483648) (k : Q (some (.int (nI (T.1 p)))) GY M) : Ca 0 mt_X12_look2 0 0 [.ref 0, .int (nI p)] GY M Q := by
  refine Ca_of rfl (Nat.le_of_ble_eq_true rfl) ?_
  refine Ru_iload_n (pc := 0) dX12_look2_0 rfl rfl ?_
  refine Ru_aload_n (pc := 1) dX12_look2_1 rfl rfl ?_
  refine Ru_getI (pc := 2) dX12_look2_2 fl_X12_126 rfl rfl ?_
  refine Ru_top hx.1 ?_
  refine Ru_icmp_geN (pc := 5) 21 dX12_look2_5 (by decide) (by have := tw.1; omega) (fun h1 => ?_) (fun h1 => ?_)
  · refine Ru_iconst (pc := 21) (nI 0) dX12_look2_21 rfl ?_
    refine Ru_iret (pc := 22) dX12_look2_22 rfl ⟨Nat.le_refl _, Nat.le_refl _⟩ ?_
    rw [show nI 0 = nI (T.1 p) from congrArg nI (tw.2.1 p (by omega)).symm]
    exact k
  · refine Ru_aload_n (pc := 8) dX12_look2_8 rfl rfl ?_
    refine Ru_getR (pc := 9) 4 dX12_look2_9 fl_X12_24 rfl rfl rfl ?_
    refine Ru_iload_n (pc := 12) dX12_look2_12 rfl rfl ?_
    refine Ru_bald (pc := 13) dX12_look2_13 rfl (by have := tw.1; omega) ?_
    refine Ru_sipush (pc := 14) (nI 255) dX12_look2_14 rfl ?_
    refine Ru_iand (pc := 17) dX12_look2_17 ?_
    refine Ru_goto (pc := 18) 22 dX12_look2_18 (by decide) ?_
    refine Ru_iret (pc := 22) dX12_look2_22 rfl ⟨Nat.le_refl _, Nat.le_refl _⟩ ?_
    refine r_qe (hx.2 p (by omega)) k

theorem c_X12_isLetter {Q : Rq} {M : Mem} {x : Nat} (hx : x < 256) (k : Q (some (.int (r_b (isLt x)))) GY M) : Ca 0 mt_X12_isLetter 0 0 [.int (nI x)] GY M Q := by
  refine Ca_of rfl (Nat.le_of_ble_eq_true rfl) ?_
  refine Ru_iload_n (pc := 0) dX12_isLetter_0 rfl rfl ?_
  refine Ru_bipush (pc := 1) (nI 97) dX12_isLetter_1 rfl ?_
  refine Ru_icmp_ltN (pc := 3) 16 dX12_isLetter_3 (by decide) (by omega) (fun h1 => ?_) (fun h1 => ?_)
  · refine Ru_iconst (pc := 16) (nI 0) dX12_isLetter_16 rfl ?_
    refine Ru_zret (pc := 17) dX12_isLetter_17 rfl ⟨Nat.le_refl _, Nat.le_refl _⟩ (Or.inl rfl) ?_
    refine r_qe (r_b_f ?_) k
    unfold isLt
    exact decide_eq_false (by omega)
  · refine Ru_iload_n (pc := 6) dX12_isLetter_6 rfl rfl ?_
    refine Ru_bipush (pc := 7) (nI 122) dX12_isLetter_7 rfl ?_
    refine Ru_icmp_gtN (pc := 9) 16 dX12_isLetter_9 (by decide) (by omega) (fun h2 => ?_) (fun h2 => ?_)
    · refine Ru_iconst (pc := 16) (nI 0) dX12_isLetter_16 rfl ?_
      refine Ru_zret (pc := 17) dX12_isLetter_17 rfl ⟨Nat.le_refl _, Nat.le_refl _⟩ (Or.inl rfl) ?_
      refine r_qe (r_b_f ?_) k
      unfold isLt
      exact decide_eq_false (by omega)
    · refine Ru_iconst (pc := 12) (nI 1) dX12_isLetter_12 rfl ?_
      refine Ru_goto (pc := 13) 17 dX12_isLetter_13 (by decide) ?_
      refine Ru_zret (pc := 17) dX12_isLetter_17 rfl ⟨Nat.le_refl _, Nat.le_refl _⟩ (Or.inr rfl) ?_
      refine r_qe (r_b_t ?_) k
      unfold isLt
      exact decide_eq_true (by omega)

theorem c_X12_isDigit {Q : Rq} {M : Mem} {x : Nat} (hx : x < 256) (k : Q (some (.int (r_b (isDg x)))) GY M) : Ca 0 mt_X12_isDigit 0 0 [.int (nI x)] GY M Q := by
  refine Ca_of rfl (Nat.le_of_ble_eq_true rfl) ?_
  refine Ru_iload_n (pc := 0) dX12_isDigit_0 rfl rfl ?_
  refine Ru_bipush (pc := 1) (nI 48) dX12_isDigit_1 rfl ?_
  refine Ru_icmp_ltN (pc := 3) 16 dX12_isDigit_3 (by decide) (by omega) (fun h1 => ?_) (fun h1 => ?_)
  · refine Ru_iconst (pc := 16) (nI 0) dX12_isDigit_16 rfl ?_
    refine Ru_zret (pc := 17) dX12_isDigit_17 rfl ⟨Nat.le_refl _, Nat.le_refl _⟩ (Or.inl rfl) ?_
    refine r_qe (r_b_f ?_) k
    unfold isDg
    exact decide_eq_false (by omega)
  · refine Ru_iload_n (pc := 6) dX12_isDigit_6 rfl rfl ?_
    refine Ru_bipush (pc := 7) (nI 57) dX12_isDigit_7 rfl ?_
    refine Ru_icmp_gtN (pc := 9) 16 dX12_isDigit_9 (by decide) (by omega) (fun h2 => ?_) (fun h2 => ?_)
    · refine Ru_iconst (pc := 16) (nI 0) dX12_isDigit_16 rfl ?_
      refine Ru_zret (pc := 17) dX12_isDigit_17 rfl ⟨Nat.le_refl _, Nat.le_refl _⟩ (Or.inl rfl) ?_
      refine r_qe (r_b_f ?_) k
      unfold isDg
      exact decide_eq_false (by omega)
    · refine Ru_iconst (pc := 12) (nI 1) dX12_isDigit_12 rfl ?_
      refine Ru_goto (pc := 13) 17 dX12_isDigit_13 (by decide) ?_
      refine Ru_zret (pc := 17) dX12_isDigit_17 rfl ⟨Nat.le_refl _, Nat.le_refl _⟩ (Or.inr rfl) ?_
      refine r_qe (r_b_t ?_) k
      unfold isDg
      exact decide_eq_true (by omega)

theorem c_X12_isSignByte {Q : Rq} {M : Mem} {x : Nat} (hx : x < 256) (k : Q (some (.int (r_b (isSg x)))) GY M) : Ca 0 mt_X12_isSignByte 0 0 [.ref 0, .int (nI x)] GY M Q := by
  refine Ca_of rfl (Nat.le_of_ble_eq_true rfl) ?_
  refine Ru_iload_n (pc := 0) dX12_isSignByte_0 rfl rfl ?_
  refine Ru_bipush (pc := 1) (nI 59) dX12_isSignByte_1 rfl ?_
  refine Ru_icmp_eqN (pc := 3) 36 dX12_isSignByte_3 (by decide) (by omega) (fun h1 => ?_) (fun h1 => ?_)
  · refine Ru_iconst (pc := 36) (nI 1) dX12_isSignByte_36 rfl ?_
    refine Ru_goto (pc := 37) 41 dX12_isSignByte_37 (by decide) ?_
    refine Ru_zret (pc := 41) dX12_isSignByte_41 rfl ⟨Nat.le_refl _, Nat.le_refl _⟩ (Or.inr rfl) ?_
    refine r_qe (r_b_t ?_) k
    unfold isSg
    exact decide_eq_true (by omega)
  · refine Ru_iload_n (pc := 6) dX12_isSignByte_6 rfl rfl ?_
    refine Ru_bipush (pc := 7) (nI 60) dX12_isSignByte_7 rfl ?_
    refine Ru_icmp_eqN (pc := 9) 36 dX12_isSignByte_9 (by decide) (by omega) (fun h2 => ?_) (fun h2 => ?_)
    · refine Ru_iconst (pc := 36) (nI 1) dX12_isSignByte_36 rfl ?_
      refine Ru_goto (pc := 37) 41 dX12_isSignByte_37 (by decide) ?_
      refine Ru_zret (pc := 41) dX12_isSignByte_41 rfl ⟨Nat.le_refl _, Nat.le_refl _⟩ (Or.inr rfl) ?_
      refine r_qe (r_b_t ?_) k
      unfold isSg
      exact decide_eq_true (by omega)
    · refine Ru_iload_n (pc := 12) dX12_isSignByte_12 rfl rfl ?_
      refine Ru_bipush (pc := 13) (nI 62) dX12_isSignByte_13 rfl ?_
      refine Ru_icmp_eqN (pc := 15) 36 dX12_isSignByte_15 (by decide) (by omega) (fun h3 => ?_) (fun h3 => ?_)
      · refine Ru_iconst (pc := 36) (nI 1) dX12_isSignByte_36 rfl ?_
        refine Ru_goto (pc := 37) 41 dX12_isSignByte_37 (by decide) ?_
        refine Ru_zret (pc := 41) dX12_isSignByte_41 rfl ⟨Nat.le_refl _, Nat.le_refl _⟩ (Or.inr rfl) ?_
        refine r_qe (r_b_t ?_) k
        unfold isSg
        exact decide_eq_true (by omega)
      · refine Ru_iload_n (pc := 18) dX12_isSignByte_18 rfl rfl ?_
        refine Ru_bipush (pc := 19) (nI 61) dX12_isSignByte_19 rfl ?_
        refine Ru_icmp_eqN (pc := 21) 36 dX12_isSignByte_21 (by decide) (by omega) (fun h4 => ?_) (fun h4 => ?_)
        · refine Ru_iconst (pc := 36) (nI 1) dX12_isSignByte_36 rfl ?_
          refine Ru_goto (pc := 37) 41 dX12_isSignByte_37 (by decide) ?_
          refine Ru_zret (pc := 41) dX12_isSignByte_41 rfl ⟨Nat.le_refl _, Nat.le_refl _⟩ (Or.inr rfl) ?_
          refine r_qe (r_b_t ?_) k
          unfold isSg
          exact decide_eq_true (by omega)
        · refine Ru_iload_n (pc := 24) dX12_isSignByte_24 rfl rfl ?_
          refine Ru_bipush (pc := 25) (nI 40) dX12_isSignByte_25 rfl ?_
          refine Ru_icmp_eqN (pc := 27) 36 dX12_isSignByte_27 (by decide) (by omega) (fun h5 => ?_) (fun h5 => ?_)
          · refine Ru_iconst (pc := 36) (nI 1) dX12_isSignByte_36 rfl ?_
            refine Ru_goto (pc := 37) 41 dX12_isSignByte_37 (by decide) ?_
            refine Ru_zret (pc := 41) dX12_isSignByte_41 rfl ⟨Nat.le_refl _, Nat.le_refl _⟩ (Or.inr rfl) ?_
            refine r_qe (r_b_t ?_) k
            unfold isSg
            exact decide_eq_true (by omega)
          · refine Ru_iload_n (pc := 30) dX12_isSignByte_30 rfl rfl ?_
            refine Ru_bipush (pc := 31) (nI 41) dX12_isSignByte_31 rfl ?_
            refine Ru_icmp_neN (pc := 33) 40 dX12_isSignByte_33 (by decide) (by omega) (fun h6 => ?_) (fun h6 => ?_)
            · refine Ru_iconst (pc := 40) (nI 0) dX12_isSignByte_40 rfl ?_
              refine Ru_zret (pc := 41) dX12_isSignByte_41 rfl ⟨Nat.le_refl _, Nat.le_refl _⟩ (Or.inl rfl) ?_
              refine r_qe (r_b_f ?_) k
              unfold isSg
              exact decide_eq_false (by omega)
            · refine Ru_iconst (pc := 36) (nI 1) dX12_isSignByte_36 rfl ?_
              refine Ru_goto (pc := 37) 41 dX12_isSignByte_37 (by decide) ?_
              refine Ru_zret (pc := 41) dX12_isSignByte_41 rfl ⟨Nat.le_refl _, Nat.le_refl _⟩ (Or.inr rfl) ?_
              refine r_qe (r_b_t ?_) k
              unfold isSg
              exact decide_eq_true (by omega)

theorem l_X12_next1 {Q : Rq} {M0 : Mem} {T : Tx} {i : Nat} (tw : Tw T) (htx0 : Y_tx T M0) (k : ∀ M, M.1 0 15 = nI (tA T i) → r_fx [(0, 15)] [] M0 M → Ru 2 mt_X12_next r_z 58 [(0, some (.ref 0))] [] GY M Q) : ∀ (zw : Nat) (p : Nat) (M : Mem), T.2 - p = zw → (p ≤ T.2) → (xS T p = (tA T i)) → (M.1 0 15 = nI p) → (r_fx [(0, 15)] [] M0 M) → Ru 2 mt_X12_next r_z 8 [(0, some (.ref 0))] [] GY M Q := by
  intro zw
  induction zw using Nat.strongRecOn with
  | ind zw ih =>
    intro p M hw hn hS h15 fx
    subst hw
    have t8 := tw.1
    have htx : Y_tx T M := (Y_tx_dp T).kp fx rfl htx0
    have hA := tA_sp tw i
    refine Ru_aload_n (pc := 8) dX12_next_8 rfl rfl ?_
    refine Ru_getI (pc := 9) dX12_next_9 fl_X12_132 rfl rfl ?_
    refine Ru_top h15 ?_
    refine Ru_aload_n (pc := 12) dX12_next_12 rfl rfl ?_
    refine Ru_getI (pc := 13) dX12_next_13 fl_X12_126 rfl rfl ?_
    refine Ru_top htx.1 ?_
    refine Ru_icmp_geN (pc := 16) 58 dX12_next_16 (by decide) (by omega) (fun h1 => ?_) (fun h1 => ?_)
    · have hnb : isBk (T.1 p) = false := by
        by_cases e : p < T.2
        · unfold isBk
          exact decide_eq_false (by omega)
        · rw [tw.2.1 p (by omega)]
          rfl
      have e : p = (tA T i) := by
        rw [← hS]
        exact (xS_id tw (by omega) hnb).symm
      rw [e] at h15
      exact Ru_weak (k M h15 fx) rfl
    · refine Ru_aload_n (pc := 19) dX12_next_19 rfl rfl ?_
      refine Ru_aload_n (pc := 20) dX12_next_20 rfl rfl ?_
      refine Ru_getI (pc := 21) dX12_next_21 fl_X12_132 rfl rfl ?_
      refine Ru_top h15 ?_
      refine Ru_cv1 (pc := 24) dX12_next_24 mv_X12_135 rfl (by decide) (Nat.le_of_ble_eq_true rfl) (c_X12_look2 tw htx (by omega) ?_) 
      refine Ru_bipush (pc := 27) (nI 10) dX12_next_27 rfl ?_
      refine Ru_icmp_eqN (pc := 29) 45 dX12_next_29 (by decide) (by have := tw.2.2 p; omega) (fun h2 => ?_) (fun h2 => ?_)
      · refine Ru_aload_n (pc := 45) dX12_next_45 rfl rfl ?_
        refine Ru_dup (pc := 46) dX12_next_46 rfl ?_
        refine Ru_getI (pc := 47) dX12_next_47 fl_X12_132 rfl rfl ?_
        refine Ru_top h15 ?_
        refine Ru_iconst (pc := 50) (nI 1) dX12_next_50 rfl ?_
        refine Ru_iaddN (pc := 51) dX12_next_51 ?_
        refine Ru_putI (pc := 52) rfl dX12_next_52 fl_X12_132 rfl ?_
        refine Ru_goto (pc := 55) 8 dX12_next_55 (by decide) ?_
        have hbk : isBk (T.1 p) = true := by
          unfold isBk
          exact decide_eq_true (by omega)
        exact Ru_weak (ih (T.2 - (p + 1)) (by omega) (p + 1) _ rfl (by omega) (by rw [← hS]; exact (xS_st tw (by omega) hbk).symm) r_sI_s (r_fx.sI rfl fx)) rfl
      · refine Ru_aload_n (pc := 32) dX12_next_32 rfl rfl ?_
        refine Ru_aload_n (pc := 33) dX12_next_33 rfl rfl ?_
        refine Ru_getI (pc := 34) dX12_next_34 fl_X12_132 rfl rfl ?_
        refine Ru_top h15 ?_
        refine Ru_cv1 (pc := 37) dX12_next_37 mv_X12_135 rfl (by decide) (Nat.le_of_ble_eq_true rfl) (c_X12_look2 tw htx (by omega) ?_) 
        refine Ru_bipush (pc := 40) (nI 32) dX12_next_40 rfl ?_
        refine Ru_icmp_neN (pc := 42) 58 dX12_next_42 (by decide) (by have := tw.2.2 p; omega) (fun h3 => ?_) (fun h3 => ?_)
        · have hnb : isBk (T.1 p) = false := by
            by_cases e : p < T.2
            · unfold isBk
              exact decide_eq_false (by omega)
            · rw [tw.2.1 p (by omega)]
              rfl
          have e : p = (tA T i) := by
            rw [← hS]
            exact (xS_id tw (by omega) hnb).symm
          rw [e] at h15
          exact Ru_weak (k M h15 fx) rfl
        · refine Ru_aload_n (pc := 45) dX12_next_45 rfl rfl ?_
          refine Ru_dup (pc := 46) dX12_next_46 rfl ?_
          refine Ru_getI (pc := 47) dX12_next_47 fl_X12_132 rfl rfl ?_
          refine Ru_top h15 ?_
          refine Ru_iconst (pc := 50) (nI 1) dX12_next_50 rfl ?_
          refine Ru_iaddN (pc := 51) dX12_next_51 ?_
          refine Ru_putI (pc := 52) rfl dX12_next_52 fl_X12_132 rfl ?_
          refine Ru_goto (pc := 55) 8 dX12_next_55 (by decide) ?_
          have hbk : isBk (T.1 p) = true := by
            unfold isBk
            exact decide_eq_true (by omega)
          exact Ru_weak (ih (T.2 - (p + 1)) (by omega) (p + 1) _ rfl (by omega) (by rw [← hS]; exact (xS_st tw (by omega) hbk).symm) r_sI_s (r_fx.sI rfl fx)) rfl

theorem l_X12_next2 {Q : Rq} {M0 : Mem} {T : Tx} {i : Nat} (tw : Tw T) (htx0 : Y_tx T M0) (h150 : M0.1 0 15 = nI (tA T i)) (k : ∀ M m, m = xL T (tA T i) - (tA T i) → M.1 0 16 = nI ((tA T i) + m) → (m ≤ 8 → M.2.1 0 21 = nJ (cd 32 (wl T (tA T i) m))) → (8 < m → M.2.1 0 21 = -1) → r_fx [(0, 16), (0, 21)] [] M0 M → Ru 2 mt_X12_next r_z 182 [(1, some (.int (nI (T.1 (tA T i))))), (0, some (.ref 0))] [] GY M Q) : ∀ (zw : Nat) (m : Nat) (M : Mem), T.2 - ((tA T i) + m) = zw → (((tA T i) + m) ≤ T.2) → (∀ j, (tA T i) ≤ j → j < ((tA T i) + m) → isLt (T.1 j) = true) → (M.1 0 16 = nI ((tA T i) + m)) → (m ≤ 8 → M.2.1 0 21 = nJ (cd 32 (wl T (tA T i) m))) → (8 < m → M.2.1 0 21 = -1) → (r_fx [(0, 16), (0, 21)] [] M0 M) → Ru 2 mt_X12_next r_z 109 [(1, some (.int (nI (T.1 (tA T i))))), (0, some (.ref 0))] [] GY M Q := by
  intro zw
  induction zw using Nat.strongRecOn with
  | ind zw ih =>
    intro m M hw hn hall h16 hw8 hw9 fx
    subst hw
    have t8 := tw.1
    have htx : Y_tx T M := (Y_tx_dp T).kp fx rfl htx0
    have hA := tA_sp tw i
    refine Ru_aload_n (pc := 109) dX12_next_109 rfl rfl ?_
    refine Ru_aload_n (pc := 110) dX12_next_110 rfl rfl ?_
    refine Ru_getI (pc := 111) dX12_next_111 fl_X12_129 rfl rfl ?_
    refine Ru_top h16 ?_
    refine Ru_cv1 (pc := 114) dX12_next_114 mv_X12_135 rfl (by decide) (Nat.le_of_ble_eq_true rfl) (c_X12_look2 tw htx (by omega) ?_) 
    refine Ru_cs1 (pc := 117) dX12_next_117 ms_X12_141 (by decide) (Nat.le_of_ble_eq_true rfl) (c_X12_isLetter (tw.2.2 _) ?_) 
    refine Ru_if_eqB (pc := 120) 182 dX12_next_120 (by decide) (fun h1 => ?_) (fun h1 => ?_)
    · have hm : xL T (tA T i) = ((tA T i) + m) := xL_eq tw (by omega) hn (fun j a b => hall j a b) (by assumption)
      exact Ru_weak (k M m (by omega) h16 hw8 hw9 fx) rfl
    · refine Ru_aload_n (pc := 123) dX12_next_123 rfl rfl ?_
      refine Ru_aload_n (pc := 124) dX12_next_124 rfl rfl ?_
      refine Ru_getI (pc := 125) dX12_next_125 fl_X12_129 rfl rfl ?_
      refine Ru_top h16 ?_
      refine Ru_aload_n (pc := 128) dX12_next_128 rfl rfl ?_
      refine Ru_getI (pc := 129) dX12_next_129 fl_X12_132 rfl rfl ?_
      refine Ru_top ((fx 0 15 rfl).1.trans h150) ?_
      refine Ru_isubN (pc := 132) dX12_next_132 (by omega) ?_
      refine Ru_bipush (pc := 133) (nI 8) dX12_next_133 rfl ?_
      refine Ru_icmp_geN (pc := 135) 163 dX12_next_135 (by decide) (by omega) (fun h2 => ?_) (fun h2 => ?_)
      · refine Ru_ldc2 (pc := 163) dX12_next_163 tw_1582 ?_
        refine Ru_putJ (pc := 166) rfl dX12_next_166 fl_X12_144 rfl ?_
        refine Ru_aload_n (pc := 169) dX12_next_169 rfl rfl ?_
        refine Ru_dup (pc := 170) dX12_next_170 rfl ?_
        refine Ru_getI (pc := 171) dX12_next_171 fl_X12_129 rfl rfl ?_
        refine Ru_top h16 ?_
        refine Ru_iconst (pc := 174) (nI 1) dX12_next_174 rfl ?_
        refine Ru_iaddN (pc := 175) dX12_next_175 ?_
        refine Ru_putI (pc := 176) rfl dX12_next_176 fl_X12_129 rfl ?_
        refine Ru_goto (pc := 179) 109 dX12_next_179 (by decide) ?_
        have hlt9 : isLt (T.1 ((tA T i) + m)) = true := by assumption
        have hmx : ((tA T i) + m) + 1 ≤ T.2 := by
          apply Classical.byContradiction
          intro z
          rw [tw.2.1 ((tA T i) + m) (by omega)] at hlt9
          cases hlt9
        refine Ru_weak (ih (T.2 - ((tA T i) + m) - 1) (by omega) (m + 1) _ (by omega) (by omega) (fun j a b => ?_) r_sI_s ?_ ?_ (r_fx.sI rfl (r_fx.sJ rfl fx))) rfl
        · by_cases e : j = ((tA T i) + m)
          · rw [e]
            exact hlt9
          · exact hall j a (by omega)
        · intro q
          omega
        · intro q
          exact r_sJ_s
      · refine Ru_aload_n (pc := 138) dX12_next_138 rfl rfl ?_
        refine Ru_getJ (pc := 139) dX12_next_139 fl_X12_144 rfl ?_
        refine Ru_topL (hw8 (by omega)) ?_
        refine Ru_ldc2 (pc := 142) dX12_next_142 tw_1618 ?_
        refine Ru_lmul (pc := 145) dX12_next_145 ?_
        refine Ru_aload_n (pc := 146) dX12_next_146 rfl rfl ?_
        refine Ru_aload_n (pc := 147) dX12_next_147 rfl rfl ?_
        refine Ru_getI (pc := 148) dX12_next_148 fl_X12_129 rfl rfl ?_
        refine Ru_top h16 ?_
        refine Ru_cv1 (pc := 151) dX12_next_151 mv_X12_135 rfl (by decide) (Nat.le_of_ble_eq_true rfl) (c_X12_look2 tw htx (by omega) ?_) 
        refine Ru_i2l (pc := 154) _ dX12_next_154 rfl ?_
        refine Ru_ladd (pc := 155) dX12_next_155 ?_
        refine Ru_ldc2 (pc := 156) dX12_next_156 tw_1619 ?_
        refine Ru_lsub (pc := 159) dX12_next_159 ?_
        have hlt := of_decide_eq_true (show isLt (T.1 ((tA T i) + m)) = true by assumption)
        have hlv : Lv (wl T (tA T i) m) := wl_v hall
        have hc8 := cd_8 (b := 32) (by decide) hlv (by rw [wl_len]; omega)
        refine Ru_topL (w_ltr32 hc8 hlt) ?_
        refine Ru_goto (pc := 160) 166 dX12_next_160 (by decide) ?_
        refine Ru_putJ (pc := 166) rfl dX12_next_166 fl_X12_144 rfl ?_
        refine Ru_aload_n (pc := 169) dX12_next_169 rfl rfl ?_
        refine Ru_dup (pc := 170) dX12_next_170 rfl ?_
        refine Ru_getI (pc := 171) dX12_next_171 fl_X12_129 rfl rfl ?_
        refine Ru_top h16 ?_
        refine Ru_iconst (pc := 174) (nI 1) dX12_next_174 rfl ?_
        refine Ru_iaddN (pc := 175) dX12_next_175 ?_
        refine Ru_putI (pc := 176) rfl dX12_next_176 fl_X12_129 rfl ?_
        refine Ru_goto (pc := 179) 109 dX12_next_179 (by decide) ?_
        have hlt9 : isLt (T.1 ((tA T i) + m)) = true := by assumption
        have hmx : ((tA T i) + m) + 1 ≤ T.2 := by
          apply Classical.byContradiction
          intro z
          rw [tw.2.1 ((tA T i) + m) (by omega)] at hlt9
          cases hlt9
        refine Ru_weak (ih (T.2 - ((tA T i) + m) - 1) (by omega) (m + 1) _ (by omega) (by omega) (fun j a b => ?_) r_sI_s ?_ ?_ (r_fx.sI rfl (r_fx.sJ rfl fx))) rfl
        · by_cases e : j = ((tA T i) + m)
          · rw [e]
            exact hlt9
          · exact hall j a (by omega)
        · intro q
          exact r_sJ_s
        · intro q
          omega

theorem l_X12_next3 {Q : Rq} {M0 : Mem} {T : Tx} {i : Nat} (tw : Tw T) (htx0 : Y_tx T M0) (h150 : M0.1 0 15 = nI (tA T i)) (k : ∀ M m, m = xD T (tA T i) - (tA T i) → M.1 0 16 = nI ((tA T i) + m) → M.1 0 17 = nI (nvf T (tA T i) (min m 4)) → r_fx [(0, 16), (0, 17)] [] M0 M → Ru 2 mt_X12_next r_z 273 [(1, some (.int (nI (T.1 (tA T i))))), (0, some (.ref 0))] [] GY M Q) : ∀ (zw : Nat) (m : Nat) (M : Mem), T.2 - ((tA T i) + m) = zw → (((tA T i) + m) ≤ T.2) → (∀ j, (tA T i) ≤ j → j < ((tA T i) + m) → isDg (T.1 j) = true) → (M.1 0 16 = nI ((tA T i) + m)) → (M.1 0 17 = nI (nvf T (tA T i) (min m 4))) → (r_fx [(0, 16), (0, 17)] [] M0 M) → Ru 2 mt_X12_next r_z 210 [(1, some (.int (nI (T.1 (tA T i))))), (0, some (.ref 0))] [] GY M Q := by
  intro zw
  induction zw using Nat.strongRecOn with
  | ind zw ih =>
    intro m M hw hn hall h16 h17 fx
    subst hw
    have t8 := tw.1
    have htx : Y_tx T M := (Y_tx_dp T).kp fx rfl htx0
    have hA := tA_sp tw i
    refine Ru_aload_n (pc := 210) dX12_next_210 rfl rfl ?_
    refine Ru_aload_n (pc := 211) dX12_next_211 rfl rfl ?_
    refine Ru_getI (pc := 212) dX12_next_212 fl_X12_129 rfl rfl ?_
    refine Ru_top h16 ?_
    refine Ru_cv1 (pc := 215) dX12_next_215 mv_X12_135 rfl (by decide) (Nat.le_of_ble_eq_true rfl) (c_X12_look2 tw htx (by omega) ?_) 
    refine Ru_cs1 (pc := 218) dX12_next_218 ms_X12_154 (by decide) (Nat.le_of_ble_eq_true rfl) (c_X12_isDigit (tw.2.2 _) ?_) 
    refine Ru_if_eqB (pc := 221) 273 dX12_next_221 (by decide) (fun h1 => ?_) (fun h1 => ?_)
    · have hm : xD T (tA T i) = ((tA T i) + m) := xD_eq tw (by omega) hn (fun j a b => hall j a b) (by assumption)
      exact Ru_weak (k M m (by omega) h16 h17 fx) rfl
    · refine Ru_aload_n (pc := 224) dX12_next_224 rfl rfl ?_
      refine Ru_getI (pc := 225) dX12_next_225 fl_X12_129 rfl rfl ?_
      refine Ru_top h16 ?_
      refine Ru_aload_n (pc := 228) dX12_next_228 rfl rfl ?_
      refine Ru_getI (pc := 229) dX12_next_229 fl_X12_132 rfl rfl ?_
      refine Ru_top ((fx 0 15 rfl).1.trans h150) ?_
      refine Ru_isubN (pc := 232) dX12_next_232 (by omega) ?_
      refine Ru_iconst (pc := 233) (nI 4) dX12_next_233 rfl ?_
      refine Ru_icmp_geN (pc := 234) 260 dX12_next_234 (by decide) (by omega) (fun h2 => ?_) (fun h2 => ?_)
      · refine Ru_aload_n (pc := 260) dX12_next_260 rfl rfl ?_
        refine Ru_dup (pc := 261) dX12_next_261 rfl ?_
        refine Ru_getI (pc := 262) dX12_next_262 fl_X12_129 rfl rfl ?_
        refine Ru_top h16 ?_
        refine Ru_iconst (pc := 265) (nI 1) dX12_next_265 rfl ?_
        refine Ru_iaddN (pc := 266) dX12_next_266 ?_
        refine Ru_putI (pc := 267) rfl dX12_next_267 fl_X12_129 rfl ?_
        refine Ru_goto (pc := 270) 210 dX12_next_270 (by decide) ?_
        have hlt9 : isDg (T.1 ((tA T i) + m)) = true := by assumption
        have hlt := of_decide_eq_true hlt9
        have hmx : ((tA T i) + m) + 1 ≤ T.2 := by
          apply Classical.byContradiction
          intro z
          rw [tw.2.1 ((tA T i) + m) (by omega)] at hlt9
          cases hlt9
        refine Ru_weak (ih (T.2 - ((tA T i) + m) - 1) (by omega) (m + 1) _ (by omega) (by omega) (fun j a b => ?_) r_sI_s ?_ (r_fx.sI rfl fx)) rfl
        · by_cases e : j = ((tA T i) + m)
          · rw [e]
            exact hlt9
          · exact hall j a (by omega)
        · refine (r_sI_n (by decide)).trans (h17.trans (congrArg nI ?_))
          rw [show min (m + 1) 4 = min m 4 by omega]
      · refine Ru_aload_n (pc := 237) dX12_next_237 rfl rfl ?_
        refine Ru_bipush (pc := 238) (nI 10) dX12_next_238 rfl ?_
        refine Ru_aload_n (pc := 240) dX12_next_240 rfl rfl ?_
        refine Ru_getI (pc := 241) dX12_next_241 fl_X12_157 rfl rfl ?_
        refine Ru_top h17 ?_
        refine Ru_imulN (pc := 244) dX12_next_244 ?_
        refine Ru_aload_n (pc := 245) dX12_next_245 rfl rfl ?_
        refine Ru_aload_n (pc := 246) dX12_next_246 rfl rfl ?_
        refine Ru_getI (pc := 247) dX12_next_247 fl_X12_129 rfl rfl ?_
        refine Ru_top h16 ?_
        refine Ru_cv1 (pc := 250) dX12_next_250 mv_X12_135 rfl (by decide) (Nat.le_of_ble_eq_true rfl) (c_X12_look2 tw htx (by omega) ?_) 
        refine Ru_iaddN (pc := 253) dX12_next_253 ?_
        refine Ru_bipush (pc := 254) (nI 48) dX12_next_254 rfl ?_
        refine Ru_isubN (pc := 256) dX12_next_256 (by have hltq := of_decide_eq_true (show isDg (T.1 ((tA T i) + m)) = true by assumption); omega) ?_
        refine Ru_putI (pc := 257) rfl dX12_next_257 fl_X12_157 rfl ?_
        refine Ru_aload_n (pc := 260) dX12_next_260 rfl rfl ?_
        refine Ru_dup (pc := 261) dX12_next_261 rfl ?_
        refine Ru_getI (pc := 262) dX12_next_262 fl_X12_129 rfl rfl ?_
        refine Ru_top ((r_sI_n (by decide)).trans h16) ?_
        refine Ru_iconst (pc := 265) (nI 1) dX12_next_265 rfl ?_
        refine Ru_iaddN (pc := 266) dX12_next_266 ?_
        refine Ru_putI (pc := 267) rfl dX12_next_267 fl_X12_129 rfl ?_
        refine Ru_goto (pc := 270) 210 dX12_next_270 (by decide) ?_
        have hlt9 : isDg (T.1 ((tA T i) + m)) = true := by assumption
        have hlt := of_decide_eq_true hlt9
        have hmx : ((tA T i) + m) + 1 ≤ T.2 := by
          apply Classical.byContradiction
          intro z
          rw [tw.2.1 ((tA T i) + m) (by omega)] at hlt9
          cases hlt9
        refine Ru_weak (ih (T.2 - ((tA T i) + m) - 1) (by omega) (m + 1) _ (by omega) (by omega) (fun j a b => ?_) r_sI_s ?_ (r_fx.sI rfl (r_fx.sI rfl fx))) rfl
        · by_cases e : j = ((tA T i) + m)
          · rw [e]
            exact hlt9
          · exact hall j a (by omega)
        · refine (r_sI_n (by decide)).trans (r_sI_s.trans (congrArg nI ?_))
          rw [show min (m + 1) 4 = m + 1 by omega, nvf, show min m 4 = m by omega]
          omega

theorem kK_L {T : Tx} {s : Nat} (h : s < T.2) (hl : isLt (T.1 s) = true) : kK T s = if 8 < xL T s - s then 4 else rsv (wl T s (xL T s - s)) := by
  unfold kK
  rw [if_neg (by omega), if_pos hl]
theorem kK_D {T : Tx} {s : Nat} (h : s < T.2) (hl : isLt (T.1 s) = false) (hd : isDg (T.1 s) = true) : kK T s = if 4 < xD T s - s then 1 else 2 := by
  unfold kK
  rw [if_neg (by omega), if_neg (nb_f hl), if_pos hd]
theorem kK_S {T : Tx} {s : Nat} (h : s < T.2) (hl : isLt (T.1 s) = false) (hd : isDg (T.1 s) = false) : kK T s = if isSg (T.1 s) = true then T.1 s else 1 := by
  unfold kK
  rw [if_neg (by omega), if_neg (nb_f hl), if_neg (nb_f hd)]
theorem isSg_n {x : Nat} (h : x ≤ 4 ∨ 128 ≤ x) : isSg x = false := decide_eq_false (by omega)
theorem tTok_w {k : Nat} (h : k = 3 ∨ k = 4 ∨ 128 ≤ k) : tTok k = 1 := by
  unfold tTok
  rw [if_neg (by omega), if_neg (by omega), if_neg (by omega), if_pos h]
theorem tTok_s {k : Nat} (h : isSg k = true) : tTok k = 3 := by
  have := isSg_iff.mp h
  unfold tTok
  rw [if_neg (by omega), if_neg (by omega), if_neg (by omega), if_neg (by omega)]

theorem c_X12_next {Q : Rq} {M : Mem} {T : Tx} {i : Nat} (tw : Tw T) (htx : Y_tx T M) (hbh : M.1 0 16 = nI (tp T i)) (k : ∀ M', r_fx [(0, 14), (0, 15), (0, 16), (0, 17), (0, 18), (0, 21)] [] M M' → Y_tk T i M' → Q none GY M') : Ca 2 mt_X12_next 0 0 [.ref 0] GY M Q := by
  refine Ca_of rfl (Nat.le_of_ble_eq_true rfl) ?_
  have t8 := tw.1
  have hA := tA_sp tw i
  refine Ru_aload_n (pc := 0) dX12_next_0 rfl rfl ?_
  refine Ru_aload_n (pc := 1) dX12_next_1 rfl rfl ?_
  refine Ru_getI (pc := 2) dX12_next_2 fl_X12_129 rfl rfl ?_
  refine Ru_top hbh ?_
  refine Ru_putI (pc := 5) rfl dX12_next_5 fl_X12_132 rfl ?_
  have hM1 : ∃ M1, M1 = (r_sI M 0 15 (nI (tp T i))) := ⟨_, rfl⟩
  obtain ⟨M1, eM1⟩ := hM1
  rw [← eM1]
  have gx1 : r_fx [(0, 15)] [] M M1 := by
    rw [eM1]
    exact r_fx.sI rfl r_fx.rf
  have h151 : M1.1 0 15 = nI (tp T i) := by
    rw [eM1]
    exact r_sI_s
  refine Ru_weak (l_X12_next1 (i := i) tw ((Y_tx_dp T).kp gx1 rfl htx) (fun M2 h152 gx12 => ?_) (T.2 - tp T i) (tp T i) M1 rfl (tp_le tw i) rfl h151 r_fx.rf) rfl
  have gx2 : r_fx [(0, 15)] [] M M2 := gx1.tr gx12
  have htx2 : Y_tx T M2 := (Y_tx_dp T).kp gx2 rfl htx
  refine Ru_aload_n (pc := 58) dX12_next_58 rfl rfl ?_
  refine Ru_aload_n (pc := 59) dX12_next_59 rfl rfl ?_
  refine Ru_getI (pc := 60) dX12_next_60 fl_X12_132 rfl rfl ?_
  refine Ru_top h152 ?_
  refine Ru_putI (pc := 63) rfl dX12_next_63 fl_X12_129 rfl ?_
  refine Ru_aload_n (pc := 66) dX12_next_66 rfl rfl ?_
  refine Ru_getI (pc := 67) dX12_next_67 fl_X12_132 rfl rfl ?_
  refine Ru_top ((r_sI_n (by decide)).trans h152) ?_
  refine Ru_aload_n (pc := 70) dX12_next_70 rfl rfl ?_
  refine Ru_getI (pc := 71) dX12_next_71 fl_X12_126 rfl rfl ?_
  refine Ru_top ((r_sI_n (by decide)).trans htx2.1) ?_
  refine Ru_icmp_ltN (pc := 74) 83 dX12_next_74 (by decide) (by omega) (fun h1 => ?_) (fun h1 => ?_)
  · have hs9 : (tA T i) < T.2 := by omega
    refine Ru_aload_n (pc := 83) dX12_next_83 rfl rfl ?_
    refine Ru_aload_n (pc := 84) dX12_next_84 rfl rfl ?_
    refine Ru_getI (pc := 85) dX12_next_85 fl_X12_132 rfl rfl ?_
    refine Ru_top ((r_sI_n (by decide)).trans h152) ?_
    refine Ru_cv1 (pc := 88) dX12_next_88 mv_X12_135 rfl (by decide) (Nat.le_of_ble_eq_true rfl) (c_X12_look2 tw ((Y_tx_dp T).kp (F := [(0, 14), (0, 15), (0, 16), (0, 17), (0, 18), (0, 21)]) (A := []) (r_fx.sI rfl r_fx.rf) rfl htx2) (by omega) ?_) 
    refine Ru_istore_n (pc := 91) dX12_next_91 rfl rfl (by decide) ?_
    refine Ru_iload_n (pc := 92) dX12_next_92 rfl rfl ?_
    refine Ru_cs1 (pc := 93) dX12_next_93 ms_X12_141 (by decide) (Nat.le_of_ble_eq_true rfl) (c_X12_isLetter (tw.2.2 _) ?_) 
    refine Ru_if_eqB (pc := 96) 198 dX12_next_96 (by decide) (fun h2 => ?_) (fun h2 => ?_)
    · refine Ru_iload_n (pc := 198) dX12_next_198 rfl rfl ?_
      refine Ru_cs1 (pc := 199) dX12_next_199 ms_X12_154 (by decide) (Nat.le_of_ble_eq_true rfl) (c_X12_isDigit (tw.2.2 _) ?_) 
      refine Ru_if_eqB (pc := 202) 298 dX12_next_202 (by decide) (fun h3 => ?_) (fun h3 => ?_)
      · refine Ru_aload_n (pc := 298) dX12_next_298 rfl rfl ?_
        refine Ru_aload_n (pc := 299) dX12_next_299 rfl rfl ?_
        refine Ru_getI (pc := 300) dX12_next_300 fl_X12_132 rfl rfl ?_
        refine Ru_top ((r_sI_n (by decide)).trans h152) ?_
        refine Ru_iconst (pc := 303) (nI 1) dX12_next_303 rfl ?_
        refine Ru_iaddN (pc := 304) dX12_next_304 ?_
        refine Ru_putI (pc := 305) rfl dX12_next_305 fl_X12_129 rfl ?_
        refine Ru_aload_n (pc := 308) dX12_next_308 rfl rfl ?_
        refine Ru_iload_n (pc := 309) dX12_next_309 rfl rfl ?_
        refine Ru_putI (pc := 310) rfl dX12_next_310 fl_X12_157 rfl ?_
        refine Ru_aload_n (pc := 313) dX12_next_313 rfl rfl ?_
        refine Ru_aload_n (pc := 314) dX12_next_314 rfl rfl ?_
        refine Ru_iload_n (pc := 315) dX12_next_315 rfl rfl ?_
        refine Ru_cv1 (pc := 316) dX12_next_316 mv_X12_160 rfl (by decide) (Nat.le_of_ble_eq_true rfl) (c_X12_isSignByte (tw.2.2 _) ?_) 
        refine Ru_if_eqB (pc := 319) 326 dX12_next_319 (by decide) (fun h4 => ?_) (fun h4 => ?_)
        · refine Ru_iconst (pc := 326) (nI 4) dX12_next_326 rfl ?_
          refine Ru_putI (pc := 327) rfl dX12_next_327 fl_X12_138 rfl ?_
          refine Ru_vret (pc := 330) dX12_next_330 rfl ⟨Nat.le_refl _, Nat.le_refl _⟩ ?_
          have hl9 : isLt (T.1 (tA T i)) = false := by assumption
          have hd9 : isDg (T.1 (tA T i)) = false := by assumption
          have hsg : isSg (T.1 (tA T i)) = false := by assumption
          have e0 : tK T i = 1 := (kK_S hs9 hl9 hd9).trans (if_neg (nb_f hsg))
          have e16 : tp T (i + 1) = (tA T i) + 1 := by
            rw [tp_s]
            unfold xE
            rw [if_neg (by omega), if_neg (nb_f hl9), if_neg (nb_f hd9)]
          refine k _ (r_fx.sI rfl (r_fx.sI rfl (r_fx.sI rfl (r_fx.sI rfl (gx2.mono rfl))))) ⟨((r_sI_n (by decide)).trans ((r_sI_n (by decide)).trans ((r_sI_n (by decide)).trans ((r_sI_n (by decide)).trans h152)))), ?_, ?_, ?_, ?_, ?_, ?_⟩
          · rw [e16]
            exact ((r_sI_n (by decide)).trans ((r_sI_n (by decide)).trans r_sI_s))
          · rw [e0]
            exact r_sI_s
          · intro z
            omega
          · intro z
            omega
          · intro z
            omega
          · intro z
            rw [e0] at z
            cases z
        · refine Ru_iconst (pc := 322) (nI 3) dX12_next_322 rfl ?_
          refine Ru_goto (pc := 323) 327 dX12_next_323 (by decide) ?_
          refine Ru_putI (pc := 327) rfl dX12_next_327 fl_X12_138 rfl ?_
          refine Ru_vret (pc := 330) dX12_next_330 rfl ⟨Nat.le_refl _, Nat.le_refl _⟩ ?_
          have hl9 : isLt (T.1 (tA T i)) = false := by assumption
          have hd9 : isDg (T.1 (tA T i)) = false := by assumption
          have hsg : isSg (T.1 (tA T i)) = true := by assumption
          have e0 : tK T i = T.1 (tA T i) := (kK_S hs9 hl9 hd9).trans (if_pos hsg)
          have e16 : tp T (i + 1) = (tA T i) + 1 := by
            rw [tp_s]
            unfold xE
            rw [if_neg (by omega), if_neg (nb_f hl9), if_neg (nb_f hd9)]
          refine k _ (r_fx.sI rfl (r_fx.sI rfl (r_fx.sI rfl (r_fx.sI rfl (gx2.mono rfl))))) ⟨((r_sI_n (by decide)).trans ((r_sI_n (by decide)).trans ((r_sI_n (by decide)).trans ((r_sI_n (by decide)).trans h152)))), ?_, ?_, ?_, ?_, ?_, ?_⟩
          · rw [e16]
            exact ((r_sI_n (by decide)).trans ((r_sI_n (by decide)).trans r_sI_s))
          · rw [e0, tTok_s hsg]
            exact r_sI_s
          · intro z
            have := isSg_iff.mp hsg
            omega
          · intro z
            have := isSg_iff.mp hsg
            omega
          · intro z
            have := isSg_iff.mp hsg
            omega
          · intro z
            rw [e0]
            exact ((r_sI_n (by decide)).trans r_sI_s)
      · refine Ru_aload_n (pc := 205) dX12_next_205 rfl rfl ?_
        refine Ru_iconst (pc := 206) (nI 0) dX12_next_206 rfl ?_
        refine Ru_putI (pc := 207) rfl dX12_next_207 fl_X12_157 rfl ?_
        have hM3 : ∃ M3, M3 = (r_sI (r_sI M2 0 16 (nI (tA T i))) 0 17 (nI 0)) := ⟨_, rfl⟩
        obtain ⟨M3, eM3⟩ := hM3
        rw [← eM3]
        have gx3 : r_fx [(0, 16), (0, 17)] [] M2 M3 := by
          rw [eM3]
          exact r_fx.sI rfl (r_fx.sI rfl r_fx.rf)
        have h163 : M3.1 0 16 = nI ((tA T i) + 0) := by
          rw [eM3]
          exact (r_sI_n (by decide)).trans r_sI_s
        have h173 : M3.1 0 17 = nI (nvf T (tA T i) (min 0 4)) := by
          rw [eM3]
          exact r_sI_s
        have h153 : M3.1 0 15 = nI (tA T i) := (gx3 0 15 rfl).1.trans h152
        have fx3 : r_fx [(0, 14), (0, 15), (0, 16), (0, 17), (0, 18), (0, 21)] [] M M3 := (gx2.mono rfl).tr (gx3.mono rfl)
        have htx3 : Y_tx T M3 := (Y_tx_dp T).kp fx3 rfl htx
        have hlt0 : isDg (T.1 (tA T i)) = true := by assumption
        have hl9 : isLt (T.1 (tA T i)) = false := by assumption
        refine Ru_weak (l_X12_next3 (i := i) tw htx3 h153 (fun M4 m hm h164 h174 gx4 => ?_) _ 0 M3 rfl (by omega) (fun j a b => by omega) h163 h173 r_fx.rf) rfl
        have fx4 : r_fx [(0, 14), (0, 15), (0, 16), (0, 17), (0, 18), (0, 21)] [] M M4 := fx3.tr (gx4.mono rfl)
        have h154 : M4.1 0 15 = nI (tA T i) := (gx4 0 15 rfl).1.trans h153
        have hl := xD_sp tw hA.2.1
        refine Ru_aload_n (pc := 273) dX12_next_273 rfl rfl ?_
        refine Ru_aload_n (pc := 274) dX12_next_274 rfl rfl ?_
        refine Ru_getI (pc := 275) dX12_next_275 fl_X12_129 rfl rfl ?_
        refine Ru_top h164 ?_
        refine Ru_aload_n (pc := 278) dX12_next_278 rfl rfl ?_
        refine Ru_getI (pc := 279) dX12_next_279 fl_X12_132 rfl rfl ?_
        refine Ru_top h154 ?_
        refine Ru_isubN (pc := 282) dX12_next_282 (by omega) ?_
        refine Ru_iconst (pc := 283) (nI 4) dX12_next_283 rfl ?_
        refine Ru_icmp_leN (pc := 284) 291 dX12_next_284 (by decide) (by omega) (fun h1 => ?_) (fun h1 => ?_)
        · refine Ru_iconst (pc := 291) (nI 2) dX12_next_291 rfl ?_
          refine Ru_putI (pc := 292) rfl dX12_next_292 fl_X12_138 rfl ?_
          refine Ru_goto (pc := 295) 330 dX12_next_295 (by decide) ?_
          refine Ru_vret (pc := 330) dX12_next_330 rfl ⟨Nat.le_refl _, Nat.le_refl _⟩ ?_
          have e16 : tp T (i + 1) = ((tA T i) + m) := by
            rw [tp_s]
            unfold xE
            rw [if_neg (by omega), if_neg (nb_f hl9), if_pos hlt0]
            omega
          have eK : tK T i = if 4 < m then 1 else 2 := by
            rw [hm]
            exact kK_D hs9 hl9 hlt0
          by_cases h4 : 4 < m
          · rw [if_pos h4] at eK
            exfalso
            omega
          · rw [if_neg h4] at eK
            refine k _ (r_fx.sI rfl fx4) ⟨(r_sI_n (by decide)).trans h154, ?_, ?_, ?_, ?_, ?_, ?_⟩
            · rw [e16]
              exact (r_sI_n (by decide)).trans h164
            · rw [eK]
              first | exact r_sI_s | (exfalso; omega)
            · intro z
              omega
            · intro z
              omega
            · intro z
              unfold tV
              rw [← hm]
              refine (r_sI_n (by decide)).trans (h174.trans ?_)
              rw [show min m 4 = m by omega]
            · intro z
              rw [isSg_n (by omega)] at z
              cases z
        · refine Ru_iconst (pc := 287) (nI 4) dX12_next_287 rfl ?_
          refine Ru_goto (pc := 288) 292 dX12_next_288 (by decide) ?_
          refine Ru_putI (pc := 292) rfl dX12_next_292 fl_X12_138 rfl ?_
          refine Ru_goto (pc := 295) 330 dX12_next_295 (by decide) ?_
          refine Ru_vret (pc := 330) dX12_next_330 rfl ⟨Nat.le_refl _, Nat.le_refl _⟩ ?_
          have e16 : tp T (i + 1) = ((tA T i) + m) := by
            rw [tp_s]
            unfold xE
            rw [if_neg (by omega), if_neg (nb_f hl9), if_pos hlt0]
            omega
          have eK : tK T i = if 4 < m then 1 else 2 := by
            rw [hm]
            exact kK_D hs9 hl9 hlt0
          by_cases h4 : 4 < m
          · rw [if_pos h4] at eK
            refine k _ (r_fx.sI rfl fx4) ⟨(r_sI_n (by decide)).trans h154, ?_, ?_, ?_, ?_, ?_, ?_⟩
            · rw [e16]
              exact (r_sI_n (by decide)).trans h164
            · rw [eK]
              first | exact r_sI_s | (exfalso; omega)
            · intro z
              omega
            · intro z
              omega
            · intro z
              omega
            · intro z
              rw [isSg_n (by omega)] at z
              cases z
          · rw [if_neg h4] at eK
            exfalso
            omega
    · refine Ru_aload_n (pc := 99) dX12_next_99 rfl rfl ?_
      refine Ru_iconst (pc := 100) (nI 1) dX12_next_100 rfl ?_
      refine Ru_putI (pc := 101) rfl dX12_next_101 fl_X12_138 rfl ?_
      refine Ru_aload_n (pc := 104) dX12_next_104 rfl rfl ?_
      refine Ru_lconst (pc := 105) 0 dX12_next_105 rfl ?_
      refine Ru_putJ (pc := 106) rfl dX12_next_106 fl_X12_144 rfl ?_
      have hM3 : ∃ M3, M3 = (r_sJ (r_sI (r_sI M2 0 16 (nI (tA T i))) 0 14 (nI 1)) 0 21 0) := ⟨_, rfl⟩
      obtain ⟨M3, eM3⟩ := hM3
      rw [← eM3]
      have gx3 : r_fx [(0, 14), (0, 16), (0, 21)] [] M2 M3 := by
        rw [eM3]
        exact r_fx.sJ rfl (r_fx.sI rfl (r_fx.sI rfl r_fx.rf))
      have h163 : M3.1 0 16 = nI ((tA T i) + 0) := by
        rw [eM3]
        show (r_sI (r_sI M2 0 16 (nI (tA T i))) 0 14 (nI 1)).1 0 16 = nI ((tA T i) + 0)
        exact (r_sI_n (by decide)).trans r_sI_s
      have h143 : M3.1 0 14 = nI 1 := by
        rw [eM3]
        show (r_sI (r_sI M2 0 16 (nI (tA T i))) 0 14 (nI 1)).1 0 14 = nI 1
        exact r_sI_s
      have h213 : M3.2.1 0 21 = nJ 0 := by
        rw [eM3]
        exact r_sJ_s
      have h153 : M3.1 0 15 = nI (tA T i) := (gx3 0 15 rfl).1.trans h152
      have fx3 : r_fx [(0, 14), (0, 15), (0, 16), (0, 17), (0, 18), (0, 21)] [] M M3 := (gx2.mono rfl).tr (gx3.mono rfl)
      have htx3 : Y_tx T M3 := (Y_tx_dp T).kp fx3 rfl htx
      have hlt0 : isLt (T.1 (tA T i)) = true := by assumption
      refine Ru_weak (l_X12_next2 (i := i) tw htx3 h153 (fun M4 m hm h164 hw84 hw94 gx4 => ?_) _ 0 M3 rfl (by omega) (fun j a b => by omega) h163 (fun _ => h213) (fun z => by omega) r_fx.rf) rfl
      have fx4 : r_fx [(0, 14), (0, 15), (0, 16), (0, 17), (0, 18), (0, 21)] [] M M4 := fx3.tr (gx4.mono rfl)
      have h154 : M4.1 0 15 = nI (tA T i) := (gx4 0 15 rfl).1.trans h153
      refine Ru_aload_n (pc := 182) dX12_next_182 rfl rfl ?_
      refine Ru_aload_n (pc := 183) dX12_next_183 rfl rfl ?_
      refine Ru_getI (pc := 184) dX12_next_184 fl_X12_129 rfl rfl ?_
      refine Ru_top h164 ?_
      refine Ru_aload_n (pc := 187) dX12_next_187 rfl rfl ?_
      refine Ru_getI (pc := 188) dX12_next_188 fl_X12_132 rfl rfl ?_
      refine Ru_top h154 ?_
      refine Ru_isubN (pc := 191) dX12_next_191 (by omega) ?_
      refine Ru_putI (pc := 192) rfl dX12_next_192 fl_X12_151 rfl ?_
      refine Ru_goto (pc := 195) 330 dX12_next_195 (by decide) ?_
      refine Ru_vret (pc := 330) dX12_next_330 rfl ⟨Nat.le_refl _, Nat.le_refl _⟩ ?_
      have hl := xL_sp tw hA.2.1
      have e16 : tp T (i + 1) = ((tA T i) + m) := by
        rw [tp_s]
        unfold xE
        rw [if_neg (by omega), if_pos hlt0]
        omega
      have eL : tL T i = wl T (tA T i) m := by
        unfold tL
        rw [hm]
      have e18 : (r_sI M4 0 18 (nI (((tA T i) + m) - (tA T i)))).1 0 18 = nI m := r_sI_s.trans (congrArg nI (by omega))
      have eK : tK T i = if 8 < m then 4 else rsv (wl T (tA T i) m) := by
        rw [hm]
        exact kK_L hs9 hlt0
      have h144 : M4.1 0 14 = nI 1 := (gx4 0 14 rfl).1.trans h143
      by_cases h8 : 8 < m
      · rw [if_pos h8] at eK
        have hw := hw94 h8
        refine k _ (r_fx.sI rfl fx4) ⟨(r_sI_n (by decide)).trans h154, ?_, ?_, ?_, ?_, ?_, ?_⟩
        · rw [e16]
          exact (r_sI_n (by decide)).trans h164
        · rw [tTok_w (by omega)]
          exact (r_sI_n (by decide)).trans h144
        · intro z
          omega
        · intro z
          exact ⟨hw, m, h8, by omega, e18⟩
        · intro z
          omega
        · intro z
          rw [isSg_n (by omega)] at z
          cases z
      · rw [if_neg h8] at eK
        have hw := hw84 (by omega)
        have hrb := rsv_b (wl T (tA T i) m)
        refine k _ (r_fx.sI rfl fx4) ⟨(r_sI_n (by decide)).trans h154, ?_, ?_, ?_, ?_, ?_, ?_⟩
        · rw [e16]
          exact (r_sI_n (by decide)).trans h164
        · rw [tTok_w (by omega)]
          exact (r_sI_n (by decide)).trans h144
        · intro z
          rw [eL]
          exact ⟨hw, by rw [wl_len]; exact e18⟩
        · intro z
          omega
        · intro z
          omega
        · intro z
          rw [isSg_n (by omega)] at z
          cases z
  · refine Ru_aload_n (pc := 77) dX12_next_77 rfl rfl ?_
    refine Ru_iconst (pc := 78) (nI 0) dX12_next_78 rfl ?_
    refine Ru_putI (pc := 79) rfl dX12_next_79 fl_X12_138 rfl ?_
    refine Ru_vret (pc := 82) dX12_next_82 rfl ⟨Nat.le_refl _, Nat.le_refl _⟩ ?_
    have e0 : tK T i = 0 := tK_0.mpr (by omega)
    refine k _ (r_fx.sI rfl (r_fx.sI rfl (gx2.mono rfl))) ⟨((r_sI_n (by decide)).trans ((r_sI_n (by decide)).trans h152)), ?_, ?_, ?_, ?_, ?_, ?_⟩
    · rw [tp_s, xE_z (by omega)]
      exact ((r_sI_n (by decide)).trans r_sI_s)
    · rw [e0]
      exact r_sI_s
    · intro z
      omega
    · intro z
      omega
    · intro z
      omega
    · intro z
      rw [e0] at z
      cases z
