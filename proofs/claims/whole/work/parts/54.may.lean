-- WHAT MAY BE WORN, HELD, SENT
def mayB (s : Nat) (f : Nat → Bool) : Nat → Bool
  | 0 => true
  | t + 1 => s.testBit t && f t

theorem c_X12_mayWear_0 {Q : Rq} {M : Mem} {d : Td} {s : Nat} (h5 : ∀ k, k < 521 → M.1 5 k = nI (d k)) (wf : Wf d) (k : Q (some (.int (nI 1))) GY M) : Ca 1 mt_X12_mayWear 0 0 [.ref 0, .int (-1), .int (nI s)] GY M Q := by
  refine Ca_of rfl (Nat.le_of_ble_eq_true rfl) ?_
  refine Ru_iload_n (pc := 0) dX12_mayWear_0 rfl rfl ?_
  refine Ru_iconst (pc := 1) (-1) dX12_mayWear_1 rfl ?_
  refine Ru_icmp_eqT (pc := 2) 25 dX12_mayWear_2 (by decide) (fun h1 => ?_) (fun h1 => ?_)
  · refine Ru_iconst (pc := 25) (nI 1) dX12_mayWear_25 rfl ?_
    refine Ru_goto (pc := 26) 30 dX12_mayWear_26 (by decide) ?_
    refine Ru_zret (pc := 30) dX12_mayWear_30 rfl ⟨Nat.le_refl _, Nat.le_refl _⟩ (Or.inr rfl) ?_
    exact k
  · exact absurd rfl h1

theorem c_X12_mayWear_s {Q : Rq} {M : Mem} {d : Td} {s t : Nat} (h5 : ∀ k, k < 521 → M.1 5 k = nI (d k)) (wf : Wf d) (hs : s < 256) (ht : t < 8) (k : Q (some (.int (r_b (s.testBit t && decide (d (5 + t) = 1))))) GY M) : Ca 1 mt_X12_mayWear 0 0 [.ref 0, .int (nI t), .int (nI s)] GY M Q := by
  refine Ca_of rfl (Nat.le_of_ble_eq_true rfl) ?_
  have hw1 := wf.2.1 t ht
  refine Ru_iload_n (pc := 0) dX12_mayWear_0 rfl rfl ?_
  refine Ru_iconst (pc := 1) (-1) dX12_mayWear_1 rfl ?_
  refine Ru_icmp_eqR (pc := 2) 25 dX12_mayWear_2 (by decide) (by omega) (fun h1 => ?_) (fun h1 => ?_)
  · exfalso
    have em : (-1 : Int32).toInt = -1 := rfl
    rw [em] at h1
    omega
  · refine Ru_iload_n (pc := 5) dX12_mayWear_5 rfl rfl ?_
    refine Ru_iload_n (pc := 6) dX12_mayWear_6 rfl rfl ?_
    refine Ru_cs2 (pc := 7) dX12_mayWear_7 ms_X12_372 (by decide) (Nat.le_of_ble_eq_true rfl) (c_X12_has (by omega) (by omega) ?_) 
    refine Ru_if_eqB (pc := 10) 29 dX12_mayWear_10 (by decide) (fun h2 => ?_) (fun h2 => ?_)
    · refine Ru_iconst (pc := 29) (nI 0) dX12_mayWear_29 rfl ?_
      refine Ru_zret (pc := 30) dX12_mayWear_30 rfl ⟨Nat.le_refl _, Nat.le_refl _⟩ (Or.inl rfl) ?_
      refine r_qe (r_b_f ?_) k
      simp_all
    · refine Ru_aload_n (pc := 13) dX12_mayWear_13 rfl rfl ?_
      refine Ru_getR (pc := 14) 5 dX12_mayWear_14 fl_X12_35 rfl rfl rfl ?_
      refine Ru_iconst (pc := 17) (nI 5) dX12_mayWear_17 rfl ?_
      refine Ru_iload_n (pc := 18) dX12_mayWear_18 rfl rfl ?_
      refine Ru_iaddN (pc := 19) dX12_mayWear_19 ?_
      refine Ru_iald (pc := 20) dX12_mayWear_20 rfl (by omega) ?_
      refine Ru_top (h5 (5 + t) (by omega)) ?_
      refine Ru_iconst (pc := 21) (nI 1) dX12_mayWear_21 rfl ?_
      refine Ru_icmp_neN (pc := 22) 29 dX12_mayWear_22 (by decide) (by omega) (fun h3 => ?_) (fun h3 => ?_)
      · refine Ru_iconst (pc := 29) (nI 0) dX12_mayWear_29 rfl ?_
        refine Ru_zret (pc := 30) dX12_mayWear_30 rfl ⟨Nat.le_refl _, Nat.le_refl _⟩ (Or.inl rfl) ?_
        refine r_qe (r_b_f ?_) k
        simp_all
      · refine Ru_iconst (pc := 25) (nI 1) dX12_mayWear_25 rfl ?_
        refine Ru_goto (pc := 26) 30 dX12_mayWear_26 (by decide) ?_
        refine Ru_zret (pc := 30) dX12_mayWear_30 rfl ⟨Nat.le_refl _, Nat.le_refl _⟩ (Or.inr rfl) ?_
        refine r_qe (r_b_t ?_) k
        simp_all

theorem c_X12_mayWear {Q : Rq} {M : Mem} {d : Td} {s : Nat} (w : Nat) (h5 : ∀ k, k < 521 → M.1 5 k = nI (d k)) (wf : Wf d) (hs : s < 256) (hw : w ≤ 8) (k : Q (some (.int (r_b (mayB s (fun t => decide (d (5 + t) = 1)) w)))) GY M) : Ca 1 mt_X12_mayWear 0 0 [.ref 0, .int (nM w), .int (nI s)] GY M Q := by
  cases w with
  | zero => exact c_X12_mayWear_0 h5 wf k
  | succ t => exact c_X12_mayWear_s h5 wf hs (by omega) k

theorem c_X12_maySend_0 {Q : Rq} {M : Mem} {d : Td} {s : Nat} (h5 : ∀ k, k < 521 → M.1 5 k = nI (d k)) (wf : Wf d) (k : Q (some (.int (nI 1))) GY M) : Ca 1 mt_X12_maySend 0 0 [.ref 0, .int (-1), .int (nI s)] GY M Q := by
  refine Ca_of rfl (Nat.le_of_ble_eq_true rfl) ?_
  refine Ru_iload_n (pc := 0) dX12_maySend_0 rfl rfl ?_
  refine Ru_iconst (pc := 1) (-1) dX12_maySend_1 rfl ?_
  refine Ru_icmp_eqT (pc := 2) 26 dX12_maySend_2 (by decide) (fun h1 => ?_) (fun h1 => ?_)
  · refine Ru_iconst (pc := 26) (nI 1) dX12_maySend_26 rfl ?_
    refine Ru_goto (pc := 27) 31 dX12_maySend_27 (by decide) ?_
    refine Ru_zret (pc := 31) dX12_maySend_31 rfl ⟨Nat.le_refl _, Nat.le_refl _⟩ (Or.inr rfl) ?_
    exact k
  · exact absurd rfl h1

theorem c_X12_maySend_s {Q : Rq} {M : Mem} {d : Td} {s t : Nat} (h5 : ∀ k, k < 521 → M.1 5 k = nI (d k)) (wf : Wf d) (hs : s < 256) (ht : t < 8) (k : Q (some (.int (r_b (s.testBit t && decide (d (13 + t) = 1))))) GY M) : Ca 1 mt_X12_maySend 0 0 [.ref 0, .int (nI t), .int (nI s)] GY M Q := by
  refine Ca_of rfl (Nat.le_of_ble_eq_true rfl) ?_
  have hw1 := wf.2.1 t ht
  refine Ru_iload_n (pc := 0) dX12_maySend_0 rfl rfl ?_
  refine Ru_iconst (pc := 1) (-1) dX12_maySend_1 rfl ?_
  refine Ru_icmp_eqR (pc := 2) 26 dX12_maySend_2 (by decide) (by omega) (fun h1 => ?_) (fun h1 => ?_)
  · exfalso
    have em : (-1 : Int32).toInt = -1 := rfl
    rw [em] at h1
    omega
  · refine Ru_iload_n (pc := 5) dX12_maySend_5 rfl rfl ?_
    refine Ru_iload_n (pc := 6) dX12_maySend_6 rfl rfl ?_
    refine Ru_cs2 (pc := 7) dX12_maySend_7 ms_X12_372 (by decide) (Nat.le_of_ble_eq_true rfl) (c_X12_has (by omega) (by omega) ?_) 
    refine Ru_if_eqB (pc := 10) 30 dX12_maySend_10 (by decide) (fun h2 => ?_) (fun h2 => ?_)
    · refine Ru_iconst (pc := 30) (nI 0) dX12_maySend_30 rfl ?_
      refine Ru_zret (pc := 31) dX12_maySend_31 rfl ⟨Nat.le_refl _, Nat.le_refl _⟩ (Or.inl rfl) ?_
      refine r_qe (r_b_f ?_) k
      simp_all
    · refine Ru_aload_n (pc := 13) dX12_maySend_13 rfl rfl ?_
      refine Ru_getR (pc := 14) 5 dX12_maySend_14 fl_X12_35 rfl rfl rfl ?_
      refine Ru_bipush (pc := 17) (nI 13) dX12_maySend_17 rfl ?_
      refine Ru_iload_n (pc := 19) dX12_maySend_19 rfl rfl ?_
      refine Ru_iaddN (pc := 20) dX12_maySend_20 ?_
      refine Ru_iald (pc := 21) dX12_maySend_21 rfl (by omega) ?_
      refine Ru_top (h5 (13 + t) (by omega)) ?_
      refine Ru_iconst (pc := 22) (nI 1) dX12_maySend_22 rfl ?_
      refine Ru_icmp_neN (pc := 23) 30 dX12_maySend_23 (by decide) (by omega) (fun h3 => ?_) (fun h3 => ?_)
      · refine Ru_iconst (pc := 30) (nI 0) dX12_maySend_30 rfl ?_
        refine Ru_zret (pc := 31) dX12_maySend_31 rfl ⟨Nat.le_refl _, Nat.le_refl _⟩ (Or.inl rfl) ?_
        refine r_qe (r_b_f ?_) k
        simp_all
      · refine Ru_iconst (pc := 26) (nI 1) dX12_maySend_26 rfl ?_
        refine Ru_goto (pc := 27) 31 dX12_maySend_27 (by decide) ?_
        refine Ru_zret (pc := 31) dX12_maySend_31 rfl ⟨Nat.le_refl _, Nat.le_refl _⟩ (Or.inr rfl) ?_
        refine r_qe (r_b_t ?_) k
        simp_all

theorem c_X12_maySend {Q : Rq} {M : Mem} {d : Td} {s : Nat} (w : Nat) (h5 : ∀ k, k < 521 → M.1 5 k = nI (d k)) (wf : Wf d) (hs : s < 256) (hw : w ≤ 8) (k : Q (some (.int (r_b (mayB s (fun t => decide (d (13 + t) = 1)) w)))) GY M) : Ca 1 mt_X12_maySend 0 0 [.ref 0, .int (nM w), .int (nI s)] GY M Q := by
  cases w with
  | zero => exact c_X12_maySend_0 h5 wf k
  | succ t => exact c_X12_maySend_s h5 wf hs (by omega) k

theorem c_X12_mayHold_0 {Q : Rq} {M : Mem} {d : Td} {s : Nat} (h5 : ∀ k, k < 521 → M.1 5 k = nI (d k)) (wf : Wf d) (k : Q (some (.int (nI 1))) GY M) : Ca 3 mt_X12_mayHold 0 0 [.ref 0, .int (-1), .int (nI s)] GY M Q := by
  refine Ca_of rfl (Nat.le_of_ble_eq_true rfl) ?_
  refine Ru_iload_n (pc := 0) dX12_mayHold_0 rfl rfl ?_
  refine Ru_iconst (pc := 1) (-1) dX12_mayHold_1 rfl ?_
  refine Ru_icmp_eqT (pc := 2) 20 dX12_mayHold_2 (by decide) (fun h1 => ?_) (fun h1 => ?_)
  · refine Ru_iconst (pc := 20) (nI 1) dX12_mayHold_20 rfl ?_
    refine Ru_goto (pc := 21) 25 dX12_mayHold_21 (by decide) ?_
    refine Ru_zret (pc := 25) dX12_mayHold_25 rfl ⟨Nat.le_refl _, Nat.le_refl _⟩ (Or.inr rfl) ?_
    exact k
  · exact absurd rfl h1

theorem c_X12_mayHold_s {Q : Rq} {M : Mem} {d : Td} {s t : Nat} (h5 : ∀ k, k < 521 → M.1 5 k = nI (d k)) (wf : Wf d) (hs : s < 256) (ht : t < 8) (k : Q (some (.int (r_b (s.testBit t && twAw d)))) GY M) : Ca 3 mt_X12_mayHold 0 0 [.ref 0, .int (nI t), .int (nI s)] GY M Q := by
  refine Ca_of rfl (Nat.le_of_ble_eq_true rfl) ?_
  have hw1 := wf.2.1 t ht
  refine Ru_iload_n (pc := 0) dX12_mayHold_0 rfl rfl ?_
  refine Ru_iconst (pc := 1) (-1) dX12_mayHold_1 rfl ?_
  refine Ru_icmp_eqR (pc := 2) 20 dX12_mayHold_2 (by decide) (by omega) (fun h1 => ?_) (fun h1 => ?_)
  · exfalso
    have em : (-1 : Int32).toInt = -1 := rfl
    rw [em] at h1
    omega
  · refine Ru_iload_n (pc := 5) dX12_mayHold_5 rfl rfl ?_
    refine Ru_iload_n (pc := 6) dX12_mayHold_6 rfl rfl ?_
    refine Ru_cs2 (pc := 7) dX12_mayHold_7 ms_X12_372 (by decide) (Nat.le_of_ble_eq_true rfl) (c_X12_has (by omega) (by omega) ?_) 
    refine Ru_if_eqB (pc := 10) 24 dX12_mayHold_10 (by decide) (fun h2 => ?_) (fun h2 => ?_)
    · refine Ru_iconst (pc := 24) (nI 0) dX12_mayHold_24 rfl ?_
      refine Ru_zret (pc := 25) dX12_mayHold_25 rfl ⟨Nat.le_refl _, Nat.le_refl _⟩ (Or.inl rfl) ?_
      refine r_qe (r_b_f ?_) k
      simp_all
    · refine Ru_aload_n (pc := 13) dX12_mayHold_13 rfl rfl ?_
      refine Ru_cv0 (pc := 14) dX12_mayHold_14 mv_X12_354 rfl (by decide) (Nat.le_of_ble_eq_true rfl) (c_X12_isTownAwake h5 wf ?_) 
      refine Ru_if_eqB (pc := 17) 24 dX12_mayHold_17 (by decide) (fun h3 => ?_) (fun h3 => ?_)
      · refine Ru_iconst (pc := 24) (nI 0) dX12_mayHold_24 rfl ?_
        refine Ru_zret (pc := 25) dX12_mayHold_25 rfl ⟨Nat.le_refl _, Nat.le_refl _⟩ (Or.inl rfl) ?_
        refine r_qe (r_b_f ?_) k
        simp_all
      · refine Ru_iconst (pc := 20) (nI 1) dX12_mayHold_20 rfl ?_
        refine Ru_goto (pc := 21) 25 dX12_mayHold_21 (by decide) ?_
        refine Ru_zret (pc := 25) dX12_mayHold_25 rfl ⟨Nat.le_refl _, Nat.le_refl _⟩ (Or.inr rfl) ?_
        refine r_qe (r_b_t ?_) k
        simp_all

theorem c_X12_mayHold {Q : Rq} {M : Mem} {d : Td} {s : Nat} (w : Nat) (h5 : ∀ k, k < 521 → M.1 5 k = nI (d k)) (wf : Wf d) (hs : s < 256) (hw : w ≤ 8) (k : Q (some (.int (r_b (mayB s (fun t => twAw d) w)))) GY M) : Ca 3 mt_X12_mayHold 0 0 [.ref 0, .int (nM w), .int (nI s)] GY M Q := by
  cases w with
  | zero => exact c_X12_mayHold_0 h5 wf k
  | succ t => exact c_X12_mayHold_s h5 wf hs (by omega) k

theorem c_X11_isAmong_0 {Q : Rq} {M : Mem} {s : Nat} (k : Q (some (.int (nI 1))) GX M) : Ca 0 mt_X11_isAmong 0 0 [.ref 0, .int (-1), .int (nI s)] GX M Q := by
  refine Ca_of rfl (Nat.le_of_ble_eq_true rfl) ?_
  refine Ru_iload_n (pc := 0) dX11_isAmong_0 rfl rfl ?_
  refine Ru_iconst (pc := 1) (-1) dX11_isAmong_1 rfl ?_
  refine Ru_icmp_eqT (pc := 2) 13 dX11_isAmong_2 (by decide) (fun h1 => ?_) (fun h1 => ?_)
  · refine Ru_iconst (pc := 13) (nI 1) dX11_isAmong_13 rfl ?_
    refine Ru_goto (pc := 14) 18 dX11_isAmong_14 (by decide) ?_
    refine Ru_zret (pc := 18) dX11_isAmong_18 rfl ⟨Nat.le_refl _, Nat.le_refl _⟩ (Or.inr rfl) ?_
    exact k
  · exact absurd rfl h1

theorem c_X11_isAmong_s {Q : Rq} {M : Mem} {s t : Nat} (hs : s < 256) (ht : t < 8) (k : Q (some (.int (r_b (s.testBit t)))) GX M) : Ca 0 mt_X11_isAmong 0 0 [.ref 0, .int (nI t), .int (nI s)] GX M Q := by
  refine Ca_of rfl (Nat.le_of_ble_eq_true rfl) ?_
  refine Ru_iload_n (pc := 0) dX11_isAmong_0 rfl rfl ?_
  refine Ru_iconst (pc := 1) (-1) dX11_isAmong_1 rfl ?_
  refine Ru_icmp_eqR (pc := 2) 13 dX11_isAmong_2 (by decide) (by omega) (fun h1 => ?_) (fun h1 => ?_)
  · exfalso
    have em : (-1 : Int32).toInt = -1 := rfl
    rw [em] at h1
    omega
  · refine Ru_iload_n (pc := 5) dX11_isAmong_5 rfl rfl ?_
    refine Ru_iload_n (pc := 6) dX11_isAmong_6 rfl rfl ?_
    refine Ru_ishrN (pc := 7) dX11_isAmong_7 (by omega) ?_
    refine Ru_iconst (pc := 8) (nI 1) dX11_isAmong_8 rfl ?_
    refine Ru_iandN (pc := 9) dX11_isAmong_9 ?_
    refine Ru_if_eqN (pc := 10) 17 dX11_isAmong_10 (by decide) (Nat.lt_of_le_of_lt Nat.and_le_right (by decide)) (fun h2 => ?_) (fun h2 => ?_)
    · refine Ru_iconst (pc := 17) (nI 0) dX11_isAmong_17 rfl ?_
      refine Ru_zret (pc := 18) dX11_isAmong_18 rfl ⟨Nat.le_refl _, Nat.le_refl _⟩ (Or.inl rfl) ?_
      refine r_qe (r_b_f ?_) k
      have hq := r_bit_and1 s t
      cases hb : s.testBit t
      all_goals first | rfl | (exfalso; simp_all; done)
    · refine Ru_iconst (pc := 13) (nI 1) dX11_isAmong_13 rfl ?_
      refine Ru_goto (pc := 14) 18 dX11_isAmong_14 (by decide) ?_
      refine Ru_zret (pc := 18) dX11_isAmong_18 rfl ⟨Nat.le_refl _, Nat.le_refl _⟩ (Or.inr rfl) ?_
      refine r_qe (r_b_t ?_) k
      have hq := r_bit_and1 s t
      cases hb : s.testBit t
      all_goals first | rfl | (exfalso; simp_all; done)

theorem c_X11_isAmong {Q : Rq} {M : Mem} {s : Nat} (w : Nat) (hs : s < 256) (hw : w ≤ 8) (k : Q (some (.int (r_b (mayB s (fun _ => true) w)))) GX M) : Ca 0 mt_X11_isAmong 0 0 [.ref 0, .int (nM w), .int (nI s)] GX M Q := by
  cases w with
  | zero => exact c_X11_isAmong_0 k
  | succ t =>
    refine c_X11_isAmong_s hs (by omega) ?_
    have e : mayB s (fun _ => true) (t + 1) = s.testBit t := by simp [mayB]
    rw [e] at k
    exact k

theorem c_X12_needsOf {Q : Rq} {M : Mem} {d : Td} {m : Nat} (h5 : ∀ k, k < 521 → M.1 5 k = nI (d k)) (wf : Wf d) (hm : m < d 1) (k : Q (some (.int (nI (d (65 + m) ||| d (77 + m))))) GY M) : Ca 0 mt_X12_needsOf 0 0 [.ref 0, .int (nI m)] GY M Q := by
  refine Ca_of rfl (Nat.le_of_ble_eq_true rfl) ?_
  have hb := wf.1
  refine Ru_aload_n (pc := 0) dX12_needsOf_0 rfl rfl ?_
  refine Ru_getR (pc := 1) 5 dX12_needsOf_1 fl_X12_35 rfl rfl rfl ?_
  refine Ru_bipush (pc := 4) (nI 65) dX12_needsOf_4 rfl ?_
  refine Ru_iload_n (pc := 6) dX12_needsOf_6 rfl rfl ?_
  refine Ru_iaddN (pc := 7) dX12_needsOf_7 ?_
  refine Ru_iald (pc := 8) dX12_needsOf_8 rfl (by omega) ?_
  refine Ru_top (h5 (65 + m) (by omega)) ?_
  refine Ru_aload_n (pc := 9) dX12_needsOf_9 rfl rfl ?_
  refine Ru_getR (pc := 10) 5 dX12_needsOf_10 fl_X12_35 rfl rfl rfl ?_
  refine Ru_bipush (pc := 13) (nI 77) dX12_needsOf_13 rfl ?_
  refine Ru_iload_n (pc := 15) dX12_needsOf_15 rfl rfl ?_
  refine Ru_iaddN (pc := 16) dX12_needsOf_16 ?_
  refine Ru_iald (pc := 17) dX12_needsOf_17 rfl (by omega) ?_
  refine Ru_top (h5 (77 + m) (by omega)) ?_
  refine Ru_iorN (pc := 18) dX12_needsOf_18 ?_
  refine Ru_iret (pc := 19) dX12_needsOf_19 rfl ⟨Nat.le_refl _, Nat.le_refl _⟩ ?_
  exact k

theorem c_X9_needs {Q : Rq} {M : Mem} {t m : Nat} {d : Td} (ht : isTown t) (hx : X_tm t d M) (wf : Wf d) (hm : m < d 1) (k : Q (some (.int (nI (d (65 + m) ||| d (77 + m))))) GX M) : Ca 0 mt_X9_needs 0 0 [.ref t, .int (nI m)] GX M Q := by
  refine Ca_of rfl (Nat.le_of_ble_eq_true rfl) ?_
  have hb := wf.1
  refine Ru_aload_n (pc := 0) dX9_needs_0 rfl rfl ?_
  refine Ru_getR (pc := 1) (t + 8) dX9_needs_1 fl_X9_33 (shTown_0 ht) rfl (rfX_of (o := t) (j := 8) (shTown_0 ht) rfl) ?_
  refine Ru_iload_n (pc := 4) dX9_needs_4 rfl rfl ?_
  refine Ru_iald (pc := 5) dX9_needs_5 (shTown_8 ht) (by omega) ?_
  refine Ru_top (hx.2.2.1 m (by omega)).2.2.2.1 ?_
  refine Ru_aload_n (pc := 6) dX9_needs_6 rfl rfl ?_
  refine Ru_getR (pc := 7) (t + 9) dX9_needs_7 fl_X9_36 (shTown_0 ht) rfl (rfX_of (o := t) (j := 9) (shTown_0 ht) rfl) ?_
  refine Ru_iload_n (pc := 10) dX9_needs_10 rfl rfl ?_
  refine Ru_iald (pc := 11) dX9_needs_11 (shTown_9 ht) (by omega) ?_
  refine Ru_top (hx.2.2.1 m (by omega)).2.2.2.2 ?_
  refine Ru_iorN (pc := 12) dX9_needs_12 ?_
  refine Ru_iret (pc := 13) dX9_needs_13 rfl ⟨Nat.le_refl _, Nat.le_refl _⟩ ?_
  exact k
