-- READING: the reference, a town
theorem and255 (x : Int32) : 0 ≤ (x &&& nI 255).toInt ∧ (x &&& nI 255).toInt < 256 := by
  have h1 : (x &&& nI 255).toBitVec.toNat ≤ 255 := by
    rw [Int32.toBitVec_and, BitVec.toNat_and]
    exact Nat.and_le_right
  have h2 : (x &&& nI 255).toInt = ((x &&& nI 255).toBitVec.toNat : Int) := by
    show (x &&& nI 255).toBitVec.toInt = _
    rw [BitVec.toInt_eq_toNat_of_lt (by omega)]
  omega
theorem nI_pos9 {x : Int32} (h : 0 ≤ x.toInt) : x = nI x.toInt.toNat := by
  apply Int32.toInt_inj.mp
  have h2 := Int32.toInt_lt x
  rw [r_tn (by omega)]
  omega
/-- the text that is the first n bytes of a tape -/
def txT (tp : Nat × (Nat → Int32)) (n : Nat) : Tx := (fun k => if k < n then (tp.2 k &&& nI 255).toInt.toNat else 0, n)
theorem txT_w (tp : Nat × (Nat → Int32)) {n : Nat} (h : n ≤ 800) : Tw (txT tp n) := by
  refine ⟨h, fun k hk => if_neg (by have : n ≤ k := hk; omega), fun k => ?_⟩
  show (if k < n then _ else 0) < 256
  split
  · have := and255 (tp.2 k)
    omega
  · omega
theorem txT_y {tp : Nat × (Nat → Int32)} {n : Nat} {M : Mem} (h9 : M.1 0 9 = nI n) (ht : ∀ k, k < n → M.1 4 k = tp.2 k) : Y_tx (txT tp n) M := by
  refine ⟨h9, fun k hk => ?_⟩
  have hk2 : k < n := hk
  rw [ht k hk2]
  show _ = nI (if k < n then _ else 0)
  rw [if_pos hk2]
  exact nI_pos9 (and255 _).1

theorem c_X12_opens {Q : Rq} {M : Mem} {tp : Nat × (Nat → Int32)} {n : Int32} {most : Nat} (hy : Y_tp tp M) (hm : most ≤ 800) (k5 : n.toInt < 0 ∨ (tp.1 : Int) < n.toInt ∨ (most : Int) < n.toInt → ∀ M', r_fx [(0, 0)] [] M M' → M'.1 0 0 = nI 5 → Q (some (.int (nI 0))) GY M') (k1 : ∀ n', n = nI n' → n' ≤ tp.1 → n' ≤ most → ∀ M', r_fx [(0, 8), (0, 9), (0, 12), (0, 13), (0, 14), (0, 15), (0, 16), (0, 17), (0, 18), (0, 21)] [] M M' → M'.1 0 8 = nI 0 → Y_rd (txT tp n') (0, 0) M' → Q (some (.int (nI 1))) GY M') : Ca 3 mt_X12_opens 0 0 [.ref 0, .int n, .int (nI most)] GY M Q := by
  refine Ca_of rfl (Nat.le_of_ble_eq_true rfl) ?_
  have h80 := hy.2.1
  refine Ru_iload_n (pc := 0) dX12_opens_0 rfl rfl ?_
  refine Ru_if_ltT (pc := 1) 17 dX12_opens_1 (by decide) (fun h1 => ?_) (fun h1 => ?_)
  · refine Ru_aload_n (pc := 17) dX12_opens_17 rfl rfl ?_
    refine Ru_iconst (pc := 18) (nI 5) dX12_opens_18 rfl ?_
    refine Ru_cv1 (pc := 19) dX12_opens_19 mv_X12_102 rfl (by decide) (Nat.le_of_ble_eq_true rfl) (c_X12_no ?_) 
    refine Ru_zret (pc := 22) dX12_opens_22 rfl ⟨Nat.le_refl _, Nat.le_refl _⟩ (Or.inl rfl) ?_
    exact k5 (by omega) _ (r_fx.sI rfl r_fx.rf) r_sI_s
  · refine Ru_iload_n (pc := 4) dX12_opens_4 rfl rfl ?_
    refine Ru_aload_n (pc := 5) dX12_opens_5 rfl rfl ?_
    refine Ru_getI (pc := 6) dX12_opens_6 fl_X12_267 rfl rfl ?_
    refine Ru_top hy.1 ?_
    refine Ru_icmp_gtL (pc := 9) 17 dX12_opens_9 (by decide) (by have := hy.2.1; omega) (fun h2 => ?_) (fun h2 => ?_)
    · refine Ru_aload_n (pc := 17) dX12_opens_17 rfl rfl ?_
      refine Ru_iconst (pc := 18) (nI 5) dX12_opens_18 rfl ?_
      refine Ru_cv1 (pc := 19) dX12_opens_19 mv_X12_102 rfl (by decide) (Nat.le_of_ble_eq_true rfl) (c_X12_no ?_) 
      refine Ru_zret (pc := 22) dX12_opens_22 rfl ⟨Nat.le_refl _, Nat.le_refl _⟩ (Or.inl rfl) ?_
      exact k5 (by omega) _ (r_fx.sI rfl r_fx.rf) r_sI_s
    · refine Ru_iload_n (pc := 12) dX12_opens_12 rfl rfl ?_
      refine Ru_iload_n (pc := 13) dX12_opens_13 rfl rfl ?_
      refine Ru_icmp_leL (pc := 14) 23 dX12_opens_14 (by decide) (by omega) (fun h3 => ?_) (fun h3 => ?_)
      · obtain ⟨n', hn', rfl⟩ := r_nat (x := n) (n := 801) (by omega) (by omega)
        have en := r_tn (show n' < 2147483648 by omega)
        refine Ru_aload_n (pc := 23) dX12_opens_23 rfl rfl ?_
        refine Ru_iload_n (pc := 24) dX12_opens_24 rfl rfl ?_
        refine Ru_putI (pc := 25) rfl dX12_opens_25 fl_X12_126 rfl ?_
        refine Ru_aload_n (pc := 28) dX12_opens_28 rfl rfl ?_
        refine Ru_iconst (pc := 29) (nI 0) dX12_opens_29 rfl ?_
        refine Ru_putI (pc := 30) rfl dX12_opens_30 fl_X12_267 rfl ?_
        refine Ru_aload_n (pc := 33) dX12_opens_33 rfl rfl ?_
        refine Ru_iconst (pc := 34) (nI 0) dX12_opens_34 rfl ?_
        refine Ru_putI (pc := 35) rfl dX12_opens_35 fl_X12_129 rfl ?_
        refine Ru_aload_n (pc := 38) dX12_opens_38 rfl rfl ?_
        refine Ru_iconst (pc := 39) (nI 0) dX12_opens_39 rfl ?_
        refine Ru_putI (pc := 40) rfl dX12_opens_40 fl_X12_251 rfl ?_
        have hM2 : ∃ M2, M2 = (r_sI (r_sI (r_sI (r_sI M 0 9 (nI n')) 0 8 (nI 0)) 0 16 (nI 0)) 0 12 (nI 0)) := ⟨_, rfl⟩
        obtain ⟨M2, eM2⟩ := hM2
        rw [← eM2]
        have gx2 : r_fx [(0, 8), (0, 9), (0, 12), (0, 13), (0, 14), (0, 15), (0, 16), (0, 17), (0, 18), (0, 21)] [] M M2 := by
          rw [eM2]
          exact (r_fx.sI rfl (r_fx.sI rfl (r_fx.sI rfl (r_fx.sI rfl r_fx.rf))))
        have h92 : M2.1 0 9 = nI n' := by
          rw [eM2]
          exact ((r_sI_n (by decide)).trans ((r_sI_n (by decide)).trans ((r_sI_n (by decide)).trans r_sI_s)))
        have h82 : M2.1 0 8 = nI 0 := by
          rw [eM2]
          exact ((r_sI_n (by decide)).trans ((r_sI_n (by decide)).trans r_sI_s))
        have h162 : M2.1 0 16 = nI 0 := by
          rw [eM2]
          exact ((r_sI_n (by decide)).trans r_sI_s)
        have h122 : M2.1 0 12 = nI 0 := by
          rw [eM2]
          exact r_sI_s
        have tw := txT_w tp (show n' ≤ 800 by omega)
        have htx2 : Y_tx (txT tp n') M2 := txT_y h92 (fun k hk => (gx2 4 k rfl).1.trans (hy.2.2 k (by omega)))
        refine Ru_aload_n (pc := 43) dX12_opens_43 rfl rfl ?_
        refine Ru_cv0 (pc := 44) dX12_opens_44 mv_X12_261 rfl (by decide) (Nat.le_of_ble_eq_true rfl) (c_X12_next (i := 0) tw htx2 h162 (fun M3 gx3 hk3 => ?_)) 
        have fx3 : r_fx [(0, 8), (0, 9), (0, 12), (0, 13), (0, 14), (0, 15), (0, 16), (0, 17), (0, 18), (0, 21)] [] M M3 := gx2.tr (gx3.mono rfl)
        refine Ru_iconst (pc := 47) (nI 1) dX12_opens_47 rfl ?_
        refine Ru_zret (pc := 48) dX12_opens_48 rfl ⟨Nat.le_refl _, Nat.le_refl _⟩ (Or.inr rfl) ?_
        exact k1 n' rfl (by omega) (by omega) M3 fx3 ((gx3 0 8 rfl).1.trans h82) ⟨(Y_tx_dp _).kp gx3 rfl htx2, hk3, (gx3 0 12 rfl).1.trans h122, fun z => absurd rfl z, Nat.zero_le _⟩
      · refine Ru_aload_n (pc := 17) dX12_opens_17 rfl rfl ?_
        refine Ru_iconst (pc := 18) (nI 5) dX12_opens_18 rfl ?_
        refine Ru_cv1 (pc := 19) dX12_opens_19 mv_X12_102 rfl (by decide) (Nat.le_of_ble_eq_true rfl) (c_X12_no ?_) 
        refine Ru_zret (pc := 22) dX12_opens_22 rfl ⟨Nat.le_refl _, Nat.le_refl _⟩ (Or.inl rfl) ?_
        exact k5 (by omega) _ (r_fx.sI rfl r_fx.rf) r_sI_s

theorem c_X12_isWell {Q : Rq} {M : Mem} {T : Tx} {s : Ps} (tw : Tw T) (hr : Y_rd T s M) (k0 : s.2 = 0 → ∀ M', r_fx [(0, 10), (0, 11)] [] M M' → M'.1 0 10 = nI 0 → M'.1 0 11 = -1 → Q (some (.int (nI 1))) GY M') (k1 : ¬ s.2 = 0 → ∀ M', r_fx [(0, 0), (0, 10), (0, 11)] [] M M' → M'.1 0 10 = nI s.2 → M'.1 0 11 = nI (tA T s.1) → M'.1 0 0 = nI 10 → Q (some (.int (nI 0))) GY M') : Ca 1 mt_X12_isWell 0 0 [.ref 0] GY M Q := by
  refine Ca_of rfl (Nat.le_of_ble_eq_true rfl) ?_
  have hb0 := hr.2.2.2.2
  have ht0 := tTok_b (tK T s.1)
  refine Ru_aload_n (pc := 0) dX12_isWell_0 rfl rfl ?_
  refine Ru_aload_n (pc := 1) dX12_isWell_1 rfl rfl ?_
  refine Ru_getI (pc := 2) dX12_isWell_2 fl_X12_251 rfl rfl ?_
  refine Ru_top hr.2.2.1 ?_
  refine Ru_putI (pc := 5) rfl dX12_isWell_5 fl_X12_28 rfl ?_
  refine Ru_aload_n (pc := 8) dX12_isWell_8 rfl rfl ?_
  refine Ru_aload_n (pc := 9) dX12_isWell_9 rfl rfl ?_
  refine Ru_getI (pc := 10) dX12_isWell_10 fl_X12_251 rfl rfl ?_
  refine Ru_top ((r_sI_n (by decide)).trans hr.2.2.1) ?_
  refine Ru_if_neN (pc := 13) 20 dX12_isWell_13 (by decide) (by omega) (fun h1 => ?_) (fun h1 => ?_)
  · refine Ru_aload_n (pc := 20) dX12_isWell_20 rfl rfl ?_
    refine Ru_getI (pc := 21) dX12_isWell_21 fl_X12_254 rfl rfl ?_
    refine Ru_top ((r_sI_n (by decide)).trans (hr.2.2.2.1 (by omega))) ?_
    refine Ru_putI (pc := 24) rfl dX12_isWell_24 fl_X12_32 rfl ?_
    refine Ru_aload_n (pc := 27) dX12_isWell_27 rfl rfl ?_
    refine Ru_getI (pc := 28) dX12_isWell_28 fl_X12_251 rfl rfl ?_
    refine Ru_top ((r_sI_n (by decide)).trans ((r_sI_n (by decide)).trans hr.2.2.1)) ?_
    refine Ru_if_eqN (pc := 31) 43 dX12_isWell_31 (by decide) (by omega) (fun h2 => ?_) (fun h2 => ?_)
    · exfalso
      omega
    · refine Ru_aload_n (pc := 34) dX12_isWell_34 rfl rfl ?_
      refine Ru_bipush (pc := 35) (nI 10) dX12_isWell_35 rfl ?_
      refine Ru_cv1 (pc := 37) dX12_isWell_37 mv_X12_102 rfl (by decide) (Nat.le_of_ble_eq_true rfl) (c_X12_no ?_) 
      refine Ru_if_eqN (pc := 40) 47 dX12_isWell_40 (by decide) (by omega) (fun h3 => ?_) (fun h3 => ?_)
      · refine Ru_iconst (pc := 47) (nI 0) dX12_isWell_47 rfl ?_
        refine Ru_zret (pc := 48) dX12_isWell_48 rfl ⟨Nat.le_refl _, Nat.le_refl _⟩ (Or.inl rfl) ?_
        exact k1 (by omega) _ (r_fx.sI rfl (r_fx.sI rfl (r_fx.sI rfl r_fx.rf))) ((r_sI_n (by decide)).trans ((r_sI_n (by decide)).trans r_sI_s)) ((r_sI_n (by decide)).trans r_sI_s) r_sI_s
      · exfalso
        omega
  · refine Ru_iconst (pc := 16) (-1) dX12_isWell_16 rfl ?_
    refine Ru_goto (pc := 17) 24 dX12_isWell_17 (by decide) ?_
    refine Ru_putI (pc := 24) rfl dX12_isWell_24 fl_X12_32 rfl ?_
    refine Ru_aload_n (pc := 27) dX12_isWell_27 rfl rfl ?_
    refine Ru_getI (pc := 28) dX12_isWell_28 fl_X12_251 rfl rfl ?_
    refine Ru_top ((r_sI_n (by decide)).trans ((r_sI_n (by decide)).trans hr.2.2.1)) ?_
    refine Ru_if_eqN (pc := 31) 43 dX12_isWell_31 (by decide) (by omega) (fun h4 => ?_) (fun h4 => ?_)
    · refine Ru_iconst (pc := 43) (nI 1) dX12_isWell_43 rfl ?_
      refine Ru_goto (pc := 44) 48 dX12_isWell_44 (by decide) ?_
      refine Ru_zret (pc := 48) dX12_isWell_48 rfl ⟨Nat.le_refl _, Nat.le_refl _⟩ (Or.inr rfl) ?_
      have h0 : s.2 = 0 := by omega
      exact k0 h0 _ (r_fx.sI rfl (r_fx.sI rfl r_fx.rf)) ((r_sI_n (by omega)).trans (r_sI_s.trans (congrArg nI h0))) r_sI_s
    · exfalso
      omega
