-- THE WAY OF A SHIP
def wOk (w : Nat → Int64) : Nat → Bool
  | 0 => true
  | n + 1 => wOk w n && decide (0 ≤ (w n).toInt ∧ (w n).toInt ≤ 999)
theorem wOk_t {w : Nat → Int64} : ∀ {n : Nat}, wOk w n = true → ∀ k, k < n → 0 ≤ (w k).toInt ∧ (w k).toInt ≤ 999
  | 0, _, k, hk => by omega
  | n + 1, h, k, hk => by
    rw [wOk, Bool.and_eq_true] at h
    by_cases e : k = n
    · subst e
      exact of_decide_eq_true h.2
    · exact wOk_t h.1 k (by omega)
theorem wOk_f {w : Nat → Int64} {k : Nat} (h : ¬ (0 ≤ (w k).toInt ∧ (w k).toInt ≤ 999)) : ∀ n, k < n → wOk w n = false
  | 0, hk => by omega
  | n + 1, hk => by
    rw [wOk]
    by_cases e : k = n
    · subst e
      rw [decide_eq_false h, Bool.and_false]
    · rw [wOk_f h n (by omega), Bool.false_and]
def wLead (w : Nat → Int64) (a : Int) : Nat → Int
  | 0 => a
  | k + 1 => wLead w a k - (w (2 * k)).toInt + (w (2 * k + 1)).toInt
def wFirst (w : Nat → Int64) (a : Int) : Nat → Nat → Nat
  | 0, _ => 0
  | j + 1, k => if wLead w a (k + 1) ≤ 0 then k + 1 else wFirst w a j (k + 1)
def g_way (tr : Nat → Tr) (t m a : Int32) : Int32 × Nat := if ¬ (0 ≤ t.toInt ∧ t.toInt < 4) then (-1, 1) else if (tr t.toInt.toNat).2.1.toInt < 0 then (-1, 3) else if ¬ ((1 ≤ m.toInt ∧ m.toInt ≤ 30) ∧ 1 ≤ a.toInt ∧ a.toInt ≤ 24) then (-1, 5) else if (tr t.toInt.toNat).2.1.toInt < 2 * m.toInt then (-1, 4) else if wOk (tr t.toInt.toNat).2.2 (2 * m.toInt.toNat) = false then (-1, 5) else (nM (wFirst (tr t.toInt.toNat).2.2 a.toInt m.toInt.toNat 0), 0)
theorem w_add {a b : Int64} (h : -1000000 ≤ a.toInt ∧ a.toInt ≤ 1000000 ∧ -1000000 ≤ b.toInt ∧ b.toInt ≤ 1000000) : (a + b).toInt = a.toInt + b.toInt := by
  rw [Int64.toInt_add, Int.bmod_eq_of_le (by omega) (by omega)]
theorem w_sub {a b : Int64} (h : -1000000 ≤ a.toInt ∧ a.toInt ≤ 1000000 ∧ -1000000 ≤ b.toInt ∧ b.toInt ≤ 1000000) : (a - b).toInt = a.toInt - b.toInt := by
  rw [Int64.toInt_sub, Int.bmod_eq_of_le (by omega) (by omega)]

theorem c_X12_isInJ {Q : Rq} {M : Mem} {v lo hi : Int64} (l h : Int) (el : lo.toInt = l) (eh : hi.toInt = h) (k : Q (some (.int (r_b (decide (l ≤ v.toInt ∧ v.toInt ≤ h))))) GY M) : Ca 0 mt_X12_isIn 0 0 [.long v, .long lo, .long hi] GY M Q := by
  refine Ca_of rfl (Nat.le_of_ble_eq_true rfl) ?_
  refine Ru_lload_n (pc := 0) dX12_isIn_0 rfl rfl ?_
  refine Ru_lload_n (pc := 1) dX12_isIn_1 rfl rfl ?_
  refine Ru_lcmp (pc := 2) dX12_isIn_2 ?_
  refine Ru_if_ltC (pc := 3) 17 dX12_isIn_3 (by decide) (fun h1 => ?_) (fun h1 => ?_)
  · refine Ru_iconst (pc := 17) (nI 0) dX12_isIn_17 rfl ?_
    refine Ru_zret (pc := 18) dX12_isIn_18 rfl ⟨Nat.le_refl _, Nat.le_refl _⟩ (Or.inl rfl) ?_
    refine r_qe (r_b_f ?_) k
    simp only [Int64.lt_iff_toInt_lt, Int64.le_iff_toInt_le, el, eh] at *
    exact decide_eq_false (by omega)
  · refine Ru_lload_n (pc := 6) dX12_isIn_6 rfl rfl ?_
    refine Ru_lload (pc := 7) dX12_isIn_7 rfl ?_
    refine Ru_lcmp (pc := 9) dX12_isIn_9 ?_
    refine Ru_if_gtC (pc := 10) 17 dX12_isIn_10 (by decide) (fun h2 => ?_) (fun h2 => ?_)
    · refine Ru_iconst (pc := 17) (nI 0) dX12_isIn_17 rfl ?_
      refine Ru_zret (pc := 18) dX12_isIn_18 rfl ⟨Nat.le_refl _, Nat.le_refl _⟩ (Or.inl rfl) ?_
      refine r_qe (r_b_f ?_) k
      simp only [Int64.lt_iff_toInt_lt, Int64.le_iff_toInt_le, el, eh] at *
      exact decide_eq_false (by omega)
    · refine Ru_iconst (pc := 13) (nI 1) dX12_isIn_13 rfl ?_
      refine Ru_goto (pc := 14) 18 dX12_isIn_14 (by decide) ?_
      refine Ru_zret (pc := 18) dX12_isIn_18 rfl ⟨Nat.le_refl _, Nat.le_refl _⟩ (Or.inr rfl) ?_
      refine r_qe (r_b_t ?_) k
      simp only [Int64.lt_iff_toInt_lt, Int64.le_iff_toInt_le, el, eh] at *
      exact decide_eq_true (by omega)

theorem c_X12_isTray {Q : Rq} {M : Mem} {t : Int32} (k : Q (some (.int (r_b (decide (0 ≤ t.toInt ∧ t.toInt < 4))))) GY M) : Ca 1 mt_X12_isTray 0 0 [.ref 0, .int t] GY M Q := by
  refine Ca_of rfl (Nat.le_of_ble_eq_true rfl) ?_
  refine Ru_iload_n (pc := 0) dX12_isTray_0 rfl rfl ?_
  refine Ru_i2l (pc := 1) _ dX12_isTray_1 rfl ?_
  refine Ru_lconst (pc := 2) 0 dX12_isTray_2 rfl ?_
  refine Ru_ldc2 (pc := 3) dX12_isTray_3 tw_1881 ?_
  refine Ru_cs3 (pc := 6) dX12_isTray_6 ms_X12_122 (by decide) (Nat.le_of_ble_eq_true rfl) (c_X12_isIn (0) (3) rfl rfl ?_) 
  refine Ru_zret (pc := 9) dX12_isTray_9 rfl ⟨Nat.le_refl _, Nat.le_refl _⟩ (r_b_01 _) ?_
  refine r_qe (congrArg r_b ?_) k
  exact decide_eq_decide.mpr (by omega)

theorem c_X12_numberOf {Q : Rq} {M : Mem} {t p : Nat} {tr : Nat → Tr} (hy : Y_tr tr M) (ht : t < 4) (hp : p < 60 ∧ (p : Int) < (tr t).2.1.toInt) (k : Q (some (.long ((tr t).2.2 p))) GY M) : Ca 0 mt_X12_numberOf 0 0 [.ref 0, .int (nI t), .int (nI p)] GY M Q := by
  refine Ca_of rfl (Nat.le_of_ble_eq_true rfl) ?_
  refine Ru_aload_n (pc := 0) dX12_numberOf_0 rfl rfl ?_
  refine Ru_getR (pc := 1) 3 dX12_numberOf_1 fl_X12_20 rfl rfl rfl ?_
  refine Ru_bipush (pc := 4) (nI 60) dX12_numberOf_4 rfl ?_
  refine Ru_iload_n (pc := 6) dX12_numberOf_6 rfl rfl ?_
  refine Ru_imulN (pc := 7) dX12_numberOf_7 ?_
  refine Ru_iload_n (pc := 8) dX12_numberOf_8 rfl rfl ?_
  refine Ru_iaddN (pc := 9) dX12_numberOf_9 ?_
  refine Ru_lald (pc := 10) dX12_numberOf_10 rfl (by omega) ?_
  refine Ru_lret (pc := 11) dX12_numberOf_11 rfl ⟨Nat.le_refl _, Nat.le_refl _⟩ ?_
  rw [(hy t ht).2.2.2 p hp.2]
  exact k

theorem wOk_of {w : Nat → Int64} : ∀ {n : Nat}, (∀ k, k < n → 0 ≤ (w k).toInt ∧ (w k).toInt ≤ 999) → wOk w n = true
  | 0, _ => rfl
  | n + 1, h => by
    rw [wOk, wOk_of (fun k hk => h k (by omega)), decide_eq_true (h n (by omega))]
    rfl

theorem l_X10_allWithin {Q : Rq} {M : Mem} {o n : Nat} {len : Int32} {w : Nat → Int64} (ho : isTray o) (hl : M.1 o 1 = len) (hn : n ≤ 60 ∧ (n : Int) ≤ len.toInt) (hw : ∀ k, k < n → M.2.1 (o + 1) k = w k) (k : Q (some (.int (r_b (wOk w n)))) GX M) : ∀ (zw : Nat) (p : Nat), n - p = zw → (p ≤ n) → (∀ k, k < p → 0 ≤ (w k).toInt ∧ (w k).toInt ≤ 999) → Ru 2 mt_X10_allWithin r_z 3 [(6, some (.int (nI p))), (0, some (.ref o)), (1, some (.int (nI n))), (2, some (.long 0)), (4, some (.long 999))] [] GX M Q := by
  intro zw
  induction zw using Nat.strongRecOn with
  | ind zw ih =>
    intro p hw hn2 hal
    subst hw
    have e0 : (0 : Int64).toInt = 0 := rfl
    have e9 : (999 : Int64).toInt = 999 := rfl
    refine Ru_iload (pc := 3) dX10_allWithin_3 rfl ?_
    refine Ru_iload_n (pc := 5) dX10_allWithin_5 rfl rfl ?_
    refine Ru_icmp_geN (pc := 6) 40 dX10_allWithin_6 (by decide) (by omega) (fun h1 => ?_) (fun h1 => ?_)
    · refine Ru_iconst (pc := 40) (nI 1) dX10_allWithin_40 rfl ?_
      refine Ru_zret (pc := 41) dX10_allWithin_41 rfl ⟨Nat.le_refl _, Nat.le_refl _⟩ (Or.inr rfl) ?_
      have ep : p = n := by omega
      subst ep
      refine r_qe (r_b_t ?_) k
      exact wOk_of hal
    · refine Ru_aload_n (pc := 9) dX10_allWithin_9 rfl rfl ?_
      refine Ru_iload (pc := 10) dX10_allWithin_10 rfl ?_
      refine Ru_cv1 (pc := 12) dX10_allWithin_12 mv_X10_22 (shTray_0 ho) (by decide) (Nat.le_of_ble_eq_true rfl) (c_X10_number ho hl (by omega) ?_) 
      refine Ru_topL (hw p (by omega)) ?_
      refine Ru_lload_n (pc := 15) dX10_allWithin_15 rfl rfl ?_
      refine Ru_lcmp (pc := 16) dX10_allWithin_16 ?_
      refine Ru_if_ltC (pc := 17) 32 dX10_allWithin_17 (by decide) (fun h2 => ?_) (fun h2 => ?_)
      · refine Ru_iconst (pc := 32) (nI 0) dX10_allWithin_32 rfl ?_
        refine Ru_zret (pc := 33) dX10_allWithin_33 rfl ⟨Nat.le_refl _, Nat.le_refl _⟩ (Or.inl rfl) ?_
        refine r_qe (r_b_f (wOk_f (k := p) ?_ n (by omega))) k
        simp only [Int64.lt_iff_toInt_lt, Int64.le_iff_toInt_le, e0, e9] at *
        omega
      · refine Ru_aload_n (pc := 20) dX10_allWithin_20 rfl rfl ?_
        refine Ru_iload (pc := 21) dX10_allWithin_21 rfl ?_
        refine Ru_cv1 (pc := 23) dX10_allWithin_23 mv_X10_22 (shTray_0 ho) (by decide) (Nat.le_of_ble_eq_true rfl) (c_X10_number ho hl (by omega) ?_) 
        refine Ru_topL (hw p (by omega)) ?_
        refine Ru_lload (pc := 26) dX10_allWithin_26 rfl ?_
        refine Ru_lcmp (pc := 28) dX10_allWithin_28 ?_
        refine Ru_if_leC (pc := 29) 34 dX10_allWithin_29 (by decide) (fun h3 => ?_) (fun h3 => ?_)
        · refine Ru_iincN (pc := 34) 1 dX10_allWithin_34 rfl rfl rfl (by decide) ?_
          refine Ru_goto (pc := 37) 3 dX10_allWithin_37 (by decide) ?_
          refine Ru_weak (ih (n - (p + 1)) (by omega) (p + 1) rfl (by omega) (fun q hq => ?_)) rfl
          by_cases e : q = p
          · subst e
            simp only [Int64.lt_iff_toInt_lt, Int64.le_iff_toInt_le, e0, e9] at *
            omega
          · exact hal q (by omega)
        · refine Ru_iconst (pc := 32) (nI 0) dX10_allWithin_32 rfl ?_
          refine Ru_zret (pc := 33) dX10_allWithin_33 rfl ⟨Nat.le_refl _, Nat.le_refl _⟩ (Or.inl rfl) ?_
          refine r_qe (r_b_f (wOk_f (k := p) ?_ n (by omega))) k
          simp only [Int64.lt_iff_toInt_lt, Int64.le_iff_toInt_le, e0, e9] at *
          omega

theorem c_X10_allWithin {Q : Rq} {M : Mem} {o n : Nat} {len : Int32} {w : Nat → Int64} (ho : isTray o) (hl : M.1 o 1 = len) (hn : n ≤ 60 ∧ (n : Int) ≤ len.toInt) (hw : ∀ k, k < n → M.2.1 (o + 1) k = w k) (k : Q (some (.int (r_b (wOk w n)))) GX M) : Ca 2 mt_X10_allWithin 0 0 [.ref o, .int (nI n), .long 0, .long 999] GX M Q := by
  refine Ca_of rfl (Nat.le_of_ble_eq_true rfl) ?_
  refine Ru_iconst (pc := 0) (nI 0) dX10_allWithin_0 rfl ?_
  refine Ru_istore (pc := 1) dX10_allWithin_1 rfl (by decide) ?_
  exact Ru_weak (l_X10_allWithin ho hl hn hw k n 0 rfl (Nat.zero_le _) (fun k hk => by omega)) rfl

theorem wFirst_st {w : Nat → Int64} {a : Int} {m k : Nat} (hk : k < m) : wFirst w a (m - k) k = if wLead w a (k + 1) ≤ 0 then k + 1 else wFirst w a (m - (k + 1)) (k + 1) := by
  rw [show m - k = (m - (k + 1)) + 1 by omega, wFirst]

theorem l_X11_way {Q : Rq} {M : Mem} {tr : Nat → Tr} {t' m' : Nat} {a : Int} (hy : X_tr tr M) (ht' : t' < 4) (hm : m' ≤ 30) (hlen : 2 * (m' : Int) ≤ (tr t').2.1.toInt) (hw : ∀ k, k < 2 * m' → 0 ≤ ((tr t').2.2 k).toInt ∧ ((tr t').2.2 k).toInt ≤ 999) (k : ∀ M', r_fx [(0, 0)] [] M M' → M'.1 0 0 = nI 0 → Q (some (.int (nM (wFirst (tr t').2.2 a m' 0)))) GX M') : ∀ (zw : Nat) (p : Nat) (v : Int64), m' - p = zw → (p ≤ m') → (v.toInt = wLead (tr t').2.2 a p) → (-30000 ≤ wLead (tr t').2.2 a p - 999 * (m' - p) ∧ wLead (tr t').2.2 a p + 999 * (m' - p) ≤ 30000) → (wFirst (tr t').2.2 a (m' - p) p = wFirst (tr t').2.2 a m' 0) → Ru 3 mt_X11_way r_z 107 [(5, some (.long v)), (7, some (.int (nI p))), (0, some (.ref 0)), (2, some (.int (nI m'))), (4, some (.ref (75 + 2 * t')))] [] GX M Q := by
  intro zw
  induction zw using Nat.strongRecOn with
  | ind zw ih =>
    intro p v hw hn hv hb e1
    subst hw
    have e0 : (0 : Int64).toInt = 0 := rfl
    refine Ru_iload (pc := 107) dX11_way_107 rfl ?_
    refine Ru_iload_n (pc := 109) dX11_way_109 rfl rfl ?_
    refine Ru_icmp_geN (pc := 110) 159 dX11_way_110 (by decide) (by omega) (fun h1 => ?_) (fun h1 => ?_)
    · refine Ru_aload_n (pc := 159) dX11_way_159 rfl rfl ?_
      refine Ru_iconst (pc := 160) (-1) dX11_way_160 rfl ?_
      refine Ru_cv1 (pc := 161) dX11_way_161 mv_X11_170 rfl (by decide) (Nat.le_of_ble_eq_true rfl) (c_X11_tell ?_) 
      refine Ru_iret (pc := 164) dX11_way_164 rfl ⟨Nat.le_refl _, Nat.le_refl _⟩ ?_
      refine r_qe ?_ (k _ (r_fx.sI rfl r_fx.rf) r_sI_s)
      rw [← e1, show m' - p = 0 by omega]
      rfl
    · have w1 := hw (2 * p) (by omega)
      have w2 := hw (2 * p + 1) (by omega)
      have s1 := w_sub (a := v) (b := (tr t').2.2 (2 * p)) (by omega)
      have s2 := w_add (a := v - (tr t').2.2 (2 * p)) (b := (tr t').2.2 (2 * p + 1)) (by omega)
      refine Ru_lload (pc := 113) dX11_way_113 rfl ?_
      refine Ru_aload (pc := 115) dX11_way_115 rfl ?_
      refine Ru_iconst (pc := 117) (nI 2) dX11_way_117 rfl ?_
      refine Ru_iload (pc := 118) dX11_way_118 rfl ?_
      refine Ru_imulN (pc := 120) dX11_way_120 ?_
      refine Ru_cv1 (pc := 121) dX11_way_121 mv_X11_116 (shTray_0 (isTray_of ht')) (by decide) (Nat.le_of_ble_eq_true rfl) (c_X10_number (isTray_of ht') (hy t' ht').2.2.1 (by omega) ?_) 
      refine Ru_topL ((hy t' ht').2.2.2.2 (2 * p) (by omega)) ?_
      refine Ru_lsub (pc := 124) dX11_way_124 ?_
      refine Ru_aload (pc := 125) dX11_way_125 rfl ?_
      refine Ru_iconst (pc := 127) (nI 2) dX11_way_127 rfl ?_
      refine Ru_iload (pc := 128) dX11_way_128 rfl ?_
      refine Ru_imulN (pc := 130) dX11_way_130 ?_
      refine Ru_iconst (pc := 131) (nI 1) dX11_way_131 rfl ?_
      refine Ru_iaddN (pc := 132) dX11_way_132 ?_
      refine Ru_cv1 (pc := 133) dX11_way_133 mv_X11_116 (shTray_0 (isTray_of ht')) (by decide) (Nat.le_of_ble_eq_true rfl) (c_X10_number (isTray_of ht') (hy t' ht').2.2.1 (by omega) ?_) 
      refine Ru_topL ((hy t' ht').2.2.2.2 ((2 * p) + 1) (by omega)) ?_
      refine Ru_ladd (pc := 136) dX11_way_136 ?_
      refine Ru_lstore (pc := 137) dX11_way_137 rfl (by decide) ?_
      refine Ru_lload (pc := 139) dX11_way_139 rfl ?_
      refine Ru_lconst (pc := 141) 0 dX11_way_141 rfl ?_
      refine Ru_lcmp (pc := 142) dX11_way_142 ?_
      refine Ru_if_gtC (pc := 143) 153 dX11_way_143 (by decide) (fun h2 => ?_) (fun h2 => ?_)
      · refine Ru_iincN (pc := 153) 1 dX11_way_153 rfl rfl rfl (by decide) ?_
        refine Ru_goto (pc := 156) 107 dX11_way_156 (by decide) ?_
        refine Ru_weak (ih (m' - (p + 1)) (by omega) (p + 1) _ rfl (by omega) ?_ ?_ ?_) rfl
        · show _ = wLead _ _ p - _ + _
          omega
        · show _ ∧ _
          simp only [wLead]
          omega
        · rw [← e1, wFirst_st (k := p) (by omega), if_neg]
          simp only [Int64.lt_iff_toInt_lt, Int64.le_iff_toInt_le, e0] at *
          show ¬ wLead _ _ p - _ + _ ≤ _
          omega
      · refine Ru_aload_n (pc := 146) dX11_way_146 rfl rfl ?_
        refine Ru_iload (pc := 147) dX11_way_147 rfl ?_
        refine Ru_cv1 (pc := 149) dX11_way_149 mv_X11_170 rfl (by decide) (Nat.le_of_ble_eq_true rfl) (c_X11_tell ?_) 
        refine Ru_iret (pc := 152) dX11_way_152 rfl ⟨Nat.le_refl _, Nat.le_refl _⟩ ?_
        refine r_qe ?_ (k _ (r_fx.sI rfl r_fx.rf) r_sI_s)
        rw [← e1, wFirst_st (by omega), if_pos]
        · rfl
        · simp only [Int64.lt_iff_toInt_lt, Int64.le_iff_toInt_le, e0] at *
          show wLead _ _ p - _ + _ ≤ _
          omega

theorem c_X11_way {Q : Rq} {M : Mem} {tr : Nat → Tr} {t m a : Int32} (hy : X_tr tr M) (k : ∀ M', r_fx [(0, 0)] [] M M' → M'.1 0 0 = nI (g_way tr t m a).2 → Q (some (.int (g_way tr t m a).1)) GX M') : Ca 3 mt_X11_way 0 0 [.ref 0, .int t, .int m, .int a] GX M Q := by
  refine Ca_of rfl (Nat.le_of_ble_eq_true rfl) ?_
  have e30 : (30 : Int32).toInt = 30 := rfl
  refine Ru_aload_n (pc := 0) dX11_way_0 rfl rfl ?_
  refine Ru_iload_n (pc := 1) dX11_way_1 rfl rfl ?_
  refine Ru_cv1 (pc := 2) dX11_way_2 mv_X11_87 rfl (by decide) (Nat.le_of_ble_eq_true rfl) (c_X11_isTray ?_) 
  refine Ru_if_neB (pc := 5) 14 dX11_way_5 (by decide) (fun h1 => ?_) (fun h1 => ?_)
  · replace h1 := of_decide_eq_true h1
    obtain ⟨t', ht', rfl⟩ := r_nat (x := t) (n := 4) (by omega) (by omega)
    have et := r_tn (show t' < 2147483648 by omega)
    have et2 := r_tnn (show t' < 2147483648 by omega)
    have htr := hy t' ht'
    refine Ru_aload_n (pc := 14) dX11_way_14 rfl rfl ?_
    refine Ru_getR (pc := 15) 1 dX11_way_15 fl_X11_15 rfl rfl (rfX_of (o := 0) (j := 1) rfl rfl) ?_
    refine Ru_iload_n (pc := 18) dX11_way_18 rfl rfl ?_
    refine Ru_aald (pc := 19) dX11_way_19 rfl (by decide) (by omega) ((hy t' ht').1) ?_
    refine Ru_astore (pc := 20) dX11_way_20 rfl (by decide) ?_
    refine Ru_aload (pc := 22) dX11_way_22 rfl ?_
    refine Ru_cv0 (pc := 24) dX11_way_24 mv_X11_102 (shTray_0 (isTray_of ht')) (by decide) (Nat.le_of_ble_eq_true rfl) (c_X10_isMissing (isTray_of ht') (hy t' ht').2.2.1 ?_) 
    refine Ru_if_eqB (pc := 27) 36 dX11_way_27 (by decide) (fun h2 => ?_) (fun h2 => ?_)
    · replace h2 := of_decide_eq_false h2
      refine Ru_iload_n (pc := 36) dX11_way_36 rfl rfl ?_
      refine Ru_iconst (pc := 37) (nI 1) dX11_way_37 rfl ?_
      refine Ru_icmp_ltL (pc := 38) 55 dX11_way_38 (by decide) (by omega) (fun h3 => ?_) (fun h3 => ?_)
      · refine Ru_aload_n (pc := 55) dX11_way_55 rfl rfl ?_
        refine Ru_iconst (pc := 56) (nI 5) dX11_way_56 rfl ?_
        refine Ru_cv1 (pc := 57) dX11_way_57 mv_X11_112 rfl (by decide) (Nat.le_of_ble_eq_true rfl) (c_X11_fail ?_) 
        refine Ru_iret (pc := 60) dX11_way_60 rfl ⟨Nat.le_refl _, Nat.le_refl _⟩ ?_
        have e : g_way tr (nI t') m a = (-1, 5) := by
          unfold g_way
          rw [et2]
          rw [if_neg (by omega), if_neg (by omega), if_pos (by omega)]
        rw [e] at k
        exact k _ (r_fx.sI rfl r_fx.rf) r_sI_s
      · refine Ru_iload_n (pc := 41) dX11_way_41 rfl rfl ?_
        refine Ru_bipush (pc := 42) (nI 30) dX11_way_42 rfl ?_
        refine Ru_icmp_gtL (pc := 44) 55 dX11_way_44 (by decide) (by omega) (fun h4 => ?_) (fun h4 => ?_)
        · refine Ru_aload_n (pc := 55) dX11_way_55 rfl rfl ?_
          refine Ru_iconst (pc := 56) (nI 5) dX11_way_56 rfl ?_
          refine Ru_cv1 (pc := 57) dX11_way_57 mv_X11_112 rfl (by decide) (Nat.le_of_ble_eq_true rfl) (c_X11_fail ?_) 
          refine Ru_iret (pc := 60) dX11_way_60 rfl ⟨Nat.le_refl _, Nat.le_refl _⟩ ?_
          have e : g_way tr (nI t') m a = (-1, 5) := by
            unfold g_way
            rw [et2]
            rw [if_neg (by omega), if_neg (by omega), if_pos (by omega)]
          rw [e] at k
          exact k _ (r_fx.sI rfl r_fx.rf) r_sI_s
        · refine Ru_aload_n (pc := 47) dX11_way_47 rfl rfl ?_
          refine Ru_iload_n (pc := 48) dX11_way_48 rfl rfl ?_
          refine Ru_cv1 (pc := 49) dX11_way_49 mv_X11_337 rfl (by decide) (Nat.le_of_ble_eq_true rfl) (c_X11_isPlaces ?_) 
          refine Ru_if_neB (pc := 52) 61 dX11_way_52 (by decide) (fun h5 => ?_) (fun h5 => ?_)
          · replace h5 := of_decide_eq_true h5
            obtain ⟨m', hm', rfl⟩ := r_nat (x := m) (n := 31) (by omega) (by omega)
            have em := r_tn (show m' < 2147483648 by omega)
            obtain ⟨a', ha', rfl⟩ := r_nat (x := a) (n := 25) (by omega) (by omega)
            have ea := r_tn (show a' < 2147483648 by omega)
            refine Ru_aload (pc := 61) dX11_way_61 rfl ?_
            refine Ru_iconst (pc := 63) (nI 0) dX11_way_63 rfl ?_
            refine Ru_iconst (pc := 64) (nI 2) dX11_way_64 rfl ?_
            refine Ru_iload_n (pc := 65) dX11_way_65 rfl rfl ?_
            refine Ru_imulN (pc := 66) dX11_way_66 ?_
            refine Ru_cv2 (pc := 67) dX11_way_67 mv_X11_123 (shTray_0 (isTray_of ht')) (by decide) (Nat.le_of_ble_eq_true rfl) (c_X10_hasRun (isTray_of ht') (hy t' ht').2.2.1 (by rw [r_tn (by omega)]; omega) (by omega) ?_) 
            refine Ru_if_neB (pc := 70) 79 dX11_way_70 (by decide) (fun h6 => ?_) (fun h6 => ?_)
            · replace h6 := of_decide_eq_true h6
              have e2m := r_tn (show 2 * m' < 2147483648 by omega)
              have e00 := r_tn (show 0 < 2147483648 by omega)
              refine Ru_aload (pc := 79) dX11_way_79 rfl ?_
              refine Ru_iconst (pc := 81) (nI 2) dX11_way_81 rfl ?_
              refine Ru_iload_n (pc := 82) dX11_way_82 rfl rfl ?_
              refine Ru_imulN (pc := 83) dX11_way_83 ?_
              refine Ru_lconst (pc := 84) 0 dX11_way_84 rfl ?_
              refine Ru_ldc2 (pc := 85) dX11_way_85 tw_1243 ?_
              refine Ru_cv3 (pc := 88) dX11_way_88 mv_X11_351 (shTray_0 (isTray_of ht')) (by decide) (Nat.le_of_ble_eq_true rfl) (c_X10_allWithin (w := (tr t').2.2) (isTray_of ht') (hy t' ht').2.2.1 (by omega) (fun k hk => (hy t' ht').2.2.2.2 k (by omega)) ?_) 
              refine Ru_if_neB (pc := 91) 100 dX11_way_91 (by decide) (fun h7 => ?_) (fun h7 => ?_)
              · refine Ru_iload_n (pc := 100) dX11_way_100 rfl rfl ?_
                refine Ru_i2l (pc := 101) _ dX11_way_101 rfl ?_
                refine Ru_lstore (pc := 102) dX11_way_102 rfl (by decide) ?_
                refine Ru_iconst (pc := 104) (nI 0) dX11_way_104 rfl ?_
                refine Ru_istore (pc := 105) dX11_way_105 rfl (by decide) ?_
                have hOk : wOk (tr t').2.2 (2 * m') = true := by assumption
                have e : g_way tr (nI t') (nI m') (nI a') = (nM (wFirst (tr t').2.2 (a' : Int) m' 0), 0) := by
                  unfold g_way
                  rw [et2, if_neg (by omega), if_neg (by omega), if_neg (by omega), if_neg (by omega), r_tnn (show m' < 2147483648 by omega), if_neg (by rw [hOk]; decide), ea]
                rw [e] at k
                refine Ru_weak (l_X11_way (m' := m') (a := (a' : Int)) hy ht' (by omega) (by omega) (wOk_t hOk) k m' 0 _ rfl (Nat.zero_le _) ?_ ?_ rfl) rfl
                · show _ = (a' : Int)
                  rw [Int32.toInt_toInt64, ea]
                · show _ ≤ (a' : Int) - _ ∧ (a' : Int) + _ ≤ _
                  omega
              · have hOk : wOk (tr t').2.2 (2 * m') = false := by assumption
                refine Ru_aload_n (pc := 94) dX11_way_94 rfl rfl ?_
                refine Ru_iconst (pc := 95) (nI 5) dX11_way_95 rfl ?_
                refine Ru_cv1 (pc := 96) dX11_way_96 mv_X11_112 rfl (by decide) (Nat.le_of_ble_eq_true rfl) (c_X11_fail ?_) 
                refine Ru_iret (pc := 99) dX11_way_99 rfl ⟨Nat.le_refl _, Nat.le_refl _⟩ ?_
                have e : g_way tr (nI t') (nI m') (nI a') = (-1, 5) := by
                  unfold g_way
                  rw [et2]
                  rw [if_neg (by omega), if_neg (by omega), if_neg (by omega), if_neg (by omega), r_tnn (show m' < 2147483648 by omega)]
                  rw [if_pos hOk]
                rw [e] at k
                exact k _ (r_fx.sI rfl r_fx.rf) r_sI_s
            · replace h6 := of_decide_eq_false h6
              have e2m := r_tn (show 2 * m' < 2147483648 by omega)
              have e00 := r_tn (show 0 < 2147483648 by omega)
              refine Ru_aload_n (pc := 73) dX11_way_73 rfl rfl ?_
              refine Ru_iconst (pc := 74) (nI 4) dX11_way_74 rfl ?_
              refine Ru_cv1 (pc := 75) dX11_way_75 mv_X11_112 rfl (by decide) (Nat.le_of_ble_eq_true rfl) (c_X11_fail ?_) 
              refine Ru_iret (pc := 78) dX11_way_78 rfl ⟨Nat.le_refl _, Nat.le_refl _⟩ ?_
              have e : g_way tr (nI t') (nI m') (nI a') = (-1, 4) := by
                unfold g_way
                rw [et2]
                rw [if_neg (by omega), if_neg (by omega), if_neg (by omega), if_pos (by omega)]
              rw [e] at k
              exact k _ (r_fx.sI rfl r_fx.rf) r_sI_s
          · replace h5 := of_decide_eq_false h5
            refine Ru_aload_n (pc := 55) dX11_way_55 rfl rfl ?_
            refine Ru_iconst (pc := 56) (nI 5) dX11_way_56 rfl ?_
            refine Ru_cv1 (pc := 57) dX11_way_57 mv_X11_112 rfl (by decide) (Nat.le_of_ble_eq_true rfl) (c_X11_fail ?_) 
            refine Ru_iret (pc := 60) dX11_way_60 rfl ⟨Nat.le_refl _, Nat.le_refl _⟩ ?_
            have e : g_way tr (nI t') m a = (-1, 5) := by
              unfold g_way
              rw [et2]
              rw [if_neg (by omega), if_neg (by omega), if_pos (by omega)]
            rw [e] at k
            exact k _ (r_fx.sI rfl r_fx.rf) r_sI_s
    · replace h2 := of_decide_eq_true h2
      refine Ru_aload_n (pc := 30) dX11_way_30 rfl rfl ?_
      refine Ru_iconst (pc := 31) (nI 3) dX11_way_31 rfl ?_
      refine Ru_cv1 (pc := 32) dX11_way_32 mv_X11_112 rfl (by decide) (Nat.le_of_ble_eq_true rfl) (c_X11_fail ?_) 
      refine Ru_iret (pc := 35) dX11_way_35 rfl ⟨Nat.le_refl _, Nat.le_refl _⟩ ?_
      have e : g_way tr (nI t') m a = (-1, 3) := by
        unfold g_way
        rw [et2]
        rw [if_neg (by omega), if_pos (by omega)]
      rw [e] at k
      exact k _ (r_fx.sI rfl r_fx.rf) r_sI_s
  · replace h1 := of_decide_eq_false h1
    refine Ru_aload_n (pc := 8) dX11_way_8 rfl rfl ?_
    refine Ru_iconst (pc := 9) (nI 1) dX11_way_9 rfl ?_
    refine Ru_cv1 (pc := 10) dX11_way_10 mv_X11_112 rfl (by decide) (Nat.le_of_ble_eq_true rfl) (c_X11_fail ?_) 
    refine Ru_iret (pc := 13) dX11_way_13 rfl ⟨Nat.le_refl _, Nat.le_refl _⟩ ?_
    have e : g_way tr t m a = (-1, 1) := by
      unfold g_way
      rw [if_pos (by omega)]
    rw [e] at k
    exact k _ (r_fx.sI rfl r_fx.rf) r_sI_s
