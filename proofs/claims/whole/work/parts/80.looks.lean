-- WHAT STAYS: the developers' own
def X_lw (lw : Nat) (d : Td) (M : Mem) : Prop := ∀ k, k < 8 → d (21 + k) = 1 → M.1 (lw + 1) k = nI (d (139 + k)) ∧ M.1 (lw + 2) k = nI (d (147 + k)) ∧ ∀ i, d (139 + k) ≤ i → i < d (147 + k) → M.1 (lw + 3) i = nI (nCd (d (155 + 2 * i)) (d (155 + 2 * i + 1)))
def lwA : List Nat := [22, 23, 24, 25, 31, 32, 33, 34, 102, 103, 104, 105, 130, 131, 132, 133, 158, 159, 160, 161, 186, 187, 188, 189]
def plA : List Nat := [26, 27, 28, 29, 30, 35, 36, 37, 38, 39, 106, 107, 108, 109, 110, 134, 135, 136, 137, 138, 162, 163, 164, 165, 166, 190, 191, 192, 193, 194]
theorem lw_c : ∀ j, j < 4 → lwA.contains (22 + j) = true ∧ lwA.contains (31 + j) = true ∧ lwA.contains (102 + j) = true ∧ lwA.contains (130 + j) = true ∧ lwA.contains (158 + j) = true ∧ lwA.contains (186 + j) = true := by decide +kernel
theorem pl_c : ∀ j, j < 5 → plA.contains (26 + j) = true ∧ plA.contains (35 + j) = true ∧ plA.contains (106 + j) = true ∧ plA.contains (134 + j) = true ∧ plA.contains (162 + j) = true ∧ plA.contains (190 + j) = true := by decide +kernel
theorem lw_mem {t : Nat} (h : isLaw t) (j : Nat) (hj : j < 4) : lwA.contains (t + j) = true := by
  have hc := lw_c j hj
  rcases h with rfl | rfl | rfl | rfl | rfl | rfl
  · exact hc.1
  · exact hc.2.1
  · exact hc.2.2.1
  · exact hc.2.2.2.1
  · exact hc.2.2.2.2.1
  · exact hc.2.2.2.2.2
theorem pl_mem {t : Nat} (h : isPlan t) (j : Nat) (hj : j < 5) : plA.contains (t + j) = true := by
  have hc := pl_c j hj
  rcases h with rfl | rfl | rfl | rfl | rfl | rfl
  · exact hc.1
  · exact hc.2.1
  · exact hc.2.2.1
  · exact hc.2.2.2.1
  · exact hc.2.2.2.2.1
  · exact hc.2.2.2.2.2
theorem X_lw_dp {lw : Nat} (h : isLaw lw) (d : Td) : r_dp [] lwA (X_lw lw d) := by
  intro M M' q p k hk hr
  have g : ∀ j, j < 4 → ∀ k, M'.1 (lw + j) k = M.1 (lw + j) k := fun j hj k => (q (lw + j) k (r_in_A (lw_mem h j hj))).1
  obtain ⟨a, b, c⟩ := p k hk hr
  exact ⟨(g 1 (by decide) _).trans a, (g 2 (by decide) _).trans b, fun i h1 h2 => (g 3 (by decide) _).trans (c i h1 h2)⟩
def cuA : List Nat := 2 :: (twA ++ (lwA ++ plA))
theorem contains_l {a : Nat} {A B : List Nat} (h : A.contains a = true) : (A ++ B).contains a = true := List.contains_iff_mem.mpr (List.mem_append_left _ (List.contains_iff_mem.mp h))
theorem contains_r {a : Nat} {A B : List Nat} (h : B.contains a = true) : (A ++ B).contains a = true := List.contains_iff_mem.mpr (List.mem_append_right _ (List.contains_iff_mem.mp h))
theorem contains_c {a b : Nat} {A : List Nat} (h : A.contains a = true) : (b :: A).contains a = true := List.contains_iff_mem.mpr (List.mem_cons_of_mem _ (List.contains_iff_mem.mp h))
theorem tw_mem {t : Nat} (h : isTown t) (j : Nat) (hj : j < 19) : twA.contains (t + j) = true := by
  have hc := tw_c j hj
  rcases h with rfl | rfl | rfl | rfl | rfl
  · exact hc.1
  · exact hc.2.1
  · exact hc.2.2.1
  · exact hc.2.2.2.1
  · exact hc.2.2.2.2
theorem X_cu_dp (mk t lw pl : Nat) (d : Td) : r_dp [(0, 5)] cuA (X_cu mk t lw pl d) := by
  intro M M' q p
  obtain ⟨⟨a1, a2, a3, a4⟩, ⟨b1, b2, b3⟩, c1, c2, c3, c4⟩ := p
  have g1 : ∀ k, r_eq3 M M' t k := fun k => q t k (r_in_A (contains_c (contains_l (tw_mem a4 0 (by decide)))))
  have g2 : ∀ k, r_eq3 M M' lw k := fun k => q lw k (r_in_A (contains_c (contains_r (contains_l (lw_mem b2 0 (by decide))))))
  have g3 : ∀ k, r_eq3 M M' pl k := fun k => q pl k (r_in_A (contains_c (contains_r (contains_r (pl_mem c2 0 (by decide))))))
  exact ⟨⟨(q 0 5 rfl).1.trans a1, a2, (q 2 mk (r_in_A rfl)).2.2.trans a3, a4⟩, ⟨(g1 19).2.2.trans b1, b2, (g2 0).1.trans b3⟩, (g1 20).2.2.trans c1, c2, (g3 0).1.trans c3, (g3 1).1.trans c4⟩
theorem nCd_hi2 {st a : Nat} (hs : st ≤ 9) (ha : st = 3 → a < 8) : (st < 4 → nCd st a >>> 8 = st) ∧ (4 ≤ st → st < 7 → nCd st a >>> 8 = 4) ∧ (7 ≤ st → nCd st a >>> 8 + 2 = st) := by
  rw [nCd_hi hs ha]
  refine ⟨fun h => ?_, fun h1 h2 => ?_, fun h => ?_⟩
  · split
    · rfl
    · rw [if_pos (by omega)]
      omega
  · rw [if_neg (by omega), if_neg (by omega), if_pos h2]
  · rw [if_neg (by omega), if_neg (by omega), if_neg (by omega)]
    omega
theorem n_ask {s n : Nat} {f : Nat → Nat} (hf : ∀ i, i < 8 → f i ≤ 1) (hn : n < 8) : (s &&& bt f 8) &&& 2 ^ n = if s.testBit n = true ∧ f n = 1 then 2 ^ n else 0 := by
  rw [Nat.and_comm, and_pow, Nat.testBit_and, bt_tb hf hn]
  by_cases h : s.testBit n = true ∧ f n = 1
  · rw [if_pos h, if_pos (by simp [h.1, h.2])]
  · rw [if_neg h, if_neg]
    intro z
    simp at z
    exact h z

theorem c_X4_caseWays {Q : Rq} {M : Mem} {st a s r : Nat} (hst : st < 7) (ha : st = 3 → a < 8) (hs : s < 256) (hr : r < 7) (k : Q (some (.int (nI (nCw st a s r)))) GX M) : Ca 0 mt_X4_caseWays 0 0 [.int (nI (nCd st a >>> 8)), .int (nI (nCd st a &&& 255)), .int (nI s), .int (nI r)] GX M Q := by
  refine Ca_of rfl (Nat.le_of_ble_eq_true rfl) ?_
  have hhi := nCd_hi2 (st := st) (a := a) (by omega) ha
  have hlo := nCd_lo (a := a) hst ha
  have hlt : nCd st a &&& 255 ≤ 255 := Nat.and_le_right
  refine Ru_iload_n (pc := 0) dX4_caseWays_0 rfl rfl ?_
  by_cases hs1 : (nCd st a >>> 8) = 0
  · refine Ru_tableIn (pc := 1) 32 dX4_caseWays_1 (by rw [r_tn (by omega)]; omega) (by rw [r_tn (by omega)]; omega) (by rw [hs1]; rfl) (by decide) ?_
    refine Ru_sipush (pc := 32) (nI 170) dX4_caseWays_32 rfl ?_
    refine Ru_iret (pc := 35) dX4_caseWays_35 rfl ⟨Nat.le_refl _, Nat.le_refl _⟩ ?_
    have e : nCw st a s r = 170 := by
      unfold nCw
      rw [if_pos (by omega)]
    rw [e] at k
    exact k
  by_cases hs2 : (nCd st a >>> 8) = 1
  · refine Ru_tableIn (pc := 1) 36 dX4_caseWays_1 (by rw [r_tn (by omega)]; omega) (by rw [r_tn (by omega)]; omega) (by rw [hs2]; rfl) (by decide) ?_
    refine Ru_sipush (pc := 36) (nI 204) dX4_caseWays_36 rfl ?_
    refine Ru_iret (pc := 39) dX4_caseWays_39 rfl ⟨Nat.le_refl _, Nat.le_refl _⟩ ?_
    have e : nCw st a s r = 204 := by
      unfold nCw
      rw [if_neg (by omega), if_pos (by omega)]
    rw [e] at k
    exact k
  by_cases hs3 : (nCd st a >>> 8) = 2
  · refine Ru_tableIn (pc := 1) 40 dX4_caseWays_1 (by rw [r_tn (by omega)]; omega) (by rw [r_tn (by omega)]; omega) (by rw [hs3]; rfl) (by decide) ?_
    refine Ru_sipush (pc := 40) (nI 240) dX4_caseWays_40 rfl ?_
    refine Ru_iret (pc := 43) dX4_caseWays_43 rfl ⟨Nat.le_refl _, Nat.le_refl _⟩ ?_
    have e : nCw st a s r = 240 := by
      unfold nCw
      rw [if_neg (by omega), if_neg (by omega), if_pos (by omega)]
    rw [e] at k
    exact k
  by_cases hs4 : (nCd st a >>> 8) = 3
  · refine Ru_tableIn (pc := 1) 44 dX4_caseWays_1 (by rw [r_tn (by omega)]; omega) (by rw [r_tn (by omega)]; omega) (by rw [hs4]; rfl) (by decide) ?_
    refine Ru_iload_n (pc := 44) dX4_caseWays_44 rfl rfl ?_
    refine Ru_iload_n (pc := 45) dX4_caseWays_45 rfl rfl ?_
    refine Ru_iandN (pc := 46) dX4_caseWays_46 ?_
    refine Ru_if_eqN (pc := 47) 56 dX4_caseWays_47 (by decide) (Nat.lt_of_le_of_lt Nat.and_le_right (by omega)) (fun h5 => ?_) (fun h5 => ?_)
    · refine Ru_iconst (pc := 56) (nI 0) dX4_caseWays_56 rfl ?_
      refine Ru_iret (pc := 57) dX4_caseWays_57 rfl ⟨Nat.le_refl _, Nat.le_refl _⟩ ?_
      have e : nCw st a s r = 0 := by
        unfold nCw
        rw [if_neg (by omega), if_neg (by omega), if_neg (by omega), if_pos (by omega)]
        rw [hlo, if_neg (by omega), if_pos (by omega), and_pow] at h5
        by_cases hb : s.testBit a = true
        · rw [if_pos hb]
          rw [if_pos hb] at h5
          have := Nat.two_pow_pos a
          omega
        · rw [if_neg hb]
      rw [e] at k
      exact k
    · refine Ru_sipush (pc := 50) (nI 255) dX4_caseWays_50 rfl ?_
      refine Ru_goto (pc := 53) 57 dX4_caseWays_53 (by decide) ?_
      refine Ru_iret (pc := 57) dX4_caseWays_57 rfl ⟨Nat.le_refl _, Nat.le_refl _⟩ ?_
      have e : nCw st a s r = 255 := by
        unfold nCw
        rw [if_neg (by omega), if_neg (by omega), if_neg (by omega), if_pos (by omega)]
        rw [hlo, if_neg (by omega), if_pos (by omega), and_pow] at h5
        by_cases hb : s.testBit a = true
        · rw [if_pos hb]
        · rw [if_neg hb]
          rw [if_neg hb] at h5
          omega
      rw [e] at k
      exact k
  refine Ru_tableOut (pc := 1) 58 dX4_caseWays_1 (by rw [r_tn (by omega)]; omega) (by decide) ?_
  refine Ru_iload_n (pc := 58) dX4_caseWays_58 rfl rfl ?_
  refine Ru_iload_n (pc := 59) dX4_caseWays_59 rfl rfl ?_
  refine Ru_ishrN (pc := 60) dX4_caseWays_60 (by omega) ?_
  refine Ru_iconst (pc := 61) (nI 1) dX4_caseWays_61 rfl ?_
  refine Ru_iandN (pc := 62) dX4_caseWays_62 ?_
  refine Ru_if_eqN (pc := 63) 72 dX4_caseWays_63 (by decide) (Nat.lt_of_le_of_lt Nat.and_le_right (by decide)) (fun h6 => ?_) (fun h6 => ?_)
  · have h6b := r_b1_f h6
    refine Ru_iconst (pc := 72) (nI 0) dX4_caseWays_72 rfl ?_
    refine Ru_iret (pc := 73) dX4_caseWays_73 rfl ⟨Nat.le_refl _, Nat.le_refl _⟩ ?_
    have hq : (nRs st a).testBit r = false := by
      rw [hlo, if_neg (by omega), if_neg (by omega)] at h6b
      exact h6b
    rw [nRs_tb hr] at hq
    have e : nCw st a s r = 0 := by
      unfold nCw
      rw [if_neg (by omega), if_neg (by omega), if_neg (by omega), if_neg (by omega)]
      by_cases h4 : st = 4
      · rw [if_pos h4] at hq ⊢
        simp_all
      · rw [if_neg h4] at hq ⊢
        by_cases h5 : st = 5
        · rw [if_pos h5] at hq ⊢
          simp_all
        · rw [if_neg h5] at hq ⊢
          simp_all
    rw [e] at k
    exact k
  · have h6b := r_b1_t h6
    refine Ru_sipush (pc := 66) (nI 255) dX4_caseWays_66 rfl ?_
    refine Ru_goto (pc := 69) 73 dX4_caseWays_69 (by decide) ?_
    refine Ru_iret (pc := 73) dX4_caseWays_73 rfl ⟨Nat.le_refl _, Nat.le_refl _⟩ ?_
    have hq : (nRs st a).testBit r = true := by
      rw [hlo, if_neg (by omega), if_neg (by omega)] at h6b
      exact h6b
    rw [nRs_tb hr] at hq
    have e : nCw st a s r = 255 := by
      unfold nCw
      rw [if_neg (by omega), if_neg (by omega), if_neg (by omega), if_neg (by omega)]
      by_cases h4 : st = 4
      · rw [if_pos h4] at hq ⊢
        simp_all
      · rw [if_neg h4] at hq ⊢
        by_cases h5 : st = 5
        · rw [if_pos h5] at hq ⊢
          simp_all
        · rw [if_neg h5] at hq ⊢
          simp_all
    rw [e] at k
    exact k

theorem l_X4_ways {Q : Rq} {M0 : Mem} {d : Td} {lw t s r : Nat} (hl : isLaw lw) (hlw0 : X_lw lw d M0) (ht8 : t < 8) (hd1 : d (21 + t) = 1) (hs : s < 256) (hr : r < 7) (hok : nOk d t) {i0 cnt : Nat} (ei : i0 = d (139 + t)) (ecnt : cnt = d (147 + t) - d (139 + t)) (k : ∀ M', r_fx [] [48] M0 M' → Q (some (.int (nI (nFin d s r t)))) GX M') : ∀ (zw : Nat) (n : Nat) (M : Mem), cnt - n = zw → (n ≤ cnt) → (∀ j, j < nDp d i0 n → M.1 48 j = nI (nLv d s r i0 n j)) → (r_fx [] [48] M0 M) → Ru 1 mt_X4_ways r_z 11 [(5, some (.int (nI (nDp d i0 n)))), (6, some (.int (nI (i0 + n)))), (0, some (.ref 46)), (1, some (.ref lw)), (2, some (.int (nI t))), (3, some (.int (nI s))), (4, some (.int (nI r)))] [] GX M Q := by
  intro zw
  induction zw using Nat.strongRecOn with
  | ind zw ih =>
    intro n M hw hn hk fx
    subst hw
    have hL : lw = 22 ∨ lw = 31 ∨ lw = 102 ∨ lw = 130 ∨ lw = 158 ∨ lw = 186 := hl
    have hlw : X_lw lw d M := (X_lw_dp hl d).kp fx rfl hlw0
    have ho1 := hok.1
    have ho2 := hok.2.1
    refine Ru_iload (pc := 11) dX4_ways_11 rfl ?_
    refine Ru_aload_n (pc := 13) dX4_ways_13 rfl rfl ?_
    refine Ru_getR (pc := 14) (lw + 2) dX4_ways_14 fl_X4_63 (shLaw_0 hl) rfl (rfX_of (o := lw) (j := 2) (shLaw_0 hl) rfl) ?_
    refine Ru_iload_n (pc := 17) dX4_ways_17 rfl rfl ?_
    refine Ru_iald (pc := 18) dX4_ways_18 (shLaw_2 hl) (by omega) ?_
    refine Ru_top (hlw t ht8 hd1).2.1 ?_
    refine Ru_icmp_geN (pc := 19) 190 dX4_ways_19 (by decide) (by omega) (fun h1 => ?_) (fun h1 => ?_)
    · have hdp : 1 ≤ nDp d i0 n := ei ▸ (nDp_b hok n (by omega)).2 (by omega)
      refine Ru_aload_n (pc := 190) dX4_ways_190 rfl rfl ?_
      refine Ru_getR (pc := 191) 48 dX4_ways_191 fl_X4_15 rfl rfl (rfX_of (o := 46) (j := 2) rfl rfl) ?_
      refine Ru_iconst (pc := 194) (nI 0) dX4_ways_194 rfl ?_
      refine Ru_iald (pc := 195) dX4_ways_195 rfl (by omega) ?_
      refine Ru_top (hk 0 (by omega)) ?_
      refine Ru_iret (pc := 196) dX4_ways_196 rfl ⟨Nat.le_refl _, Nat.le_refl _⟩ ?_
      have en : n = cnt := by omega
      have e9 : nFin d s r t = nLv d s r i0 n 0 := by
        rw [en, ecnt, ei]
        rfl
      rw [e9] at k
      exact k _ fx
    · have h3 := hok.2.2 n (by omega)
      rw [← ei] at h3
      have hdb : nDp d i0 n ≤ 13 := ei ▸ (nDp_b hok n (by omega)).1
      have hhi := nCd_hi2 (st := (d (155 + 2 * (i0 + n)))) (a := (d (155 + 2 * (i0 + n) + 1))) (by omega) (by omega)
      have hlc := nCd_lt (st := (d (155 + 2 * (i0 + n)))) (a := (d (155 + 2 * (i0 + n) + 1))) (by omega) (by omega)
      refine Ru_aload_n (pc := 22) dX4_ways_22 rfl rfl ?_
      refine Ru_getR (pc := 23) (lw + 3) dX4_ways_23 fl_X4_66 (shLaw_0 hl) rfl (rfX_of (o := lw) (j := 3) (shLaw_0 hl) rfl) ?_
      refine Ru_iload (pc := 26) dX4_ways_26 rfl ?_
      refine Ru_iald (pc := 28) dX4_ways_28 (shLaw_3 hl) (by omega) ?_
      refine Ru_top ((hlw t ht8 hd1).2.2 (i0 + n) (by omega) (by omega)) ?_
      refine Ru_bipush (pc := 29) (nI 8) dX4_ways_29 rfl ?_
      refine Ru_ishrN (pc := 31) dX4_ways_31 (by omega) ?_
      refine Ru_istore (pc := 32) dX4_ways_32 rfl (by decide) ?_
      refine Ru_iload (pc := 34) dX4_ways_34 rfl ?_
      refine Ru_iconst (pc := 36) (nI 5) dX4_ways_36 rfl ?_
      refine Ru_icmp_neN (pc := 37) 63 dX4_ways_37 (by decide) (by omega) (fun h2 => ?_) (fun h2 => ?_)
      · refine Ru_iload (pc := 63) dX4_ways_63 rfl ?_
        refine Ru_bipush (pc := 65) (nI 6) dX4_ways_65 rfl ?_
        refine Ru_icmp_neN (pc := 67) 101 dX4_ways_67 (by decide) (by omega) (fun h3 => ?_) (fun h3 => ?_)
        · refine Ru_iload (pc := 101) dX4_ways_101 rfl ?_
          refine Ru_bipush (pc := 103) (nI 7) dX4_ways_103 rfl ?_
          refine Ru_icmp_neN (pc := 105) 139 dX4_ways_105 (by decide) (by omega) (fun h4 => ?_) (fun h4 => ?_)
          · refine Ru_iload (pc := 139) dX4_ways_139 rfl ?_
            refine Ru_iconst (pc := 141) (nI 5) dX4_ways_141 rfl ?_
            refine Ru_icmp_geN (pc := 142) 184 dX4_ways_142 (by decide) (by omega) (fun h5 => ?_) (fun h5 => ?_)
            · exfalso
              omega
            · refine Ru_iload (pc := 145) dX4_ways_145 rfl ?_
              refine Ru_aload_n (pc := 147) dX4_ways_147 rfl rfl ?_
              refine Ru_getR (pc := 148) 48 dX4_ways_148 fl_X4_15 rfl rfl (rfX_of (o := 46) (j := 2) rfl rfl) ?_
              refine Ru_alen (pc := 151) dX4_ways_151 rfl (by decide) ?_
              refine Ru_icmp_geN (pc := 152) 184 dX4_ways_152 (by decide) (by omega) (fun h6 => ?_) (fun h6 => ?_)
              · exfalso
                omega
              · refine Ru_aload_n (pc := 155) dX4_ways_155 rfl rfl ?_
                refine Ru_getR (pc := 156) 48 dX4_ways_156 fl_X4_15 rfl rfl (rfX_of (o := 46) (j := 2) rfl rfl) ?_
                refine Ru_iload (pc := 159) dX4_ways_159 rfl ?_
                refine Ru_iload (pc := 161) dX4_ways_161 rfl ?_
                refine Ru_aload_n (pc := 163) dX4_ways_163 rfl rfl ?_
                refine Ru_getR (pc := 164) (lw + 3) dX4_ways_164 fl_X4_66 (shLaw_0 hl) rfl (rfX_of (o := lw) (j := 3) (shLaw_0 hl) rfl) ?_
                refine Ru_iload (pc := 167) dX4_ways_167 rfl ?_
                refine Ru_iald (pc := 169) dX4_ways_169 (shLaw_3 hl) (by omega) ?_
                refine Ru_top ((hlw t ht8 hd1).2.2 (i0 + n) (by omega) (by omega)) ?_
                refine Ru_sipush (pc := 170) (nI 255) dX4_ways_170 rfl ?_
                refine Ru_iandN (pc := 173) dX4_ways_173 ?_
                refine Ru_iload_n (pc := 174) dX4_ways_174 rfl rfl ?_
                refine Ru_iload (pc := 175) dX4_ways_175 rfl ?_
                refine Ru_cs4 (pc := 177) dX4_ways_177 ms_X4_69 (by decide) (Nat.le_of_ble_eq_true rfl) (c_X4_caseWays (by omega) (by omega) hs hr ?_) 
                refine Ru_iast (pc := 180) rfl dX4_ways_180 rfl (by omega) ?_
                refine Ru_iincN (pc := 181) 1 dX4_ways_181 rfl rfl rfl (by decide) ?_
                refine Ru_iincN (pc := 184) 1 dX4_ways_184 rfl rfl rfl (by decide) ?_
                refine Ru_goto (pc := 187) 11 dX4_ways_187 (by decide) ?_
                have e1 : nDp d i0 (n + 1) = nDp d i0 n + 1 := nDp_p (by omega)
                have e2 : ∀ j, j < nDp d i0 n → M.1 48 j = nI (nLv d s r i0 (n + 1) j) := fun j hj => by rw [nLv_p (by omega), if_neg (by omega)]; exact hk j hj
                have hr := ih (cnt - (n + 1)) (by omega) (n + 1) _ rfl (by omega) (by rw [e1]; exact r_ext e2 (by rw [nLv_p (by omega), if_pos rfl])) (r_fx.sI rfl fx)
                rw [e1] at hr
                exact Ru_weak hr rfl
          · refine Ru_iload (pc := 108) dX4_ways_108 rfl ?_
            refine Ru_iconst (pc := 110) (nI 1) dX4_ways_110 rfl ?_
            refine Ru_icmp_leN (pc := 111) 139 dX4_ways_111 (by decide) (by omega) (fun h7 => ?_) (fun h7 => ?_)
            · exfalso
              omega
            · obtain ⟨q, hq⟩ : ∃ q, nDp d i0 n = q + 2 := ⟨nDp d i0 n - 2, by omega⟩
              refine Ru_weak (L' := (5, some (.int (nI ((q + 1) + 1)))) :: [(6, some (.int (nI (i0 + n)))), (0, some (.ref 46)), (1, some (.ref lw)), (2, some (.int (nI t))), (3, some (.int (nI s))), (4, some (.int (nI r))), (7, some (.int (nI ((nCd (d (155 + 2 * (i0 + n))) (d (155 + 2 * (i0 + n) + 1))) >>> 8))))]) ?_ (by simp [hq, r_lget])
              refine Ru_iincD (pc := 114) dX4_ways_114 rfl rfl rfl (by decide) ?_
              refine Ru_aload_n (pc := 117) dX4_ways_117 rfl rfl ?_
              refine Ru_getR (pc := 118) 48 dX4_ways_118 fl_X4_15 rfl rfl (rfX_of (o := 46) (j := 2) rfl rfl) ?_
              refine Ru_iload (pc := 121) dX4_ways_121 rfl ?_
              refine Ru_iconst (pc := 123) (nI 1) dX4_ways_123 rfl ?_
              refine Ru_isubN (pc := 124) dX4_ways_124 (by omega) ?_
              refine Ru_top (show nI ((q + 1) - 1) = nI q from rfl) ?_
              refine Ru_dup2 (pc := 125) dX4_ways_125 rfl rfl ?_
              refine Ru_iald (pc := 126) dX4_ways_126 rfl (by omega) ?_
              refine Ru_top (hk q (by omega)) ?_
              refine Ru_aload_n (pc := 127) dX4_ways_127 rfl rfl ?_
              refine Ru_getR (pc := 128) 48 dX4_ways_128 fl_X4_15 rfl rfl (rfX_of (o := 46) (j := 2) rfl rfl) ?_
              refine Ru_iload (pc := 131) dX4_ways_131 rfl ?_
              refine Ru_iald (pc := 133) dX4_ways_133 rfl (by omega) ?_
              refine Ru_top (hk (q + 1) (by omega)) ?_
              refine Ru_iorN (pc := 134) dX4_ways_134 ?_
              refine Ru_iast (pc := 135) rfl dX4_ways_135 rfl (by omega) ?_
              refine Ru_goto (pc := 136) 184 dX4_ways_136 (by decide) ?_
              refine Ru_iincN (pc := 184) 1 dX4_ways_184 rfl rfl rfl (by decide) ?_
              refine Ru_goto (pc := 187) 11 dX4_ways_187 (by decide) ?_
              have e1 : nDp d i0 (n + 1) = q + 1 := by rw [nDp_v (by omega), hq]; rfl
              have e2 : ∀ j, j < q + 1 → j ≠ q → nI (nLv d s r i0 (n + 1) j) = nI (nLv d s r i0 n j) := fun j _ hj => by rw [nLv_b (by omega), if_neg (by omega)]
              have e3 : q < q + 1 → (nI ((nLv d s r i0 n q) ||| (nLv d s r i0 n (q + 1)))) = nI (nLv d s r i0 (n + 1) q) := fun _ => by
                rw [nLv_b (by omega), if_pos (by omega), if_neg (by omega)]
              have hr := ih (cnt - (n + 1)) (by omega) (n + 1) _ rfl (by omega) (by rw [e1]; exact r_upd (fun j hj => hk j (by omega)) e3 e2) (r_fx.sI rfl fx)
              rw [e1] at hr
              exact Ru_weak hr rfl
        · refine Ru_iload (pc := 70) dX4_ways_70 rfl ?_
          refine Ru_iconst (pc := 72) (nI 1) dX4_ways_72 rfl ?_
          refine Ru_icmp_leN (pc := 73) 101 dX4_ways_73 (by decide) (by omega) (fun h8 => ?_) (fun h8 => ?_)
          · exfalso
            omega
          · obtain ⟨q, hq⟩ : ∃ q, nDp d i0 n = q + 2 := ⟨nDp d i0 n - 2, by omega⟩
            refine Ru_weak (L' := (5, some (.int (nI ((q + 1) + 1)))) :: [(6, some (.int (nI (i0 + n)))), (0, some (.ref 46)), (1, some (.ref lw)), (2, some (.int (nI t))), (3, some (.int (nI s))), (4, some (.int (nI r))), (7, some (.int (nI ((nCd (d (155 + 2 * (i0 + n))) (d (155 + 2 * (i0 + n) + 1))) >>> 8))))]) ?_ (by simp [hq, r_lget])
            refine Ru_iincD (pc := 76) dX4_ways_76 rfl rfl rfl (by decide) ?_
            refine Ru_aload_n (pc := 79) dX4_ways_79 rfl rfl ?_
            refine Ru_getR (pc := 80) 48 dX4_ways_80 fl_X4_15 rfl rfl (rfX_of (o := 46) (j := 2) rfl rfl) ?_
            refine Ru_iload (pc := 83) dX4_ways_83 rfl ?_
            refine Ru_iconst (pc := 85) (nI 1) dX4_ways_85 rfl ?_
            refine Ru_isubN (pc := 86) dX4_ways_86 (by omega) ?_
            refine Ru_top (show nI ((q + 1) - 1) = nI q from rfl) ?_
            refine Ru_dup2 (pc := 87) dX4_ways_87 rfl rfl ?_
            refine Ru_iald (pc := 88) dX4_ways_88 rfl (by omega) ?_
            refine Ru_top (hk q (by omega)) ?_
            refine Ru_aload_n (pc := 89) dX4_ways_89 rfl rfl ?_
            refine Ru_getR (pc := 90) 48 dX4_ways_90 fl_X4_15 rfl rfl (rfX_of (o := 46) (j := 2) rfl rfl) ?_
            refine Ru_iload (pc := 93) dX4_ways_93 rfl ?_
            refine Ru_iald (pc := 95) dX4_ways_95 rfl (by omega) ?_
            refine Ru_top (hk (q + 1) (by omega)) ?_
            refine Ru_iandN (pc := 96) dX4_ways_96 ?_
            refine Ru_iast (pc := 97) rfl dX4_ways_97 rfl (by omega) ?_
            refine Ru_goto (pc := 98) 184 dX4_ways_98 (by decide) ?_
            refine Ru_iincN (pc := 184) 1 dX4_ways_184 rfl rfl rfl (by decide) ?_
            refine Ru_goto (pc := 187) 11 dX4_ways_187 (by decide) ?_
            have e1 : nDp d i0 (n + 1) = q + 1 := by rw [nDp_v (by omega), hq]; rfl
            have e2 : ∀ j, j < q + 1 → j ≠ q → nI (nLv d s r i0 (n + 1) j) = nI (nLv d s r i0 n j) := fun j _ hj => by rw [nLv_b (by omega), if_neg (by omega)]
            have e3 : q < q + 1 → (nI ((nLv d s r i0 n q) &&& (nLv d s r i0 n (q + 1)))) = nI (nLv d s r i0 (n + 1) q) := fun _ => by
              rw [nLv_b (by omega), if_pos (by omega), if_pos (by omega)]
            have hr := ih (cnt - (n + 1)) (by omega) (n + 1) _ rfl (by omega) (by rw [e1]; exact r_upd (fun j hj => hk j (by omega)) e3 e2) (r_fx.sI rfl fx)
            rw [e1] at hr
            exact Ru_weak hr rfl
      · refine Ru_iload (pc := 40) dX4_ways_40 rfl ?_
        refine Ru_if_leN (pc := 42) 63 dX4_ways_42 (by decide) (by omega) (fun h9 => ?_) (fun h9 => ?_)
        · exfalso
          omega
        · refine Ru_aload_n (pc := 45) dX4_ways_45 rfl rfl ?_
          refine Ru_getR (pc := 46) 48 dX4_ways_46 fl_X4_15 rfl rfl (rfX_of (o := 46) (j := 2) rfl rfl) ?_
          refine Ru_iload (pc := 49) dX4_ways_49 rfl ?_
          refine Ru_iconst (pc := 51) (nI 1) dX4_ways_51 rfl ?_
          refine Ru_isubN (pc := 52) dX4_ways_52 (by omega) ?_
          refine Ru_dup2 (pc := 53) dX4_ways_53 rfl rfl ?_
          refine Ru_iald (pc := 54) dX4_ways_54 rfl (by omega) ?_
          refine Ru_top (hk ((nDp d i0 n) - 1) (by omega)) ?_
          refine Ru_sipush (pc := 55) (nI 255) dX4_ways_55 rfl ?_
          refine Ru_ixorN (pc := 58) dX4_ways_58 ?_
          refine Ru_iast (pc := 59) rfl dX4_ways_59 rfl (by omega) ?_
          refine Ru_goto (pc := 60) 184 dX4_ways_60 (by decide) ?_
          refine Ru_iincN (pc := 184) 1 dX4_ways_184 rfl rfl rfl (by decide) ?_
          refine Ru_goto (pc := 187) 11 dX4_ways_187 (by decide) ?_
          have e1 : nDp d i0 (n + 1) = nDp d i0 n := nDp_n (by omega)
          have e2 : ∀ j, j < nDp d i0 n → j ≠ nDp d i0 n - 1 → nI (nLv d s r i0 (n + 1) j) = nI (nLv d s r i0 n j) := fun j _ hj => by rw [nLv_n (by omega), if_neg hj]
          have e3 : nDp d i0 n - 1 < nDp d i0 n → (nI ((nLv d s r i0 n ((nDp d i0 n) - 1)) ^^^ 255)) = nI (nLv d s r i0 (n + 1) (nDp d i0 n - 1)) := fun _ => by
            rw [nLv_n (by omega), if_pos rfl]
          have hr := ih (cnt - (n + 1)) (by omega) (n + 1) _ rfl (by omega) (by rw [e1]; exact r_upd hk e3 e2) (r_fx.sI rfl fx)
          rw [e1] at hr
          exact Ru_weak hr rfl

theorem c_X4_ways {Q : Rq} {M : Mem} {d : Td} {lw t s r : Nat} (hl : isLaw lw) (hlw0 : X_lw lw d M) (ht8 : t < 8) (hd1 : d (21 + t) = 1) (hs : s < 256) (hr : r < 7) (hok : nOk d t) (k : ∀ M', r_fx [] [48] M M' → Q (some (.int (nI (nFin d s r t)))) GX M') : Ca 1 mt_X4_ways 0 0 [.ref 46, .ref lw, .int (nI t), .int (nI s), .int (nI r)] GX M Q := by
  refine Ca_of rfl (Nat.le_of_ble_eq_true rfl) ?_
  refine Ru_iconst (pc := 0) (nI 0) dX4_ways_0 rfl ?_
  refine Ru_istore (pc := 1) dX4_ways_1 rfl (by decide) ?_
  refine Ru_aload_n (pc := 3) dX4_ways_3 rfl rfl ?_
  refine Ru_getR (pc := 4) (lw + 1) dX4_ways_4 fl_X4_60 (shLaw_0 hl) rfl (rfX_of (o := lw) (j := 1) (shLaw_0 hl) rfl) ?_
  refine Ru_iload_n (pc := 7) dX4_ways_7 rfl rfl ?_
  refine Ru_iald (pc := 8) dX4_ways_8 (shLaw_1 hl) (by omega) ?_
  refine Ru_top (hlw0 t ht8 hd1).1 ?_
  refine Ru_istore (pc := 9) dX4_ways_9 rfl (by decide) ?_
  exact Ru_weak (l_X4_ways (M0 := M) hl hlw0 ht8 hd1 hs hr hok (i0 := d (139 + t)) rfl rfl k (d (147 + t) - d (139 + t)) 0 M rfl (Nat.zero_le _) (fun j hj => by rw [nDp] at hj; omega) r_fx.rf) rfl

theorem l_X4_look {Q : Rq} {M0 : Mem} {mk t lw pl s r : Nat} {d : Td} (hu0 : X_cu mk t lw pl d M0) (hx0 : X_tm t d M0) (hlw0 : X_lw lw d M0) (wf : Wf d) (hwl : Wl d) (hs : s < 256) (hr : r < 7) (hth0 : M0.1 46 0 = nI (d 0)) (k : ∀ M', (∀ k, k < d 0 → M'.1 47 k = nI (nS d s r k)) → M'.1 46 0 = nI (d 0) → M'.1 46 2 = nI (nPl d s r (d 0)) → r_fx [(46, 2)] [47, 48] M0 M' → Q none GX M') : ∀ (zw : Nat) (n : Nat) (M : Mem), d 0 - n = zw → (n ≤ d 0) → (∀ k, k < n → M.1 47 k = nI (nS d s r k)) → (M.1 46 2 = nI (nPl d s r n)) → (r_fx [(46, 2)] [47, 48] M0 M) → Ru 2 mt_X4_look r_z 19 [(4, some (.int (nI n))), (0, some (.ref 46)), (1, some (.ref t)), (2, some (.int (nI s))), (3, some (.int (nI r)))] [] GX M Q := by
  intro zw
  induction zw using Nat.strongRecOn with
  | ind zw ih =>
    intro n M hw hn h47 hpl fx
    subst hw
    have hb := wf.1
    have hu : X_cu mk t lw pl d M := (X_cu_dp mk t lw pl d).kp fx rfl hu0
    have hx : X_tm t d M := (X_tm_dp hu0.1.2.2.2 d).kp fx rfl hx0
    have hl : isLaw lw := hu0.2.1.2.1
    have hlw : X_lw lw d M := (X_lw_dp hl d).kp fx rfl hlw0
    have ht : isTown t := hu0.1.2.2.2
    have hth : M.1 46 0 = nI (d 0) := (fx 46 0 rfl).1.trans hth0
    have hru : ∀ i, i < 8 → (fun i => d (21 + i)) i ≤ 1 := fun i hi => (wf.2.1 i hi).2.2.1
    refine Ru_iload (pc := 19) dX4_look_19 rfl ?_
    refine Ru_aload_n (pc := 21) dX4_look_21 rfl rfl ?_
    refine Ru_getI (pc := 22) dX4_look_22 fl_X4_42 rfl rfl ?_
    refine Ru_top hth ?_
    refine Ru_icmp_geN (pc := 25) 107 dX4_look_25 (by decide) (by omega) (fun h1 => ?_) (fun h1 => ?_)
    · refine Ru_vret (pc := 107) dX4_look_107 rfl ⟨Nat.le_refl _, Nat.le_refl _⟩ ?_
      have en : n = d 0 := by omega
      subst en
      exact k _ h47 hth hpl fx
    · refine Ru_iload_n (pc := 28) dX4_look_28 rfl rfl ?_
      refine Ru_aload_n (pc := 29) dX4_look_29 rfl rfl ?_
      refine Ru_getR (pc := 30) lw dX4_look_30 fl_X4_47 (shTown_0 ht) rfl ((rfX_mut (shTown_0 ht) rfl).trans hu.2.1.1) ?_
      refine Ru_getI (pc := 33) dX4_look_33 fl_X4_51 (shLaw_0 hl) rfl ?_
      refine Ru_top hu.2.1.2.2 ?_
      refine Ru_iandN (pc := 36) dX4_look_36 ?_
      refine Ru_iconst (pc := 37) (nI 1) dX4_look_37 rfl ?_
      refine Ru_iload (pc := 38) dX4_look_38 rfl ?_
      refine Ru_ishl1N (pc := 40) dX4_look_40 (by omega) ?_
      refine Ru_iandN (pc := 41) dX4_look_41 ?_
      refine Ru_if_eqN (pc := 42) 49 dX4_look_42 (by decide) (Nat.lt_of_le_of_lt Nat.and_le_right (Nat.lt_of_le_of_lt (Nat.pow_le_pow_right (n := 2) (by decide) (show n ≤ 8 by omega)) (by decide))) (fun h2 => ?_) (fun h2 => ?_)
      · rw [n_ask (f := fun i => d (21 + i)) hru (by omega)] at h2
        have hask : ¬ (s.testBit n = true ∧ d (21 + n) = 1) := fun z => by
          rw [if_pos z] at h2
          have := Nat.two_pow_pos n
          omega
        have esw : nS d s r n = 0 := if_neg hask
        refine Ru_iconst (pc := 49) (nI 0) dX4_look_49 rfl ?_
        refine Ru_istore (pc := 50) dX4_look_50 rfl (by decide) ?_
        refine Ru_aload_n (pc := 52) dX4_look_52 rfl rfl ?_
        refine Ru_getR (pc := 53) 47 dX4_look_53 fl_X4_9 rfl rfl (rfX_of (o := 46) (j := 1) rfl rfl) ?_
        refine Ru_iload (pc := 56) dX4_look_56 rfl ?_
        refine Ru_iload (pc := 58) dX4_look_58 rfl ?_
        refine Ru_if_eqN (pc := 60) 78 dX4_look_60 (by decide) (by omega) (fun h3 => ?_) (fun h3 => ?_)
        · refine Ru_iconst (pc := 78) (nI 0) dX4_look_78 rfl ?_
          refine Ru_iast (pc := 79) rfl dX4_look_79 rfl (by omega) ?_
          refine Ru_aload_n (pc := 80) dX4_look_80 rfl rfl ?_
          refine Ru_dup (pc := 81) dX4_look_81 rfl ?_
          refine Ru_getI (pc := 82) dX4_look_82 fl_X4_44 rfl rfl ?_
          refine Ru_top ((r_sI_n (by omega)).trans hpl) ?_
          refine Ru_aload_n (pc := 85) dX4_look_85 rfl rfl ?_
          refine Ru_getR (pc := 86) 47 dX4_look_86 fl_X4_9 rfl rfl (rfX_of (o := 46) (j := 1) rfl rfl) ?_
          refine Ru_iload (pc := 89) dX4_look_89 rfl ?_
          refine Ru_iald (pc := 91) dX4_look_91 rfl (by omega) ?_
          refine Ru_top r_sI_s ?_
          refine Ru_iconst (pc := 92) (nI 1) dX4_look_92 rfl ?_
          refine Ru_iandN (pc := 93) dX4_look_93 ?_
          refine Ru_iload (pc := 94) dX4_look_94 rfl ?_
          refine Ru_ishlN (pc := 96) dX4_look_96 ⟨by omega, Nat.lt_of_le_of_lt (Nat.mul_le_mul Nat.and_le_right (Nat.pow_le_pow_right (n := 2) (by decide) (show n ≤ 8 by omega))) (by decide)⟩ ?_
          refine Ru_iorN (pc := 97) dX4_look_97 ?_
          refine Ru_putI (pc := 98) rfl dX4_look_98 fl_X4_44 rfl ?_
          refine Ru_iincN (pc := 101) 1 dX4_look_101 rfl rfl rfl (by decide) ?_
          refine Ru_goto (pc := 104) 19 dX4_look_104 (by decide) ?_
          have epl : nPl d s r (n + 1) = (nPl d s r n ||| (0 &&& 1) * 2 ^ n) := by
            rw [or_bit]
            show (if (nS d s r n).testBit 0 = true then _ else _) = _
            rw [esw]
            rfl
          have h47b : ∀ k, k < n + 1 → (r_sI (r_sI M 47 n (nI 0)) 46 2 (nI (nPl d s r n ||| (0 &&& 1) * 2 ^ n))).1 47 k = nI (nS d s r k) := r_oth (by decide) (r_ext h47 (by rw [esw]))
          exact Ru_weak (ih (d 0 - (n + 1)) (by omega) (n + 1) _ rfl (by omega) h47b (by rw [r_sI_s, epl]) (r_fx.sI rfl (r_fx.sI rfl fx))) rfl
        · exfalso
          omega
      · rw [n_ask (f := fun i => d (21 + i)) hru (by omega)] at h2
        have hask : s.testBit n = true ∧ d (21 + n) = 1 := by
          apply Classical.byContradiction
          intro z
          rw [if_neg z] at h2
          exact h2 rfl
        have esw : nS d s r n = nFin d s r n := if_pos hask
        refine Ru_iconst (pc := 45) (nI 1) dX4_look_45 rfl ?_
        refine Ru_goto (pc := 46) 50 dX4_look_46 (by decide) ?_
        refine Ru_istore (pc := 50) dX4_look_50 rfl (by decide) ?_
        refine Ru_aload_n (pc := 52) dX4_look_52 rfl rfl ?_
        refine Ru_getR (pc := 53) 47 dX4_look_53 fl_X4_9 rfl rfl (rfX_of (o := 46) (j := 1) rfl rfl) ?_
        refine Ru_iload (pc := 56) dX4_look_56 rfl ?_
        refine Ru_iload (pc := 58) dX4_look_58 rfl ?_
        refine Ru_if_eqN (pc := 60) 78 dX4_look_60 (by decide) (by omega) (fun h4 => ?_) (fun h4 => ?_)
        · exfalso
          omega
        · refine Ru_aload_n (pc := 63) dX4_look_63 rfl rfl ?_
          refine Ru_aload_n (pc := 64) dX4_look_64 rfl rfl ?_
          refine Ru_getR (pc := 65) lw dX4_look_65 fl_X4_47 (shTown_0 ht) rfl ((rfX_mut (shTown_0 ht) rfl).trans hu.2.1.1) ?_
          refine Ru_iload (pc := 68) dX4_look_68 rfl ?_
          refine Ru_iload_n (pc := 70) dX4_look_70 rfl rfl ?_
          refine Ru_iload_n (pc := 71) dX4_look_71 rfl rfl ?_
          refine Ru_cv4 (pc := 72) dX4_look_72 mv_X4_56 rfl (by decide) (Nat.le_of_ble_eq_true rfl) (c_X4_ways hl hlw (by omega) hask.2 hs hr (hwl n (by omega) hask.2) (fun M2 fx2 => ?_)) 
          have hpl2 : M2.1 46 2 = nI (nPl d s r n) := (fx2 46 2 rfl).1.trans hpl
          have fx3 := fx.tr (fx2.mono (F' := [(46, 2)]) (A' := [47, 48]) rfl)
          refine Ru_goto (pc := 75) 79 dX4_look_75 (by decide) ?_
          refine Ru_iast (pc := 79) rfl dX4_look_79 rfl (by omega) ?_
          refine Ru_aload_n (pc := 80) dX4_look_80 rfl rfl ?_
          refine Ru_dup (pc := 81) dX4_look_81 rfl ?_
          refine Ru_getI (pc := 82) dX4_look_82 fl_X4_44 rfl rfl ?_
          refine Ru_top ((r_sI_n (by omega)).trans hpl2) ?_
          refine Ru_aload_n (pc := 85) dX4_look_85 rfl rfl ?_
          refine Ru_getR (pc := 86) 47 dX4_look_86 fl_X4_9 rfl rfl (rfX_of (o := 46) (j := 1) rfl rfl) ?_
          refine Ru_iload (pc := 89) dX4_look_89 rfl ?_
          refine Ru_iald (pc := 91) dX4_look_91 rfl (by omega) ?_
          refine Ru_top r_sI_s ?_
          refine Ru_iconst (pc := 92) (nI 1) dX4_look_92 rfl ?_
          refine Ru_iandN (pc := 93) dX4_look_93 ?_
          refine Ru_iload (pc := 94) dX4_look_94 rfl ?_
          refine Ru_ishlN (pc := 96) dX4_look_96 ⟨by omega, Nat.lt_of_le_of_lt (Nat.mul_le_mul Nat.and_le_right (Nat.pow_le_pow_right (n := 2) (by decide) (show n ≤ 8 by omega))) (by decide)⟩ ?_
          refine Ru_iorN (pc := 97) dX4_look_97 ?_
          refine Ru_putI (pc := 98) rfl dX4_look_98 fl_X4_44 rfl ?_
          refine Ru_iincN (pc := 101) 1 dX4_look_101 rfl rfl rfl (by decide) ?_
          refine Ru_goto (pc := 104) 19 dX4_look_104 (by decide) ?_
          have epl : nPl d s r (n + 1) = (nPl d s r n ||| ((nFin d s r n) &&& 1) * 2 ^ n) := by
            rw [or_bit]
            show (if (nS d s r n).testBit 0 = true then _ else _) = _
            rw [esw]
            rfl
          have h47b : ∀ k, k < n + 1 → (r_sI (r_sI M2 47 n (nI (nFin d s r n))) 46 2 (nI (nPl d s r n ||| ((nFin d s r n) &&& 1) * 2 ^ n))).1 47 k = nI (nS d s r k) := r_oth (by decide) (r_ext (fun j hj => (fx2 47 j rfl).1.trans (h47 j hj)) (by rw [esw]))
          exact Ru_weak (ih (d 0 - (n + 1)) (by omega) (n + 1) _ rfl (by omega) h47b (by rw [r_sI_s, epl]) (r_fx.sI rfl (r_fx.sI rfl fx3))) rfl

theorem c_X4_look {Q : Rq} {M : Mem} {mk t lw pl s r : Nat} {d : Td} (hu0 : X_cu mk t lw pl d M) (hx0 : X_tm t d M) (hlw0 : X_lw lw d M) (wf : Wf d) (hwl : Wl d) (hs : s < 256) (hr : r < 7) (k : ∀ M', (∀ k, k < d 0 → M'.1 47 k = nI (nS d s r k)) → M'.1 46 0 = nI (d 0) → M'.1 46 2 = nI (nPl d s r (d 0)) → r_fx [(46, 0), (46, 2)] [47, 48] M M' → Q none GX M') : Ca 2 mt_X4_look 0 0 [.ref 46, .ref t, .int (nI s), .int (nI r)] GX M Q := by
  refine Ca_of rfl (Nat.le_of_ble_eq_true rfl) ?_
  refine Ru_aload_n (pc := 0) dX4_look_0 rfl rfl ?_
  refine Ru_aload_n (pc := 1) dX4_look_1 rfl rfl ?_
  refine Ru_getR (pc := 2) (t + 1) dX4_look_2 fl_X4_30 (shTown_0 hu0.1.2.2.2) rfl (rfX_of (o := t) (j := 1) (shTown_0 hu0.1.2.2.2) rfl) ?_
  refine Ru_getI (pc := 5) dX4_look_5 fl_X4_36 (shNames_0 (isNames_t hu0.1.2.2.2).1) rfl ?_
  refine Ru_top hx0.1.1 ?_
  refine Ru_putI (pc := 8) rfl dX4_look_8 fl_X4_42 rfl ?_
  refine Ru_aload_n (pc := 11) dX4_look_11 rfl rfl ?_
  refine Ru_iconst (pc := 12) (nI 0) dX4_look_12 rfl ?_
  refine Ru_putI (pc := 13) rfl dX4_look_13 fl_X4_44 rfl ?_
  refine Ru_iconst (pc := 16) (nI 0) dX4_look_16 rfl ?_
  refine Ru_istore (pc := 17) dX4_look_17 rfl (by decide) ?_
  have fx0 : r_fx [(46, 0), (46, 2)] [47, 48] M (r_sI (r_sI M 46 0 (nI (d 0))) 46 2 (nI 0)) := (r_fx.sI rfl (r_fx.sI rfl r_fx.rf))
  have hu1 := (X_cu_dp mk t lw pl d).kp fx0 rfl hu0
  have hx1 := (X_tm_dp hu0.1.2.2.2 d).kp fx0 rfl hx0
  have hl1 := (X_lw_dp hu0.2.1.2.1 d).kp fx0 rfl hlw0
  exact Ru_weak (l_X4_look hu1 hx1 hl1 wf hwl hs hr ((r_sI_n (by decide)).trans r_sI_s) (fun M2 g1 g2 g3 gx => k M2 g1 g2 g3 (fx0.tr (gx.mono rfl))) (d 0) 0 _ rfl (Nat.zero_le _) (fun k hk => by omega) r_sI_s r_fx.rf) rfl
