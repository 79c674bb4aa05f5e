-- WHAT STAYS: the reference
section CV8
variable {d : Nat} {mt : Mt} {pc : Nat} {L : Ls} {G : Wd} {M : Mem} {Q : Rq} {rest : List Value}
theorem Ru_cv8 {d' idx ci N o : Nat} {mt' : Mt} {v1 v2 v3 v4 v5 v6 v7 v8 : Value} (hd : decode mt.2.1 pc = .ok (.invokevirtual idx, 3)) (hm : r_mv mt.1.cls idx mt' 8 ci N) (hs : G.1[o]? = some (ci, N)) (hdd : d' + 1 ≤ d) (hw : (rest.map fun v => v.category).sum ≤ 8) (kk : Ca d' mt' 0 0 [.ref o, v1, v2, v3, v4, v5, v6, v7, v8] G M (fun r G' M' => Ru d mt r_z (pc + 3) L (r_push r rest) G' M' Q)) : Ru d mt r_z pc L (v8 :: v7 :: v6 :: v5 :: v4 :: v3 :: v2 :: v1 :: .ref o :: rest) G M Q :=
  Ru_callV (a := r_z) (As := [v1, v2, v3, v4, v5, v6, v7, v8]) (rest := rest) hd hm hs hdd rfl rfl hw ⟨Nat.le_refl _, Nat.le_refl _⟩ (by simp only [r_push_eq]; exact kk)
end CV8
theorem nLv_p {d : Td} {s r i0 n : Nat} (h : d (155 + 2 * (i0 + n)) < 7) (j : Nat) : nLv d s r i0 (n + 1) j = if j = nDp d i0 n then nCw (d (155 + 2 * (i0 + n))) (d (155 + 2 * (i0 + n) + 1)) s r else nLv d s r i0 n j := by
  show (if _ then _ else _) = _
  rw [if_pos h]
theorem nLv_n {d : Td} {s r i0 n : Nat} (h : d (155 + 2 * (i0 + n)) = 7) (j : Nat) : nLv d s r i0 (n + 1) j = if j = nDp d i0 n - 1 then nLv d s r i0 n j ^^^ 255 else nLv d s r i0 n j := by
  show (if _ then _ else _) = _
  rw [if_neg (by omega), if_pos h]
theorem nLv_b {d : Td} {s r i0 n : Nat} (h : 8 ≤ d (155 + 2 * (i0 + n))) (j : Nat) : nLv d s r i0 (n + 1) j = if j = nDp d i0 n - 2 then (if d (155 + 2 * (i0 + n)) = 8 then nLv d s r i0 n j &&& nLv d s r i0 n (j + 1) else nLv d s r i0 n j ||| nLv d s r i0 n (j + 1)) else nLv d s r i0 n j := by
  show (if _ then _ else _) = _
  rw [if_neg (by omega), if_neg (by omega)]
theorem nDp_p {d : Td} {i0 n : Nat} (h : d (155 + 2 * (i0 + n)) < 7) : nDp d i0 (n + 1) = nDp d i0 n + 1 := by
  rw [nDp, if_pos h]
theorem nDp_n {d : Td} {i0 n : Nat} (h : d (155 + 2 * (i0 + n)) = 7) : nDp d i0 (n + 1) = nDp d i0 n := by
  rw [nDp, if_neg (by omega), if_pos h]
theorem nDp_v {d : Td} {i0 n : Nat} (h : 8 ≤ d (155 + 2 * (i0 + n))) : nDp d i0 (n + 1) = nDp d i0 n - 1 := by
  rw [nDp, if_neg (by omega), if_neg (by omega)]

theorem c_X12_isSo {Q : Rq} {M : Mem} {st a s t w h v y : Nat} (hst : st ≤ 6) (ha : st = 3 → a < 8) (hs : s < 256) (ht : t < 8) (hw : w ≤ 8 ∧ h ≤ 8 ∧ v ≤ 8) (hy : y < 2000) (ha2 : 4 ≤ st → a < 1000) (k : Q (some (.int (r_b ((nCw st a s (y % 7)).testBit (nWy t w h v))))) GY M) : Ca 1 mt_X12_isSo 0 0 [.ref 0, .int (nI st), .int (nI a), .int (nI s), .int (nI t), .int (nM w), .int (nM h), .int (nM v), .int (nI y)] GY M Q := by
  refine Ca_of rfl (Nat.le_of_ble_eq_true rfl) ?_
  have zw := nM_t (show w < 2147483648 by omega)
  have zh := nM_t (show h < 2147483648 by omega)
  have zv := nM_t (show v < 2147483648 by omega)
  refine Ru_iload_n (pc := 0) dX12_isSo_0 rfl rfl ?_
  by_cases hs1 : st = 0
  · refine Ru_tableIn (pc := 1) 40 dX12_isSo_1 (by rw [r_tn (by omega)]; omega) (by rw [r_tn (by omega)]; omega) (by rw [hs1]; rfl) (by decide) ?_
    refine Ru_iload (pc := 40) dX12_isSo_40 rfl ?_
    refine Ru_iload (pc := 42) dX12_isSo_42 rfl ?_
    refine Ru_icmp_neL (pc := 44) 51 dX12_isSo_44 (by decide) (by omega) (fun h2 => ?_) (fun h2 => ?_)
    · refine Ru_iconst (pc := 51) (nI 0) dX12_isSo_51 rfl ?_
      refine Ru_zret (pc := 52) dX12_isSo_52 rfl ⟨Nat.le_refl _, Nat.le_refl _⟩ (Or.inl rfl) ?_
      rw [nIs, if_pos (by omega)] at k
      refine r_qe (r_b_f (decide_eq_false (by omega))) k
    · refine Ru_iconst (pc := 47) (nI 1) dX12_isSo_47 rfl ?_
      refine Ru_goto (pc := 48) 52 dX12_isSo_48 (by decide) ?_
      refine Ru_zret (pc := 52) dX12_isSo_52 rfl ⟨Nat.le_refl _, Nat.le_refl _⟩ (Or.inr rfl) ?_
      rw [nIs, if_pos (by omega)] at k
      refine r_qe (r_b_t (decide_eq_true (by omega))) k
  by_cases hs3 : st = 1
  · refine Ru_tableIn (pc := 1) 53 dX12_isSo_1 (by rw [r_tn (by omega)]; omega) (by rw [r_tn (by omega)]; omega) (by rw [hs3]; rfl) (by decide) ?_
    refine Ru_iload (pc := 53) dX12_isSo_53 rfl ?_
    refine Ru_iload (pc := 55) dX12_isSo_55 rfl ?_
    refine Ru_icmp_neL (pc := 57) 64 dX12_isSo_57 (by decide) (by omega) (fun h4 => ?_) (fun h4 => ?_)
    · refine Ru_iconst (pc := 64) (nI 0) dX12_isSo_64 rfl ?_
      refine Ru_zret (pc := 65) dX12_isSo_65 rfl ⟨Nat.le_refl _, Nat.le_refl _⟩ (Or.inl rfl) ?_
      rw [nIs, if_neg (by omega), if_pos (by omega)] at k
      refine r_qe (r_b_f (decide_eq_false (by omega))) k
    · refine Ru_iconst (pc := 60) (nI 1) dX12_isSo_60 rfl ?_
      refine Ru_goto (pc := 61) 65 dX12_isSo_61 (by decide) ?_
      refine Ru_zret (pc := 65) dX12_isSo_65 rfl ⟨Nat.le_refl _, Nat.le_refl _⟩ (Or.inr rfl) ?_
      rw [nIs, if_neg (by omega), if_pos (by omega)] at k
      refine r_qe (r_b_t (decide_eq_true (by omega))) k
  by_cases hs5 : st = 2
  · refine Ru_tableIn (pc := 1) 66 dX12_isSo_1 (by rw [r_tn (by omega)]; omega) (by rw [r_tn (by omega)]; omega) (by rw [hs5]; rfl) (by decide) ?_
    refine Ru_iload (pc := 66) dX12_isSo_66 rfl ?_
    refine Ru_iload (pc := 68) dX12_isSo_68 rfl ?_
    refine Ru_icmp_neL (pc := 70) 77 dX12_isSo_70 (by decide) (by omega) (fun h6 => ?_) (fun h6 => ?_)
    · refine Ru_iconst (pc := 77) (nI 0) dX12_isSo_77 rfl ?_
      refine Ru_zret (pc := 78) dX12_isSo_78 rfl ⟨Nat.le_refl _, Nat.le_refl _⟩ (Or.inl rfl) ?_
      rw [nIs, if_neg (by omega), if_neg (by omega), if_pos (by omega)] at k
      refine r_qe (r_b_f (decide_eq_false (by omega))) k
    · refine Ru_iconst (pc := 73) (nI 1) dX12_isSo_73 rfl ?_
      refine Ru_goto (pc := 74) 78 dX12_isSo_74 (by decide) ?_
      refine Ru_zret (pc := 78) dX12_isSo_78 rfl ⟨Nat.le_refl _, Nat.le_refl _⟩ (Or.inr rfl) ?_
      rw [nIs, if_neg (by omega), if_neg (by omega), if_pos (by omega)] at k
      refine r_qe (r_b_t (decide_eq_true (by omega))) k
  by_cases hs7 : st = 3
  · refine Ru_tableIn (pc := 1) 79 dX12_isSo_1 (by rw [r_tn (by omega)]; omega) (by rw [r_tn (by omega)]; omega) (by rw [hs7]; rfl) (by decide) ?_
    refine Ru_iload_n (pc := 79) dX12_isSo_79 rfl rfl ?_
    refine Ru_iload_n (pc := 80) dX12_isSo_80 rfl rfl ?_
    refine Ru_cs2 (pc := 81) dX12_isSo_81 ms_X12_372 (by decide) (Nat.le_of_ble_eq_true rfl) (c_X12_has (by omega) (by omega) ?_) 
    refine Ru_zret (pc := 84) dX12_isSo_84 rfl ⟨Nat.le_refl _, Nat.le_refl _⟩ (r_b_01 _) ?_
    rw [nIs, if_neg (by omega), if_neg (by omega), if_neg (by omega), if_pos (by omega)] at k
    exact k
  by_cases hs8 : st = 4
  · refine Ru_tableIn (pc := 1) 85 dX12_isSo_1 (by rw [r_tn (by omega)]; omega) (by rw [r_tn (by omega)]; omega) (by rw [hs8]; rfl) (by decide) ?_
    refine Ru_iload (pc := 85) dX12_isSo_85 rfl ?_
    refine Ru_bipush (pc := 87) (nI 7) dX12_isSo_87 rfl ?_
    refine Ru_iremN (pc := 89) dX12_isSo_89 (by omega) ?_
    refine Ru_iload_n (pc := 90) dX12_isSo_90 rfl rfl ?_
    refine Ru_icmp_geN (pc := 91) 98 dX12_isSo_91 (by decide) (by omega) (fun h9 => ?_) (fun h9 => ?_)
    · refine Ru_iconst (pc := 98) (nI 0) dX12_isSo_98 rfl ?_
      refine Ru_zret (pc := 99) dX12_isSo_99 rfl ⟨Nat.le_refl _, Nat.le_refl _⟩ (Or.inl rfl) ?_
      rw [nIs, if_neg (by omega), if_neg (by omega), if_neg (by omega), if_neg (by omega), if_pos (by omega)] at k
      refine r_qe (r_b_f (decide_eq_false (by omega))) k
    · refine Ru_iconst (pc := 94) (nI 1) dX12_isSo_94 rfl ?_
      refine Ru_goto (pc := 95) 99 dX12_isSo_95 (by decide) ?_
      refine Ru_zret (pc := 99) dX12_isSo_99 rfl ⟨Nat.le_refl _, Nat.le_refl _⟩ (Or.inr rfl) ?_
      rw [nIs, if_neg (by omega), if_neg (by omega), if_neg (by omega), if_neg (by omega), if_pos (by omega)] at k
      refine r_qe (r_b_t (decide_eq_true (by omega))) k
  by_cases hs10 : st = 5
  · refine Ru_tableIn (pc := 1) 100 dX12_isSo_1 (by rw [r_tn (by omega)]; omega) (by rw [r_tn (by omega)]; omega) (by rw [hs10]; rfl) (by decide) ?_
    refine Ru_iload (pc := 100) dX12_isSo_100 rfl ?_
    refine Ru_bipush (pc := 102) (nI 7) dX12_isSo_102 rfl ?_
    refine Ru_iremN (pc := 104) dX12_isSo_104 (by omega) ?_
    refine Ru_iload_n (pc := 105) dX12_isSo_105 rfl rfl ?_
    refine Ru_icmp_leN (pc := 106) 113 dX12_isSo_106 (by decide) (by omega) (fun h11 => ?_) (fun h11 => ?_)
    · refine Ru_iconst (pc := 113) (nI 0) dX12_isSo_113 rfl ?_
      refine Ru_zret (pc := 114) dX12_isSo_114 rfl ⟨Nat.le_refl _, Nat.le_refl _⟩ (Or.inl rfl) ?_
      rw [nIs, if_neg (by omega), if_neg (by omega), if_neg (by omega), if_neg (by omega), if_neg (by omega), if_pos (by omega)] at k
      refine r_qe (r_b_f (decide_eq_false (by omega))) k
    · refine Ru_iconst (pc := 109) (nI 1) dX12_isSo_109 rfl ?_
      refine Ru_goto (pc := 110) 114 dX12_isSo_110 (by decide) ?_
      refine Ru_zret (pc := 114) dX12_isSo_114 rfl ⟨Nat.le_refl _, Nat.le_refl _⟩ (Or.inr rfl) ?_
      rw [nIs, if_neg (by omega), if_neg (by omega), if_neg (by omega), if_neg (by omega), if_neg (by omega), if_pos (by omega)] at k
      refine r_qe (r_b_t (decide_eq_true (by omega))) k
  refine Ru_tableOut (pc := 1) 115 dX12_isSo_1 (by rw [r_tn (by omega)]; omega) (by decide) ?_
  refine Ru_iload (pc := 115) dX12_isSo_115 rfl ?_
  refine Ru_bipush (pc := 117) (nI 7) dX12_isSo_117 rfl ?_
  refine Ru_iremN (pc := 119) dX12_isSo_119 (by omega) ?_
  refine Ru_iload_n (pc := 120) dX12_isSo_120 rfl rfl ?_
  refine Ru_icmp_neN (pc := 121) 128 dX12_isSo_121 (by decide) (by omega) (fun h12 => ?_) (fun h12 => ?_)
  · refine Ru_iconst (pc := 128) (nI 0) dX12_isSo_128 rfl ?_
    refine Ru_zret (pc := 129) dX12_isSo_129 rfl ⟨Nat.le_refl _, Nat.le_refl _⟩ (Or.inl rfl) ?_
    rw [nIs, if_neg (by omega), if_neg (by omega), if_neg (by omega), if_neg (by omega), if_neg (by omega), if_neg (by omega)] at k
    refine r_qe (r_b_f (decide_eq_false (by omega))) k
  · refine Ru_iconst (pc := 124) (nI 1) dX12_isSo_124 rfl ?_
    refine Ru_goto (pc := 125) 129 dX12_isSo_125 (by decide) ?_
    refine Ru_zret (pc := 129) dX12_isSo_129 rfl ⟨Nat.le_refl _, Nat.le_refl _⟩ (Or.inr rfl) ?_
    rw [nIs, if_neg (by omega), if_neg (by omega), if_neg (by omega), if_neg (by omega), if_neg (by omega), if_neg (by omega)] at k
    refine r_qe (r_b_t (decide_eq_true (by omega))) k

theorem l_X12_stays {Q : Rq} {M0 : Mem} {d : Td} {s t w h v y : Nat} (hc0 : ∀ k, k < 521 → M0.1 5 k = nI (d k)) (wf : Wf d) (hs : s < 256) (ht : t < 8) (hcd : w ≤ 8 ∧ h ≤ 8 ∧ v ≤ 8) (hy : y < 2000) {i0 cnt : Nat} (ei : i0 = d (139 + t)) (ecnt : cnt = d (147 + t) - d (139 + t)) (hok : nOk d t) (hst2 : ∀ n, n < cnt → d (155 + 2 * (i0 + n)) ≤ 9) (k : ∀ M', r_fx [] [7] M0 M' → Q (some (.int (r_b ((nFin d s (y % 7) t).testBit (nWy t w h v))))) GY M') : ∀ (zw : Nat) (n : Nat) (M : Mem), cnt - n = zw → (n ≤ cnt) → (∀ j, j < nDp d i0 n → M.1 7 j = r_b ((nLv d s (y % 7) i0 n j).testBit (nWy t w h v))) → (r_fx [] [7] M0 M) → Ru 2 mt_X12_stays r_z 42 [(7, some (.int (nI (nDp d i0 n)))), (8, some (.int (nI (i0 + n)))), (0, some (.ref 0)), (1, some (.int (nI t))), (2, some (.int (nI s))), (3, some (.int (nM w))), (4, some (.int (nM h))), (5, some (.int (nM v))), (6, some (.int (nI y)))] [] GY M Q := by
  intro zw
  induction zw using Nat.strongRecOn with
  | ind zw ih =>
    intro n M hw hn hk fx
    subst hw
    have hb := wf.1
    have hc : ∀ k, k < 521 → M.1 5 k = nI (d k) := fun k hk => (fx 5 k rfl).1.trans (hc0 k hk)
    have ho1 := hok.1
    have ho2 := hok.2.1
    refine Ru_iload (pc := 42) dX12_stays_42 rfl ?_
    refine Ru_aload_n (pc := 44) dX12_stays_44 rfl rfl ?_
    refine Ru_getR (pc := 45) 5 dX12_stays_45 fl_X12_35 rfl rfl rfl ?_
    refine Ru_sipush (pc := 48) (nI 147) dX12_stays_48 rfl ?_
    refine Ru_iload_n (pc := 51) dX12_stays_51 rfl rfl ?_
    refine Ru_iaddN (pc := 52) dX12_stays_52 ?_
    refine Ru_iald (pc := 53) dX12_stays_53 rfl (by omega) ?_
    refine Ru_top (hc (147 + t) (by omega)) ?_
    refine Ru_icmp_geN (pc := 54) 240 dX12_stays_54 (by decide) (by omega) (fun h1 => ?_) (fun h1 => ?_)
    · have hdp : 1 ≤ nDp d i0 n := ei ▸ (nDp_b hok n (by omega)).2 (by omega)
      refine Ru_aload_n (pc := 240) dX12_stays_240 rfl rfl ?_
      refine Ru_getR (pc := 241) 7 dX12_stays_241 fl_X12_41 rfl rfl rfl ?_
      refine Ru_iconst (pc := 244) (nI 0) dX12_stays_244 rfl ?_
      refine Ru_zald (pc := 245) dX12_stays_245 rfl (by omega) ?_
      refine Ru_top (hk 0 (by omega)) ?_
      refine Ru_zret (pc := 246) dX12_stays_246 rfl ⟨Nat.le_refl _, Nat.le_refl _⟩ (r_b_01 _) ?_
      have en : n = cnt := by omega
      have e9 : nFin d s (y % 7) t = nLv d s (y % 7) i0 n 0 := by
        rw [en, ecnt, ei]
        rfl
      rw [e9] at k
      exact k _ fx
    · have h3 := hok.2.2 n (by omega)
      rw [← ei] at h3
      have hdb : nDp d i0 n ≤ 13 := ei ▸ (nDp_b hok n (by omega)).1
      have hd1 := hst2 n (by omega)
      refine Ru_aload_n (pc := 57) dX12_stays_57 rfl rfl ?_
      refine Ru_getR (pc := 58) 5 dX12_stays_58 fl_X12_35 rfl rfl rfl ?_
      refine Ru_sipush (pc := 61) (nI 155) dX12_stays_61 rfl ?_
      refine Ru_iconst (pc := 64) (nI 2) dX12_stays_64 rfl ?_
      refine Ru_iload (pc := 65) dX12_stays_65 rfl ?_
      refine Ru_imulN (pc := 67) dX12_stays_67 ?_
      refine Ru_iaddN (pc := 68) dX12_stays_68 ?_
      refine Ru_iald (pc := 69) dX12_stays_69 rfl (by omega) ?_
      refine Ru_top (hc (155 + (2 * (i0 + n))) (by omega)) ?_
      refine Ru_istore (pc := 70) dX12_stays_70 rfl (by decide) ?_
      refine Ru_iload (pc := 72) dX12_stays_72 rfl ?_
      refine Ru_bipush (pc := 74) (nI 7) dX12_stays_74 rfl ?_
      refine Ru_icmp_geN (pc := 76) 122 dX12_stays_76 (by decide) (by omega) (fun h2 => ?_) (fun h2 => ?_)
      · refine Ru_iload (pc := 122) dX12_stays_122 rfl ?_
        refine Ru_bipush (pc := 124) (nI 7) dX12_stays_124 rfl ?_
        refine Ru_icmp_neN (pc := 126) 158 dX12_stays_126 (by decide) (by omega) (fun h3 => ?_) (fun h3 => ?_)
        · obtain ⟨q, hq⟩ : ∃ q, nDp d i0 n = q + 2 := ⟨nDp d i0 n - 2, by omega⟩
          refine Ru_weak (L' := (7, some (.int (nI ((q + 1) + 1)))) :: [(8, some (.int (nI (i0 + n)))), (0, some (.ref 0)), (1, some (.int (nI t))), (2, some (.int (nI s))), (3, some (.int (nM w))), (4, some (.int (nM h))), (5, some (.int (nM v))), (6, some (.int (nI y))), (9, some (.int (nI (d (155 + (2 * (i0 + n)))))))]) ?_ (by simp [hq, r_lget])
          refine Ru_iincD (pc := 158) dX12_stays_158 rfl rfl rfl (by decide) ?_
          refine Ru_aload_n (pc := 161) dX12_stays_161 rfl rfl ?_
          refine Ru_getR (pc := 162) 7 dX12_stays_162 fl_X12_41 rfl rfl rfl ?_
          refine Ru_iload (pc := 165) dX12_stays_165 rfl ?_
          refine Ru_iconst (pc := 167) (nI 1) dX12_stays_167 rfl ?_
          refine Ru_isubN (pc := 168) dX12_stays_168 (by omega) ?_
          refine Ru_top (show nI ((q + 1) - 1) = nI q from rfl) ?_
          refine Ru_iload (pc := 169) dX12_stays_169 rfl ?_
          refine Ru_bipush (pc := 171) (nI 8) dX12_stays_171 rfl ?_
          refine Ru_icmp_neN (pc := 173) 206 dX12_stays_173 (by decide) (by omega) (fun h4 => ?_) (fun h4 => ?_)
          · refine Ru_aload_n (pc := 206) dX12_stays_206 rfl rfl ?_
            refine Ru_getR (pc := 207) 7 dX12_stays_207 fl_X12_41 rfl rfl rfl ?_
            refine Ru_iload (pc := 210) dX12_stays_210 rfl ?_
            refine Ru_iconst (pc := 212) (nI 1) dX12_stays_212 rfl ?_
            refine Ru_isubN (pc := 213) dX12_stays_213 (by omega) ?_
            refine Ru_top (show nI ((q + 1) - 1) = nI q from rfl) ?_
            refine Ru_zald (pc := 214) dX12_stays_214 rfl (by omega) ?_
            refine Ru_top (hk q (by omega)) ?_
            refine Ru_if_neB (pc := 215) 228 dX12_stays_215 (by decide) (fun h5 => ?_) (fun h5 => ?_)
            · refine Ru_iconst (pc := 228) (nI 1) dX12_stays_228 rfl ?_
              refine Ru_goto (pc := 229) 233 dX12_stays_229 (by decide) ?_
              refine Ru_zast (pc := 233) rfl dX12_stays_233 rfl (by omega) (Or.inr rfl) ?_
              refine Ru_iincN (pc := 234) 1 dX12_stays_234 rfl rfl rfl (by decide) ?_
              refine Ru_goto (pc := 237) 42 dX12_stays_237 (by decide) ?_
              have e1 : nDp d i0 (n + 1) = q + 1 := by rw [nDp_v (by omega), hq]; rfl
              have e2 : ∀ j, j < q + 1 → j ≠ q → r_b ((nLv d s (y % 7) i0 (n + 1) j).testBit (nWy t w h v)) = r_b ((nLv d s (y % 7) i0 n j).testBit (nWy t w h v)) := fun j _ hj => by rw [nLv_b (by omega), if_neg (by omega)]
              have e3 : q < q + 1 → (nI 1) = r_b ((nLv d s (y % 7) i0 (n + 1) q).testBit (nWy t w h v)) := fun _ => by
                rw [nLv_b (by omega), if_pos (by omega), if_neg (by omega), Nat.testBit_or]
                refine r_b_t ?_
                simp_all
              have hr := ih (cnt - (n + 1)) (by omega) (n + 1) _ rfl (by omega) (by rw [e1]; exact r_upd (fun j hj => hk j (by omega)) e3 e2) (r_fx.sI rfl fx)
              rw [e1] at hr
              exact Ru_weak hr rfl
            · refine Ru_aload_n (pc := 218) dX12_stays_218 rfl rfl ?_
              refine Ru_getR (pc := 219) 7 dX12_stays_219 fl_X12_41 rfl rfl rfl ?_
              refine Ru_iload (pc := 222) dX12_stays_222 rfl ?_
              refine Ru_zald (pc := 224) dX12_stays_224 rfl (by omega) ?_
              refine Ru_top (hk (q + 1) (by omega)) ?_
              refine Ru_if_eqB (pc := 225) 232 dX12_stays_225 (by decide) (fun h6 => ?_) (fun h6 => ?_)
              · refine Ru_iconst (pc := 232) (nI 0) dX12_stays_232 rfl ?_
                refine Ru_zast (pc := 233) rfl dX12_stays_233 rfl (by omega) (Or.inl rfl) ?_
                refine Ru_iincN (pc := 234) 1 dX12_stays_234 rfl rfl rfl (by decide) ?_
                refine Ru_goto (pc := 237) 42 dX12_stays_237 (by decide) ?_
                have e1 : nDp d i0 (n + 1) = q + 1 := by rw [nDp_v (by omega), hq]; rfl
                have e2 : ∀ j, j < q + 1 → j ≠ q → r_b ((nLv d s (y % 7) i0 (n + 1) j).testBit (nWy t w h v)) = r_b ((nLv d s (y % 7) i0 n j).testBit (nWy t w h v)) := fun j _ hj => by rw [nLv_b (by omega), if_neg (by omega)]
                have e3 : q < q + 1 → (nI 0) = r_b ((nLv d s (y % 7) i0 (n + 1) q).testBit (nWy t w h v)) := fun _ => by
                  rw [nLv_b (by omega), if_pos (by omega), if_neg (by omega), Nat.testBit_or]
                  refine r_b_f ?_
                  simp_all
                have hr := ih (cnt - (n + 1)) (by omega) (n + 1) _ rfl (by omega) (by rw [e1]; exact r_upd (fun j hj => hk j (by omega)) e3 e2) (r_fx.sI rfl fx)
                rw [e1] at hr
                exact Ru_weak hr rfl
              · refine Ru_iconst (pc := 228) (nI 1) dX12_stays_228 rfl ?_
                refine Ru_goto (pc := 229) 233 dX12_stays_229 (by decide) ?_
                refine Ru_zast (pc := 233) rfl dX12_stays_233 rfl (by omega) (Or.inr rfl) ?_
                refine Ru_iincN (pc := 234) 1 dX12_stays_234 rfl rfl rfl (by decide) ?_
                refine Ru_goto (pc := 237) 42 dX12_stays_237 (by decide) ?_
                have e1 : nDp d i0 (n + 1) = q + 1 := by rw [nDp_v (by omega), hq]; rfl
                have e2 : ∀ j, j < q + 1 → j ≠ q → r_b ((nLv d s (y % 7) i0 (n + 1) j).testBit (nWy t w h v)) = r_b ((nLv d s (y % 7) i0 n j).testBit (nWy t w h v)) := fun j _ hj => by rw [nLv_b (by omega), if_neg (by omega)]
                have e3 : q < q + 1 → (nI 1) = r_b ((nLv d s (y % 7) i0 (n + 1) q).testBit (nWy t w h v)) := fun _ => by
                  rw [nLv_b (by omega), if_pos (by omega), if_neg (by omega), Nat.testBit_or]
                  refine r_b_t ?_
                  simp_all
                have hr := ih (cnt - (n + 1)) (by omega) (n + 1) _ rfl (by omega) (by rw [e1]; exact r_upd (fun j hj => hk j (by omega)) e3 e2) (r_fx.sI rfl fx)
                rw [e1] at hr
                exact Ru_weak hr rfl
          · refine Ru_aload_n (pc := 176) dX12_stays_176 rfl rfl ?_
            refine Ru_getR (pc := 177) 7 dX12_stays_177 fl_X12_41 rfl rfl rfl ?_
            refine Ru_iload (pc := 180) dX12_stays_180 rfl ?_
            refine Ru_iconst (pc := 182) (nI 1) dX12_stays_182 rfl ?_
            refine Ru_isubN (pc := 183) dX12_stays_183 (by omega) ?_
            refine Ru_top (show nI ((q + 1) - 1) = nI q from rfl) ?_
            refine Ru_zald (pc := 184) dX12_stays_184 rfl (by omega) ?_
            refine Ru_top (hk q (by omega)) ?_
            refine Ru_if_eqB (pc := 185) 202 dX12_stays_185 (by decide) (fun h7 => ?_) (fun h7 => ?_)
            · refine Ru_iconst (pc := 202) (nI 0) dX12_stays_202 rfl ?_
              refine Ru_goto (pc := 203) 233 dX12_stays_203 (by decide) ?_
              refine Ru_zast (pc := 233) rfl dX12_stays_233 rfl (by omega) (Or.inl rfl) ?_
              refine Ru_iincN (pc := 234) 1 dX12_stays_234 rfl rfl rfl (by decide) ?_
              refine Ru_goto (pc := 237) 42 dX12_stays_237 (by decide) ?_
              have e1 : nDp d i0 (n + 1) = q + 1 := by rw [nDp_v (by omega), hq]; rfl
              have e2 : ∀ j, j < q + 1 → j ≠ q → r_b ((nLv d s (y % 7) i0 (n + 1) j).testBit (nWy t w h v)) = r_b ((nLv d s (y % 7) i0 n j).testBit (nWy t w h v)) := fun j _ hj => by rw [nLv_b (by omega), if_neg (by omega)]
              have e3 : q < q + 1 → (nI 0) = r_b ((nLv d s (y % 7) i0 (n + 1) q).testBit (nWy t w h v)) := fun _ => by
                rw [nLv_b (by omega), if_pos (by omega), if_pos (by omega), Nat.testBit_and]
                refine r_b_f ?_
                simp_all
              have hr := ih (cnt - (n + 1)) (by omega) (n + 1) _ rfl (by omega) (by rw [e1]; exact r_upd (fun j hj => hk j (by omega)) e3 e2) (r_fx.sI rfl fx)
              rw [e1] at hr
              exact Ru_weak hr rfl
            · refine Ru_aload_n (pc := 188) dX12_stays_188 rfl rfl ?_
              refine Ru_getR (pc := 189) 7 dX12_stays_189 fl_X12_41 rfl rfl rfl ?_
              refine Ru_iload (pc := 192) dX12_stays_192 rfl ?_
              refine Ru_zald (pc := 194) dX12_stays_194 rfl (by omega) ?_
              refine Ru_top (hk (q + 1) (by omega)) ?_
              refine Ru_if_eqB (pc := 195) 202 dX12_stays_195 (by decide) (fun h8 => ?_) (fun h8 => ?_)
              · refine Ru_iconst (pc := 202) (nI 0) dX12_stays_202 rfl ?_
                refine Ru_goto (pc := 203) 233 dX12_stays_203 (by decide) ?_
                refine Ru_zast (pc := 233) rfl dX12_stays_233 rfl (by omega) (Or.inl rfl) ?_
                refine Ru_iincN (pc := 234) 1 dX12_stays_234 rfl rfl rfl (by decide) ?_
                refine Ru_goto (pc := 237) 42 dX12_stays_237 (by decide) ?_
                have e1 : nDp d i0 (n + 1) = q + 1 := by rw [nDp_v (by omega), hq]; rfl
                have e2 : ∀ j, j < q + 1 → j ≠ q → r_b ((nLv d s (y % 7) i0 (n + 1) j).testBit (nWy t w h v)) = r_b ((nLv d s (y % 7) i0 n j).testBit (nWy t w h v)) := fun j _ hj => by rw [nLv_b (by omega), if_neg (by omega)]
                have e3 : q < q + 1 → (nI 0) = r_b ((nLv d s (y % 7) i0 (n + 1) q).testBit (nWy t w h v)) := fun _ => by
                  rw [nLv_b (by omega), if_pos (by omega), if_pos (by omega), Nat.testBit_and]
                  refine r_b_f ?_
                  simp_all
                have hr := ih (cnt - (n + 1)) (by omega) (n + 1) _ rfl (by omega) (by rw [e1]; exact r_upd (fun j hj => hk j (by omega)) e3 e2) (r_fx.sI rfl fx)
                rw [e1] at hr
                exact Ru_weak hr rfl
              · refine Ru_iconst (pc := 198) (nI 1) dX12_stays_198 rfl ?_
                refine Ru_goto (pc := 199) 233 dX12_stays_199 (by decide) ?_
                refine Ru_zast (pc := 233) rfl dX12_stays_233 rfl (by omega) (Or.inr rfl) ?_
                refine Ru_iincN (pc := 234) 1 dX12_stays_234 rfl rfl rfl (by decide) ?_
                refine Ru_goto (pc := 237) 42 dX12_stays_237 (by decide) ?_
                have e1 : nDp d i0 (n + 1) = q + 1 := by rw [nDp_v (by omega), hq]; rfl
                have e2 : ∀ j, j < q + 1 → j ≠ q → r_b ((nLv d s (y % 7) i0 (n + 1) j).testBit (nWy t w h v)) = r_b ((nLv d s (y % 7) i0 n j).testBit (nWy t w h v)) := fun j _ hj => by rw [nLv_b (by omega), if_neg (by omega)]
                have e3 : q < q + 1 → (nI 1) = r_b ((nLv d s (y % 7) i0 (n + 1) q).testBit (nWy t w h v)) := fun _ => by
                  rw [nLv_b (by omega), if_pos (by omega), if_pos (by omega), Nat.testBit_and]
                  refine r_b_t ?_
                  simp_all
                have hr := ih (cnt - (n + 1)) (by omega) (n + 1) _ rfl (by omega) (by rw [e1]; exact r_upd (fun j hj => hk j (by omega)) e3 e2) (r_fx.sI rfl fx)
                rw [e1] at hr
                exact Ru_weak hr rfl
        · refine Ru_aload_n (pc := 129) dX12_stays_129 rfl rfl ?_
          refine Ru_getR (pc := 130) 7 dX12_stays_130 fl_X12_41 rfl rfl rfl ?_
          refine Ru_iload (pc := 133) dX12_stays_133 rfl ?_
          refine Ru_iconst (pc := 135) (nI 1) dX12_stays_135 rfl ?_
          refine Ru_isubN (pc := 136) dX12_stays_136 (by omega) ?_
          refine Ru_aload_n (pc := 137) dX12_stays_137 rfl rfl ?_
          refine Ru_getR (pc := 138) 7 dX12_stays_138 fl_X12_41 rfl rfl rfl ?_
          refine Ru_iload (pc := 141) dX12_stays_141 rfl ?_
          refine Ru_iconst (pc := 143) (nI 1) dX12_stays_143 rfl ?_
          refine Ru_isubN (pc := 144) dX12_stays_144 (by omega) ?_
          refine Ru_zald (pc := 145) dX12_stays_145 rfl (by omega) ?_
          refine Ru_top (hk ((nDp d i0 n) - 1) (by omega)) ?_
          refine Ru_if_neB (pc := 146) 153 dX12_stays_146 (by decide) (fun h9 => ?_) (fun h9 => ?_)
          · refine Ru_iconst (pc := 153) (nI 0) dX12_stays_153 rfl ?_
            refine Ru_zast (pc := 154) rfl dX12_stays_154 rfl (by omega) (Or.inl rfl) ?_
            refine Ru_goto (pc := 155) 234 dX12_stays_155 (by decide) ?_
            refine Ru_iincN (pc := 234) 1 dX12_stays_234 rfl rfl rfl (by decide) ?_
            refine Ru_goto (pc := 237) 42 dX12_stays_237 (by decide) ?_
            have e1 : nDp d i0 (n + 1) = nDp d i0 n := nDp_n (by omega)
            have e2 : ∀ j, j < nDp d i0 n → j ≠ nDp d i0 n - 1 → r_b ((nLv d s (y % 7) i0 (n + 1) j).testBit (nWy t w h v)) = r_b ((nLv d s (y % 7) i0 n j).testBit (nWy t w h v)) := fun j _ hj => by rw [nLv_n (by omega), if_neg hj]
            have e3 : nDp d i0 n - 1 < nDp d i0 n → (nI 0) = r_b ((nLv d s (y % 7) i0 (n + 1) (nDp d i0 n - 1)).testBit (nWy t w h v)) := fun _ => by
              rw [nLv_n (by omega), if_pos rfl, Nat.testBit_xor, b255 _ (nWy_lt t w h v)]
              refine r_b_f ?_
              simp_all
            have hr := ih (cnt - (n + 1)) (by omega) (n + 1) _ rfl (by omega) (by rw [e1]; exact r_upd hk e3 e2) (r_fx.sI rfl fx)
            rw [e1] at hr
            exact Ru_weak hr rfl
          · refine Ru_iconst (pc := 149) (nI 1) dX12_stays_149 rfl ?_
            refine Ru_goto (pc := 150) 154 dX12_stays_150 (by decide) ?_
            refine Ru_zast (pc := 154) rfl dX12_stays_154 rfl (by omega) (Or.inr rfl) ?_
            refine Ru_goto (pc := 155) 234 dX12_stays_155 (by decide) ?_
            refine Ru_iincN (pc := 234) 1 dX12_stays_234 rfl rfl rfl (by decide) ?_
            refine Ru_goto (pc := 237) 42 dX12_stays_237 (by decide) ?_
            have e1 : nDp d i0 (n + 1) = nDp d i0 n := nDp_n (by omega)
            have e2 : ∀ j, j < nDp d i0 n → j ≠ nDp d i0 n - 1 → r_b ((nLv d s (y % 7) i0 (n + 1) j).testBit (nWy t w h v)) = r_b ((nLv d s (y % 7) i0 n j).testBit (nWy t w h v)) := fun j _ hj => by rw [nLv_n (by omega), if_neg hj]
            have e3 : nDp d i0 n - 1 < nDp d i0 n → (nI 1) = r_b ((nLv d s (y % 7) i0 (n + 1) (nDp d i0 n - 1)).testBit (nWy t w h v)) := fun _ => by
              rw [nLv_n (by omega), if_pos rfl, Nat.testBit_xor, b255 _ (nWy_lt t w h v)]
              refine r_b_t ?_
              simp_all
            have hr := ih (cnt - (n + 1)) (by omega) (n + 1) _ rfl (by omega) (by rw [e1]; exact r_upd hk e3 e2) (r_fx.sI rfl fx)
            rw [e1] at hr
            exact Ru_weak hr rfl
      · refine Ru_aload_n (pc := 79) dX12_stays_79 rfl rfl ?_
        refine Ru_getR (pc := 80) 7 dX12_stays_80 fl_X12_41 rfl rfl rfl ?_
        refine Ru_iload (pc := 83) dX12_stays_83 rfl ?_
        refine Ru_aload_n (pc := 85) dX12_stays_85 rfl rfl ?_
        refine Ru_iload (pc := 86) dX12_stays_86 rfl ?_
        refine Ru_aload_n (pc := 88) dX12_stays_88 rfl rfl ?_
        refine Ru_getR (pc := 89) 5 dX12_stays_89 fl_X12_35 rfl rfl rfl ?_
        refine Ru_sipush (pc := 92) (nI 155) dX12_stays_92 rfl ?_
        refine Ru_iconst (pc := 95) (nI 2) dX12_stays_95 rfl ?_
        refine Ru_iload (pc := 96) dX12_stays_96 rfl ?_
        refine Ru_imulN (pc := 98) dX12_stays_98 ?_
        refine Ru_iaddN (pc := 99) dX12_stays_99 ?_
        refine Ru_iconst (pc := 100) (nI 1) dX12_stays_100 rfl ?_
        refine Ru_iaddN (pc := 101) dX12_stays_101 ?_
        refine Ru_iald (pc := 102) dX12_stays_102 rfl (by omega) ?_
        refine Ru_top (hc ((155 + (2 * (i0 + n))) + 1) (by omega)) ?_
        refine Ru_iload_n (pc := 103) dX12_stays_103 rfl rfl ?_
        refine Ru_iload_n (pc := 104) dX12_stays_104 rfl rfl ?_
        refine Ru_iload_n (pc := 105) dX12_stays_105 rfl rfl ?_
        refine Ru_iload (pc := 106) dX12_stays_106 rfl ?_
        refine Ru_iload (pc := 108) dX12_stays_108 rfl ?_
        refine Ru_iload (pc := 110) dX12_stays_110 rfl ?_
        refine Ru_cv8 (pc := 112) dX12_stays_112 mv_X12_378 rfl (by decide) (Nat.le_of_ble_eq_true rfl) (c_X12_isSo (by omega) (by omega) (by omega) (by omega) hcd (by omega) (by omega) ?_) 
        refine Ru_zast (pc := 115) rfl dX12_stays_115 rfl (by omega) (r_b_01 _) ?_
        refine Ru_iincN (pc := 116) 1 dX12_stays_116 rfl rfl rfl (by decide) ?_
        refine Ru_goto (pc := 119) 234 dX12_stays_119 (by decide) ?_
        refine Ru_iincN (pc := 234) 1 dX12_stays_234 rfl rfl rfl (by decide) ?_
        refine Ru_goto (pc := 237) 42 dX12_stays_237 (by decide) ?_
        have e1 : nDp d i0 (n + 1) = nDp d i0 n + 1 := nDp_p (by omega)
        have e2 : ∀ j, j < nDp d i0 n → M.1 7 j = r_b ((nLv d s (y % 7) i0 (n + 1) j).testBit (nWy t w h v)) := fun j hj => by rw [nLv_p (by omega), if_neg (by omega)]; exact hk j hj
        have hr := ih (cnt - (n + 1)) (by omega) (n + 1) _ rfl (by omega) (by rw [e1]; exact r_ext e2 (by rw [nLv_p (by omega), if_pos rfl])) (r_fx.sI rfl fx)
        rw [e1] at hr
        exact Ru_weak hr rfl

theorem c_X12_stays {Q : Rq} {M : Mem} {d : Td} {s t w h v y : Nat} (hc0 : ∀ k, k < 521 → M.1 5 k = nI (d k)) (wf : Wf d) (hs : s < 256) (ht : t < 8) (hcd : w ≤ 8 ∧ h ≤ 8 ∧ v ≤ 8) (hy : y < 2000) {A : Nat} (hA : A < 256) (hwl : Wl d) (hal : M.1 0 29 = nI A) (k : ∀ M', r_fx [] [7] M M' → Q (some (.int (r_b (A.testBit t || (decide (d (21 + t) = 1) && (nFin d s (y % 7) t).testBit (nWy t w h v)))))) GY M') : Ca 2 mt_X12_stays 0 0 [.ref 0, .int (nI t), .int (nI s), .int (nM w), .int (nM h), .int (nM v), .int (nI y)] GY M Q := by
  refine Ca_of rfl (Nat.le_of_ble_eq_true rfl) ?_
  have hb := wf.1
  have hw1 := (wf.2.1 t ht).2.2.1
  refine Ru_aload_n (pc := 0) dX12_stays_0 rfl rfl ?_
  refine Ru_getI (pc := 1) dX12_stays_1 fl_X12_375 rfl rfl ?_
  refine Ru_top hal ?_
  refine Ru_iload_n (pc := 4) dX12_stays_4 rfl rfl ?_
  refine Ru_cs2 (pc := 5) dX12_stays_5 ms_X12_372 (by decide) (Nat.le_of_ble_eq_true rfl) (c_X12_has (by omega) (by omega) ?_) 
  refine Ru_if_eqB (pc := 8) 13 dX12_stays_8 (by decide) (fun h1 => ?_) (fun h1 => ?_)
  · refine Ru_aload_n (pc := 13) dX12_stays_13 rfl rfl ?_
    refine Ru_getR (pc := 14) 5 dX12_stays_14 fl_X12_35 rfl rfl rfl ?_
    refine Ru_bipush (pc := 17) (nI 21) dX12_stays_17 rfl ?_
    refine Ru_iload_n (pc := 19) dX12_stays_19 rfl rfl ?_
    refine Ru_iaddN (pc := 20) dX12_stays_20 ?_
    refine Ru_iald (pc := 21) dX12_stays_21 rfl (by omega) ?_
    refine Ru_top (hc0 (21 + t) (by omega)) ?_
    refine Ru_if_neN (pc := 22) 27 dX12_stays_22 (by decide) (by omega) (fun h2 => ?_) (fun h2 => ?_)
    · refine Ru_iconst (pc := 27) (nI 0) dX12_stays_27 rfl ?_
      refine Ru_istore (pc := 28) dX12_stays_28 rfl (by decide) ?_
      refine Ru_aload_n (pc := 30) dX12_stays_30 rfl rfl ?_
      refine Ru_getR (pc := 31) 5 dX12_stays_31 fl_X12_35 rfl rfl rfl ?_
      refine Ru_sipush (pc := 34) (nI 139) dX12_stays_34 rfl ?_
      refine Ru_iload_n (pc := 37) dX12_stays_37 rfl rfl ?_
      refine Ru_iaddN (pc := 38) dX12_stays_38 ?_
      refine Ru_iald (pc := 39) dX12_stays_39 rfl (by omega) ?_
      refine Ru_top (hc0 (139 + t) (by omega)) ?_
      refine Ru_istore (pc := 40) dX12_stays_40 rfl (by decide) ?_
      have hd1 : d (21 + t) = 1 := by have := (wf.2.1 t ht).2.2.1; omega
      have hok := hwl t ht hd1
      have e : (A.testBit t || (decide (d (21 + t) = 1) && (nFin d s (y % 7) t).testBit (nWy t w h v))) = (nFin d s (y % 7) t).testBit (nWy t w h v) := by simp [*]
      rw [e] at k
      exact Ru_weak (l_X12_stays (M0 := M) hc0 wf hs ht hcd hy (i0 := d (139 + t)) rfl rfl hok (fun n hn => (hok.2.2 n hn).1) k (d (147 + t) - d (139 + t)) 0 M rfl (Nat.zero_le _) (fun j hj => by rw [nDp] at hj; omega) r_fx.rf) rfl
    · refine Ru_iconst (pc := 25) (nI 0) dX12_stays_25 rfl ?_
      refine Ru_zret (pc := 26) dX12_stays_26 rfl ⟨Nat.le_refl _, Nat.le_refl _⟩ (Or.inl rfl) ?_
      have e : (A.testBit t || (decide (d (21 + t) = 1) && (nFin d s (y % 7) t).testBit (nWy t w h v))) = false := by simp [*]
      rw [e] at k
      exact k _ r_fx.rf
  · refine Ru_iconst (pc := 11) (nI 1) dX12_stays_11 rfl ?_
    refine Ru_zret (pc := 12) dX12_stays_12 rfl ⟨Nat.le_refl _, Nat.le_refl _⟩ (Or.inr rfl) ?_
    have e : (A.testBit t || (decide (d (21 + t) = 1) && (nFin d s (y % 7) t).testBit (nWy t w h v))) = true := by simp [*]
    rw [e] at k
    exact k _ r_fx.rf
