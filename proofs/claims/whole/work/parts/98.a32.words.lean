-- WORDS: the reference
def pWd (k : Nat) : Nat := if k = 128 then 1 else if k = 131 then 2 else if k = 137 then 3 else if k = 141 then 4 else 0
theorem pWd_sp (k : Nat) : (pWd k = 0 ∧ ¬ k = 128 ∧ ¬ k = 131 ∧ ¬ k = 137 ∧ ¬ k = 141) ∨ (pWd k = 1 ∧ k = 128) ∨ (pWd k = 2 ∧ k = 131) ∨ (pWd k = 3 ∧ k = 137) ∨ (pWd k = 4 ∧ k = 141) := by
  unfold pWd
  repeat' split
  all_goals omega
theorem tTok_1 {k : Nat} : tTok k = 1 ↔ (k = 3 ∨ k = 4 ∨ 128 ≤ k) := by
  unfold tTok
  constructor
  · intro h
    repeat' split at h
    all_goals omega
  · intro h
    rw [if_neg (by omega), if_neg (by omega), if_neg (by omega), if_pos h]
theorem tTok_3 {T : Tx} {i : Nat} (h : tTok (tK T i) = 3) : isSg (tK T i) = true := by
  have hb := kK_b T (tA T i)
  have hb2 : kK T (tA T i) = tK T i := rfl
  rw [hb2] at hb
  unfold tTok at h
  apply isSg_iff.mpr
  repeat' split at h
  all_goals omega
theorem tTok_ (T : Tx) (i : Nat) : (tTok (tK T i) = 0 ↔ tK T i = 0) ∧ (tTok (tK T i) = 4 ↔ tK T i = 1) ∧ (tTok (tK T i) = 2 ↔ tK T i = 2) := by
  unfold tTok
  repeat' split
  all_goals omega
theorem tk_w {T : Tx} {i r : Nat} {M : Mem} (tw : Tw T) (hk : Y_tk T i M) (hr : r < 28) : (tTok (tK T i) = 1 ∧ M.2.1 0 21 = nJ (cd 32 (RW.getD r []))) ↔ tK T i = 128 + r := by
  have hrw := RW_ok r hr
  have h8 := cd_8 (b := 32) (by decide) hrw.1 hrw.2
  constructor
  · rintro ⟨h1, h2⟩
    have h3 := tTok_1.mp h1
    by_cases e4 : tK T i = 4
    · rw [(hk.2.2.2.2.1 e4).1] at h2
      have h5 := congrArg Int64.toInt h2
      rw [nJ_t (by omega)] at h5
      have h6 : (-1 : Int64).toInt = -1 := rfl
      omega
    · have hv := tL_v tw (i := i) (by omega)
      rw [(hk.2.2.2.1 (by omega)).1] at h2
      have h5 := (nJ_eq ⟨by have := cd_8 (b := 32) (by decide) hv.1 hv.2.1; omega, by omega⟩).mp h2
      have h6 := cd_inj (Or.inr rfl) hv.1 hrw.1 h5
      rw [hv.2.2.1]
      exact (rsv_k hr).mpr h6
  · intro h
    have hv := tL_v tw (i := i) (by omega)
    have h6 := (rsv_k hr).mp (hv.2.2.1.symm.trans h)
    exact ⟨tTok_1.mpr (by omega), by rw [(hk.2.2.2.1 (by omega)).1, h6]⟩
theorem tk_let {T : Tx} {i : Nat} {M : Mem} (tw : Tw T) (hk : Y_tk T i M) : (tK T i = 3 ∨ 128 ≤ tK T i → (M.1 0 18).toInt ≤ 8) ∧ (tK T i = 4 → 8 < (M.1 0 18).toInt) := by
  constructor
  · intro h
    have hv := tL_v tw h
    rw [(hk.2.2.2.1 h).2, r_tn (by omega)]
    omega
  · intro h
    obtain ⟨l, h1, h2, h3⟩ := (hk.2.2.2.2.1 h).2
    rw [h3, r_tn h2]
    omega

theorem tTok_b (k : Nat) : tTok k ≤ 4 := by
  unfold tTok
  repeat' split
  all_goals omega

theorem rw32_0 : nJ 21243335 = nJ (cd 32 (RW.getD 0 [])) := by decide +kernel

theorem rw32_1 : nJ 758834 = nJ (cd 32 (RW.getD 1 [])) := by decide +kernel

theorem rw32_2 : nJ 628164 = nJ (cd 32 (RW.getD 2 [])) := by decide +kernel

theorem rw32_3 : nJ 437626311 = nJ (cd 32 (RW.getD 3 [])) := by decide +kernel

theorem rw32_4 : nJ 7657651 = nJ (cd 32 (RW.getD 4 [])) := by decide +kernel

theorem rw32_5 : nJ 8902227 = nJ (cd 32 (RW.getD 5 [])) := by decide +kernel

theorem rw32_6 : nJ 8435859 = nJ (cd 32 (RW.getD 6 [])) := by decide +kernel

theorem rw32_7 : nJ 486 = nJ (cd 32 (RW.getD 7 [])) := by decide +kernel

theorem rw32_8 : nJ 763528 = nJ (cd 32 (RW.getD 8 [])) := by decide +kernel

theorem rw32_9 : nJ 542723566 = nJ (cd 32 (RW.getD 9 [])) := by decide +kernel

theorem rw32_10 : nJ 215533 = nJ (cd 32 (RW.getD 10 [])) := by decide +kernel

theorem rw32_11 : nJ 655 = nJ (cd 32 (RW.getD 11 [])) := by decide +kernel

theorem rw32_12 : nJ 9612 = nJ (cd 32 (RW.getD 12 [])) := by decide +kernel

theorem rw32_13 : nJ 755156 = nJ (cd 32 (RW.getD 13 [])) := by decide +kernel

theorem rw32_14 : nJ 52 = nJ (cd 32 (RW.getD 14 [])) := by decide +kernel

theorem rw32_15 : nJ 24627848 = nJ (cd 32 (RW.getD 15 [])) := by decide +kernel

theorem rw32_16 : nJ 5296302 = nJ (cd 32 (RW.getD 16 [])) := by decide +kernel

theorem rw32_17 : nJ 20580147 = nJ (cd 32 (RW.getD 17 [])) := by decide +kernel

theorem rw32_18 : nJ 769614 = nJ (cd 32 (RW.getD 18 [])) := by decide +kernel

theorem rw32_19 : nJ 267652 = nJ (cd 32 (RW.getD 19 [])) := by decide +kernel

theorem rw32_20 : nJ 628180 = nJ (cd 32 (RW.getD 20 [])) := by decide +kernel

theorem rw32_21 : nJ 267845 = nJ (cd 32 (RW.getD 21 [])) := by decide +kernel

theorem rw32_22 : nJ 4153 = nJ (cd 32 (RW.getD 22 [])) := by decide +kernel

theorem rw32_23 : nJ 498 = nJ (cd 32 (RW.getD 23 [])) := by decide +kernel

theorem rw32_24 : nJ 1476 = nJ (cd 32 (RW.getD 24 [])) := by decide +kernel

theorem rw32_25 : nJ 14836 = nJ (cd 32 (RW.getD 25 [])) := by decide +kernel

theorem rw32_26 : nJ 89 = nJ (cd 32 (RW.getD 26 [])) := by decide +kernel

theorem rw32_27 : nJ 277892 = nJ (cd 32 (RW.getD 27 [])) := by decide +kernel

theorem c_X12_sp_0 {Q : Rq} {M : Mem} (k : Q (some (.long (nJ 21243335))) GY M) : Ca 0 mt_X12_spelled 0 0 [.int (nI 116), .int (nI 104), .int (nI 105), .int (nI 110), .int (nI 103), .int (nI 0)] GY M Q := by
  refine Ca_of rfl (Nat.le_of_ble_eq_true rfl) ?_
  refine Ru_iload_n (pc := 0) dX12_spelled_0 rfl rfl ?_
  refine Ru_i2l (pc := 1) _ dX12_spelled_1 rfl ?_
  refine Ru_ldc2 (pc := 2) dX12_spelled_2 tw_1619 ?_
  refine Ru_lsub (pc := 5) dX12_spelled_5 ?_
  refine Ru_ldc2 (pc := 6) dX12_spelled_6 tw_1618 ?_
  refine Ru_lmul (pc := 9) dX12_spelled_9 ?_
  refine Ru_iload_n (pc := 10) dX12_spelled_10 rfl rfl ?_
  refine Ru_i2l (pc := 11) _ dX12_spelled_11 rfl ?_
  refine Ru_ladd (pc := 12) dX12_spelled_12 ?_
  refine Ru_ldc2 (pc := 13) dX12_spelled_13 tw_1619 ?_
  refine Ru_lsub (pc := 16) dX12_spelled_16 ?_
  refine Ru_lstore (pc := 17) dX12_spelled_17 rfl (by decide) ?_
  refine Ru_iload_n (pc := 19) dX12_spelled_19 rfl rfl ?_
  refine Ru_if_leN (pc := 20) 39 dX12_spelled_20 (by decide) (by omega) (fun h1 => ?_) (fun h1 => ?_)
  · exfalso
    omega
  · refine Ru_lload (pc := 23) dX12_spelled_23 rfl ?_
    refine Ru_ldc2 (pc := 25) dX12_spelled_25 tw_1618 ?_
    refine Ru_lmul (pc := 28) dX12_spelled_28 ?_
    refine Ru_iload_n (pc := 29) dX12_spelled_29 rfl rfl ?_
    refine Ru_i2l (pc := 30) _ dX12_spelled_30 rfl ?_
    refine Ru_ladd (pc := 31) dX12_spelled_31 ?_
    refine Ru_ldc2 (pc := 32) dX12_spelled_32 tw_1619 ?_
    refine Ru_lsub (pc := 35) dX12_spelled_35 ?_
    refine Ru_goto (pc := 36) 41 dX12_spelled_36 (by decide) ?_
    refine Ru_lstore (pc := 41) dX12_spelled_41 rfl (by decide) ?_
    refine Ru_iload_n (pc := 43) dX12_spelled_43 rfl rfl ?_
    refine Ru_if_leN (pc := 44) 63 dX12_spelled_44 (by decide) (by omega) (fun h2 => ?_) (fun h2 => ?_)
    · exfalso
      omega
    · refine Ru_lload (pc := 47) dX12_spelled_47 rfl ?_
      refine Ru_ldc2 (pc := 49) dX12_spelled_49 tw_1618 ?_
      refine Ru_lmul (pc := 52) dX12_spelled_52 ?_
      refine Ru_iload_n (pc := 53) dX12_spelled_53 rfl rfl ?_
      refine Ru_i2l (pc := 54) _ dX12_spelled_54 rfl ?_
      refine Ru_ladd (pc := 55) dX12_spelled_55 ?_
      refine Ru_ldc2 (pc := 56) dX12_spelled_56 tw_1619 ?_
      refine Ru_lsub (pc := 59) dX12_spelled_59 ?_
      refine Ru_goto (pc := 60) 65 dX12_spelled_60 (by decide) ?_
      refine Ru_lstore (pc := 65) dX12_spelled_65 rfl (by decide) ?_
      refine Ru_iload (pc := 67) dX12_spelled_67 rfl ?_
      refine Ru_if_leN (pc := 69) 89 dX12_spelled_69 (by decide) (by omega) (fun h3 => ?_) (fun h3 => ?_)
      · exfalso
        omega
      · refine Ru_lload (pc := 72) dX12_spelled_72 rfl ?_
        refine Ru_ldc2 (pc := 74) dX12_spelled_74 tw_1618 ?_
        refine Ru_lmul (pc := 77) dX12_spelled_77 ?_
        refine Ru_iload (pc := 78) dX12_spelled_78 rfl ?_
        refine Ru_i2l (pc := 80) _ dX12_spelled_80 rfl ?_
        refine Ru_ladd (pc := 81) dX12_spelled_81 ?_
        refine Ru_ldc2 (pc := 82) dX12_spelled_82 tw_1619 ?_
        refine Ru_lsub (pc := 85) dX12_spelled_85 ?_
        refine Ru_goto (pc := 86) 91 dX12_spelled_86 (by decide) ?_
        refine Ru_lstore (pc := 91) dX12_spelled_91 rfl (by decide) ?_
        refine Ru_iload (pc := 93) dX12_spelled_93 rfl ?_
        refine Ru_if_leN (pc := 95) 115 dX12_spelled_95 (by decide) (by omega) (fun h4 => ?_) (fun h4 => ?_)
        · refine Ru_lload (pc := 115) dX12_spelled_115 rfl ?_
          refine Ru_lret (pc := 117) dX12_spelled_117 rfl ⟨Nat.le_refl _, Nat.le_refl _⟩ ?_
          rw [show (((((((((((((((nI 116)).toInt64 - 96) * 32) + ((nI 104)).toInt64) - 96) * 32) + ((nI 105)).toInt64) - 96) * 32) + ((nI 110)).toInt64) - 96) * 32) + ((nI 103)).toInt64) - 96) = nJ 21243335 from by decide +kernel]
          exact k
        · exfalso
          omega

theorem c_X12_sp_1 {Q : Rq} {M : Mem} (k : Q (some (.long (nJ 758834))) GY M) : Ca 0 mt_X12_spelled 0 0 [.int (nI 119), .int (nI 101), .int (nI 97), .int (nI 114), .int (nI 0), .int (nI 0)] GY M Q := by
  refine Ca_of rfl (Nat.le_of_ble_eq_true rfl) ?_
  refine Ru_iload_n (pc := 0) dX12_spelled_0 rfl rfl ?_
  refine Ru_i2l (pc := 1) _ dX12_spelled_1 rfl ?_
  refine Ru_ldc2 (pc := 2) dX12_spelled_2 tw_1619 ?_
  refine Ru_lsub (pc := 5) dX12_spelled_5 ?_
  refine Ru_ldc2 (pc := 6) dX12_spelled_6 tw_1618 ?_
  refine Ru_lmul (pc := 9) dX12_spelled_9 ?_
  refine Ru_iload_n (pc := 10) dX12_spelled_10 rfl rfl ?_
  refine Ru_i2l (pc := 11) _ dX12_spelled_11 rfl ?_
  refine Ru_ladd (pc := 12) dX12_spelled_12 ?_
  refine Ru_ldc2 (pc := 13) dX12_spelled_13 tw_1619 ?_
  refine Ru_lsub (pc := 16) dX12_spelled_16 ?_
  refine Ru_lstore (pc := 17) dX12_spelled_17 rfl (by decide) ?_
  refine Ru_iload_n (pc := 19) dX12_spelled_19 rfl rfl ?_
  refine Ru_if_leN (pc := 20) 39 dX12_spelled_20 (by decide) (by omega) (fun h1 => ?_) (fun h1 => ?_)
  · exfalso
    omega
  · refine Ru_lload (pc := 23) dX12_spelled_23 rfl ?_
    refine Ru_ldc2 (pc := 25) dX12_spelled_25 tw_1618 ?_
    refine Ru_lmul (pc := 28) dX12_spelled_28 ?_
    refine Ru_iload_n (pc := 29) dX12_spelled_29 rfl rfl ?_
    refine Ru_i2l (pc := 30) _ dX12_spelled_30 rfl ?_
    refine Ru_ladd (pc := 31) dX12_spelled_31 ?_
    refine Ru_ldc2 (pc := 32) dX12_spelled_32 tw_1619 ?_
    refine Ru_lsub (pc := 35) dX12_spelled_35 ?_
    refine Ru_goto (pc := 36) 41 dX12_spelled_36 (by decide) ?_
    refine Ru_lstore (pc := 41) dX12_spelled_41 rfl (by decide) ?_
    refine Ru_iload_n (pc := 43) dX12_spelled_43 rfl rfl ?_
    refine Ru_if_leN (pc := 44) 63 dX12_spelled_44 (by decide) (by omega) (fun h2 => ?_) (fun h2 => ?_)
    · exfalso
      omega
    · refine Ru_lload (pc := 47) dX12_spelled_47 rfl ?_
      refine Ru_ldc2 (pc := 49) dX12_spelled_49 tw_1618 ?_
      refine Ru_lmul (pc := 52) dX12_spelled_52 ?_
      refine Ru_iload_n (pc := 53) dX12_spelled_53 rfl rfl ?_
      refine Ru_i2l (pc := 54) _ dX12_spelled_54 rfl ?_
      refine Ru_ladd (pc := 55) dX12_spelled_55 ?_
      refine Ru_ldc2 (pc := 56) dX12_spelled_56 tw_1619 ?_
      refine Ru_lsub (pc := 59) dX12_spelled_59 ?_
      refine Ru_goto (pc := 60) 65 dX12_spelled_60 (by decide) ?_
      refine Ru_lstore (pc := 65) dX12_spelled_65 rfl (by decide) ?_
      refine Ru_iload (pc := 67) dX12_spelled_67 rfl ?_
      refine Ru_if_leN (pc := 69) 89 dX12_spelled_69 (by decide) (by omega) (fun h3 => ?_) (fun h3 => ?_)
      · refine Ru_lload (pc := 89) dX12_spelled_89 rfl ?_
        refine Ru_lstore (pc := 91) dX12_spelled_91 rfl (by decide) ?_
        refine Ru_iload (pc := 93) dX12_spelled_93 rfl ?_
        refine Ru_if_leN (pc := 95) 115 dX12_spelled_95 (by decide) (by omega) (fun h4 => ?_) (fun h4 => ?_)
        · refine Ru_lload (pc := 115) dX12_spelled_115 rfl ?_
          refine Ru_lret (pc := 117) dX12_spelled_117 rfl ⟨Nat.le_refl _, Nat.le_refl _⟩ ?_
          rw [show ((((((((((((nI 119)).toInt64 - 96) * 32) + ((nI 101)).toInt64) - 96) * 32) + ((nI 97)).toInt64) - 96) * 32) + ((nI 114)).toInt64) - 96) = nJ 758834 from by decide +kernel]
          exact k
        · exfalso
          omega
      · exfalso
        omega

theorem c_X12_sp_2 {Q : Rq} {M : Mem} (k : Q (some (.long (nJ 628164))) GY M) : Ca 0 mt_X12_spelled 0 0 [.int (nI 115), .int (nI 101), .int (nI 110), .int (nI 100), .int (nI 0), .int (nI 0)] GY M Q := by
  refine Ca_of rfl (Nat.le_of_ble_eq_true rfl) ?_
  refine Ru_iload_n (pc := 0) dX12_spelled_0 rfl rfl ?_
  refine Ru_i2l (pc := 1) _ dX12_spelled_1 rfl ?_
  refine Ru_ldc2 (pc := 2) dX12_spelled_2 tw_1619 ?_
  refine Ru_lsub (pc := 5) dX12_spelled_5 ?_
  refine Ru_ldc2 (pc := 6) dX12_spelled_6 tw_1618 ?_
  refine Ru_lmul (pc := 9) dX12_spelled_9 ?_
  refine Ru_iload_n (pc := 10) dX12_spelled_10 rfl rfl ?_
  refine Ru_i2l (pc := 11) _ dX12_spelled_11 rfl ?_
  refine Ru_ladd (pc := 12) dX12_spelled_12 ?_
  refine Ru_ldc2 (pc := 13) dX12_spelled_13 tw_1619 ?_
  refine Ru_lsub (pc := 16) dX12_spelled_16 ?_
  refine Ru_lstore (pc := 17) dX12_spelled_17 rfl (by decide) ?_
  refine Ru_iload_n (pc := 19) dX12_spelled_19 rfl rfl ?_
  refine Ru_if_leN (pc := 20) 39 dX12_spelled_20 (by decide) (by omega) (fun h1 => ?_) (fun h1 => ?_)
  · exfalso
    omega
  · refine Ru_lload (pc := 23) dX12_spelled_23 rfl ?_
    refine Ru_ldc2 (pc := 25) dX12_spelled_25 tw_1618 ?_
    refine Ru_lmul (pc := 28) dX12_spelled_28 ?_
    refine Ru_iload_n (pc := 29) dX12_spelled_29 rfl rfl ?_
    refine Ru_i2l (pc := 30) _ dX12_spelled_30 rfl ?_
    refine Ru_ladd (pc := 31) dX12_spelled_31 ?_
    refine Ru_ldc2 (pc := 32) dX12_spelled_32 tw_1619 ?_
    refine Ru_lsub (pc := 35) dX12_spelled_35 ?_
    refine Ru_goto (pc := 36) 41 dX12_spelled_36 (by decide) ?_
    refine Ru_lstore (pc := 41) dX12_spelled_41 rfl (by decide) ?_
    refine Ru_iload_n (pc := 43) dX12_spelled_43 rfl rfl ?_
    refine Ru_if_leN (pc := 44) 63 dX12_spelled_44 (by decide) (by omega) (fun h2 => ?_) (fun h2 => ?_)
    · exfalso
      omega
    · refine Ru_lload (pc := 47) dX12_spelled_47 rfl ?_
      refine Ru_ldc2 (pc := 49) dX12_spelled_49 tw_1618 ?_
      refine Ru_lmul (pc := 52) dX12_spelled_52 ?_
      refine Ru_iload_n (pc := 53) dX12_spelled_53 rfl rfl ?_
      refine Ru_i2l (pc := 54) _ dX12_spelled_54 rfl ?_
      refine Ru_ladd (pc := 55) dX12_spelled_55 ?_
      refine Ru_ldc2 (pc := 56) dX12_spelled_56 tw_1619 ?_
      refine Ru_lsub (pc := 59) dX12_spelled_59 ?_
      refine Ru_goto (pc := 60) 65 dX12_spelled_60 (by decide) ?_
      refine Ru_lstore (pc := 65) dX12_spelled_65 rfl (by decide) ?_
      refine Ru_iload (pc := 67) dX12_spelled_67 rfl ?_
      refine Ru_if_leN (pc := 69) 89 dX12_spelled_69 (by decide) (by omega) (fun h3 => ?_) (fun h3 => ?_)
      · refine Ru_lload (pc := 89) dX12_spelled_89 rfl ?_
        refine Ru_lstore (pc := 91) dX12_spelled_91 rfl (by decide) ?_
        refine Ru_iload (pc := 93) dX12_spelled_93 rfl ?_
        refine Ru_if_leN (pc := 95) 115 dX12_spelled_95 (by decide) (by omega) (fun h4 => ?_) (fun h4 => ?_)
        · refine Ru_lload (pc := 115) dX12_spelled_115 rfl ?_
          refine Ru_lret (pc := 117) dX12_spelled_117 rfl ⟨Nat.le_refl _, Nat.le_refl _⟩ ?_
          rw [show ((((((((((((nI 115)).toInt64 - 96) * 32) + ((nI 101)).toInt64) - 96) * 32) + ((nI 110)).toInt64) - 96) * 32) + ((nI 100)).toInt64) - 96) = nJ 628164 from by decide +kernel]
          exact k
        · exfalso
          omega
      · exfalso
        omega

theorem c_X12_sp_3 {Q : Rq} {M : Mem} (k : Q (some (.long (nJ 437626311))) GY M) : Ca 0 mt_X12_spelled 0 0 [.int (nI 109), .int (nI 97), .int (nI 107), .int (nI 105), .int (nI 110), .int (nI 103)] GY M Q := by
  refine Ca_of rfl (Nat.le_of_ble_eq_true rfl) ?_
  refine Ru_iload_n (pc := 0) dX12_spelled_0 rfl rfl ?_
  refine Ru_i2l (pc := 1) _ dX12_spelled_1 rfl ?_
  refine Ru_ldc2 (pc := 2) dX12_spelled_2 tw_1619 ?_
  refine Ru_lsub (pc := 5) dX12_spelled_5 ?_
  refine Ru_ldc2 (pc := 6) dX12_spelled_6 tw_1618 ?_
  refine Ru_lmul (pc := 9) dX12_spelled_9 ?_
  refine Ru_iload_n (pc := 10) dX12_spelled_10 rfl rfl ?_
  refine Ru_i2l (pc := 11) _ dX12_spelled_11 rfl ?_
  refine Ru_ladd (pc := 12) dX12_spelled_12 ?_
  refine Ru_ldc2 (pc := 13) dX12_spelled_13 tw_1619 ?_
  refine Ru_lsub (pc := 16) dX12_spelled_16 ?_
  refine Ru_lstore (pc := 17) dX12_spelled_17 rfl (by decide) ?_
  refine Ru_iload_n (pc := 19) dX12_spelled_19 rfl rfl ?_
  refine Ru_if_leN (pc := 20) 39 dX12_spelled_20 (by decide) (by omega) (fun h1 => ?_) (fun h1 => ?_)
  · exfalso
    omega
  · refine Ru_lload (pc := 23) dX12_spelled_23 rfl ?_
    refine Ru_ldc2 (pc := 25) dX12_spelled_25 tw_1618 ?_
    refine Ru_lmul (pc := 28) dX12_spelled_28 ?_
    refine Ru_iload_n (pc := 29) dX12_spelled_29 rfl rfl ?_
    refine Ru_i2l (pc := 30) _ dX12_spelled_30 rfl ?_
    refine Ru_ladd (pc := 31) dX12_spelled_31 ?_
    refine Ru_ldc2 (pc := 32) dX12_spelled_32 tw_1619 ?_
    refine Ru_lsub (pc := 35) dX12_spelled_35 ?_
    refine Ru_goto (pc := 36) 41 dX12_spelled_36 (by decide) ?_
    refine Ru_lstore (pc := 41) dX12_spelled_41 rfl (by decide) ?_
    refine Ru_iload_n (pc := 43) dX12_spelled_43 rfl rfl ?_
    refine Ru_if_leN (pc := 44) 63 dX12_spelled_44 (by decide) (by omega) (fun h2 => ?_) (fun h2 => ?_)
    · exfalso
      omega
    · refine Ru_lload (pc := 47) dX12_spelled_47 rfl ?_
      refine Ru_ldc2 (pc := 49) dX12_spelled_49 tw_1618 ?_
      refine Ru_lmul (pc := 52) dX12_spelled_52 ?_
      refine Ru_iload_n (pc := 53) dX12_spelled_53 rfl rfl ?_
      refine Ru_i2l (pc := 54) _ dX12_spelled_54 rfl ?_
      refine Ru_ladd (pc := 55) dX12_spelled_55 ?_
      refine Ru_ldc2 (pc := 56) dX12_spelled_56 tw_1619 ?_
      refine Ru_lsub (pc := 59) dX12_spelled_59 ?_
      refine Ru_goto (pc := 60) 65 dX12_spelled_60 (by decide) ?_
      refine Ru_lstore (pc := 65) dX12_spelled_65 rfl (by decide) ?_
      refine Ru_iload (pc := 67) dX12_spelled_67 rfl ?_
      refine Ru_if_leN (pc := 69) 89 dX12_spelled_69 (by decide) (by omega) (fun h3 => ?_) (fun h3 => ?_)
      · exfalso
        omega
      · refine Ru_lload (pc := 72) dX12_spelled_72 rfl ?_
        refine Ru_ldc2 (pc := 74) dX12_spelled_74 tw_1618 ?_
        refine Ru_lmul (pc := 77) dX12_spelled_77 ?_
        refine Ru_iload (pc := 78) dX12_spelled_78 rfl ?_
        refine Ru_i2l (pc := 80) _ dX12_spelled_80 rfl ?_
        refine Ru_ladd (pc := 81) dX12_spelled_81 ?_
        refine Ru_ldc2 (pc := 82) dX12_spelled_82 tw_1619 ?_
        refine Ru_lsub (pc := 85) dX12_spelled_85 ?_
        refine Ru_goto (pc := 86) 91 dX12_spelled_86 (by decide) ?_
        refine Ru_lstore (pc := 91) dX12_spelled_91 rfl (by decide) ?_
        refine Ru_iload (pc := 93) dX12_spelled_93 rfl ?_
        refine Ru_if_leN (pc := 95) 115 dX12_spelled_95 (by decide) (by omega) (fun h4 => ?_) (fun h4 => ?_)
        · exfalso
          omega
        · refine Ru_lload (pc := 98) dX12_spelled_98 rfl ?_
          refine Ru_ldc2 (pc := 100) dX12_spelled_100 tw_1618 ?_
          refine Ru_lmul (pc := 103) dX12_spelled_103 ?_
          refine Ru_iload (pc := 104) dX12_spelled_104 rfl ?_
          refine Ru_i2l (pc := 106) _ dX12_spelled_106 rfl ?_
          refine Ru_ladd (pc := 107) dX12_spelled_107 ?_
          refine Ru_ldc2 (pc := 108) dX12_spelled_108 tw_1619 ?_
          refine Ru_lsub (pc := 111) dX12_spelled_111 ?_
          refine Ru_goto (pc := 112) 117 dX12_spelled_112 (by decide) ?_
          refine Ru_lret (pc := 117) dX12_spelled_117 rfl ⟨Nat.le_refl _, Nat.le_refl _⟩ ?_
          rw [show ((((((((((((((((((nI 109)).toInt64 - 96) * 32) + ((nI 97)).toInt64) - 96) * 32) + ((nI 107)).toInt64) - 96) * 32) + ((nI 105)).toInt64) - 96) * 32) + ((nI 110)).toInt64) - 96) * 32) + ((nI 103)).toInt64) - 96) = nJ 437626311 from by decide +kernel]
          exact k

theorem c_X12_sp_4 {Q : Rq} {M : Mem} (k : Q (some (.long (nJ 7657651))) GY M) : Ca 0 mt_X12_spelled 0 0 [.int (nI 103), .int (nI 105), .int (nI 118), .int (nI 101), .int (nI 115), .int (nI 0)] GY M Q := by
  refine Ca_of rfl (Nat.le_of_ble_eq_true rfl) ?_
  refine Ru_iload_n (pc := 0) dX12_spelled_0 rfl rfl ?_
  refine Ru_i2l (pc := 1) _ dX12_spelled_1 rfl ?_
  refine Ru_ldc2 (pc := 2) dX12_spelled_2 tw_1619 ?_
  refine Ru_lsub (pc := 5) dX12_spelled_5 ?_
  refine Ru_ldc2 (pc := 6) dX12_spelled_6 tw_1618 ?_
  refine Ru_lmul (pc := 9) dX12_spelled_9 ?_
  refine Ru_iload_n (pc := 10) dX12_spelled_10 rfl rfl ?_
  refine Ru_i2l (pc := 11) _ dX12_spelled_11 rfl ?_
  refine Ru_ladd (pc := 12) dX12_spelled_12 ?_
  refine Ru_ldc2 (pc := 13) dX12_spelled_13 tw_1619 ?_
  refine Ru_lsub (pc := 16) dX12_spelled_16 ?_
  refine Ru_lstore (pc := 17) dX12_spelled_17 rfl (by decide) ?_
  refine Ru_iload_n (pc := 19) dX12_spelled_19 rfl rfl ?_
  refine Ru_if_leN (pc := 20) 39 dX12_spelled_20 (by decide) (by omega) (fun h1 => ?_) (fun h1 => ?_)
  · exfalso
    omega
  · refine Ru_lload (pc := 23) dX12_spelled_23 rfl ?_
    refine Ru_ldc2 (pc := 25) dX12_spelled_25 tw_1618 ?_
    refine Ru_lmul (pc := 28) dX12_spelled_28 ?_
    refine Ru_iload_n (pc := 29) dX12_spelled_29 rfl rfl ?_
    refine Ru_i2l (pc := 30) _ dX12_spelled_30 rfl ?_
    refine Ru_ladd (pc := 31) dX12_spelled_31 ?_
    refine Ru_ldc2 (pc := 32) dX12_spelled_32 tw_1619 ?_
    refine Ru_lsub (pc := 35) dX12_spelled_35 ?_
    refine Ru_goto (pc := 36) 41 dX12_spelled_36 (by decide) ?_
    refine Ru_lstore (pc := 41) dX12_spelled_41 rfl (by decide) ?_
    refine Ru_iload_n (pc := 43) dX12_spelled_43 rfl rfl ?_
    refine Ru_if_leN (pc := 44) 63 dX12_spelled_44 (by decide) (by omega) (fun h2 => ?_) (fun h2 => ?_)
    · exfalso
      omega
    · refine Ru_lload (pc := 47) dX12_spelled_47 rfl ?_
      refine Ru_ldc2 (pc := 49) dX12_spelled_49 tw_1618 ?_
      refine Ru_lmul (pc := 52) dX12_spelled_52 ?_
      refine Ru_iload_n (pc := 53) dX12_spelled_53 rfl rfl ?_
      refine Ru_i2l (pc := 54) _ dX12_spelled_54 rfl ?_
      refine Ru_ladd (pc := 55) dX12_spelled_55 ?_
      refine Ru_ldc2 (pc := 56) dX12_spelled_56 tw_1619 ?_
      refine Ru_lsub (pc := 59) dX12_spelled_59 ?_
      refine Ru_goto (pc := 60) 65 dX12_spelled_60 (by decide) ?_
      refine Ru_lstore (pc := 65) dX12_spelled_65 rfl (by decide) ?_
      refine Ru_iload (pc := 67) dX12_spelled_67 rfl ?_
      refine Ru_if_leN (pc := 69) 89 dX12_spelled_69 (by decide) (by omega) (fun h3 => ?_) (fun h3 => ?_)
      · exfalso
        omega
      · refine Ru_lload (pc := 72) dX12_spelled_72 rfl ?_
        refine Ru_ldc2 (pc := 74) dX12_spelled_74 tw_1618 ?_
        refine Ru_lmul (pc := 77) dX12_spelled_77 ?_
        refine Ru_iload (pc := 78) dX12_spelled_78 rfl ?_
        refine Ru_i2l (pc := 80) _ dX12_spelled_80 rfl ?_
        refine Ru_ladd (pc := 81) dX12_spelled_81 ?_
        refine Ru_ldc2 (pc := 82) dX12_spelled_82 tw_1619 ?_
        refine Ru_lsub (pc := 85) dX12_spelled_85 ?_
        refine Ru_goto (pc := 86) 91 dX12_spelled_86 (by decide) ?_
        refine Ru_lstore (pc := 91) dX12_spelled_91 rfl (by decide) ?_
        refine Ru_iload (pc := 93) dX12_spelled_93 rfl ?_
        refine Ru_if_leN (pc := 95) 115 dX12_spelled_95 (by decide) (by omega) (fun h4 => ?_) (fun h4 => ?_)
        · refine Ru_lload (pc := 115) dX12_spelled_115 rfl ?_
          refine Ru_lret (pc := 117) dX12_spelled_117 rfl ⟨Nat.le_refl _, Nat.le_refl _⟩ ?_
          rw [show (((((((((((((((nI 103)).toInt64 - 96) * 32) + ((nI 105)).toInt64) - 96) * 32) + ((nI 118)).toInt64) - 96) * 32) + ((nI 101)).toInt64) - 96) * 32) + ((nI 115)).toInt64) - 96) = nJ 7657651 from by decide +kernel]
          exact k
        · exfalso
          omega

theorem c_X12_sp_5 {Q : Rq} {M : Mem} (k : Q (some (.long (nJ 8902227))) GY M) : Ca 0 mt_X12_spelled 0 0 [.int (nI 104), .int (nI 111), .int (nI 117), .int (nI 114), .int (nI 115), .int (nI 0)] GY M Q := by
  refine Ca_of rfl (Nat.le_of_ble_eq_true rfl) ?_
  refine Ru_iload_n (pc := 0) dX12_spelled_0 rfl rfl ?_
  refine Ru_i2l (pc := 1) _ dX12_spelled_1 rfl ?_
  refine Ru_ldc2 (pc := 2) dX12_spelled_2 tw_1619 ?_
  refine Ru_lsub (pc := 5) dX12_spelled_5 ?_
  refine Ru_ldc2 (pc := 6) dX12_spelled_6 tw_1618 ?_
  refine Ru_lmul (pc := 9) dX12_spelled_9 ?_
  refine Ru_iload_n (pc := 10) dX12_spelled_10 rfl rfl ?_
  refine Ru_i2l (pc := 11) _ dX12_spelled_11 rfl ?_
  refine Ru_ladd (pc := 12) dX12_spelled_12 ?_
  refine Ru_ldc2 (pc := 13) dX12_spelled_13 tw_1619 ?_
  refine Ru_lsub (pc := 16) dX12_spelled_16 ?_
  refine Ru_lstore (pc := 17) dX12_spelled_17 rfl (by decide) ?_
  refine Ru_iload_n (pc := 19) dX12_spelled_19 rfl rfl ?_
  refine Ru_if_leN (pc := 20) 39 dX12_spelled_20 (by decide) (by omega) (fun h1 => ?_) (fun h1 => ?_)
  · exfalso
    omega
  · refine Ru_lload (pc := 23) dX12_spelled_23 rfl ?_
    refine Ru_ldc2 (pc := 25) dX12_spelled_25 tw_1618 ?_
    refine Ru_lmul (pc := 28) dX12_spelled_28 ?_
    refine Ru_iload_n (pc := 29) dX12_spelled_29 rfl rfl ?_
    refine Ru_i2l (pc := 30) _ dX12_spelled_30 rfl ?_
    refine Ru_ladd (pc := 31) dX12_spelled_31 ?_
    refine Ru_ldc2 (pc := 32) dX12_spelled_32 tw_1619 ?_
    refine Ru_lsub (pc := 35) dX12_spelled_35 ?_
    refine Ru_goto (pc := 36) 41 dX12_spelled_36 (by decide) ?_
    refine Ru_lstore (pc := 41) dX12_spelled_41 rfl (by decide) ?_
    refine Ru_iload_n (pc := 43) dX12_spelled_43 rfl rfl ?_
    refine Ru_if_leN (pc := 44) 63 dX12_spelled_44 (by decide) (by omega) (fun h2 => ?_) (fun h2 => ?_)
    · exfalso
      omega
    · refine Ru_lload (pc := 47) dX12_spelled_47 rfl ?_
      refine Ru_ldc2 (pc := 49) dX12_spelled_49 tw_1618 ?_
      refine Ru_lmul (pc := 52) dX12_spelled_52 ?_
      refine Ru_iload_n (pc := 53) dX12_spelled_53 rfl rfl ?_
      refine Ru_i2l (pc := 54) _ dX12_spelled_54 rfl ?_
      refine Ru_ladd (pc := 55) dX12_spelled_55 ?_
      refine Ru_ldc2 (pc := 56) dX12_spelled_56 tw_1619 ?_
      refine Ru_lsub (pc := 59) dX12_spelled_59 ?_
      refine Ru_goto (pc := 60) 65 dX12_spelled_60 (by decide) ?_
      refine Ru_lstore (pc := 65) dX12_spelled_65 rfl (by decide) ?_
      refine Ru_iload (pc := 67) dX12_spelled_67 rfl ?_
      refine Ru_if_leN (pc := 69) 89 dX12_spelled_69 (by decide) (by omega) (fun h3 => ?_) (fun h3 => ?_)
      · exfalso
        omega
      · refine Ru_lload (pc := 72) dX12_spelled_72 rfl ?_
        refine Ru_ldc2 (pc := 74) dX12_spelled_74 tw_1618 ?_
        refine Ru_lmul (pc := 77) dX12_spelled_77 ?_
        refine Ru_iload (pc := 78) dX12_spelled_78 rfl ?_
        refine Ru_i2l (pc := 80) _ dX12_spelled_80 rfl ?_
        refine Ru_ladd (pc := 81) dX12_spelled_81 ?_
        refine Ru_ldc2 (pc := 82) dX12_spelled_82 tw_1619 ?_
        refine Ru_lsub (pc := 85) dX12_spelled_85 ?_
        refine Ru_goto (pc := 86) 91 dX12_spelled_86 (by decide) ?_
        refine Ru_lstore (pc := 91) dX12_spelled_91 rfl (by decide) ?_
        refine Ru_iload (pc := 93) dX12_spelled_93 rfl ?_
        refine Ru_if_leN (pc := 95) 115 dX12_spelled_95 (by decide) (by omega) (fun h4 => ?_) (fun h4 => ?_)
        · refine Ru_lload (pc := 115) dX12_spelled_115 rfl ?_
          refine Ru_lret (pc := 117) dX12_spelled_117 rfl ⟨Nat.le_refl _, Nat.le_refl _⟩ ?_
          rw [show (((((((((((((((nI 104)).toInt64 - 96) * 32) + ((nI 111)).toInt64) - 96) * 32) + ((nI 117)).toInt64) - 96) * 32) + ((nI 114)).toInt64) - 96) * 32) + ((nI 115)).toInt64) - 96) = nJ 8902227 from by decide +kernel]
          exact k
        · exfalso
          omega

theorem c_X12_sp_6 {Q : Rq} {M : Mem} (k : Q (some (.long (nJ 8435859))) GY M) : Ca 0 mt_X12_spelled 0 0 [.int (nI 104), .int (nI 97), .int (nI 110), .int (nI 100), .int (nI 115), .int (nI 0)] GY M Q := by
  refine Ca_of rfl (Nat.le_of_ble_eq_true rfl) ?_
  refine Ru_iload_n (pc := 0) dX12_spelled_0 rfl rfl ?_
  refine Ru_i2l (pc := 1) _ dX12_spelled_1 rfl ?_
  refine Ru_ldc2 (pc := 2) dX12_spelled_2 tw_1619 ?_
  refine Ru_lsub (pc := 5) dX12_spelled_5 ?_
  refine Ru_ldc2 (pc := 6) dX12_spelled_6 tw_1618 ?_
  refine Ru_lmul (pc := 9) dX12_spelled_9 ?_
  refine Ru_iload_n (pc := 10) dX12_spelled_10 rfl rfl ?_
  refine Ru_i2l (pc := 11) _ dX12_spelled_11 rfl ?_
  refine Ru_ladd (pc := 12) dX12_spelled_12 ?_
  refine Ru_ldc2 (pc := 13) dX12_spelled_13 tw_1619 ?_
  refine Ru_lsub (pc := 16) dX12_spelled_16 ?_
  refine Ru_lstore (pc := 17) dX12_spelled_17 rfl (by decide) ?_
  refine Ru_iload_n (pc := 19) dX12_spelled_19 rfl rfl ?_
  refine Ru_if_leN (pc := 20) 39 dX12_spelled_20 (by decide) (by omega) (fun h1 => ?_) (fun h1 => ?_)
  · exfalso
    omega
  · refine Ru_lload (pc := 23) dX12_spelled_23 rfl ?_
    refine Ru_ldc2 (pc := 25) dX12_spelled_25 tw_1618 ?_
    refine Ru_lmul (pc := 28) dX12_spelled_28 ?_
    refine Ru_iload_n (pc := 29) dX12_spelled_29 rfl rfl ?_
    refine Ru_i2l (pc := 30) _ dX12_spelled_30 rfl ?_
    refine Ru_ladd (pc := 31) dX12_spelled_31 ?_
    refine Ru_ldc2 (pc := 32) dX12_spelled_32 tw_1619 ?_
    refine Ru_lsub (pc := 35) dX12_spelled_35 ?_
    refine Ru_goto (pc := 36) 41 dX12_spelled_36 (by decide) ?_
    refine Ru_lstore (pc := 41) dX12_spelled_41 rfl (by decide) ?_
    refine Ru_iload_n (pc := 43) dX12_spelled_43 rfl rfl ?_
    refine Ru_if_leN (pc := 44) 63 dX12_spelled_44 (by decide) (by omega) (fun h2 => ?_) (fun h2 => ?_)
    · exfalso
      omega
    · refine Ru_lload (pc := 47) dX12_spelled_47 rfl ?_
      refine Ru_ldc2 (pc := 49) dX12_spelled_49 tw_1618 ?_
      refine Ru_lmul (pc := 52) dX12_spelled_52 ?_
      refine Ru_iload_n (pc := 53) dX12_spelled_53 rfl rfl ?_
      refine Ru_i2l (pc := 54) _ dX12_spelled_54 rfl ?_
      refine Ru_ladd (pc := 55) dX12_spelled_55 ?_
      refine Ru_ldc2 (pc := 56) dX12_spelled_56 tw_1619 ?_
      refine Ru_lsub (pc := 59) dX12_spelled_59 ?_
      refine Ru_goto (pc := 60) 65 dX12_spelled_60 (by decide) ?_
      refine Ru_lstore (pc := 65) dX12_spelled_65 rfl (by decide) ?_
      refine Ru_iload (pc := 67) dX12_spelled_67 rfl ?_
      refine Ru_if_leN (pc := 69) 89 dX12_spelled_69 (by decide) (by omega) (fun h3 => ?_) (fun h3 => ?_)
      · exfalso
        omega
      · refine Ru_lload (pc := 72) dX12_spelled_72 rfl ?_
        refine Ru_ldc2 (pc := 74) dX12_spelled_74 tw_1618 ?_
        refine Ru_lmul (pc := 77) dX12_spelled_77 ?_
        refine Ru_iload (pc := 78) dX12_spelled_78 rfl ?_
        refine Ru_i2l (pc := 80) _ dX12_spelled_80 rfl ?_
        refine Ru_ladd (pc := 81) dX12_spelled_81 ?_
        refine Ru_ldc2 (pc := 82) dX12_spelled_82 tw_1619 ?_
        refine Ru_lsub (pc := 85) dX12_spelled_85 ?_
        refine Ru_goto (pc := 86) 91 dX12_spelled_86 (by decide) ?_
        refine Ru_lstore (pc := 91) dX12_spelled_91 rfl (by decide) ?_
        refine Ru_iload (pc := 93) dX12_spelled_93 rfl ?_
        refine Ru_if_leN (pc := 95) 115 dX12_spelled_95 (by decide) (by omega) (fun h4 => ?_) (fun h4 => ?_)
        · refine Ru_lload (pc := 115) dX12_spelled_115 rfl ?_
          refine Ru_lret (pc := 117) dX12_spelled_117 rfl ⟨Nat.le_refl _, Nat.le_refl _⟩ ?_
          rw [show (((((((((((((((nI 104)).toInt64 - 96) * 32) + ((nI 97)).toInt64) - 96) * 32) + ((nI 110)).toInt64) - 96) * 32) + ((nI 100)).toInt64) - 96) * 32) + ((nI 115)).toInt64) - 96) = nJ 8435859 from by decide +kernel]
          exact k
        · exfalso
          omega

theorem c_X12_sp_7 {Q : Rq} {M : Mem} (k : Q (some (.long (nJ 486))) GY M) : Ca 0 mt_X12_spelled 0 0 [.int (nI 111), .int (nI 102), .int (nI 0), .int (nI 0), .int (nI 0), .int (nI 0)] GY M Q := by
  refine Ca_of rfl (Nat.le_of_ble_eq_true rfl) ?_
  refine Ru_iload_n (pc := 0) dX12_spelled_0 rfl rfl ?_
  refine Ru_i2l (pc := 1) _ dX12_spelled_1 rfl ?_
  refine Ru_ldc2 (pc := 2) dX12_spelled_2 tw_1619 ?_
  refine Ru_lsub (pc := 5) dX12_spelled_5 ?_
  refine Ru_ldc2 (pc := 6) dX12_spelled_6 tw_1618 ?_
  refine Ru_lmul (pc := 9) dX12_spelled_9 ?_
  refine Ru_iload_n (pc := 10) dX12_spelled_10 rfl rfl ?_
  refine Ru_i2l (pc := 11) _ dX12_spelled_11 rfl ?_
  refine Ru_ladd (pc := 12) dX12_spelled_12 ?_
  refine Ru_ldc2 (pc := 13) dX12_spelled_13 tw_1619 ?_
  refine Ru_lsub (pc := 16) dX12_spelled_16 ?_
  refine Ru_lstore (pc := 17) dX12_spelled_17 rfl (by decide) ?_
  refine Ru_iload_n (pc := 19) dX12_spelled_19 rfl rfl ?_
  refine Ru_if_leN (pc := 20) 39 dX12_spelled_20 (by decide) (by omega) (fun h1 => ?_) (fun h1 => ?_)
  · refine Ru_lload (pc := 39) dX12_spelled_39 rfl ?_
    refine Ru_lstore (pc := 41) dX12_spelled_41 rfl (by decide) ?_
    refine Ru_iload_n (pc := 43) dX12_spelled_43 rfl rfl ?_
    refine Ru_if_leN (pc := 44) 63 dX12_spelled_44 (by decide) (by omega) (fun h2 => ?_) (fun h2 => ?_)
    · refine Ru_lload (pc := 63) dX12_spelled_63 rfl ?_
      refine Ru_lstore (pc := 65) dX12_spelled_65 rfl (by decide) ?_
      refine Ru_iload (pc := 67) dX12_spelled_67 rfl ?_
      refine Ru_if_leN (pc := 69) 89 dX12_spelled_69 (by decide) (by omega) (fun h3 => ?_) (fun h3 => ?_)
      · refine Ru_lload (pc := 89) dX12_spelled_89 rfl ?_
        refine Ru_lstore (pc := 91) dX12_spelled_91 rfl (by decide) ?_
        refine Ru_iload (pc := 93) dX12_spelled_93 rfl ?_
        refine Ru_if_leN (pc := 95) 115 dX12_spelled_95 (by decide) (by omega) (fun h4 => ?_) (fun h4 => ?_)
        · refine Ru_lload (pc := 115) dX12_spelled_115 rfl ?_
          refine Ru_lret (pc := 117) dX12_spelled_117 rfl ⟨Nat.le_refl _, Nat.le_refl _⟩ ?_
          rw [show ((((((nI 111)).toInt64 - 96) * 32) + ((nI 102)).toInt64) - 96) = nJ 486 from by decide +kernel]
          exact k
        · exfalso
          omega
      · exfalso
        omega
    · exfalso
      omega
  · exfalso
    omega

theorem c_X12_sp_8 {Q : Rq} {M : Mem} (k : Q (some (.long (nJ 763528))) GY M) : Ca 0 mt_X12_spelled 0 0 [.int (nI 119), .int (nI 105), .int (nI 116), .int (nI 104), .int (nI 0), .int (nI 0)] GY M Q := by
  refine Ca_of rfl (Nat.le_of_ble_eq_true rfl) ?_
  refine Ru_iload_n (pc := 0) dX12_spelled_0 rfl rfl ?_
  refine Ru_i2l (pc := 1) _ dX12_spelled_1 rfl ?_
  refine Ru_ldc2 (pc := 2) dX12_spelled_2 tw_1619 ?_
  refine Ru_lsub (pc := 5) dX12_spelled_5 ?_
  refine Ru_ldc2 (pc := 6) dX12_spelled_6 tw_1618 ?_
  refine Ru_lmul (pc := 9) dX12_spelled_9 ?_
  refine Ru_iload_n (pc := 10) dX12_spelled_10 rfl rfl ?_
  refine Ru_i2l (pc := 11) _ dX12_spelled_11 rfl ?_
  refine Ru_ladd (pc := 12) dX12_spelled_12 ?_
  refine Ru_ldc2 (pc := 13) dX12_spelled_13 tw_1619 ?_
  refine Ru_lsub (pc := 16) dX12_spelled_16 ?_
  refine Ru_lstore (pc := 17) dX12_spelled_17 rfl (by decide) ?_
  refine Ru_iload_n (pc := 19) dX12_spelled_19 rfl rfl ?_
  refine Ru_if_leN (pc := 20) 39 dX12_spelled_20 (by decide) (by omega) (fun h1 => ?_) (fun h1 => ?_)
  · exfalso
    omega
  · refine Ru_lload (pc := 23) dX12_spelled_23 rfl ?_
    refine Ru_ldc2 (pc := 25) dX12_spelled_25 tw_1618 ?_
    refine Ru_lmul (pc := 28) dX12_spelled_28 ?_
    refine Ru_iload_n (pc := 29) dX12_spelled_29 rfl rfl ?_
    refine Ru_i2l (pc := 30) _ dX12_spelled_30 rfl ?_
    refine Ru_ladd (pc := 31) dX12_spelled_31 ?_
    refine Ru_ldc2 (pc := 32) dX12_spelled_32 tw_1619 ?_
    refine Ru_lsub (pc := 35) dX12_spelled_35 ?_
    refine Ru_goto (pc := 36) 41 dX12_spelled_36 (by decide) ?_
    refine Ru_lstore (pc := 41) dX12_spelled_41 rfl (by decide) ?_
    refine Ru_iload_n (pc := 43) dX12_spelled_43 rfl rfl ?_
    refine Ru_if_leN (pc := 44) 63 dX12_spelled_44 (by decide) (by omega) (fun h2 => ?_) (fun h2 => ?_)
    · exfalso
      omega
    · refine Ru_lload (pc := 47) dX12_spelled_47 rfl ?_
      refine Ru_ldc2 (pc := 49) dX12_spelled_49 tw_1618 ?_
      refine Ru_lmul (pc := 52) dX12_spelled_52 ?_
      refine Ru_iload_n (pc := 53) dX12_spelled_53 rfl rfl ?_
      refine Ru_i2l (pc := 54) _ dX12_spelled_54 rfl ?_
      refine Ru_ladd (pc := 55) dX12_spelled_55 ?_
      refine Ru_ldc2 (pc := 56) dX12_spelled_56 tw_1619 ?_
      refine Ru_lsub (pc := 59) dX12_spelled_59 ?_
      refine Ru_goto (pc := 60) 65 dX12_spelled_60 (by decide) ?_
      refine Ru_lstore (pc := 65) dX12_spelled_65 rfl (by decide) ?_
      refine Ru_iload (pc := 67) dX12_spelled_67 rfl ?_
      refine Ru_if_leN (pc := 69) 89 dX12_spelled_69 (by decide) (by omega) (fun h3 => ?_) (fun h3 => ?_)
      · refine Ru_lload (pc := 89) dX12_spelled_89 rfl ?_
        refine Ru_lstore (pc := 91) dX12_spelled_91 rfl (by decide) ?_
        refine Ru_iload (pc := 93) dX12_spelled_93 rfl ?_
        refine Ru_if_leN (pc := 95) 115 dX12_spelled_95 (by decide) (by omega) (fun h4 => ?_) (fun h4 => ?_)
        · refine Ru_lload (pc := 115) dX12_spelled_115 rfl ?_
          refine Ru_lret (pc := 117) dX12_spelled_117 rfl ⟨Nat.le_refl _, Nat.le_refl _⟩ ?_
          rw [show ((((((((((((nI 119)).toInt64 - 96) * 32) + ((nI 105)).toInt64) - 96) * 32) + ((nI 116)).toInt64) - 96) * 32) + ((nI 104)).toInt64) - 96) = nJ 763528 from by decide +kernel]
          exact k
        · exfalso
          omega
      · exfalso
        omega

theorem c_X12_sp_9 {Q : Rq} {M : Mem} (k : Q (some (.long (nJ 542723566))) GY M) : Ca 0 mt_X12_spelled 0 0 [.int (nI 112), .int (nI 101), .int (nI 114), .int (nI 115), .int (nI 111), .int (nI 110)] GY M Q := by
  refine Ca_of rfl (Nat.le_of_ble_eq_true rfl) ?_
  refine Ru_iload_n (pc := 0) dX12_spelled_0 rfl rfl ?_
  refine Ru_i2l (pc := 1) _ dX12_spelled_1 rfl ?_
  refine Ru_ldc2 (pc := 2) dX12_spelled_2 tw_1619 ?_
  refine Ru_lsub (pc := 5) dX12_spelled_5 ?_
  refine Ru_ldc2 (pc := 6) dX12_spelled_6 tw_1618 ?_
  refine Ru_lmul (pc := 9) dX12_spelled_9 ?_
  refine Ru_iload_n (pc := 10) dX12_spelled_10 rfl rfl ?_
  refine Ru_i2l (pc := 11) _ dX12_spelled_11 rfl ?_
  refine Ru_ladd (pc := 12) dX12_spelled_12 ?_
  refine Ru_ldc2 (pc := 13) dX12_spelled_13 tw_1619 ?_
  refine Ru_lsub (pc := 16) dX12_spelled_16 ?_
  refine Ru_lstore (pc := 17) dX12_spelled_17 rfl (by decide) ?_
  refine Ru_iload_n (pc := 19) dX12_spelled_19 rfl rfl ?_
  refine Ru_if_leN (pc := 20) 39 dX12_spelled_20 (by decide) (by omega) (fun h1 => ?_) (fun h1 => ?_)
  · exfalso
    omega
  · refine Ru_lload (pc := 23) dX12_spelled_23 rfl ?_
    refine Ru_ldc2 (pc := 25) dX12_spelled_25 tw_1618 ?_
    refine Ru_lmul (pc := 28) dX12_spelled_28 ?_
    refine Ru_iload_n (pc := 29) dX12_spelled_29 rfl rfl ?_
    refine Ru_i2l (pc := 30) _ dX12_spelled_30 rfl ?_
    refine Ru_ladd (pc := 31) dX12_spelled_31 ?_
    refine Ru_ldc2 (pc := 32) dX12_spelled_32 tw_1619 ?_
    refine Ru_lsub (pc := 35) dX12_spelled_35 ?_
    refine Ru_goto (pc := 36) 41 dX12_spelled_36 (by decide) ?_
    refine Ru_lstore (pc := 41) dX12_spelled_41 rfl (by decide) ?_
    refine Ru_iload_n (pc := 43) dX12_spelled_43 rfl rfl ?_
    refine Ru_if_leN (pc := 44) 63 dX12_spelled_44 (by decide) (by omega) (fun h2 => ?_) (fun h2 => ?_)
    · exfalso
      omega
    · refine Ru_lload (pc := 47) dX12_spelled_47 rfl ?_
      refine Ru_ldc2 (pc := 49) dX12_spelled_49 tw_1618 ?_
      refine Ru_lmul (pc := 52) dX12_spelled_52 ?_
      refine Ru_iload_n (pc := 53) dX12_spelled_53 rfl rfl ?_
      refine Ru_i2l (pc := 54) _ dX12_spelled_54 rfl ?_
      refine Ru_ladd (pc := 55) dX12_spelled_55 ?_
      refine Ru_ldc2 (pc := 56) dX12_spelled_56 tw_1619 ?_
      refine Ru_lsub (pc := 59) dX12_spelled_59 ?_
      refine Ru_goto (pc := 60) 65 dX12_spelled_60 (by decide) ?_
      refine Ru_lstore (pc := 65) dX12_spelled_65 rfl (by decide) ?_
      refine Ru_iload (pc := 67) dX12_spelled_67 rfl ?_
      refine Ru_if_leN (pc := 69) 89 dX12_spelled_69 (by decide) (by omega) (fun h3 => ?_) (fun h3 => ?_)
      · exfalso
        omega
      · refine Ru_lload (pc := 72) dX12_spelled_72 rfl ?_
        refine Ru_ldc2 (pc := 74) dX12_spelled_74 tw_1618 ?_
        refine Ru_lmul (pc := 77) dX12_spelled_77 ?_
        refine Ru_iload (pc := 78) dX12_spelled_78 rfl ?_
        refine Ru_i2l (pc := 80) _ dX12_spelled_80 rfl ?_
        refine Ru_ladd (pc := 81) dX12_spelled_81 ?_
        refine Ru_ldc2 (pc := 82) dX12_spelled_82 tw_1619 ?_
        refine Ru_lsub (pc := 85) dX12_spelled_85 ?_
        refine Ru_goto (pc := 86) 91 dX12_spelled_86 (by decide) ?_
        refine Ru_lstore (pc := 91) dX12_spelled_91 rfl (by decide) ?_
        refine Ru_iload (pc := 93) dX12_spelled_93 rfl ?_
        refine Ru_if_leN (pc := 95) 115 dX12_spelled_95 (by decide) (by omega) (fun h4 => ?_) (fun h4 => ?_)
        · exfalso
          omega
        · refine Ru_lload (pc := 98) dX12_spelled_98 rfl ?_
          refine Ru_ldc2 (pc := 100) dX12_spelled_100 tw_1618 ?_
          refine Ru_lmul (pc := 103) dX12_spelled_103 ?_
          refine Ru_iload (pc := 104) dX12_spelled_104 rfl ?_
          refine Ru_i2l (pc := 106) _ dX12_spelled_106 rfl ?_
          refine Ru_ladd (pc := 107) dX12_spelled_107 ?_
          refine Ru_ldc2 (pc := 108) dX12_spelled_108 tw_1619 ?_
          refine Ru_lsub (pc := 111) dX12_spelled_111 ?_
          refine Ru_goto (pc := 112) 117 dX12_spelled_112 (by decide) ?_
          refine Ru_lret (pc := 117) dX12_spelled_117 rfl ⟨Nat.le_refl _, Nat.le_refl _⟩ ?_
          rw [show ((((((((((((((((((nI 112)).toInt64 - 96) * 32) + ((nI 101)).toInt64) - 96) * 32) + ((nI 114)).toInt64) - 96) * 32) + ((nI 115)).toInt64) - 96) * 32) + ((nI 111)).toInt64) - 96) * 32) + ((nI 110)).toInt64) - 96) = nJ 542723566 from by decide +kernel]
          exact k

theorem c_X12_sp_10 {Q : Rq} {M : Mem} (k : Q (some (.long (nJ 215533))) GY M) : Ca 0 mt_X12_spelled 0 0 [.int (nI 102), .int (nI 114), .int (nI 111), .int (nI 109), .int (nI 0), .int (nI 0)] GY M Q := by
  refine Ca_of rfl (Nat.le_of_ble_eq_true rfl) ?_
  refine Ru_iload_n (pc := 0) dX12_spelled_0 rfl rfl ?_
  refine Ru_i2l (pc := 1) _ dX12_spelled_1 rfl ?_
  refine Ru_ldc2 (pc := 2) dX12_spelled_2 tw_1619 ?_
  refine Ru_lsub (pc := 5) dX12_spelled_5 ?_
  refine Ru_ldc2 (pc := 6) dX12_spelled_6 tw_1618 ?_
  refine Ru_lmul (pc := 9) dX12_spelled_9 ?_
  refine Ru_iload_n (pc := 10) dX12_spelled_10 rfl rfl ?_
  refine Ru_i2l (pc := 11) _ dX12_spelled_11 rfl ?_
  refine Ru_ladd (pc := 12) dX12_spelled_12 ?_
  refine Ru_ldc2 (pc := 13) dX12_spelled_13 tw_1619 ?_
  refine Ru_lsub (pc := 16) dX12_spelled_16 ?_
  refine Ru_lstore (pc := 17) dX12_spelled_17 rfl (by decide) ?_
  refine Ru_iload_n (pc := 19) dX12_spelled_19 rfl rfl ?_
  refine Ru_if_leN (pc := 20) 39 dX12_spelled_20 (by decide) (by omega) (fun h1 => ?_) (fun h1 => ?_)
  · exfalso
    omega
  · refine Ru_lload (pc := 23) dX12_spelled_23 rfl ?_
    refine Ru_ldc2 (pc := 25) dX12_spelled_25 tw_1618 ?_
    refine Ru_lmul (pc := 28) dX12_spelled_28 ?_
    refine Ru_iload_n (pc := 29) dX12_spelled_29 rfl rfl ?_
    refine Ru_i2l (pc := 30) _ dX12_spelled_30 rfl ?_
    refine Ru_ladd (pc := 31) dX12_spelled_31 ?_
    refine Ru_ldc2 (pc := 32) dX12_spelled_32 tw_1619 ?_
    refine Ru_lsub (pc := 35) dX12_spelled_35 ?_
    refine Ru_goto (pc := 36) 41 dX12_spelled_36 (by decide) ?_
    refine Ru_lstore (pc := 41) dX12_spelled_41 rfl (by decide) ?_
    refine Ru_iload_n (pc := 43) dX12_spelled_43 rfl rfl ?_
    refine Ru_if_leN (pc := 44) 63 dX12_spelled_44 (by decide) (by omega) (fun h2 => ?_) (fun h2 => ?_)
    · exfalso
      omega
    · refine Ru_lload (pc := 47) dX12_spelled_47 rfl ?_
      refine Ru_ldc2 (pc := 49) dX12_spelled_49 tw_1618 ?_
      refine Ru_lmul (pc := 52) dX12_spelled_52 ?_
      refine Ru_iload_n (pc := 53) dX12_spelled_53 rfl rfl ?_
      refine Ru_i2l (pc := 54) _ dX12_spelled_54 rfl ?_
      refine Ru_ladd (pc := 55) dX12_spelled_55 ?_
      refine Ru_ldc2 (pc := 56) dX12_spelled_56 tw_1619 ?_
      refine Ru_lsub (pc := 59) dX12_spelled_59 ?_
      refine Ru_goto (pc := 60) 65 dX12_spelled_60 (by decide) ?_
      refine Ru_lstore (pc := 65) dX12_spelled_65 rfl (by decide) ?_
      refine Ru_iload (pc := 67) dX12_spelled_67 rfl ?_
      refine Ru_if_leN (pc := 69) 89 dX12_spelled_69 (by decide) (by omega) (fun h3 => ?_) (fun h3 => ?_)
      · refine Ru_lload (pc := 89) dX12_spelled_89 rfl ?_
        refine Ru_lstore (pc := 91) dX12_spelled_91 rfl (by decide) ?_
        refine Ru_iload (pc := 93) dX12_spelled_93 rfl ?_
        refine Ru_if_leN (pc := 95) 115 dX12_spelled_95 (by decide) (by omega) (fun h4 => ?_) (fun h4 => ?_)
        · refine Ru_lload (pc := 115) dX12_spelled_115 rfl ?_
          refine Ru_lret (pc := 117) dX12_spelled_117 rfl ⟨Nat.le_refl _, Nat.le_refl _⟩ ?_
          rw [show ((((((((((((nI 102)).toInt64 - 96) * 32) + ((nI 114)).toInt64) - 96) * 32) + ((nI 111)).toInt64) - 96) * 32) + ((nI 109)).toInt64) - 96) = nJ 215533 from by decide +kernel]
          exact k
        · exfalso
          omega
      · exfalso
        omega

theorem c_X12_sp_11 {Q : Rq} {M : Mem} (k : Q (some (.long (nJ 655))) GY M) : Ca 0 mt_X12_spelled 0 0 [.int (nI 116), .int (nI 111), .int (nI 0), .int (nI 0), .int (nI 0), .int (nI 0)] GY M Q := by
  refine Ca_of rfl (Nat.le_of_ble_eq_true rfl) ?_
  refine Ru_iload_n (pc := 0) dX12_spelled_0 rfl rfl ?_
  refine Ru_i2l (pc := 1) _ dX12_spelled_1 rfl ?_
  refine Ru_ldc2 (pc := 2) dX12_spelled_2 tw_1619 ?_
  refine Ru_lsub (pc := 5) dX12_spelled_5 ?_
  refine Ru_ldc2 (pc := 6) dX12_spelled_6 tw_1618 ?_
  refine Ru_lmul (pc := 9) dX12_spelled_9 ?_
  refine Ru_iload_n (pc := 10) dX12_spelled_10 rfl rfl ?_
  refine Ru_i2l (pc := 11) _ dX12_spelled_11 rfl ?_
  refine Ru_ladd (pc := 12) dX12_spelled_12 ?_
  refine Ru_ldc2 (pc := 13) dX12_spelled_13 tw_1619 ?_
  refine Ru_lsub (pc := 16) dX12_spelled_16 ?_
  refine Ru_lstore (pc := 17) dX12_spelled_17 rfl (by decide) ?_
  refine Ru_iload_n (pc := 19) dX12_spelled_19 rfl rfl ?_
  refine Ru_if_leN (pc := 20) 39 dX12_spelled_20 (by decide) (by omega) (fun h1 => ?_) (fun h1 => ?_)
  · refine Ru_lload (pc := 39) dX12_spelled_39 rfl ?_
    refine Ru_lstore (pc := 41) dX12_spelled_41 rfl (by decide) ?_
    refine Ru_iload_n (pc := 43) dX12_spelled_43 rfl rfl ?_
    refine Ru_if_leN (pc := 44) 63 dX12_spelled_44 (by decide) (by omega) (fun h2 => ?_) (fun h2 => ?_)
    · refine Ru_lload (pc := 63) dX12_spelled_63 rfl ?_
      refine Ru_lstore (pc := 65) dX12_spelled_65 rfl (by decide) ?_
      refine Ru_iload (pc := 67) dX12_spelled_67 rfl ?_
      refine Ru_if_leN (pc := 69) 89 dX12_spelled_69 (by decide) (by omega) (fun h3 => ?_) (fun h3 => ?_)
      · refine Ru_lload (pc := 89) dX12_spelled_89 rfl ?_
        refine Ru_lstore (pc := 91) dX12_spelled_91 rfl (by decide) ?_
        refine Ru_iload (pc := 93) dX12_spelled_93 rfl ?_
        refine Ru_if_leN (pc := 95) 115 dX12_spelled_95 (by decide) (by omega) (fun h4 => ?_) (fun h4 => ?_)
        · refine Ru_lload (pc := 115) dX12_spelled_115 rfl ?_
          refine Ru_lret (pc := 117) dX12_spelled_117 rfl ⟨Nat.le_refl _, Nat.le_refl _⟩ ?_
          rw [show ((((((nI 116)).toInt64 - 96) * 32) + ((nI 111)).toInt64) - 96) = nJ 655 from by decide +kernel]
          exact k
        · exfalso
          omega
      · exfalso
        omega
    · exfalso
      omega
  · exfalso
    omega

theorem c_X12_sp_12 {Q : Rq} {M : Mem} (k : Q (some (.long (nJ 9612))) GY M) : Ca 0 mt_X12_spelled 0 0 [.int (nI 105), .int (nI 108), .int (nI 108), .int (nI 0), .int (nI 0), .int (nI 0)] GY M Q := by
  refine Ca_of rfl (Nat.le_of_ble_eq_true rfl) ?_
  refine Ru_iload_n (pc := 0) dX12_spelled_0 rfl rfl ?_
  refine Ru_i2l (pc := 1) _ dX12_spelled_1 rfl ?_
  refine Ru_ldc2 (pc := 2) dX12_spelled_2 tw_1619 ?_
  refine Ru_lsub (pc := 5) dX12_spelled_5 ?_
  refine Ru_ldc2 (pc := 6) dX12_spelled_6 tw_1618 ?_
  refine Ru_lmul (pc := 9) dX12_spelled_9 ?_
  refine Ru_iload_n (pc := 10) dX12_spelled_10 rfl rfl ?_
  refine Ru_i2l (pc := 11) _ dX12_spelled_11 rfl ?_
  refine Ru_ladd (pc := 12) dX12_spelled_12 ?_
  refine Ru_ldc2 (pc := 13) dX12_spelled_13 tw_1619 ?_
  refine Ru_lsub (pc := 16) dX12_spelled_16 ?_
  refine Ru_lstore (pc := 17) dX12_spelled_17 rfl (by decide) ?_
  refine Ru_iload_n (pc := 19) dX12_spelled_19 rfl rfl ?_
  refine Ru_if_leN (pc := 20) 39 dX12_spelled_20 (by decide) (by omega) (fun h1 => ?_) (fun h1 => ?_)
  · exfalso
    omega
  · refine Ru_lload (pc := 23) dX12_spelled_23 rfl ?_
    refine Ru_ldc2 (pc := 25) dX12_spelled_25 tw_1618 ?_
    refine Ru_lmul (pc := 28) dX12_spelled_28 ?_
    refine Ru_iload_n (pc := 29) dX12_spelled_29 rfl rfl ?_
    refine Ru_i2l (pc := 30) _ dX12_spelled_30 rfl ?_
    refine Ru_ladd (pc := 31) dX12_spelled_31 ?_
    refine Ru_ldc2 (pc := 32) dX12_spelled_32 tw_1619 ?_
    refine Ru_lsub (pc := 35) dX12_spelled_35 ?_
    refine Ru_goto (pc := 36) 41 dX12_spelled_36 (by decide) ?_
    refine Ru_lstore (pc := 41) dX12_spelled_41 rfl (by decide) ?_
    refine Ru_iload_n (pc := 43) dX12_spelled_43 rfl rfl ?_
    refine Ru_if_leN (pc := 44) 63 dX12_spelled_44 (by decide) (by omega) (fun h2 => ?_) (fun h2 => ?_)
    · refine Ru_lload (pc := 63) dX12_spelled_63 rfl ?_
      refine Ru_lstore (pc := 65) dX12_spelled_65 rfl (by decide) ?_
      refine Ru_iload (pc := 67) dX12_spelled_67 rfl ?_
      refine Ru_if_leN (pc := 69) 89 dX12_spelled_69 (by decide) (by omega) (fun h3 => ?_) (fun h3 => ?_)
      · refine Ru_lload (pc := 89) dX12_spelled_89 rfl ?_
        refine Ru_lstore (pc := 91) dX12_spelled_91 rfl (by decide) ?_
        refine Ru_iload (pc := 93) dX12_spelled_93 rfl ?_
        refine Ru_if_leN (pc := 95) 115 dX12_spelled_95 (by decide) (by omega) (fun h4 => ?_) (fun h4 => ?_)
        · refine Ru_lload (pc := 115) dX12_spelled_115 rfl ?_
          refine Ru_lret (pc := 117) dX12_spelled_117 rfl ⟨Nat.le_refl _, Nat.le_refl _⟩ ?_
          rw [show (((((((((nI 105)).toInt64 - 96) * 32) + ((nI 108)).toInt64) - 96) * 32) + ((nI 108)).toInt64) - 96) = nJ 9612 from by decide +kernel]
          exact k
        · exfalso
          omega
      · exfalso
        omega
    · exfalso
      omega

theorem c_X12_sp_13 {Q : Rq} {M : Mem} (k : Q (some (.long (nJ 755156))) GY M) : Ca 0 mt_X12_spelled 0 0 [.int (nI 119), .int (nI 97), .int (nI 110), .int (nI 116), .int (nI 0), .int (nI 0)] GY M Q := by
  refine Ca_of rfl (Nat.le_of_ble_eq_true rfl) ?_
  refine Ru_iload_n (pc := 0) dX12_spelled_0 rfl rfl ?_
  refine Ru_i2l (pc := 1) _ dX12_spelled_1 rfl ?_
  refine Ru_ldc2 (pc := 2) dX12_spelled_2 tw_1619 ?_
  refine Ru_lsub (pc := 5) dX12_spelled_5 ?_
  refine Ru_ldc2 (pc := 6) dX12_spelled_6 tw_1618 ?_
  refine Ru_lmul (pc := 9) dX12_spelled_9 ?_
  refine Ru_iload_n (pc := 10) dX12_spelled_10 rfl rfl ?_
  refine Ru_i2l (pc := 11) _ dX12_spelled_11 rfl ?_
  refine Ru_ladd (pc := 12) dX12_spelled_12 ?_
  refine Ru_ldc2 (pc := 13) dX12_spelled_13 tw_1619 ?_
  refine Ru_lsub (pc := 16) dX12_spelled_16 ?_
  refine Ru_lstore (pc := 17) dX12_spelled_17 rfl (by decide) ?_
  refine Ru_iload_n (pc := 19) dX12_spelled_19 rfl rfl ?_
  refine Ru_if_leN (pc := 20) 39 dX12_spelled_20 (by decide) (by omega) (fun h1 => ?_) (fun h1 => ?_)
  · exfalso
    omega
  · refine Ru_lload (pc := 23) dX12_spelled_23 rfl ?_
    refine Ru_ldc2 (pc := 25) dX12_spelled_25 tw_1618 ?_
    refine Ru_lmul (pc := 28) dX12_spelled_28 ?_
    refine Ru_iload_n (pc := 29) dX12_spelled_29 rfl rfl ?_
    refine Ru_i2l (pc := 30) _ dX12_spelled_30 rfl ?_
    refine Ru_ladd (pc := 31) dX12_spelled_31 ?_
    refine Ru_ldc2 (pc := 32) dX12_spelled_32 tw_1619 ?_
    refine Ru_lsub (pc := 35) dX12_spelled_35 ?_
    refine Ru_goto (pc := 36) 41 dX12_spelled_36 (by decide) ?_
    refine Ru_lstore (pc := 41) dX12_spelled_41 rfl (by decide) ?_
    refine Ru_iload_n (pc := 43) dX12_spelled_43 rfl rfl ?_
    refine Ru_if_leN (pc := 44) 63 dX12_spelled_44 (by decide) (by omega) (fun h2 => ?_) (fun h2 => ?_)
    · exfalso
      omega
    · refine Ru_lload (pc := 47) dX12_spelled_47 rfl ?_
      refine Ru_ldc2 (pc := 49) dX12_spelled_49 tw_1618 ?_
      refine Ru_lmul (pc := 52) dX12_spelled_52 ?_
      refine Ru_iload_n (pc := 53) dX12_spelled_53 rfl rfl ?_
      refine Ru_i2l (pc := 54) _ dX12_spelled_54 rfl ?_
      refine Ru_ladd (pc := 55) dX12_spelled_55 ?_
      refine Ru_ldc2 (pc := 56) dX12_spelled_56 tw_1619 ?_
      refine Ru_lsub (pc := 59) dX12_spelled_59 ?_
      refine Ru_goto (pc := 60) 65 dX12_spelled_60 (by decide) ?_
      refine Ru_lstore (pc := 65) dX12_spelled_65 rfl (by decide) ?_
      refine Ru_iload (pc := 67) dX12_spelled_67 rfl ?_
      refine Ru_if_leN (pc := 69) 89 dX12_spelled_69 (by decide) (by omega) (fun h3 => ?_) (fun h3 => ?_)
      · refine Ru_lload (pc := 89) dX12_spelled_89 rfl ?_
        refine Ru_lstore (pc := 91) dX12_spelled_91 rfl (by decide) ?_
        refine Ru_iload (pc := 93) dX12_spelled_93 rfl ?_
        refine Ru_if_leN (pc := 95) 115 dX12_spelled_95 (by decide) (by omega) (fun h4 => ?_) (fun h4 => ?_)
        · refine Ru_lload (pc := 115) dX12_spelled_115 rfl ?_
          refine Ru_lret (pc := 117) dX12_spelled_117 rfl ⟨Nat.le_refl _, Nat.le_refl _⟩ ?_
          rw [show ((((((((((((nI 119)).toInt64 - 96) * 32) + ((nI 97)).toInt64) - 96) * 32) + ((nI 110)).toInt64) - 96) * 32) + ((nI 116)).toInt64) - 96) = nJ 755156 from by decide +kernel]
          exact k
        · exfalso
          omega
      · exfalso
        omega

theorem c_X12_sp_14 {Q : Rq} {M : Mem} (k : Q (some (.long (nJ 52))) GY M) : Ca 0 mt_X12_spelled 0 0 [.int (nI 97), .int (nI 116), .int (nI 0), .int (nI 0), .int (nI 0), .int (nI 0)] GY M Q := by
  refine Ca_of rfl (Nat.le_of_ble_eq_true rfl) ?_
  refine Ru_iload_n (pc := 0) dX12_spelled_0 rfl rfl ?_
  refine Ru_i2l (pc := 1) _ dX12_spelled_1 rfl ?_
  refine Ru_ldc2 (pc := 2) dX12_spelled_2 tw_1619 ?_
  refine Ru_lsub (pc := 5) dX12_spelled_5 ?_
  refine Ru_ldc2 (pc := 6) dX12_spelled_6 tw_1618 ?_
  refine Ru_lmul (pc := 9) dX12_spelled_9 ?_
  refine Ru_iload_n (pc := 10) dX12_spelled_10 rfl rfl ?_
  refine Ru_i2l (pc := 11) _ dX12_spelled_11 rfl ?_
  refine Ru_ladd (pc := 12) dX12_spelled_12 ?_
  refine Ru_ldc2 (pc := 13) dX12_spelled_13 tw_1619 ?_
  refine Ru_lsub (pc := 16) dX12_spelled_16 ?_
  refine Ru_lstore (pc := 17) dX12_spelled_17 rfl (by decide) ?_
  refine Ru_iload_n (pc := 19) dX12_spelled_19 rfl rfl ?_
  refine Ru_if_leN (pc := 20) 39 dX12_spelled_20 (by decide) (by omega) (fun h1 => ?_) (fun h1 => ?_)
  · refine Ru_lload (pc := 39) dX12_spelled_39 rfl ?_
    refine Ru_lstore (pc := 41) dX12_spelled_41 rfl (by decide) ?_
    refine Ru_iload_n (pc := 43) dX12_spelled_43 rfl rfl ?_
    refine Ru_if_leN (pc := 44) 63 dX12_spelled_44 (by decide) (by omega) (fun h2 => ?_) (fun h2 => ?_)
    · refine Ru_lload (pc := 63) dX12_spelled_63 rfl ?_
      refine Ru_lstore (pc := 65) dX12_spelled_65 rfl (by decide) ?_
      refine Ru_iload (pc := 67) dX12_spelled_67 rfl ?_
      refine Ru_if_leN (pc := 69) 89 dX12_spelled_69 (by decide) (by omega) (fun h3 => ?_) (fun h3 => ?_)
      · refine Ru_lload (pc := 89) dX12_spelled_89 rfl ?_
        refine Ru_lstore (pc := 91) dX12_spelled_91 rfl (by decide) ?_
        refine Ru_iload (pc := 93) dX12_spelled_93 rfl ?_
        refine Ru_if_leN (pc := 95) 115 dX12_spelled_95 (by decide) (by omega) (fun h4 => ?_) (fun h4 => ?_)
        · refine Ru_lload (pc := 115) dX12_spelled_115 rfl ?_
          refine Ru_lret (pc := 117) dX12_spelled_117 rfl ⟨Nat.le_refl _, Nat.le_refl _⟩ ?_
          rw [show ((((((nI 97)).toInt64 - 96) * 32) + ((nI 116)).toInt64) - 96) = nJ 52 from by decide +kernel]
          exact k
        · exfalso
          omega
      · exfalso
        omega
    · exfalso
      omega
  · exfalso
    omega

theorem c_X12_sp_15 {Q : Rq} {M : Mem} (k : Q (some (.long (nJ 24627848))) GY M) : Ca 0 mt_X12_spelled 0 0 [.int (nI 119), .int (nI 111), .int (nI 114), .int (nI 116), .int (nI 104), .int (nI 0)] GY M Q := by
  refine Ca_of rfl (Nat.le_of_ble_eq_true rfl) ?_
  refine Ru_iload_n (pc := 0) dX12_spelled_0 rfl rfl ?_
  refine Ru_i2l (pc := 1) _ dX12_spelled_1 rfl ?_
  refine Ru_ldc2 (pc := 2) dX12_spelled_2 tw_1619 ?_
  refine Ru_lsub (pc := 5) dX12_spelled_5 ?_
  refine Ru_ldc2 (pc := 6) dX12_spelled_6 tw_1618 ?_
  refine Ru_lmul (pc := 9) dX12_spelled_9 ?_
  refine Ru_iload_n (pc := 10) dX12_spelled_10 rfl rfl ?_
  refine Ru_i2l (pc := 11) _ dX12_spelled_11 rfl ?_
  refine Ru_ladd (pc := 12) dX12_spelled_12 ?_
  refine Ru_ldc2 (pc := 13) dX12_spelled_13 tw_1619 ?_
  refine Ru_lsub (pc := 16) dX12_spelled_16 ?_
  refine Ru_lstore (pc := 17) dX12_spelled_17 rfl (by decide) ?_
  refine Ru_iload_n (pc := 19) dX12_spelled_19 rfl rfl ?_
  refine Ru_if_leN (pc := 20) 39 dX12_spelled_20 (by decide) (by omega) (fun h1 => ?_) (fun h1 => ?_)
  · exfalso
    omega
  · refine Ru_lload (pc := 23) dX12_spelled_23 rfl ?_
    refine Ru_ldc2 (pc := 25) dX12_spelled_25 tw_1618 ?_
    refine Ru_lmul (pc := 28) dX12_spelled_28 ?_
    refine Ru_iload_n (pc := 29) dX12_spelled_29 rfl rfl ?_
    refine Ru_i2l (pc := 30) _ dX12_spelled_30 rfl ?_
    refine Ru_ladd (pc := 31) dX12_spelled_31 ?_
    refine Ru_ldc2 (pc := 32) dX12_spelled_32 tw_1619 ?_
    refine Ru_lsub (pc := 35) dX12_spelled_35 ?_
    refine Ru_goto (pc := 36) 41 dX12_spelled_36 (by decide) ?_
    refine Ru_lstore (pc := 41) dX12_spelled_41 rfl (by decide) ?_
    refine Ru_iload_n (pc := 43) dX12_spelled_43 rfl rfl ?_
    refine Ru_if_leN (pc := 44) 63 dX12_spelled_44 (by decide) (by omega) (fun h2 => ?_) (fun h2 => ?_)
    · exfalso
      omega
    · refine Ru_lload (pc := 47) dX12_spelled_47 rfl ?_
      refine Ru_ldc2 (pc := 49) dX12_spelled_49 tw_1618 ?_
      refine Ru_lmul (pc := 52) dX12_spelled_52 ?_
      refine Ru_iload_n (pc := 53) dX12_spelled_53 rfl rfl ?_
      refine Ru_i2l (pc := 54) _ dX12_spelled_54 rfl ?_
      refine Ru_ladd (pc := 55) dX12_spelled_55 ?_
      refine Ru_ldc2 (pc := 56) dX12_spelled_56 tw_1619 ?_
      refine Ru_lsub (pc := 59) dX12_spelled_59 ?_
      refine Ru_goto (pc := 60) 65 dX12_spelled_60 (by decide) ?_
      refine Ru_lstore (pc := 65) dX12_spelled_65 rfl (by decide) ?_
      refine Ru_iload (pc := 67) dX12_spelled_67 rfl ?_
      refine Ru_if_leN (pc := 69) 89 dX12_spelled_69 (by decide) (by omega) (fun h3 => ?_) (fun h3 => ?_)
      · exfalso
        omega
      · refine Ru_lload (pc := 72) dX12_spelled_72 rfl ?_
        refine Ru_ldc2 (pc := 74) dX12_spelled_74 tw_1618 ?_
        refine Ru_lmul (pc := 77) dX12_spelled_77 ?_
        refine Ru_iload (pc := 78) dX12_spelled_78 rfl ?_
        refine Ru_i2l (pc := 80) _ dX12_spelled_80 rfl ?_
        refine Ru_ladd (pc := 81) dX12_spelled_81 ?_
        refine Ru_ldc2 (pc := 82) dX12_spelled_82 tw_1619 ?_
        refine Ru_lsub (pc := 85) dX12_spelled_85 ?_
        refine Ru_goto (pc := 86) 91 dX12_spelled_86 (by decide) ?_
        refine Ru_lstore (pc := 91) dX12_spelled_91 rfl (by decide) ?_
        refine Ru_iload (pc := 93) dX12_spelled_93 rfl ?_
        refine Ru_if_leN (pc := 95) 115 dX12_spelled_95 (by decide) (by omega) (fun h4 => ?_) (fun h4 => ?_)
        · refine Ru_lload (pc := 115) dX12_spelled_115 rfl ?_
          refine Ru_lret (pc := 117) dX12_spelled_117 rfl ⟨Nat.le_refl _, Nat.le_refl _⟩ ?_
          rw [show (((((((((((((((nI 119)).toInt64 - 96) * 32) + ((nI 111)).toInt64) - 96) * 32) + ((nI 114)).toInt64) - 96) * 32) + ((nI 116)).toInt64) - 96) * 32) + ((nI 104)).toInt64) - 96) = nJ 24627848 from by decide +kernel]
          exact k
        · exfalso
          omega

theorem c_X12_sp_16 {Q : Rq} {M : Mem} (k : Q (some (.long (nJ 5296302))) GY M) : Ca 0 mt_X12_spelled 0 0 [.int (nI 101), .int (nI 97), .int (nI 116), .int (nI 101), .int (nI 110), .int (nI 0)] GY M Q := by
  refine Ca_of rfl (Nat.le_of_ble_eq_true rfl) ?_
  refine Ru_iload_n (pc := 0) dX12_spelled_0 rfl rfl ?_
  refine Ru_i2l (pc := 1) _ dX12_spelled_1 rfl ?_
  refine Ru_ldc2 (pc := 2) dX12_spelled_2 tw_1619 ?_
  refine Ru_lsub (pc := 5) dX12_spelled_5 ?_
  refine Ru_ldc2 (pc := 6) dX12_spelled_6 tw_1618 ?_
  refine Ru_lmul (pc := 9) dX12_spelled_9 ?_
  refine Ru_iload_n (pc := 10) dX12_spelled_10 rfl rfl ?_
  refine Ru_i2l (pc := 11) _ dX12_spelled_11 rfl ?_
  refine Ru_ladd (pc := 12) dX12_spelled_12 ?_
  refine Ru_ldc2 (pc := 13) dX12_spelled_13 tw_1619 ?_
  refine Ru_lsub (pc := 16) dX12_spelled_16 ?_
  refine Ru_lstore (pc := 17) dX12_spelled_17 rfl (by decide) ?_
  refine Ru_iload_n (pc := 19) dX12_spelled_19 rfl rfl ?_
  refine Ru_if_leN (pc := 20) 39 dX12_spelled_20 (by decide) (by omega) (fun h1 => ?_) (fun h1 => ?_)
  · exfalso
    omega
  · refine Ru_lload (pc := 23) dX12_spelled_23 rfl ?_
    refine Ru_ldc2 (pc := 25) dX12_spelled_25 tw_1618 ?_
    refine Ru_lmul (pc := 28) dX12_spelled_28 ?_
    refine Ru_iload_n (pc := 29) dX12_spelled_29 rfl rfl ?_
    refine Ru_i2l (pc := 30) _ dX12_spelled_30 rfl ?_
    refine Ru_ladd (pc := 31) dX12_spelled_31 ?_
    refine Ru_ldc2 (pc := 32) dX12_spelled_32 tw_1619 ?_
    refine Ru_lsub (pc := 35) dX12_spelled_35 ?_
    refine Ru_goto (pc := 36) 41 dX12_spelled_36 (by decide) ?_
    refine Ru_lstore (pc := 41) dX12_spelled_41 rfl (by decide) ?_
    refine Ru_iload_n (pc := 43) dX12_spelled_43 rfl rfl ?_
    refine Ru_if_leN (pc := 44) 63 dX12_spelled_44 (by decide) (by omega) (fun h2 => ?_) (fun h2 => ?_)
    · exfalso
      omega
    · refine Ru_lload (pc := 47) dX12_spelled_47 rfl ?_
      refine Ru_ldc2 (pc := 49) dX12_spelled_49 tw_1618 ?_
      refine Ru_lmul (pc := 52) dX12_spelled_52 ?_
      refine Ru_iload_n (pc := 53) dX12_spelled_53 rfl rfl ?_
      refine Ru_i2l (pc := 54) _ dX12_spelled_54 rfl ?_
      refine Ru_ladd (pc := 55) dX12_spelled_55 ?_
      refine Ru_ldc2 (pc := 56) dX12_spelled_56 tw_1619 ?_
      refine Ru_lsub (pc := 59) dX12_spelled_59 ?_
      refine Ru_goto (pc := 60) 65 dX12_spelled_60 (by decide) ?_
      refine Ru_lstore (pc := 65) dX12_spelled_65 rfl (by decide) ?_
      refine Ru_iload (pc := 67) dX12_spelled_67 rfl ?_
      refine Ru_if_leN (pc := 69) 89 dX12_spelled_69 (by decide) (by omega) (fun h3 => ?_) (fun h3 => ?_)
      · exfalso
        omega
      · refine Ru_lload (pc := 72) dX12_spelled_72 rfl ?_
        refine Ru_ldc2 (pc := 74) dX12_spelled_74 tw_1618 ?_
        refine Ru_lmul (pc := 77) dX12_spelled_77 ?_
        refine Ru_iload (pc := 78) dX12_spelled_78 rfl ?_
        refine Ru_i2l (pc := 80) _ dX12_spelled_80 rfl ?_
        refine Ru_ladd (pc := 81) dX12_spelled_81 ?_
        refine Ru_ldc2 (pc := 82) dX12_spelled_82 tw_1619 ?_
        refine Ru_lsub (pc := 85) dX12_spelled_85 ?_
        refine Ru_goto (pc := 86) 91 dX12_spelled_86 (by decide) ?_
        refine Ru_lstore (pc := 91) dX12_spelled_91 rfl (by decide) ?_
        refine Ru_iload (pc := 93) dX12_spelled_93 rfl ?_
        refine Ru_if_leN (pc := 95) 115 dX12_spelled_95 (by decide) (by omega) (fun h4 => ?_) (fun h4 => ?_)
        · refine Ru_lload (pc := 115) dX12_spelled_115 rfl ?_
          refine Ru_lret (pc := 117) dX12_spelled_117 rfl ⟨Nat.le_refl _, Nat.le_refl _⟩ ?_
          rw [show (((((((((((((((nI 101)).toInt64 - 96) * 32) + ((nI 97)).toInt64) - 96) * 32) + ((nI 116)).toInt64) - 96) * 32) + ((nI 101)).toInt64) - 96) * 32) + ((nI 110)).toInt64) - 96) = nJ 5296302 from by decide +kernel]
          exact k
        · exfalso
          omega

theorem c_X12_sp_17 {Q : Rq} {M : Mem} (k : Q (some (.long (nJ 20580147))) GY M) : Ca 0 mt_X12_spelled 0 0 [.int (nI 115), .int (nI 116), .int (nI 97), .int (nI 121), .int (nI 115), .int (nI 0)] GY M Q := by
  refine Ca_of rfl (Nat.le_of_ble_eq_true rfl) ?_
  refine Ru_iload_n (pc := 0) dX12_spelled_0 rfl rfl ?_
  refine Ru_i2l (pc := 1) _ dX12_spelled_1 rfl ?_
  refine Ru_ldc2 (pc := 2) dX12_spelled_2 tw_1619 ?_
  refine Ru_lsub (pc := 5) dX12_spelled_5 ?_
  refine Ru_ldc2 (pc := 6) dX12_spelled_6 tw_1618 ?_
  refine Ru_lmul (pc := 9) dX12_spelled_9 ?_
  refine Ru_iload_n (pc := 10) dX12_spelled_10 rfl rfl ?_
  refine Ru_i2l (pc := 11) _ dX12_spelled_11 rfl ?_
  refine Ru_ladd (pc := 12) dX12_spelled_12 ?_
  refine Ru_ldc2 (pc := 13) dX12_spelled_13 tw_1619 ?_
  refine Ru_lsub (pc := 16) dX12_spelled_16 ?_
  refine Ru_lstore (pc := 17) dX12_spelled_17 rfl (by decide) ?_
  refine Ru_iload_n (pc := 19) dX12_spelled_19 rfl rfl ?_
  refine Ru_if_leN (pc := 20) 39 dX12_spelled_20 (by decide) (by omega) (fun h1 => ?_) (fun h1 => ?_)
  · exfalso
    omega
  · refine Ru_lload (pc := 23) dX12_spelled_23 rfl ?_
    refine Ru_ldc2 (pc := 25) dX12_spelled_25 tw_1618 ?_
    refine Ru_lmul (pc := 28) dX12_spelled_28 ?_
    refine Ru_iload_n (pc := 29) dX12_spelled_29 rfl rfl ?_
    refine Ru_i2l (pc := 30) _ dX12_spelled_30 rfl ?_
    refine Ru_ladd (pc := 31) dX12_spelled_31 ?_
    refine Ru_ldc2 (pc := 32) dX12_spelled_32 tw_1619 ?_
    refine Ru_lsub (pc := 35) dX12_spelled_35 ?_
    refine Ru_goto (pc := 36) 41 dX12_spelled_36 (by decide) ?_
    refine Ru_lstore (pc := 41) dX12_spelled_41 rfl (by decide) ?_
    refine Ru_iload_n (pc := 43) dX12_spelled_43 rfl rfl ?_
    refine Ru_if_leN (pc := 44) 63 dX12_spelled_44 (by decide) (by omega) (fun h2 => ?_) (fun h2 => ?_)
    · exfalso
      omega
    · refine Ru_lload (pc := 47) dX12_spelled_47 rfl ?_
      refine Ru_ldc2 (pc := 49) dX12_spelled_49 tw_1618 ?_
      refine Ru_lmul (pc := 52) dX12_spelled_52 ?_
      refine Ru_iload_n (pc := 53) dX12_spelled_53 rfl rfl ?_
      refine Ru_i2l (pc := 54) _ dX12_spelled_54 rfl ?_
      refine Ru_ladd (pc := 55) dX12_spelled_55 ?_
      refine Ru_ldc2 (pc := 56) dX12_spelled_56 tw_1619 ?_
      refine Ru_lsub (pc := 59) dX12_spelled_59 ?_
      refine Ru_goto (pc := 60) 65 dX12_spelled_60 (by decide) ?_
      refine Ru_lstore (pc := 65) dX12_spelled_65 rfl (by decide) ?_
      refine Ru_iload (pc := 67) dX12_spelled_67 rfl ?_
      refine Ru_if_leN (pc := 69) 89 dX12_spelled_69 (by decide) (by omega) (fun h3 => ?_) (fun h3 => ?_)
      · exfalso
        omega
      · refine Ru_lload (pc := 72) dX12_spelled_72 rfl ?_
        refine Ru_ldc2 (pc := 74) dX12_spelled_74 tw_1618 ?_
        refine Ru_lmul (pc := 77) dX12_spelled_77 ?_
        refine Ru_iload (pc := 78) dX12_spelled_78 rfl ?_
        refine Ru_i2l (pc := 80) _ dX12_spelled_80 rfl ?_
        refine Ru_ladd (pc := 81) dX12_spelled_81 ?_
        refine Ru_ldc2 (pc := 82) dX12_spelled_82 tw_1619 ?_
        refine Ru_lsub (pc := 85) dX12_spelled_85 ?_
        refine Ru_goto (pc := 86) 91 dX12_spelled_86 (by decide) ?_
        refine Ru_lstore (pc := 91) dX12_spelled_91 rfl (by decide) ?_
        refine Ru_iload (pc := 93) dX12_spelled_93 rfl ?_
        refine Ru_if_leN (pc := 95) 115 dX12_spelled_95 (by decide) (by omega) (fun h4 => ?_) (fun h4 => ?_)
        · refine Ru_lload (pc := 115) dX12_spelled_115 rfl ?_
          refine Ru_lret (pc := 117) dX12_spelled_117 rfl ⟨Nat.le_refl _, Nat.le_refl _⟩ ?_
          rw [show (((((((((((((((nI 115)).toInt64 - 96) * 32) + ((nI 116)).toInt64) - 96) * 32) + ((nI 97)).toInt64) - 96) * 32) + ((nI 121)).toInt64) - 96) * 32) + ((nI 115)).toInt64) - 96) = nJ 20580147 from by decide +kernel]
          exact k
        · exfalso
          omega

theorem c_X12_sp_18 {Q : Rq} {M : Mem} (k : Q (some (.long (nJ 769614))) GY M) : Ca 0 mt_X12_spelled 0 0 [.int (nI 119), .int (nI 111), .int (nI 114), .int (nI 110), .int (nI 0), .int (nI 0)] GY M Q := by
  refine Ca_of rfl (Nat.le_of_ble_eq_true rfl) ?_
  refine Ru_iload_n (pc := 0) dX12_spelled_0 rfl rfl ?_
  refine Ru_i2l (pc := 1) _ dX12_spelled_1 rfl ?_
  refine Ru_ldc2 (pc := 2) dX12_spelled_2 tw_1619 ?_
  refine Ru_lsub (pc := 5) dX12_spelled_5 ?_
  refine Ru_ldc2 (pc := 6) dX12_spelled_6 tw_1618 ?_
  refine Ru_lmul (pc := 9) dX12_spelled_9 ?_
  refine Ru_iload_n (pc := 10) dX12_spelled_10 rfl rfl ?_
  refine Ru_i2l (pc := 11) _ dX12_spelled_11 rfl ?_
  refine Ru_ladd (pc := 12) dX12_spelled_12 ?_
  refine Ru_ldc2 (pc := 13) dX12_spelled_13 tw_1619 ?_
  refine Ru_lsub (pc := 16) dX12_spelled_16 ?_
  refine Ru_lstore (pc := 17) dX12_spelled_17 rfl (by decide) ?_
  refine Ru_iload_n (pc := 19) dX12_spelled_19 rfl rfl ?_
  refine Ru_if_leN (pc := 20) 39 dX12_spelled_20 (by decide) (by omega) (fun h1 => ?_) (fun h1 => ?_)
  · exfalso
    omega
  · refine Ru_lload (pc := 23) dX12_spelled_23 rfl ?_
    refine Ru_ldc2 (pc := 25) dX12_spelled_25 tw_1618 ?_
    refine Ru_lmul (pc := 28) dX12_spelled_28 ?_
    refine Ru_iload_n (pc := 29) dX12_spelled_29 rfl rfl ?_
    refine Ru_i2l (pc := 30) _ dX12_spelled_30 rfl ?_
    refine Ru_ladd (pc := 31) dX12_spelled_31 ?_
    refine Ru_ldc2 (pc := 32) dX12_spelled_32 tw_1619 ?_
    refine Ru_lsub (pc := 35) dX12_spelled_35 ?_
    refine Ru_goto (pc := 36) 41 dX12_spelled_36 (by decide) ?_
    refine Ru_lstore (pc := 41) dX12_spelled_41 rfl (by decide) ?_
    refine Ru_iload_n (pc := 43) dX12_spelled_43 rfl rfl ?_
    refine Ru_if_leN (pc := 44) 63 dX12_spelled_44 (by decide) (by omega) (fun h2 => ?_) (fun h2 => ?_)
    · exfalso
      omega
    · refine Ru_lload (pc := 47) dX12_spelled_47 rfl ?_
      refine Ru_ldc2 (pc := 49) dX12_spelled_49 tw_1618 ?_
      refine Ru_lmul (pc := 52) dX12_spelled_52 ?_
      refine Ru_iload_n (pc := 53) dX12_spelled_53 rfl rfl ?_
      refine Ru_i2l (pc := 54) _ dX12_spelled_54 rfl ?_
      refine Ru_ladd (pc := 55) dX12_spelled_55 ?_
      refine Ru_ldc2 (pc := 56) dX12_spelled_56 tw_1619 ?_
      refine Ru_lsub (pc := 59) dX12_spelled_59 ?_
      refine Ru_goto (pc := 60) 65 dX12_spelled_60 (by decide) ?_
      refine Ru_lstore (pc := 65) dX12_spelled_65 rfl (by decide) ?_
      refine Ru_iload (pc := 67) dX12_spelled_67 rfl ?_
      refine Ru_if_leN (pc := 69) 89 dX12_spelled_69 (by decide) (by omega) (fun h3 => ?_) (fun h3 => ?_)
      · refine Ru_lload (pc := 89) dX12_spelled_89 rfl ?_
        refine Ru_lstore (pc := 91) dX12_spelled_91 rfl (by decide) ?_
        refine Ru_iload (pc := 93) dX12_spelled_93 rfl ?_
        refine Ru_if_leN (pc := 95) 115 dX12_spelled_95 (by decide) (by omega) (fun h4 => ?_) (fun h4 => ?_)
        · refine Ru_lload (pc := 115) dX12_spelled_115 rfl ?_
          refine Ru_lret (pc := 117) dX12_spelled_117 rfl ⟨Nat.le_refl _, Nat.le_refl _⟩ ?_
          rw [show ((((((((((((nI 119)).toInt64 - 96) * 32) + ((nI 111)).toInt64) - 96) * 32) + ((nI 114)).toInt64) - 96) * 32) + ((nI 110)).toInt64) - 96) = nJ 769614 from by decide +kernel]
          exact k
        · exfalso
          omega
      · exfalso
        omega

theorem c_X12_sp_19 {Q : Rq} {M : Mem} (k : Q (some (.long (nJ 267652))) GY M) : Ca 0 mt_X12_spelled 0 0 [.int (nI 104), .int (nI 101), .int (nI 108), .int (nI 100), .int (nI 0), .int (nI 0)] GY M Q := by
  refine Ca_of rfl (Nat.le_of_ble_eq_true rfl) ?_
  refine Ru_iload_n (pc := 0) dX12_spelled_0 rfl rfl ?_
  refine Ru_i2l (pc := 1) _ dX12_spelled_1 rfl ?_
  refine Ru_ldc2 (pc := 2) dX12_spelled_2 tw_1619 ?_
  refine Ru_lsub (pc := 5) dX12_spelled_5 ?_
  refine Ru_ldc2 (pc := 6) dX12_spelled_6 tw_1618 ?_
  refine Ru_lmul (pc := 9) dX12_spelled_9 ?_
  refine Ru_iload_n (pc := 10) dX12_spelled_10 rfl rfl ?_
  refine Ru_i2l (pc := 11) _ dX12_spelled_11 rfl ?_
  refine Ru_ladd (pc := 12) dX12_spelled_12 ?_
  refine Ru_ldc2 (pc := 13) dX12_spelled_13 tw_1619 ?_
  refine Ru_lsub (pc := 16) dX12_spelled_16 ?_
  refine Ru_lstore (pc := 17) dX12_spelled_17 rfl (by decide) ?_
  refine Ru_iload_n (pc := 19) dX12_spelled_19 rfl rfl ?_
  refine Ru_if_leN (pc := 20) 39 dX12_spelled_20 (by decide) (by omega) (fun h1 => ?_) (fun h1 => ?_)
  · exfalso
    omega
  · refine Ru_lload (pc := 23) dX12_spelled_23 rfl ?_
    refine Ru_ldc2 (pc := 25) dX12_spelled_25 tw_1618 ?_
    refine Ru_lmul (pc := 28) dX12_spelled_28 ?_
    refine Ru_iload_n (pc := 29) dX12_spelled_29 rfl rfl ?_
    refine Ru_i2l (pc := 30) _ dX12_spelled_30 rfl ?_
    refine Ru_ladd (pc := 31) dX12_spelled_31 ?_
    refine Ru_ldc2 (pc := 32) dX12_spelled_32 tw_1619 ?_
    refine Ru_lsub (pc := 35) dX12_spelled_35 ?_
    refine Ru_goto (pc := 36) 41 dX12_spelled_36 (by decide) ?_
    refine Ru_lstore (pc := 41) dX12_spelled_41 rfl (by decide) ?_
    refine Ru_iload_n (pc := 43) dX12_spelled_43 rfl rfl ?_
    refine Ru_if_leN (pc := 44) 63 dX12_spelled_44 (by decide) (by omega) (fun h2 => ?_) (fun h2 => ?_)
    · exfalso
      omega
    · refine Ru_lload (pc := 47) dX12_spelled_47 rfl ?_
      refine Ru_ldc2 (pc := 49) dX12_spelled_49 tw_1618 ?_
      refine Ru_lmul (pc := 52) dX12_spelled_52 ?_
      refine Ru_iload_n (pc := 53) dX12_spelled_53 rfl rfl ?_
      refine Ru_i2l (pc := 54) _ dX12_spelled_54 rfl ?_
      refine Ru_ladd (pc := 55) dX12_spelled_55 ?_
      refine Ru_ldc2 (pc := 56) dX12_spelled_56 tw_1619 ?_
      refine Ru_lsub (pc := 59) dX12_spelled_59 ?_
      refine Ru_goto (pc := 60) 65 dX12_spelled_60 (by decide) ?_
      refine Ru_lstore (pc := 65) dX12_spelled_65 rfl (by decide) ?_
      refine Ru_iload (pc := 67) dX12_spelled_67 rfl ?_
      refine Ru_if_leN (pc := 69) 89 dX12_spelled_69 (by decide) (by omega) (fun h3 => ?_) (fun h3 => ?_)
      · refine Ru_lload (pc := 89) dX12_spelled_89 rfl ?_
        refine Ru_lstore (pc := 91) dX12_spelled_91 rfl (by decide) ?_
        refine Ru_iload (pc := 93) dX12_spelled_93 rfl ?_
        refine Ru_if_leN (pc := 95) 115 dX12_spelled_95 (by decide) (by omega) (fun h4 => ?_) (fun h4 => ?_)
        · refine Ru_lload (pc := 115) dX12_spelled_115 rfl ?_
          refine Ru_lret (pc := 117) dX12_spelled_117 rfl ⟨Nat.le_refl _, Nat.le_refl _⟩ ?_
          rw [show ((((((((((((nI 104)).toInt64 - 96) * 32) + ((nI 101)).toInt64) - 96) * 32) + ((nI 108)).toInt64) - 96) * 32) + ((nI 100)).toInt64) - 96) = nJ 267652 from by decide +kernel]
          exact k
        · exfalso
          omega
      · exfalso
        omega

theorem c_X12_sp_20 {Q : Rq} {M : Mem} (k : Q (some (.long (nJ 628180))) GY M) : Ca 0 mt_X12_spelled 0 0 [.int (nI 115), .int (nI 101), .int (nI 110), .int (nI 116), .int (nI 0), .int (nI 0)] GY M Q := by
  refine Ca_of rfl (Nat.le_of_ble_eq_true rfl) ?_
  refine Ru_iload_n (pc := 0) dX12_spelled_0 rfl rfl ?_
  refine Ru_i2l (pc := 1) _ dX12_spelled_1 rfl ?_
  refine Ru_ldc2 (pc := 2) dX12_spelled_2 tw_1619 ?_
  refine Ru_lsub (pc := 5) dX12_spelled_5 ?_
  refine Ru_ldc2 (pc := 6) dX12_spelled_6 tw_1618 ?_
  refine Ru_lmul (pc := 9) dX12_spelled_9 ?_
  refine Ru_iload_n (pc := 10) dX12_spelled_10 rfl rfl ?_
  refine Ru_i2l (pc := 11) _ dX12_spelled_11 rfl ?_
  refine Ru_ladd (pc := 12) dX12_spelled_12 ?_
  refine Ru_ldc2 (pc := 13) dX12_spelled_13 tw_1619 ?_
  refine Ru_lsub (pc := 16) dX12_spelled_16 ?_
  refine Ru_lstore (pc := 17) dX12_spelled_17 rfl (by decide) ?_
  refine Ru_iload_n (pc := 19) dX12_spelled_19 rfl rfl ?_
  refine Ru_if_leN (pc := 20) 39 dX12_spelled_20 (by decide) (by omega) (fun h1 => ?_) (fun h1 => ?_)
  · exfalso
    omega
  · refine Ru_lload (pc := 23) dX12_spelled_23 rfl ?_
    refine Ru_ldc2 (pc := 25) dX12_spelled_25 tw_1618 ?_
    refine Ru_lmul (pc := 28) dX12_spelled_28 ?_
    refine Ru_iload_n (pc := 29) dX12_spelled_29 rfl rfl ?_
    refine Ru_i2l (pc := 30) _ dX12_spelled_30 rfl ?_
    refine Ru_ladd (pc := 31) dX12_spelled_31 ?_
    refine Ru_ldc2 (pc := 32) dX12_spelled_32 tw_1619 ?_
    refine Ru_lsub (pc := 35) dX12_spelled_35 ?_
    refine Ru_goto (pc := 36) 41 dX12_spelled_36 (by decide) ?_
    refine Ru_lstore (pc := 41) dX12_spelled_41 rfl (by decide) ?_
    refine Ru_iload_n (pc := 43) dX12_spelled_43 rfl rfl ?_
    refine Ru_if_leN (pc := 44) 63 dX12_spelled_44 (by decide) (by omega) (fun h2 => ?_) (fun h2 => ?_)
    · exfalso
      omega
    · refine Ru_lload (pc := 47) dX12_spelled_47 rfl ?_
      refine Ru_ldc2 (pc := 49) dX12_spelled_49 tw_1618 ?_
      refine Ru_lmul (pc := 52) dX12_spelled_52 ?_
      refine Ru_iload_n (pc := 53) dX12_spelled_53 rfl rfl ?_
      refine Ru_i2l (pc := 54) _ dX12_spelled_54 rfl ?_
      refine Ru_ladd (pc := 55) dX12_spelled_55 ?_
      refine Ru_ldc2 (pc := 56) dX12_spelled_56 tw_1619 ?_
      refine Ru_lsub (pc := 59) dX12_spelled_59 ?_
      refine Ru_goto (pc := 60) 65 dX12_spelled_60 (by decide) ?_
      refine Ru_lstore (pc := 65) dX12_spelled_65 rfl (by decide) ?_
      refine Ru_iload (pc := 67) dX12_spelled_67 rfl ?_
      refine Ru_if_leN (pc := 69) 89 dX12_spelled_69 (by decide) (by omega) (fun h3 => ?_) (fun h3 => ?_)
      · refine Ru_lload (pc := 89) dX12_spelled_89 rfl ?_
        refine Ru_lstore (pc := 91) dX12_spelled_91 rfl (by decide) ?_
        refine Ru_iload (pc := 93) dX12_spelled_93 rfl ?_
        refine Ru_if_leN (pc := 95) 115 dX12_spelled_95 (by decide) (by omega) (fun h4 => ?_) (fun h4 => ?_)
        · refine Ru_lload (pc := 115) dX12_spelled_115 rfl ?_
          refine Ru_lret (pc := 117) dX12_spelled_117 rfl ⟨Nat.le_refl _, Nat.le_refl _⟩ ?_
          rw [show ((((((((((((nI 115)).toInt64 - 96) * 32) + ((nI 101)).toInt64) - 96) * 32) + ((nI 110)).toInt64) - 96) * 32) + ((nI 116)).toInt64) - 96) = nJ 628180 from by decide +kernel]
          exact k
        · exfalso
          omega
      · exfalso
        omega

theorem c_X12_sp_21 {Q : Rq} {M : Mem} (k : Q (some (.long (nJ 267845))) GY M) : Ca 0 mt_X12_spelled 0 0 [.int (nI 104), .int (nI 101), .int (nI 114), .int (nI 101), .int (nI 0), .int (nI 0)] GY M Q := by
  refine Ca_of rfl (Nat.le_of_ble_eq_true rfl) ?_
  refine Ru_iload_n (pc := 0) dX12_spelled_0 rfl rfl ?_
  refine Ru_i2l (pc := 1) _ dX12_spelled_1 rfl ?_
  refine Ru_ldc2 (pc := 2) dX12_spelled_2 tw_1619 ?_
  refine Ru_lsub (pc := 5) dX12_spelled_5 ?_
  refine Ru_ldc2 (pc := 6) dX12_spelled_6 tw_1618 ?_
  refine Ru_lmul (pc := 9) dX12_spelled_9 ?_
  refine Ru_iload_n (pc := 10) dX12_spelled_10 rfl rfl ?_
  refine Ru_i2l (pc := 11) _ dX12_spelled_11 rfl ?_
  refine Ru_ladd (pc := 12) dX12_spelled_12 ?_
  refine Ru_ldc2 (pc := 13) dX12_spelled_13 tw_1619 ?_
  refine Ru_lsub (pc := 16) dX12_spelled_16 ?_
  refine Ru_lstore (pc := 17) dX12_spelled_17 rfl (by decide) ?_
  refine Ru_iload_n (pc := 19) dX12_spelled_19 rfl rfl ?_
  refine Ru_if_leN (pc := 20) 39 dX12_spelled_20 (by decide) (by omega) (fun h1 => ?_) (fun h1 => ?_)
  · exfalso
    omega
  · refine Ru_lload (pc := 23) dX12_spelled_23 rfl ?_
    refine Ru_ldc2 (pc := 25) dX12_spelled_25 tw_1618 ?_
    refine Ru_lmul (pc := 28) dX12_spelled_28 ?_
    refine Ru_iload_n (pc := 29) dX12_spelled_29 rfl rfl ?_
    refine Ru_i2l (pc := 30) _ dX12_spelled_30 rfl ?_
    refine Ru_ladd (pc := 31) dX12_spelled_31 ?_
    refine Ru_ldc2 (pc := 32) dX12_spelled_32 tw_1619 ?_
    refine Ru_lsub (pc := 35) dX12_spelled_35 ?_
    refine Ru_goto (pc := 36) 41 dX12_spelled_36 (by decide) ?_
    refine Ru_lstore (pc := 41) dX12_spelled_41 rfl (by decide) ?_
    refine Ru_iload_n (pc := 43) dX12_spelled_43 rfl rfl ?_
    refine Ru_if_leN (pc := 44) 63 dX12_spelled_44 (by decide) (by omega) (fun h2 => ?_) (fun h2 => ?_)
    · exfalso
      omega
    · refine Ru_lload (pc := 47) dX12_spelled_47 rfl ?_
      refine Ru_ldc2 (pc := 49) dX12_spelled_49 tw_1618 ?_
      refine Ru_lmul (pc := 52) dX12_spelled_52 ?_
      refine Ru_iload_n (pc := 53) dX12_spelled_53 rfl rfl ?_
      refine Ru_i2l (pc := 54) _ dX12_spelled_54 rfl ?_
      refine Ru_ladd (pc := 55) dX12_spelled_55 ?_
      refine Ru_ldc2 (pc := 56) dX12_spelled_56 tw_1619 ?_
      refine Ru_lsub (pc := 59) dX12_spelled_59 ?_
      refine Ru_goto (pc := 60) 65 dX12_spelled_60 (by decide) ?_
      refine Ru_lstore (pc := 65) dX12_spelled_65 rfl (by decide) ?_
      refine Ru_iload (pc := 67) dX12_spelled_67 rfl ?_
      refine Ru_if_leN (pc := 69) 89 dX12_spelled_69 (by decide) (by omega) (fun h3 => ?_) (fun h3 => ?_)
      · refine Ru_lload (pc := 89) dX12_spelled_89 rfl ?_
        refine Ru_lstore (pc := 91) dX12_spelled_91 rfl (by decide) ?_
        refine Ru_iload (pc := 93) dX12_spelled_93 rfl ?_
        refine Ru_if_leN (pc := 95) 115 dX12_spelled_95 (by decide) (by omega) (fun h4 => ?_) (fun h4 => ?_)
        · refine Ru_lload (pc := 115) dX12_spelled_115 rfl ?_
          refine Ru_lret (pc := 117) dX12_spelled_117 rfl ⟨Nat.le_refl _, Nat.le_refl _⟩ ?_
          rw [show ((((((((((((nI 104)).toInt64 - 96) * 32) + ((nI 101)).toInt64) - 96) * 32) + ((nI 114)).toInt64) - 96) * 32) + ((nI 101)).toInt64) - 96) = nJ 267845 from by decide +kernel]
          exact k
        · exfalso
          omega
      · exfalso
        omega

theorem c_X12_sp_22 {Q : Rq} {M : Mem} (k : Q (some (.long (nJ 4153))) GY M) : Ca 0 mt_X12_spelled 0 0 [.int (nI 100), .int (nI 97), .int (nI 121), .int (nI 0), .int (nI 0), .int (nI 0)] GY M Q := by
  refine Ca_of rfl (Nat.le_of_ble_eq_true rfl) ?_
  refine Ru_iload_n (pc := 0) dX12_spelled_0 rfl rfl ?_
  refine Ru_i2l (pc := 1) _ dX12_spelled_1 rfl ?_
  refine Ru_ldc2 (pc := 2) dX12_spelled_2 tw_1619 ?_
  refine Ru_lsub (pc := 5) dX12_spelled_5 ?_
  refine Ru_ldc2 (pc := 6) dX12_spelled_6 tw_1618 ?_
  refine Ru_lmul (pc := 9) dX12_spelled_9 ?_
  refine Ru_iload_n (pc := 10) dX12_spelled_10 rfl rfl ?_
  refine Ru_i2l (pc := 11) _ dX12_spelled_11 rfl ?_
  refine Ru_ladd (pc := 12) dX12_spelled_12 ?_
  refine Ru_ldc2 (pc := 13) dX12_spelled_13 tw_1619 ?_
  refine Ru_lsub (pc := 16) dX12_spelled_16 ?_
  refine Ru_lstore (pc := 17) dX12_spelled_17 rfl (by decide) ?_
  refine Ru_iload_n (pc := 19) dX12_spelled_19 rfl rfl ?_
  refine Ru_if_leN (pc := 20) 39 dX12_spelled_20 (by decide) (by omega) (fun h1 => ?_) (fun h1 => ?_)
  · exfalso
    omega
  · refine Ru_lload (pc := 23) dX12_spelled_23 rfl ?_
    refine Ru_ldc2 (pc := 25) dX12_spelled_25 tw_1618 ?_
    refine Ru_lmul (pc := 28) dX12_spelled_28 ?_
    refine Ru_iload_n (pc := 29) dX12_spelled_29 rfl rfl ?_
    refine Ru_i2l (pc := 30) _ dX12_spelled_30 rfl ?_
    refine Ru_ladd (pc := 31) dX12_spelled_31 ?_
    refine Ru_ldc2 (pc := 32) dX12_spelled_32 tw_1619 ?_
    refine Ru_lsub (pc := 35) dX12_spelled_35 ?_
    refine Ru_goto (pc := 36) 41 dX12_spelled_36 (by decide) ?_
    refine Ru_lstore (pc := 41) dX12_spelled_41 rfl (by decide) ?_
    refine Ru_iload_n (pc := 43) dX12_spelled_43 rfl rfl ?_
    refine Ru_if_leN (pc := 44) 63 dX12_spelled_44 (by decide) (by omega) (fun h2 => ?_) (fun h2 => ?_)
    · refine Ru_lload (pc := 63) dX12_spelled_63 rfl ?_
      refine Ru_lstore (pc := 65) dX12_spelled_65 rfl (by decide) ?_
      refine Ru_iload (pc := 67) dX12_spelled_67 rfl ?_
      refine Ru_if_leN (pc := 69) 89 dX12_spelled_69 (by decide) (by omega) (fun h3 => ?_) (fun h3 => ?_)
      · refine Ru_lload (pc := 89) dX12_spelled_89 rfl ?_
        refine Ru_lstore (pc := 91) dX12_spelled_91 rfl (by decide) ?_
        refine Ru_iload (pc := 93) dX12_spelled_93 rfl ?_
        refine Ru_if_leN (pc := 95) 115 dX12_spelled_95 (by decide) (by omega) (fun h4 => ?_) (fun h4 => ?_)
        · refine Ru_lload (pc := 115) dX12_spelled_115 rfl ?_
          refine Ru_lret (pc := 117) dX12_spelled_117 rfl ⟨Nat.le_refl _, Nat.le_refl _⟩ ?_
          rw [show (((((((((nI 100)).toInt64 - 96) * 32) + ((nI 97)).toInt64) - 96) * 32) + ((nI 121)).toInt64) - 96) = nJ 4153 from by decide +kernel]
          exact k
        · exfalso
          omega
      · exfalso
        omega
    · exfalso
      omega

theorem c_X12_sp_23 {Q : Rq} {M : Mem} (k : Q (some (.long (nJ 498))) GY M) : Ca 0 mt_X12_spelled 0 0 [.int (nI 111), .int (nI 114), .int (nI 0), .int (nI 0), .int (nI 0), .int (nI 0)] GY M Q := by
  refine Ca_of rfl (Nat.le_of_ble_eq_true rfl) ?_
  refine Ru_iload_n (pc := 0) dX12_spelled_0 rfl rfl ?_
  refine Ru_i2l (pc := 1) _ dX12_spelled_1 rfl ?_
  refine Ru_ldc2 (pc := 2) dX12_spelled_2 tw_1619 ?_
  refine Ru_lsub (pc := 5) dX12_spelled_5 ?_
  refine Ru_ldc2 (pc := 6) dX12_spelled_6 tw_1618 ?_
  refine Ru_lmul (pc := 9) dX12_spelled_9 ?_
  refine Ru_iload_n (pc := 10) dX12_spelled_10 rfl rfl ?_
  refine Ru_i2l (pc := 11) _ dX12_spelled_11 rfl ?_
  refine Ru_ladd (pc := 12) dX12_spelled_12 ?_
  refine Ru_ldc2 (pc := 13) dX12_spelled_13 tw_1619 ?_
  refine Ru_lsub (pc := 16) dX12_spelled_16 ?_
  refine Ru_lstore (pc := 17) dX12_spelled_17 rfl (by decide) ?_
  refine Ru_iload_n (pc := 19) dX12_spelled_19 rfl rfl ?_
  refine Ru_if_leN (pc := 20) 39 dX12_spelled_20 (by decide) (by omega) (fun h1 => ?_) (fun h1 => ?_)
  · refine Ru_lload (pc := 39) dX12_spelled_39 rfl ?_
    refine Ru_lstore (pc := 41) dX12_spelled_41 rfl (by decide) ?_
    refine Ru_iload_n (pc := 43) dX12_spelled_43 rfl rfl ?_
    refine Ru_if_leN (pc := 44) 63 dX12_spelled_44 (by decide) (by omega) (fun h2 => ?_) (fun h2 => ?_)
    · refine Ru_lload (pc := 63) dX12_spelled_63 rfl ?_
      refine Ru_lstore (pc := 65) dX12_spelled_65 rfl (by decide) ?_
      refine Ru_iload (pc := 67) dX12_spelled_67 rfl ?_
      refine Ru_if_leN (pc := 69) 89 dX12_spelled_69 (by decide) (by omega) (fun h3 => ?_) (fun h3 => ?_)
      · refine Ru_lload (pc := 89) dX12_spelled_89 rfl ?_
        refine Ru_lstore (pc := 91) dX12_spelled_91 rfl (by decide) ?_
        refine Ru_iload (pc := 93) dX12_spelled_93 rfl ?_
        refine Ru_if_leN (pc := 95) 115 dX12_spelled_95 (by decide) (by omega) (fun h4 => ?_) (fun h4 => ?_)
        · refine Ru_lload (pc := 115) dX12_spelled_115 rfl ?_
          refine Ru_lret (pc := 117) dX12_spelled_117 rfl ⟨Nat.le_refl _, Nat.le_refl _⟩ ?_
          rw [show ((((((nI 111)).toInt64 - 96) * 32) + ((nI 114)).toInt64) - 96) = nJ 498 from by decide +kernel]
          exact k
        · exfalso
          omega
      · exfalso
        omega
    · exfalso
      omega
  · exfalso
    omega

theorem c_X12_sp_24 {Q : Rq} {M : Mem} (k : Q (some (.long (nJ 1476))) GY M) : Ca 0 mt_X12_spelled 0 0 [.int (nI 97), .int (nI 110), .int (nI 100), .int (nI 0), .int (nI 0), .int (nI 0)] GY M Q := by
  refine Ca_of rfl (Nat.le_of_ble_eq_true rfl) ?_
  refine Ru_iload_n (pc := 0) dX12_spelled_0 rfl rfl ?_
  refine Ru_i2l (pc := 1) _ dX12_spelled_1 rfl ?_
  refine Ru_ldc2 (pc := 2) dX12_spelled_2 tw_1619 ?_
  refine Ru_lsub (pc := 5) dX12_spelled_5 ?_
  refine Ru_ldc2 (pc := 6) dX12_spelled_6 tw_1618 ?_
  refine Ru_lmul (pc := 9) dX12_spelled_9 ?_
  refine Ru_iload_n (pc := 10) dX12_spelled_10 rfl rfl ?_
  refine Ru_i2l (pc := 11) _ dX12_spelled_11 rfl ?_
  refine Ru_ladd (pc := 12) dX12_spelled_12 ?_
  refine Ru_ldc2 (pc := 13) dX12_spelled_13 tw_1619 ?_
  refine Ru_lsub (pc := 16) dX12_spelled_16 ?_
  refine Ru_lstore (pc := 17) dX12_spelled_17 rfl (by decide) ?_
  refine Ru_iload_n (pc := 19) dX12_spelled_19 rfl rfl ?_
  refine Ru_if_leN (pc := 20) 39 dX12_spelled_20 (by decide) (by omega) (fun h1 => ?_) (fun h1 => ?_)
  · exfalso
    omega
  · refine Ru_lload (pc := 23) dX12_spelled_23 rfl ?_
    refine Ru_ldc2 (pc := 25) dX12_spelled_25 tw_1618 ?_
    refine Ru_lmul (pc := 28) dX12_spelled_28 ?_
    refine Ru_iload_n (pc := 29) dX12_spelled_29 rfl rfl ?_
    refine Ru_i2l (pc := 30) _ dX12_spelled_30 rfl ?_
    refine Ru_ladd (pc := 31) dX12_spelled_31 ?_
    refine Ru_ldc2 (pc := 32) dX12_spelled_32 tw_1619 ?_
    refine Ru_lsub (pc := 35) dX12_spelled_35 ?_
    refine Ru_goto (pc := 36) 41 dX12_spelled_36 (by decide) ?_
    refine Ru_lstore (pc := 41) dX12_spelled_41 rfl (by decide) ?_
    refine Ru_iload_n (pc := 43) dX12_spelled_43 rfl rfl ?_
    refine Ru_if_leN (pc := 44) 63 dX12_spelled_44 (by decide) (by omega) (fun h2 => ?_) (fun h2 => ?_)
    · refine Ru_lload (pc := 63) dX12_spelled_63 rfl ?_
      refine Ru_lstore (pc := 65) dX12_spelled_65 rfl (by decide) ?_
      refine Ru_iload (pc := 67) dX12_spelled_67 rfl ?_
      refine Ru_if_leN (pc := 69) 89 dX12_spelled_69 (by decide) (by omega) (fun h3 => ?_) (fun h3 => ?_)
      · refine Ru_lload (pc := 89) dX12_spelled_89 rfl ?_
        refine Ru_lstore (pc := 91) dX12_spelled_91 rfl (by decide) ?_
        refine Ru_iload (pc := 93) dX12_spelled_93 rfl ?_
        refine Ru_if_leN (pc := 95) 115 dX12_spelled_95 (by decide) (by omega) (fun h4 => ?_) (fun h4 => ?_)
        · refine Ru_lload (pc := 115) dX12_spelled_115 rfl ?_
          refine Ru_lret (pc := 117) dX12_spelled_117 rfl ⟨Nat.le_refl _, Nat.le_refl _⟩ ?_
          rw [show (((((((((nI 97)).toInt64 - 96) * 32) + ((nI 110)).toInt64) - 96) * 32) + ((nI 100)).toInt64) - 96) = nJ 1476 from by decide +kernel]
          exact k
        · exfalso
          omega
      · exfalso
        omega
    · exfalso
      omega

theorem c_X12_sp_25 {Q : Rq} {M : Mem} (k : Q (some (.long (nJ 14836))) GY M) : Ca 0 mt_X12_spelled 0 0 [.int (nI 110), .int (nI 111), .int (nI 116), .int (nI 0), .int (nI 0), .int (nI 0)] GY M Q := by
  refine Ca_of rfl (Nat.le_of_ble_eq_true rfl) ?_
  refine Ru_iload_n (pc := 0) dX12_spelled_0 rfl rfl ?_
  refine Ru_i2l (pc := 1) _ dX12_spelled_1 rfl ?_
  refine Ru_ldc2 (pc := 2) dX12_spelled_2 tw_1619 ?_
  refine Ru_lsub (pc := 5) dX12_spelled_5 ?_
  refine Ru_ldc2 (pc := 6) dX12_spelled_6 tw_1618 ?_
  refine Ru_lmul (pc := 9) dX12_spelled_9 ?_
  refine Ru_iload_n (pc := 10) dX12_spelled_10 rfl rfl ?_
  refine Ru_i2l (pc := 11) _ dX12_spelled_11 rfl ?_
  refine Ru_ladd (pc := 12) dX12_spelled_12 ?_
  refine Ru_ldc2 (pc := 13) dX12_spelled_13 tw_1619 ?_
  refine Ru_lsub (pc := 16) dX12_spelled_16 ?_
  refine Ru_lstore (pc := 17) dX12_spelled_17 rfl (by decide) ?_
  refine Ru_iload_n (pc := 19) dX12_spelled_19 rfl rfl ?_
  refine Ru_if_leN (pc := 20) 39 dX12_spelled_20 (by decide) (by omega) (fun h1 => ?_) (fun h1 => ?_)
  · exfalso
    omega
  · refine Ru_lload (pc := 23) dX12_spelled_23 rfl ?_
    refine Ru_ldc2 (pc := 25) dX12_spelled_25 tw_1618 ?_
    refine Ru_lmul (pc := 28) dX12_spelled_28 ?_
    refine Ru_iload_n (pc := 29) dX12_spelled_29 rfl rfl ?_
    refine Ru_i2l (pc := 30) _ dX12_spelled_30 rfl ?_
    refine Ru_ladd (pc := 31) dX12_spelled_31 ?_
    refine Ru_ldc2 (pc := 32) dX12_spelled_32 tw_1619 ?_
    refine Ru_lsub (pc := 35) dX12_spelled_35 ?_
    refine Ru_goto (pc := 36) 41 dX12_spelled_36 (by decide) ?_
    refine Ru_lstore (pc := 41) dX12_spelled_41 rfl (by decide) ?_
    refine Ru_iload_n (pc := 43) dX12_spelled_43 rfl rfl ?_
    refine Ru_if_leN (pc := 44) 63 dX12_spelled_44 (by decide) (by omega) (fun h2 => ?_) (fun h2 => ?_)
    · refine Ru_lload (pc := 63) dX12_spelled_63 rfl ?_
      refine Ru_lstore (pc := 65) dX12_spelled_65 rfl (by decide) ?_
      refine Ru_iload (pc := 67) dX12_spelled_67 rfl ?_
      refine Ru_if_leN (pc := 69) 89 dX12_spelled_69 (by decide) (by omega) (fun h3 => ?_) (fun h3 => ?_)
      · refine Ru_lload (pc := 89) dX12_spelled_89 rfl ?_
        refine Ru_lstore (pc := 91) dX12_spelled_91 rfl (by decide) ?_
        refine Ru_iload (pc := 93) dX12_spelled_93 rfl ?_
        refine Ru_if_leN (pc := 95) 115 dX12_spelled_95 (by decide) (by omega) (fun h4 => ?_) (fun h4 => ?_)
        · refine Ru_lload (pc := 115) dX12_spelled_115 rfl ?_
          refine Ru_lret (pc := 117) dX12_spelled_117 rfl ⟨Nat.le_refl _, Nat.le_refl _⟩ ?_
          rw [show (((((((((nI 110)).toInt64 - 96) * 32) + ((nI 111)).toInt64) - 96) * 32) + ((nI 116)).toInt64) - 96) = nJ 14836 from by decide +kernel]
          exact k
        · exfalso
          omega
      · exfalso
        omega
    · exfalso
      omega

theorem c_X12_sp_26 {Q : Rq} {M : Mem} (k : Q (some (.long (nJ 89))) GY M) : Ca 0 mt_X12_spelled 0 0 [.int (nI 98), .int (nI 121), .int (nI 0), .int (nI 0), .int (nI 0), .int (nI 0)] GY M Q := by
  refine Ca_of rfl (Nat.le_of_ble_eq_true rfl) ?_
  refine Ru_iload_n (pc := 0) dX12_spelled_0 rfl rfl ?_
  refine Ru_i2l (pc := 1) _ dX12_spelled_1 rfl ?_
  refine Ru_ldc2 (pc := 2) dX12_spelled_2 tw_1619 ?_
  refine Ru_lsub (pc := 5) dX12_spelled_5 ?_
  refine Ru_ldc2 (pc := 6) dX12_spelled_6 tw_1618 ?_
  refine Ru_lmul (pc := 9) dX12_spelled_9 ?_
  refine Ru_iload_n (pc := 10) dX12_spelled_10 rfl rfl ?_
  refine Ru_i2l (pc := 11) _ dX12_spelled_11 rfl ?_
  refine Ru_ladd (pc := 12) dX12_spelled_12 ?_
  refine Ru_ldc2 (pc := 13) dX12_spelled_13 tw_1619 ?_
  refine Ru_lsub (pc := 16) dX12_spelled_16 ?_
  refine Ru_lstore (pc := 17) dX12_spelled_17 rfl (by decide) ?_
  refine Ru_iload_n (pc := 19) dX12_spelled_19 rfl rfl ?_
  refine Ru_if_leN (pc := 20) 39 dX12_spelled_20 (by decide) (by omega) (fun h1 => ?_) (fun h1 => ?_)
  · refine Ru_lload (pc := 39) dX12_spelled_39 rfl ?_
    refine Ru_lstore (pc := 41) dX12_spelled_41 rfl (by decide) ?_
    refine Ru_iload_n (pc := 43) dX12_spelled_43 rfl rfl ?_
    refine Ru_if_leN (pc := 44) 63 dX12_spelled_44 (by decide) (by omega) (fun h2 => ?_) (fun h2 => ?_)
    · refine Ru_lload (pc := 63) dX12_spelled_63 rfl ?_
      refine Ru_lstore (pc := 65) dX12_spelled_65 rfl (by decide) ?_
      refine Ru_iload (pc := 67) dX12_spelled_67 rfl ?_
      refine Ru_if_leN (pc := 69) 89 dX12_spelled_69 (by decide) (by omega) (fun h3 => ?_) (fun h3 => ?_)
      · refine Ru_lload (pc := 89) dX12_spelled_89 rfl ?_
        refine Ru_lstore (pc := 91) dX12_spelled_91 rfl (by decide) ?_
        refine Ru_iload (pc := 93) dX12_spelled_93 rfl ?_
        refine Ru_if_leN (pc := 95) 115 dX12_spelled_95 (by decide) (by omega) (fun h4 => ?_) (fun h4 => ?_)
        · refine Ru_lload (pc := 115) dX12_spelled_115 rfl ?_
          refine Ru_lret (pc := 117) dX12_spelled_117 rfl ⟨Nat.le_refl _, Nat.le_refl _⟩ ?_
          rw [show ((((((nI 98)).toInt64 - 96) * 32) + ((nI 121)).toInt64) - 96) = nJ 89 from by decide +kernel]
          exact k
        · exfalso
          omega
      · exfalso
        omega
    · exfalso
      omega
  · exfalso
    omega

theorem c_X12_sp_27 {Q : Rq} {M : Mem} (k : Q (some (.long (nJ 277892))) GY M) : Ca 0 mt_X12_spelled 0 0 [.int (nI 104), .int (nI 111), .int (nI 108), .int (nI 100), .int (nI 0), .int (nI 0)] GY M Q := by
  refine Ca_of rfl (Nat.le_of_ble_eq_true rfl) ?_
  refine Ru_iload_n (pc := 0) dX12_spelled_0 rfl rfl ?_
  refine Ru_i2l (pc := 1) _ dX12_spelled_1 rfl ?_
  refine Ru_ldc2 (pc := 2) dX12_spelled_2 tw_1619 ?_
  refine Ru_lsub (pc := 5) dX12_spelled_5 ?_
  refine Ru_ldc2 (pc := 6) dX12_spelled_6 tw_1618 ?_
  refine Ru_lmul (pc := 9) dX12_spelled_9 ?_
  refine Ru_iload_n (pc := 10) dX12_spelled_10 rfl rfl ?_
  refine Ru_i2l (pc := 11) _ dX12_spelled_11 rfl ?_
  refine Ru_ladd (pc := 12) dX12_spelled_12 ?_
  refine Ru_ldc2 (pc := 13) dX12_spelled_13 tw_1619 ?_
  refine Ru_lsub (pc := 16) dX12_spelled_16 ?_
  refine Ru_lstore (pc := 17) dX12_spelled_17 rfl (by decide) ?_
  refine Ru_iload_n (pc := 19) dX12_spelled_19 rfl rfl ?_
  refine Ru_if_leN (pc := 20) 39 dX12_spelled_20 (by decide) (by omega) (fun h1 => ?_) (fun h1 => ?_)
  · exfalso
    omega
  · refine Ru_lload (pc := 23) dX12_spelled_23 rfl ?_
    refine Ru_ldc2 (pc := 25) dX12_spelled_25 tw_1618 ?_
    refine Ru_lmul (pc := 28) dX12_spelled_28 ?_
    refine Ru_iload_n (pc := 29) dX12_spelled_29 rfl rfl ?_
    refine Ru_i2l (pc := 30) _ dX12_spelled_30 rfl ?_
    refine Ru_ladd (pc := 31) dX12_spelled_31 ?_
    refine Ru_ldc2 (pc := 32) dX12_spelled_32 tw_1619 ?_
    refine Ru_lsub (pc := 35) dX12_spelled_35 ?_
    refine Ru_goto (pc := 36) 41 dX12_spelled_36 (by decide) ?_
    refine Ru_lstore (pc := 41) dX12_spelled_41 rfl (by decide) ?_
    refine Ru_iload_n (pc := 43) dX12_spelled_43 rfl rfl ?_
    refine Ru_if_leN (pc := 44) 63 dX12_spelled_44 (by decide) (by omega) (fun h2 => ?_) (fun h2 => ?_)
    · exfalso
      omega
    · refine Ru_lload (pc := 47) dX12_spelled_47 rfl ?_
      refine Ru_ldc2 (pc := 49) dX12_spelled_49 tw_1618 ?_
      refine Ru_lmul (pc := 52) dX12_spelled_52 ?_
      refine Ru_iload_n (pc := 53) dX12_spelled_53 rfl rfl ?_
      refine Ru_i2l (pc := 54) _ dX12_spelled_54 rfl ?_
      refine Ru_ladd (pc := 55) dX12_spelled_55 ?_
      refine Ru_ldc2 (pc := 56) dX12_spelled_56 tw_1619 ?_
      refine Ru_lsub (pc := 59) dX12_spelled_59 ?_
      refine Ru_goto (pc := 60) 65 dX12_spelled_60 (by decide) ?_
      refine Ru_lstore (pc := 65) dX12_spelled_65 rfl (by decide) ?_
      refine Ru_iload (pc := 67) dX12_spelled_67 rfl ?_
      refine Ru_if_leN (pc := 69) 89 dX12_spelled_69 (by decide) (by omega) (fun h3 => ?_) (fun h3 => ?_)
      · refine Ru_lload (pc := 89) dX12_spelled_89 rfl ?_
        refine Ru_lstore (pc := 91) dX12_spelled_91 rfl (by decide) ?_
        refine Ru_iload (pc := 93) dX12_spelled_93 rfl ?_
        refine Ru_if_leN (pc := 95) 115 dX12_spelled_95 (by decide) (by omega) (fun h4 => ?_) (fun h4 => ?_)
        · refine Ru_lload (pc := 115) dX12_spelled_115 rfl ?_
          refine Ru_lret (pc := 117) dX12_spelled_117 rfl ⟨Nat.le_refl _, Nat.le_refl _⟩ ?_
          rw [show ((((((((((((nI 104)).toInt64 - 96) * 32) + ((nI 111)).toInt64) - 96) * 32) + ((nI 108)).toInt64) - 96) * 32) + ((nI 100)).toInt64) - 96) = nJ 277892 from by decide +kernel]
          exact k
        · exfalso
          omega
      · exfalso
        omega

theorem c_X12_isWord {Q : Rq} {M : Mem} {T : Tx} {i : Nat} (tw : Tw T) (hk : Y_tk T i M) {r : Nat} {v : Int64} (hr : r < 28) (hv : v = nJ (cd 32 (RW.getD r []))) (k : Q (some (.int (r_b (decide (tK T i = 128 + r))))) GY M) : Ca 0 mt_X12_isWord 0 0 [.ref 0, .long v] GY M Q := by
  refine Ca_of rfl (Nat.le_of_ble_eq_true rfl) ?_
  refine Ru_aload_n (pc := 0) dX12_isWord_0 rfl rfl ?_
  refine Ru_getI (pc := 1) dX12_isWord_1 fl_X12_138 rfl rfl ?_
  refine Ru_top hk.2.2.1 ?_
  refine Ru_iconst (pc := 4) (nI 1) dX12_isWord_4 rfl ?_
  refine Ru_icmp_neN (pc := 5) 21 dX12_isWord_5 (by decide) (by have := tTok_b (tK T i); omega) (fun h1 => ?_) (fun h1 => ?_)
  · refine Ru_iconst (pc := 21) (nI 0) dX12_isWord_21 rfl ?_
    refine Ru_zret (pc := 22) dX12_isWord_22 rfl ⟨Nat.le_refl _, Nat.le_refl _⟩ (Or.inl rfl) ?_
    refine r_qe (r_b_f (decide_eq_false (fun z => ?_))) k
    have z2 := (tk_w tw hk hr).mpr z
    rw [← hv] at z2
    first | (have z3 := z2.1; omega) | exact absurd z2.2 (by assumption)
  · refine Ru_aload_n (pc := 8) dX12_isWord_8 rfl rfl ?_
    refine Ru_getJ (pc := 9) dX12_isWord_9 fl_X12_144 rfl ?_
    refine Ru_lload_n (pc := 12) dX12_isWord_12 rfl rfl ?_
    refine Ru_lcmp (pc := 13) dX12_isWord_13 ?_
    refine Ru_if_neC (pc := 14) 21 dX12_isWord_14 (by decide) (fun h2 => ?_) (fun h2 => ?_)
    · refine Ru_iconst (pc := 21) (nI 0) dX12_isWord_21 rfl ?_
      refine Ru_zret (pc := 22) dX12_isWord_22 rfl ⟨Nat.le_refl _, Nat.le_refl _⟩ (Or.inl rfl) ?_
      refine r_qe (r_b_f (decide_eq_false (fun z => ?_))) k
      have z2 := (tk_w tw hk hr).mpr z
      rw [← hv] at z2
      first | (have z3 := z2.1; omega) | exact absurd z2.2 (by assumption)
    · refine Ru_iconst (pc := 17) (nI 1) dX12_isWord_17 rfl ?_
      refine Ru_goto (pc := 18) 22 dX12_isWord_18 (by decide) ?_
      refine Ru_zret (pc := 22) dX12_isWord_22 rfl ⟨Nat.le_refl _, Nat.le_refl _⟩ (Or.inr rfl) ?_
      refine r_qe (r_b_t (decide_eq_true ((tk_w tw hk hr).mp ⟨by omega, ?_⟩))) k
      rw [← hv]
      assumption

theorem c_X12_isWear {Q : Rq} {M : Mem} {T : Tx} {i : Nat} (tw : Tw T) (hk : Y_tk T i M) (k : Q (some (.int (r_b (decide (tK T i = 129))))) GY M) : Ca 1 mt_X12_isWear 0 0 [.ref 0] GY M Q := by
  refine Ca_of rfl (Nat.le_of_ble_eq_true rfl) ?_
  refine Ru_aload_n (pc := 0) dX12_isWear_0 rfl rfl ?_
  refine Ru_bipush (pc := 1) (nI 119) dX12_isWear_1 rfl ?_
  refine Ru_bipush (pc := 3) (nI 101) dX12_isWear_3 rfl ?_
  refine Ru_bipush (pc := 5) (nI 97) dX12_isWear_5 rfl ?_
  refine Ru_bipush (pc := 7) (nI 114) dX12_isWear_7 rfl ?_
  refine Ru_iconst (pc := 9) (nI 0) dX12_isWear_9 rfl ?_
  refine Ru_iconst (pc := 10) (nI 0) dX12_isWear_10 rfl ?_
  refine Ru_cs6 (pc := 11) dX12_isWear_11 ms_X12_163 (by decide) (Nat.le_of_ble_eq_true rfl) (c_X12_sp_1 ?_) 
  refine Ru_cv1 (pc := 14) dX12_isWear_14 mv_X12_167 rfl (by decide) (Nat.le_of_ble_eq_true rfl) (c_X12_isWord tw hk (r := 1) (by decide) rw32_1 ?_) 
  refine Ru_zret (pc := 17) dX12_isWear_17 rfl ⟨Nat.le_refl _, Nat.le_refl _⟩ (r_b_01 _) ?_
  exact k

theorem c_X12_isSend {Q : Rq} {M : Mem} {T : Tx} {i : Nat} (tw : Tw T) (hk : Y_tk T i M) (k : Q (some (.int (r_b (decide (tK T i = 130))))) GY M) : Ca 1 mt_X12_isSend 0 0 [.ref 0] GY M Q := by
  refine Ca_of rfl (Nat.le_of_ble_eq_true rfl) ?_
  refine Ru_aload_n (pc := 0) dX12_isSend_0 rfl rfl ?_
  refine Ru_bipush (pc := 1) (nI 115) dX12_isSend_1 rfl ?_
  refine Ru_bipush (pc := 3) (nI 101) dX12_isSend_3 rfl ?_
  refine Ru_bipush (pc := 5) (nI 110) dX12_isSend_5 rfl ?_
  refine Ru_bipush (pc := 7) (nI 100) dX12_isSend_7 rfl ?_
  refine Ru_iconst (pc := 9) (nI 0) dX12_isSend_9 rfl ?_
  refine Ru_iconst (pc := 10) (nI 0) dX12_isSend_10 rfl ?_
  refine Ru_cs6 (pc := 11) dX12_isSend_11 ms_X12_163 (by decide) (Nat.le_of_ble_eq_true rfl) (c_X12_sp_2 ?_) 
  refine Ru_cv1 (pc := 14) dX12_isSend_14 mv_X12_167 rfl (by decide) (Nat.le_of_ble_eq_true rfl) (c_X12_isWord tw hk (r := 2) (by decide) rw32_2 ?_) 
  refine Ru_zret (pc := 17) dX12_isSend_17 rfl ⟨Nat.le_refl _, Nat.le_refl _⟩ (r_b_01 _) ?_
  exact k

theorem c_X12_isGives {Q : Rq} {M : Mem} {T : Tx} {i : Nat} (tw : Tw T) (hk : Y_tk T i M) (k : Q (some (.int (r_b (decide (tK T i = 132))))) GY M) : Ca 1 mt_X12_isGives 0 0 [.ref 0] GY M Q := by
  refine Ca_of rfl (Nat.le_of_ble_eq_true rfl) ?_
  refine Ru_aload_n (pc := 0) dX12_isGives_0 rfl rfl ?_
  refine Ru_bipush (pc := 1) (nI 103) dX12_isGives_1 rfl ?_
  refine Ru_bipush (pc := 3) (nI 105) dX12_isGives_3 rfl ?_
  refine Ru_bipush (pc := 5) (nI 118) dX12_isGives_5 rfl ?_
  refine Ru_bipush (pc := 7) (nI 101) dX12_isGives_7 rfl ?_
  refine Ru_bipush (pc := 9) (nI 115) dX12_isGives_9 rfl ?_
  refine Ru_iconst (pc := 11) (nI 0) dX12_isGives_11 rfl ?_
  refine Ru_cs6 (pc := 12) dX12_isGives_12 ms_X12_163 (by decide) (Nat.le_of_ble_eq_true rfl) (c_X12_sp_4 ?_) 
  refine Ru_cv1 (pc := 15) dX12_isGives_15 mv_X12_167 rfl (by decide) (Nat.le_of_ble_eq_true rfl) (c_X12_isWord tw hk (r := 4) (by decide) rw32_4 ?_) 
  refine Ru_zret (pc := 18) dX12_isGives_18 rfl ⟨Nat.le_refl _, Nat.le_refl _⟩ (r_b_01 _) ?_
  exact k

theorem c_X12_isHours {Q : Rq} {M : Mem} {T : Tx} {i : Nat} (tw : Tw T) (hk : Y_tk T i M) (k : Q (some (.int (r_b (decide (tK T i = 133))))) GY M) : Ca 1 mt_X12_isHours 0 0 [.ref 0] GY M Q := by
  refine Ca_of rfl (Nat.le_of_ble_eq_true rfl) ?_
  refine Ru_aload_n (pc := 0) dX12_isHours_0 rfl rfl ?_
  refine Ru_bipush (pc := 1) (nI 104) dX12_isHours_1 rfl ?_
  refine Ru_bipush (pc := 3) (nI 111) dX12_isHours_3 rfl ?_
  refine Ru_bipush (pc := 5) (nI 117) dX12_isHours_5 rfl ?_
  refine Ru_bipush (pc := 7) (nI 114) dX12_isHours_7 rfl ?_
  refine Ru_bipush (pc := 9) (nI 115) dX12_isHours_9 rfl ?_
  refine Ru_iconst (pc := 11) (nI 0) dX12_isHours_11 rfl ?_
  refine Ru_cs6 (pc := 12) dX12_isHours_12 ms_X12_163 (by decide) (Nat.le_of_ble_eq_true rfl) (c_X12_sp_5 ?_) 
  refine Ru_cv1 (pc := 15) dX12_isHours_15 mv_X12_167 rfl (by decide) (Nat.le_of_ble_eq_true rfl) (c_X12_isWord tw hk (r := 5) (by decide) rw32_5 ?_) 
  refine Ru_zret (pc := 18) dX12_isHours_18 rfl ⟨Nat.le_refl _, Nat.le_refl _⟩ (r_b_01 _) ?_
  exact k

theorem c_X12_isHands {Q : Rq} {M : Mem} {T : Tx} {i : Nat} (tw : Tw T) (hk : Y_tk T i M) (k : Q (some (.int (r_b (decide (tK T i = 134))))) GY M) : Ca 1 mt_X12_isHands 0 0 [.ref 0] GY M Q := by
  refine Ca_of rfl (Nat.le_of_ble_eq_true rfl) ?_
  refine Ru_aload_n (pc := 0) dX12_isHands_0 rfl rfl ?_
  refine Ru_bipush (pc := 1) (nI 104) dX12_isHands_1 rfl ?_
  refine Ru_bipush (pc := 3) (nI 97) dX12_isHands_3 rfl ?_
  refine Ru_bipush (pc := 5) (nI 110) dX12_isHands_5 rfl ?_
  refine Ru_bipush (pc := 7) (nI 100) dX12_isHands_7 rfl ?_
  refine Ru_bipush (pc := 9) (nI 115) dX12_isHands_9 rfl ?_
  refine Ru_iconst (pc := 11) (nI 0) dX12_isHands_11 rfl ?_
  refine Ru_cs6 (pc := 12) dX12_isHands_12 ms_X12_163 (by decide) (Nat.le_of_ble_eq_true rfl) (c_X12_sp_6 ?_) 
  refine Ru_cv1 (pc := 15) dX12_isHands_15 mv_X12_167 rfl (by decide) (Nat.le_of_ble_eq_true rfl) (c_X12_isWord tw hk (r := 6) (by decide) rw32_6 ?_) 
  refine Ru_zret (pc := 18) dX12_isHands_18 rfl ⟨Nat.le_refl _, Nat.le_refl _⟩ (r_b_01 _) ?_
  exact k

theorem c_X12_isOf {Q : Rq} {M : Mem} {T : Tx} {i : Nat} (tw : Tw T) (hk : Y_tk T i M) (k : Q (some (.int (r_b (decide (tK T i = 135))))) GY M) : Ca 1 mt_X12_isOf 0 0 [.ref 0] GY M Q := by
  refine Ca_of rfl (Nat.le_of_ble_eq_true rfl) ?_
  refine Ru_aload_n (pc := 0) dX12_isOf_0 rfl rfl ?_
  refine Ru_bipush (pc := 1) (nI 111) dX12_isOf_1 rfl ?_
  refine Ru_bipush (pc := 3) (nI 102) dX12_isOf_3 rfl ?_
  refine Ru_iconst (pc := 5) (nI 0) dX12_isOf_5 rfl ?_
  refine Ru_iconst (pc := 6) (nI 0) dX12_isOf_6 rfl ?_
  refine Ru_iconst (pc := 7) (nI 0) dX12_isOf_7 rfl ?_
  refine Ru_iconst (pc := 8) (nI 0) dX12_isOf_8 rfl ?_
  refine Ru_cs6 (pc := 9) dX12_isOf_9 ms_X12_163 (by decide) (Nat.le_of_ble_eq_true rfl) (c_X12_sp_7 ?_) 
  refine Ru_cv1 (pc := 12) dX12_isOf_12 mv_X12_167 rfl (by decide) (Nat.le_of_ble_eq_true rfl) (c_X12_isWord tw hk (r := 7) (by decide) rw32_7 ?_) 
  refine Ru_zret (pc := 15) dX12_isOf_15 rfl ⟨Nat.le_refl _, Nat.le_refl _⟩ (r_b_01 _) ?_
  exact k

theorem c_X12_isWith {Q : Rq} {M : Mem} {T : Tx} {i : Nat} (tw : Tw T) (hk : Y_tk T i M) (k : Q (some (.int (r_b (decide (tK T i = 136))))) GY M) : Ca 1 mt_X12_isWith 0 0 [.ref 0] GY M Q := by
  refine Ca_of rfl (Nat.le_of_ble_eq_true rfl) ?_
  refine Ru_aload_n (pc := 0) dX12_isWith_0 rfl rfl ?_
  refine Ru_bipush (pc := 1) (nI 119) dX12_isWith_1 rfl ?_
  refine Ru_bipush (pc := 3) (nI 105) dX12_isWith_3 rfl ?_
  refine Ru_bipush (pc := 5) (nI 116) dX12_isWith_5 rfl ?_
  refine Ru_bipush (pc := 7) (nI 104) dX12_isWith_7 rfl ?_
  refine Ru_iconst (pc := 9) (nI 0) dX12_isWith_9 rfl ?_
  refine Ru_iconst (pc := 10) (nI 0) dX12_isWith_10 rfl ?_
  refine Ru_cs6 (pc := 11) dX12_isWith_11 ms_X12_163 (by decide) (Nat.le_of_ble_eq_true rfl) (c_X12_sp_8 ?_) 
  refine Ru_cv1 (pc := 14) dX12_isWith_14 mv_X12_167 rfl (by decide) (Nat.le_of_ble_eq_true rfl) (c_X12_isWord tw hk (r := 8) (by decide) rw32_8 ?_) 
  refine Ru_zret (pc := 17) dX12_isWith_17 rfl ⟨Nat.le_refl _, Nat.le_refl _⟩ (r_b_01 _) ?_
  exact k

theorem c_X12_isFrom {Q : Rq} {M : Mem} {T : Tx} {i : Nat} (tw : Tw T) (hk : Y_tk T i M) (k : Q (some (.int (r_b (decide (tK T i = 138))))) GY M) : Ca 1 mt_X12_isFrom 0 0 [.ref 0] GY M Q := by
  refine Ca_of rfl (Nat.le_of_ble_eq_true rfl) ?_
  refine Ru_aload_n (pc := 0) dX12_isFrom_0 rfl rfl ?_
  refine Ru_bipush (pc := 1) (nI 102) dX12_isFrom_1 rfl ?_
  refine Ru_bipush (pc := 3) (nI 114) dX12_isFrom_3 rfl ?_
  refine Ru_bipush (pc := 5) (nI 111) dX12_isFrom_5 rfl ?_
  refine Ru_bipush (pc := 7) (nI 109) dX12_isFrom_7 rfl ?_
  refine Ru_iconst (pc := 9) (nI 0) dX12_isFrom_9 rfl ?_
  refine Ru_iconst (pc := 10) (nI 0) dX12_isFrom_10 rfl ?_
  refine Ru_cs6 (pc := 11) dX12_isFrom_11 ms_X12_163 (by decide) (Nat.le_of_ble_eq_true rfl) (c_X12_sp_10 ?_) 
  refine Ru_cv1 (pc := 14) dX12_isFrom_14 mv_X12_167 rfl (by decide) (Nat.le_of_ble_eq_true rfl) (c_X12_isWord tw hk (r := 10) (by decide) rw32_10 ?_) 
  refine Ru_zret (pc := 17) dX12_isFrom_17 rfl ⟨Nat.le_refl _, Nat.le_refl _⟩ (r_b_01 _) ?_
  exact k

theorem c_X12_isTo {Q : Rq} {M : Mem} {T : Tx} {i : Nat} (tw : Tw T) (hk : Y_tk T i M) (k : Q (some (.int (r_b (decide (tK T i = 139))))) GY M) : Ca 1 mt_X12_isTo 0 0 [.ref 0] GY M Q := by
  refine Ca_of rfl (Nat.le_of_ble_eq_true rfl) ?_
  refine Ru_aload_n (pc := 0) dX12_isTo_0 rfl rfl ?_
  refine Ru_bipush (pc := 1) (nI 116) dX12_isTo_1 rfl ?_
  refine Ru_bipush (pc := 3) (nI 111) dX12_isTo_3 rfl ?_
  refine Ru_iconst (pc := 5) (nI 0) dX12_isTo_5 rfl ?_
  refine Ru_iconst (pc := 6) (nI 0) dX12_isTo_6 rfl ?_
  refine Ru_iconst (pc := 7) (nI 0) dX12_isTo_7 rfl ?_
  refine Ru_iconst (pc := 8) (nI 0) dX12_isTo_8 rfl ?_
  refine Ru_cs6 (pc := 9) dX12_isTo_9 ms_X12_163 (by decide) (Nat.le_of_ble_eq_true rfl) (c_X12_sp_11 ?_) 
  refine Ru_cv1 (pc := 12) dX12_isTo_12 mv_X12_167 rfl (by decide) (Nat.le_of_ble_eq_true rfl) (c_X12_isWord tw hk (r := 11) (by decide) rw32_11 ?_) 
  refine Ru_zret (pc := 15) dX12_isTo_15 rfl ⟨Nat.le_refl _, Nat.le_refl _⟩ (r_b_01 _) ?_
  exact k

theorem c_X12_isIll {Q : Rq} {M : Mem} {T : Tx} {i : Nat} (tw : Tw T) (hk : Y_tk T i M) (k : Q (some (.int (r_b (decide (tK T i = 140))))) GY M) : Ca 1 mt_X12_isIll 0 0 [.ref 0] GY M Q := by
  refine Ca_of rfl (Nat.le_of_ble_eq_true rfl) ?_
  refine Ru_aload_n (pc := 0) dX12_isIll_0 rfl rfl ?_
  refine Ru_bipush (pc := 1) (nI 105) dX12_isIll_1 rfl ?_
  refine Ru_bipush (pc := 3) (nI 108) dX12_isIll_3 rfl ?_
  refine Ru_bipush (pc := 5) (nI 108) dX12_isIll_5 rfl ?_
  refine Ru_iconst (pc := 7) (nI 0) dX12_isIll_7 rfl ?_
  refine Ru_iconst (pc := 8) (nI 0) dX12_isIll_8 rfl ?_
  refine Ru_iconst (pc := 9) (nI 0) dX12_isIll_9 rfl ?_
  refine Ru_cs6 (pc := 10) dX12_isIll_10 ms_X12_163 (by decide) (Nat.le_of_ble_eq_true rfl) (c_X12_sp_12 ?_) 
  refine Ru_cv1 (pc := 13) dX12_isIll_13 mv_X12_167 rfl (by decide) (Nat.le_of_ble_eq_true rfl) (c_X12_isWord tw hk (r := 12) (by decide) rw32_12 ?_) 
  refine Ru_zret (pc := 16) dX12_isIll_16 rfl ⟨Nat.le_refl _, Nat.le_refl _⟩ (r_b_01 _) ?_
  exact k

theorem c_X12_isAt {Q : Rq} {M : Mem} {T : Tx} {i : Nat} (tw : Tw T) (hk : Y_tk T i M) (k : Q (some (.int (r_b (decide (tK T i = 142))))) GY M) : Ca 1 mt_X12_isAt 0 0 [.ref 0] GY M Q := by
  refine Ca_of rfl (Nat.le_of_ble_eq_true rfl) ?_
  refine Ru_aload_n (pc := 0) dX12_isAt_0 rfl rfl ?_
  refine Ru_bipush (pc := 1) (nI 97) dX12_isAt_1 rfl ?_
  refine Ru_bipush (pc := 3) (nI 116) dX12_isAt_3 rfl ?_
  refine Ru_iconst (pc := 5) (nI 0) dX12_isAt_5 rfl ?_
  refine Ru_iconst (pc := 6) (nI 0) dX12_isAt_6 rfl ?_
  refine Ru_iconst (pc := 7) (nI 0) dX12_isAt_7 rfl ?_
  refine Ru_iconst (pc := 8) (nI 0) dX12_isAt_8 rfl ?_
  refine Ru_cs6 (pc := 9) dX12_isAt_9 ms_X12_163 (by decide) (Nat.le_of_ble_eq_true rfl) (c_X12_sp_14 ?_) 
  refine Ru_cv1 (pc := 12) dX12_isAt_12 mv_X12_167 rfl (by decide) (Nat.le_of_ble_eq_true rfl) (c_X12_isWord tw hk (r := 14) (by decide) rw32_14 ?_) 
  refine Ru_zret (pc := 15) dX12_isAt_15 rfl ⟨Nat.le_refl _, Nat.le_refl _⟩ (r_b_01 _) ?_
  exact k

theorem c_X12_isWorth {Q : Rq} {M : Mem} {T : Tx} {i : Nat} (tw : Tw T) (hk : Y_tk T i M) (k : Q (some (.int (r_b (decide (tK T i = 143))))) GY M) : Ca 1 mt_X12_isWorth 0 0 [.ref 0] GY M Q := by
  refine Ca_of rfl (Nat.le_of_ble_eq_true rfl) ?_
  refine Ru_aload_n (pc := 0) dX12_isWorth_0 rfl rfl ?_
  refine Ru_bipush (pc := 1) (nI 119) dX12_isWorth_1 rfl ?_
  refine Ru_bipush (pc := 3) (nI 111) dX12_isWorth_3 rfl ?_
  refine Ru_bipush (pc := 5) (nI 114) dX12_isWorth_5 rfl ?_
  refine Ru_bipush (pc := 7) (nI 116) dX12_isWorth_7 rfl ?_
  refine Ru_bipush (pc := 9) (nI 104) dX12_isWorth_9 rfl ?_
  refine Ru_iconst (pc := 11) (nI 0) dX12_isWorth_11 rfl ?_
  refine Ru_cs6 (pc := 12) dX12_isWorth_12 ms_X12_163 (by decide) (Nat.le_of_ble_eq_true rfl) (c_X12_sp_15 ?_) 
  refine Ru_cv1 (pc := 15) dX12_isWorth_15 mv_X12_167 rfl (by decide) (Nat.le_of_ble_eq_true rfl) (c_X12_isWord tw hk (r := 15) (by decide) rw32_15 ?_) 
  refine Ru_zret (pc := 18) dX12_isWorth_18 rfl ⟨Nat.le_refl _, Nat.le_refl _⟩ (r_b_01 _) ?_
  exact k

theorem c_X12_isEaten {Q : Rq} {M : Mem} {T : Tx} {i : Nat} (tw : Tw T) (hk : Y_tk T i M) (k : Q (some (.int (r_b (decide (tK T i = 144))))) GY M) : Ca 1 mt_X12_isEaten 0 0 [.ref 0] GY M Q := by
  refine Ca_of rfl (Nat.le_of_ble_eq_true rfl) ?_
  refine Ru_aload_n (pc := 0) dX12_isEaten_0 rfl rfl ?_
  refine Ru_bipush (pc := 1) (nI 101) dX12_isEaten_1 rfl ?_
  refine Ru_bipush (pc := 3) (nI 97) dX12_isEaten_3 rfl ?_
  refine Ru_bipush (pc := 5) (nI 116) dX12_isEaten_5 rfl ?_
  refine Ru_bipush (pc := 7) (nI 101) dX12_isEaten_7 rfl ?_
  refine Ru_bipush (pc := 9) (nI 110) dX12_isEaten_9 rfl ?_
  refine Ru_iconst (pc := 11) (nI 0) dX12_isEaten_11 rfl ?_
  refine Ru_cs6 (pc := 12) dX12_isEaten_12 ms_X12_163 (by decide) (Nat.le_of_ble_eq_true rfl) (c_X12_sp_16 ?_) 
  refine Ru_cv1 (pc := 15) dX12_isEaten_15 mv_X12_167 rfl (by decide) (Nat.le_of_ble_eq_true rfl) (c_X12_isWord tw hk (r := 16) (by decide) rw32_16 ?_) 
  refine Ru_zret (pc := 18) dX12_isEaten_18 rfl ⟨Nat.le_refl _, Nat.le_refl _⟩ (r_b_01 _) ?_
  exact k

theorem c_X12_isStays {Q : Rq} {M : Mem} {T : Tx} {i : Nat} (tw : Tw T) (hk : Y_tk T i M) (k : Q (some (.int (r_b (decide (tK T i = 145))))) GY M) : Ca 1 mt_X12_isStays 0 0 [.ref 0] GY M Q := by
  refine Ca_of rfl (Nat.le_of_ble_eq_true rfl) ?_
  refine Ru_aload_n (pc := 0) dX12_isStays_0 rfl rfl ?_
  refine Ru_bipush (pc := 1) (nI 115) dX12_isStays_1 rfl ?_
  refine Ru_bipush (pc := 3) (nI 116) dX12_isStays_3 rfl ?_
  refine Ru_bipush (pc := 5) (nI 97) dX12_isStays_5 rfl ?_
  refine Ru_bipush (pc := 7) (nI 121) dX12_isStays_7 rfl ?_
  refine Ru_bipush (pc := 9) (nI 115) dX12_isStays_9 rfl ?_
  refine Ru_iconst (pc := 11) (nI 0) dX12_isStays_11 rfl ?_
  refine Ru_cs6 (pc := 12) dX12_isStays_12 ms_X12_163 (by decide) (Nat.le_of_ble_eq_true rfl) (c_X12_sp_17 ?_) 
  refine Ru_cv1 (pc := 15) dX12_isStays_15 mv_X12_167 rfl (by decide) (Nat.le_of_ble_eq_true rfl) (c_X12_isWord tw hk (r := 17) (by decide) rw32_17 ?_) 
  refine Ru_zret (pc := 18) dX12_isStays_18 rfl ⟨Nat.le_refl _, Nat.le_refl _⟩ (r_b_01 _) ?_
  exact k

theorem c_X12_isWorn {Q : Rq} {M : Mem} {T : Tx} {i : Nat} (tw : Tw T) (hk : Y_tk T i M) (k : Q (some (.int (r_b (decide (tK T i = 146))))) GY M) : Ca 1 mt_X12_isWorn 0 0 [.ref 0] GY M Q := by
  refine Ca_of rfl (Nat.le_of_ble_eq_true rfl) ?_
  refine Ru_aload_n (pc := 0) dX12_isWorn_0 rfl rfl ?_
  refine Ru_bipush (pc := 1) (nI 119) dX12_isWorn_1 rfl ?_
  refine Ru_bipush (pc := 3) (nI 111) dX12_isWorn_3 rfl ?_
  refine Ru_bipush (pc := 5) (nI 114) dX12_isWorn_5 rfl ?_
  refine Ru_bipush (pc := 7) (nI 110) dX12_isWorn_7 rfl ?_
  refine Ru_iconst (pc := 9) (nI 0) dX12_isWorn_9 rfl ?_
  refine Ru_iconst (pc := 10) (nI 0) dX12_isWorn_10 rfl ?_
  refine Ru_cs6 (pc := 11) dX12_isWorn_11 ms_X12_163 (by decide) (Nat.le_of_ble_eq_true rfl) (c_X12_sp_18 ?_) 
  refine Ru_cv1 (pc := 14) dX12_isWorn_14 mv_X12_167 rfl (by decide) (Nat.le_of_ble_eq_true rfl) (c_X12_isWord tw hk (r := 18) (by decide) rw32_18 ?_) 
  refine Ru_zret (pc := 17) dX12_isWorn_17 rfl ⟨Nat.le_refl _, Nat.le_refl _⟩ (r_b_01 _) ?_
  exact k

theorem c_X12_isHeld {Q : Rq} {M : Mem} {T : Tx} {i : Nat} (tw : Tw T) (hk : Y_tk T i M) (k : Q (some (.int (r_b (decide (tK T i = 147))))) GY M) : Ca 1 mt_X12_isHeld 0 0 [.ref 0] GY M Q := by
  refine Ca_of rfl (Nat.le_of_ble_eq_true rfl) ?_
  refine Ru_aload_n (pc := 0) dX12_isHeld_0 rfl rfl ?_
  refine Ru_bipush (pc := 1) (nI 104) dX12_isHeld_1 rfl ?_
  refine Ru_bipush (pc := 3) (nI 101) dX12_isHeld_3 rfl ?_
  refine Ru_bipush (pc := 5) (nI 108) dX12_isHeld_5 rfl ?_
  refine Ru_bipush (pc := 7) (nI 100) dX12_isHeld_7 rfl ?_
  refine Ru_iconst (pc := 9) (nI 0) dX12_isHeld_9 rfl ?_
  refine Ru_iconst (pc := 10) (nI 0) dX12_isHeld_10 rfl ?_
  refine Ru_cs6 (pc := 11) dX12_isHeld_11 ms_X12_163 (by decide) (Nat.le_of_ble_eq_true rfl) (c_X12_sp_19 ?_) 
  refine Ru_cv1 (pc := 14) dX12_isHeld_14 mv_X12_167 rfl (by decide) (Nat.le_of_ble_eq_true rfl) (c_X12_isWord tw hk (r := 19) (by decide) rw32_19 ?_) 
  refine Ru_zret (pc := 17) dX12_isHeld_17 rfl ⟨Nat.le_refl _, Nat.le_refl _⟩ (r_b_01 _) ?_
  exact k

theorem c_X12_isSent {Q : Rq} {M : Mem} {T : Tx} {i : Nat} (tw : Tw T) (hk : Y_tk T i M) (k : Q (some (.int (r_b (decide (tK T i = 148))))) GY M) : Ca 1 mt_X12_isSent 0 0 [.ref 0] GY M Q := by
  refine Ca_of rfl (Nat.le_of_ble_eq_true rfl) ?_
  refine Ru_aload_n (pc := 0) dX12_isSent_0 rfl rfl ?_
  refine Ru_bipush (pc := 1) (nI 115) dX12_isSent_1 rfl ?_
  refine Ru_bipush (pc := 3) (nI 101) dX12_isSent_3 rfl ?_
  refine Ru_bipush (pc := 5) (nI 110) dX12_isSent_5 rfl ?_
  refine Ru_bipush (pc := 7) (nI 116) dX12_isSent_7 rfl ?_
  refine Ru_iconst (pc := 9) (nI 0) dX12_isSent_9 rfl ?_
  refine Ru_iconst (pc := 10) (nI 0) dX12_isSent_10 rfl ?_
  refine Ru_cs6 (pc := 11) dX12_isSent_11 ms_X12_163 (by decide) (Nat.le_of_ble_eq_true rfl) (c_X12_sp_20 ?_) 
  refine Ru_cv1 (pc := 14) dX12_isSent_14 mv_X12_167 rfl (by decide) (Nat.le_of_ble_eq_true rfl) (c_X12_isWord tw hk (r := 20) (by decide) rw32_20 ?_) 
  refine Ru_zret (pc := 17) dX12_isSent_17 rfl ⟨Nat.le_refl _, Nat.le_refl _⟩ (r_b_01 _) ?_
  exact k

theorem c_X12_isHere {Q : Rq} {M : Mem} {T : Tx} {i : Nat} (tw : Tw T) (hk : Y_tk T i M) (k : Q (some (.int (r_b (decide (tK T i = 149))))) GY M) : Ca 1 mt_X12_isHere 0 0 [.ref 0] GY M Q := by
  refine Ca_of rfl (Nat.le_of_ble_eq_true rfl) ?_
  refine Ru_aload_n (pc := 0) dX12_isHere_0 rfl rfl ?_
  refine Ru_bipush (pc := 1) (nI 104) dX12_isHere_1 rfl ?_
  refine Ru_bipush (pc := 3) (nI 101) dX12_isHere_3 rfl ?_
  refine Ru_bipush (pc := 5) (nI 114) dX12_isHere_5 rfl ?_
  refine Ru_bipush (pc := 7) (nI 101) dX12_isHere_7 rfl ?_
  refine Ru_iconst (pc := 9) (nI 0) dX12_isHere_9 rfl ?_
  refine Ru_iconst (pc := 10) (nI 0) dX12_isHere_10 rfl ?_
  refine Ru_cs6 (pc := 11) dX12_isHere_11 ms_X12_163 (by decide) (Nat.le_of_ble_eq_true rfl) (c_X12_sp_21 ?_) 
  refine Ru_cv1 (pc := 14) dX12_isHere_14 mv_X12_167 rfl (by decide) (Nat.le_of_ble_eq_true rfl) (c_X12_isWord tw hk (r := 21) (by decide) rw32_21 ?_) 
  refine Ru_zret (pc := 17) dX12_isHere_17 rfl ⟨Nat.le_refl _, Nat.le_refl _⟩ (r_b_01 _) ?_
  exact k

theorem c_X12_isDay {Q : Rq} {M : Mem} {T : Tx} {i : Nat} (tw : Tw T) (hk : Y_tk T i M) (k : Q (some (.int (r_b (decide (tK T i = 150))))) GY M) : Ca 1 mt_X12_isDay 0 0 [.ref 0] GY M Q := by
  refine Ca_of rfl (Nat.le_of_ble_eq_true rfl) ?_
  refine Ru_aload_n (pc := 0) dX12_isDay_0 rfl rfl ?_
  refine Ru_bipush (pc := 1) (nI 100) dX12_isDay_1 rfl ?_
  refine Ru_bipush (pc := 3) (nI 97) dX12_isDay_3 rfl ?_
  refine Ru_bipush (pc := 5) (nI 121) dX12_isDay_5 rfl ?_
  refine Ru_iconst (pc := 7) (nI 0) dX12_isDay_7 rfl ?_
  refine Ru_iconst (pc := 8) (nI 0) dX12_isDay_8 rfl ?_
  refine Ru_iconst (pc := 9) (nI 0) dX12_isDay_9 rfl ?_
  refine Ru_cs6 (pc := 10) dX12_isDay_10 ms_X12_163 (by decide) (Nat.le_of_ble_eq_true rfl) (c_X12_sp_22 ?_) 
  refine Ru_cv1 (pc := 13) dX12_isDay_13 mv_X12_167 rfl (by decide) (Nat.le_of_ble_eq_true rfl) (c_X12_isWord tw hk (r := 22) (by decide) rw32_22 ?_) 
  refine Ru_zret (pc := 16) dX12_isDay_16 rfl ⟨Nat.le_refl _, Nat.le_refl _⟩ (r_b_01 _) ?_
  exact k

theorem c_X12_isOr {Q : Rq} {M : Mem} {T : Tx} {i : Nat} (tw : Tw T) (hk : Y_tk T i M) (k : Q (some (.int (r_b (decide (tK T i = 151))))) GY M) : Ca 1 mt_X12_isOr 0 0 [.ref 0] GY M Q := by
  refine Ca_of rfl (Nat.le_of_ble_eq_true rfl) ?_
  refine Ru_aload_n (pc := 0) dX12_isOr_0 rfl rfl ?_
  refine Ru_bipush (pc := 1) (nI 111) dX12_isOr_1 rfl ?_
  refine Ru_bipush (pc := 3) (nI 114) dX12_isOr_3 rfl ?_
  refine Ru_iconst (pc := 5) (nI 0) dX12_isOr_5 rfl ?_
  refine Ru_iconst (pc := 6) (nI 0) dX12_isOr_6 rfl ?_
  refine Ru_iconst (pc := 7) (nI 0) dX12_isOr_7 rfl ?_
  refine Ru_iconst (pc := 8) (nI 0) dX12_isOr_8 rfl ?_
  refine Ru_cs6 (pc := 9) dX12_isOr_9 ms_X12_163 (by decide) (Nat.le_of_ble_eq_true rfl) (c_X12_sp_23 ?_) 
  refine Ru_cv1 (pc := 12) dX12_isOr_12 mv_X12_167 rfl (by decide) (Nat.le_of_ble_eq_true rfl) (c_X12_isWord tw hk (r := 23) (by decide) rw32_23 ?_) 
  refine Ru_zret (pc := 15) dX12_isOr_15 rfl ⟨Nat.le_refl _, Nat.le_refl _⟩ (r_b_01 _) ?_
  exact k

theorem c_X12_isAnd {Q : Rq} {M : Mem} {T : Tx} {i : Nat} (tw : Tw T) (hk : Y_tk T i M) (k : Q (some (.int (r_b (decide (tK T i = 152))))) GY M) : Ca 1 mt_X12_isAnd 0 0 [.ref 0] GY M Q := by
  refine Ca_of rfl (Nat.le_of_ble_eq_true rfl) ?_
  refine Ru_aload_n (pc := 0) dX12_isAnd_0 rfl rfl ?_
  refine Ru_bipush (pc := 1) (nI 97) dX12_isAnd_1 rfl ?_
  refine Ru_bipush (pc := 3) (nI 110) dX12_isAnd_3 rfl ?_
  refine Ru_bipush (pc := 5) (nI 100) dX12_isAnd_5 rfl ?_
  refine Ru_iconst (pc := 7) (nI 0) dX12_isAnd_7 rfl ?_
  refine Ru_iconst (pc := 8) (nI 0) dX12_isAnd_8 rfl ?_
  refine Ru_iconst (pc := 9) (nI 0) dX12_isAnd_9 rfl ?_
  refine Ru_cs6 (pc := 10) dX12_isAnd_10 ms_X12_163 (by decide) (Nat.le_of_ble_eq_true rfl) (c_X12_sp_24 ?_) 
  refine Ru_cv1 (pc := 13) dX12_isAnd_13 mv_X12_167 rfl (by decide) (Nat.le_of_ble_eq_true rfl) (c_X12_isWord tw hk (r := 24) (by decide) rw32_24 ?_) 
  refine Ru_zret (pc := 16) dX12_isAnd_16 rfl ⟨Nat.le_refl _, Nat.le_refl _⟩ (r_b_01 _) ?_
  exact k

theorem c_X12_isNot {Q : Rq} {M : Mem} {T : Tx} {i : Nat} (tw : Tw T) (hk : Y_tk T i M) (k : Q (some (.int (r_b (decide (tK T i = 153))))) GY M) : Ca 1 mt_X12_isNot 0 0 [.ref 0] GY M Q := by
  refine Ca_of rfl (Nat.le_of_ble_eq_true rfl) ?_
  refine Ru_aload_n (pc := 0) dX12_isNot_0 rfl rfl ?_
  refine Ru_bipush (pc := 1) (nI 110) dX12_isNot_1 rfl ?_
  refine Ru_bipush (pc := 3) (nI 111) dX12_isNot_3 rfl ?_
  refine Ru_bipush (pc := 5) (nI 116) dX12_isNot_5 rfl ?_
  refine Ru_iconst (pc := 7) (nI 0) dX12_isNot_7 rfl ?_
  refine Ru_iconst (pc := 8) (nI 0) dX12_isNot_8 rfl ?_
  refine Ru_iconst (pc := 9) (nI 0) dX12_isNot_9 rfl ?_
  refine Ru_cs6 (pc := 10) dX12_isNot_10 ms_X12_163 (by decide) (Nat.le_of_ble_eq_true rfl) (c_X12_sp_25 ?_) 
  refine Ru_cv1 (pc := 13) dX12_isNot_13 mv_X12_167 rfl (by decide) (Nat.le_of_ble_eq_true rfl) (c_X12_isWord tw hk (r := 25) (by decide) rw32_25 ?_) 
  refine Ru_zret (pc := 16) dX12_isNot_16 rfl ⟨Nat.le_refl _, Nat.le_refl _⟩ (r_b_01 _) ?_
  exact k

theorem c_X12_isBy {Q : Rq} {M : Mem} {T : Tx} {i : Nat} (tw : Tw T) (hk : Y_tk T i M) (k : Q (some (.int (r_b (decide (tK T i = 154))))) GY M) : Ca 1 mt_X12_isBy 0 0 [.ref 0] GY M Q := by
  refine Ca_of rfl (Nat.le_of_ble_eq_true rfl) ?_
  refine Ru_aload_n (pc := 0) dX12_isBy_0 rfl rfl ?_
  refine Ru_bipush (pc := 1) (nI 98) dX12_isBy_1 rfl ?_
  refine Ru_bipush (pc := 3) (nI 121) dX12_isBy_3 rfl ?_
  refine Ru_iconst (pc := 5) (nI 0) dX12_isBy_5 rfl ?_
  refine Ru_iconst (pc := 6) (nI 0) dX12_isBy_6 rfl ?_
  refine Ru_iconst (pc := 7) (nI 0) dX12_isBy_7 rfl ?_
  refine Ru_iconst (pc := 8) (nI 0) dX12_isBy_8 rfl ?_
  refine Ru_cs6 (pc := 9) dX12_isBy_9 ms_X12_163 (by decide) (Nat.le_of_ble_eq_true rfl) (c_X12_sp_26 ?_) 
  refine Ru_cv1 (pc := 12) dX12_isBy_12 mv_X12_167 rfl (by decide) (Nat.le_of_ble_eq_true rfl) (c_X12_isWord tw hk (r := 26) (by decide) rw32_26 ?_) 
  refine Ru_zret (pc := 15) dX12_isBy_15 rfl ⟨Nat.le_refl _, Nat.le_refl _⟩ (r_b_01 _) ?_
  exact k

theorem c_X12_isHold {Q : Rq} {M : Mem} {T : Tx} {i : Nat} (tw : Tw T) (hk : Y_tk T i M) (k : Q (some (.int (r_b (decide (tK T i = 155))))) GY M) : Ca 1 mt_X12_isHold 0 0 [.ref 0] GY M Q := by
  refine Ca_of rfl (Nat.le_of_ble_eq_true rfl) ?_
  refine Ru_aload_n (pc := 0) dX12_isHold_0 rfl rfl ?_
  refine Ru_bipush (pc := 1) (nI 104) dX12_isHold_1 rfl ?_
  refine Ru_bipush (pc := 3) (nI 111) dX12_isHold_3 rfl ?_
  refine Ru_bipush (pc := 5) (nI 108) dX12_isHold_5 rfl ?_
  refine Ru_bipush (pc := 7) (nI 100) dX12_isHold_7 rfl ?_
  refine Ru_iconst (pc := 9) (nI 0) dX12_isHold_9 rfl ?_
  refine Ru_iconst (pc := 10) (nI 0) dX12_isHold_10 rfl ?_
  refine Ru_cs6 (pc := 11) dX12_isHold_11 ms_X12_163 (by decide) (Nat.le_of_ble_eq_true rfl) (c_X12_sp_27 ?_) 
  refine Ru_cv1 (pc := 14) dX12_isHold_14 mv_X12_167 rfl (by decide) (Nat.le_of_ble_eq_true rfl) (c_X12_isWord tw hk (r := 27) (by decide) rw32_27 ?_) 
  refine Ru_zret (pc := 17) dX12_isHold_17 rfl ⟨Nat.le_refl _, Nat.le_refl _⟩ (r_b_01 _) ?_
  exact k

theorem c_X12_partWord {Q : Rq} {M : Mem} {T : Tx} {i : Nat} (tw : Tw T) (hk : Y_tk T i M) (k : Q (some (.int (nM (pWd (tK T i))))) GY M) : Ca 1 mt_X12_partWord 0 0 [.ref 0] GY M Q := by
  refine Ca_of rfl (Nat.le_of_ble_eq_true rfl) ?_
  refine Ru_aload_n (pc := 0) dX12_partWord_0 rfl rfl ?_
  refine Ru_bipush (pc := 1) (nI 116) dX12_partWord_1 rfl ?_
  refine Ru_bipush (pc := 3) (nI 104) dX12_partWord_3 rfl ?_
  refine Ru_bipush (pc := 5) (nI 105) dX12_partWord_5 rfl ?_
  refine Ru_bipush (pc := 7) (nI 110) dX12_partWord_7 rfl ?_
  refine Ru_bipush (pc := 9) (nI 103) dX12_partWord_9 rfl ?_
  refine Ru_iconst (pc := 11) (nI 0) dX12_partWord_11 rfl ?_
  refine Ru_cs6 (pc := 12) dX12_partWord_12 ms_X12_163 (by decide) (Nat.le_of_ble_eq_true rfl) (c_X12_sp_0 ?_) 
  refine Ru_cv1 (pc := 15) dX12_partWord_15 mv_X12_167 rfl (by decide) (Nat.le_of_ble_eq_true rfl) (c_X12_isWord tw hk (r := 0) (by decide) rw32_0 ?_) 
  refine Ru_if_eqB (pc := 18) 23 dX12_partWord_18 (by decide) (fun h1 => ?_) (fun h1 => ?_)
  · replace h1 := of_decide_eq_false h1
    refine Ru_aload_n (pc := 23) dX12_partWord_23 rfl rfl ?_
    refine Ru_bipush (pc := 24) (nI 109) dX12_partWord_24 rfl ?_
    refine Ru_bipush (pc := 26) (nI 97) dX12_partWord_26 rfl ?_
    refine Ru_bipush (pc := 28) (nI 107) dX12_partWord_28 rfl ?_
    refine Ru_bipush (pc := 30) (nI 105) dX12_partWord_30 rfl ?_
    refine Ru_bipush (pc := 32) (nI 110) dX12_partWord_32 rfl ?_
    refine Ru_bipush (pc := 34) (nI 103) dX12_partWord_34 rfl ?_
    refine Ru_cs6 (pc := 36) dX12_partWord_36 ms_X12_163 (by decide) (Nat.le_of_ble_eq_true rfl) (c_X12_sp_3 ?_) 
    refine Ru_cv1 (pc := 39) dX12_partWord_39 mv_X12_167 rfl (by decide) (Nat.le_of_ble_eq_true rfl) (c_X12_isWord tw hk (r := 3) (by decide) rw32_3 ?_) 
    refine Ru_if_eqB (pc := 42) 47 dX12_partWord_42 (by decide) (fun h2 => ?_) (fun h2 => ?_)
    · replace h2 := of_decide_eq_false h2
      refine Ru_aload_n (pc := 47) dX12_partWord_47 rfl rfl ?_
      refine Ru_bipush (pc := 48) (nI 112) dX12_partWord_48 rfl ?_
      refine Ru_bipush (pc := 50) (nI 101) dX12_partWord_50 rfl ?_
      refine Ru_bipush (pc := 52) (nI 114) dX12_partWord_52 rfl ?_
      refine Ru_bipush (pc := 54) (nI 115) dX12_partWord_54 rfl ?_
      refine Ru_bipush (pc := 56) (nI 111) dX12_partWord_56 rfl ?_
      refine Ru_bipush (pc := 58) (nI 110) dX12_partWord_58 rfl ?_
      refine Ru_cs6 (pc := 60) dX12_partWord_60 ms_X12_163 (by decide) (Nat.le_of_ble_eq_true rfl) (c_X12_sp_9 ?_) 
      refine Ru_cv1 (pc := 63) dX12_partWord_63 mv_X12_167 rfl (by decide) (Nat.le_of_ble_eq_true rfl) (c_X12_isWord tw hk (r := 9) (by decide) rw32_9 ?_) 
      refine Ru_if_eqB (pc := 66) 71 dX12_partWord_66 (by decide) (fun h3 => ?_) (fun h3 => ?_)
      · replace h3 := of_decide_eq_false h3
        refine Ru_aload_n (pc := 71) dX12_partWord_71 rfl rfl ?_
        refine Ru_bipush (pc := 72) (nI 119) dX12_partWord_72 rfl ?_
        refine Ru_bipush (pc := 74) (nI 97) dX12_partWord_74 rfl ?_
        refine Ru_bipush (pc := 76) (nI 110) dX12_partWord_76 rfl ?_
        refine Ru_bipush (pc := 78) (nI 116) dX12_partWord_78 rfl ?_
        refine Ru_iconst (pc := 80) (nI 0) dX12_partWord_80 rfl ?_
        refine Ru_iconst (pc := 81) (nI 0) dX12_partWord_81 rfl ?_
        refine Ru_cs6 (pc := 82) dX12_partWord_82 ms_X12_163 (by decide) (Nat.le_of_ble_eq_true rfl) (c_X12_sp_13 ?_) 
        refine Ru_cv1 (pc := 85) dX12_partWord_85 mv_X12_167 rfl (by decide) (Nat.le_of_ble_eq_true rfl) (c_X12_isWord tw hk (r := 13) (by decide) rw32_13 ?_) 
        refine Ru_if_eqB (pc := 88) 95 dX12_partWord_88 (by decide) (fun h4 => ?_) (fun h4 => ?_)
        · replace h4 := of_decide_eq_false h4
          refine Ru_iconst (pc := 95) (-1) dX12_partWord_95 rfl ?_
          refine Ru_iret (pc := 96) dX12_partWord_96 rfl ⟨Nat.le_refl _, Nat.le_refl _⟩ ?_
          refine r_qe ?_ k
          have hp := pWd_sp (tK T i)
          rw [show pWd (tK T i) = 0 by omega]
          rfl
        · replace h4 := of_decide_eq_true h4
          refine Ru_iconst (pc := 91) (nI 3) dX12_partWord_91 rfl ?_
          refine Ru_goto (pc := 92) 96 dX12_partWord_92 (by decide) ?_
          refine Ru_iret (pc := 96) dX12_partWord_96 rfl ⟨Nat.le_refl _, Nat.le_refl _⟩ ?_
          refine r_qe ?_ k
          have hp := pWd_sp (tK T i)
          rw [show pWd (tK T i) = 4 by omega]
          rfl
      · replace h3 := of_decide_eq_true h3
        refine Ru_iconst (pc := 69) (nI 2) dX12_partWord_69 rfl ?_
        refine Ru_iret (pc := 70) dX12_partWord_70 rfl ⟨Nat.le_refl _, Nat.le_refl _⟩ ?_
        refine r_qe ?_ k
        have hp := pWd_sp (tK T i)
        rw [show pWd (tK T i) = 3 by omega]
        rfl
    · replace h2 := of_decide_eq_true h2
      refine Ru_iconst (pc := 45) (nI 1) dX12_partWord_45 rfl ?_
      refine Ru_iret (pc := 46) dX12_partWord_46 rfl ⟨Nat.le_refl _, Nat.le_refl _⟩ ?_
      refine r_qe ?_ k
      have hp := pWd_sp (tK T i)
      rw [show pWd (tK T i) = 2 by omega]
      rfl
  · replace h1 := of_decide_eq_true h1
    refine Ru_iconst (pc := 21) (nI 0) dX12_partWord_21 rfl ?_
    refine Ru_iret (pc := 22) dX12_partWord_22 rfl ⟨Nat.le_refl _, Nat.le_refl _⟩ ?_
    refine r_qe ?_ k
    have hp := pWd_sp (tK T i)
    rw [show pWd (tK T i) = 1 by omega]
    rfl

theorem pWd_n (k : Nat) : (nM (pWd k)).toInt = (pWd k : Int) - 1 := nM_t (by have := pWd_sp k; omega)

theorem c_X12_isTownWord {Q : Rq} {M : Mem} {T : Tx} {i : Nat} (tw : Tw T) (hk : Y_tk T i M) (k : Q (some (.int (r_b (decide (128 ≤ tK T i))))) GY M) : Ca 2 mt_X12_isTownWord 0 0 [.ref 0] GY M Q := by
  refine Ca_of rfl (Nat.le_of_ble_eq_true rfl) ?_
  have hb := kK_b T (tA T i)
  have hb2 : kK T (tA T i) = tK T i := rfl
  rw [hb2] at hb
  have hp := pWd_sp (tK T i)
  have hpn := pWd_n (tK T i)
  refine Ru_aload_n (pc := 0) dX12_isTownWord_0 rfl rfl ?_
  refine Ru_cv0 (pc := 1) dX12_isTownWord_1 mv_X12_171 rfl (by decide) (Nat.le_of_ble_eq_true rfl) (c_X12_partWord tw hk ?_) 
  refine Ru_if_geT (pc := 4) 77 dX12_isTownWord_4 (by decide) (fun h1 => ?_) (fun h1 => ?_)
  · refine Ru_iconst (pc := 77) (nI 1) dX12_isTownWord_77 rfl ?_
    refine Ru_zret (pc := 78) dX12_isTownWord_78 rfl ⟨Nat.le_refl _, Nat.le_refl _⟩ (Or.inr rfl) ?_
    refine r_qe (r_b_t (decide_eq_true (by omega))) k
  · refine Ru_aload_n (pc := 7) dX12_isTownWord_7 rfl rfl ?_
    refine Ru_cv0 (pc := 8) dX12_isTownWord_8 mv_X12_175 rfl (by decide) (Nat.le_of_ble_eq_true rfl) (c_X12_isWear tw hk ?_) 
    refine Ru_if_neB (pc := 11) 77 dX12_isTownWord_11 (by decide) (fun h2 => ?_) (fun h2 => ?_)
    · replace h2 := of_decide_eq_true h2
      refine Ru_iconst (pc := 77) (nI 1) dX12_isTownWord_77 rfl ?_
      refine Ru_zret (pc := 78) dX12_isTownWord_78 rfl ⟨Nat.le_refl _, Nat.le_refl _⟩ (Or.inr rfl) ?_
      refine r_qe (r_b_t (decide_eq_true (by omega))) k
    · replace h2 := of_decide_eq_false h2
      refine Ru_aload_n (pc := 14) dX12_isTownWord_14 rfl rfl ?_
      refine Ru_cv0 (pc := 15) dX12_isTownWord_15 mv_X12_179 rfl (by decide) (Nat.le_of_ble_eq_true rfl) (c_X12_isSend tw hk ?_) 
      refine Ru_if_neB (pc := 18) 77 dX12_isTownWord_18 (by decide) (fun h3 => ?_) (fun h3 => ?_)
      · replace h3 := of_decide_eq_true h3
        refine Ru_iconst (pc := 77) (nI 1) dX12_isTownWord_77 rfl ?_
        refine Ru_zret (pc := 78) dX12_isTownWord_78 rfl ⟨Nat.le_refl _, Nat.le_refl _⟩ (Or.inr rfl) ?_
        refine r_qe (r_b_t (decide_eq_true (by omega))) k
      · replace h3 := of_decide_eq_false h3
        refine Ru_aload_n (pc := 21) dX12_isTownWord_21 rfl rfl ?_
        refine Ru_cv0 (pc := 22) dX12_isTownWord_22 mv_X12_182 rfl (by decide) (Nat.le_of_ble_eq_true rfl) (c_X12_isHold tw hk ?_) 
        refine Ru_if_neB (pc := 25) 77 dX12_isTownWord_25 (by decide) (fun h4 => ?_) (fun h4 => ?_)
        · replace h4 := of_decide_eq_true h4
          refine Ru_iconst (pc := 77) (nI 1) dX12_isTownWord_77 rfl ?_
          refine Ru_zret (pc := 78) dX12_isTownWord_78 rfl ⟨Nat.le_refl _, Nat.le_refl _⟩ (Or.inr rfl) ?_
          refine r_qe (r_b_t (decide_eq_true (by omega))) k
        · replace h4 := of_decide_eq_false h4
          refine Ru_aload_n (pc := 28) dX12_isTownWord_28 rfl rfl ?_
          refine Ru_cv0 (pc := 29) dX12_isTownWord_29 mv_X12_185 rfl (by decide) (Nat.le_of_ble_eq_true rfl) (c_X12_isGives tw hk ?_) 
          refine Ru_if_neB (pc := 32) 77 dX12_isTownWord_32 (by decide) (fun h5 => ?_) (fun h5 => ?_)
          · replace h5 := of_decide_eq_true h5
            refine Ru_iconst (pc := 77) (nI 1) dX12_isTownWord_77 rfl ?_
            refine Ru_zret (pc := 78) dX12_isTownWord_78 rfl ⟨Nat.le_refl _, Nat.le_refl _⟩ (Or.inr rfl) ?_
            refine r_qe (r_b_t (decide_eq_true (by omega))) k
          · replace h5 := of_decide_eq_false h5
            refine Ru_aload_n (pc := 35) dX12_isTownWord_35 rfl rfl ?_
            refine Ru_cv0 (pc := 36) dX12_isTownWord_36 mv_X12_188 rfl (by decide) (Nat.le_of_ble_eq_true rfl) (c_X12_isHours tw hk ?_) 
            refine Ru_if_neB (pc := 39) 77 dX12_isTownWord_39 (by decide) (fun h6 => ?_) (fun h6 => ?_)
            · replace h6 := of_decide_eq_true h6
              refine Ru_iconst (pc := 77) (nI 1) dX12_isTownWord_77 rfl ?_
              refine Ru_zret (pc := 78) dX12_isTownWord_78 rfl ⟨Nat.le_refl _, Nat.le_refl _⟩ (Or.inr rfl) ?_
              refine r_qe (r_b_t (decide_eq_true (by omega))) k
            · replace h6 := of_decide_eq_false h6
              refine Ru_aload_n (pc := 42) dX12_isTownWord_42 rfl rfl ?_
              refine Ru_cv0 (pc := 43) dX12_isTownWord_43 mv_X12_191 rfl (by decide) (Nat.le_of_ble_eq_true rfl) (c_X12_isHands tw hk ?_) 
              refine Ru_if_neB (pc := 46) 77 dX12_isTownWord_46 (by decide) (fun h7 => ?_) (fun h7 => ?_)
              · replace h7 := of_decide_eq_true h7
                refine Ru_iconst (pc := 77) (nI 1) dX12_isTownWord_77 rfl ?_
                refine Ru_zret (pc := 78) dX12_isTownWord_78 rfl ⟨Nat.le_refl _, Nat.le_refl _⟩ (Or.inr rfl) ?_
                refine r_qe (r_b_t (decide_eq_true (by omega))) k
              · replace h7 := of_decide_eq_false h7
                refine Ru_aload_n (pc := 49) dX12_isTownWord_49 rfl rfl ?_
                refine Ru_cv0 (pc := 50) dX12_isTownWord_50 mv_X12_194 rfl (by decide) (Nat.le_of_ble_eq_true rfl) (c_X12_isOf tw hk ?_) 
                refine Ru_if_neB (pc := 53) 77 dX12_isTownWord_53 (by decide) (fun h8 => ?_) (fun h8 => ?_)
                · replace h8 := of_decide_eq_true h8
                  refine Ru_iconst (pc := 77) (nI 1) dX12_isTownWord_77 rfl ?_
                  refine Ru_zret (pc := 78) dX12_isTownWord_78 rfl ⟨Nat.le_refl _, Nat.le_refl _⟩ (Or.inr rfl) ?_
                  refine r_qe (r_b_t (decide_eq_true (by omega))) k
                · replace h8 := of_decide_eq_false h8
                  refine Ru_aload_n (pc := 56) dX12_isTownWord_56 rfl rfl ?_
                  refine Ru_cv0 (pc := 57) dX12_isTownWord_57 mv_X12_197 rfl (by decide) (Nat.le_of_ble_eq_true rfl) (c_X12_isWith tw hk ?_) 
                  refine Ru_if_neB (pc := 60) 77 dX12_isTownWord_60 (by decide) (fun h9 => ?_) (fun h9 => ?_)
                  · replace h9 := of_decide_eq_true h9
                    refine Ru_iconst (pc := 77) (nI 1) dX12_isTownWord_77 rfl ?_
                    refine Ru_zret (pc := 78) dX12_isTownWord_78 rfl ⟨Nat.le_refl _, Nat.le_refl _⟩ (Or.inr rfl) ?_
                    refine r_qe (r_b_t (decide_eq_true (by omega))) k
                  · replace h9 := of_decide_eq_false h9
                    refine Ru_aload_n (pc := 63) dX12_isTownWord_63 rfl rfl ?_
                    refine Ru_cv0 (pc := 64) dX12_isTownWord_64 mv_X12_200 rfl (by decide) (Nat.le_of_ble_eq_true rfl) (c_X12_isFrom tw hk ?_) 
                    refine Ru_if_neB (pc := 67) 77 dX12_isTownWord_67 (by decide) (fun h10 => ?_) (fun h10 => ?_)
                    · replace h10 := of_decide_eq_true h10
                      refine Ru_iconst (pc := 77) (nI 1) dX12_isTownWord_77 rfl ?_
                      refine Ru_zret (pc := 78) dX12_isTownWord_78 rfl ⟨Nat.le_refl _, Nat.le_refl _⟩ (Or.inr rfl) ?_
                      refine r_qe (r_b_t (decide_eq_true (by omega))) k
                    · replace h10 := of_decide_eq_false h10
                      refine Ru_aload_n (pc := 70) dX12_isTownWord_70 rfl rfl ?_
                      refine Ru_cv0 (pc := 71) dX12_isTownWord_71 mv_X12_203 rfl (by decide) (Nat.le_of_ble_eq_true rfl) (c_X12_isTo tw hk ?_) 
                      refine Ru_if_eqB (pc := 74) 79 dX12_isTownWord_74 (by decide) (fun h11 => ?_) (fun h11 => ?_)
                      · replace h11 := of_decide_eq_false h11
                        refine Ru_aload_n (pc := 79) dX12_isTownWord_79 rfl rfl ?_
                        refine Ru_cv0 (pc := 80) dX12_isTownWord_80 mv_X12_206 rfl (by decide) (Nat.le_of_ble_eq_true rfl) (c_X12_isIll tw hk ?_) 
                        refine Ru_if_neB (pc := 83) 135 dX12_isTownWord_83 (by decide) (fun h12 => ?_) (fun h12 => ?_)
                        · replace h12 := of_decide_eq_true h12
                          refine Ru_iconst (pc := 135) (nI 1) dX12_isTownWord_135 rfl ?_
                          refine Ru_zret (pc := 136) dX12_isTownWord_136 rfl ⟨Nat.le_refl _, Nat.le_refl _⟩ (Or.inr rfl) ?_
                          refine r_qe (r_b_t (decide_eq_true (by omega))) k
                        · replace h12 := of_decide_eq_false h12
                          refine Ru_aload_n (pc := 86) dX12_isTownWord_86 rfl rfl ?_
                          refine Ru_cv0 (pc := 87) dX12_isTownWord_87 mv_X12_209 rfl (by decide) (Nat.le_of_ble_eq_true rfl) (c_X12_isAt tw hk ?_) 
                          refine Ru_if_neB (pc := 90) 135 dX12_isTownWord_90 (by decide) (fun h13 => ?_) (fun h13 => ?_)
                          · replace h13 := of_decide_eq_true h13
                            refine Ru_iconst (pc := 135) (nI 1) dX12_isTownWord_135 rfl ?_
                            refine Ru_zret (pc := 136) dX12_isTownWord_136 rfl ⟨Nat.le_refl _, Nat.le_refl _⟩ (Or.inr rfl) ?_
                            refine r_qe (r_b_t (decide_eq_true (by omega))) k
                          · replace h13 := of_decide_eq_false h13
                            refine Ru_aload_n (pc := 93) dX12_isTownWord_93 rfl rfl ?_
                            refine Ru_cv0 (pc := 94) dX12_isTownWord_94 mv_X12_212 rfl (by decide) (Nat.le_of_ble_eq_true rfl) (c_X12_isWorth tw hk ?_) 
                            refine Ru_if_neB (pc := 97) 135 dX12_isTownWord_97 (by decide) (fun h14 => ?_) (fun h14 => ?_)
                            · replace h14 := of_decide_eq_true h14
                              refine Ru_iconst (pc := 135) (nI 1) dX12_isTownWord_135 rfl ?_
                              refine Ru_zret (pc := 136) dX12_isTownWord_136 rfl ⟨Nat.le_refl _, Nat.le_refl _⟩ (Or.inr rfl) ?_
                              refine r_qe (r_b_t (decide_eq_true (by omega))) k
                            · replace h14 := of_decide_eq_false h14
                              refine Ru_aload_n (pc := 100) dX12_isTownWord_100 rfl rfl ?_
                              refine Ru_cv0 (pc := 101) dX12_isTownWord_101 mv_X12_215 rfl (by decide) (Nat.le_of_ble_eq_true rfl) (c_X12_isEaten tw hk ?_) 
                              refine Ru_if_neB (pc := 104) 135 dX12_isTownWord_104 (by decide) (fun h15 => ?_) (fun h15 => ?_)
                              · replace h15 := of_decide_eq_true h15
                                refine Ru_iconst (pc := 135) (nI 1) dX12_isTownWord_135 rfl ?_
                                refine Ru_zret (pc := 136) dX12_isTownWord_136 rfl ⟨Nat.le_refl _, Nat.le_refl _⟩ (Or.inr rfl) ?_
                                refine r_qe (r_b_t (decide_eq_true (by omega))) k
                              · replace h15 := of_decide_eq_false h15
                                refine Ru_aload_n (pc := 107) dX12_isTownWord_107 rfl rfl ?_
                                refine Ru_cv0 (pc := 108) dX12_isTownWord_108 mv_X12_218 rfl (by decide) (Nat.le_of_ble_eq_true rfl) (c_X12_isStays tw hk ?_) 
                                refine Ru_if_neB (pc := 111) 135 dX12_isTownWord_111 (by decide) (fun h16 => ?_) (fun h16 => ?_)
                                · replace h16 := of_decide_eq_true h16
                                  refine Ru_iconst (pc := 135) (nI 1) dX12_isTownWord_135 rfl ?_
                                  refine Ru_zret (pc := 136) dX12_isTownWord_136 rfl ⟨Nat.le_refl _, Nat.le_refl _⟩ (Or.inr rfl) ?_
                                  refine r_qe (r_b_t (decide_eq_true (by omega))) k
                                · replace h16 := of_decide_eq_false h16
                                  refine Ru_aload_n (pc := 114) dX12_isTownWord_114 rfl rfl ?_
                                  refine Ru_cv0 (pc := 115) dX12_isTownWord_115 mv_X12_221 rfl (by decide) (Nat.le_of_ble_eq_true rfl) (c_X12_isWorn tw hk ?_) 
                                  refine Ru_if_neB (pc := 118) 135 dX12_isTownWord_118 (by decide) (fun h17 => ?_) (fun h17 => ?_)
                                  · replace h17 := of_decide_eq_true h17
                                    refine Ru_iconst (pc := 135) (nI 1) dX12_isTownWord_135 rfl ?_
                                    refine Ru_zret (pc := 136) dX12_isTownWord_136 rfl ⟨Nat.le_refl _, Nat.le_refl _⟩ (Or.inr rfl) ?_
                                    refine r_qe (r_b_t (decide_eq_true (by omega))) k
                                  · replace h17 := of_decide_eq_false h17
                                    refine Ru_aload_n (pc := 121) dX12_isTownWord_121 rfl rfl ?_
                                    refine Ru_cv0 (pc := 122) dX12_isTownWord_122 mv_X12_224 rfl (by decide) (Nat.le_of_ble_eq_true rfl) (c_X12_isHeld tw hk ?_) 
                                    refine Ru_if_neB (pc := 125) 135 dX12_isTownWord_125 (by decide) (fun h18 => ?_) (fun h18 => ?_)
                                    · replace h18 := of_decide_eq_true h18
                                      refine Ru_iconst (pc := 135) (nI 1) dX12_isTownWord_135 rfl ?_
                                      refine Ru_zret (pc := 136) dX12_isTownWord_136 rfl ⟨Nat.le_refl _, Nat.le_refl _⟩ (Or.inr rfl) ?_
                                      refine r_qe (r_b_t (decide_eq_true (by omega))) k
                                    · replace h18 := of_decide_eq_false h18
                                      refine Ru_aload_n (pc := 128) dX12_isTownWord_128 rfl rfl ?_
                                      refine Ru_cv0 (pc := 129) dX12_isTownWord_129 mv_X12_227 rfl (by decide) (Nat.le_of_ble_eq_true rfl) (c_X12_isSent tw hk ?_) 
                                      refine Ru_if_eqB (pc := 132) 137 dX12_isTownWord_132 (by decide) (fun h19 => ?_) (fun h19 => ?_)
                                      · replace h19 := of_decide_eq_false h19
                                        refine Ru_aload_n (pc := 137) dX12_isTownWord_137 rfl rfl ?_
                                        refine Ru_cv0 (pc := 138) dX12_isTownWord_138 mv_X12_230 rfl (by decide) (Nat.le_of_ble_eq_true rfl) (c_X12_isHere tw hk ?_) 
                                        refine Ru_if_neB (pc := 141) 179 dX12_isTownWord_141 (by decide) (fun h20 => ?_) (fun h20 => ?_)
                                        · replace h20 := of_decide_eq_true h20
                                          refine Ru_iconst (pc := 179) (nI 1) dX12_isTownWord_179 rfl ?_
                                          refine Ru_goto (pc := 180) 184 dX12_isTownWord_180 (by decide) ?_
                                          refine Ru_zret (pc := 184) dX12_isTownWord_184 rfl ⟨Nat.le_refl _, Nat.le_refl _⟩ (Or.inr rfl) ?_
                                          refine r_qe (r_b_t (decide_eq_true (by omega))) k
                                        · replace h20 := of_decide_eq_false h20
                                          refine Ru_aload_n (pc := 144) dX12_isTownWord_144 rfl rfl ?_
                                          refine Ru_cv0 (pc := 145) dX12_isTownWord_145 mv_X12_233 rfl (by decide) (Nat.le_of_ble_eq_true rfl) (c_X12_isDay tw hk ?_) 
                                          refine Ru_if_neB (pc := 148) 179 dX12_isTownWord_148 (by decide) (fun h21 => ?_) (fun h21 => ?_)
                                          · replace h21 := of_decide_eq_true h21
                                            refine Ru_iconst (pc := 179) (nI 1) dX12_isTownWord_179 rfl ?_
                                            refine Ru_goto (pc := 180) 184 dX12_isTownWord_180 (by decide) ?_
                                            refine Ru_zret (pc := 184) dX12_isTownWord_184 rfl ⟨Nat.le_refl _, Nat.le_refl _⟩ (Or.inr rfl) ?_
                                            refine r_qe (r_b_t (decide_eq_true (by omega))) k
                                          · replace h21 := of_decide_eq_false h21
                                            refine Ru_aload_n (pc := 151) dX12_isTownWord_151 rfl rfl ?_
                                            refine Ru_cv0 (pc := 152) dX12_isTownWord_152 mv_X12_236 rfl (by decide) (Nat.le_of_ble_eq_true rfl) (c_X12_isOr tw hk ?_) 
                                            refine Ru_if_neB (pc := 155) 179 dX12_isTownWord_155 (by decide) (fun h22 => ?_) (fun h22 => ?_)
                                            · replace h22 := of_decide_eq_true h22
                                              refine Ru_iconst (pc := 179) (nI 1) dX12_isTownWord_179 rfl ?_
                                              refine Ru_goto (pc := 180) 184 dX12_isTownWord_180 (by decide) ?_
                                              refine Ru_zret (pc := 184) dX12_isTownWord_184 rfl ⟨Nat.le_refl _, Nat.le_refl _⟩ (Or.inr rfl) ?_
                                              refine r_qe (r_b_t (decide_eq_true (by omega))) k
                                            · replace h22 := of_decide_eq_false h22
                                              refine Ru_aload_n (pc := 158) dX12_isTownWord_158 rfl rfl ?_
                                              refine Ru_cv0 (pc := 159) dX12_isTownWord_159 mv_X12_239 rfl (by decide) (Nat.le_of_ble_eq_true rfl) (c_X12_isAnd tw hk ?_) 
                                              refine Ru_if_neB (pc := 162) 179 dX12_isTownWord_162 (by decide) (fun h23 => ?_) (fun h23 => ?_)
                                              · replace h23 := of_decide_eq_true h23
                                                refine Ru_iconst (pc := 179) (nI 1) dX12_isTownWord_179 rfl ?_
                                                refine Ru_goto (pc := 180) 184 dX12_isTownWord_180 (by decide) ?_
                                                refine Ru_zret (pc := 184) dX12_isTownWord_184 rfl ⟨Nat.le_refl _, Nat.le_refl _⟩ (Or.inr rfl) ?_
                                                refine r_qe (r_b_t (decide_eq_true (by omega))) k
                                              · replace h23 := of_decide_eq_false h23
                                                refine Ru_aload_n (pc := 165) dX12_isTownWord_165 rfl rfl ?_
                                                refine Ru_cv0 (pc := 166) dX12_isTownWord_166 mv_X12_242 rfl (by decide) (Nat.le_of_ble_eq_true rfl) (c_X12_isNot tw hk ?_) 
                                                refine Ru_if_neB (pc := 169) 179 dX12_isTownWord_169 (by decide) (fun h24 => ?_) (fun h24 => ?_)
                                                · replace h24 := of_decide_eq_true h24
                                                  refine Ru_iconst (pc := 179) (nI 1) dX12_isTownWord_179 rfl ?_
                                                  refine Ru_goto (pc := 180) 184 dX12_isTownWord_180 (by decide) ?_
                                                  refine Ru_zret (pc := 184) dX12_isTownWord_184 rfl ⟨Nat.le_refl _, Nat.le_refl _⟩ (Or.inr rfl) ?_
                                                  refine r_qe (r_b_t (decide_eq_true (by omega))) k
                                                · replace h24 := of_decide_eq_false h24
                                                  refine Ru_aload_n (pc := 172) dX12_isTownWord_172 rfl rfl ?_
                                                  refine Ru_cv0 (pc := 173) dX12_isTownWord_173 mv_X12_245 rfl (by decide) (Nat.le_of_ble_eq_true rfl) (c_X12_isBy tw hk ?_) 
                                                  refine Ru_if_eqB (pc := 176) 183 dX12_isTownWord_176 (by decide) (fun h25 => ?_) (fun h25 => ?_)
                                                  · replace h25 := of_decide_eq_false h25
                                                    refine Ru_iconst (pc := 183) (nI 0) dX12_isTownWord_183 rfl ?_
                                                    refine Ru_zret (pc := 184) dX12_isTownWord_184 rfl ⟨Nat.le_refl _, Nat.le_refl _⟩ (Or.inl rfl) ?_
                                                    refine r_qe (r_b_f (decide_eq_false (by omega))) k
                                                  · replace h25 := of_decide_eq_true h25
                                                    refine Ru_iconst (pc := 179) (nI 1) dX12_isTownWord_179 rfl ?_
                                                    refine Ru_goto (pc := 180) 184 dX12_isTownWord_180 (by decide) ?_
                                                    refine Ru_zret (pc := 184) dX12_isTownWord_184 rfl ⟨Nat.le_refl _, Nat.le_refl _⟩ (Or.inr rfl) ?_
                                                    refine r_qe (r_b_t (decide_eq_true (by omega))) k
                                      · replace h19 := of_decide_eq_true h19
                                        refine Ru_iconst (pc := 135) (nI 1) dX12_isTownWord_135 rfl ?_
                                        refine Ru_zret (pc := 136) dX12_isTownWord_136 rfl ⟨Nat.le_refl _, Nat.le_refl _⟩ (Or.inr rfl) ?_
                                        refine r_qe (r_b_t (decide_eq_true (by omega))) k
                      · replace h11 := of_decide_eq_true h11
                        refine Ru_iconst (pc := 77) (nI 1) dX12_isTownWord_77 rfl ?_
                        refine Ru_zret (pc := 78) dX12_isTownWord_78 rfl ⟨Nat.le_refl _, Nat.le_refl _⟩ (Or.inr rfl) ?_
                        refine r_qe (r_b_t (decide_eq_true (by omega))) k

theorem c_X12_isTownName {Q : Rq} {M : Mem} {T : Tx} {i : Nat} (tw : Tw T) (hk : Y_tk T i M) (k : Q (some (.int (r_b (decide (tK T i = 3))))) GY M) : Ca 3 mt_X12_isTownName 0 0 [.ref 0] GY M Q := by
  refine Ca_of rfl (Nat.le_of_ble_eq_true rfl) ?_
  have hlt := tk_let tw hk
  have h1t := @tTok_1 (tK T i)
  refine Ru_aload_n (pc := 0) dX12_isTownName_0 rfl rfl ?_
  refine Ru_getI (pc := 1) dX12_isTownName_1 fl_X12_138 rfl rfl ?_
  refine Ru_top hk.2.2.1 ?_
  refine Ru_iconst (pc := 4) (nI 1) dX12_isTownName_4 rfl ?_
  refine Ru_icmp_neN (pc := 5) 28 dX12_isTownName_5 (by decide) (by have := tTok_b (tK T i); omega) (fun h1 => ?_) (fun h1 => ?_)
  · refine Ru_iconst (pc := 28) (nI 0) dX12_isTownName_28 rfl ?_
    refine Ru_zret (pc := 29) dX12_isTownName_29 rfl ⟨Nat.le_refl _, Nat.le_refl _⟩ (Or.inl rfl) ?_
    refine r_qe (r_b_f (decide_eq_false (by omega))) k
  · refine Ru_aload_n (pc := 8) dX12_isTownName_8 rfl rfl ?_
    refine Ru_getI (pc := 9) dX12_isTownName_9 fl_X12_151 rfl rfl ?_
    refine Ru_bipush (pc := 12) (nI 8) dX12_isTownName_12 rfl ?_
    refine Ru_icmp_gtL (pc := 14) 28 dX12_isTownName_14 (by decide) (by omega) (fun h2 => ?_) (fun h2 => ?_)
    · refine Ru_iconst (pc := 28) (nI 0) dX12_isTownName_28 rfl ?_
      refine Ru_zret (pc := 29) dX12_isTownName_29 rfl ⟨Nat.le_refl _, Nat.le_refl _⟩ (Or.inl rfl) ?_
      refine r_qe (r_b_f (decide_eq_false (by omega))) k
    · refine Ru_aload_n (pc := 17) dX12_isTownName_17 rfl rfl ?_
      refine Ru_cv0 (pc := 18) dX12_isTownName_18 mv_X12_248 rfl (by decide) (Nat.le_of_ble_eq_true rfl) (c_X12_isTownWord tw hk ?_) 
      refine Ru_if_neB (pc := 21) 28 dX12_isTownName_21 (by decide) (fun h3 => ?_) (fun h3 => ?_)
      · replace h3 := of_decide_eq_true h3
        refine Ru_iconst (pc := 28) (nI 0) dX12_isTownName_28 rfl ?_
        refine Ru_zret (pc := 29) dX12_isTownName_29 rfl ⟨Nat.le_refl _, Nat.le_refl _⟩ (Or.inl rfl) ?_
        refine r_qe (r_b_f (decide_eq_false (by omega))) k
      · replace h3 := of_decide_eq_false h3
        refine Ru_iconst (pc := 24) (nI 1) dX12_isTownName_24 rfl ?_
        refine Ru_goto (pc := 25) 29 dX12_isTownName_25 (by decide) ?_
        refine Ru_zret (pc := 29) dX12_isTownName_29 rfl ⟨Nat.le_refl _, Nat.le_refl _⟩ (Or.inr rfl) ?_
        refine r_qe (r_b_t (decide_eq_true (by omega))) k

theorem c_X12_isSign {Q : Rq} {M : Mem} {T : Tx} {i : Nat} (tw : Tw T) (hk : Y_tk T i M) {x : Nat} (hx : isSg x = true) (k : Q (some (.int (r_b (decide (tK T i = x))))) GY M) : Ca 0 mt_X12_isSign 0 0 [.ref 0, .int (nI x)] GY M Q := by
  refine Ca_of rfl (Nat.le_of_ble_eq_true rfl) ?_
  have hxx := isSg_iff.mp hx
  refine Ru_aload_n (pc := 0) dX12_isSign_0 rfl rfl ?_
  refine Ru_getI (pc := 1) dX12_isSign_1 fl_X12_138 rfl rfl ?_
  refine Ru_top hk.2.2.1 ?_
  refine Ru_iconst (pc := 4) (nI 3) dX12_isSign_4 rfl ?_
  refine Ru_icmp_neN (pc := 5) 20 dX12_isSign_5 (by decide) (by have := tTok_b (tK T i); omega) (fun h1 => ?_) (fun h1 => ?_)
  · refine Ru_iconst (pc := 20) (nI 0) dX12_isSign_20 rfl ?_
    refine Ru_zret (pc := 21) dX12_isSign_21 rfl ⟨Nat.le_refl _, Nat.le_refl _⟩ (Or.inl rfl) ?_
    refine r_qe (r_b_f (decide_eq_false ?_)) k
    first | omega | (intro z; exact absurd (by rw [z]; exact tTok_s hx) (show ¬ tTok (tK T i) = 3 by assumption))
  · have hsg := tTok_3 h1
    have hs2 := isSg_iff.mp hsg
    refine Ru_aload_n (pc := 8) dX12_isSign_8 rfl rfl ?_
    refine Ru_getI (pc := 9) dX12_isSign_9 fl_X12_157 rfl rfl ?_
    refine Ru_top (hk.2.2.2.2.2.2 hsg) ?_
    refine Ru_iload_n (pc := 12) dX12_isSign_12 rfl rfl ?_
    refine Ru_icmp_neN (pc := 13) 20 dX12_isSign_13 (by decide) (by omega) (fun h2 => ?_) (fun h2 => ?_)
    · refine Ru_iconst (pc := 20) (nI 0) dX12_isSign_20 rfl ?_
      refine Ru_zret (pc := 21) dX12_isSign_21 rfl ⟨Nat.le_refl _, Nat.le_refl _⟩ (Or.inl rfl) ?_
      refine r_qe (r_b_f (decide_eq_false ?_)) k
      first | omega | (intro z; exact absurd (by rw [z]; exact tTok_s hx) (show ¬ tTok (tK T i) = 3 by assumption))
    · refine Ru_iconst (pc := 16) (nI 1) dX12_isSign_16 rfl ?_
      refine Ru_goto (pc := 17) 21 dX12_isSign_17 (by decide) ?_
      refine Ru_zret (pc := 21) dX12_isSign_21 rfl ⟨Nat.le_refl _, Nat.le_refl _⟩ (Or.inr rfl) ?_
      refine r_qe (r_b_t (decide_eq_true (by omega))) k
