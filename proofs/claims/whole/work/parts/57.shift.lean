-- SHIFT: the reference

set_option maxRecDepth 100000 in
theorem b6_ok : ∀ s, s < 64 → ((((((0 + ((s >>> 0) &&& 1)) + ((s >>> 1) &&& 1)) + ((s >>> 2) &&& 1)) + ((s >>> 3) &&& 1)) + ((s >>> 4) &&& 1)) + ((s >>> 5) &&& 1)) = pop8 s := by decide +kernel

theorem c_X12_bits {Q : Rq} {M : Mem} {s : Nat} (hs : s < 64) (k : Q (some (.int (nI (pop8 s)))) GY M) : Ca 0 mt_X12_bits 0 0 [.int (nI s)] GY M Q := by
  refine Ca_of rfl (Nat.le_of_ble_eq_true rfl) ?_
  refine Ru_iconst (pc := 0) (nI 0) dX12_bits_0 rfl ?_
  refine Ru_istore_n (pc := 1) dX12_bits_1 rfl rfl (by decide) ?_
  refine Ru_iconst (pc := 2) (nI 0) dX12_bits_2 rfl ?_
  refine Ru_istore_n (pc := 3) dX12_bits_3 rfl rfl (by decide) ?_
  refine Ru_iload_n (pc := 4) dX12_bits_4 rfl rfl ?_
  refine Ru_bipush (pc := 5) (nI 6) dX12_bits_5 rfl ?_
  refine Ru_icmp_geN (pc := 7) 24 dX12_bits_7 (by decide) (by omega) (fun h1 => ?_) (fun h1 => ?_)
  · exfalso
    omega
  · refine Ru_iload_n (pc := 10) dX12_bits_10 rfl rfl ?_
    refine Ru_iload_n (pc := 11) dX12_bits_11 rfl rfl ?_
    refine Ru_iload_n (pc := 12) dX12_bits_12 rfl rfl ?_
    refine Ru_ishrN (pc := 13) dX12_bits_13 (by omega) ?_
    refine Ru_iconst (pc := 14) (nI 1) dX12_bits_14 rfl ?_
    refine Ru_iandN (pc := 15) dX12_bits_15 ?_
    refine Ru_iaddN (pc := 16) dX12_bits_16 ?_
    refine Ru_istore_n (pc := 17) dX12_bits_17 rfl rfl (by decide) ?_
    refine Ru_iincN (pc := 18) 1 dX12_bits_18 rfl rfl rfl (by decide) ?_
    refine Ru_goto (pc := 21) 4 dX12_bits_21 (by decide) ?_
    refine Ru_iload_n (pc := 4) dX12_bits_4 rfl rfl ?_
    refine Ru_bipush (pc := 5) (nI 6) dX12_bits_5 rfl ?_
    refine Ru_icmp_geN (pc := 7) 24 dX12_bits_7 (by decide) (by omega) (fun h2 => ?_) (fun h2 => ?_)
    · exfalso
      omega
    · refine Ru_iload_n (pc := 10) dX12_bits_10 rfl rfl ?_
      refine Ru_iload_n (pc := 11) dX12_bits_11 rfl rfl ?_
      refine Ru_iload_n (pc := 12) dX12_bits_12 rfl rfl ?_
      refine Ru_ishrN (pc := 13) dX12_bits_13 (by omega) ?_
      refine Ru_iconst (pc := 14) (nI 1) dX12_bits_14 rfl ?_
      refine Ru_iandN (pc := 15) dX12_bits_15 ?_
      refine Ru_iaddN (pc := 16) dX12_bits_16 ?_
      refine Ru_istore_n (pc := 17) dX12_bits_17 rfl rfl (by decide) ?_
      refine Ru_iincN (pc := 18) 1 dX12_bits_18 rfl rfl rfl (by decide) ?_
      refine Ru_goto (pc := 21) 4 dX12_bits_21 (by decide) ?_
      refine Ru_iload_n (pc := 4) dX12_bits_4 rfl rfl ?_
      refine Ru_bipush (pc := 5) (nI 6) dX12_bits_5 rfl ?_
      refine Ru_icmp_geN (pc := 7) 24 dX12_bits_7 (by decide) (by omega) (fun h3 => ?_) (fun h3 => ?_)
      · exfalso
        omega
      · refine Ru_iload_n (pc := 10) dX12_bits_10 rfl rfl ?_
        refine Ru_iload_n (pc := 11) dX12_bits_11 rfl rfl ?_
        refine Ru_iload_n (pc := 12) dX12_bits_12 rfl rfl ?_
        refine Ru_ishrN (pc := 13) dX12_bits_13 (by omega) ?_
        refine Ru_iconst (pc := 14) (nI 1) dX12_bits_14 rfl ?_
        refine Ru_iandN (pc := 15) dX12_bits_15 ?_
        refine Ru_iaddN (pc := 16) dX12_bits_16 ?_
        refine Ru_istore_n (pc := 17) dX12_bits_17 rfl rfl (by decide) ?_
        refine Ru_iincN (pc := 18) 1 dX12_bits_18 rfl rfl rfl (by decide) ?_
        refine Ru_goto (pc := 21) 4 dX12_bits_21 (by decide) ?_
        refine Ru_iload_n (pc := 4) dX12_bits_4 rfl rfl ?_
        refine Ru_bipush (pc := 5) (nI 6) dX12_bits_5 rfl ?_
        refine Ru_icmp_geN (pc := 7) 24 dX12_bits_7 (by decide) (by omega) (fun h4 => ?_) (fun h4 => ?_)
        · exfalso
          omega
        · refine Ru_iload_n (pc := 10) dX12_bits_10 rfl rfl ?_
          refine Ru_iload_n (pc := 11) dX12_bits_11 rfl rfl ?_
          refine Ru_iload_n (pc := 12) dX12_bits_12 rfl rfl ?_
          refine Ru_ishrN (pc := 13) dX12_bits_13 (by omega) ?_
          refine Ru_iconst (pc := 14) (nI 1) dX12_bits_14 rfl ?_
          refine Ru_iandN (pc := 15) dX12_bits_15 ?_
          refine Ru_iaddN (pc := 16) dX12_bits_16 ?_
          refine Ru_istore_n (pc := 17) dX12_bits_17 rfl rfl (by decide) ?_
          refine Ru_iincN (pc := 18) 1 dX12_bits_18 rfl rfl rfl (by decide) ?_
          refine Ru_goto (pc := 21) 4 dX12_bits_21 (by decide) ?_
          refine Ru_iload_n (pc := 4) dX12_bits_4 rfl rfl ?_
          refine Ru_bipush (pc := 5) (nI 6) dX12_bits_5 rfl ?_
          refine Ru_icmp_geN (pc := 7) 24 dX12_bits_7 (by decide) (by omega) (fun h5 => ?_) (fun h5 => ?_)
          · exfalso
            omega
          · refine Ru_iload_n (pc := 10) dX12_bits_10 rfl rfl ?_
            refine Ru_iload_n (pc := 11) dX12_bits_11 rfl rfl ?_
            refine Ru_iload_n (pc := 12) dX12_bits_12 rfl rfl ?_
            refine Ru_ishrN (pc := 13) dX12_bits_13 (by omega) ?_
            refine Ru_iconst (pc := 14) (nI 1) dX12_bits_14 rfl ?_
            refine Ru_iandN (pc := 15) dX12_bits_15 ?_
            refine Ru_iaddN (pc := 16) dX12_bits_16 ?_
            refine Ru_istore_n (pc := 17) dX12_bits_17 rfl rfl (by decide) ?_
            refine Ru_iincN (pc := 18) 1 dX12_bits_18 rfl rfl rfl (by decide) ?_
            refine Ru_goto (pc := 21) 4 dX12_bits_21 (by decide) ?_
            refine Ru_iload_n (pc := 4) dX12_bits_4 rfl rfl ?_
            refine Ru_bipush (pc := 5) (nI 6) dX12_bits_5 rfl ?_
            refine Ru_icmp_geN (pc := 7) 24 dX12_bits_7 (by decide) (by omega) (fun h6 => ?_) (fun h6 => ?_)
            · exfalso
              omega
            · refine Ru_iload_n (pc := 10) dX12_bits_10 rfl rfl ?_
              refine Ru_iload_n (pc := 11) dX12_bits_11 rfl rfl ?_
              refine Ru_iload_n (pc := 12) dX12_bits_12 rfl rfl ?_
              refine Ru_ishrN (pc := 13) dX12_bits_13 (by omega) ?_
              refine Ru_iconst (pc := 14) (nI 1) dX12_bits_14 rfl ?_
              refine Ru_iandN (pc := 15) dX12_bits_15 ?_
              refine Ru_iaddN (pc := 16) dX12_bits_16 ?_
              refine Ru_istore_n (pc := 17) dX12_bits_17 rfl rfl (by decide) ?_
              refine Ru_iincN (pc := 18) 1 dX12_bits_18 rfl rfl rfl (by decide) ?_
              refine Ru_goto (pc := 21) 4 dX12_bits_21 (by decide) ?_
              refine Ru_iload_n (pc := 4) dX12_bits_4 rfl rfl ?_
              refine Ru_bipush (pc := 5) (nI 6) dX12_bits_5 rfl ?_
              refine Ru_icmp_geN (pc := 7) 24 dX12_bits_7 (by decide) (by omega) (fun h7 => ?_) (fun h7 => ?_)
              · refine Ru_iload_n (pc := 24) dX12_bits_24 rfl rfl ?_
                refine Ru_iret (pc := 25) dX12_bits_25 rfl ⟨Nat.le_refl _, Nat.le_refl _⟩ ?_
                exact r_qe (congrArg nI (b6_ok s hs)) k
              · exfalso
                omega
