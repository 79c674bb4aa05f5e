-- HOW MANY BITS
def pop8 (s : Nat) : Nat := (s &&& 1) + (s >>> 1 &&& 1) + (s >>> 2 &&& 1) + (s >>> 3 &&& 1) + (s >>> 4 &&& 1) + (s >>> 5 &&& 1) + (s >>> 6 &&& 1) + (s >>> 7 &&& 1)

set_option maxRecDepth 100000 in
theorem bc_ok : ∀ s, s < 256 → (((((((((nI s) - ((((nI s)).toUInt32 >>> (((nI 1)).toUInt32 &&& Int32.toUInt32 31)).toInt32 &&& 1431655765)) &&& 858993459) + (((((nI s) - ((((nI s)).toUInt32 >>> (((nI 1)).toUInt32 &&& Int32.toUInt32 31)).toInt32 &&& 1431655765))).toUInt32 >>> (((nI 2)).toUInt32 &&& Int32.toUInt32 31)).toInt32 &&& 858993459)) + ((((((nI s) - ((((nI s)).toUInt32 >>> (((nI 1)).toUInt32 &&& Int32.toUInt32 31)).toInt32 &&& 1431655765)) &&& 858993459) + (((((nI s) - ((((nI s)).toUInt32 >>> (((nI 1)).toUInt32 &&& Int32.toUInt32 31)).toInt32 &&& 1431655765))).toUInt32 >>> (((nI 2)).toUInt32 &&& Int32.toUInt32 31)).toInt32 &&& 858993459))).toUInt32 >>> (((nI 4)).toUInt32 &&& Int32.toUInt32 31)).toInt32) &&& 252645135) + ((((((((nI s) - ((((nI s)).toUInt32 >>> (((nI 1)).toUInt32 &&& Int32.toUInt32 31)).toInt32 &&& 1431655765)) &&& 858993459) + (((((nI s) - ((((nI s)).toUInt32 >>> (((nI 1)).toUInt32 &&& Int32.toUInt32 31)).toInt32 &&& 1431655765))).toUInt32 >>> (((nI 2)).toUInt32 &&& Int32.toUInt32 31)).toInt32 &&& 858993459)) + ((((((nI s) - ((((nI s)).toUInt32 >>> (((nI 1)).toUInt32 &&& Int32.toUInt32 31)).toInt32 &&& 1431655765)) &&& 858993459) + (((((nI s) - ((((nI s)).toUInt32 >>> (((nI 1)).toUInt32 &&& Int32.toUInt32 31)).toInt32 &&& 1431655765))).toUInt32 >>> (((nI 2)).toUInt32 &&& Int32.toUInt32 31)).toInt32 &&& 858993459))).toUInt32 >>> (((nI 4)).toUInt32 &&& Int32.toUInt32 31)).toInt32) &&& 252645135)).toUInt32 >>> (((nI 8)).toUInt32 &&& Int32.toUInt32 31)).toInt32) + (((((((((nI s) - ((((nI s)).toUInt32 >>> (((nI 1)).toUInt32 &&& Int32.toUInt32 31)).toInt32 &&& 1431655765)) &&& 858993459) + (((((nI s) - ((((nI s)).toUInt32 >>> (((nI 1)).toUInt32 &&& Int32.toUInt32 31)).toInt32 &&& 1431655765))).toUInt32 >>> (((nI 2)).toUInt32 &&& Int32.toUInt32 31)).toInt32 &&& 858993459)) + ((((((nI s) - ((((nI s)).toUInt32 >>> (((nI 1)).toUInt32 &&& Int32.toUInt32 31)).toInt32 &&& 1431655765)) &&& 858993459) + (((((nI s) - ((((nI s)).toUInt32 >>> (((nI 1)).toUInt32 &&& Int32.toUInt32 31)).toInt32 &&& 1431655765))).toUInt32 >>> (((nI 2)).toUInt32 &&& Int32.toUInt32 31)).toInt32 &&& 858993459))).toUInt32 >>> (((nI 4)).toUInt32 &&& Int32.toUInt32 31)).toInt32) &&& 252645135) + ((((((((nI s) - ((((nI s)).toUInt32 >>> (((nI 1)).toUInt32 &&& Int32.toUInt32 31)).toInt32 &&& 1431655765)) &&& 858993459) + (((((nI s) - ((((nI s)).toUInt32 >>> (((nI 1)).toUInt32 &&& Int32.toUInt32 31)).toInt32 &&& 1431655765))).toUInt32 >>> (((nI 2)).toUInt32 &&& Int32.toUInt32 31)).toInt32 &&& 858993459)) + ((((((nI s) - ((((nI s)).toUInt32 >>> (((nI 1)).toUInt32 &&& Int32.toUInt32 31)).toInt32 &&& 1431655765)) &&& 858993459) + (((((nI s) - ((((nI s)).toUInt32 >>> (((nI 1)).toUInt32 &&& Int32.toUInt32 31)).toInt32 &&& 1431655765))).toUInt32 >>> (((nI 2)).toUInt32 &&& Int32.toUInt32 31)).toInt32 &&& 858993459))).toUInt32 >>> (((nI 4)).toUInt32 &&& Int32.toUInt32 31)).toInt32) &&& 252645135)).toUInt32 >>> (((nI 8)).toUInt32 &&& Int32.toUInt32 31)).toInt32)).toUInt32 >>> (((nI 16)).toUInt32 &&& Int32.toUInt32 31)).toInt32) &&& (nI 63)) = nI (pop8 s) := by decide +kernel

theorem c_bitCount_Y {Q : Rq} {M : Mem} {s : Nat} (hs : s < 256) (k : Q (some (.int (nI (pop8 s)))) GY M) : Ca 0 mt_J6_bitCount_0f7a4 0 0 [.int (nI s)] GY M Q := by
  refine Ca_ofF (by decide +kernel) (Nat.le_of_ble_eq_true rfl) ?_
  refine Ru_iload_n (pc := 0) dJ6_bitCount_0f7a4_0 rfl rfl ?_
  refine Ru_iload_n (pc := 1) dJ6_bitCount_0f7a4_1 rfl rfl ?_
  refine Ru_iconst (pc := 2) (nI 1) dJ6_bitCount_0f7a4_2 rfl ?_
  refine Ru_iushr (pc := 3) dJ6_bitCount_0f7a4_3 rfl ?_
  refine Ru_ldcw (pc := 4) dJ6_bitCount_0f7a4_4 tw_909 ?_
  refine Ru_iand (pc := 7) dJ6_bitCount_0f7a4_7 ?_
  refine Ru_isub (pc := 8) dJ6_bitCount_0f7a4_8 ?_
  refine Ru_istore_n (pc := 9) dJ6_bitCount_0f7a4_9 rfl rfl (by decide) ?_
  refine Ru_iload_n (pc := 10) dJ6_bitCount_0f7a4_10 rfl rfl ?_
  refine Ru_ldcw (pc := 11) dJ6_bitCount_0f7a4_11 tw_910 ?_
  refine Ru_iand (pc := 14) dJ6_bitCount_0f7a4_14 ?_
  refine Ru_iload_n (pc := 15) dJ6_bitCount_0f7a4_15 rfl rfl ?_
  refine Ru_iconst (pc := 16) (nI 2) dJ6_bitCount_0f7a4_16 rfl ?_
  refine Ru_iushr (pc := 17) dJ6_bitCount_0f7a4_17 rfl ?_
  refine Ru_ldcw (pc := 18) dJ6_bitCount_0f7a4_18 tw_910 ?_
  refine Ru_iand (pc := 21) dJ6_bitCount_0f7a4_21 ?_
  refine Ru_iadd (pc := 22) dJ6_bitCount_0f7a4_22 ?_
  refine Ru_istore_n (pc := 23) dJ6_bitCount_0f7a4_23 rfl rfl (by decide) ?_
  refine Ru_iload_n (pc := 24) dJ6_bitCount_0f7a4_24 rfl rfl ?_
  refine Ru_iload_n (pc := 25) dJ6_bitCount_0f7a4_25 rfl rfl ?_
  refine Ru_iconst (pc := 26) (nI 4) dJ6_bitCount_0f7a4_26 rfl ?_
  refine Ru_iushr (pc := 27) dJ6_bitCount_0f7a4_27 rfl ?_
  refine Ru_iadd (pc := 28) dJ6_bitCount_0f7a4_28 ?_
  refine Ru_ldcw (pc := 29) dJ6_bitCount_0f7a4_29 tw_911 ?_
  refine Ru_iand (pc := 32) dJ6_bitCount_0f7a4_32 ?_
  refine Ru_istore_n (pc := 33) dJ6_bitCount_0f7a4_33 rfl rfl (by decide) ?_
  refine Ru_iload_n (pc := 34) dJ6_bitCount_0f7a4_34 rfl rfl ?_
  refine Ru_iload_n (pc := 35) dJ6_bitCount_0f7a4_35 rfl rfl ?_
  refine Ru_bipush (pc := 36) (nI 8) dJ6_bitCount_0f7a4_36 rfl ?_
  refine Ru_iushr (pc := 38) dJ6_bitCount_0f7a4_38 rfl ?_
  refine Ru_iadd (pc := 39) dJ6_bitCount_0f7a4_39 ?_
  refine Ru_istore_n (pc := 40) dJ6_bitCount_0f7a4_40 rfl rfl (by decide) ?_
  refine Ru_iload_n (pc := 41) dJ6_bitCount_0f7a4_41 rfl rfl ?_
  refine Ru_iload_n (pc := 42) dJ6_bitCount_0f7a4_42 rfl rfl ?_
  refine Ru_bipush (pc := 43) (nI 16) dJ6_bitCount_0f7a4_43 rfl ?_
  refine Ru_iushr (pc := 45) dJ6_bitCount_0f7a4_45 rfl ?_
  refine Ru_iadd (pc := 46) dJ6_bitCount_0f7a4_46 ?_
  refine Ru_istore_n (pc := 47) dJ6_bitCount_0f7a4_47 rfl rfl (by decide) ?_
  refine Ru_iload_n (pc := 48) dJ6_bitCount_0f7a4_48 rfl rfl ?_
  refine Ru_bipush (pc := 49) (nI 63) dJ6_bitCount_0f7a4_49 rfl ?_
  refine Ru_iand (pc := 51) dJ6_bitCount_0f7a4_51 ?_
  refine Ru_iret (pc := 52) dJ6_bitCount_0f7a4_52 rfl ⟨Nat.le_refl _, Nat.le_refl _⟩ ?_
  exact r_qe (bc_ok s hs) k

theorem c_bitCount_X {Q : Rq} {M : Mem} {s : Nat} (hs : s < 256) (k : Q (some (.int (nI (pop8 s)))) GX M) : Ca 0 mt_J6_bitCount_0f7a4 0 0 [.int (nI s)] GX M Q := by
  refine Ca_ofF (by decide +kernel) (Nat.le_of_ble_eq_true rfl) ?_
  refine Ru_iload_n (pc := 0) dJ6_bitCount_0f7a4_0 rfl rfl ?_
  refine Ru_iload_n (pc := 1) dJ6_bitCount_0f7a4_1 rfl rfl ?_
  refine Ru_iconst (pc := 2) (nI 1) dJ6_bitCount_0f7a4_2 rfl ?_
  refine Ru_iushr (pc := 3) dJ6_bitCount_0f7a4_3 rfl ?_
  refine Ru_ldcw (pc := 4) dJ6_bitCount_0f7a4_4 tw_909 ?_
  refine Ru_iand (pc := 7) dJ6_bitCount_0f7a4_7 ?_
  refine Ru_isub (pc := 8) dJ6_bitCount_0f7a4_8 ?_
  refine Ru_istore_n (pc := 9) dJ6_bitCount_0f7a4_9 rfl rfl (by decide) ?_
  refine Ru_iload_n (pc := 10) dJ6_bitCount_0f7a4_10 rfl rfl ?_
  refine Ru_ldcw (pc := 11) dJ6_bitCount_0f7a4_11 tw_910 ?_
  refine Ru_iand (pc := 14) dJ6_bitCount_0f7a4_14 ?_
  refine Ru_iload_n (pc := 15) dJ6_bitCount_0f7a4_15 rfl rfl ?_
  refine Ru_iconst (pc := 16) (nI 2) dJ6_bitCount_0f7a4_16 rfl ?_
  refine Ru_iushr (pc := 17) dJ6_bitCount_0f7a4_17 rfl ?_
  refine Ru_ldcw (pc := 18) dJ6_bitCount_0f7a4_18 tw_910 ?_
  refine Ru_iand (pc := 21) dJ6_bitCount_0f7a4_21 ?_
  refine Ru_iadd (pc := 22) dJ6_bitCount_0f7a4_22 ?_
  refine Ru_istore_n (pc := 23) dJ6_bitCount_0f7a4_23 rfl rfl (by decide) ?_
  refine Ru_iload_n (pc := 24) dJ6_bitCount_0f7a4_24 rfl rfl ?_
  refine Ru_iload_n (pc := 25) dJ6_bitCount_0f7a4_25 rfl rfl ?_
  refine Ru_iconst (pc := 26) (nI 4) dJ6_bitCount_0f7a4_26 rfl ?_
  refine Ru_iushr (pc := 27) dJ6_bitCount_0f7a4_27 rfl ?_
  refine Ru_iadd (pc := 28) dJ6_bitCount_0f7a4_28 ?_
  refine Ru_ldcw (pc := 29) dJ6_bitCount_0f7a4_29 tw_911 ?_
  refine Ru_iand (pc := 32) dJ6_bitCount_0f7a4_32 ?_
  refine Ru_istore_n (pc := 33) dJ6_bitCount_0f7a4_33 rfl rfl (by decide) ?_
  refine Ru_iload_n (pc := 34) dJ6_bitCount_0f7a4_34 rfl rfl ?_
  refine Ru_iload_n (pc := 35) dJ6_bitCount_0f7a4_35 rfl rfl ?_
  refine Ru_bipush (pc := 36) (nI 8) dJ6_bitCount_0f7a4_36 rfl ?_
  refine Ru_iushr (pc := 38) dJ6_bitCount_0f7a4_38 rfl ?_
  refine Ru_iadd (pc := 39) dJ6_bitCount_0f7a4_39 ?_
  refine Ru_istore_n (pc := 40) dJ6_bitCount_0f7a4_40 rfl rfl (by decide) ?_
  refine Ru_iload_n (pc := 41) dJ6_bitCount_0f7a4_41 rfl rfl ?_
  refine Ru_iload_n (pc := 42) dJ6_bitCount_0f7a4_42 rfl rfl ?_
  refine Ru_bipush (pc := 43) (nI 16) dJ6_bitCount_0f7a4_43 rfl ?_
  refine Ru_iushr (pc := 45) dJ6_bitCount_0f7a4_45 rfl ?_
  refine Ru_iadd (pc := 46) dJ6_bitCount_0f7a4_46 ?_
  refine Ru_istore_n (pc := 47) dJ6_bitCount_0f7a4_47 rfl rfl (by decide) ?_
  refine Ru_iload_n (pc := 48) dJ6_bitCount_0f7a4_48 rfl rfl ?_
  refine Ru_bipush (pc := 49) (nI 63) dJ6_bitCount_0f7a4_49 rfl ?_
  refine Ru_iand (pc := 51) dJ6_bitCount_0f7a4_51 ?_
  refine Ru_iret (pc := 52) dJ6_bitCount_0f7a4_52 rfl ⟨Nat.le_refl _, Nat.le_refl _⟩ ?_
  exact r_qe (bc_ok s hs) k
