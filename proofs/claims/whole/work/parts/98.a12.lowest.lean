-- THE LOWEST THING OF A SET
def tzF (s : Nat) : Nat → Nat
  | 0 => 8
  | n + 1 => if s.testBit (7 - n) = true then 7 - n else tzF s n
/-- the lowest bit of a byte -/
def tz (s : Nat) : Nat := tzF s 8
theorem tz_le : ∀ s, s < 256 → 1 ≤ s → tz s ≤ 7 ∧ s.testBit (tz s) = true ∧ ∀ i, i < tz s → s.testBit i = false := by decide +kernel

set_option maxRecDepth 100000 in
theorem tz_ok : ∀ s, s < 256 → 1 ≤ s → (((nI s) ^^^ (-1)) &&& ((nI s) - (nI 1))) = nI (2 ^ tz s - 1) := by decide +kernel

theorem c_X_ntz {Q : Rq} {M : Mem} {s : Nat} (hs : s < 256) (h1s : 1 ≤ s) (k : Q (some (.int (nI (tz s)))) GX M) : Ca 0 mt_J6_numberOfTrailingZeros_0f7a4 0 0 [.int (nI s)] GX M Q := by
  refine Ca_of rfl (Nat.le_of_ble_eq_true rfl) ?_
  refine Ru_iload_n (pc := 0) dJ6_numberOfTrailingZeros_0f7a4_0 rfl rfl ?_
  refine Ru_iconst (pc := 1) (-1) dJ6_numberOfTrailingZeros_0f7a4_1 rfl ?_
  refine Ru_ixor (pc := 2) dJ6_numberOfTrailingZeros_0f7a4_2 ?_
  refine Ru_iload_n (pc := 3) dJ6_numberOfTrailingZeros_0f7a4_3 rfl rfl ?_
  refine Ru_iconst (pc := 4) (nI 1) dJ6_numberOfTrailingZeros_0f7a4_4 rfl ?_
  refine Ru_isub (pc := 5) dJ6_numberOfTrailingZeros_0f7a4_5 ?_
  refine Ru_iand (pc := 6) dJ6_numberOfTrailingZeros_0f7a4_6 ?_
  refine Ru_istore_n (pc := 7) dJ6_numberOfTrailingZeros_0f7a4_7 rfl rfl (by decide) ?_
  have e : (((nI s) ^^^ (-1)) &&& ((nI s) - (nI 1))) = nI (2 ^ tz s - 1) := tz_ok s hs h1s
  rw [e]
  have h7 := (tz_le s hs h1s).1
  have h8 : tz s = 0 ∨ tz s = 1 ∨ tz s = 2 ∨ tz s = 3 ∨ tz s = 4 ∨ tz s = 5 ∨ tz s = 6 ∨ tz s = 7 := by omega
  rcases h8 with z | z | z | z | z | z | z | z
  · rw [z] at k ⊢
    refine Ru_weak (L' := [(0, some (.int (nI 0)))]) ?_ rfl
    refine Ru_iload_n (pc := 8) dJ6_numberOfTrailingZeros_0f7a4_8 rfl rfl ?_
    refine Ru_if_gtN (pc := 9) 17 dJ6_numberOfTrailingZeros_0f7a4_9 (by decide) (by omega) (fun h1 => ?_) (fun h1 => ?_)
    · exfalso
      omega
    · refine Ru_iload_n (pc := 12) dJ6_numberOfTrailingZeros_0f7a4_12 rfl rfl ?_
      refine Ru_bipush (pc := 13) (nI 32) dJ6_numberOfTrailingZeros_0f7a4_13 rfl ?_
      refine Ru_iandN (pc := 15) dJ6_numberOfTrailingZeros_0f7a4_15 ?_
      refine Ru_iret (pc := 16) dJ6_numberOfTrailingZeros_0f7a4_16 rfl ⟨Nat.le_refl _, Nat.le_refl _⟩ ?_
      exact k
  · rw [z] at k ⊢
    refine Ru_weak (L' := [(0, some (.int (nI 1)))]) ?_ rfl
    refine Ru_iload_n (pc := 8) dJ6_numberOfTrailingZeros_0f7a4_8 rfl rfl ?_
    refine Ru_if_gtN (pc := 9) 17 dJ6_numberOfTrailingZeros_0f7a4_9 (by decide) (by omega) (fun h1 => ?_) (fun h1 => ?_)
    · refine Ru_iconst (pc := 17) (nI 1) dJ6_numberOfTrailingZeros_0f7a4_17 rfl ?_
      refine Ru_istore_n (pc := 18) dJ6_numberOfTrailingZeros_0f7a4_18 rfl rfl (by decide) ?_
      refine Ru_iload_n (pc := 19) dJ6_numberOfTrailingZeros_0f7a4_19 rfl rfl ?_
      refine Ru_ldcw (pc := 20) dJ6_numberOfTrailingZeros_0f7a4_20 tw_1291 ?_
      refine Ru_top (show (65536 : Int32) = nI 65536 from rfl) ?_
      refine Ru_icmp_leN (pc := 23) 34 dJ6_numberOfTrailingZeros_0f7a4_23 (by decide) (by omega) (fun h2 => ?_) (fun h2 => ?_)
      · refine Ru_iload_n (pc := 34) dJ6_numberOfTrailingZeros_0f7a4_34 rfl rfl ?_
        refine Ru_sipush (pc := 35) (nI 256) dJ6_numberOfTrailingZeros_0f7a4_35 rfl ?_
        refine Ru_icmp_leN (pc := 38) 49 dJ6_numberOfTrailingZeros_0f7a4_38 (by decide) (by omega) (fun h3 => ?_) (fun h3 => ?_)
        · refine Ru_iload_n (pc := 49) dJ6_numberOfTrailingZeros_0f7a4_49 rfl rfl ?_
          refine Ru_bipush (pc := 50) (nI 16) dJ6_numberOfTrailingZeros_0f7a4_50 rfl ?_
          refine Ru_icmp_leN (pc := 52) 62 dJ6_numberOfTrailingZeros_0f7a4_52 (by decide) (by omega) (fun h4 => ?_) (fun h4 => ?_)
          · refine Ru_iload_n (pc := 62) dJ6_numberOfTrailingZeros_0f7a4_62 rfl rfl ?_
            refine Ru_iconst (pc := 63) (nI 4) dJ6_numberOfTrailingZeros_0f7a4_63 rfl ?_
            refine Ru_icmp_leN (pc := 64) 74 dJ6_numberOfTrailingZeros_0f7a4_64 (by decide) (by omega) (fun h5 => ?_) (fun h5 => ?_)
            · refine Ru_iload_n (pc := 74) dJ6_numberOfTrailingZeros_0f7a4_74 rfl rfl ?_
              refine Ru_iload_n (pc := 75) dJ6_numberOfTrailingZeros_0f7a4_75 rfl rfl ?_
              refine Ru_iconst (pc := 76) (nI 1) dJ6_numberOfTrailingZeros_0f7a4_76 rfl ?_
              refine Ru_iushr (pc := 77) dJ6_numberOfTrailingZeros_0f7a4_77 rfl ?_
              refine Ru_iadd (pc := 78) dJ6_numberOfTrailingZeros_0f7a4_78 ?_
              refine Ru_iret (pc := 79) dJ6_numberOfTrailingZeros_0f7a4_79 rfl ⟨Nat.le_refl _, Nat.le_refl _⟩ ?_
              exact k
            · exfalso
              omega
          · exfalso
            omega
        · exfalso
          omega
      · exfalso
        omega
    · exfalso
      omega
  · rw [z] at k ⊢
    refine Ru_weak (L' := [(0, some (.int (nI 3)))]) ?_ rfl
    refine Ru_iload_n (pc := 8) dJ6_numberOfTrailingZeros_0f7a4_8 rfl rfl ?_
    refine Ru_if_gtN (pc := 9) 17 dJ6_numberOfTrailingZeros_0f7a4_9 (by decide) (by omega) (fun h1 => ?_) (fun h1 => ?_)
    · refine Ru_iconst (pc := 17) (nI 1) dJ6_numberOfTrailingZeros_0f7a4_17 rfl ?_
      refine Ru_istore_n (pc := 18) dJ6_numberOfTrailingZeros_0f7a4_18 rfl rfl (by decide) ?_
      refine Ru_iload_n (pc := 19) dJ6_numberOfTrailingZeros_0f7a4_19 rfl rfl ?_
      refine Ru_ldcw (pc := 20) dJ6_numberOfTrailingZeros_0f7a4_20 tw_1291 ?_
      refine Ru_top (show (65536 : Int32) = nI 65536 from rfl) ?_
      refine Ru_icmp_leN (pc := 23) 34 dJ6_numberOfTrailingZeros_0f7a4_23 (by decide) (by omega) (fun h2 => ?_) (fun h2 => ?_)
      · refine Ru_iload_n (pc := 34) dJ6_numberOfTrailingZeros_0f7a4_34 rfl rfl ?_
        refine Ru_sipush (pc := 35) (nI 256) dJ6_numberOfTrailingZeros_0f7a4_35 rfl ?_
        refine Ru_icmp_leN (pc := 38) 49 dJ6_numberOfTrailingZeros_0f7a4_38 (by decide) (by omega) (fun h3 => ?_) (fun h3 => ?_)
        · refine Ru_iload_n (pc := 49) dJ6_numberOfTrailingZeros_0f7a4_49 rfl rfl ?_
          refine Ru_bipush (pc := 50) (nI 16) dJ6_numberOfTrailingZeros_0f7a4_50 rfl ?_
          refine Ru_icmp_leN (pc := 52) 62 dJ6_numberOfTrailingZeros_0f7a4_52 (by decide) (by omega) (fun h4 => ?_) (fun h4 => ?_)
          · refine Ru_iload_n (pc := 62) dJ6_numberOfTrailingZeros_0f7a4_62 rfl rfl ?_
            refine Ru_iconst (pc := 63) (nI 4) dJ6_numberOfTrailingZeros_0f7a4_63 rfl ?_
            refine Ru_icmp_leN (pc := 64) 74 dJ6_numberOfTrailingZeros_0f7a4_64 (by decide) (by omega) (fun h5 => ?_) (fun h5 => ?_)
            · refine Ru_iload_n (pc := 74) dJ6_numberOfTrailingZeros_0f7a4_74 rfl rfl ?_
              refine Ru_iload_n (pc := 75) dJ6_numberOfTrailingZeros_0f7a4_75 rfl rfl ?_
              refine Ru_iconst (pc := 76) (nI 1) dJ6_numberOfTrailingZeros_0f7a4_76 rfl ?_
              refine Ru_iushr (pc := 77) dJ6_numberOfTrailingZeros_0f7a4_77 rfl ?_
              refine Ru_iadd (pc := 78) dJ6_numberOfTrailingZeros_0f7a4_78 ?_
              refine Ru_iret (pc := 79) dJ6_numberOfTrailingZeros_0f7a4_79 rfl ⟨Nat.le_refl _, Nat.le_refl _⟩ ?_
              exact k
            · exfalso
              omega
          · exfalso
            omega
        · exfalso
          omega
      · exfalso
        omega
    · exfalso
      omega
  · rw [z] at k ⊢
    refine Ru_weak (L' := [(0, some (.int (nI 7)))]) ?_ rfl
    refine Ru_iload_n (pc := 8) dJ6_numberOfTrailingZeros_0f7a4_8 rfl rfl ?_
    refine Ru_if_gtN (pc := 9) 17 dJ6_numberOfTrailingZeros_0f7a4_9 (by decide) (by omega) (fun h1 => ?_) (fun h1 => ?_)
    · refine Ru_iconst (pc := 17) (nI 1) dJ6_numberOfTrailingZeros_0f7a4_17 rfl ?_
      refine Ru_istore_n (pc := 18) dJ6_numberOfTrailingZeros_0f7a4_18 rfl rfl (by decide) ?_
      refine Ru_iload_n (pc := 19) dJ6_numberOfTrailingZeros_0f7a4_19 rfl rfl ?_
      refine Ru_ldcw (pc := 20) dJ6_numberOfTrailingZeros_0f7a4_20 tw_1291 ?_
      refine Ru_top (show (65536 : Int32) = nI 65536 from rfl) ?_
      refine Ru_icmp_leN (pc := 23) 34 dJ6_numberOfTrailingZeros_0f7a4_23 (by decide) (by omega) (fun h2 => ?_) (fun h2 => ?_)
      · refine Ru_iload_n (pc := 34) dJ6_numberOfTrailingZeros_0f7a4_34 rfl rfl ?_
        refine Ru_sipush (pc := 35) (nI 256) dJ6_numberOfTrailingZeros_0f7a4_35 rfl ?_
        refine Ru_icmp_leN (pc := 38) 49 dJ6_numberOfTrailingZeros_0f7a4_38 (by decide) (by omega) (fun h3 => ?_) (fun h3 => ?_)
        · refine Ru_iload_n (pc := 49) dJ6_numberOfTrailingZeros_0f7a4_49 rfl rfl ?_
          refine Ru_bipush (pc := 50) (nI 16) dJ6_numberOfTrailingZeros_0f7a4_50 rfl ?_
          refine Ru_icmp_leN (pc := 52) 62 dJ6_numberOfTrailingZeros_0f7a4_52 (by decide) (by omega) (fun h4 => ?_) (fun h4 => ?_)
          · refine Ru_iload_n (pc := 62) dJ6_numberOfTrailingZeros_0f7a4_62 rfl rfl ?_
            refine Ru_iconst (pc := 63) (nI 4) dJ6_numberOfTrailingZeros_0f7a4_63 rfl ?_
            refine Ru_icmp_leN (pc := 64) 74 dJ6_numberOfTrailingZeros_0f7a4_64 (by decide) (by omega) (fun h5 => ?_) (fun h5 => ?_)
            · exfalso
              omega
            · refine Ru_iincN (pc := 67) 2 dJ6_numberOfTrailingZeros_0f7a4_67 rfl rfl rfl (by decide) ?_
              refine Ru_iload_n (pc := 70) dJ6_numberOfTrailingZeros_0f7a4_70 rfl rfl ?_
              refine Ru_iconst (pc := 71) (nI 2) dJ6_numberOfTrailingZeros_0f7a4_71 rfl ?_
              refine Ru_iushr (pc := 72) dJ6_numberOfTrailingZeros_0f7a4_72 rfl ?_
              refine Ru_istore_n (pc := 73) dJ6_numberOfTrailingZeros_0f7a4_73 rfl rfl (by decide) ?_
              refine Ru_iload_n (pc := 74) dJ6_numberOfTrailingZeros_0f7a4_74 rfl rfl ?_
              refine Ru_iload_n (pc := 75) dJ6_numberOfTrailingZeros_0f7a4_75 rfl rfl ?_
              refine Ru_iconst (pc := 76) (nI 1) dJ6_numberOfTrailingZeros_0f7a4_76 rfl ?_
              refine Ru_iushr (pc := 77) dJ6_numberOfTrailingZeros_0f7a4_77 rfl ?_
              refine Ru_iadd (pc := 78) dJ6_numberOfTrailingZeros_0f7a4_78 ?_
              refine Ru_iret (pc := 79) dJ6_numberOfTrailingZeros_0f7a4_79 rfl ⟨Nat.le_refl _, Nat.le_refl _⟩ ?_
              exact k
          · exfalso
            omega
        · exfalso
          omega
      · exfalso
        omega
    · exfalso
      omega
  · rw [z] at k ⊢
    refine Ru_weak (L' := [(0, some (.int (nI 15)))]) ?_ rfl
    refine Ru_iload_n (pc := 8) dJ6_numberOfTrailingZeros_0f7a4_8 rfl rfl ?_
    refine Ru_if_gtN (pc := 9) 17 dJ6_numberOfTrailingZeros_0f7a4_9 (by decide) (by omega) (fun h1 => ?_) (fun h1 => ?_)
    · refine Ru_iconst (pc := 17) (nI 1) dJ6_numberOfTrailingZeros_0f7a4_17 rfl ?_
      refine Ru_istore_n (pc := 18) dJ6_numberOfTrailingZeros_0f7a4_18 rfl rfl (by decide) ?_
      refine Ru_iload_n (pc := 19) dJ6_numberOfTrailingZeros_0f7a4_19 rfl rfl ?_
      refine Ru_ldcw (pc := 20) dJ6_numberOfTrailingZeros_0f7a4_20 tw_1291 ?_
      refine Ru_top (show (65536 : Int32) = nI 65536 from rfl) ?_
      refine Ru_icmp_leN (pc := 23) 34 dJ6_numberOfTrailingZeros_0f7a4_23 (by decide) (by omega) (fun h2 => ?_) (fun h2 => ?_)
      · refine Ru_iload_n (pc := 34) dJ6_numberOfTrailingZeros_0f7a4_34 rfl rfl ?_
        refine Ru_sipush (pc := 35) (nI 256) dJ6_numberOfTrailingZeros_0f7a4_35 rfl ?_
        refine Ru_icmp_leN (pc := 38) 49 dJ6_numberOfTrailingZeros_0f7a4_38 (by decide) (by omega) (fun h3 => ?_) (fun h3 => ?_)
        · refine Ru_iload_n (pc := 49) dJ6_numberOfTrailingZeros_0f7a4_49 rfl rfl ?_
          refine Ru_bipush (pc := 50) (nI 16) dJ6_numberOfTrailingZeros_0f7a4_50 rfl ?_
          refine Ru_icmp_leN (pc := 52) 62 dJ6_numberOfTrailingZeros_0f7a4_52 (by decide) (by omega) (fun h4 => ?_) (fun h4 => ?_)
          · refine Ru_iload_n (pc := 62) dJ6_numberOfTrailingZeros_0f7a4_62 rfl rfl ?_
            refine Ru_iconst (pc := 63) (nI 4) dJ6_numberOfTrailingZeros_0f7a4_63 rfl ?_
            refine Ru_icmp_leN (pc := 64) 74 dJ6_numberOfTrailingZeros_0f7a4_64 (by decide) (by omega) (fun h5 => ?_) (fun h5 => ?_)
            · exfalso
              omega
            · refine Ru_iincN (pc := 67) 2 dJ6_numberOfTrailingZeros_0f7a4_67 rfl rfl rfl (by decide) ?_
              refine Ru_iload_n (pc := 70) dJ6_numberOfTrailingZeros_0f7a4_70 rfl rfl ?_
              refine Ru_iconst (pc := 71) (nI 2) dJ6_numberOfTrailingZeros_0f7a4_71 rfl ?_
              refine Ru_iushr (pc := 72) dJ6_numberOfTrailingZeros_0f7a4_72 rfl ?_
              refine Ru_istore_n (pc := 73) dJ6_numberOfTrailingZeros_0f7a4_73 rfl rfl (by decide) ?_
              refine Ru_iload_n (pc := 74) dJ6_numberOfTrailingZeros_0f7a4_74 rfl rfl ?_
              refine Ru_iload_n (pc := 75) dJ6_numberOfTrailingZeros_0f7a4_75 rfl rfl ?_
              refine Ru_iconst (pc := 76) (nI 1) dJ6_numberOfTrailingZeros_0f7a4_76 rfl ?_
              refine Ru_iushr (pc := 77) dJ6_numberOfTrailingZeros_0f7a4_77 rfl ?_
              refine Ru_iadd (pc := 78) dJ6_numberOfTrailingZeros_0f7a4_78 ?_
              refine Ru_iret (pc := 79) dJ6_numberOfTrailingZeros_0f7a4_79 rfl ⟨Nat.le_refl _, Nat.le_refl _⟩ ?_
              exact k
          · exfalso
            omega
        · exfalso
          omega
      · exfalso
        omega
    · exfalso
      omega
  · rw [z] at k ⊢
    refine Ru_weak (L' := [(0, some (.int (nI 31)))]) ?_ rfl
    refine Ru_iload_n (pc := 8) dJ6_numberOfTrailingZeros_0f7a4_8 rfl rfl ?_
    refine Ru_if_gtN (pc := 9) 17 dJ6_numberOfTrailingZeros_0f7a4_9 (by decide) (by omega) (fun h1 => ?_) (fun h1 => ?_)
    · refine Ru_iconst (pc := 17) (nI 1) dJ6_numberOfTrailingZeros_0f7a4_17 rfl ?_
      refine Ru_istore_n (pc := 18) dJ6_numberOfTrailingZeros_0f7a4_18 rfl rfl (by decide) ?_
      refine Ru_iload_n (pc := 19) dJ6_numberOfTrailingZeros_0f7a4_19 rfl rfl ?_
      refine Ru_ldcw (pc := 20) dJ6_numberOfTrailingZeros_0f7a4_20 tw_1291 ?_
      refine Ru_top (show (65536 : Int32) = nI 65536 from rfl) ?_
      refine Ru_icmp_leN (pc := 23) 34 dJ6_numberOfTrailingZeros_0f7a4_23 (by decide) (by omega) (fun h2 => ?_) (fun h2 => ?_)
      · refine Ru_iload_n (pc := 34) dJ6_numberOfTrailingZeros_0f7a4_34 rfl rfl ?_
        refine Ru_sipush (pc := 35) (nI 256) dJ6_numberOfTrailingZeros_0f7a4_35 rfl ?_
        refine Ru_icmp_leN (pc := 38) 49 dJ6_numberOfTrailingZeros_0f7a4_38 (by decide) (by omega) (fun h3 => ?_) (fun h3 => ?_)
        · refine Ru_iload_n (pc := 49) dJ6_numberOfTrailingZeros_0f7a4_49 rfl rfl ?_
          refine Ru_bipush (pc := 50) (nI 16) dJ6_numberOfTrailingZeros_0f7a4_50 rfl ?_
          refine Ru_icmp_leN (pc := 52) 62 dJ6_numberOfTrailingZeros_0f7a4_52 (by decide) (by omega) (fun h4 => ?_) (fun h4 => ?_)
          · exfalso
            omega
          · refine Ru_iincN (pc := 55) 4 dJ6_numberOfTrailingZeros_0f7a4_55 rfl rfl rfl (by decide) ?_
            refine Ru_iload_n (pc := 58) dJ6_numberOfTrailingZeros_0f7a4_58 rfl rfl ?_
            refine Ru_iconst (pc := 59) (nI 4) dJ6_numberOfTrailingZeros_0f7a4_59 rfl ?_
            refine Ru_iushr (pc := 60) dJ6_numberOfTrailingZeros_0f7a4_60 rfl ?_
            refine Ru_istore_n (pc := 61) dJ6_numberOfTrailingZeros_0f7a4_61 rfl rfl (by decide) ?_
            refine Ru_weak (L' := [(0, some (.int (nI 1))), (1, some (.int (nI (1 + 4))))]) ?_ rfl
            refine Ru_iload_n (pc := 62) dJ6_numberOfTrailingZeros_0f7a4_62 rfl rfl ?_
            refine Ru_iconst (pc := 63) (nI 4) dJ6_numberOfTrailingZeros_0f7a4_63 rfl ?_
            refine Ru_icmp_leN (pc := 64) 74 dJ6_numberOfTrailingZeros_0f7a4_64 (by decide) (by omega) (fun h5 => ?_) (fun h5 => ?_)
            · refine Ru_iload_n (pc := 74) dJ6_numberOfTrailingZeros_0f7a4_74 rfl rfl ?_
              refine Ru_iload_n (pc := 75) dJ6_numberOfTrailingZeros_0f7a4_75 rfl rfl ?_
              refine Ru_iconst (pc := 76) (nI 1) dJ6_numberOfTrailingZeros_0f7a4_76 rfl ?_
              refine Ru_iushr (pc := 77) dJ6_numberOfTrailingZeros_0f7a4_77 rfl ?_
              refine Ru_iadd (pc := 78) dJ6_numberOfTrailingZeros_0f7a4_78 ?_
              refine Ru_iret (pc := 79) dJ6_numberOfTrailingZeros_0f7a4_79 rfl ⟨Nat.le_refl _, Nat.le_refl _⟩ ?_
              exact k
            · exfalso
              omega
        · exfalso
          omega
      · exfalso
        omega
    · exfalso
      omega
  · rw [z] at k ⊢
    refine Ru_weak (L' := [(0, some (.int (nI 63)))]) ?_ rfl
    refine Ru_iload_n (pc := 8) dJ6_numberOfTrailingZeros_0f7a4_8 rfl rfl ?_
    refine Ru_if_gtN (pc := 9) 17 dJ6_numberOfTrailingZeros_0f7a4_9 (by decide) (by omega) (fun h1 => ?_) (fun h1 => ?_)
    · refine Ru_iconst (pc := 17) (nI 1) dJ6_numberOfTrailingZeros_0f7a4_17 rfl ?_
      refine Ru_istore_n (pc := 18) dJ6_numberOfTrailingZeros_0f7a4_18 rfl rfl (by decide) ?_
      refine Ru_iload_n (pc := 19) dJ6_numberOfTrailingZeros_0f7a4_19 rfl rfl ?_
      refine Ru_ldcw (pc := 20) dJ6_numberOfTrailingZeros_0f7a4_20 tw_1291 ?_
      refine Ru_top (show (65536 : Int32) = nI 65536 from rfl) ?_
      refine Ru_icmp_leN (pc := 23) 34 dJ6_numberOfTrailingZeros_0f7a4_23 (by decide) (by omega) (fun h2 => ?_) (fun h2 => ?_)
      · refine Ru_iload_n (pc := 34) dJ6_numberOfTrailingZeros_0f7a4_34 rfl rfl ?_
        refine Ru_sipush (pc := 35) (nI 256) dJ6_numberOfTrailingZeros_0f7a4_35 rfl ?_
        refine Ru_icmp_leN (pc := 38) 49 dJ6_numberOfTrailingZeros_0f7a4_38 (by decide) (by omega) (fun h3 => ?_) (fun h3 => ?_)
        · refine Ru_iload_n (pc := 49) dJ6_numberOfTrailingZeros_0f7a4_49 rfl rfl ?_
          refine Ru_bipush (pc := 50) (nI 16) dJ6_numberOfTrailingZeros_0f7a4_50 rfl ?_
          refine Ru_icmp_leN (pc := 52) 62 dJ6_numberOfTrailingZeros_0f7a4_52 (by decide) (by omega) (fun h4 => ?_) (fun h4 => ?_)
          · exfalso
            omega
          · refine Ru_iincN (pc := 55) 4 dJ6_numberOfTrailingZeros_0f7a4_55 rfl rfl rfl (by decide) ?_
            refine Ru_iload_n (pc := 58) dJ6_numberOfTrailingZeros_0f7a4_58 rfl rfl ?_
            refine Ru_iconst (pc := 59) (nI 4) dJ6_numberOfTrailingZeros_0f7a4_59 rfl ?_
            refine Ru_iushr (pc := 60) dJ6_numberOfTrailingZeros_0f7a4_60 rfl ?_
            refine Ru_istore_n (pc := 61) dJ6_numberOfTrailingZeros_0f7a4_61 rfl rfl (by decide) ?_
            refine Ru_weak (L' := [(0, some (.int (nI 3))), (1, some (.int (nI (1 + 4))))]) ?_ rfl
            refine Ru_iload_n (pc := 62) dJ6_numberOfTrailingZeros_0f7a4_62 rfl rfl ?_
            refine Ru_iconst (pc := 63) (nI 4) dJ6_numberOfTrailingZeros_0f7a4_63 rfl ?_
            refine Ru_icmp_leN (pc := 64) 74 dJ6_numberOfTrailingZeros_0f7a4_64 (by decide) (by omega) (fun h5 => ?_) (fun h5 => ?_)
            · refine Ru_iload_n (pc := 74) dJ6_numberOfTrailingZeros_0f7a4_74 rfl rfl ?_
              refine Ru_iload_n (pc := 75) dJ6_numberOfTrailingZeros_0f7a4_75 rfl rfl ?_
              refine Ru_iconst (pc := 76) (nI 1) dJ6_numberOfTrailingZeros_0f7a4_76 rfl ?_
              refine Ru_iushr (pc := 77) dJ6_numberOfTrailingZeros_0f7a4_77 rfl ?_
              refine Ru_iadd (pc := 78) dJ6_numberOfTrailingZeros_0f7a4_78 ?_
              refine Ru_iret (pc := 79) dJ6_numberOfTrailingZeros_0f7a4_79 rfl ⟨Nat.le_refl _, Nat.le_refl _⟩ ?_
              exact k
            · exfalso
              omega
        · exfalso
          omega
      · exfalso
        omega
    · exfalso
      omega
  · rw [z] at k ⊢
    refine Ru_weak (L' := [(0, some (.int (nI 127)))]) ?_ rfl
    refine Ru_iload_n (pc := 8) dJ6_numberOfTrailingZeros_0f7a4_8 rfl rfl ?_
    refine Ru_if_gtN (pc := 9) 17 dJ6_numberOfTrailingZeros_0f7a4_9 (by decide) (by omega) (fun h1 => ?_) (fun h1 => ?_)
    · refine Ru_iconst (pc := 17) (nI 1) dJ6_numberOfTrailingZeros_0f7a4_17 rfl ?_
      refine Ru_istore_n (pc := 18) dJ6_numberOfTrailingZeros_0f7a4_18 rfl rfl (by decide) ?_
      refine Ru_iload_n (pc := 19) dJ6_numberOfTrailingZeros_0f7a4_19 rfl rfl ?_
      refine Ru_ldcw (pc := 20) dJ6_numberOfTrailingZeros_0f7a4_20 tw_1291 ?_
      refine Ru_top (show (65536 : Int32) = nI 65536 from rfl) ?_
      refine Ru_icmp_leN (pc := 23) 34 dJ6_numberOfTrailingZeros_0f7a4_23 (by decide) (by omega) (fun h2 => ?_) (fun h2 => ?_)
      · refine Ru_iload_n (pc := 34) dJ6_numberOfTrailingZeros_0f7a4_34 rfl rfl ?_
        refine Ru_sipush (pc := 35) (nI 256) dJ6_numberOfTrailingZeros_0f7a4_35 rfl ?_
        refine Ru_icmp_leN (pc := 38) 49 dJ6_numberOfTrailingZeros_0f7a4_38 (by decide) (by omega) (fun h3 => ?_) (fun h3 => ?_)
        · refine Ru_iload_n (pc := 49) dJ6_numberOfTrailingZeros_0f7a4_49 rfl rfl ?_
          refine Ru_bipush (pc := 50) (nI 16) dJ6_numberOfTrailingZeros_0f7a4_50 rfl ?_
          refine Ru_icmp_leN (pc := 52) 62 dJ6_numberOfTrailingZeros_0f7a4_52 (by decide) (by omega) (fun h4 => ?_) (fun h4 => ?_)
          · exfalso
            omega
          · refine Ru_iincN (pc := 55) 4 dJ6_numberOfTrailingZeros_0f7a4_55 rfl rfl rfl (by decide) ?_
            refine Ru_iload_n (pc := 58) dJ6_numberOfTrailingZeros_0f7a4_58 rfl rfl ?_
            refine Ru_iconst (pc := 59) (nI 4) dJ6_numberOfTrailingZeros_0f7a4_59 rfl ?_
            refine Ru_iushr (pc := 60) dJ6_numberOfTrailingZeros_0f7a4_60 rfl ?_
            refine Ru_istore_n (pc := 61) dJ6_numberOfTrailingZeros_0f7a4_61 rfl rfl (by decide) ?_
            refine Ru_weak (L' := [(0, some (.int (nI 7))), (1, some (.int (nI (1 + 4))))]) ?_ rfl
            refine Ru_iload_n (pc := 62) dJ6_numberOfTrailingZeros_0f7a4_62 rfl rfl ?_
            refine Ru_iconst (pc := 63) (nI 4) dJ6_numberOfTrailingZeros_0f7a4_63 rfl ?_
            refine Ru_icmp_leN (pc := 64) 74 dJ6_numberOfTrailingZeros_0f7a4_64 (by decide) (by omega) (fun h5 => ?_) (fun h5 => ?_)
            · exfalso
              omega
            · refine Ru_iincN (pc := 67) 2 dJ6_numberOfTrailingZeros_0f7a4_67 rfl rfl rfl (by decide) ?_
              refine Ru_iload_n (pc := 70) dJ6_numberOfTrailingZeros_0f7a4_70 rfl rfl ?_
              refine Ru_iconst (pc := 71) (nI 2) dJ6_numberOfTrailingZeros_0f7a4_71 rfl ?_
              refine Ru_iushr (pc := 72) dJ6_numberOfTrailingZeros_0f7a4_72 rfl ?_
              refine Ru_istore_n (pc := 73) dJ6_numberOfTrailingZeros_0f7a4_73 rfl rfl (by decide) ?_
              refine Ru_iload_n (pc := 74) dJ6_numberOfTrailingZeros_0f7a4_74 rfl rfl ?_
              refine Ru_iload_n (pc := 75) dJ6_numberOfTrailingZeros_0f7a4_75 rfl rfl ?_
              refine Ru_iconst (pc := 76) (nI 1) dJ6_numberOfTrailingZeros_0f7a4_76 rfl ?_
              refine Ru_iushr (pc := 77) dJ6_numberOfTrailingZeros_0f7a4_77 rfl ?_
              refine Ru_iadd (pc := 78) dJ6_numberOfTrailingZeros_0f7a4_78 ?_
              refine Ru_iret (pc := 79) dJ6_numberOfTrailingZeros_0f7a4_79 rfl ⟨Nat.le_refl _, Nat.le_refl _⟩ ?_
              exact k
        · exfalso
          omega
      · exfalso
        omega
    · exfalso
      omega
