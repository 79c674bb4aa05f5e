-- READING: the developers' people
theorem bt_or1 {f : Nat → Nat} {n : Nat} (h : ∀ i, i < n → f i ≤ 1) (hn : f n = 1) : bt f (n + 1) = bt f n ||| 2 ^ n := by
  have hl := bt_lt h
  have e : bt f (n + 1) = 2 ^ n * 1 + bt f n := by
    rw [bt, hn]
    omega
  rw [e, Nat.two_pow_add_eq_or_of_lt hl, Nat.mul_one, Nat.or_comm]
theorem bt_or0 {f : Nat → Nat} {n : Nat} (hn : f n = 0) : bt f (n + 1) = bt f n := by
  rw [bt, hn, Nat.zero_mul, Nat.add_zero]

theorem l_X9_hours {Q : Rq} {M : Mem} {f t : Nat} (hf : f ≤ 24 ∧ t ≤ 24) (k : Q (some (.int (nI (bt (awB f t) 24)))) GX M) : ∀ (zw : Nat) (q : Nat), 24 - q = zw → (q ≤ 24) → Ru 0 mt_X9_hoursBetween r_z 4 [(0, some (.int (nI f))), (1, some (.int (nI t))), (2, some (.int (nI (bt (awB f t) q)))), (3, some (.int (nI q)))] [] GX M Q := by
  intro zw
  induction zw using Nat.strongRecOn with
  | ind zw ih =>
    intro q hw hq9
    subst hw
    refine Ru_iload_n (pc := 4) dX9_hoursBetween_4 rfl rfl ?_
    refine Ru_bipush (pc := 5) (nI 24) dX9_hoursBetween_5 rfl ?_
    refine Ru_icmp_geN (pc := 7) 76 dX9_hoursBetween_7 (by decide) (by omega) (fun h1 => ?_) (fun h1 => ?_)
    · refine Ru_iload_n (pc := 76) dX9_hoursBetween_76 rfl rfl ?_
      refine Ru_iret (pc := 77) dX9_hoursBetween_77 rfl ⟨Nat.le_refl _, Nat.le_refl _⟩ ?_
      have e : q = 24 := by omega
      subst e
      exact k
    · refine Ru_iload_n (pc := 10) dX9_hoursBetween_10 rfl rfl ?_
      refine Ru_iload_n (pc := 11) dX9_hoursBetween_11 rfl rfl ?_
      refine Ru_icmp_gtN (pc := 12) 24 dX9_hoursBetween_12 (by decide) (by omega) (fun h2 => ?_) (fun h2 => ?_)
      · refine Ru_iconst (pc := 24) (nI 0) dX9_hoursBetween_24 rfl ?_
        refine Ru_istore (pc := 25) dX9_hoursBetween_25 rfl (by decide) ?_
        refine Ru_iload_n (pc := 27) dX9_hoursBetween_27 rfl rfl ?_
        refine Ru_iload_n (pc := 28) dX9_hoursBetween_28 rfl rfl ?_
        refine Ru_icmp_geN (pc := 29) 46 dX9_hoursBetween_29 (by decide) (by omega) (fun h3 => ?_) (fun h3 => ?_)
        · refine Ru_iconst (pc := 46) (nI 0) dX9_hoursBetween_46 rfl ?_
          refine Ru_istore (pc := 47) dX9_hoursBetween_47 rfl (by decide) ?_
          refine Ru_iload_n (pc := 49) dX9_hoursBetween_49 rfl rfl ?_
          refine Ru_iload_n (pc := 50) dX9_hoursBetween_50 rfl rfl ?_
          refine Ru_icmp_eqN (pc := 51) 64 dX9_hoursBetween_51 (by decide) (by omega) (fun h4 => ?_) (fun h4 => ?_)
          · refine Ru_iload_n (pc := 64) dX9_hoursBetween_64 rfl rfl ?_
            refine Ru_iconst (pc := 65) (nI 1) dX9_hoursBetween_65 rfl ?_
            refine Ru_iload_n (pc := 66) dX9_hoursBetween_66 rfl rfl ?_
            refine Ru_ishl1N (pc := 67) dX9_hoursBetween_67 (by omega) ?_
            refine Ru_iorN (pc := 68) dX9_hoursBetween_68 ?_
            refine Ru_istore_n (pc := 69) dX9_hoursBetween_69 rfl rfl (by decide) ?_
            refine Ru_iincN (pc := 70) 1 dX9_hoursBetween_70 rfl rfl rfl (by decide) ?_
            refine Ru_goto (pc := 73) 4 dX9_hoursBetween_73 (by decide) ?_
            have ea : awB f t q = 1 := by
              unfold awB aw
              rw [decide_eq_true (show (f = t ∨ (f < t ∧ f ≤ q ∧ q < t) ∨ (t ≤ f ∧ (f ≤ q ∨ q < t))) by omega)]
              rfl
            have eb : bt (awB f t) (q + 1) = ((bt (awB f t) q) ||| (2 ^ q)) := bt_or1 (fun i _ => awB_le f t i) ea
            refine Ru_weak (ih (24 - (q + 1)) (by omega) (q + 1) rfl (by omega)) (by rw [eb]; rfl)
          · refine Ru_iload (pc := 54) dX9_hoursBetween_54 rfl ?_
            refine Ru_if_neN (pc := 56) 64 dX9_hoursBetween_56 (by decide) (by omega) (fun h5 => ?_) (fun h5 => ?_)
            · exfalso
              omega
            · refine Ru_iload (pc := 59) dX9_hoursBetween_59 rfl ?_
              refine Ru_if_eqN (pc := 61) 70 dX9_hoursBetween_61 (by decide) (by omega) (fun h6 => ?_) (fun h6 => ?_)
              · refine Ru_iincN (pc := 70) 1 dX9_hoursBetween_70 rfl rfl rfl (by decide) ?_
                refine Ru_goto (pc := 73) 4 dX9_hoursBetween_73 (by decide) ?_
                have ea : awB f t q = 0 := by
                  unfold awB aw
                  rw [decide_eq_false (show ¬ (f = t ∨ (f < t ∧ f ≤ q ∧ q < t) ∨ (t ≤ f ∧ (f ≤ q ∨ q < t))) by omega)]
                  rfl
                have eb : bt (awB f t) (q + 1) = (bt (awB f t) q) := bt_or0 ea
                refine Ru_weak (ih (24 - (q + 1)) (by omega) (q + 1) rfl (by omega)) (by rw [eb]; rfl)
              · exfalso
                omega
        · refine Ru_iload_n (pc := 32) dX9_hoursBetween_32 rfl rfl ?_
          refine Ru_iload_n (pc := 33) dX9_hoursBetween_33 rfl rfl ?_
          refine Ru_icmp_leN (pc := 34) 42 dX9_hoursBetween_34 (by decide) (by omega) (fun h7 => ?_) (fun h7 => ?_)
          · refine Ru_iconst (pc := 42) (nI 1) dX9_hoursBetween_42 rfl ?_
            refine Ru_goto (pc := 43) 47 dX9_hoursBetween_43 (by decide) ?_
            refine Ru_istore (pc := 47) dX9_hoursBetween_47 rfl (by decide) ?_
            refine Ru_iload_n (pc := 49) dX9_hoursBetween_49 rfl rfl ?_
            refine Ru_iload_n (pc := 50) dX9_hoursBetween_50 rfl rfl ?_
            refine Ru_icmp_eqN (pc := 51) 64 dX9_hoursBetween_51 (by decide) (by omega) (fun h8 => ?_) (fun h8 => ?_)
            · refine Ru_iload_n (pc := 64) dX9_hoursBetween_64 rfl rfl ?_
              refine Ru_iconst (pc := 65) (nI 1) dX9_hoursBetween_65 rfl ?_
              refine Ru_iload_n (pc := 66) dX9_hoursBetween_66 rfl rfl ?_
              refine Ru_ishl1N (pc := 67) dX9_hoursBetween_67 (by omega) ?_
              refine Ru_iorN (pc := 68) dX9_hoursBetween_68 ?_
              refine Ru_istore_n (pc := 69) dX9_hoursBetween_69 rfl rfl (by decide) ?_
              refine Ru_iincN (pc := 70) 1 dX9_hoursBetween_70 rfl rfl rfl (by decide) ?_
              refine Ru_goto (pc := 73) 4 dX9_hoursBetween_73 (by decide) ?_
              have ea : awB f t q = 1 := by
                unfold awB aw
                rw [decide_eq_true (show (f = t ∨ (f < t ∧ f ≤ q ∧ q < t) ∨ (t ≤ f ∧ (f ≤ q ∨ q < t))) by omega)]
                rfl
              have eb : bt (awB f t) (q + 1) = ((bt (awB f t) q) ||| (2 ^ q)) := bt_or1 (fun i _ => awB_le f t i) ea
              refine Ru_weak (ih (24 - (q + 1)) (by omega) (q + 1) rfl (by omega)) (by rw [eb]; rfl)
            · refine Ru_iload (pc := 54) dX9_hoursBetween_54 rfl ?_
              refine Ru_if_neN (pc := 56) 64 dX9_hoursBetween_56 (by decide) (by omega) (fun h9 => ?_) (fun h9 => ?_)
              · exfalso
                omega
              · refine Ru_iload (pc := 59) dX9_hoursBetween_59 rfl ?_
                refine Ru_if_eqN (pc := 61) 70 dX9_hoursBetween_61 (by decide) (by omega) (fun h10 => ?_) (fun h10 => ?_)
                · exfalso
                  omega
                · refine Ru_iload_n (pc := 64) dX9_hoursBetween_64 rfl rfl ?_
                  refine Ru_iconst (pc := 65) (nI 1) dX9_hoursBetween_65 rfl ?_
                  refine Ru_iload_n (pc := 66) dX9_hoursBetween_66 rfl rfl ?_
                  refine Ru_ishl1N (pc := 67) dX9_hoursBetween_67 (by omega) ?_
                  refine Ru_iorN (pc := 68) dX9_hoursBetween_68 ?_
                  refine Ru_istore_n (pc := 69) dX9_hoursBetween_69 rfl rfl (by decide) ?_
                  refine Ru_iincN (pc := 70) 1 dX9_hoursBetween_70 rfl rfl rfl (by decide) ?_
                  refine Ru_goto (pc := 73) 4 dX9_hoursBetween_73 (by decide) ?_
                  have ea : awB f t q = 1 := by
                    unfold awB aw
                    rw [decide_eq_true (show (f = t ∨ (f < t ∧ f ≤ q ∧ q < t) ∨ (t ≤ f ∧ (f ≤ q ∨ q < t))) by omega)]
                    rfl
                  have eb : bt (awB f t) (q + 1) = ((bt (awB f t) q) ||| (2 ^ q)) := bt_or1 (fun i _ => awB_le f t i) ea
                  refine Ru_weak (ih (24 - (q + 1)) (by omega) (q + 1) rfl (by omega)) (by rw [eb]; rfl)
          · refine Ru_iload_n (pc := 37) dX9_hoursBetween_37 rfl rfl ?_
            refine Ru_iload_n (pc := 38) dX9_hoursBetween_38 rfl rfl ?_
            refine Ru_icmp_geN (pc := 39) 46 dX9_hoursBetween_39 (by decide) (by omega) (fun h11 => ?_) (fun h11 => ?_)
            · refine Ru_iconst (pc := 46) (nI 0) dX9_hoursBetween_46 rfl ?_
              refine Ru_istore (pc := 47) dX9_hoursBetween_47 rfl (by decide) ?_
              refine Ru_iload_n (pc := 49) dX9_hoursBetween_49 rfl rfl ?_
              refine Ru_iload_n (pc := 50) dX9_hoursBetween_50 rfl rfl ?_
              refine Ru_icmp_eqN (pc := 51) 64 dX9_hoursBetween_51 (by decide) (by omega) (fun h12 => ?_) (fun h12 => ?_)
              · refine Ru_iload_n (pc := 64) dX9_hoursBetween_64 rfl rfl ?_
                refine Ru_iconst (pc := 65) (nI 1) dX9_hoursBetween_65 rfl ?_
                refine Ru_iload_n (pc := 66) dX9_hoursBetween_66 rfl rfl ?_
                refine Ru_ishl1N (pc := 67) dX9_hoursBetween_67 (by omega) ?_
                refine Ru_iorN (pc := 68) dX9_hoursBetween_68 ?_
                refine Ru_istore_n (pc := 69) dX9_hoursBetween_69 rfl rfl (by decide) ?_
                refine Ru_iincN (pc := 70) 1 dX9_hoursBetween_70 rfl rfl rfl (by decide) ?_
                refine Ru_goto (pc := 73) 4 dX9_hoursBetween_73 (by decide) ?_
                have ea : awB f t q = 1 := by
                  unfold awB aw
                  rw [decide_eq_true (show (f = t ∨ (f < t ∧ f ≤ q ∧ q < t) ∨ (t ≤ f ∧ (f ≤ q ∨ q < t))) by omega)]
                  rfl
                have eb : bt (awB f t) (q + 1) = ((bt (awB f t) q) ||| (2 ^ q)) := bt_or1 (fun i _ => awB_le f t i) ea
                refine Ru_weak (ih (24 - (q + 1)) (by omega) (q + 1) rfl (by omega)) (by rw [eb]; rfl)
              · refine Ru_iload (pc := 54) dX9_hoursBetween_54 rfl ?_
                refine Ru_if_neN (pc := 56) 64 dX9_hoursBetween_56 (by decide) (by omega) (fun h13 => ?_) (fun h13 => ?_)
                · exfalso
                  omega
                · refine Ru_iload (pc := 59) dX9_hoursBetween_59 rfl ?_
                  refine Ru_if_eqN (pc := 61) 70 dX9_hoursBetween_61 (by decide) (by omega) (fun h14 => ?_) (fun h14 => ?_)
                  · refine Ru_iincN (pc := 70) 1 dX9_hoursBetween_70 rfl rfl rfl (by decide) ?_
                    refine Ru_goto (pc := 73) 4 dX9_hoursBetween_73 (by decide) ?_
                    have ea : awB f t q = 0 := by
                      unfold awB aw
                      rw [decide_eq_false (show ¬ (f = t ∨ (f < t ∧ f ≤ q ∧ q < t) ∨ (t ≤ f ∧ (f ≤ q ∨ q < t))) by omega)]
                      rfl
                    have eb : bt (awB f t) (q + 1) = (bt (awB f t) q) := bt_or0 ea
                    refine Ru_weak (ih (24 - (q + 1)) (by omega) (q + 1) rfl (by omega)) (by rw [eb]; rfl)
                  · exfalso
                    omega
            · refine Ru_iconst (pc := 42) (nI 1) dX9_hoursBetween_42 rfl ?_
              refine Ru_goto (pc := 43) 47 dX9_hoursBetween_43 (by decide) ?_
              refine Ru_istore (pc := 47) dX9_hoursBetween_47 rfl (by decide) ?_
              refine Ru_iload_n (pc := 49) dX9_hoursBetween_49 rfl rfl ?_
              refine Ru_iload_n (pc := 50) dX9_hoursBetween_50 rfl rfl ?_
              refine Ru_icmp_eqN (pc := 51) 64 dX9_hoursBetween_51 (by decide) (by omega) (fun h15 => ?_) (fun h15 => ?_)
              · refine Ru_iload_n (pc := 64) dX9_hoursBetween_64 rfl rfl ?_
                refine Ru_iconst (pc := 65) (nI 1) dX9_hoursBetween_65 rfl ?_
                refine Ru_iload_n (pc := 66) dX9_hoursBetween_66 rfl rfl ?_
                refine Ru_ishl1N (pc := 67) dX9_hoursBetween_67 (by omega) ?_
                refine Ru_iorN (pc := 68) dX9_hoursBetween_68 ?_
                refine Ru_istore_n (pc := 69) dX9_hoursBetween_69 rfl rfl (by decide) ?_
                refine Ru_iincN (pc := 70) 1 dX9_hoursBetween_70 rfl rfl rfl (by decide) ?_
                refine Ru_goto (pc := 73) 4 dX9_hoursBetween_73 (by decide) ?_
                have ea : awB f t q = 1 := by
                  unfold awB aw
                  rw [decide_eq_true (show (f = t ∨ (f < t ∧ f ≤ q ∧ q < t) ∨ (t ≤ f ∧ (f ≤ q ∨ q < t))) by omega)]
                  rfl
                have eb : bt (awB f t) (q + 1) = ((bt (awB f t) q) ||| (2 ^ q)) := bt_or1 (fun i _ => awB_le f t i) ea
                refine Ru_weak (ih (24 - (q + 1)) (by omega) (q + 1) rfl (by omega)) (by rw [eb]; rfl)
              · refine Ru_iload (pc := 54) dX9_hoursBetween_54 rfl ?_
                refine Ru_if_neN (pc := 56) 64 dX9_hoursBetween_56 (by decide) (by omega) (fun h16 => ?_) (fun h16 => ?_)
                · exfalso
                  omega
                · refine Ru_iload (pc := 59) dX9_hoursBetween_59 rfl ?_
                  refine Ru_if_eqN (pc := 61) 70 dX9_hoursBetween_61 (by decide) (by omega) (fun h17 => ?_) (fun h17 => ?_)
                  · exfalso
                    omega
                  · refine Ru_iload_n (pc := 64) dX9_hoursBetween_64 rfl rfl ?_
                    refine Ru_iconst (pc := 65) (nI 1) dX9_hoursBetween_65 rfl ?_
                    refine Ru_iload_n (pc := 66) dX9_hoursBetween_66 rfl rfl ?_
                    refine Ru_ishl1N (pc := 67) dX9_hoursBetween_67 (by omega) ?_
                    refine Ru_iorN (pc := 68) dX9_hoursBetween_68 ?_
                    refine Ru_istore_n (pc := 69) dX9_hoursBetween_69 rfl rfl (by decide) ?_
                    refine Ru_iincN (pc := 70) 1 dX9_hoursBetween_70 rfl rfl rfl (by decide) ?_
                    refine Ru_goto (pc := 73) 4 dX9_hoursBetween_73 (by decide) ?_
                    have ea : awB f t q = 1 := by
                      unfold awB aw
                      rw [decide_eq_true (show (f = t ∨ (f < t ∧ f ≤ q ∧ q < t) ∨ (t ≤ f ∧ (f ≤ q ∨ q < t))) by omega)]
                      rfl
                    have eb : bt (awB f t) (q + 1) = ((bt (awB f t) q) ||| (2 ^ q)) := bt_or1 (fun i _ => awB_le f t i) ea
                    refine Ru_weak (ih (24 - (q + 1)) (by omega) (q + 1) rfl (by omega)) (by rw [eb]; rfl)
      · refine Ru_iload_n (pc := 15) dX9_hoursBetween_15 rfl rfl ?_
        refine Ru_iload_n (pc := 16) dX9_hoursBetween_16 rfl rfl ?_
        refine Ru_icmp_geN (pc := 17) 24 dX9_hoursBetween_17 (by decide) (by omega) (fun h18 => ?_) (fun h18 => ?_)
        · refine Ru_iconst (pc := 24) (nI 0) dX9_hoursBetween_24 rfl ?_
          refine Ru_istore (pc := 25) dX9_hoursBetween_25 rfl (by decide) ?_
          refine Ru_iload_n (pc := 27) dX9_hoursBetween_27 rfl rfl ?_
          refine Ru_iload_n (pc := 28) dX9_hoursBetween_28 rfl rfl ?_
          refine Ru_icmp_geN (pc := 29) 46 dX9_hoursBetween_29 (by decide) (by omega) (fun h19 => ?_) (fun h19 => ?_)
          · refine Ru_iconst (pc := 46) (nI 0) dX9_hoursBetween_46 rfl ?_
            refine Ru_istore (pc := 47) dX9_hoursBetween_47 rfl (by decide) ?_
            refine Ru_iload_n (pc := 49) dX9_hoursBetween_49 rfl rfl ?_
            refine Ru_iload_n (pc := 50) dX9_hoursBetween_50 rfl rfl ?_
            refine Ru_icmp_eqN (pc := 51) 64 dX9_hoursBetween_51 (by decide) (by omega) (fun h20 => ?_) (fun h20 => ?_)
            · refine Ru_iload_n (pc := 64) dX9_hoursBetween_64 rfl rfl ?_
              refine Ru_iconst (pc := 65) (nI 1) dX9_hoursBetween_65 rfl ?_
              refine Ru_iload_n (pc := 66) dX9_hoursBetween_66 rfl rfl ?_
              refine Ru_ishl1N (pc := 67) dX9_hoursBetween_67 (by omega) ?_
              refine Ru_iorN (pc := 68) dX9_hoursBetween_68 ?_
              refine Ru_istore_n (pc := 69) dX9_hoursBetween_69 rfl rfl (by decide) ?_
              refine Ru_iincN (pc := 70) 1 dX9_hoursBetween_70 rfl rfl rfl (by decide) ?_
              refine Ru_goto (pc := 73) 4 dX9_hoursBetween_73 (by decide) ?_
              have ea : awB f t q = 1 := by
                unfold awB aw
                rw [decide_eq_true (show (f = t ∨ (f < t ∧ f ≤ q ∧ q < t) ∨ (t ≤ f ∧ (f ≤ q ∨ q < t))) by omega)]
                rfl
              have eb : bt (awB f t) (q + 1) = ((bt (awB f t) q) ||| (2 ^ q)) := bt_or1 (fun i _ => awB_le f t i) ea
              refine Ru_weak (ih (24 - (q + 1)) (by omega) (q + 1) rfl (by omega)) (by rw [eb]; rfl)
            · refine Ru_iload (pc := 54) dX9_hoursBetween_54 rfl ?_
              refine Ru_if_neN (pc := 56) 64 dX9_hoursBetween_56 (by decide) (by omega) (fun h21 => ?_) (fun h21 => ?_)
              · exfalso
                omega
              · refine Ru_iload (pc := 59) dX9_hoursBetween_59 rfl ?_
                refine Ru_if_eqN (pc := 61) 70 dX9_hoursBetween_61 (by decide) (by omega) (fun h22 => ?_) (fun h22 => ?_)
                · refine Ru_iincN (pc := 70) 1 dX9_hoursBetween_70 rfl rfl rfl (by decide) ?_
                  refine Ru_goto (pc := 73) 4 dX9_hoursBetween_73 (by decide) ?_
                  have ea : awB f t q = 0 := by
                    unfold awB aw
                    rw [decide_eq_false (show ¬ (f = t ∨ (f < t ∧ f ≤ q ∧ q < t) ∨ (t ≤ f ∧ (f ≤ q ∨ q < t))) by omega)]
                    rfl
                  have eb : bt (awB f t) (q + 1) = (bt (awB f t) q) := bt_or0 ea
                  refine Ru_weak (ih (24 - (q + 1)) (by omega) (q + 1) rfl (by omega)) (by rw [eb]; rfl)
                · exfalso
                  omega
          · refine Ru_iload_n (pc := 32) dX9_hoursBetween_32 rfl rfl ?_
            refine Ru_iload_n (pc := 33) dX9_hoursBetween_33 rfl rfl ?_
            refine Ru_icmp_leN (pc := 34) 42 dX9_hoursBetween_34 (by decide) (by omega) (fun h23 => ?_) (fun h23 => ?_)
            · refine Ru_iconst (pc := 42) (nI 1) dX9_hoursBetween_42 rfl ?_
              refine Ru_goto (pc := 43) 47 dX9_hoursBetween_43 (by decide) ?_
              refine Ru_istore (pc := 47) dX9_hoursBetween_47 rfl (by decide) ?_
              refine Ru_iload_n (pc := 49) dX9_hoursBetween_49 rfl rfl ?_
              refine Ru_iload_n (pc := 50) dX9_hoursBetween_50 rfl rfl ?_
              refine Ru_icmp_eqN (pc := 51) 64 dX9_hoursBetween_51 (by decide) (by omega) (fun h24 => ?_) (fun h24 => ?_)
              · refine Ru_iload_n (pc := 64) dX9_hoursBetween_64 rfl rfl ?_
                refine Ru_iconst (pc := 65) (nI 1) dX9_hoursBetween_65 rfl ?_
                refine Ru_iload_n (pc := 66) dX9_hoursBetween_66 rfl rfl ?_
                refine Ru_ishl1N (pc := 67) dX9_hoursBetween_67 (by omega) ?_
                refine Ru_iorN (pc := 68) dX9_hoursBetween_68 ?_
                refine Ru_istore_n (pc := 69) dX9_hoursBetween_69 rfl rfl (by decide) ?_
                refine Ru_iincN (pc := 70) 1 dX9_hoursBetween_70 rfl rfl rfl (by decide) ?_
                refine Ru_goto (pc := 73) 4 dX9_hoursBetween_73 (by decide) ?_
                have ea : awB f t q = 1 := by
                  unfold awB aw
                  rw [decide_eq_true (show (f = t ∨ (f < t ∧ f ≤ q ∧ q < t) ∨ (t ≤ f ∧ (f ≤ q ∨ q < t))) by omega)]
                  rfl
                have eb : bt (awB f t) (q + 1) = ((bt (awB f t) q) ||| (2 ^ q)) := bt_or1 (fun i _ => awB_le f t i) ea
                refine Ru_weak (ih (24 - (q + 1)) (by omega) (q + 1) rfl (by omega)) (by rw [eb]; rfl)
              · refine Ru_iload (pc := 54) dX9_hoursBetween_54 rfl ?_
                refine Ru_if_neN (pc := 56) 64 dX9_hoursBetween_56 (by decide) (by omega) (fun h25 => ?_) (fun h25 => ?_)
                · exfalso
                  omega
                · refine Ru_iload (pc := 59) dX9_hoursBetween_59 rfl ?_
                  refine Ru_if_eqN (pc := 61) 70 dX9_hoursBetween_61 (by decide) (by omega) (fun h26 => ?_) (fun h26 => ?_)
                  · exfalso
                    omega
                  · refine Ru_iload_n (pc := 64) dX9_hoursBetween_64 rfl rfl ?_
                    refine Ru_iconst (pc := 65) (nI 1) dX9_hoursBetween_65 rfl ?_
                    refine Ru_iload_n (pc := 66) dX9_hoursBetween_66 rfl rfl ?_
                    refine Ru_ishl1N (pc := 67) dX9_hoursBetween_67 (by omega) ?_
                    refine Ru_iorN (pc := 68) dX9_hoursBetween_68 ?_
                    refine Ru_istore_n (pc := 69) dX9_hoursBetween_69 rfl rfl (by decide) ?_
                    refine Ru_iincN (pc := 70) 1 dX9_hoursBetween_70 rfl rfl rfl (by decide) ?_
                    refine Ru_goto (pc := 73) 4 dX9_hoursBetween_73 (by decide) ?_
                    have ea : awB f t q = 1 := by
                      unfold awB aw
                      rw [decide_eq_true (show (f = t ∨ (f < t ∧ f ≤ q ∧ q < t) ∨ (t ≤ f ∧ (f ≤ q ∨ q < t))) by omega)]
                      rfl
                    have eb : bt (awB f t) (q + 1) = ((bt (awB f t) q) ||| (2 ^ q)) := bt_or1 (fun i _ => awB_le f t i) ea
                    refine Ru_weak (ih (24 - (q + 1)) (by omega) (q + 1) rfl (by omega)) (by rw [eb]; rfl)
            · refine Ru_iload_n (pc := 37) dX9_hoursBetween_37 rfl rfl ?_
              refine Ru_iload_n (pc := 38) dX9_hoursBetween_38 rfl rfl ?_
              refine Ru_icmp_geN (pc := 39) 46 dX9_hoursBetween_39 (by decide) (by omega) (fun h27 => ?_) (fun h27 => ?_)
              · refine Ru_iconst (pc := 46) (nI 0) dX9_hoursBetween_46 rfl ?_
                refine Ru_istore (pc := 47) dX9_hoursBetween_47 rfl (by decide) ?_
                refine Ru_iload_n (pc := 49) dX9_hoursBetween_49 rfl rfl ?_
                refine Ru_iload_n (pc := 50) dX9_hoursBetween_50 rfl rfl ?_
                refine Ru_icmp_eqN (pc := 51) 64 dX9_hoursBetween_51 (by decide) (by omega) (fun h28 => ?_) (fun h28 => ?_)
                · refine Ru_iload_n (pc := 64) dX9_hoursBetween_64 rfl rfl ?_
                  refine Ru_iconst (pc := 65) (nI 1) dX9_hoursBetween_65 rfl ?_
                  refine Ru_iload_n (pc := 66) dX9_hoursBetween_66 rfl rfl ?_
                  refine Ru_ishl1N (pc := 67) dX9_hoursBetween_67 (by omega) ?_
                  refine Ru_iorN (pc := 68) dX9_hoursBetween_68 ?_
                  refine Ru_istore_n (pc := 69) dX9_hoursBetween_69 rfl rfl (by decide) ?_
                  refine Ru_iincN (pc := 70) 1 dX9_hoursBetween_70 rfl rfl rfl (by decide) ?_
                  refine Ru_goto (pc := 73) 4 dX9_hoursBetween_73 (by decide) ?_
                  have ea : awB f t q = 1 := by
                    unfold awB aw
                    rw [decide_eq_true (show (f = t ∨ (f < t ∧ f ≤ q ∧ q < t) ∨ (t ≤ f ∧ (f ≤ q ∨ q < t))) by omega)]
                    rfl
                  have eb : bt (awB f t) (q + 1) = ((bt (awB f t) q) ||| (2 ^ q)) := bt_or1 (fun i _ => awB_le f t i) ea
                  refine Ru_weak (ih (24 - (q + 1)) (by omega) (q + 1) rfl (by omega)) (by rw [eb]; rfl)
                · refine Ru_iload (pc := 54) dX9_hoursBetween_54 rfl ?_
                  refine Ru_if_neN (pc := 56) 64 dX9_hoursBetween_56 (by decide) (by omega) (fun h29 => ?_) (fun h29 => ?_)
                  · exfalso
                    omega
                  · refine Ru_iload (pc := 59) dX9_hoursBetween_59 rfl ?_
                    refine Ru_if_eqN (pc := 61) 70 dX9_hoursBetween_61 (by decide) (by omega) (fun h30 => ?_) (fun h30 => ?_)
                    · refine Ru_iincN (pc := 70) 1 dX9_hoursBetween_70 rfl rfl rfl (by decide) ?_
                      refine Ru_goto (pc := 73) 4 dX9_hoursBetween_73 (by decide) ?_
                      have ea : awB f t q = 0 := by
                        unfold awB aw
                        rw [decide_eq_false (show ¬ (f = t ∨ (f < t ∧ f ≤ q ∧ q < t) ∨ (t ≤ f ∧ (f ≤ q ∨ q < t))) by omega)]
                        rfl
                      have eb : bt (awB f t) (q + 1) = (bt (awB f t) q) := bt_or0 ea
                      refine Ru_weak (ih (24 - (q + 1)) (by omega) (q + 1) rfl (by omega)) (by rw [eb]; rfl)
                    · exfalso
                      omega
              · refine Ru_iconst (pc := 42) (nI 1) dX9_hoursBetween_42 rfl ?_
                refine Ru_goto (pc := 43) 47 dX9_hoursBetween_43 (by decide) ?_
                refine Ru_istore (pc := 47) dX9_hoursBetween_47 rfl (by decide) ?_
                refine Ru_iload_n (pc := 49) dX9_hoursBetween_49 rfl rfl ?_
                refine Ru_iload_n (pc := 50) dX9_hoursBetween_50 rfl rfl ?_
                refine Ru_icmp_eqN (pc := 51) 64 dX9_hoursBetween_51 (by decide) (by omega) (fun h31 => ?_) (fun h31 => ?_)
                · refine Ru_iload_n (pc := 64) dX9_hoursBetween_64 rfl rfl ?_
                  refine Ru_iconst (pc := 65) (nI 1) dX9_hoursBetween_65 rfl ?_
                  refine Ru_iload_n (pc := 66) dX9_hoursBetween_66 rfl rfl ?_
                  refine Ru_ishl1N (pc := 67) dX9_hoursBetween_67 (by omega) ?_
                  refine Ru_iorN (pc := 68) dX9_hoursBetween_68 ?_
                  refine Ru_istore_n (pc := 69) dX9_hoursBetween_69 rfl rfl (by decide) ?_
                  refine Ru_iincN (pc := 70) 1 dX9_hoursBetween_70 rfl rfl rfl (by decide) ?_
                  refine Ru_goto (pc := 73) 4 dX9_hoursBetween_73 (by decide) ?_
                  have ea : awB f t q = 1 := by
                    unfold awB aw
                    rw [decide_eq_true (show (f = t ∨ (f < t ∧ f ≤ q ∧ q < t) ∨ (t ≤ f ∧ (f ≤ q ∨ q < t))) by omega)]
                    rfl
                  have eb : bt (awB f t) (q + 1) = ((bt (awB f t) q) ||| (2 ^ q)) := bt_or1 (fun i _ => awB_le f t i) ea
                  refine Ru_weak (ih (24 - (q + 1)) (by omega) (q + 1) rfl (by omega)) (by rw [eb]; rfl)
                · refine Ru_iload (pc := 54) dX9_hoursBetween_54 rfl ?_
                  refine Ru_if_neN (pc := 56) 64 dX9_hoursBetween_56 (by decide) (by omega) (fun h32 => ?_) (fun h32 => ?_)
                  · exfalso
                    omega
                  · refine Ru_iload (pc := 59) dX9_hoursBetween_59 rfl ?_
                    refine Ru_if_eqN (pc := 61) 70 dX9_hoursBetween_61 (by decide) (by omega) (fun h33 => ?_) (fun h33 => ?_)
                    · exfalso
                      omega
                    · refine Ru_iload_n (pc := 64) dX9_hoursBetween_64 rfl rfl ?_
                      refine Ru_iconst (pc := 65) (nI 1) dX9_hoursBetween_65 rfl ?_
                      refine Ru_iload_n (pc := 66) dX9_hoursBetween_66 rfl rfl ?_
                      refine Ru_ishl1N (pc := 67) dX9_hoursBetween_67 (by omega) ?_
                      refine Ru_iorN (pc := 68) dX9_hoursBetween_68 ?_
                      refine Ru_istore_n (pc := 69) dX9_hoursBetween_69 rfl rfl (by decide) ?_
                      refine Ru_iincN (pc := 70) 1 dX9_hoursBetween_70 rfl rfl rfl (by decide) ?_
                      refine Ru_goto (pc := 73) 4 dX9_hoursBetween_73 (by decide) ?_
                      have ea : awB f t q = 1 := by
                        unfold awB aw
                        rw [decide_eq_true (show (f = t ∨ (f < t ∧ f ≤ q ∧ q < t) ∨ (t ≤ f ∧ (f ≤ q ∨ q < t))) by omega)]
                        rfl
                      have eb : bt (awB f t) (q + 1) = ((bt (awB f t) q) ||| (2 ^ q)) := bt_or1 (fun i _ => awB_le f t i) ea
                      refine Ru_weak (ih (24 - (q + 1)) (by omega) (q + 1) rfl (by omega)) (by rw [eb]; rfl)
        · refine Ru_iconst (pc := 20) (nI 1) dX9_hoursBetween_20 rfl ?_
          refine Ru_goto (pc := 21) 25 dX9_hoursBetween_21 (by decide) ?_
          refine Ru_istore (pc := 25) dX9_hoursBetween_25 rfl (by decide) ?_
          refine Ru_iload_n (pc := 27) dX9_hoursBetween_27 rfl rfl ?_
          refine Ru_iload_n (pc := 28) dX9_hoursBetween_28 rfl rfl ?_
          refine Ru_icmp_geN (pc := 29) 46 dX9_hoursBetween_29 (by decide) (by omega) (fun h34 => ?_) (fun h34 => ?_)
          · refine Ru_iconst (pc := 46) (nI 0) dX9_hoursBetween_46 rfl ?_
            refine Ru_istore (pc := 47) dX9_hoursBetween_47 rfl (by decide) ?_
            refine Ru_iload_n (pc := 49) dX9_hoursBetween_49 rfl rfl ?_
            refine Ru_iload_n (pc := 50) dX9_hoursBetween_50 rfl rfl ?_
            refine Ru_icmp_eqN (pc := 51) 64 dX9_hoursBetween_51 (by decide) (by omega) (fun h35 => ?_) (fun h35 => ?_)
            · refine Ru_iload_n (pc := 64) dX9_hoursBetween_64 rfl rfl ?_
              refine Ru_iconst (pc := 65) (nI 1) dX9_hoursBetween_65 rfl ?_
              refine Ru_iload_n (pc := 66) dX9_hoursBetween_66 rfl rfl ?_
              refine Ru_ishl1N (pc := 67) dX9_hoursBetween_67 (by omega) ?_
              refine Ru_iorN (pc := 68) dX9_hoursBetween_68 ?_
              refine Ru_istore_n (pc := 69) dX9_hoursBetween_69 rfl rfl (by decide) ?_
              refine Ru_iincN (pc := 70) 1 dX9_hoursBetween_70 rfl rfl rfl (by decide) ?_
              refine Ru_goto (pc := 73) 4 dX9_hoursBetween_73 (by decide) ?_
              have ea : awB f t q = 1 := by
                unfold awB aw
                rw [decide_eq_true (show (f = t ∨ (f < t ∧ f ≤ q ∧ q < t) ∨ (t ≤ f ∧ (f ≤ q ∨ q < t))) by omega)]
                rfl
              have eb : bt (awB f t) (q + 1) = ((bt (awB f t) q) ||| (2 ^ q)) := bt_or1 (fun i _ => awB_le f t i) ea
              refine Ru_weak (ih (24 - (q + 1)) (by omega) (q + 1) rfl (by omega)) (by rw [eb]; rfl)
            · refine Ru_iload (pc := 54) dX9_hoursBetween_54 rfl ?_
              refine Ru_if_neN (pc := 56) 64 dX9_hoursBetween_56 (by decide) (by omega) (fun h36 => ?_) (fun h36 => ?_)
              · refine Ru_iload_n (pc := 64) dX9_hoursBetween_64 rfl rfl ?_
                refine Ru_iconst (pc := 65) (nI 1) dX9_hoursBetween_65 rfl ?_
                refine Ru_iload_n (pc := 66) dX9_hoursBetween_66 rfl rfl ?_
                refine Ru_ishl1N (pc := 67) dX9_hoursBetween_67 (by omega) ?_
                refine Ru_iorN (pc := 68) dX9_hoursBetween_68 ?_
                refine Ru_istore_n (pc := 69) dX9_hoursBetween_69 rfl rfl (by decide) ?_
                refine Ru_iincN (pc := 70) 1 dX9_hoursBetween_70 rfl rfl rfl (by decide) ?_
                refine Ru_goto (pc := 73) 4 dX9_hoursBetween_73 (by decide) ?_
                have ea : awB f t q = 1 := by
                  unfold awB aw
                  rw [decide_eq_true (show (f = t ∨ (f < t ∧ f ≤ q ∧ q < t) ∨ (t ≤ f ∧ (f ≤ q ∨ q < t))) by omega)]
                  rfl
                have eb : bt (awB f t) (q + 1) = ((bt (awB f t) q) ||| (2 ^ q)) := bt_or1 (fun i _ => awB_le f t i) ea
                refine Ru_weak (ih (24 - (q + 1)) (by omega) (q + 1) rfl (by omega)) (by rw [eb]; rfl)
              · exfalso
                omega
          · refine Ru_iload_n (pc := 32) dX9_hoursBetween_32 rfl rfl ?_
            refine Ru_iload_n (pc := 33) dX9_hoursBetween_33 rfl rfl ?_
            refine Ru_icmp_leN (pc := 34) 42 dX9_hoursBetween_34 (by decide) (by omega) (fun h37 => ?_) (fun h37 => ?_)
            · refine Ru_iconst (pc := 42) (nI 1) dX9_hoursBetween_42 rfl ?_
              refine Ru_goto (pc := 43) 47 dX9_hoursBetween_43 (by decide) ?_
              refine Ru_istore (pc := 47) dX9_hoursBetween_47 rfl (by decide) ?_
              refine Ru_iload_n (pc := 49) dX9_hoursBetween_49 rfl rfl ?_
              refine Ru_iload_n (pc := 50) dX9_hoursBetween_50 rfl rfl ?_
              refine Ru_icmp_eqN (pc := 51) 64 dX9_hoursBetween_51 (by decide) (by omega) (fun h38 => ?_) (fun h38 => ?_)
              · refine Ru_iload_n (pc := 64) dX9_hoursBetween_64 rfl rfl ?_
                refine Ru_iconst (pc := 65) (nI 1) dX9_hoursBetween_65 rfl ?_
                refine Ru_iload_n (pc := 66) dX9_hoursBetween_66 rfl rfl ?_
                refine Ru_ishl1N (pc := 67) dX9_hoursBetween_67 (by omega) ?_
                refine Ru_iorN (pc := 68) dX9_hoursBetween_68 ?_
                refine Ru_istore_n (pc := 69) dX9_hoursBetween_69 rfl rfl (by decide) ?_
                refine Ru_iincN (pc := 70) 1 dX9_hoursBetween_70 rfl rfl rfl (by decide) ?_
                refine Ru_goto (pc := 73) 4 dX9_hoursBetween_73 (by decide) ?_
                have ea : awB f t q = 1 := by
                  unfold awB aw
                  rw [decide_eq_true (show (f = t ∨ (f < t ∧ f ≤ q ∧ q < t) ∨ (t ≤ f ∧ (f ≤ q ∨ q < t))) by omega)]
                  rfl
                have eb : bt (awB f t) (q + 1) = ((bt (awB f t) q) ||| (2 ^ q)) := bt_or1 (fun i _ => awB_le f t i) ea
                refine Ru_weak (ih (24 - (q + 1)) (by omega) (q + 1) rfl (by omega)) (by rw [eb]; rfl)
              · refine Ru_iload (pc := 54) dX9_hoursBetween_54 rfl ?_
                refine Ru_if_neN (pc := 56) 64 dX9_hoursBetween_56 (by decide) (by omega) (fun h39 => ?_) (fun h39 => ?_)
                · refine Ru_iload_n (pc := 64) dX9_hoursBetween_64 rfl rfl ?_
                  refine Ru_iconst (pc := 65) (nI 1) dX9_hoursBetween_65 rfl ?_
                  refine Ru_iload_n (pc := 66) dX9_hoursBetween_66 rfl rfl ?_
                  refine Ru_ishl1N (pc := 67) dX9_hoursBetween_67 (by omega) ?_
                  refine Ru_iorN (pc := 68) dX9_hoursBetween_68 ?_
                  refine Ru_istore_n (pc := 69) dX9_hoursBetween_69 rfl rfl (by decide) ?_
                  refine Ru_iincN (pc := 70) 1 dX9_hoursBetween_70 rfl rfl rfl (by decide) ?_
                  refine Ru_goto (pc := 73) 4 dX9_hoursBetween_73 (by decide) ?_
                  have ea : awB f t q = 1 := by
                    unfold awB aw
                    rw [decide_eq_true (show (f = t ∨ (f < t ∧ f ≤ q ∧ q < t) ∨ (t ≤ f ∧ (f ≤ q ∨ q < t))) by omega)]
                    rfl
                  have eb : bt (awB f t) (q + 1) = ((bt (awB f t) q) ||| (2 ^ q)) := bt_or1 (fun i _ => awB_le f t i) ea
                  refine Ru_weak (ih (24 - (q + 1)) (by omega) (q + 1) rfl (by omega)) (by rw [eb]; rfl)
                · exfalso
                  omega
            · refine Ru_iload_n (pc := 37) dX9_hoursBetween_37 rfl rfl ?_
              refine Ru_iload_n (pc := 38) dX9_hoursBetween_38 rfl rfl ?_
              refine Ru_icmp_geN (pc := 39) 46 dX9_hoursBetween_39 (by decide) (by omega) (fun h40 => ?_) (fun h40 => ?_)
              · refine Ru_iconst (pc := 46) (nI 0) dX9_hoursBetween_46 rfl ?_
                refine Ru_istore (pc := 47) dX9_hoursBetween_47 rfl (by decide) ?_
                refine Ru_iload_n (pc := 49) dX9_hoursBetween_49 rfl rfl ?_
                refine Ru_iload_n (pc := 50) dX9_hoursBetween_50 rfl rfl ?_
                refine Ru_icmp_eqN (pc := 51) 64 dX9_hoursBetween_51 (by decide) (by omega) (fun h41 => ?_) (fun h41 => ?_)
                · refine Ru_iload_n (pc := 64) dX9_hoursBetween_64 rfl rfl ?_
                  refine Ru_iconst (pc := 65) (nI 1) dX9_hoursBetween_65 rfl ?_
                  refine Ru_iload_n (pc := 66) dX9_hoursBetween_66 rfl rfl ?_
                  refine Ru_ishl1N (pc := 67) dX9_hoursBetween_67 (by omega) ?_
                  refine Ru_iorN (pc := 68) dX9_hoursBetween_68 ?_
                  refine Ru_istore_n (pc := 69) dX9_hoursBetween_69 rfl rfl (by decide) ?_
                  refine Ru_iincN (pc := 70) 1 dX9_hoursBetween_70 rfl rfl rfl (by decide) ?_
                  refine Ru_goto (pc := 73) 4 dX9_hoursBetween_73 (by decide) ?_
                  have ea : awB f t q = 1 := by
                    unfold awB aw
                    rw [decide_eq_true (show (f = t ∨ (f < t ∧ f ≤ q ∧ q < t) ∨ (t ≤ f ∧ (f ≤ q ∨ q < t))) by omega)]
                    rfl
                  have eb : bt (awB f t) (q + 1) = ((bt (awB f t) q) ||| (2 ^ q)) := bt_or1 (fun i _ => awB_le f t i) ea
                  refine Ru_weak (ih (24 - (q + 1)) (by omega) (q + 1) rfl (by omega)) (by rw [eb]; rfl)
                · refine Ru_iload (pc := 54) dX9_hoursBetween_54 rfl ?_
                  refine Ru_if_neN (pc := 56) 64 dX9_hoursBetween_56 (by decide) (by omega) (fun h42 => ?_) (fun h42 => ?_)
                  · refine Ru_iload_n (pc := 64) dX9_hoursBetween_64 rfl rfl ?_
                    refine Ru_iconst (pc := 65) (nI 1) dX9_hoursBetween_65 rfl ?_
                    refine Ru_iload_n (pc := 66) dX9_hoursBetween_66 rfl rfl ?_
                    refine Ru_ishl1N (pc := 67) dX9_hoursBetween_67 (by omega) ?_
                    refine Ru_iorN (pc := 68) dX9_hoursBetween_68 ?_
                    refine Ru_istore_n (pc := 69) dX9_hoursBetween_69 rfl rfl (by decide) ?_
                    refine Ru_iincN (pc := 70) 1 dX9_hoursBetween_70 rfl rfl rfl (by decide) ?_
                    refine Ru_goto (pc := 73) 4 dX9_hoursBetween_73 (by decide) ?_
                    have ea : awB f t q = 1 := by
                      unfold awB aw
                      rw [decide_eq_true (show (f = t ∨ (f < t ∧ f ≤ q ∧ q < t) ∨ (t ≤ f ∧ (f ≤ q ∨ q < t))) by omega)]
                      rfl
                    have eb : bt (awB f t) (q + 1) = ((bt (awB f t) q) ||| (2 ^ q)) := bt_or1 (fun i _ => awB_le f t i) ea
                    refine Ru_weak (ih (24 - (q + 1)) (by omega) (q + 1) rfl (by omega)) (by rw [eb]; rfl)
                  · exfalso
                    omega
              · refine Ru_iconst (pc := 42) (nI 1) dX9_hoursBetween_42 rfl ?_
                refine Ru_goto (pc := 43) 47 dX9_hoursBetween_43 (by decide) ?_
                refine Ru_istore (pc := 47) dX9_hoursBetween_47 rfl (by decide) ?_
                refine Ru_iload_n (pc := 49) dX9_hoursBetween_49 rfl rfl ?_
                refine Ru_iload_n (pc := 50) dX9_hoursBetween_50 rfl rfl ?_
                refine Ru_icmp_eqN (pc := 51) 64 dX9_hoursBetween_51 (by decide) (by omega) (fun h43 => ?_) (fun h43 => ?_)
                · refine Ru_iload_n (pc := 64) dX9_hoursBetween_64 rfl rfl ?_
                  refine Ru_iconst (pc := 65) (nI 1) dX9_hoursBetween_65 rfl ?_
                  refine Ru_iload_n (pc := 66) dX9_hoursBetween_66 rfl rfl ?_
                  refine Ru_ishl1N (pc := 67) dX9_hoursBetween_67 (by omega) ?_
                  refine Ru_iorN (pc := 68) dX9_hoursBetween_68 ?_
                  refine Ru_istore_n (pc := 69) dX9_hoursBetween_69 rfl rfl (by decide) ?_
                  refine Ru_iincN (pc := 70) 1 dX9_hoursBetween_70 rfl rfl rfl (by decide) ?_
                  refine Ru_goto (pc := 73) 4 dX9_hoursBetween_73 (by decide) ?_
                  have ea : awB f t q = 1 := by
                    unfold awB aw
                    rw [decide_eq_true (show (f = t ∨ (f < t ∧ f ≤ q ∧ q < t) ∨ (t ≤ f ∧ (f ≤ q ∨ q < t))) by omega)]
                    rfl
                  have eb : bt (awB f t) (q + 1) = ((bt (awB f t) q) ||| (2 ^ q)) := bt_or1 (fun i _ => awB_le f t i) ea
                  refine Ru_weak (ih (24 - (q + 1)) (by omega) (q + 1) rfl (by omega)) (by rw [eb]; rfl)
                · refine Ru_iload (pc := 54) dX9_hoursBetween_54 rfl ?_
                  refine Ru_if_neN (pc := 56) 64 dX9_hoursBetween_56 (by decide) (by omega) (fun h44 => ?_) (fun h44 => ?_)
                  · refine Ru_iload_n (pc := 64) dX9_hoursBetween_64 rfl rfl ?_
                    refine Ru_iconst (pc := 65) (nI 1) dX9_hoursBetween_65 rfl ?_
                    refine Ru_iload_n (pc := 66) dX9_hoursBetween_66 rfl rfl ?_
                    refine Ru_ishl1N (pc := 67) dX9_hoursBetween_67 (by omega) ?_
                    refine Ru_iorN (pc := 68) dX9_hoursBetween_68 ?_
                    refine Ru_istore_n (pc := 69) dX9_hoursBetween_69 rfl rfl (by decide) ?_
                    refine Ru_iincN (pc := 70) 1 dX9_hoursBetween_70 rfl rfl rfl (by decide) ?_
                    refine Ru_goto (pc := 73) 4 dX9_hoursBetween_73 (by decide) ?_
                    have ea : awB f t q = 1 := by
                      unfold awB aw
                      rw [decide_eq_true (show (f = t ∨ (f < t ∧ f ≤ q ∧ q < t) ∨ (t ≤ f ∧ (f ≤ q ∨ q < t))) by omega)]
                      rfl
                    have eb : bt (awB f t) (q + 1) = ((bt (awB f t) q) ||| (2 ^ q)) := bt_or1 (fun i _ => awB_le f t i) ea
                    refine Ru_weak (ih (24 - (q + 1)) (by omega) (q + 1) rfl (by omega)) (by rw [eb]; rfl)
                  · exfalso
                    omega

theorem c_X9_hoursBetween {Q : Rq} {M : Mem} {f t : Nat} (hf : f ≤ 24 ∧ t ≤ 24) (k : Q (some (.int (nI (bt (awB f t) 24)))) GX M) : Ca 0 mt_X9_hoursBetween 0 0 [.int (nI f), .int (nI t)] GX M Q := by
  refine Ca_of rfl (Nat.le_of_ble_eq_true rfl) ?_
  refine Ru_iconst (pc := 0) (nI 0) dX9_hoursBetween_0 rfl ?_
  refine Ru_istore_n (pc := 1) dX9_hoursBetween_1 rfl rfl (by decide) ?_
  refine Ru_iconst (pc := 2) (nI 0) dX9_hoursBetween_2 rfl ?_
  refine Ru_istore_n (pc := 3) dX9_hoursBetween_3 rfl rfl (by decide) ?_
  exact Ru_weak (l_X9_hours hf k 24 0 rfl (Nat.zero_le _)) rfl

theorem pe_f4 {T : Tx} {x : St9} {s : Ps} (h : ¬ (pe4 T x s).2 = 0) : prE T (peS T x s) = pe4 T x s := by
  have e : peS T x s = pe4 T x s := if_neg (fun z => h z.1)
  unfold prE
  rw [e]
  exact sMust_f h
theorem pe_f3 {T : Tx} {x : St9} {s : Ps} (h : ¬ (pe3 T x s).2 = 0) : prE T (peS T x s) = pe3 T x s := by
  have e : pe4 T x s = pe3 T x s := sCount_f h
  exact (pe_f4 (by rw [e]; exact h)).trans e
theorem pe_f2 {T : Tx} {x : St9} {s : Ps} (h : ¬ (pe2 T x s).2 = 0) : prE T (peS T x s) = pe2 T x s := by
  have e : pe3 T x s = pe2 T x s := sMust_f h
  exact (pe_f3 (by rw [e]; exact h)).trans e
theorem pe_f1 {T : Tx} {x : St9} {s : Ps} (h : ¬ (pe1 T x s).2 = 0) : prE T (peS T x s) = pe1 T x s := by
  have e : pe2 T x s = pe1 T x s := sCount_f h
  exact (pe_f2 (by rw [e]; exact h)).trans e
theorem pe_f0 {T : Tx} {x : St9} {s : Ps} (h : ¬ (sNew T 2 6 x s).2 = 0) : prE T (peS T x s) = sNew T 2 6 x s := by
  have e : pe1 T x s = sNew T 2 6 x s := sMust_f h
  exact (pe_f1 (by rw [e]; exact h)).trans e
theorem peX_c {T : Tx} {x : St9} {s : Ps} (hlt : x.1 2 < 6) : (peX T x s).1 2 = x.1 2 + 1 ∧ ((peX T x s).1 (89 + x.1 2) = tV T (pe1 T x s).1 ∧ (peX T x s).1 (95 + x.1 2) = tV T (pe3 T x s).1 ∧ (peX T x s).1 (101 + x.1 2) = peI T x s) ∧ ∀ j, ¬ j = 2 → ¬ j = 89 + x.1 2 → ¬ j = 95 + x.1 2 → ¬ j = 101 + x.1 2 → (peX T x s).1 j = x.1 j := by
  unfold peX
  dsimp only
  refine ⟨rfl, ⟨?_, ?_, ?_⟩, fun j h1 h2 h3 h4 => ?_⟩
  · rw [if_neg (by omega), if_pos rfl]
  · rw [if_neg (by omega), if_neg (by omega), if_pos rfl]
  · rw [if_neg (by omega), if_neg (by omega), if_neg (by omega), if_pos rfl]
  · rw [if_neg h1, if_neg h2, if_neg h3, if_neg h4]
def pP (u m o k : Nat) : Prop := (o = u + 10 ∧ k = 2) ∨ (u + 11 ≤ o ∧ o ≤ u + 13 ∧ k = m)

theorem c_X9_buildPerson {Q : Rq} {M : Mem} {T : Tx} {cnt u : Nat} {s : Ps} {x : St9} (tw : Tw T) (hu : isTown u) (bd : X_bd u x M) (wf : Wf x.1) (hr : X_rd T cnt s M) (h0 : s.2 = 0) (hP : tK T s.1 = 137) (k : ∀ M', r_ow (inT u) M M' → X_lm u M' → X_rd T cnt (prE T (peS T x s)) M' → ((prE T (peS T x s)).2 = 0 → X_bd u (peX T x s) M') → Q (some (.int (r_b (decide ((prE T (peS T x s)).2 = 0))))) GX M') : Ca 3 mt_X9_buildPerson 0 0 [.ref u, .ref 40] GX M Q := by
  refine Ca_of rfl (Nat.le_of_ble_eq_true rfl) ?_
  have hP : 128 ≤ tK T s.1 := by omega
  have hT : u = 3 ∨ u = 83 ∨ u = 111 ∨ u = 139 ∨ u = 167 := hu
  have hx := wf.1
  have em : (-1 : Int32).toInt = -1 := rfl
  refine Ru_aload_n (pc := 0) dX9_buildPerson_0 rfl rfl ?_
  refine Ru_getR (pc := 1) (u + 10) dX9_buildPerson_1 fl_X9_39 (shTown_0 hu) rfl (rfX_of (o := u) (j := 10) (shTown_0 hu) rfl) ?_
  refine Ru_getI (pc := 4) dX9_buildPerson_4 fl_X9_93 (shNames_0 (isNames_t hu).2.2) rfl ?_
  refine Ru_top bd.2.1.1.2.2 ?_
  refine Ru_istore_n (pc := 7) dX9_buildPerson_7 rfl rfl (by decide) ?_
  refine Ru_aload_n (pc := 8) dX9_buildPerson_8 rfl rfl ?_
  refine Ru_aload_n (pc := 9) dX9_buildPerson_9 rfl rfl ?_
  refine Ru_aload_n (pc := 10) dX9_buildPerson_10 rfl rfl ?_
  refine Ru_getR (pc := 11) (u + 10) dX9_buildPerson_11 fl_X9_39 (shTown_0 hu) rfl (rfX_of (o := u) (j := 10) (shTown_0 hu) rfl) ?_
  refine Ru_cv2 (pc := 14) dX9_buildPerson_14 mv_X9_127 (shTown_0 hu) (by decide) (Nat.le_of_ble_eq_true rfl) (c_X9_buildName1 tw hu bd wf hr h0 (Or.inr (Or.inr ⟨rfl, rfl, rfl, rfl⟩)) hP (fun M2 ow2 (hr2 : X_rd T cnt (sNew T 2 6 x s) M2) cl2 => ?_)) 
  have st2 : ∀ o k, ¬ (o = 40 ∧ 6 ≤ k ∧ k ≤ 8) → ¬ (o = (u + 10) ∧ k = 2) → ¬ (o = (u + 10) + 1 ∧ k = x.1 2) → r_eq3 M M2 o k := fun o k h1 h2 h3 => ow2 o k h1 (fun z => z.elim h2 h3)
  have cw2 : r_ow (pP u (x.1 2)) M M2 := ow2.mn (fun o k z => by
    unfold pP
    omega)
  refine Ru_if_eqB (pc := 17) 30 dX9_buildPerson_17 (by decide) (fun h1 => ?_) (fun h1 => ?_)
  · replace h1 := of_decide_eq_false h1
    have hzf : ¬ (sNew T 2 6 x s).2 = 0 := h1
    refine Ru_iconst (pc := 30) (nI 0) dX9_buildPerson_30 rfl ?_
    refine Ru_zret (pc := 31) dX9_buildPerson_31 rfl ⟨Nat.le_refl _, Nat.le_refl _⟩ (Or.inl rfl) ?_
    have oww : r_ow (inT u) M M2 := cw2.mn (fun o k z => by
      have z2 := z
      unfold pP at z2
      unfold inT
      omega)
    have lmm : X_lm u M2 := ow_lm hu (fun j hj => by
      unfold pP
      omega) cw2 bd
    have eS : prE T (peS T x s) = (sNew T 2 6 x s) := pe_f0 hzf
    rw [eS] at k
    exact r_qe (r_b_f (decide_eq_false hzf)) (k M2 oww lmm hr2 (fun z => absurd z hzf))
  · replace h1 := of_decide_eq_true h1
    have hz0 : (sNew T 2 6 x s).2 = 0 := h1
    have cl2 := cl2 hz0
    have hlt : x.1 2 < 6 := cl2.2.2.2
    have cn2 : M2.2.1 (u + 11) (x.1 2) = nJ (cd 27 (tL T (s.1 + 1))) := cl2.2.1
    refine Ru_aload_n (pc := 20) dX9_buildPerson_20 rfl rfl ?_
    refine Ru_sipush (pc := 21) (nI 138) dX9_buildPerson_21 rfl ?_
    refine Ru_cv1 (pc := 24) dX9_buildPerson_24 mv_X9_134 rfl (by decide) (Nat.le_of_ble_eq_true rfl) (c_X8_expect (s := (sNew T 2 6 x s)) (w := 138) tw hr2 (by assumption) (by decide) (fun M3 gx3 (hr3 : X_rd T cnt (sMust T (decide (tK T (sNew T 2 6 x s).1 = 138)) (sNew T 2 6 x s)) M3) => ?_)) 
    have st3 : ∀ o k, ¬ (o = 40 ∧ 6 ≤ k ∧ k ≤ 8) → r_eq3 M2 M3 o k := fun o k h => r_ow.fx (P := fun _ _ => False) (gx3.mono rfl) o k h (fun z => z)
    have cw3 := cw2.fx1 (gx3.mono rfl)
    refine Ru_if_neB (pc := 27) 32 dX9_buildPerson_27 (by decide) (fun h2 => ?_) (fun h2 => ?_)
    · replace h2 := of_decide_eq_true h2
      have hz1 : (pe1 T x s).2 = 0 := h2
      refine Ru_aload_n (pc := 32) dX9_buildPerson_32 rfl rfl ?_
      refine Ru_iconst (pc := 33) (nI 0) dX9_buildPerson_33 rfl ?_
      refine Ru_bipush (pc := 34) (nI 24) dX9_buildPerson_34 rfl ?_
      refine Ru_cv2 (pc := 36) dX9_buildPerson_36 mv_X9_141 rfl (by decide) (Nat.le_of_ble_eq_true rfl) (c_X8_number (s := (pe1 T x s)) (lo := 0) (hi := 24) tw hr3 (by assumption) (by decide) (fun M4 gx4 (hr4 : X_rd T cnt (sCount T 0 24 (pe1 T x s)) M4) => ?_)) 
      have st4 : ∀ o k, ¬ (o = 40 ∧ 6 ≤ k ∧ k ≤ 8) → r_eq3 M3 M4 o k := fun o k h => r_ow.fx (P := fun _ _ => False) (gx4.mono rfl) o k h (fun z => z)
      have cw4 := cw3.fx1 (gx4.mono rfl)
      refine Ru_istore_n (pc := 39) dX9_buildPerson_39 rfl rfl (by decide) ?_
      refine Ru_iload_n (pc := 40) dX9_buildPerson_40 rfl rfl ?_
      refine Ru_iconst (pc := 41) (-1) dX9_buildPerson_41 rfl ?_
      refine Ru_icmp_eqT (pc := 42) 55 dX9_buildPerson_42 (by decide) (fun h3 => ?_) (fun h3 => ?_)
      · have hzf : ¬ (pe2 T x s).2 = 0 := (numb_neg (by decide)).mp h3
        refine Ru_iconst (pc := 55) (nI 0) dX9_buildPerson_55 rfl ?_
        refine Ru_zret (pc := 56) dX9_buildPerson_56 rfl ⟨Nat.le_refl _, Nat.le_refl _⟩ (Or.inl rfl) ?_
        have oww : r_ow (inT u) M M4 := cw4.mn (fun o k z => by
          have z2 := z
          unfold pP at z2
          unfold inT
          omega)
        have lmm : X_lm u M4 := ow_lm hu (fun j hj => by
          unfold pP
          omega) cw4 bd
        have eS : prE T (peS T x s) = (pe2 T x s) := pe_f2 hzf
        rw [eS] at k
        exact r_qe (r_b_f (decide_eq_false hzf)) (k M4 oww lmm hr4 (fun z => absurd z hzf))
      · have hz2 : (pe2 T x s).2 = 0 := Classical.byContradiction (fun z => h3 ((numb_neg (by decide)).mpr z))
        have hy2 : (sCount T 0 24 (pe1 T x s)).2 = 0 := hz2
        have by2 := (sCount_ok9 hy2).2.1
        refine Ru_weak (L' := [(0, some (.ref u)), (1, some (.ref 40)), (2, some (.int (nI (x.1 2)))), (3, some (.int (nI (tV T (pe1 T x s).1))))]) ?_ (by rw [if_pos hy2]; rfl)
        refine Ru_aload_n (pc := 45) dX9_buildPerson_45 rfl rfl ?_
        refine Ru_sipush (pc := 46) (nI 139) dX9_buildPerson_46 rfl ?_
        refine Ru_cv1 (pc := 49) dX9_buildPerson_49 mv_X9_134 rfl (by decide) (Nat.le_of_ble_eq_true rfl) (c_X8_expect (s := (pe2 T x s)) (w := 139) tw hr4 (by assumption) (by decide) (fun M5 gx5 (hr5 : X_rd T cnt (sMust T (decide (tK T (pe2 T x s).1 = 139)) (pe2 T x s)) M5) => ?_)) 
        have st5 : ∀ o k, ¬ (o = 40 ∧ 6 ≤ k ∧ k ≤ 8) → r_eq3 M4 M5 o k := fun o k h => r_ow.fx (P := fun _ _ => False) (gx5.mono rfl) o k h (fun z => z)
        have cw5 := cw4.fx1 (gx5.mono rfl)
        refine Ru_if_neB (pc := 52) 57 dX9_buildPerson_52 (by decide) (fun h4 => ?_) (fun h4 => ?_)
        · replace h4 := of_decide_eq_true h4
          have hz3 : (pe3 T x s).2 = 0 := h4
          refine Ru_aload_n (pc := 57) dX9_buildPerson_57 rfl rfl ?_
          refine Ru_iconst (pc := 58) (nI 0) dX9_buildPerson_58 rfl ?_
          refine Ru_bipush (pc := 59) (nI 24) dX9_buildPerson_59 rfl ?_
          refine Ru_cv2 (pc := 61) dX9_buildPerson_61 mv_X9_141 rfl (by decide) (Nat.le_of_ble_eq_true rfl) (c_X8_number (s := (pe3 T x s)) (lo := 0) (hi := 24) tw hr5 (by assumption) (by decide) (fun M6 gx6 (hr6 : X_rd T cnt (sCount T 0 24 (pe3 T x s)) M6) => ?_)) 
          have st6 : ∀ o k, ¬ (o = 40 ∧ 6 ≤ k ∧ k ≤ 8) → r_eq3 M5 M6 o k := fun o k h => r_ow.fx (P := fun _ _ => False) (gx6.mono rfl) o k h (fun z => z)
          have cw6 := cw5.fx1 (gx6.mono rfl)
          refine Ru_istore (pc := 64) dX9_buildPerson_64 rfl (by decide) ?_
          refine Ru_iload (pc := 66) dX9_buildPerson_66 rfl ?_
          refine Ru_iconst (pc := 68) (-1) dX9_buildPerson_68 rfl ?_
          refine Ru_icmp_neT (pc := 69) 74 dX9_buildPerson_69 (by decide) (fun h5 => ?_) (fun h5 => ?_)
          · have hz4 : (pe4 T x s).2 = 0 := Classical.byContradiction (fun z => h5 ((numb_neg (by decide)).mpr z))
            have hy4 : (sCount T 0 24 (pe3 T x s)).2 = 0 := hz4
            have by4 := (sCount_ok9 hy4).2.1
            refine Ru_weak (L' := [(0, some (.ref u)), (1, some (.ref 40)), (2, some (.int (nI (x.1 2)))), (3, some (.int (nI (tV T (pe1 T x s).1)))), (4, some (.int (nI (tV T (pe3 T x s).1))))]) ?_ (by rw [if_pos hy4]; rfl)
            refine Ru_aload_n (pc := 74) dX9_buildPerson_74 rfl rfl ?_
            refine Ru_getR (pc := 75) (u + 12) dX9_buildPerson_75 fl_X9_42 (shTown_0 hu) rfl (rfX_of (o := u) (j := 12) (shTown_0 hu) rfl) ?_
            refine Ru_iload_n (pc := 78) dX9_buildPerson_78 rfl rfl ?_
            refine Ru_iload_n (pc := 79) dX9_buildPerson_79 rfl rfl ?_
            refine Ru_iload (pc := 80) dX9_buildPerson_80 rfl ?_
            refine Ru_cs2 (pc := 82) dX9_buildPerson_82 ms_X9_148 (by decide) (Nat.le_of_ble_eq_true rfl) (c_X9_hoursBetween ⟨by omega, by omega⟩ ?_) 
            refine Ru_iast (pc := 85) rfl dX9_buildPerson_85 (shTown_12 hu) (by omega) ?_
            generalize en7 : r_sI M6 (u + 12) (x.1 2) (nI (bt (awB (tV T (pe1 T x s).1) (tV T (pe3 T x s).1)) 24)) = M7
            have st7 : ∀ o k, ¬ (o = (u + 12) ∧ k = (x.1 2)) → r_eq3 M6 M7 o k := fun o k h => by
              rw [← en7]
              exact ⟨r_sI_n h, rfl, rfl⟩
            have vl7 : M7.1 (u + 12) (x.1 2) = (nI (bt (awB (tV T (pe1 T x s).1) (tV T (pe3 T x s).1)) 24)) := by
              rw [← en7]
              exact r_sI_s
            have hr7 : X_rd T cnt (pe4 T x s) M7 := X_rd_st hu (by decide) en7 hr6
            have cw7 := cw6.st (by unfold pP; omega) en7
            refine Ru_aload_n (pc := 86) dX9_buildPerson_86 rfl rfl ?_
            refine Ru_getR (pc := 87) (u + 13) dX9_buildPerson_87 fl_X9_45 (shTown_0 hu) rfl (rfX_of (o := u) (j := 13) (shTown_0 hu) rfl) ?_
            refine Ru_iload_n (pc := 90) dX9_buildPerson_90 rfl rfl ?_
            refine Ru_iconst (pc := 91) (nI 0) dX9_buildPerson_91 rfl ?_
            refine Ru_iast (pc := 92) rfl dX9_buildPerson_92 (shTown_13 hu) (by omega) ?_
            generalize en8 : r_sI M7 (u + 13) (x.1 2) (nI 0) = M8
            have st8 : ∀ o k, ¬ (o = (u + 13) ∧ k = (x.1 2)) → r_eq3 M7 M8 o k := fun o k h => by
              rw [← en8]
              exact ⟨r_sI_n h, rfl, rfl⟩
            have vl8 : M8.1 (u + 13) (x.1 2) = (nI 0) := by
              rw [← en8]
              exact r_sI_s
            have hr8 : X_rd T cnt (pe4 T x s) M8 := X_rd_st hu (by decide) en8 hr7
            have cw8 := cw7.st (by unfold pP; omega) en8
            refine Ru_aload_n (pc := 93) dX9_buildPerson_93 rfl rfl ?_
            refine Ru_cv0 (pc := 94) dX9_buildPerson_94 mv_X9_80 rfl (by decide) (Nat.le_of_ble_eq_true rfl) (c_X8_kind (s := (pe4 T x s)) tw hr8 (by assumption) ?_) 
            refine Ru_sipush (pc := 97) (nI 140) dX9_buildPerson_97 rfl ?_
            refine Ru_icmp_neN (pc := 100) 132 dX9_buildPerson_100 (by decide) ⟨tK_rg _ _, by decide⟩ (fun h6 => ?_) (fun h6 => ?_)
            · refine Ru_aload_n (pc := 132) dX9_buildPerson_132 rfl rfl ?_
              refine Ru_bipush (pc := 133) (nI 59) dX9_buildPerson_133 rfl ?_
              refine Ru_cv1 (pc := 135) dX9_buildPerson_135 mv_X9_134 rfl (by decide) (Nat.le_of_ble_eq_true rfl) (c_X8_expect (s := (pe4 T x s)) (w := 59) tw hr8 (by assumption) (by decide) (fun M9 gx9 (hr9 : X_rd T cnt (sMust T (decide (tK T (pe4 T x s).1 = 59)) (pe4 T x s)) M9) => ?_)) 
              have st9 : ∀ o k, ¬ (o = 40 ∧ 6 ≤ k ∧ k ≤ 8) → r_eq3 M8 M9 o k := fun o k h => r_ow.fx (P := fun _ _ => False) (gx9.mono rfl) o k h (fun z => z)
              have cw9 := cw8.fx1 (gx9.mono rfl)
              refine Ru_zret (pc := 138) dX9_buildPerson_138 rfl ⟨Nat.le_refl _, Nat.le_refl _⟩ (r_b_01 _) ?_
              have oww : r_ow (inT u) M M9 := cw9.mn (fun o k z => by
                have z2 := z
                unfold pP at z2
                unfold inT
                omega)
              have lmm : X_lm u M9 := ow_lm hu (fun j hj => by
                unfold pP
                omega) cw9 bd
              have e5 : peS T x s = pe4 T x s := if_neg (fun z => absurd z.2 (by assumption))
              have eI : peI T x s = 0 := if_neg (fun z => absurd z.2 (by assumption))
              have eS : prE T (peS T x s) = (sMust T (decide (tK T (pe4 T x s).1 = 59)) (pe4 T x s)) := by
                unfold prE
                rw [e5]
              have bdn : X_bd u (peX T x s) M9 := by
                have tc := peX_c (T := T) (s := s) cl2.2.2.2
                rw [eI] at tc
                have tv := tL_v tw (i := s.1 + 1) (Or.inl cl2.2.2.1)
                refine X_bd_pe (M := M) (l := tL T (s.1 + 1)) bd wf cl2.2.2.2 ⟨tv.1, tv.2.1⟩ tc.1 tc.2.1 tc.2.2 (fun o k h1 h2 h3 h4 => ?_) ?_ ?_ ⟨?_, ?_⟩
                · exact cw9 o k (fun z => by rcases hT with h | h | h | h | h <;> omega) (by unfold pP; omega)
                · exact (e3t (e3t (e3t (e3t (e3t (e3t (st3 (u + 10) 2 (n40 hu (by decide))) (st4 (u + 10) 2 (n40 hu (by decide)))) (st5 (u + 10) 2 (n40 hu (by decide)))) (st6 (u + 10) 2 (n40 hu (by decide)))) (st7 (u + 10) 2 (nuj (by decide)))) (st8 (u + 10) 2 (nuj (by decide)))) (st9 (u + 10) 2 (n40 hu (by decide)))).1.trans cl2.1
                · exact (e3t (e3t (e3t (e3t (e3t (e3t (st3 (u + 11) (x.1 2) (n40 hu (by decide))) (st4 (u + 11) (x.1 2) (n40 hu (by decide)))) (st5 (u + 11) (x.1 2) (n40 hu (by decide)))) (st6 (u + 11) (x.1 2) (n40 hu (by decide)))) (st7 (u + 11) (x.1 2) (nuj (by decide)))) (st8 (u + 11) (x.1 2) (nuj (by decide)))) (st9 (u + 11) (x.1 2) (n40 hu (by decide)))).2.1.trans cn2
                · exact ((e3t (st8 (u + 12) (x.1 2) (nuj (by decide))) (st9 (u + 12) (x.1 2) (n40 hu (by decide)))).1.trans vl7)
                · exact ((st9 (u + 13) (x.1 2) (n40 hu (by decide))).1.trans vl8)
              rw [eS] at k
              exact k M9 oww lmm hr9 (fun _ => bdn)
            · refine Ru_aload_n (pc := 103) dX9_buildPerson_103 rfl rfl ?_
              refine Ru_cv0 (pc := 104) dX9_buildPerson_104 mv_X9_131 rfl (by decide) (Nat.le_of_ble_eq_true rfl) (c_X8_next (s := (pe4 T x s)) tw hr8 (by assumption) (by show ¬ tK T ((pe4 T x s).1) = 0; omega) (fun M9 gx9 (hr9 : X_rd T cnt ((pe4 T x s).1 + 1, 0) M9) => ?_)) 
              have st9 : ∀ o k, ¬ (o = 40 ∧ 6 ≤ k ∧ k ≤ 8) → r_eq3 M8 M9 o k := fun o k h => r_ow.fx (P := fun _ _ => False) (gx9.mono rfl) o k h (fun z => z)
              have cw9 := cw8.fx1 (gx9.mono rfl)
              refine Ru_aload_n (pc := 107) dX9_buildPerson_107 rfl rfl ?_
              refine Ru_getR (pc := 108) (u + 13) dX9_buildPerson_108 fl_X9_45 (shTown_0 hu) rfl (rfX_of (o := u) (j := 13) (shTown_0 hu) rfl) ?_
              refine Ru_iload_n (pc := 111) dX9_buildPerson_111 rfl rfl ?_
              refine Ru_aload_n (pc := 112) dX9_buildPerson_112 rfl rfl ?_
              refine Ru_iconst (pc := 113) (nI 0) dX9_buildPerson_113 rfl ?_
              refine Ru_bipush (pc := 114) (nI 16) dX9_buildPerson_114 rfl ?_
              refine Ru_cv2 (pc := 116) dX9_buildPerson_116 mv_X9_141 rfl (by decide) (Nat.le_of_ble_eq_true rfl) (c_X8_number (s := ((pe4 T x s).1 + 1, 0)) (lo := 0) (hi := 16) tw hr9 rfl (by decide) (fun M10 gx10 (hr10 : X_rd T cnt (sCount T 0 16 ((pe4 T x s).1 + 1, 0)) M10) => ?_)) 
              have st10 : ∀ o k, ¬ (o = 40 ∧ 6 ≤ k ∧ k ≤ 8) → r_eq3 M9 M10 o k := fun o k h => r_ow.fx (P := fun _ _ => False) (gx10.mono rfl) o k h (fun z => z)
              have cw10 := cw9.fx1 (gx10.mono rfl)
              refine Ru_iast (pc := 119) rfl dX9_buildPerson_119 (shTown_13 hu) (by omega) ?_
              generalize en11 : r_sI M10 (u + 13) (x.1 2) (if (sCount T 0 16 ((pe4 T x s).1 + 1, 0)).2 = 0 then nI (tV T ((pe4 T x s).1 + 1)) else -1) = M11
              have st11 : ∀ o k, ¬ (o = (u + 13) ∧ k = (x.1 2)) → r_eq3 M10 M11 o k := fun o k h => by
                rw [← en11]
                exact ⟨r_sI_n h, rfl, rfl⟩
              have vl11 : M11.1 (u + 13) (x.1 2) = (if (sCount T 0 16 ((pe4 T x s).1 + 1, 0)).2 = 0 then nI (tV T ((pe4 T x s).1 + 1)) else -1) := by
                rw [← en11]
                exact r_sI_s
              have hr11 : X_rd T cnt (sCount T 0 16 ((pe4 T x s).1 + 1, 0)) M11 := X_rd_st hu (by decide) en11 hr10
              have cw11 := cw10.st (by unfold pP; omega) en11
              refine Ru_aload_n (pc := 120) dX9_buildPerson_120 rfl rfl ?_
              refine Ru_getR (pc := 121) (u + 13) dX9_buildPerson_121 fl_X9_45 (shTown_0 hu) rfl (rfX_of (o := u) (j := 13) (shTown_0 hu) rfl) ?_
              refine Ru_iload_n (pc := 124) dX9_buildPerson_124 rfl rfl ?_
              refine Ru_iald (pc := 125) dX9_buildPerson_125 (shTown_13 hu) (by omega) ?_
              refine Ru_top vl11 ?_
              refine Ru_iconst (pc := 126) (-1) dX9_buildPerson_126 rfl ?_
              refine Ru_icmp_neT (pc := 127) 132 dX9_buildPerson_127 (by decide) (fun h7 => ?_) (fun h7 => ?_)
              · have hz5 : (sCount T 0 16 ((pe4 T x s).1 + 1, 0)).2 = 0 := Classical.byContradiction (fun z => h7 ((numb_neg (by decide)).mpr z))
                refine Ru_aload_n (pc := 132) dX9_buildPerson_132 rfl rfl ?_
                refine Ru_bipush (pc := 133) (nI 59) dX9_buildPerson_133 rfl ?_
                refine Ru_cv1 (pc := 135) dX9_buildPerson_135 mv_X9_134 rfl (by decide) (Nat.le_of_ble_eq_true rfl) (c_X8_expect (s := (sCount T 0 16 ((pe4 T x s).1 + 1, 0))) (w := 59) tw hr11 (by assumption) (by decide) (fun M12 gx12 (hr12 : X_rd T cnt (sMust T (decide (tK T (sCount T 0 16 ((pe4 T x s).1 + 1, 0)).1 = 59)) (sCount T 0 16 ((pe4 T x s).1 + 1, 0))) M12) => ?_)) 
                have st12 : ∀ o k, ¬ (o = 40 ∧ 6 ≤ k ∧ k ≤ 8) → r_eq3 M11 M12 o k := fun o k h => r_ow.fx (P := fun _ _ => False) (gx12.mono rfl) o k h (fun z => z)
                have cw12 := cw11.fx1 (gx12.mono rfl)
                refine Ru_zret (pc := 138) dX9_buildPerson_138 rfl ⟨Nat.le_refl _, Nat.le_refl _⟩ (r_b_01 _) ?_
                have oww : r_ow (inT u) M M12 := cw12.mn (fun o k z => by
                  have z2 := z
                  unfold pP at z2
                  unfold inT
                  omega)
                have lmm : X_lm u M12 := ow_lm hu (fun j hj => by
                  unfold pP
                  omega) cw12 bd
                have e5 : peS T x s = sCount T 0 16 ((pe4 T x s).1 + 1, 0) := if_pos ⟨hz4, by assumption⟩
                have eI : peI T x s = tV T ((pe4 T x s).1 + 1) := if_pos ⟨hz4, by assumption⟩
                have eS : prE T (peS T x s) = (sMust T (decide (tK T (sCount T 0 16 ((pe4 T x s).1 + 1, 0)).1 = 59)) (sCount T 0 16 ((pe4 T x s).1 + 1, 0))) := by
                  unfold prE
                  rw [e5]
                have bdn : X_bd u (peX T x s) M12 := by
                  have tc := peX_c (T := T) (s := s) cl2.2.2.2
                  rw [eI] at tc
                  have tv := tL_v tw (i := s.1 + 1) (Or.inl cl2.2.2.1)
                  refine X_bd_pe (M := M) (l := tL T (s.1 + 1)) bd wf cl2.2.2.2 ⟨tv.1, tv.2.1⟩ tc.1 tc.2.1 tc.2.2 (fun o k h1 h2 h3 h4 => ?_) ?_ ?_ ⟨?_, ?_⟩
                  · exact cw12 o k (fun z => by rcases hT with h | h | h | h | h <;> omega) (by unfold pP; omega)
                  · exact (e3t (e3t (e3t (e3t (e3t (e3t (e3t (e3t (e3t (st3 (u + 10) 2 (n40 hu (by decide))) (st4 (u + 10) 2 (n40 hu (by decide)))) (st5 (u + 10) 2 (n40 hu (by decide)))) (st6 (u + 10) 2 (n40 hu (by decide)))) (st7 (u + 10) 2 (nuj (by decide)))) (st8 (u + 10) 2 (nuj (by decide)))) (st9 (u + 10) 2 (n40 hu (by decide)))) (st10 (u + 10) 2 (n40 hu (by decide)))) (st11 (u + 10) 2 (nuj (by decide)))) (st12 (u + 10) 2 (n40 hu (by decide)))).1.trans cl2.1
                  · exact (e3t (e3t (e3t (e3t (e3t (e3t (e3t (e3t (e3t (st3 (u + 11) (x.1 2) (n40 hu (by decide))) (st4 (u + 11) (x.1 2) (n40 hu (by decide)))) (st5 (u + 11) (x.1 2) (n40 hu (by decide)))) (st6 (u + 11) (x.1 2) (n40 hu (by decide)))) (st7 (u + 11) (x.1 2) (nuj (by decide)))) (st8 (u + 11) (x.1 2) (nuj (by decide)))) (st9 (u + 11) (x.1 2) (n40 hu (by decide)))) (st10 (u + 11) (x.1 2) (n40 hu (by decide)))) (st11 (u + 11) (x.1 2) (nuj (by decide)))) (st12 (u + 11) (x.1 2) (n40 hu (by decide)))).2.1.trans cn2
                  · exact ((e3t (e3t (e3t (e3t (st8 (u + 12) (x.1 2) (nuj (by decide))) (st9 (u + 12) (x.1 2) (n40 hu (by decide)))) (st10 (u + 12) (x.1 2) (n40 hu (by decide)))) (st11 (u + 12) (x.1 2) (nuj (by decide)))) (st12 (u + 12) (x.1 2) (n40 hu (by decide)))).1.trans vl7)
                  · exact ((st12 (u + 13) (x.1 2) (n40 hu (by decide))).1.trans vl11).trans (if_pos hz5)
                rw [eS] at k
                exact k M12 oww lmm hr12 (fun _ => bdn)
              · have hzf : ¬ (sCount T 0 16 ((pe4 T x s).1 + 1, 0)).2 = 0 := (numb_neg (by decide)).mp h7
                refine Ru_iconst (pc := 130) (nI 0) dX9_buildPerson_130 rfl ?_
                refine Ru_zret (pc := 131) dX9_buildPerson_131 rfl ⟨Nat.le_refl _, Nat.le_refl _⟩ (Or.inl rfl) ?_
                have oww : r_ow (inT u) M M11 := cw11.mn (fun o k z => by
                  have z2 := z
                  unfold pP at z2
                  unfold inT
                  omega)
                have lmm : X_lm u M11 := ow_lm hu (fun j hj => by
                  unfold pP
                  omega) cw11 bd
                have e5 : peS T x s = sCount T 0 16 ((pe4 T x s).1 + 1, 0) := if_pos ⟨hz4, by assumption⟩
                have eS : prE T (peS T x s) = (sCount T 0 16 ((pe4 T x s).1 + 1, 0)) := by
                  unfold prE
                  rw [e5]
                  exact sMust_f hzf
                rw [eS] at k
                exact r_qe (r_b_f (decide_eq_false hzf)) (k M11 oww lmm hr11 (fun z => absurd z hzf))
          · have hzf : ¬ (pe4 T x s).2 = 0 := (numb_neg (by decide)).mp h5
            refine Ru_iconst (pc := 72) (nI 0) dX9_buildPerson_72 rfl ?_
            refine Ru_zret (pc := 73) dX9_buildPerson_73 rfl ⟨Nat.le_refl _, Nat.le_refl _⟩ (Or.inl rfl) ?_
            have oww : r_ow (inT u) M M6 := cw6.mn (fun o k z => by
              have z2 := z
              unfold pP at z2
              unfold inT
              omega)
            have lmm : X_lm u M6 := ow_lm hu (fun j hj => by
              unfold pP
              omega) cw6 bd
            have eS : prE T (peS T x s) = (pe4 T x s) := pe_f4 hzf
            rw [eS] at k
            exact r_qe (r_b_f (decide_eq_false hzf)) (k M6 oww lmm hr6 (fun z => absurd z hzf))
        · replace h4 := of_decide_eq_false h4
          have hzf : ¬ (pe3 T x s).2 = 0 := h4
          refine Ru_iconst (pc := 55) (nI 0) dX9_buildPerson_55 rfl ?_
          refine Ru_zret (pc := 56) dX9_buildPerson_56 rfl ⟨Nat.le_refl _, Nat.le_refl _⟩ (Or.inl rfl) ?_
          have oww : r_ow (inT u) M M5 := cw5.mn (fun o k z => by
            have z2 := z
            unfold pP at z2
            unfold inT
            omega)
          have lmm : X_lm u M5 := ow_lm hu (fun j hj => by
            unfold pP
            omega) cw5 bd
          have eS : prE T (peS T x s) = (pe3 T x s) := pe_f3 hzf
          rw [eS] at k
          exact r_qe (r_b_f (decide_eq_false hzf)) (k M5 oww lmm hr5 (fun z => absurd z hzf))
    · replace h2 := of_decide_eq_false h2
      have hzf : ¬ (pe1 T x s).2 = 0 := h2
      refine Ru_iconst (pc := 30) (nI 0) dX9_buildPerson_30 rfl ?_
      refine Ru_zret (pc := 31) dX9_buildPerson_31 rfl ⟨Nat.le_refl _, Nat.le_refl _⟩ (Or.inl rfl) ?_
      have oww : r_ow (inT u) M M3 := cw3.mn (fun o k z => by
        have z2 := z
        unfold pP at z2
        unfold inT
        omega)
      have lmm : X_lm u M3 := ow_lm hu (fun j hj => by
        unfold pP
        omega) cw3 bd
      have eS : prE T (peS T x s) = (pe1 T x s) := pe_f1 hzf
      rw [eS] at k
      exact r_qe (r_b_f (decide_eq_false hzf)) (k M3 oww lmm hr3 (fun z => absurd z hzf))
