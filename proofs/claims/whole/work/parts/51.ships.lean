-- SHIPS: FRACTIONS
def f_frac (t b : Nat) : Int64 × Int64 := (nJ (t / Nat.gcd t b), nJ (b / Nat.gcd t b))
def f_west (a u l : Int32) (fr : Int64 × Int64) : Bool × Nat × (Int64 × Int64) := if ¬ ((1 ≤ a.toInt ∧ a.toInt ≤ 24) ∧ (0 ≤ u.toInt ∧ u.toInt ≤ 99) ∧ (1 ≤ l.toInt ∧ l.toInt ≤ 99) ∧ u.toInt < l.toInt) then (false, 5, fr) else (true, 0, f_frac (a.toInt.toNat * l.toInt.toNat) (l.toInt.toNat - u.toInt.toNat))
def f_speed (a n : Int32) (fr : Int64 × Int64) : Bool × Nat × (Int64 × Int64) := if ¬ ((1 ≤ a.toInt ∧ a.toInt ≤ 24) ∧ 1 ≤ n.toInt ∧ n.toInt ≤ 9999) then (false, 5, fr) else (true, 0, f_frac (n.toInt.toNat - a.toInt.toNat) n.toInt.toNat)
def Y_fr (fr : Int64 × Int64) (M : Mem) : Prop := M.2.1 0 2 = fr.1 ∧ M.2.1 0 3 = fr.2
def X_fr (fr : Int64 × Int64) (M : Mem) : Prop := M.2.1 0 1 = fr.1 ∧ M.2.1 0 2 = fr.2
theorem Y_fr_dp (f : Int64 × Int64) : r_dp [(0, 2), (0, 3)] [] (Y_fr f) := fun M M' h p => ⟨(h 0 2 rfl).2.1.trans p.1, (h 0 3 rfl).2.1.trans p.2⟩
theorem X_fr_dp (f : Int64 × Int64) : r_dp [(0, 1), (0, 2)] [] (X_fr f) := fun M M' h p => ⟨(h 0 1 rfl).2.1.trans p.1, (h 0 2 rfl).2.1.trans p.2⟩
theorem eu_gcd (x y : Nat) : Nat.gcd y (x % y) = Nat.gcd x y := by
  rw [Nat.gcd_comm x y, Nat.gcd_rec y x, Nat.gcd_comm]
theorem eu_step {x y i : Nat} (hx : x < 10000) (hy : y < 10000) (h0 : 0 < y) (h : i = 0 ∨ (y ≤ x ∧ x * y * 2 ^ i ≤ 1073741824)) : x % y ≤ y ∧ y * (x % y) * 2 ^ (i + 1) ≤ 1073741824 := by
  refine ⟨Nat.le_of_lt (Nat.mod_lt _ h0), ?_⟩
  rcases h with h | ⟨h1, h2⟩
  · subst h
    have a : x % y ≤ x := Nat.mod_le _ _
    have b : y * (x % y) ≤ 10000 * 10000 := Nat.mul_le_mul (by omega) (by omega)
    have e : (2 : Nat) ^ (0 + 1) = 2 := rfl
    rw [e]
    omega
  · have a : 2 * (x % y) ≤ x := by
      have q0 := Nat.div_add_mod x y
      have q1 : 1 ≤ x / y := Nat.div_pos h1 h0
      have q2 := Nat.mul_le_mul_left y q1
      have q3 := Nat.mod_lt x h0
      omega
    have e : y * (x % y) * 2 ^ (i + 1) = y * (2 * (x % y)) * 2 ^ i := by
      rw [Nat.pow_succ, Nat.mul_comm (2 ^ i) 2, ← Nat.mul_assoc, Nat.mul_assoc y (x % y) 2, Nat.mul_comm (x % y) 2]
    rw [e]
    refine Nat.le_trans (Nat.mul_le_mul_right _ (Nat.mul_le_mul_left _ a)) ?_
    rw [Nat.mul_comm y x]
    exact h2
theorem eu_end {x y i : Nat} (hi : 64 ≤ i) (h : i = 0 ∨ (y ≤ x ∧ x * y * 2 ^ i ≤ 1073741824)) : y = 0 := by
  rcases h with h | ⟨h1, h2⟩
  · omega
  · rcases Nat.eq_zero_or_pos y with h3 | h3
    · exact h3
    · exfalso
      have h4 : 0 < x * y := Nat.mul_pos (by omega) h3
      have h5 : 2 ^ 64 ≤ 2 ^ i := Nat.pow_le_pow_right (by decide) hi
      have h6 : 2 ^ i ≤ x * y * 2 ^ i := Nat.le_mul_of_pos_left _ h4
      have e : (2 : Nat) ^ 64 = 18446744073709551616 := by decide
      omega
theorem r_max0 {n a : Nat} (hn : n < 100000) (ha : a < 100000) : (if (nI n - nI a).toInt ≤ (nI 0).toInt then nI 0 else nI n - nI a) = nI (n - a) := by
  have e := r_si (a := nI n) (b := nI a) (by rw [r_tn (by omega), r_tn (by omega)]; omega)
  rw [e, r_tn (by omega), r_tn (by omega), r_tn (by omega)]
  split
  · congr 1
    omega
  · apply Int32.toInt_inj.mp
    rw [e, r_tn (by omega), r_tn (by omega), r_tn (by omega)]
    omega

theorem c_J9_abs_067f4 {Q : Rq} {M : Mem} {x : Nat} (hx : x < 2147483648) (k : Q (some (.long (nJ x))) GY M) : Ca 0 mt_J9_abs_067f4 0 0 [.long (nJ x)] GY M Q := by
  refine Ca_ofF (by decide +kernel) (Nat.le_of_ble_eq_true rfl) ?_
  refine Ru_lload_n (pc := 0) dJ9_abs_067f4_0 rfl rfl ?_
  refine Ru_lconst (pc := 1) (nJ 0) dJ9_abs_067f4_1 rfl ?_
  refine Ru_lcmp (pc := 2) dJ9_abs_067f4_2 ?_
  refine Ru_if_geJ (pc := 3) 11 dJ9_abs_067f4_3 (by decide) (by omega) (fun h1 => ?_) (fun h1 => ?_)
  · refine Ru_lload_n (pc := 11) dJ9_abs_067f4_11 rfl rfl ?_
    refine Ru_lret (pc := 12) dJ9_abs_067f4_12 rfl ⟨Nat.le_refl _, Nat.le_refl _⟩ ?_
    exact k
  · exfalso; omega

theorem c_Y_max {Q : Rq} {M : Mem} {x y : Int32} (z : Int32) (hz : (if y.toInt ≤ x.toInt then x else y) = z) (k : Q (some (.int z)) GY M) : Ca 0 mt_J9_max_7cf53 0 0 [.int x, .int y] GY M Q := by
  refine Ca_ofF (by decide +kernel) (Nat.le_of_ble_eq_true rfl) ?_
  refine Ru_iload_n (pc := 0) dJ9_max_7cf53_0 rfl rfl ?_
  refine Ru_iload_n (pc := 1) dJ9_max_7cf53_1 rfl rfl ?_
  refine Ru_icmp_ltT (pc := 2) 9 dJ9_max_7cf53_2 (by decide) (fun h1 => ?_) (fun h1 => ?_)
  · refine Ru_iload_n (pc := 9) dJ9_max_7cf53_9 rfl rfl ?_
    refine Ru_iret (pc := 10) dJ9_max_7cf53_10 rfl ⟨Nat.le_refl _, Nat.le_refl _⟩ ?_
    subst hz
    refine r_qe ?_ k
    split
    all_goals first | rfl | (exfalso; omega)
  · refine Ru_iload_n (pc := 5) dJ9_max_7cf53_5 rfl rfl ?_
    refine Ru_goto (pc := 6) 10 dJ9_max_7cf53_6 (by decide) ?_
    refine Ru_iret (pc := 10) dJ9_max_7cf53_10 rfl ⟨Nat.le_refl _, Nat.le_refl _⟩ ?_
    subst hz
    refine r_qe ?_ k
    split
    all_goals first | rfl | (exfalso; omega)

theorem c_X_max {Q : Rq} {M : Mem} {x y : Int32} (z : Int32) (hz : (if y.toInt ≤ x.toInt then x else y) = z) (k : Q (some (.int z)) GX M) : Ca 0 mt_J9_max_7cf53 0 0 [.int x, .int y] GX M Q := by
  refine Ca_ofF (by decide +kernel) (Nat.le_of_ble_eq_true rfl) ?_
  refine Ru_iload_n (pc := 0) dJ9_max_7cf53_0 rfl rfl ?_
  refine Ru_iload_n (pc := 1) dJ9_max_7cf53_1 rfl rfl ?_
  refine Ru_icmp_ltT (pc := 2) 9 dJ9_max_7cf53_2 (by decide) (fun h1 => ?_) (fun h1 => ?_)
  · refine Ru_iload_n (pc := 9) dJ9_max_7cf53_9 rfl rfl ?_
    refine Ru_iret (pc := 10) dJ9_max_7cf53_10 rfl ⟨Nat.le_refl _, Nat.le_refl _⟩ ?_
    subst hz
    refine r_qe ?_ k
    split
    all_goals first | rfl | (exfalso; omega)
  · refine Ru_iload_n (pc := 5) dJ9_max_7cf53_5 rfl rfl ?_
    refine Ru_goto (pc := 6) 10 dJ9_max_7cf53_6 (by decide) ?_
    refine Ru_iret (pc := 10) dJ9_max_7cf53_10 rfl ⟨Nat.le_refl _, Nat.le_refl _⟩ ?_
    subst hz
    refine r_qe ?_ k
    split
    all_goals first | rfl | (exfalso; omega)

theorem l_X12_fraction {Q : Rq} {M : Mem} {t b : Nat} (ht : t < 10000) (hb : b < 10000) (hb0 : 0 < b) (k : Q (some (.int (nI 1))) GY (r_sJ (r_sJ M 0 2 (nJ (t / Nat.gcd t b))) 0 3 (nJ (b / Nat.gcd t b)))) : ∀ (y x : Nat), x < 10000 → y < 10000 → Nat.gcd x y = Nat.gcd t b → Ru 1 mt_X12_fraction r_z 9 [(5, some (.long (nJ x))), (7, some (.long (nJ y))), (0, some (.ref 0)), (1, some (.long (nJ t))), (3, some (.long (nJ b)))] [] GY M Q := by
  intro y
  induction y using Nat.strongRecOn with
  | ind y ih =>
    intro x hx hy e1
    refine Ru_lload (pc := 9) dX12_fraction_9 rfl ?_
    refine Ru_lconst (pc := 11) (nJ 0) dX12_fraction_11 rfl ?_
    refine Ru_lcmp (pc := 12) dX12_fraction_12 ?_
    refine Ru_if_eqJ (pc := 13) 34 dX12_fraction_13 (by decide) (by omega) (fun h1 => ?_) (fun h1 => ?_)
    · have ex : x = Nat.gcd t b := by
        rw [← e1, h1, Nat.gcd_zero_right]
      have hg := Nat.gcd_pos_of_pos_right t hb0
      subst h1
      subst ex
      refine Ru_aload_n (pc := 34) dX12_fraction_34 rfl rfl ?_
      refine Ru_lload_n (pc := 35) dX12_fraction_35 rfl rfl ?_
      refine Ru_lload (pc := 36) dX12_fraction_36 rfl ?_
      refine Ru_ldivJ (pc := 38) dX12_fraction_38 (by omega) ?_
      refine Ru_putJ (pc := 39) rfl dX12_fraction_39 fl_X12_93 rfl ?_
      refine Ru_aload_n (pc := 42) dX12_fraction_42 rfl rfl ?_
      refine Ru_lload_n (pc := 43) dX12_fraction_43 rfl rfl ?_
      refine Ru_lload (pc := 44) dX12_fraction_44 rfl ?_
      refine Ru_ldivJ (pc := 46) dX12_fraction_46 (by omega) ?_
      refine Ru_putJ (pc := 47) rfl dX12_fraction_47 fl_X12_7 rfl ?_
      refine Ru_iconst (pc := 50) (nI 1) dX12_fraction_50 rfl ?_
      refine Ru_zret (pc := 51) dX12_fraction_51 rfl ⟨Nat.le_refl _, Nat.le_refl _⟩ (Or.inr rfl) ?_
      exact k
    · refine Ru_lload (pc := 16) dX12_fraction_16 rfl ?_
      refine Ru_lload (pc := 18) dX12_fraction_18 rfl ?_
      refine Ru_lremJ (pc := 20) dX12_fraction_20 (by omega) ?_
      refine Ru_lstore (pc := 21) dX12_fraction_21 rfl (by decide) ?_
      refine Ru_lload (pc := 23) dX12_fraction_23 rfl ?_
      refine Ru_lstore (pc := 25) dX12_fraction_25 rfl (by decide) ?_
      refine Ru_lload (pc := 27) dX12_fraction_27 rfl ?_
      refine Ru_lstore (pc := 29) dX12_fraction_29 rfl (by decide) ?_
      refine Ru_goto (pc := 31) 9 dX12_fraction_31 (by decide) ?_
      refine Ru_weak (ih (x % y) (Nat.mod_lt _ (by omega)) y (by omega) (by have := Nat.mod_lt x (show 0 < y by omega); omega) ((eu_gcd x y).trans e1)) rfl

theorem c_X12_fraction {Q : Rq} {M : Mem} {t b : Nat} (ht : t < 10000) (hb : b < 10000) (hb0 : 0 < b) (k : Q (some (.int (nI 1))) GY (r_sJ (r_sJ M 0 2 (nJ (t / Nat.gcd t b))) 0 3 (nJ (b / Nat.gcd t b)))) : Ca 1 mt_X12_fraction 0 0 [.ref 0, .long (nJ t), .long (nJ b)] GY M Q := by
  refine Ca_of rfl (Nat.le_of_ble_eq_true rfl) ?_
  refine Ru_lload_n (pc := 0) dX12_fraction_0 rfl rfl ?_
  refine Ru_cs1 (pc := 1) dX12_fraction_1 ms_X12_96 (by decide) (Nat.le_of_ble_eq_true rfl) (c_J9_abs_067f4 (by omega) ?_) 
  refine Ru_lstore (pc := 4) dX12_fraction_4 rfl (by decide) ?_
  refine Ru_lload_n (pc := 6) dX12_fraction_6 rfl rfl ?_
  refine Ru_lstore (pc := 7) dX12_fraction_7 rfl (by decide) ?_
  exact Ru_weak (l_X12_fraction ht hb hb0 k b t ht hb rfl) rfl

theorem l_X11_tellFraction {Q : Rq} {M : Mem} {t b : Nat} (ht : t < 10000) (hb : b < 10000) (hb0 : 0 < b) (k : Q none GX (r_sJ (r_sJ M 0 1 (nJ (t / Nat.gcd t b))) 0 2 (nJ (b / Nat.gcd t b)))) : ∀ (w i x y : Nat), 64 - i = w → i ≤ 64 → x < 10000 → y < 10000 → Nat.gcd x y = Nat.gcd t b → (i = 0 ∨ (y ≤ x ∧ x * y * 2 ^ i ≤ 1073741824)) → Ru 0 mt_X11_tellFraction r_z 9 [(5, some (.long (nJ x))), (7, some (.long (nJ y))), (9, some (.int (nI i))), (0, some (.ref 0)), (1, some (.long (nJ t))), (3, some (.long (nJ b)))] [] GX M Q := by
  intro w
  induction w using Nat.strongRecOn with
  | ind w ih =>
    intro i x y hw hi hx hy e1 e2
    have hgb : Nat.gcd t b ≤ b := Nat.gcd_le_right t hb0
    subst hw
    refine Ru_iload (pc := 9) dX11_tellFraction_9 rfl ?_
    refine Ru_bipush (pc := 11) (nI 64) dX11_tellFraction_11 rfl ?_
    refine Ru_icmp_geN (pc := 13) 44 dX11_tellFraction_13 (by decide) (by omega) (fun h1 => ?_) (fun h1 => ?_)
    · have hy0 : y = 0 := eu_end h1 e2
      have ex : x = Nat.gcd t b := by
        rw [← e1, hy0, Nat.gcd_zero_right]
      have hg := Nat.gcd_pos_of_pos_right t hb0
      subst ex
      refine Ru_lload (pc := 44) dX11_tellFraction_44 rfl ?_
      refine Ru_lconst (pc := 46) (nJ 0) dX11_tellFraction_46 rfl ?_
      refine Ru_lcmp (pc := 47) dX11_tellFraction_47 ?_
      refine Ru_if_leJ (pc := 48) 67 dX11_tellFraction_48 (by decide) (by omega) (fun h2 => ?_) (fun h2 => ?_)
      · exfalso; omega
      · refine Ru_aload_n (pc := 51) dX11_tellFraction_51 rfl rfl ?_
        refine Ru_lload_n (pc := 52) dX11_tellFraction_52 rfl rfl ?_
        refine Ru_lload (pc := 53) dX11_tellFraction_53 rfl ?_
        refine Ru_ldivJ (pc := 55) dX11_tellFraction_55 (by omega) ?_
        refine Ru_putJ (pc := 56) rfl dX11_tellFraction_56 fl_X11_84 rfl ?_
        refine Ru_aload_n (pc := 59) dX11_tellFraction_59 rfl rfl ?_
        refine Ru_lload_n (pc := 60) dX11_tellFraction_60 rfl rfl ?_
        refine Ru_lload (pc := 61) dX11_tellFraction_61 rfl ?_
        refine Ru_ldivJ (pc := 63) dX11_tellFraction_63 (by omega) ?_
        refine Ru_putJ (pc := 64) rfl dX11_tellFraction_64 fl_X11_9 rfl ?_
        refine Ru_vret (pc := 67) dX11_tellFraction_67 rfl ⟨Nat.le_refl _, Nat.le_refl _⟩ ?_
        exact k
    · refine Ru_lload (pc := 16) dX11_tellFraction_16 rfl ?_
      refine Ru_lconst (pc := 18) (nJ 0) dX11_tellFraction_18 rfl ?_
      refine Ru_lcmp (pc := 19) dX11_tellFraction_19 ?_
      refine Ru_if_eqJ (pc := 20) 44 dX11_tellFraction_20 (by decide) (by omega) (fun h3 => ?_) (fun h3 => ?_)
      · have hy0 : y = 0 := h3
        have ex : x = Nat.gcd t b := by
          rw [← e1, hy0, Nat.gcd_zero_right]
        have hg := Nat.gcd_pos_of_pos_right t hb0
        subst ex
        refine Ru_lload (pc := 44) dX11_tellFraction_44 rfl ?_
        refine Ru_lconst (pc := 46) (nJ 0) dX11_tellFraction_46 rfl ?_
        refine Ru_lcmp (pc := 47) dX11_tellFraction_47 ?_
        refine Ru_if_leJ (pc := 48) 67 dX11_tellFraction_48 (by decide) (by omega) (fun h4 => ?_) (fun h4 => ?_)
        · exfalso; omega
        · refine Ru_aload_n (pc := 51) dX11_tellFraction_51 rfl rfl ?_
          refine Ru_lload_n (pc := 52) dX11_tellFraction_52 rfl rfl ?_
          refine Ru_lload (pc := 53) dX11_tellFraction_53 rfl ?_
          refine Ru_ldivJ (pc := 55) dX11_tellFraction_55 (by omega) ?_
          refine Ru_putJ (pc := 56) rfl dX11_tellFraction_56 fl_X11_84 rfl ?_
          refine Ru_aload_n (pc := 59) dX11_tellFraction_59 rfl rfl ?_
          refine Ru_lload_n (pc := 60) dX11_tellFraction_60 rfl rfl ?_
          refine Ru_lload (pc := 61) dX11_tellFraction_61 rfl ?_
          refine Ru_ldivJ (pc := 63) dX11_tellFraction_63 (by omega) ?_
          refine Ru_putJ (pc := 64) rfl dX11_tellFraction_64 fl_X11_9 rfl ?_
          refine Ru_vret (pc := 67) dX11_tellFraction_67 rfl ⟨Nat.le_refl _, Nat.le_refl _⟩ ?_
          exact k
      · refine Ru_lload (pc := 23) dX11_tellFraction_23 rfl ?_
        refine Ru_lload (pc := 25) dX11_tellFraction_25 rfl ?_
        refine Ru_lremJ (pc := 27) dX11_tellFraction_27 (by omega) ?_
        refine Ru_lstore (pc := 28) dX11_tellFraction_28 rfl (by decide) ?_
        refine Ru_lload (pc := 30) dX11_tellFraction_30 rfl ?_
        refine Ru_lstore (pc := 32) dX11_tellFraction_32 rfl (by decide) ?_
        refine Ru_lload (pc := 34) dX11_tellFraction_34 rfl ?_
        refine Ru_lstore (pc := 36) dX11_tellFraction_36 rfl (by decide) ?_
        refine Ru_iincN (pc := 38) 1 dX11_tellFraction_38 rfl rfl rfl (by decide) ?_
        refine Ru_goto (pc := 41) 9 dX11_tellFraction_41 (by decide) ?_
        have es := eu_step hx hy (show 0 < y by omega) e2
        exact Ru_weak (ih (64 - (i + 1)) (by omega) (i + 1) y (x % y) rfl (by omega) (by omega) (by have := Nat.mod_lt x (show 0 < y by omega); omega) ((eu_gcd x y).trans e1) (Or.inr es)) rfl

theorem c_X11_tellFraction {Q : Rq} {M : Mem} {t b : Nat} (ht : t < 10000) (hb : b < 10000) (hb0 : 0 < b) (k : Q none GX (r_sJ (r_sJ M 0 1 (nJ (t / Nat.gcd t b))) 0 2 (nJ (b / Nat.gcd t b)))) : Ca 0 mt_X11_tellFraction 0 0 [.ref 0, .long (nJ t), .long (nJ b)] GX M Q := by
  refine Ca_of rfl (Nat.le_of_ble_eq_true rfl) ?_
  refine Ru_lload_n (pc := 0) dX11_tellFraction_0 rfl rfl ?_
  refine Ru_lstore (pc := 1) dX11_tellFraction_1 rfl (by decide) ?_
  refine Ru_lload_n (pc := 3) dX11_tellFraction_3 rfl rfl ?_
  refine Ru_lstore (pc := 4) dX11_tellFraction_4 rfl (by decide) ?_
  refine Ru_iconst (pc := 6) (nI 0) dX11_tellFraction_6 rfl ?_
  refine Ru_istore (pc := 7) dX11_tellFraction_7 rfl (by decide) ?_
  exact Ru_weak (l_X11_tellFraction ht hb hb0 k 64 0 t b rfl (by omega) ht hb rfl (Or.inl rfl)) rfl
