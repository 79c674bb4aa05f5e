-- READING: a plan, the developers' hands
theorem sw_kind : ∀ K, K < 156 → Op.lookupswitch.offset (#[(129, 45), (130, 49), (142, 43), (155, 47)] : Array (Int × Int)).toList 51 ((K : Nat) : Int) = (if K = 142 then 43 else if K = 129 then 45 else if K = 155 then 47 else if K = 130 then 49 else 51) := by decide +kernel

theorem c_X5_kindOf {Q : Rq} {M : Mem} {kk : Nat} (hk : kk < 156) (k : Q (some (.int (if kO kk = 4 then -1 else nI (kO kk)))) GX M) : Ca 0 mt_X5_kindOf 0 0 [.int (nI kk)] GX M Q := by
  refine Ca_of rfl (Nat.le_of_ble_eq_true rfl) ?_
  refine Ru_iload_n (pc := 0) dX5_kindOf_0 rfl rfl ?_
  have hs := sw_kind kk hk
  have hsw : kk = 142 ∨ kk = 129 ∨ kk = 155 ∨ kk = 130 ∨ (¬ kk = 142 ∧ ¬ kk = 129 ∧ ¬ kk = 155 ∧ ¬ kk = 130) := by omega
  rcases hsw with hK | hK | hK | hK | hK
  · subst hK
    refine Ru_lookup (pc := 1) (off := 43) 44 dX5_kindOf_1 (by decide) rfl (by decide) ?_
    refine Ru_iconst (pc := 44) (nI 0) dX5_kindOf_44 rfl ?_
    refine Ru_iret (pc := 45) dX5_kindOf_45 rfl ⟨Nat.le_refl _, Nat.le_refl _⟩ ?_
    exact k
  · subst hK
    refine Ru_lookup (pc := 1) (off := 45) 46 dX5_kindOf_1 (by decide) rfl (by decide) ?_
    refine Ru_iconst (pc := 46) (nI 1) dX5_kindOf_46 rfl ?_
    refine Ru_iret (pc := 47) dX5_kindOf_47 rfl ⟨Nat.le_refl _, Nat.le_refl _⟩ ?_
    exact k
  · subst hK
    refine Ru_lookup (pc := 1) (off := 47) 48 dX5_kindOf_1 (by decide) rfl (by decide) ?_
    refine Ru_iconst (pc := 48) (nI 2) dX5_kindOf_48 rfl ?_
    refine Ru_iret (pc := 49) dX5_kindOf_49 rfl ⟨Nat.le_refl _, Nat.le_refl _⟩ ?_
    exact k
  · subst hK
    refine Ru_lookup (pc := 1) (off := 49) 50 dX5_kindOf_1 (by decide) rfl (by decide) ?_
    refine Ru_iconst (pc := 50) (nI 3) dX5_kindOf_50 rfl ?_
    refine Ru_iret (pc := 51) dX5_kindOf_51 rfl ⟨Nat.le_refl _, Nat.le_refl _⟩ ?_
    exact k
  · rw [if_neg hK.1, if_neg hK.2.1, if_neg hK.2.2.1, if_neg hK.2.2.2] at hs
    refine Ru_lookup (pc := 1) (off := 51) 52 dX5_kindOf_1 (by decide) (by rw [r_tn (Nat.lt_trans hk (by decide))]; exact hs) (by decide) ?_
    refine Ru_iconst (pc := 52) (-1) dX5_kindOf_52 rfl ?_
    refine Ru_iret (pc := 53) dX5_kindOf_53 rfl ⟨Nat.le_refl _, Nat.le_refl _⟩ ?_
    have e : kO kk = 4 := by
      unfold kO
      rw [if_neg hK.1, if_neg hK.2.1, if_neg hK.2.2.1, if_neg hK.2.2.2]
    rw [e] at k
    exact k

theorem l_X5_tells {Q : Rq} {M : Mem} {pl h : Nat} {z : Pl9} (hp : isPlan pl) (hz : X_jb pl z M) (hz4 : ∀ j, z.2 (5 * j) ≤ 4) (hh : h ≤ 4) (k : Q (some (.int (r_b (pTold z h z.1)))) GX M) : ∀ (zw : Nat) (q : Nat), z.1 - q = zw → (q ≤ z.1) → (∀ j, j < q → ¬ z.2 (5 * j) = h) → Ru 0 mt_X5_tells r_z 2 [(0, some (.ref pl)), (1, some (.int (nI h))), (2, some (.int (nI q)))] [] GX M Q := by
  intro zw
  induction zw using Nat.strongRecOn with
  | ind zw ih =>
    intro q hw hq9 hno
    subst hw
    have hz24 := hz.2.1
    have hq4 := hz4 q
    refine Ru_iload_n (pc := 2) dX5_tells_2 rfl rfl ?_
    refine Ru_aload_n (pc := 3) dX5_tells_3 rfl rfl ?_
    refine Ru_getI (pc := 4) dX5_tells_4 fl_X5_28 (shPlan_0 hp) rfl ?_
    refine Ru_top hz.1 ?_
    refine Ru_icmp_geN (pc := 7) 28 dX5_tells_7 (by decide) (by omega) (fun h1 => ?_) (fun h1 => ?_)
    · refine Ru_iconst (pc := 28) (nI 0) dX5_tells_28 rfl ?_
      refine Ru_zret (pc := 29) dX5_tells_29 rfl ⟨Nat.le_refl _, Nat.le_refl _⟩ (Or.inl rfl) ?_
      exact r_qe (r_b_f (pTold_n (fun j hj => hno j (by omega)))) k
    · refine Ru_aload_n (pc := 10) dX5_tells_10 rfl rfl ?_
      refine Ru_getR (pc := 11) (pl + 1) dX5_tells_11 fl_X5_9 (shPlan_0 hp) rfl (rfX_of (o := pl) (j := 1) (shPlan_0 hp) rfl) ?_
      refine Ru_iload_n (pc := 14) dX5_tells_14 rfl rfl ?_
      refine Ru_iald (pc := 15) dX5_tells_15 (shPlan_1 hp) (by omega) ?_
      refine Ru_top ((hz.2.2 q (by omega)).1) ?_
      refine Ru_iload_n (pc := 16) dX5_tells_16 rfl rfl ?_
      refine Ru_icmp_neN (pc := 17) 22 dX5_tells_17 (by decide) (by omega) (fun h2 => ?_) (fun h2 => ?_)
      · refine Ru_iincN (pc := 22) 1 dX5_tells_22 rfl rfl rfl (by decide) ?_
        refine Ru_goto (pc := 25) 2 dX5_tells_25 (by decide) ?_
        refine Ru_weak (ih (z.1 - (q + 1)) (by omega) (q + 1) rfl (by omega) (fun j hj => ?_)) rfl
        by_cases e : j = q
        · rw [e]
          assumption
        · exact hno j (by omega)
      · refine Ru_iconst (pc := 20) (nI 1) dX5_tells_20 rfl ?_
        refine Ru_zret (pc := 21) dX5_tells_21 rfl ⟨Nat.le_refl _, Nat.le_refl _⟩ (Or.inr rfl) ?_
        exact r_qe (r_b_t (pTold_y (j := q) (by omega) (by assumption))) k

theorem c_X5_tells {Q : Rq} {M : Mem} {pl h : Nat} {z : Pl9} (hp : isPlan pl) (hz : X_jb pl z M) (hz4 : ∀ j, z.2 (5 * j) ≤ 4) (hh : h ≤ 4) (k : Q (some (.int (r_b (pTold z h z.1)))) GX M) : Ca 0 mt_X5_tells 0 0 [.ref pl, .int (nI h)] GX M Q := by
  refine Ca_of rfl (Nat.le_of_ble_eq_true rfl) ?_
  refine Ru_iconst (pc := 0) (nI 0) dX5_tells_0 rfl ?_
  refine Ru_istore_n (pc := 1) dX5_tells_1 rfl rfl (by decide) ?_
  exact Ru_weak (l_X5_tells hp hz hz4 hh k z.1 0 rfl (Nat.zero_le _) (fun j hj => absurd hj (Nat.not_lt_zero _))) rfl
