-- THE CLASS's TRAYS
def trA : List Nat := [75, 76, 77, 78, 79, 80, 81, 82]
theorem isTray_of {t : Nat} (h : t < 4) : isTray (75 + 2 * t) := by
  unfold isTray
  omega
theorem tr_in {F : List (Nat × Nat)} {o : Nat} (h : isTray o) (k : Nat) : r_in F trA o k = true ∧ r_in F trA (o + 1) k = true := by
  rcases h with rfl | rfl | rfl | rfl <;> exact ⟨rfl, rfl⟩
def X_tr (tr : Nat → Tr) (M : Mem) : Prop := ∀ t, t < 4 → M.2.2 1 t = some (75 + 2 * t) ∧ M.1 (75 + 2 * t) 0 = (tr t).1 ∧ M.1 (75 + 2 * t) 1 = (tr t).2.1 ∧ (-1 ≤ (tr t).2.1.toInt ∧ (tr t).2.1.toInt ≤ 60) ∧ ∀ k : Nat, (k : Int) < (tr t).2.1.toInt → M.2.1 (75 + 2 * t + 1) k = (tr t).2.2 k
theorem X_tr_dp (tr : Nat → Tr) : r_dp [] (1 :: trA) (X_tr tr) := by
  intro M M' h p t ht
  obtain ⟨a, b, c, d, e⟩ := p t ht
  have i1 : ∀ k, r_in [] (1 :: trA) (75 + 2 * t) k = true ∧ r_in [] (1 :: trA) (75 + 2 * t + 1) k = true := by
    intro k
    have h1 := tr_in (F := []) (isTray_of ht) k
    have h2 : ∀ o, r_in [] trA o k = true → r_in [] (1 :: trA) o k = true := by
      intro o ho
      simp only [r_in, List.contains_nil, Bool.or_false] at ho ⊢
      rw [List.contains_cons, ho, Bool.or_true]
    exact ⟨h2 _ h1.1, h2 _ h1.2⟩
  exact ⟨(h 1 t rfl).2.2.trans a, (h _ _ (i1 0).1).1.trans b, (h _ _ (i1 1).1).1.trans c, d, fun k hk => (h _ _ (i1 k).2).2.1.trans (e k hk)⟩

theorem c_X11_refuse {Q : Rq} {M : Mem} {x : Int32} (k : Q (some (.int (nI 0))) GX (r_sI M 0 0 x)) : Ca 0 mt_X11_refuse 0 0 [.ref 0, .int x] GX M Q := by
  refine Ca_of rfl (Nat.le_of_ble_eq_true rfl) ?_
  refine Ru_aload_n (pc := 0) dX11_refuse_0 rfl rfl ?_
  refine Ru_iload_n (pc := 1) dX11_refuse_1 rfl rfl ?_
  refine Ru_putI (pc := 2) rfl dX11_refuse_2 fl_X11_80 rfl ?_
  refine Ru_iconst (pc := 5) (nI 0) dX11_refuse_5 rfl ?_
  refine Ru_zret (pc := 6) dX11_refuse_6 rfl ⟨Nat.le_refl _, Nat.le_refl _⟩ (Or.inl rfl) ?_
  exact k

theorem c_X11_fail {Q : Rq} {M : Mem} {x : Int32} (k : Q (some (.int (-1))) GX (r_sI M 0 0 x)) : Ca 0 mt_X11_fail 0 0 [.ref 0, .int x] GX M Q := by
  refine Ca_of rfl (Nat.le_of_ble_eq_true rfl) ?_
  refine Ru_aload_n (pc := 0) dX11_fail_0 rfl rfl ?_
  refine Ru_iload_n (pc := 1) dX11_fail_1 rfl rfl ?_
  refine Ru_putI (pc := 2) rfl dX11_fail_2 fl_X11_80 rfl ?_
  refine Ru_iconst (pc := 5) (-1) dX11_fail_5 rfl ?_
  refine Ru_iret (pc := 6) dX11_fail_6 rfl ⟨Nat.le_refl _, Nat.le_refl _⟩ ?_
  exact k

theorem c_X11_accept {Q : Rq} {M : Mem} (k : Q (some (.int (nI 1))) GX (r_sI M 0 0 (nI 0))) : Ca 0 mt_X11_accept 0 0 [.ref 0] GX M Q := by
  refine Ca_of rfl (Nat.le_of_ble_eq_true rfl) ?_
  refine Ru_aload_n (pc := 0) dX11_accept_0 rfl rfl ?_
  refine Ru_iconst (pc := 1) (nI 0) dX11_accept_1 rfl ?_
  refine Ru_putI (pc := 2) rfl dX11_accept_2 fl_X11_80 rfl ?_
  refine Ru_iconst (pc := 5) (nI 1) dX11_accept_5 rfl ?_
  refine Ru_zret (pc := 6) dX11_accept_6 rfl ⟨Nat.le_refl _, Nat.le_refl _⟩ (Or.inr rfl) ?_
  exact k

theorem c_X11_tell {Q : Rq} {M : Mem} {x : Int32} (k : Q (some (.int x)) GX (r_sI M 0 0 (nI 0))) : Ca 0 mt_X11_tell 0 0 [.ref 0, .int x] GX M Q := by
  refine Ca_of rfl (Nat.le_of_ble_eq_true rfl) ?_
  refine Ru_aload_n (pc := 0) dX11_tell_0 rfl rfl ?_
  refine Ru_iconst (pc := 1) (nI 0) dX11_tell_1 rfl ?_
  refine Ru_putI (pc := 2) rfl dX11_tell_2 fl_X11_80 rfl ?_
  refine Ru_iload_n (pc := 5) dX11_tell_5 rfl rfl ?_
  refine Ru_iret (pc := 6) dX11_tell_6 rfl ⟨Nat.le_refl _, Nat.le_refl _⟩ ?_
  exact k

theorem c_X11_status {Q : Rq} {M : Mem} {st : Int32} (h : M.1 0 0 = st) (k : Q (some (.int st)) GX M) : Ca 0 mt_X11_status 0 0 [.ref 0] GX M Q := by
  refine Ca_of rfl (Nat.le_of_ble_eq_true rfl) ?_
  refine Ru_aload_n (pc := 0) dX11_status_0 rfl rfl ?_
  refine Ru_getI (pc := 1) dX11_status_1 fl_X11_80 rfl rfl ?_
  refine Ru_iret (pc := 4) dX11_status_4 rfl ⟨Nat.le_refl _, Nat.le_refl _⟩ ?_
  exact r_qe h k

theorem c_X11_top {Q : Rq} {M : Mem} (k : Q (some (.long (M.2.1 0 1))) GX M) : Ca 0 mt_X11_top 0 0 [.ref 0] GX M Q := by
  refine Ca_of rfl (Nat.le_of_ble_eq_true rfl) ?_
  refine Ru_aload_n (pc := 0) dX11_top_0 rfl rfl ?_
  refine Ru_getJ (pc := 1) dX11_top_1 fl_X11_84 rfl ?_
  refine Ru_lret (pc := 4) dX11_top_4 rfl ⟨Nat.le_refl _, Nat.le_refl _⟩ ?_
  exact k

theorem c_X11_bottom {Q : Rq} {M : Mem} (k : Q (some (.long (M.2.1 0 2))) GX M) : Ca 0 mt_X11_bottom 0 0 [.ref 0] GX M Q := by
  refine Ca_of rfl (Nat.le_of_ble_eq_true rfl) ?_
  refine Ru_aload_n (pc := 0) dX11_bottom_0 rfl rfl ?_
  refine Ru_getJ (pc := 1) dX11_bottom_1 fl_X11_9 rfl ?_
  refine Ru_lret (pc := 4) dX11_bottom_4 rfl ⟨Nat.le_refl _, Nat.le_refl _⟩ ?_
  exact k

theorem c_X11_isTray {Q : Rq} {M : Mem} {t : Int32} (k : Q (some (.int (r_b (decide (0 ≤ t.toInt ∧ t.toInt < 4))))) GX M) : Ca 0 mt_X11_isTray 0 0 [.ref 0, .int t] GX M Q := by
  refine Ca_of rfl (Nat.le_of_ble_eq_true rfl) ?_
  refine Ru_iload_n (pc := 0) dX11_isTray_0 rfl rfl ?_
  refine Ru_if_ltT (pc := 1) 17 dX11_isTray_1 (by decide) (fun h1 => ?_) (fun h1 => ?_)
  · refine Ru_iconst (pc := 17) (nI 0) dX11_isTray_17 rfl ?_
    refine Ru_zret (pc := 18) dX11_isTray_18 rfl ⟨Nat.le_refl _, Nat.le_refl _⟩ (Or.inl rfl) ?_
    refine r_qe (r_b_f ?_) k
    exact decide_eq_false (by omega)
  · refine Ru_iload_n (pc := 4) dX11_isTray_4 rfl rfl ?_
    refine Ru_aload_n (pc := 5) dX11_isTray_5 rfl rfl ?_
    refine Ru_getR (pc := 6) 1 dX11_isTray_6 fl_X11_15 rfl rfl (rfX_of (o := 0) (j := 1) rfl rfl) ?_
    refine Ru_alen (pc := 9) dX11_isTray_9 rfl (by decide) ?_
    refine Ru_icmp_geL (pc := 10) 17 dX11_isTray_10 (by decide) (by omega) (fun h2 => ?_) (fun h2 => ?_)
    · refine Ru_iconst (pc := 17) (nI 0) dX11_isTray_17 rfl ?_
      refine Ru_zret (pc := 18) dX11_isTray_18 rfl ⟨Nat.le_refl _, Nat.le_refl _⟩ (Or.inl rfl) ?_
      refine r_qe (r_b_f ?_) k
      exact decide_eq_false (by omega)
    · refine Ru_iconst (pc := 13) (nI 1) dX11_isTray_13 rfl ?_
      refine Ru_goto (pc := 14) 18 dX11_isTray_14 (by decide) ?_
      refine Ru_zret (pc := 18) dX11_isTray_18 rfl ⟨Nat.le_refl _, Nat.le_refl _⟩ (Or.inr rfl) ?_
      refine r_qe (r_b_t ?_) k
      exact decide_eq_true (by omega)

theorem c_X10_isMissing {Q : Rq} {M : Mem} {o : Nat} {len : Int32} (ho : isTray o) (hl : M.1 o 1 = len) (k : Q (some (.int (r_b (decide (len.toInt = -1))))) GX M) : Ca 0 mt_X10_isMissing 0 0 [.ref o] GX M Q := by
  refine Ca_of rfl (Nat.le_of_ble_eq_true rfl) ?_
  have em : (-1 : Int32).toInt = -1 := rfl
  refine Ru_aload_n (pc := 0) dX10_isMissing_0 rfl rfl ?_
  refine Ru_getI (pc := 1) dX10_isMissing_1 fl_X10_9 (shTray_0 ho) rfl ?_
  refine Ru_top hl ?_
  refine Ru_iconst (pc := 4) (-1) dX10_isMissing_4 rfl ?_
  refine Ru_icmp_neT (pc := 5) 12 dX10_isMissing_5 (by decide) (fun h1 => ?_) (fun h1 => ?_)
  · refine Ru_iconst (pc := 12) (nI 0) dX10_isMissing_12 rfl ?_
    refine Ru_zret (pc := 13) dX10_isMissing_13 rfl ⟨Nat.le_refl _, Nat.le_refl _⟩ (Or.inl rfl) ?_
    refine r_qe (r_b_f ?_) k
    exact decide_eq_false (by omega)
  · refine Ru_iconst (pc := 8) (nI 1) dX10_isMissing_8 rfl ?_
    refine Ru_goto (pc := 9) 13 dX10_isMissing_9 (by decide) ?_
    refine Ru_zret (pc := 13) dX10_isMissing_13 rfl ⟨Nat.le_refl _, Nat.le_refl _⟩ (Or.inr rfl) ?_
    refine r_qe (r_b_t ?_) k
    exact decide_eq_true (by omega)

theorem c_X10_has {Q : Rq} {M : Mem} {o : Nat} {x len : Int32} (ho : isTray o) (hl : M.1 o 1 = len) (k : Q (some (.int (r_b (decide (0 ≤ x.toInt ∧ x.toInt < len.toInt))))) GX M) : Ca 0 mt_X10_has 0 0 [.ref o, .int x] GX M Q := by
  refine Ca_of rfl (Nat.le_of_ble_eq_true rfl) ?_
  refine Ru_iload_n (pc := 0) dX10_has_0 rfl rfl ?_
  refine Ru_if_ltT (pc := 1) 16 dX10_has_1 (by decide) (fun h1 => ?_) (fun h1 => ?_)
  · refine Ru_iconst (pc := 16) (nI 0) dX10_has_16 rfl ?_
    refine Ru_zret (pc := 17) dX10_has_17 rfl ⟨Nat.le_refl _, Nat.le_refl _⟩ (Or.inl rfl) ?_
    refine r_qe (r_b_f ?_) k
    exact decide_eq_false (by omega)
  · refine Ru_iload_n (pc := 4) dX10_has_4 rfl rfl ?_
    refine Ru_aload_n (pc := 5) dX10_has_5 rfl rfl ?_
    refine Ru_getI (pc := 6) dX10_has_6 fl_X10_9 (shTray_0 ho) rfl ?_
    refine Ru_top hl ?_
    refine Ru_icmp_geT (pc := 9) 16 dX10_has_9 (by decide) (fun h2 => ?_) (fun h2 => ?_)
    · refine Ru_iconst (pc := 16) (nI 0) dX10_has_16 rfl ?_
      refine Ru_zret (pc := 17) dX10_has_17 rfl ⟨Nat.le_refl _, Nat.le_refl _⟩ (Or.inl rfl) ?_
      refine r_qe (r_b_f ?_) k
      exact decide_eq_false (by omega)
    · refine Ru_iconst (pc := 12) (nI 1) dX10_has_12 rfl ?_
      refine Ru_goto (pc := 13) 17 dX10_has_13 (by decide) ?_
      refine Ru_zret (pc := 17) dX10_has_17 rfl ⟨Nat.le_refl _, Nat.le_refl _⟩ (Or.inr rfl) ?_
      refine r_qe (r_b_t ?_) k
      exact decide_eq_true (by omega)
