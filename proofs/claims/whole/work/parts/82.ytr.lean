-- TRAYS: what both sides do
/-- a tray: its sort, its length (-1: none), its numbers -/
abbrev Tr : Type := Int32 × Int32 × (Nat → Int64)
def f_cut (sort : Int32) (v : Int64) : Int64 := if sort.toInt = 0 then v.toInt32.toInt8.toInt32.toInt64 else if sort.toInt = 1 then v.toInt32.toInt16.toInt32.toInt64 else if sort.toInt = 2 then v.toInt32.toInt64 else v
def f_trayed (t : Int32) (tr : Nat → Tr) : Nat := if t.toInt < 0 ∨ 4 ≤ t.toInt then 1 else if (tr t.toInt.toNat).2.1.toInt < 0 then 3 else 0
def f_placed (t k : Int32) (tr : Nat → Tr) : Nat := if 0 < f_trayed t tr then f_trayed t tr else if k.toInt < 0 ∨ (tr t.toInt.toNat).2.1.toInt ≤ k.toInt then 4 else 0
def f_tray (t s n : Int32) (tr : Nat → Tr) : Bool × Int32 × (Nat → Tr) := if t.toInt < 0 ∨ 4 ≤ t.toInt ∨ s.toInt < 0 ∨ 3 < s.toInt then (false, nI 1, tr) else if 60 < n.toInt then (false, nI 5, tr) else if n.toInt < 0 then (false, nI 6, tr) else (true, nI 0, fun j => if j = t.toInt.toNat then (s, n, fun _ => 0) else tr j)
def f_write (t k : Int32) (v : Int64) (tr : Nat → Tr) : Bool × Int32 × (Nat → Tr) := if 0 < f_placed t k tr then (false, nI (f_placed t k tr), tr) else (true, nI 0, fun j => if j = t.toInt.toNat then ((tr j).1, (tr j).2.1, fun i => if i = k.toInt.toNat then f_cut (tr j).1 v else (tr j).2.2 i) else tr j)
def f_read (t k : Int32) (tr : Nat → Tr) : Int64 × Int32 := if 0 < f_placed t k tr then (-1, nI (f_placed t k tr)) else ((tr t.toInt.toNat).2.2 k.toInt.toNat, nI 0)
theorem f_trayed_lt (t : Int32) (tr : Nat → Tr) : f_trayed t tr < 2147483648 := by
  unfold f_trayed
  repeat' split
  all_goals omega
theorem f_trayed_0 {t : Int32} {tr : Nat → Tr} (h : f_trayed t tr = 0) : (0 ≤ t.toInt ∧ t.toInt < (4 : Nat)) ∧ 0 ≤ (tr t.toInt.toNat).2.1.toInt := by
  unfold f_trayed at h
  split at h
  · cases h
  · split at h
    · cases h
    · omega
-- the reference's trays
def Y_tr (tr : Nat → Tr) (M : Mem) : Prop := ∀ t, t < 4 → M.1 1 t = (tr t).1 ∧ M.1 2 t = (tr t).2.1 ∧ (-1 ≤ (tr t).2.1.toInt ∧ (tr t).2.1.toInt ≤ 60) ∧ ∀ k : Nat, (k : Int) < (tr t).2.1.toInt → M.2.1 3 (60 * t + k) = (tr t).2.2 k
theorem Y_tr_dp (tr : Nat → Tr) : r_dp [] [1, 2, 3] (Y_tr tr) := by
  intro M M' h p t ht
  obtain ⟨a, b, c, d⟩ := p t ht
  refine ⟨(h 1 t rfl).1.trans a, (h 2 t rfl).1.trans b, c, fun k hk => (h 3 _ rfl).2.1.trans (d k hk)⟩
theorem r_tnn {n : Nat} (h : n < 2147483648) : (nI n).toInt.toNat = n := by
  rw [r_tn h]
  exact Int.toNat_natCast n
theorem c_X12_no {Q : Rq} {M : Mem} {x : Int32} (k : Q (some (.int (nI 0))) GY (r_sI M 0 0 x)) : Ca 0 mt_X12_no 0 0 [.ref 0, .int x] GY M Q := by
  refine Ca_of rfl (Nat.le_of_ble_eq_true rfl) ?_
  refine Ru_aload_n (pc := 0) dX12_no_0 rfl rfl ?_
  refine Ru_iload_n (pc := 1) dX12_no_1 rfl rfl ?_
  refine Ru_putI (pc := 2) rfl dX12_no_2 fl_X12_90 rfl ?_
  refine Ru_iconst (pc := 5) (nI 0) dX12_no_5 rfl ?_
  refine Ru_zret (pc := 6) dX12_no_6 rfl ⟨Nat.le_refl _, Nat.le_refl _⟩ (Or.inl rfl) ?_
  exact k

theorem c_X12_refuse {Q : Rq} {M : Mem} {x : Int32} (k : Q (some (.int (-1))) GY (r_sI M 0 0 x)) : Ca 0 mt_X12_refuse 0 0 [.ref 0, .int x] GY M Q := by
  refine Ca_of rfl (Nat.le_of_ble_eq_true rfl) ?_
  refine Ru_aload_n (pc := 0) dX12_refuse_0 rfl rfl ?_
  refine Ru_iload_n (pc := 1) dX12_refuse_1 rfl rfl ?_
  refine Ru_putI (pc := 2) rfl dX12_refuse_2 fl_X12_90 rfl ?_
  refine Ru_iconst (pc := 5) (-1) dX12_refuse_5 rfl ?_
  refine Ru_iret (pc := 6) dX12_refuse_6 rfl ⟨Nat.le_refl _, Nat.le_refl _⟩ ?_
  exact k

theorem c_X12_status {Q : Rq} {M : Mem} {st : Int32} (h : M.1 0 0 = st) (k : Q (some (.int st)) GY (r_sI M 0 1 (nI 0))) : Ca 0 mt_X12_status 0 0 [.ref 0] GY M Q := by
  refine Ca_of rfl (Nat.le_of_ble_eq_true rfl) ?_
  refine Ru_aload_n (pc := 0) dX12_status_0 rfl rfl ?_
  refine Ru_iconst (pc := 1) (nI 0) dX12_status_1 rfl ?_
  refine Ru_putI (pc := 2) rfl dX12_status_2 fl_X12_87 rfl ?_
  refine Ru_aload_n (pc := 5) dX12_status_5 rfl rfl ?_
  refine Ru_getI (pc := 6) dX12_status_6 fl_X12_90 rfl rfl ?_
  refine Ru_iret (pc := 9) dX12_status_9 rfl ⟨Nat.le_refl _, Nat.le_refl _⟩ ?_
  exact r_qe ((r_sI_n (by decide)).trans h) k

theorem c_X12_top {Q : Rq} {M : Mem} (k : Q (some (.long (M.2.1 0 2))) GY (r_sI M 0 1 (nI 0))) : Ca 0 mt_X12_top 0 0 [.ref 0] GY M Q := by
  refine Ca_of rfl (Nat.le_of_ble_eq_true rfl) ?_
  refine Ru_aload_n (pc := 0) dX12_top_0 rfl rfl ?_
  refine Ru_iconst (pc := 1) (nI 0) dX12_top_1 rfl ?_
  refine Ru_putI (pc := 2) rfl dX12_top_2 fl_X12_87 rfl ?_
  refine Ru_aload_n (pc := 5) dX12_top_5 rfl rfl ?_
  refine Ru_getJ (pc := 6) dX12_top_6 fl_X12_93 rfl ?_
  refine Ru_lret (pc := 9) dX12_top_9 rfl ⟨Nat.le_refl _, Nat.le_refl _⟩ ?_
  exact k

theorem c_X12_bottom {Q : Rq} {M : Mem} (k : Q (some (.long (M.2.1 0 3))) GY (r_sI M 0 1 (nI 0))) : Ca 0 mt_X12_bottom 0 0 [.ref 0] GY M Q := by
  refine Ca_of rfl (Nat.le_of_ble_eq_true rfl) ?_
  refine Ru_aload_n (pc := 0) dX12_bottom_0 rfl rfl ?_
  refine Ru_iconst (pc := 1) (nI 0) dX12_bottom_1 rfl ?_
  refine Ru_putI (pc := 2) rfl dX12_bottom_2 fl_X12_87 rfl ?_
  refine Ru_aload_n (pc := 5) dX12_bottom_5 rfl rfl ?_
  refine Ru_getJ (pc := 6) dX12_bottom_6 fl_X12_7 rfl ?_
  refine Ru_lret (pc := 9) dX12_bottom_9 rfl ⟨Nat.le_refl _, Nat.le_refl _⟩ ?_
  exact k

theorem c_X12_cut {Q : Rq} {M : Mem} {s : Int32} {v : Int64} (k : Q (some (.long (f_cut s v))) GY M) : Ca 0 mt_X12_cut 0 0 [.int s, .long v] GY M Q := by
  refine Ca_of rfl (Nat.le_of_ble_eq_true rfl) ?_
  refine Ru_iload_n (pc := 0) dX12_cut_0 rfl rfl ?_
  refine Ru_if_neT (pc := 1) 11 dX12_cut_1 (by decide) (fun h1 => ?_) (fun h1 => ?_)
  · refine Ru_iload_n (pc := 11) dX12_cut_11 rfl rfl ?_
    refine Ru_iconst (pc := 12) (nI 1) dX12_cut_12 rfl ?_
    refine Ru_icmp_neL (pc := 13) 23 dX12_cut_13 (by decide) (by omega) (fun h2 => ?_) (fun h2 => ?_)
    · refine Ru_iload_n (pc := 23) dX12_cut_23 rfl rfl ?_
      refine Ru_iconst (pc := 24) (nI 2) dX12_cut_24 rfl ?_
      refine Ru_icmp_neL (pc := 25) 34 dX12_cut_25 (by decide) (by omega) (fun h3 => ?_) (fun h3 => ?_)
      · refine Ru_lload_n (pc := 34) dX12_cut_34 rfl rfl ?_
        refine Ru_lret (pc := 35) dX12_cut_35 rfl ⟨Nat.le_refl _, Nat.le_refl _⟩ ?_
        have e : f_cut s v = v := by
          unfold f_cut
          repeat' split
          all_goals first | rfl | (exfalso; omega)
        rw [e] at k
        exact k
      · refine Ru_lload_n (pc := 28) dX12_cut_28 rfl rfl ?_
        refine Ru_l2i (pc := 29) _ dX12_cut_29 rfl ?_
        refine Ru_i2l (pc := 30) _ dX12_cut_30 rfl ?_
        refine Ru_goto (pc := 31) 35 dX12_cut_31 (by decide) ?_
        refine Ru_lret (pc := 35) dX12_cut_35 rfl ⟨Nat.le_refl _, Nat.le_refl _⟩ ?_
        have e : f_cut s v = ((v).toInt32).toInt64 := by
          unfold f_cut
          repeat' split
          all_goals first | rfl | (exfalso; omega)
        rw [e] at k
        exact k
    · refine Ru_lload_n (pc := 16) dX12_cut_16 rfl rfl ?_
      refine Ru_l2i (pc := 17) _ dX12_cut_17 rfl ?_
      refine Ru_i2s (pc := 18) _ dX12_cut_18 rfl ?_
      refine Ru_i2l (pc := 19) _ dX12_cut_19 rfl ?_
      refine Ru_goto (pc := 20) 35 dX12_cut_20 (by decide) ?_
      refine Ru_lret (pc := 35) dX12_cut_35 rfl ⟨Nat.le_refl _, Nat.le_refl _⟩ ?_
      have e : f_cut s v = (((v).toInt32).toInt16.toInt32).toInt64 := by
        unfold f_cut
        repeat' split
        all_goals first | rfl | (exfalso; omega)
      rw [e] at k
      exact k
  · refine Ru_lload_n (pc := 4) dX12_cut_4 rfl rfl ?_
    refine Ru_l2i (pc := 5) _ dX12_cut_5 rfl ?_
    refine Ru_i2b (pc := 6) _ dX12_cut_6 rfl ?_
    refine Ru_i2l (pc := 7) _ dX12_cut_7 rfl ?_
    refine Ru_goto (pc := 8) 35 dX12_cut_8 (by decide) ?_
    refine Ru_lret (pc := 35) dX12_cut_35 rfl ⟨Nat.le_refl _, Nat.le_refl _⟩ ?_
    have e : f_cut s v = (((v).toInt32).toInt8.toInt32).toInt64 := by
      unfold f_cut
      repeat' split
      all_goals first | rfl | (exfalso; omega)
    rw [e] at k
    exact k

theorem c_X12_trayed {Q : Rq} {M : Mem} {t : Int32} {tr : Nat → Tr} (hy : Y_tr tr M) (k : Q (some (.int (nI (f_trayed t tr)))) GY M) : Ca 0 mt_X12_trayed 0 0 [.ref 0, .int t] GY M Q := by
  refine Ca_of rfl (Nat.le_of_ble_eq_true rfl) ?_
  refine Ru_iload_n (pc := 0) dX12_trayed_0 rfl rfl ?_
  refine Ru_if_ltT (pc := 1) 9 dX12_trayed_1 (by decide) (fun h1 => ?_) (fun h1 => ?_)
  · refine Ru_iconst (pc := 9) (nI 1) dX12_trayed_9 rfl ?_
    refine Ru_goto (pc := 10) 27 dX12_trayed_10 (by decide) ?_
    refine Ru_iret (pc := 27) dX12_trayed_27 rfl ⟨Nat.le_refl _, Nat.le_refl _⟩ ?_
    refine r_qe (congrArg nI ?_) k
    simp only [f_trayed, f_placed]
    repeat' split
    all_goals first | rfl | (exfalso; omega)
  · refine Ru_iload_n (pc := 4) dX12_trayed_4 rfl rfl ?_
    refine Ru_iconst (pc := 5) (nI 4) dX12_trayed_5 rfl ?_
    refine Ru_icmp_ltL (pc := 6) 13 dX12_trayed_6 (by decide) (by omega) (fun h2 => ?_) (fun h2 => ?_)
    · obtain ⟨t', ht, rfl⟩ := r_nat (x := t) (n := 4) (by omega) (by decide)
      refine Ru_aload_n (pc := 13) dX12_trayed_13 rfl rfl ?_
      refine Ru_getR (pc := 14) 2 dX12_trayed_14 fl_X12_17 rfl rfl rfl ?_
      refine Ru_iload_n (pc := 17) dX12_trayed_17 rfl rfl ?_
      refine Ru_iald (pc := 18) dX12_trayed_18 rfl (by omega) ?_
      refine Ru_top (hy t' (by omega)).2.1 ?_
      refine Ru_if_geT (pc := 19) 26 dX12_trayed_19 (by decide) (fun h3 => ?_) (fun h3 => ?_)
      · refine Ru_iconst (pc := 26) (nI 0) dX12_trayed_26 rfl ?_
        refine Ru_iret (pc := 27) dX12_trayed_27 rfl ⟨Nat.le_refl _, Nat.le_refl _⟩ ?_
        refine r_qe (congrArg nI ?_) k
        simp only [f_trayed, f_placed, r_tn (show t' < 2147483648 by omega), Int.toNat_natCast]
        repeat' split
        all_goals first | rfl | (exfalso; omega)
      · refine Ru_iconst (pc := 22) (nI 3) dX12_trayed_22 rfl ?_
        refine Ru_goto (pc := 23) 27 dX12_trayed_23 (by decide) ?_
        refine Ru_iret (pc := 27) dX12_trayed_27 rfl ⟨Nat.le_refl _, Nat.le_refl _⟩ ?_
        refine r_qe (congrArg nI ?_) k
        simp only [f_trayed, f_placed, r_tn (show t' < 2147483648 by omega), Int.toNat_natCast]
        repeat' split
        all_goals first | rfl | (exfalso; omega)
    · refine Ru_iconst (pc := 9) (nI 1) dX12_trayed_9 rfl ?_
      refine Ru_goto (pc := 10) 27 dX12_trayed_10 (by decide) ?_
      refine Ru_iret (pc := 27) dX12_trayed_27 rfl ⟨Nat.le_refl _, Nat.le_refl _⟩ ?_
      refine r_qe (congrArg nI ?_) k
      simp only [f_trayed, f_placed]
      repeat' split
      all_goals first | rfl | (exfalso; omega)

theorem c_X12_placed {Q : Rq} {M : Mem} {t x : Int32} {tr : Nat → Tr} (hy : Y_tr tr M) (k : Q (some (.int (nI (f_placed t x tr)))) GY M) : Ca 1 mt_X12_placed 0 0 [.ref 0, .int t, .int x] GY M Q := by
  refine Ca_of rfl (Nat.le_of_ble_eq_true rfl) ?_
  refine Ru_aload_n (pc := 0) dX12_placed_0 rfl rfl ?_
  refine Ru_iload_n (pc := 1) dX12_placed_1 rfl rfl ?_
  refine Ru_cv1 (pc := 2) dX12_placed_2 mv_X12_106 rfl (by decide) (Nat.le_of_ble_eq_true rfl) (c_X12_trayed hy ?_) 
  refine Ru_istore_n (pc := 5) dX12_placed_5 rfl rfl (by decide) ?_
  refine Ru_iload_n (pc := 6) dX12_placed_6 rfl rfl ?_
  refine Ru_if_leN (pc := 7) 14 dX12_placed_7 (by decide) (f_trayed_lt _ _) (fun h1 => ?_) (fun h1 => ?_)
  · have h0 := f_trayed_0 h1
    obtain ⟨t', ht', rfl⟩ := r_nat h0.1 (by decide)
    refine Ru_iload_n (pc := 14) dX12_placed_14 rfl rfl ?_
    refine Ru_if_ltT (pc := 15) 28 dX12_placed_15 (by decide) (fun h2 => ?_) (fun h2 => ?_)
    · refine Ru_iconst (pc := 28) (nI 4) dX12_placed_28 rfl ?_
      refine Ru_goto (pc := 29) 33 dX12_placed_29 (by decide) ?_
      refine Ru_iret (pc := 33) dX12_placed_33 rfl ⟨Nat.le_refl _, Nat.le_refl _⟩ ?_
      refine r_qe (congrArg nI ?_) k
      unfold f_placed
      rw [r_tnn (show t' < 2147483648 by omega)] at *
      repeat' split
      all_goals first | rfl | (exfalso; omega)
    · refine Ru_iload_n (pc := 18) dX12_placed_18 rfl rfl ?_
      refine Ru_aload_n (pc := 19) dX12_placed_19 rfl rfl ?_
      refine Ru_getR (pc := 20) 2 dX12_placed_20 fl_X12_17 rfl rfl rfl ?_
      refine Ru_iload_n (pc := 23) dX12_placed_23 rfl rfl ?_
      refine Ru_iald (pc := 24) dX12_placed_24 rfl (by omega) ?_
      refine Ru_top (hy t' (by omega)).2.1 ?_
      refine Ru_icmp_ltT (pc := 25) 32 dX12_placed_25 (by decide) (fun h3 => ?_) (fun h3 => ?_)
      · refine Ru_iconst (pc := 32) (nI 0) dX12_placed_32 rfl ?_
        refine Ru_iret (pc := 33) dX12_placed_33 rfl ⟨Nat.le_refl _, Nat.le_refl _⟩ ?_
        refine r_qe (congrArg nI ?_) k
        unfold f_placed
        rw [r_tnn (show t' < 2147483648 by omega)] at *
        repeat' split
        all_goals first | rfl | (exfalso; omega)
      · refine Ru_iconst (pc := 28) (nI 4) dX12_placed_28 rfl ?_
        refine Ru_goto (pc := 29) 33 dX12_placed_29 (by decide) ?_
        refine Ru_iret (pc := 33) dX12_placed_33 rfl ⟨Nat.le_refl _, Nat.le_refl _⟩ ?_
        refine r_qe (congrArg nI ?_) k
        unfold f_placed
        rw [r_tnn (show t' < 2147483648 by omega)] at *
        repeat' split
        all_goals first | rfl | (exfalso; omega)
  · refine Ru_iload_n (pc := 10) dX12_placed_10 rfl rfl ?_
    refine Ru_goto (pc := 11) 33 dX12_placed_11 (by decide) ?_
    refine Ru_iret (pc := 33) dX12_placed_33 rfl ⟨Nat.le_refl _, Nat.le_refl _⟩ ?_
    refine r_qe (congrArg nI ?_) k
    unfold f_placed
    repeat' split
    all_goals first | rfl | (exfalso; omega)
