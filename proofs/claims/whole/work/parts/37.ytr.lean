-- TRAYS: what both sides do
/-- a tray: its sort, its length (-1: none), its numbers -/
abbrev Tr : Type := Int32 × Int32 × (Nat → Int64)
def f_cut (sort : Int32) (v : Int64) : Int64 := if sort.toInt = 0 then v.toInt32.toInt8.toInt32.toInt64 else if sort.toInt = 1 then v.toInt32.toInt16.toInt32.toInt64 else if sort.toInt = 2 then v.toInt32.toInt64 else v
def f_trayed (t : Int32) (tr : Nat → Tr) : Nat := if t.toInt < 0 ∨ 4 ≤ t.toInt then 1 else if (tr t.toInt.toNat).2.1.toInt < 0 then 3 else 0
def f_placed (t k : Int32) (tr : Nat → Tr) : Nat := if 0 < f_trayed t tr then f_trayed t tr else if k.toInt < 0 ∨ (tr t.toInt.toNat).2.1.toInt ≤ k.toInt then 4 else 0
def f_tray (t s n : Int32) (tr : Nat → Tr) : Bool × Int32 × (Nat → Tr) := if t.toInt < 0 ∨ 4 ≤ t.toInt ∨ s.toInt < 0 ∨ 3 < s.toInt then (false, nI 1, tr) else if 60 < n.toInt then (false, nI 5, tr) else if n.toInt < 0 then (false, nI 6, tr) else (true, nI 0, fun j => if j = t.toInt.toNat then (s, n, fun _ => 0) else tr j)
def f_write (t k : Int32) (v : Int64) (tr : Nat → Tr) : Bool × Int32 × (Nat → Tr) := if 0 < f_placed t k tr then (false, nI (f_placed t k tr), tr) else (true, nI 0, fun j => if j = t.toInt.toNat then ((tr j).1, (tr j).2.1, fun i => if i = k.toInt.toNat then f_cut (tr j).1 v else (tr j).2.2 i) else tr j)
def f_read (t k : Int32) (tr : Nat → Tr) : Int64 × Int32 := if 0 < f_placed t k tr then (-1, nI (f_placed t k tr)) else ((tr t.toInt.toNat).2.2 k.toInt.toNat, nI 0)
theorem f_trayed_lt (t : Int32) (tr : Nat → Tr) : f_trayed t tr < 2147483648 := by
  unfold f_trayed
  repeat' split
  all_goals omega
theorem f_trayed_0 {t : Int32} {tr : Nat → Tr} (h : f_trayed t tr = 0) : (0 ≤ t.toInt ∧ t.toInt < (4 : Nat)) ∧ 0 ≤ (tr t.toInt.toNat).2.1.toInt := by
  unfold f_trayed at h
  split at h
  · cases h
  · split at h
    · cases h
    · omega
-- the reference's trays
def Y_tr (tr : Nat → Tr) (M : Mem) : Prop := ∀ t, t < 4 → M.1 1 t = (tr t).1 ∧ M.1 2 t = (tr t).2.1 ∧ (-1 ≤ (tr t).2.1.toInt ∧ (tr t).2.1.toInt ≤ 60) ∧ ∀ k : Nat, (k : Int) < (tr t).2.1.toInt → M.2.1 3 (60 * t + k) = (tr t).2.2 k
theorem Y_tr_dp (tr : Nat → Tr) : r_dp [] [1, 2, 3] (Y_tr tr) := by
  intro M M' h p t ht
  obtain ⟨a, b, c, d⟩ := p t ht
  refine ⟨(h 1 t rfl).1.trans a, (h 2 t rfl).1.trans b, c, fun k hk => (h 3 _ rfl).2.1.trans (d k hk)⟩
theorem r_tnn {n : Nat} (h : n < 2147483648) : (nI n).toInt.toNat = n := by
  rw [r_tn h]
  exact Int.toNat_natCast n
theorem c_X12_no {Q : Rq} {M : Mem} {x : Int32} (k : Q (some (.int (nI 0))) GY (r_sI M 0 0 x)) : Ca 0 mt_X12_no 0 0 [.ref 0, .int x] GY M Q := by
  refine Ca_of rfl (Nat.le_of_ble_eq_true rfl) ?_
  refine Ru_aload_n (pc := 0) dX12_no_0 rfl rfl ?_
  refine Ru_iload_n (pc := 1) dX12_no_1 rfl rfl ?_
  refine Ru_putI (pc := 2) rfl dX12_no_2 fl_X12_90 rfl ?_
  refine Ru_iconst (pc := 5) (nI 0) dX12_no_5 rfl ?_
  refine Ru_zret (pc := 6) dX12_no_6 rfl ⟨Nat.le_refl _, Nat.le_refl _⟩ (Or.inl rfl) ?_
  exact k

theorem c_X12_refuse {Q : Rq} {M : Mem} {x : Int32} (k : Q (some (.int (-1))) GY (r_sI M 0 0 x)) : Ca 0 mt_X12_refuse 0 0 [.ref 0, .int x] GY M Q := by
  refine Ca_of rfl (Nat.le_of_ble_eq_true rfl) ?_
  refine Ru_aload_n (pc := 0) dX12_refuse_0 rfl rfl ?_
  refine Ru_iload_n (pc := 1) dX12_refuse_1 rfl rfl ?_
  refine Ru_putI (pc := 2) rfl dX12_refuse_2 fl_X12_90 rfl ?_
  refine Ru_iconst (pc := 5) (-1) dX12_refuse_5 rfl ?_
  refine Ru_iret (pc := 6) dX12_refuse_6 rfl ⟨Nat.le_refl _, Nat.le_refl _⟩ ?_
  exact k

theorem c_X12_status {Q : Rq} {M : Mem} {st : Int32} (h : M.1 0 0 = st) (k : Q (some (.int st)) GY (r_sI M 0 1 (nI 0))) : Ca 0 mt_X12_status 0 0 [.ref 0] GY M Q := by
  refine Ca_of rfl (Nat.le_of_ble_eq_true rfl) ?_
  refine Ru_aload_n (pc := 0) dX12_status_0 rfl rfl ?_
  refine Ru_iconst (pc := 1) (nI 0) dX12_status_1 rfl ?_
  refine Ru_putI (pc := 2) rfl dX12_status_2 fl_X12_87 rfl ?_
  refine Ru_aload_n (pc := 5) dX12_status_5 rfl rfl ?_
  refine Ru_getI (pc := 6) dX12_status_6 fl_X12_90 rfl rfl ?_
  refine Ru_iret (pc := 9) dX12_status_9 rfl ⟨Nat.le_refl _, Nat.le_refl _⟩ ?_
  exact r_qe ((r_sI_n (by decide)).trans h) k

theorem c_X12_top {Q : Rq} {M : Mem} (k : Q (some (.long (M.2.1 0 2))) GY (r_sI M 0 1 (nI 0))) : Ca 0 mt_X12_top 0 0 [.ref 0] GY M Q := by
  refine Ca_of rfl (Nat.le_of_ble_eq_true rfl) ?_
  refine Ru_aload_n (pc := 0) dX12_top_0 rfl rfl ?_
  refine Ru_iconst (pc := 1) (nI 0) dX12_top_1 rfl ?_
  refine Ru_putI (pc := 2) rfl dX12_top_2 fl_X12_87 rfl ?_
  refine Ru_aload_n (pc := 5) dX12_top_5 rfl rfl ?_
  refine Ru_getJ (pc := 6) dX12_top_6 fl_X12_93 rfl ?_
  refine Ru_lret (pc := 9) dX12_top_9 rfl ⟨Nat.le_refl _, Nat.le_refl _⟩ ?_
  exact k

theorem c_X12_bottom {Q : Rq} {M : Mem} (k : Q (some (.long (M.2.1 0 3))) GY (r_sI M 0 1 (nI 0))) : Ca 0 mt_X12_bottom 0 0 [.ref 0] GY M Q := by
  refine Ca_of rfl (Nat.le_of_ble_eq_true rfl) ?_
  refine Ru_aload_n (pc := 0) dX12_bottom_0 rfl rfl ?_
  refine Ru_iconst (pc := 1) (nI 0) dX12_bottom_1 rfl ?_
  refine Ru_putI (pc := 2) rfl dX12_bottom_2 fl_X12_87 rfl ?_
  refine Ru_aload_n (pc := 5) dX12_bottom_5 rfl rfl ?_
  refine Ru_getJ (pc := 6) dX12_bottom_6 fl_X12_7 rfl ?_
  refine Ru_lret (pc := 9) dX12_bottom_9 rfl ⟨Nat.le_refl _, Nat.le_refl _⟩ ?_
  exact k

theorem c_X12_cut {Q : Rq} {M : Mem} {s : Int32} {v : Int64} (k : Q (some (.long (f_cut s v))) GY M) : Ca 0 mt_X12_cut 0 0 [.int s, .long v] GY M Q := by
  refine Ca_of rfl (Nat.le_of_ble_eq_true rfl) ?_
  refine Ru_iload_n (pc := 0) dX12_cut_0 rfl rfl ?_
  refine Ru_if_neT (pc := 1) 11 dX12_cut_1 (by decide) (fun h1 => ?_) (fun h1 => ?_)
  · refine Ru_iload_n (pc := 11) dX12_cut_11 rfl rfl ?_
    refine Ru_iconst (pc := 12) (nI 1) dX12_cut_12 rfl ?_
    refine Ru_icmp_neL (pc := 13) 23 dX12_cut_13 (by decide) (by omega) (fun h2 => ?_) (fun h2 => ?_)
    · refine Ru_iload_n (pc := 23) dX12_cut_23 rfl rfl ?_
      refine Ru_iconst (pc := 24) (nI 2) dX12_cut_24 rfl ?_
      refine Ru_icmp_neL (pc := 25) 34 dX12_cut_25 (by decide) (by omega) (fun h3 => ?_) (fun h3 => ?_)
      · refine Ru_lload_n (pc := 34) dX12_cut_34 rfl rfl ?_
        refine Ru_lret (pc := 35) dX12_cut_35 rfl ⟨Nat.le_refl _, Nat.le_refl _⟩ ?_
        have e : f_cut s v = v := by
          unfold f_cut
          repeat' split
          all_goals first | rfl | (exfalso; omega)
        rw [e] at k
        exact k
      · refine Ru_lload_n (pc := 28) dX12_cut_28 rfl rfl ?_
        refine Ru_l2i (pc := 29) _ dX12_cut_29 rfl ?_
        refine Ru_i2l (pc := 30) _ dX12_cut_30 rfl ?_
        refine Ru_goto (pc := 31) 35 dX12_cut_31 (by decide) ?_
        refine Ru_lret (pc := 35) dX12_cut_35 rfl ⟨Nat.le_refl _, Nat.le_refl _⟩ ?_
        have e : f_cut s v = ((v).toInt32).toInt64 := by
          unfold f_cut
          repeat' split
          all_goals first | rfl | (exfalso; omega)
        rw [e] at k
        exact k
    · refine Ru_lload_n (pc := 16) dX12_cut_16 rfl rfl ?_
      refine Ru_l2i (pc := 17) _ dX12_cut_17 rfl ?_
      refine Ru_i2s (pc := 18) _ dX12_cut_18 rfl ?_
      refine Ru_i2l (pc := 19) _ dX12_cut_19 rfl ?_
      refine Ru_goto (pc := 20) 35 dX12_cut_20 (by decide) ?_
      refine Ru_lret (pc := 35) dX12_cut_35 rfl ⟨Nat.le_refl _, Nat.le_refl _⟩ ?_
      have e : f_cut s v = (((v).toInt32).toInt16.toInt32).toInt64 := by
        unfold f_cut
        repeat' split
        all_goals first | rfl | (exfalso; omega)
      rw [e] at k
      exact k
  · refine Ru_lload_n (pc := 4) dX12_cut_4 rfl rfl ?_
    refine Ru_l2i (pc := 5) _ dX12_cut_5 rfl ?_
    refine Ru_i2b (pc := 6) _ dX12_cut_6 rfl ?_
    refine Ru_i2l (pc := 7) _ dX12_cut_7 rfl ?_
    refine Ru_goto (pc := 8) 35 dX12_cut_8 (by decide) ?_
    refine Ru_lret (pc := 35) dX12_cut_35 rfl ⟨Nat.le_refl _, Nat.le_refl _⟩ ?_
    have e : f_cut s v = (((v).toInt32).toInt8.toInt32).toInt64 := by
      unfold f_cut
      repeat' split
      all_goals first | rfl | (exfalso; omega)
    rw [e] at k
    exact k

theorem c_X12_trayed {Q : Rq} {M : Mem} {t : Int32} {tr : Nat → Tr} (hy : Y_tr tr M) (k : Q (some (.int (nI (f_trayed t tr)))) GY M) : Ca 0 mt_X12_trayed 0 0 [.ref 0, .int t] GY M Q := by
  refine Ca_of rfl (Nat.le_of_ble_eq_true rfl) ?_
  refine Ru_iload_n (pc := 0) dX12_trayed_0 rfl rfl ?_
  refine Ru_if_ltT (pc := 1) 9 dX12_trayed_1 (by decide) (fun h1 => ?_) (fun h1 => ?_)
  · refine Ru_iconst (pc := 9) (nI 1) dX12_trayed_9 rfl ?_
    refine Ru_goto (pc := 10) 27 dX12_trayed_10 (by decide) ?_
    refine Ru_iret (pc := 27) dX12_trayed_27 rfl ⟨Nat.le_refl _, Nat.le_refl _⟩ ?_
    refine r_qe (congrArg nI ?_) k
    simp only [f_trayed, f_placed]
    repeat' split
    all_goals first | rfl | (exfalso; omega)
  · refine Ru_iload_n (pc := 4) dX12_trayed_4 rfl rfl ?_
    refine Ru_iconst (pc := 5) (nI 4) dX12_trayed_5 rfl ?_
    refine Ru_icmp_ltL (pc := 6) 13 dX12_trayed_6 (by decide) (by omega) (fun h2 => ?_) (fun h2 => ?_)
    · obtain ⟨t', ht, rfl⟩ := r_nat (x := t) (n := 4) (by omega) (by decide)
      refine Ru_aload_n (pc := 13) dX12_trayed_13 rfl rfl ?_
      refine Ru_getR (pc := 14) 2 dX12_trayed_14 fl_X12_17 rfl rfl rfl ?_
      refine Ru_iload_n (pc := 17) dX12_trayed_17 rfl rfl ?_
      refine Ru_iald (pc := 18) dX12_trayed_18 rfl (by omega) ?_
      refine Ru_top (hy t' (by omega)).2.1 ?_
      refine Ru_if_geT (pc := 19) 26 dX12_trayed_19 (by decide) (fun h3 => ?_) (fun h3 => ?_)
      · refine Ru_iconst (pc := 26) (nI 0) dX12_trayed_26 rfl ?_
        refine Ru_iret (pc := 27) dX12_trayed_27 rfl ⟨Nat.le_refl _, Nat.le_refl _⟩ ?_
        refine r_qe (congrArg nI ?_) k
        simp only [f_trayed, f_placed, r_tn (show t' < 2147483648 by omega), Int.toNat_natCast]
        repeat' split
        all_goals first | rfl | (exfalso; omega)
      · refine Ru_iconst (pc := 22) (nI 3) dX12_trayed_22 rfl ?_
        refine Ru_goto (pc := 23) 27 dX12_trayed_23 (by decide) ?_
        refine Ru_iret (pc := 27) dX12_trayed_27 rfl ⟨Nat.le_refl _, Nat.le_refl _⟩ ?_
        refine r_qe (congrArg nI ?_) k
        simp only [f_trayed, f_placed, r_tn (show t' < 2147483648 by omega), Int.toNat_natCast]
        repeat' split
        all_goals first | rfl | (exfalso; omega)
    · refine Ru_iconst (pc := 9) (nI 1) dX12_trayed_9 rfl ?_
      refine Ru_goto (pc := 10) 27 dX12_trayed_10 (by decide) ?_
      refine Ru_iret (pc := 27) dX12_trayed_27 rfl ⟨Nat.le_refl _, Nat.le_refl _⟩ ?_
      refine r_qe (congrArg nI ?_) k
      simp only [f_trayed, f_placed]
      repeat' split
      all_goals first | rfl | (exfalso; omega)

theorem c_X12_placed {Q : Rq} {M : Mem} {t x : Int32} {tr : Nat → Tr} (hy : Y_tr tr M) (k : Q (some (.int (nI (f_placed t x tr)))) GY M) : Ca 1 mt_X12_placed 0 0 [.ref 0, .int t, .int x] GY M Q := by
  refine Ca_of rfl (Nat.le_of_ble_eq_true rfl) ?_
  refine Ru_aload_n (pc := 0) dX12_placed_0 rfl rfl ?_
  refine Ru_iload_n (pc := 1) dX12_placed_1 rfl rfl ?_
  refine Ru_cv1 (pc := 2) dX12_placed_2 mv_X12_106 rfl (by decide) (Nat.le_of_ble_eq_true rfl) (c_X12_trayed hy ?_) 
  refine Ru_istore_n (pc := 5) dX12_placed_5 rfl rfl (by decide) ?_
  refine Ru_iload_n (pc := 6) dX12_placed_6 rfl rfl ?_
  refine Ru_if_leN (pc := 7) 14 dX12_placed_7 (by decide) (f_trayed_lt _ _) (fun h1 => ?_) (fun h1 => ?_)
  · have h0 := f_trayed_0 h1
    obtain ⟨t', ht', rfl⟩ := r_nat h0.1 (by decide)
    refine Ru_iload_n (pc := 14) dX12_placed_14 rfl rfl ?_
    refine Ru_if_ltT (pc := 15) 28 dX12_placed_15 (by decide) (fun h2 => ?_) (fun h2 => ?_)
    · refine Ru_iconst (pc := 28) (nI 4) dX12_placed_28 rfl ?_
      refine Ru_goto (pc := 29) 33 dX12_placed_29 (by decide) ?_
      refine Ru_iret (pc := 33) dX12_placed_33 rfl ⟨Nat.le_refl _, Nat.le_refl _⟩ ?_
      refine r_qe (congrArg nI ?_) k
      unfold f_placed
      rw [r_tnn (show t' < 2147483648 by omega)] at *
      repeat' split
      all_goals first | rfl | (exfalso; omega)
    · refine Ru_iload_n (pc := 18) dX12_placed_18 rfl rfl ?_
      refine Ru_aload_n (pc := 19) dX12_placed_19 rfl rfl ?_
      refine Ru_getR (pc := 20) 2 dX12_placed_20 fl_X12_17 rfl rfl rfl ?_
      refine Ru_iload_n (pc := 23) dX12_placed_23 rfl rfl ?_
      refine Ru_iald (pc := 24) dX12_placed_24 rfl (by omega) ?_
      refine Ru_top (hy t' (by omega)).2.1 ?_
      refine Ru_icmp_ltT (pc := 25) 32 dX12_placed_25 (by decide) (fun h3 => ?_) (fun h3 => ?_)
      · refine Ru_iconst (pc := 32) (nI 0) dX12_placed_32 rfl ?_
        refine Ru_iret (pc := 33) dX12_placed_33 rfl ⟨Nat.le_refl _, Nat.le_refl _⟩ ?_
        refine r_qe (congrArg nI ?_) k
        unfold f_placed
        rw [r_tnn (show t' < 2147483648 by omega)] at *
        repeat' split
        all_goals first | rfl | (exfalso; omega)
      · refine Ru_iconst (pc := 28) (nI 4) dX12_placed_28 rfl ?_
        refine Ru_goto (pc := 29) 33 dX12_placed_29 (by decide) ?_
        refine Ru_iret (pc := 33) dX12_placed_33 rfl ⟨Nat.le_refl _, Nat.le_refl _⟩ ?_
        refine r_qe (congrArg nI ?_) k
        unfold f_placed
        rw [r_tnn (show t' < 2147483648 by omega)] at *
        repeat' split
        all_goals first | rfl | (exfalso; omega)
  · refine Ru_iload_n (pc := 10) dX12_placed_10 rfl rfl ?_
    refine Ru_goto (pc := 11) 33 dX12_placed_11 (by decide) ?_
    refine Ru_iret (pc := 33) dX12_placed_33 rfl ⟨Nat.le_refl _, Nat.le_refl _⟩ ?_
    refine r_qe (congrArg nI ?_) k
    unfold f_placed
    repeat' split
    all_goals first | rfl | (exfalso; omega)

theorem f_placed_lt (t x : Int32) (tr : Nat → Tr) : f_placed t x tr < 2147483648 := by
  unfold f_placed
  have := f_trayed_lt t tr
  repeat' split
  all_goals omega
theorem f_placed_0 {t x : Int32} {tr : Nat → Tr} (h : f_placed t x tr = 0) (hl : ∀ j, j < 4 → (tr j).2.1.toInt ≤ 60) : (0 ≤ t.toInt ∧ t.toInt < (4 : Nat)) ∧ (0 ≤ x.toInt ∧ x.toInt < (60 : Nat)) ∧ x.toInt < (tr t.toInt.toNat).2.1.toInt := by
  unfold f_placed at h
  split at h
  · omega
  · split at h
    · cases h
    · have h1 := f_trayed_0 (show f_trayed t tr = 0 by omega)
      have h2 := hl t.toInt.toNat (by omega)
      omega
theorem Y_tr_S {tr : Nat → Tr} {M M' : Mem} (h : r_fx [(0, 0), (0, 1)] [] M M') (hy : Y_tr tr M) : Y_tr tr M' := (Y_tr_dp tr).kp h rfl hy
theorem Y_tr_put {tr : Nat → Tr} {M : Mem} {t k : Nat} {v : Int64} (hy : Y_tr tr M) (ht : t < 4) (hk : (k : Int) < (tr t).2.1.toInt) : Y_tr (fun j => if j = t then ((tr j).1, (tr j).2.1, fun i => if i = k then f_cut (tr j).1 v else (tr j).2.2 i) else tr j) (r_sJ M 3 (60 * t + k) (f_cut (tr t).1 v)) := by
  intro j hj
  obtain ⟨a, b, c, d⟩ := hy j hj
  obtain ⟨a2, b2, c2, d2⟩ := hy t ht
  by_cases hjt : j = t
  · subst hjt
    simp only [if_pos]
    refine ⟨a, b, c, fun i hi => ?_⟩
    rw [r_sJ_g]
    by_cases hik : i = k
    · subst hik
      rw [if_pos ⟨rfl, rfl⟩, if_pos rfl]
    · rw [if_neg (by omega), if_neg hik]
      exact d i hi
  · simp only [if_neg hjt]
    refine ⟨a, b, c, fun i hi => ?_⟩
    rw [r_sJ_g, if_neg (by omega)]
    exact d i hi

theorem c_X12_write {Q : Rq} {M : Mem} {t x : Int32} {v : Int64} {tr : Nat → Tr} (hy : Y_tr tr M) (k : ∀ M', r_fx [(0, 0), (0, 1)] [3] M M' → M'.1 0 0 = (f_write t x v tr).2.1 → Y_tr (f_write t x v tr).2.2 M' → Q (some (.int (r_b (f_write t x v tr).1))) GY M') : Ca 2 mt_X12_write 0 0 [.ref 0, .int t, .int x, .long v] GY M Q := by
  refine Ca_of rfl (Nat.le_of_ble_eq_true rfl) ?_
  refine Ru_aload_n (pc := 0) dX12_write_0 rfl rfl ?_
  refine Ru_iconst (pc := 1) (nI 0) dX12_write_1 rfl ?_
  refine Ru_putI (pc := 2) rfl dX12_write_2 fl_X12_87 rfl ?_
  refine Ru_aload_n (pc := 5) dX12_write_5 rfl rfl ?_
  refine Ru_aload_n (pc := 6) dX12_write_6 rfl rfl ?_
  refine Ru_iload_n (pc := 7) dX12_write_7 rfl rfl ?_
  refine Ru_iload_n (pc := 8) dX12_write_8 rfl rfl ?_
  refine Ru_cv2 (pc := 9) dX12_write_9 mv_X12_110 rfl (by decide) (Nat.le_of_ble_eq_true rfl) (c_X12_placed (tr := tr) (Y_tr_S (r_fx.sI rfl r_fx.rf) hy) ?_) 
  refine Ru_putI (pc := 12) rfl dX12_write_12 fl_X12_90 rfl ?_
  refine Ru_aload_n (pc := 15) dX12_write_15 rfl rfl ?_
  refine Ru_getI (pc := 16) dX12_write_16 fl_X12_90 rfl rfl ?_
  refine Ru_top r_sI_s ?_
  refine Ru_if_leN (pc := 19) 24 dX12_write_19 (by decide) (f_placed_lt _ _ _) (fun h1 => ?_) (fun h1 => ?_)
  · have h0 := f_placed_0 h1 (fun j hj => (hy j hj).2.2.1.2)
    have hy2 := Y_tr_S (r_fx.sI (o := 0) (k := 0) (v := nI (f_placed t x tr)) rfl (r_fx.sI (o := 0) (k := 1) (v := nI 0) rfl (r_fx.rf (M := M)))) hy
    obtain ⟨t', ht', rfl⟩ := r_nat h0.1 (by decide)
    obtain ⟨x', hx', rfl⟩ := r_nat h0.2.1 (by decide)
    have et := r_tnn (show t' < 2147483648 by omega)
    have ex := r_tnn (show x' < 2147483648 by omega)
    have ex2 := r_tn (show x' < 2147483648 by omega)
    rw [et, ex2] at h0
    refine Ru_aload_n (pc := 24) dX12_write_24 rfl rfl ?_
    refine Ru_getR (pc := 25) 3 dX12_write_25 fl_X12_20 rfl rfl rfl ?_
    refine Ru_bipush (pc := 28) (nI 60) dX12_write_28 rfl ?_
    refine Ru_iload_n (pc := 30) dX12_write_30 rfl rfl ?_
    refine Ru_imulN (pc := 31) dX12_write_31 ?_
    refine Ru_iload_n (pc := 32) dX12_write_32 rfl rfl ?_
    refine Ru_iaddN (pc := 33) dX12_write_33 ?_
    refine Ru_aload_n (pc := 34) dX12_write_34 rfl rfl ?_
    refine Ru_getR (pc := 35) 1 dX12_write_35 fl_X12_13 rfl rfl rfl ?_
    refine Ru_iload_n (pc := 38) dX12_write_38 rfl rfl ?_
    refine Ru_iald (pc := 39) dX12_write_39 rfl (by omega) ?_
    refine Ru_top (hy2 t' (by omega)).1 ?_
    refine Ru_lload_n (pc := 40) dX12_write_40 rfl rfl ?_
    refine Ru_cs2 (pc := 41) dX12_write_41 ms_X12_114 (by decide) (Nat.le_of_ble_eq_true rfl) (c_X12_cut ?_) 
    refine Ru_last (pc := 44) rfl dX12_write_44 rfl (by omega) ?_
    refine Ru_iconst (pc := 45) (nI 1) dX12_write_45 rfl ?_
    refine Ru_zret (pc := 46) dX12_write_46 rfl ⟨Nat.le_refl _, Nat.le_refl _⟩ (Or.inr rfl) ?_
    have e : f_write (nI t') (nI x') v tr = (true, nI 0, fun j => if j = t' then ((tr j).1, (tr j).2.1, fun i => if i = x' then f_cut (tr j).1 v else (tr j).2.2 i) else tr j) := by
      unfold f_write
      rw [h1, if_neg (by omega), et, ex]
    rw [e] at k
    refine k _ (r_fx.sJ rfl (r_fx.sI rfl (r_fx.sI rfl r_fx.rf))) ?_ ?_
    · rw [r_sJ_I, r_sI_s, h1]
    · exact Y_tr_put hy2 ht' h0.2.2
  · refine Ru_iconst (pc := 22) (nI 0) dX12_write_22 rfl ?_
    refine Ru_zret (pc := 23) dX12_write_23 rfl ⟨Nat.le_refl _, Nat.le_refl _⟩ (Or.inl rfl) ?_
    have e : f_write t x v tr = (false, nI (f_placed t x tr), tr) := by
      unfold f_write
      rw [if_pos h1]
    rw [e] at k
    exact k _ (r_fx.sI rfl (r_fx.sI rfl r_fx.rf)) r_sI_s (Y_tr_S (r_fx.sI rfl (r_fx.sI rfl r_fx.rf)) hy)

theorem c_X12_read {Q : Rq} {M : Mem} {t x : Int32} {tr : Nat → Tr} (hy : Y_tr tr M) (k : ∀ M', r_fx [(0, 0), (0, 1)] [] M M' → M'.1 0 0 = (f_read t x tr).2 → Q (some (.long (f_read t x tr).1)) GY M') : Ca 2 mt_X12_read 0 0 [.ref 0, .int t, .int x] GY M Q := by
  refine Ca_of rfl (Nat.le_of_ble_eq_true rfl) ?_
  refine Ru_aload_n (pc := 0) dX12_read_0 rfl rfl ?_
  refine Ru_iconst (pc := 1) (nI 0) dX12_read_1 rfl ?_
  refine Ru_putI (pc := 2) rfl dX12_read_2 fl_X12_87 rfl ?_
  refine Ru_aload_n (pc := 5) dX12_read_5 rfl rfl ?_
  refine Ru_aload_n (pc := 6) dX12_read_6 rfl rfl ?_
  refine Ru_iload_n (pc := 7) dX12_read_7 rfl rfl ?_
  refine Ru_iload_n (pc := 8) dX12_read_8 rfl rfl ?_
  refine Ru_cv2 (pc := 9) dX12_read_9 mv_X12_110 rfl (by decide) (Nat.le_of_ble_eq_true rfl) (c_X12_placed (tr := tr) (Y_tr_S (r_fx.sI rfl r_fx.rf) hy) ?_) 
  refine Ru_putI (pc := 12) rfl dX12_read_12 fl_X12_90 rfl ?_
  refine Ru_aload_n (pc := 15) dX12_read_15 rfl rfl ?_
  refine Ru_getI (pc := 16) dX12_read_16 fl_X12_90 rfl rfl ?_
  refine Ru_top r_sI_s ?_
  refine Ru_if_leN (pc := 19) 28 dX12_read_19 (by decide) (f_placed_lt _ _ _) (fun h1 => ?_) (fun h1 => ?_)
  · have h0 := f_placed_0 h1 (fun j hj => (hy j hj).2.2.1.2)
    have hy2 := Y_tr_S (r_fx.sI (o := 0) (k := 0) (v := nI (f_placed t x tr)) rfl (r_fx.sI (o := 0) (k := 1) (v := nI 0) rfl (r_fx.rf (M := M)))) hy
    obtain ⟨t', ht', rfl⟩ := r_nat h0.1 (by decide)
    obtain ⟨x', hx', rfl⟩ := r_nat h0.2.1 (by decide)
    have et := r_tnn (show t' < 2147483648 by omega)
    have ex := r_tnn (show x' < 2147483648 by omega)
    have ex2 := r_tn (show x' < 2147483648 by omega)
    rw [et, ex2] at h0
    refine Ru_aload_n (pc := 28) dX12_read_28 rfl rfl ?_
    refine Ru_getR (pc := 29) 3 dX12_read_29 fl_X12_20 rfl rfl rfl ?_
    refine Ru_bipush (pc := 32) (nI 60) dX12_read_32 rfl ?_
    refine Ru_iload_n (pc := 34) dX12_read_34 rfl rfl ?_
    refine Ru_imulN (pc := 35) dX12_read_35 ?_
    refine Ru_iload_n (pc := 36) dX12_read_36 rfl rfl ?_
    refine Ru_iaddN (pc := 37) dX12_read_37 ?_
    refine Ru_lald (pc := 38) dX12_read_38 rfl (by omega) ?_
    refine Ru_topL ((hy2 t' (by omega)).2.2.2 x' (by omega)) ?_
    refine Ru_lret (pc := 39) dX12_read_39 rfl ⟨Nat.le_refl _, Nat.le_refl _⟩ ?_
    have e : f_read (nI t') (nI x') tr = ((tr t').2.2 x', nI 0) := by
      unfold f_read
      rw [h1, if_neg (by omega), et, ex]
    rw [e] at k
    refine k _ (r_fx.sI rfl (r_fx.sI rfl r_fx.rf)) ?_
    rw [r_sI_s, h1]
  · refine Ru_ldc2 (pc := 22) dX12_read_22 tw_1582 ?_
    refine Ru_goto (pc := 25) 39 dX12_read_25 (by decide) ?_
    refine Ru_lret (pc := 39) dX12_read_39 rfl ⟨Nat.le_refl _, Nat.le_refl _⟩ ?_
    have e : f_read t x tr = (-1, nI (f_placed t x tr)) := by
      unfold f_read
      rw [if_pos h1]
    rw [e] at k
    exact k _ (r_fx.sI rfl (r_fx.sI rfl r_fx.rf)) r_sI_s
