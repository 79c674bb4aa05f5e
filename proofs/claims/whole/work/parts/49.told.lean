-- WHAT THE CALLS TELL AGAIN
def f_sg (n : Nat) (a : Nat → Int32) (k : Int32) : Int32 × Nat := if 0 ≤ k.toInt ∧ k.toInt < n then (a k.toInt.toNat, 0) else (-1, 8)
def f_ng (n : Nat) (h : Bool) (v : Nat → Int32) (w : Int32) : Int32 × Nat := if ¬ (0 ≤ w.toInt ∧ w.toInt < n) then (-1, 5) else if h = true then (v w.toInt.toNat, 0) else (-1, 8)
def f_fault (f : Int32 × Int32) (w : Int32) : Int32 := if w.toInt = 0 then f.1 else if w.toInt = 1 then f.2 else -1
def Y_ft (f : Int32 × Int32) (M : Mem) : Prop := M.1 0 10 = f.1 ∧ M.1 0 11 = f.2
def X_ft (f : Int32 × Int32) (M : Mem) : Prop := M.1 40 7 = f.1 ∧ M.1 40 8 = f.2
abbrev Sp : Type := Nat × (Nat → Int32) × (Nat → Int32)
def Y_sp (s : Sp) (M : Mem) : Prop := M.1 0 37 = nI s.1 ∧ s.1 ≤ 24 ∧ ∀ k, k < s.1 → M.1 11 k = s.2.1 k ∧ M.1 12 k = s.2.2 k
def X_sp (s : Sp) (M : Mem) : Prop := M.1 55 7 = nI s.1 ∧ s.1 ≤ 24 ∧ ∀ k, k < s.1 → M.1 62 k = s.2.1 k ∧ M.1 63 k = s.2.2 k
abbrev Tl : Type := Bool × (Nat → Int32)
def Y_nt (h : Tl) (M : Mem) : Prop := M.1 0 42 = r_b h.1 ∧ (h.1 = true → ∀ k, k < 4 → M.1 13 k = h.2 k)
def X_nt (h : Tl) (M : Mem) : Prop := M.1 55 11 = r_b h.1 ∧ (h.1 = true → ∀ k, k < 4 → M.1 64 k = h.2 k)
def Y_th (h : Tl) (M : Mem) : Prop := M.1 0 43 = r_b h.1 ∧ (h.1 = true → ∀ k, k < 26 → M.1 16 k = h.2 k)
def X_th (h : Tl) (M : Mem) : Prop := M.1 67 4 = r_b h.1 ∧ (h.1 = true → ∀ k, k < 26 → M.1 68 k = h.2 k)
def Y_lv (h : Tl) (M : Mem) : Prop := M.1 0 44 = r_b h.1 ∧ (h.1 = true → ∀ k, k < 4 → M.1 0 (38 + k) = h.2 k)
def X_lv (h : Tl) (M : Mem) : Prop := M.1 67 6 = r_b h.1 ∧ (h.1 = true → ∀ k, k < 4 → M.1 69 k = h.2 k)
theorem Y_ft_dp (f : Int32 × Int32) : r_dp [(0, 10), (0, 11)] [] (Y_ft f) := fun M M' h p => ⟨(h 0 10 rfl).1.trans p.1, (h 0 11 rfl).1.trans p.2⟩
theorem X_ft_dp (f : Int32 × Int32) : r_dp [(40, 7), (40, 8)] [] (X_ft f) := fun M M' h p => ⟨(h 40 7 rfl).1.trans p.1, (h 40 8 rfl).1.trans p.2⟩
theorem Y_sp_dp (s : Sp) : r_dp [(0, 37)] [11, 12] (Y_sp s) := fun M M' h p => ⟨(h 0 37 rfl).1.trans p.1, p.2.1, fun k hk => ⟨(h 11 k rfl).1.trans (p.2.2 k hk).1, (h 12 k rfl).1.trans (p.2.2 k hk).2⟩⟩
theorem X_sp_dp (s : Sp) : r_dp [(55, 7)] [62, 63] (X_sp s) := fun M M' h p => ⟨(h 55 7 rfl).1.trans p.1, p.2.1, fun k hk => ⟨(h 62 k rfl).1.trans (p.2.2 k hk).1, (h 63 k rfl).1.trans (p.2.2 k hk).2⟩⟩
theorem Y_nt_dp (s : Tl) : r_dp [(0, 42)] [13] (Y_nt s) := fun M M' h p => ⟨(h 0 42 rfl).1.trans p.1, fun e k hk => (h 13 k rfl).1.trans (p.2 e k hk)⟩
theorem X_nt_dp (s : Tl) : r_dp [(55, 11)] [64] (X_nt s) := fun M M' h p => ⟨(h 55 11 rfl).1.trans p.1, fun e k hk => (h 64 k rfl).1.trans (p.2 e k hk)⟩
theorem Y_th_dp (s : Tl) : r_dp [(0, 43)] [16] (Y_th s) := fun M M' h p => ⟨(h 0 43 rfl).1.trans p.1, fun e k hk => (h 16 k rfl).1.trans (p.2 e k hk)⟩
theorem X_th_dp (s : Tl) : r_dp [(67, 4)] [68] (X_th s) := fun M M' h p => ⟨(h 67 4 rfl).1.trans p.1, fun e k hk => (h 68 k rfl).1.trans (p.2 e k hk)⟩
theorem Y_lv_dp (s : Tl) : r_dp [(0, 38), (0, 39), (0, 40), (0, 41), (0, 44)] [] (Y_lv s) := fun M M' h p => ⟨(h 0 44 rfl).1.trans p.1, fun e k hk => by
  have hk2 : k = 0 ∨ k = 1 ∨ k = 2 ∨ k = 3 := by omega
  rcases hk2 with rfl | rfl | rfl | rfl
  · exact (h 0 38 rfl).1.trans (p.2 e 0 hk)
  · exact (h 0 39 rfl).1.trans (p.2 e 1 hk)
  · exact (h 0 40 rfl).1.trans (p.2 e 2 hk)
  · exact (h 0 41 rfl).1.trans (p.2 e 3 hk)⟩
theorem X_lv_dp (s : Tl) : r_dp [(67, 6)] [69] (X_lv s) := fun M M' h p => ⟨(h 67 6 rfl).1.trans p.1, fun e k hk => (h 69 k rfl).1.trans (p.2 e k hk)⟩

theorem c_X12_fault {Q : Rq} {M : Mem} {f : Int32 × Int32} {w : Int32} (hy : Y_ft f M) (k : Q (some (.int (f_fault f w))) GY (r_sI M 0 1 (nI 0))) : Ca 0 mt_X12_fault 0 0 [.ref 0, .int w] GY M Q := by
  refine Ca_of rfl (Nat.le_of_ble_eq_true rfl) ?_
  refine Ru_aload_n (pc := 0) dX12_fault_0 rfl rfl ?_
  refine Ru_iconst (pc := 1) (nI 0) dX12_fault_1 rfl ?_
  refine Ru_putI (pc := 2) rfl dX12_fault_2 fl_X12_87 rfl ?_
  refine Ru_iload_n (pc := 5) dX12_fault_5 rfl rfl ?_
  refine Ru_if_neT (pc := 6) 16 dX12_fault_6 (by decide) (fun h1 => ?_) (fun h1 => ?_)
  · refine Ru_iload_n (pc := 16) dX12_fault_16 rfl rfl ?_
    refine Ru_iconst (pc := 17) (nI 1) dX12_fault_17 rfl ?_
    refine Ru_icmp_neL (pc := 18) 28 dX12_fault_18 (by decide) (by omega) (fun h2 => ?_) (fun h2 => ?_)
    · refine Ru_iconst (pc := 28) (-1) dX12_fault_28 rfl ?_
      refine Ru_iret (pc := 29) dX12_fault_29 rfl ⟨Nat.le_refl _, Nat.le_refl _⟩ ?_
      have e : f_fault f w = (-1 : Int32) := by
        unfold f_fault
        repeat' split
        all_goals first | rfl | (exfalso; omega)
      rw [e] at k
      exact k
    · refine Ru_aload_n (pc := 21) dX12_fault_21 rfl rfl ?_
      refine Ru_getI (pc := 22) dX12_fault_22 fl_X12_32 rfl rfl ?_
      refine Ru_top ((r_sI_n (by decide)).trans hy.2) ?_
      refine Ru_goto (pc := 25) 29 dX12_fault_25 (by decide) ?_
      refine Ru_iret (pc := 29) dX12_fault_29 rfl ⟨Nat.le_refl _, Nat.le_refl _⟩ ?_
      have e : f_fault f w = f.2 := by
        unfold f_fault
        repeat' split
        all_goals first | rfl | (exfalso; omega)
      rw [e] at k
      exact k
  · refine Ru_aload_n (pc := 9) dX12_fault_9 rfl rfl ?_
    refine Ru_getI (pc := 10) dX12_fault_10 fl_X12_28 rfl rfl ?_
    refine Ru_top ((r_sI_n (by decide)).trans hy.1) ?_
    refine Ru_goto (pc := 13) 29 dX12_fault_13 (by decide) ?_
    refine Ru_iret (pc := 29) dX12_fault_29 rfl ⟨Nat.le_refl _, Nat.le_refl _⟩ ?_
    have e : f_fault f w = f.1 := by
      unfold f_fault
      repeat' split
      all_goals first | rfl | (exfalso; omega)
    rw [e] at k
    exact k

theorem c_X11_fault {Q : Rq} {M : Mem} {f : Int32 × Int32} {w : Int32} (hy : X_ft f M) (k : Q (some (.int (f_fault f w))) GX M) : Ca 0 mt_X11_fault 0 0 [.ref 0, .int w] GX M Q := by
  refine Ca_of rfl (Nat.le_of_ble_eq_true rfl) ?_
  refine Ru_iload_n (pc := 0) dX11_fault_0 rfl rfl ?_
  refine Ru_if_neT (pc := 1) 12 dX11_fault_1 (by decide) (fun h1 => ?_) (fun h1 => ?_)
  · refine Ru_iload_n (pc := 12) dX11_fault_12 rfl rfl ?_
    refine Ru_iconst (pc := 13) (nI 1) dX11_fault_13 rfl ?_
    refine Ru_icmp_neL (pc := 14) 27 dX11_fault_14 (by decide) (by omega) (fun h2 => ?_) (fun h2 => ?_)
    · refine Ru_iconst (pc := 27) (-1) dX11_fault_27 rfl ?_
      refine Ru_iret (pc := 28) dX11_fault_28 rfl ⟨Nat.le_refl _, Nat.le_refl _⟩ ?_
      have e : f_fault f w = (-1 : Int32) := by
        unfold f_fault
        repeat' split
        all_goals first | rfl | (exfalso; omega)
      rw [e] at k
      exact k
    · refine Ru_aload_n (pc := 17) dX11_fault_17 rfl rfl ?_
      refine Ru_getR (pc := 18) 40 dX11_fault_18 fl_X11_47 rfl rfl (rfX_of (o := 0) (j := 40) rfl rfl) ?_
      refine Ru_getI (pc := 21) dX11_fault_21 fl_X11_199 rfl rfl ?_
      refine Ru_top hy.2 ?_
      refine Ru_goto (pc := 24) 28 dX11_fault_24 (by decide) ?_
      refine Ru_iret (pc := 28) dX11_fault_28 rfl ⟨Nat.le_refl _, Nat.le_refl _⟩ ?_
      have e : f_fault f w = f.2 := by
        unfold f_fault
        repeat' split
        all_goals first | rfl | (exfalso; omega)
      rw [e] at k
      exact k
  · refine Ru_aload_n (pc := 4) dX11_fault_4 rfl rfl ?_
    refine Ru_getR (pc := 5) 40 dX11_fault_5 fl_X11_47 rfl rfl (rfX_of (o := 0) (j := 40) rfl rfl) ?_
    refine Ru_getI (pc := 8) dX11_fault_8 fl_X11_196 rfl rfl ?_
    refine Ru_top hy.1 ?_
    refine Ru_iret (pc := 11) dX11_fault_11 rfl ⟨Nat.le_refl _, Nat.le_refl _⟩ ?_
    have e : f_fault f w = f.1 := by
      unfold f_fault
      repeat' split
      all_goals first | rfl | (exfalso; omega)
    rw [e] at k
    exact k

theorem c_X12_step {Q : Rq} {M : Mem} {s : Sp} {w : Int32} (hy : Y_sp s M) (k : ∀ M', r_fx [(0, 0), (0, 1)] [] M M' → M'.1 0 0 = nI (f_sg s.1 s.2.1 w).2 → Q (some (.int (f_sg s.1 s.2.1 w).1)) GY M') : Ca 1 mt_X12_step 0 0 [.ref 0, .int w] GY M Q := by
  refine Ca_of rfl (Nat.le_of_ble_eq_true rfl) ?_
  have hb := hy.2.1
  refine Ru_aload_n (pc := 0) dX12_step_0 rfl rfl ?_
  refine Ru_iconst (pc := 1) (nI 0) dX12_step_1 rfl ?_
  refine Ru_putI (pc := 2) rfl dX12_step_2 fl_X12_87 rfl ?_
  refine Ru_aload_n (pc := 5) dX12_step_5 rfl rfl ?_
  refine Ru_iconst (pc := 6) (nI 0) dX12_step_6 rfl ?_
  refine Ru_putI (pc := 7) rfl dX12_step_7 fl_X12_90 rfl ?_
  refine Ru_iload_n (pc := 10) dX12_step_10 rfl rfl ?_
  refine Ru_i2l (pc := 11) _ dX12_step_11 rfl ?_
  refine Ru_lconst (pc := 12) 0 dX12_step_12 rfl ?_
  refine Ru_aload_n (pc := 13) dX12_step_13 rfl rfl ?_
  refine Ru_getI (pc := 14) dX12_step_14 fl_X12_445 rfl rfl ?_
  refine Ru_top ((r_sI_n (by decide)).trans ((r_sI_n (by decide)).trans hy.1)) ?_
  refine Ru_iconst (pc := 17) (nI 1) dX12_step_17 rfl ?_
  refine Ru_isub (pc := 18) dX12_step_18 ?_
  refine Ru_i2l (pc := 19) _ dX12_step_19 rfl ?_
  refine Ru_cs3 (pc := 20) dX12_step_20 ms_X12_122 (by decide) (Nat.le_of_ble_eq_true rfl) (c_X12_isIn (0) (((s.1 : Nat) : Int) - 1) rfl (r_hi (by omega)) ?_) 
  refine Ru_if_eqB (pc := 23) 35 dX12_step_23 (by decide) (fun h1 => ?_) (fun h1 => ?_)
  · replace h1 := of_decide_eq_false h1
    refine Ru_aload_n (pc := 35) dX12_step_35 rfl rfl ?_
    refine Ru_bipush (pc := 36) (nI 8) dX12_step_36 rfl ?_
    refine Ru_cv1 (pc := 38) dX12_step_38 mv_X12_351 rfl (by decide) (Nat.le_of_ble_eq_true rfl) (c_X12_refuse ?_) 
    refine Ru_iret (pc := 41) dX12_step_41 rfl ⟨Nat.le_refl _, Nat.le_refl _⟩ ?_
    have e : f_sg s.1 s.2.1 w = (-1, 8) := by
      unfold f_sg
      repeat' split
      all_goals first | rfl | (exfalso; omega) | (congr 3; omega) | (simp_all; done)
    rw [e] at k
    exact k _ (r_fx.sI rfl (r_fx.sI rfl (r_fx.sI rfl r_fx.rf))) r_sI_s
  · replace h1 := of_decide_eq_true h1
    obtain ⟨w', hw', rfl⟩ := r_nat (x := w) (n := 25) (by omega) (by omega)
    have ew := r_tn (show w' < 2147483648 by omega)
    refine Ru_aload_n (pc := 26) dX12_step_26 rfl rfl ?_
    refine Ru_getR (pc := 27) 11 dX12_step_27 fl_X12_54 rfl rfl rfl ?_
    refine Ru_iload_n (pc := 30) dX12_step_30 rfl rfl ?_
    refine Ru_iald (pc := 31) dX12_step_31 rfl (by omega) ?_
    refine Ru_top ((r_sI_n (by omega)).trans ((r_sI_n (by omega)).trans (hy.2.2 w' (by omega)).1)) ?_
    refine Ru_goto (pc := 32) 41 dX12_step_32 (by decide) ?_
    refine Ru_iret (pc := 41) dX12_step_41 rfl ⟨Nat.le_refl _, Nat.le_refl _⟩ ?_
    have e : f_sg s.1 s.2.1 (nI w') = ((s.2.1 w'), 0) := by
      unfold f_sg
      simp only [r_tn (show w' < 2147483648 by omega), Int.toNat_natCast]
      repeat' split
      all_goals first | rfl | (exfalso; omega) | (congr 3; omega) | (simp_all; done)
    rw [e] at k
    exact k _ (r_fx.sI rfl (r_fx.sI rfl r_fx.rf)) r_sI_s

theorem c_X11_step {Q : Rq} {M : Mem} {s : Sp} {w : Int32} (hy : X_sp s M) (k : ∀ M', r_fx [(0, 0)] [] M M' → M'.1 0 0 = nI (f_sg s.1 s.2.1 w).2 → Q (some (.int (f_sg s.1 s.2.1 w).1)) GX M') : Ca 1 mt_X11_step 0 0 [.ref 0, .int w] GX M Q := by
  refine Ca_of rfl (Nat.le_of_ble_eq_true rfl) ?_
  have hb := hy.2.1
  refine Ru_iload_n (pc := 0) dX11_step_0 rfl rfl ?_
  refine Ru_if_ltT (pc := 1) 15 dX11_step_1 (by decide) (fun h1 => ?_) (fun h1 => ?_)
  · refine Ru_aload_n (pc := 15) dX11_step_15 rfl rfl ?_
    refine Ru_bipush (pc := 16) (nI 8) dX11_step_16 rfl ?_
    refine Ru_cv1 (pc := 18) dX11_step_18 mv_X11_112 rfl (by decide) (Nat.le_of_ble_eq_true rfl) (c_X11_fail ?_) 
    refine Ru_iret (pc := 21) dX11_step_21 rfl ⟨Nat.le_refl _, Nat.le_refl _⟩ ?_
    have e : f_sg s.1 s.2.1 w = (-1, 8) := by
      unfold f_sg
      repeat' split
      all_goals first | rfl | (exfalso; omega) | (congr 3; omega) | (simp_all; done)
    rw [e] at k
    exact k _ (r_fx.sI rfl r_fx.rf) r_sI_s
  · refine Ru_iload_n (pc := 4) dX11_step_4 rfl rfl ?_
    refine Ru_aload_n (pc := 5) dX11_step_5 rfl rfl ?_
    refine Ru_getR (pc := 6) 55 dX11_step_6 fl_X11_68 rfl rfl (rfX_of (o := 0) (j := 55) rfl rfl) ?_
    refine Ru_getI (pc := 9) dX11_step_9 fl_X11_311 rfl rfl ?_
    refine Ru_top hy.1 ?_
    refine Ru_icmp_ltL (pc := 12) 22 dX11_step_12 (by decide) (by omega) (fun h2 => ?_) (fun h2 => ?_)
    · obtain ⟨w', hw', rfl⟩ := r_nat (x := w) (n := 25) (by omega) (by omega)
      have ew := r_tn (show w' < 2147483648 by omega)
      refine Ru_aload_n (pc := 22) dX11_step_22 rfl rfl ?_
      refine Ru_aload_n (pc := 23) dX11_step_23 rfl rfl ?_
      refine Ru_getR (pc := 24) 55 dX11_step_24 fl_X11_68 rfl rfl (rfX_of (o := 0) (j := 55) rfl rfl) ?_
      refine Ru_getR (pc := 27) 62 dX11_step_27 fl_X11_314 rfl rfl (rfX_of (o := 55) (j := 7) rfl rfl) ?_
      refine Ru_iload_n (pc := 30) dX11_step_30 rfl rfl ?_
      refine Ru_iald (pc := 31) dX11_step_31 rfl (by omega) ?_
      refine Ru_top (hy.2.2 w' (by omega)).1 ?_
      refine Ru_cv1 (pc := 32) dX11_step_32 mv_X11_170 rfl (by decide) (Nat.le_of_ble_eq_true rfl) (c_X11_tell ?_) 
      refine Ru_iret (pc := 35) dX11_step_35 rfl ⟨Nat.le_refl _, Nat.le_refl _⟩ ?_
      have e : f_sg s.1 s.2.1 (nI w') = ((s.2.1 w'), 0) := by
        unfold f_sg
        simp only [r_tn (show w' < 2147483648 by omega), Int.toNat_natCast]
        repeat' split
        all_goals first | rfl | (exfalso; omega) | (congr 3; omega) | (simp_all; done)
      rw [e] at k
      exact k _ (r_fx.sI rfl r_fx.rf) r_sI_s
    · refine Ru_aload_n (pc := 15) dX11_step_15 rfl rfl ?_
      refine Ru_bipush (pc := 16) (nI 8) dX11_step_16 rfl ?_
      refine Ru_cv1 (pc := 18) dX11_step_18 mv_X11_112 rfl (by decide) (Nat.le_of_ble_eq_true rfl) (c_X11_fail ?_) 
      refine Ru_iret (pc := 21) dX11_step_21 rfl ⟨Nat.le_refl _, Nat.le_refl _⟩ ?_
      have e : f_sg s.1 s.2.1 w = (-1, 8) := by
        unfold f_sg
        repeat' split
        all_goals first | rfl | (exfalso; omega) | (congr 3; omega) | (simp_all; done)
      rw [e] at k
      exact k _ (r_fx.sI rfl r_fx.rf) r_sI_s

theorem c_X12_stepTime {Q : Rq} {M : Mem} {s : Sp} {w : Int32} (hy : Y_sp s M) (k : ∀ M', r_fx [(0, 0), (0, 1)] [] M M' → M'.1 0 0 = nI (f_sg s.1 s.2.2 w).2 → Q (some (.int (f_sg s.1 s.2.2 w).1)) GY M') : Ca 1 mt_X12_stepTime 0 0 [.ref 0, .int w] GY M Q := by
  refine Ca_of rfl (Nat.le_of_ble_eq_true rfl) ?_
  have hb := hy.2.1
  refine Ru_aload_n (pc := 0) dX12_stepTime_0 rfl rfl ?_
  refine Ru_iconst (pc := 1) (nI 0) dX12_stepTime_1 rfl ?_
  refine Ru_putI (pc := 2) rfl dX12_stepTime_2 fl_X12_87 rfl ?_
  refine Ru_aload_n (pc := 5) dX12_stepTime_5 rfl rfl ?_
  refine Ru_iconst (pc := 6) (nI 0) dX12_stepTime_6 rfl ?_
  refine Ru_putI (pc := 7) rfl dX12_stepTime_7 fl_X12_90 rfl ?_
  refine Ru_iload_n (pc := 10) dX12_stepTime_10 rfl rfl ?_
  refine Ru_i2l (pc := 11) _ dX12_stepTime_11 rfl ?_
  refine Ru_lconst (pc := 12) 0 dX12_stepTime_12 rfl ?_
  refine Ru_aload_n (pc := 13) dX12_stepTime_13 rfl rfl ?_
  refine Ru_getI (pc := 14) dX12_stepTime_14 fl_X12_445 rfl rfl ?_
  refine Ru_top ((r_sI_n (by decide)).trans ((r_sI_n (by decide)).trans hy.1)) ?_
  refine Ru_iconst (pc := 17) (nI 1) dX12_stepTime_17 rfl ?_
  refine Ru_isub (pc := 18) dX12_stepTime_18 ?_
  refine Ru_i2l (pc := 19) _ dX12_stepTime_19 rfl ?_
  refine Ru_cs3 (pc := 20) dX12_stepTime_20 ms_X12_122 (by decide) (Nat.le_of_ble_eq_true rfl) (c_X12_isIn (0) (((s.1 : Nat) : Int) - 1) rfl (r_hi (by omega)) ?_) 
  refine Ru_if_eqB (pc := 23) 35 dX12_stepTime_23 (by decide) (fun h1 => ?_) (fun h1 => ?_)
  · replace h1 := of_decide_eq_false h1
    refine Ru_aload_n (pc := 35) dX12_stepTime_35 rfl rfl ?_
    refine Ru_bipush (pc := 36) (nI 8) dX12_stepTime_36 rfl ?_
    refine Ru_cv1 (pc := 38) dX12_stepTime_38 mv_X12_351 rfl (by decide) (Nat.le_of_ble_eq_true rfl) (c_X12_refuse ?_) 
    refine Ru_iret (pc := 41) dX12_stepTime_41 rfl ⟨Nat.le_refl _, Nat.le_refl _⟩ ?_
    have e : f_sg s.1 s.2.2 w = (-1, 8) := by
      unfold f_sg
      repeat' split
      all_goals first | rfl | (exfalso; omega) | (congr 3; omega) | (simp_all; done)
    rw [e] at k
    exact k _ (r_fx.sI rfl (r_fx.sI rfl (r_fx.sI rfl r_fx.rf))) r_sI_s
  · replace h1 := of_decide_eq_true h1
    obtain ⟨w', hw', rfl⟩ := r_nat (x := w) (n := 25) (by omega) (by omega)
    have ew := r_tn (show w' < 2147483648 by omega)
    refine Ru_aload_n (pc := 26) dX12_stepTime_26 rfl rfl ?_
    refine Ru_getR (pc := 27) 12 dX12_stepTime_27 fl_X12_57 rfl rfl rfl ?_
    refine Ru_iload_n (pc := 30) dX12_stepTime_30 rfl rfl ?_
    refine Ru_iald (pc := 31) dX12_stepTime_31 rfl (by omega) ?_
    refine Ru_top ((r_sI_n (by omega)).trans ((r_sI_n (by omega)).trans (hy.2.2 w' (by omega)).2)) ?_
    refine Ru_goto (pc := 32) 41 dX12_stepTime_32 (by decide) ?_
    refine Ru_iret (pc := 41) dX12_stepTime_41 rfl ⟨Nat.le_refl _, Nat.le_refl _⟩ ?_
    have e : f_sg s.1 s.2.2 (nI w') = ((s.2.2 w'), 0) := by
      unfold f_sg
      simp only [r_tn (show w' < 2147483648 by omega), Int.toNat_natCast]
      repeat' split
      all_goals first | rfl | (exfalso; omega) | (congr 3; omega) | (simp_all; done)
    rw [e] at k
    exact k _ (r_fx.sI rfl (r_fx.sI rfl r_fx.rf)) r_sI_s

theorem c_X11_stepTime {Q : Rq} {M : Mem} {s : Sp} {w : Int32} (hy : X_sp s M) (k : ∀ M', r_fx [(0, 0)] [] M M' → M'.1 0 0 = nI (f_sg s.1 s.2.2 w).2 → Q (some (.int (f_sg s.1 s.2.2 w).1)) GX M') : Ca 1 mt_X11_stepTime 0 0 [.ref 0, .int w] GX M Q := by
  refine Ca_of rfl (Nat.le_of_ble_eq_true rfl) ?_
  have hb := hy.2.1
  refine Ru_iload_n (pc := 0) dX11_stepTime_0 rfl rfl ?_
  refine Ru_if_ltT (pc := 1) 15 dX11_stepTime_1 (by decide) (fun h1 => ?_) (fun h1 => ?_)
  · refine Ru_aload_n (pc := 15) dX11_stepTime_15 rfl rfl ?_
    refine Ru_bipush (pc := 16) (nI 8) dX11_stepTime_16 rfl ?_
    refine Ru_cv1 (pc := 18) dX11_stepTime_18 mv_X11_112 rfl (by decide) (Nat.le_of_ble_eq_true rfl) (c_X11_fail ?_) 
    refine Ru_iret (pc := 21) dX11_stepTime_21 rfl ⟨Nat.le_refl _, Nat.le_refl _⟩ ?_
    have e : f_sg s.1 s.2.2 w = (-1, 8) := by
      unfold f_sg
      repeat' split
      all_goals first | rfl | (exfalso; omega) | (congr 3; omega) | (simp_all; done)
    rw [e] at k
    exact k _ (r_fx.sI rfl r_fx.rf) r_sI_s
  · refine Ru_iload_n (pc := 4) dX11_stepTime_4 rfl rfl ?_
    refine Ru_aload_n (pc := 5) dX11_stepTime_5 rfl rfl ?_
    refine Ru_getR (pc := 6) 55 dX11_stepTime_6 fl_X11_68 rfl rfl (rfX_of (o := 0) (j := 55) rfl rfl) ?_
    refine Ru_getI (pc := 9) dX11_stepTime_9 fl_X11_311 rfl rfl ?_
    refine Ru_top hy.1 ?_
    refine Ru_icmp_ltL (pc := 12) 22 dX11_stepTime_12 (by decide) (by omega) (fun h2 => ?_) (fun h2 => ?_)
    · obtain ⟨w', hw', rfl⟩ := r_nat (x := w) (n := 25) (by omega) (by omega)
      have ew := r_tn (show w' < 2147483648 by omega)
      refine Ru_aload_n (pc := 22) dX11_stepTime_22 rfl rfl ?_
      refine Ru_aload_n (pc := 23) dX11_stepTime_23 rfl rfl ?_
      refine Ru_getR (pc := 24) 55 dX11_stepTime_24 fl_X11_68 rfl rfl (rfX_of (o := 0) (j := 55) rfl rfl) ?_
      refine Ru_getR (pc := 27) 63 dX11_stepTime_27 fl_X11_317 rfl rfl (rfX_of (o := 55) (j := 8) rfl rfl) ?_
      refine Ru_iload_n (pc := 30) dX11_stepTime_30 rfl rfl ?_
      refine Ru_iald (pc := 31) dX11_stepTime_31 rfl (by omega) ?_
      refine Ru_top (hy.2.2 w' (by omega)).2 ?_
      refine Ru_cv1 (pc := 32) dX11_stepTime_32 mv_X11_170 rfl (by decide) (Nat.le_of_ble_eq_true rfl) (c_X11_tell ?_) 
      refine Ru_iret (pc := 35) dX11_stepTime_35 rfl ⟨Nat.le_refl _, Nat.le_refl _⟩ ?_
      have e : f_sg s.1 s.2.2 (nI w') = ((s.2.2 w'), 0) := by
        unfold f_sg
        simp only [r_tn (show w' < 2147483648 by omega), Int.toNat_natCast]
        repeat' split
        all_goals first | rfl | (exfalso; omega) | (congr 3; omega) | (simp_all; done)
      rw [e] at k
      exact k _ (r_fx.sI rfl r_fx.rf) r_sI_s
    · refine Ru_aload_n (pc := 15) dX11_stepTime_15 rfl rfl ?_
      refine Ru_bipush (pc := 16) (nI 8) dX11_stepTime_16 rfl ?_
      refine Ru_cv1 (pc := 18) dX11_stepTime_18 mv_X11_112 rfl (by decide) (Nat.le_of_ble_eq_true rfl) (c_X11_fail ?_) 
      refine Ru_iret (pc := 21) dX11_stepTime_21 rfl ⟨Nat.le_refl _, Nat.le_refl _⟩ ?_
      have e : f_sg s.1 s.2.2 w = (-1, 8) := by
        unfold f_sg
        repeat' split
        all_goals first | rfl | (exfalso; omega) | (congr 3; omega) | (simp_all; done)
      rw [e] at k
      exact k _ (r_fx.sI rfl r_fx.rf) r_sI_s

theorem c_X12_firstNight {Q : Rq} {M : Mem} {s : Tl} {w : Int32} (hy : Y_nt s M) (k : ∀ M', r_fx [(0, 0), (0, 1)] [] M M' → M'.1 0 0 = nI (f_ng 4 s.1 s.2 w).2 → Q (some (.int (f_ng 4 s.1 s.2 w).1)) GY M') : Ca 1 mt_X12_firstNight 0 0 [.ref 0, .int w] GY M Q := by
  refine Ca_of rfl (Nat.le_of_ble_eq_true rfl) ?_
  refine Ru_aload_n (pc := 0) dX12_firstNight_0 rfl rfl ?_
  refine Ru_iconst (pc := 1) (nI 0) dX12_firstNight_1 rfl ?_
  refine Ru_putI (pc := 2) rfl dX12_firstNight_2 fl_X12_87 rfl ?_
  refine Ru_aload_n (pc := 5) dX12_firstNight_5 rfl rfl ?_
  refine Ru_iconst (pc := 6) (nI 0) dX12_firstNight_6 rfl ?_
  refine Ru_putI (pc := 7) rfl dX12_firstNight_7 fl_X12_90 rfl ?_
  refine Ru_iload_n (pc := 10) dX12_firstNight_10 rfl rfl ?_
  refine Ru_i2l (pc := 11) _ dX12_firstNight_11 rfl ?_
  refine Ru_lconst (pc := 12) 0 dX12_firstNight_12 rfl ?_
  refine Ru_ldc2 (pc := 13) dX12_firstNight_13 tw_1881 ?_
  refine Ru_cs3 (pc := 16) dX12_firstNight_16 ms_X12_122 (by decide) (Nat.le_of_ble_eq_true rfl) (c_X12_isIn (0) (3) rfl rfl ?_) 
  refine Ru_if_neB (pc := 19) 28 dX12_firstNight_19 (by decide) (fun h1 => ?_) (fun h1 => ?_)
  · replace h1 := of_decide_eq_true h1
    obtain ⟨w', hw', rfl⟩ := r_nat (x := w) (n := 4) (by omega) (by omega)
    have ew := r_tn (show w' < 2147483648 by omega)
    refine Ru_aload_n (pc := 28) dX12_firstNight_28 rfl rfl ?_
    refine Ru_getI (pc := 29) dX12_firstNight_29 fl_X12_465 rfl rfl ?_
    refine Ru_top ((r_sI_n (by decide)).trans ((r_sI_n (by decide)).trans hy.1)) ?_
    refine Ru_if_eqB (pc := 32) 44 dX12_firstNight_32 (by decide) (fun h2 => ?_) (fun h2 => ?_)
    · refine Ru_aload_n (pc := 44) dX12_firstNight_44 rfl rfl ?_
      refine Ru_bipush (pc := 45) (nI 8) dX12_firstNight_45 rfl ?_
      refine Ru_cv1 (pc := 47) dX12_firstNight_47 mv_X12_351 rfl (by decide) (Nat.le_of_ble_eq_true rfl) (c_X12_refuse ?_) 
      refine Ru_iret (pc := 50) dX12_firstNight_50 rfl ⟨Nat.le_refl _, Nat.le_refl _⟩ ?_
      have e : f_ng 4 s.1 s.2 (nI w') = (-1, 8) := by
        unfold f_ng
        simp only [r_tn (show w' < 2147483648 by omega), Int.toNat_natCast]
        repeat' split
        all_goals first | rfl | (exfalso; omega) | (congr 3; omega) | (simp_all; done)
      rw [e] at k
      exact k _ (r_fx.sI rfl (r_fx.sI rfl (r_fx.sI rfl r_fx.rf))) r_sI_s
    · refine Ru_aload_n (pc := 35) dX12_firstNight_35 rfl rfl ?_
      refine Ru_getR (pc := 36) 13 dX12_firstNight_36 fl_X12_60 rfl rfl rfl ?_
      refine Ru_iload_n (pc := 39) dX12_firstNight_39 rfl rfl ?_
      refine Ru_iald (pc := 40) dX12_firstNight_40 rfl (by omega) ?_
      refine Ru_top ((r_sI_n (by omega)).trans ((r_sI_n (by omega)).trans (hy.2 ‹_› w' (by omega)))) ?_
      refine Ru_goto (pc := 41) 50 dX12_firstNight_41 (by decide) ?_
      refine Ru_iret (pc := 50) dX12_firstNight_50 rfl ⟨Nat.le_refl _, Nat.le_refl _⟩ ?_
      have e : f_ng 4 s.1 s.2 (nI w') = ((s.2 w'), 0) := by
        unfold f_ng
        simp only [r_tn (show w' < 2147483648 by omega), Int.toNat_natCast]
        repeat' split
        all_goals first | rfl | (exfalso; omega) | (congr 3; omega) | (simp_all; done)
      rw [e] at k
      exact k _ (r_fx.sI rfl (r_fx.sI rfl r_fx.rf)) r_sI_s
  · replace h1 := of_decide_eq_false h1
    refine Ru_aload_n (pc := 22) dX12_firstNight_22 rfl rfl ?_
    refine Ru_iconst (pc := 23) (nI 5) dX12_firstNight_23 rfl ?_
    refine Ru_cv1 (pc := 24) dX12_firstNight_24 mv_X12_351 rfl (by decide) (Nat.le_of_ble_eq_true rfl) (c_X12_refuse ?_) 
    refine Ru_iret (pc := 27) dX12_firstNight_27 rfl ⟨Nat.le_refl _, Nat.le_refl _⟩ ?_
    have e : f_ng 4 s.1 s.2 w = (-1, 5) := by
      unfold f_ng
      repeat' split
      all_goals first | rfl | (exfalso; omega) | (congr 3; omega) | (simp_all; done)
    rw [e] at k
    exact k _ (r_fx.sI rfl (r_fx.sI rfl (r_fx.sI rfl r_fx.rf))) r_sI_s

theorem c_X11_firstNight {Q : Rq} {M : Mem} {s : Tl} {w : Int32} (hy : X_nt s M) (k : ∀ M', r_fx [(0, 0)] [] M M' → M'.1 0 0 = nI (f_ng 4 s.1 s.2 w).2 → Q (some (.int (f_ng 4 s.1 s.2 w).1)) GX M') : Ca 1 mt_X11_firstNight 0 0 [.ref 0, .int w] GX M Q := by
  refine Ca_of rfl (Nat.le_of_ble_eq_true rfl) ?_
  refine Ru_iload_n (pc := 0) dX11_firstNight_0 rfl rfl ?_
  refine Ru_if_ltT (pc := 1) 9 dX11_firstNight_1 (by decide) (fun h1 => ?_) (fun h1 => ?_)
  · refine Ru_aload_n (pc := 9) dX11_firstNight_9 rfl rfl ?_
    refine Ru_iconst (pc := 10) (nI 5) dX11_firstNight_10 rfl ?_
    refine Ru_cv1 (pc := 11) dX11_firstNight_11 mv_X11_112 rfl (by decide) (Nat.le_of_ble_eq_true rfl) (c_X11_fail ?_) 
    refine Ru_iret (pc := 14) dX11_firstNight_14 rfl ⟨Nat.le_refl _, Nat.le_refl _⟩ ?_
    have e : f_ng 4 s.1 s.2 w = (-1, 5) := by
      unfold f_ng
      repeat' split
      all_goals first | rfl | (exfalso; omega) | (congr 3; omega) | (simp_all; done)
    rw [e] at k
    exact k _ (r_fx.sI rfl r_fx.rf) r_sI_s
  · refine Ru_iload_n (pc := 4) dX11_firstNight_4 rfl rfl ?_
    refine Ru_iconst (pc := 5) (nI 3) dX11_firstNight_5 rfl ?_
    refine Ru_icmp_leL (pc := 6) 15 dX11_firstNight_6 (by decide) (by omega) (fun h2 => ?_) (fun h2 => ?_)
    · obtain ⟨w', hw', rfl⟩ := r_nat (x := w) (n := 4) (by omega) (by omega)
      have ew := r_tn (show w' < 2147483648 by omega)
      refine Ru_aload_n (pc := 15) dX11_firstNight_15 rfl rfl ?_
      refine Ru_getR (pc := 16) 55 dX11_firstNight_16 fl_X11_68 rfl rfl (rfX_of (o := 0) (j := 55) rfl rfl) ?_
      refine Ru_getI (pc := 19) dX11_firstNight_19 fl_X11_320 rfl rfl ?_
      refine Ru_top hy.1 ?_
      refine Ru_if_neB (pc := 22) 32 dX11_firstNight_22 (by decide) (fun h3 => ?_) (fun h3 => ?_)
      · refine Ru_aload_n (pc := 32) dX11_firstNight_32 rfl rfl ?_
        refine Ru_aload_n (pc := 33) dX11_firstNight_33 rfl rfl ?_
        refine Ru_getR (pc := 34) 55 dX11_firstNight_34 fl_X11_68 rfl rfl (rfX_of (o := 0) (j := 55) rfl rfl) ?_
        refine Ru_getR (pc := 37) 64 dX11_firstNight_37 fl_X11_324 rfl rfl (rfX_of (o := 55) (j := 9) rfl rfl) ?_
        refine Ru_iload_n (pc := 40) dX11_firstNight_40 rfl rfl ?_
        refine Ru_iald (pc := 41) dX11_firstNight_41 rfl (by omega) ?_
        refine Ru_top (hy.2 ‹_› w' (by omega)) ?_
        refine Ru_cv1 (pc := 42) dX11_firstNight_42 mv_X11_170 rfl (by decide) (Nat.le_of_ble_eq_true rfl) (c_X11_tell ?_) 
        refine Ru_iret (pc := 45) dX11_firstNight_45 rfl ⟨Nat.le_refl _, Nat.le_refl _⟩ ?_
        have e : f_ng 4 s.1 s.2 (nI w') = ((s.2 w'), 0) := by
          unfold f_ng
          simp only [r_tn (show w' < 2147483648 by omega), Int.toNat_natCast]
          repeat' split
          all_goals first | rfl | (exfalso; omega) | (congr 3; omega) | (simp_all; done)
        rw [e] at k
        exact k _ (r_fx.sI rfl r_fx.rf) r_sI_s
      · refine Ru_aload_n (pc := 25) dX11_firstNight_25 rfl rfl ?_
        refine Ru_bipush (pc := 26) (nI 8) dX11_firstNight_26 rfl ?_
        refine Ru_cv1 (pc := 28) dX11_firstNight_28 mv_X11_112 rfl (by decide) (Nat.le_of_ble_eq_true rfl) (c_X11_fail ?_) 
        refine Ru_iret (pc := 31) dX11_firstNight_31 rfl ⟨Nat.le_refl _, Nat.le_refl _⟩ ?_
        have e : f_ng 4 s.1 s.2 (nI w') = (-1, 8) := by
          unfold f_ng
          simp only [r_tn (show w' < 2147483648 by omega), Int.toNat_natCast]
          repeat' split
          all_goals first | rfl | (exfalso; omega) | (congr 3; omega) | (simp_all; done)
        rw [e] at k
        exact k _ (r_fx.sI rfl r_fx.rf) r_sI_s
    · refine Ru_aload_n (pc := 9) dX11_firstNight_9 rfl rfl ?_
      refine Ru_iconst (pc := 10) (nI 5) dX11_firstNight_10 rfl ?_
      refine Ru_cv1 (pc := 11) dX11_firstNight_11 mv_X11_112 rfl (by decide) (Nat.le_of_ble_eq_true rfl) (c_X11_fail ?_) 
      refine Ru_iret (pc := 14) dX11_firstNight_14 rfl ⟨Nat.le_refl _, Nat.le_refl _⟩ ?_
      have e : f_ng 4 s.1 s.2 w = (-1, 5) := by
        unfold f_ng
        repeat' split
        all_goals first | rfl | (exfalso; omega) | (congr 3; omega) | (simp_all; done)
      rw [e] at k
      exact k _ (r_fx.sI rfl r_fx.rf) r_sI_s

theorem c_X12_there {Q : Rq} {M : Mem} {s : Tl} {w : Int32} (hy : Y_th s M) (k : ∀ M', r_fx [(0, 0), (0, 1)] [] M M' → M'.1 0 0 = nI (f_ng 26 s.1 s.2 w).2 → Q (some (.int (f_ng 26 s.1 s.2 w).1)) GY M') : Ca 1 mt_X12_there 0 0 [.ref 0, .int w] GY M Q := by
  refine Ca_of rfl (Nat.le_of_ble_eq_true rfl) ?_
  refine Ru_aload_n (pc := 0) dX12_there_0 rfl rfl ?_
  refine Ru_iconst (pc := 1) (nI 0) dX12_there_1 rfl ?_
  refine Ru_putI (pc := 2) rfl dX12_there_2 fl_X12_87 rfl ?_
  refine Ru_aload_n (pc := 5) dX12_there_5 rfl rfl ?_
  refine Ru_iconst (pc := 6) (nI 0) dX12_there_6 rfl ?_
  refine Ru_putI (pc := 7) rfl dX12_there_7 fl_X12_90 rfl ?_
  refine Ru_iload_n (pc := 10) dX12_there_10 rfl rfl ?_
  refine Ru_i2l (pc := 11) _ dX12_there_11 rfl ?_
  refine Ru_lconst (pc := 12) 0 dX12_there_12 rfl ?_
  refine Ru_ldc2 (pc := 13) dX12_there_13 tw_2148 ?_
  refine Ru_cs3 (pc := 16) dX12_there_16 ms_X12_122 (by decide) (Nat.le_of_ble_eq_true rfl) (c_X12_isIn (0) (25) rfl rfl ?_) 
  refine Ru_if_neB (pc := 19) 28 dX12_there_19 (by decide) (fun h1 => ?_) (fun h1 => ?_)
  · replace h1 := of_decide_eq_true h1
    obtain ⟨w', hw', rfl⟩ := r_nat (x := w) (n := 26) (by omega) (by omega)
    have ew := r_tn (show w' < 2147483648 by omega)
    refine Ru_aload_n (pc := 28) dX12_there_28 rfl rfl ?_
    refine Ru_getI (pc := 29) dX12_there_29 fl_X12_561 rfl rfl ?_
    refine Ru_top ((r_sI_n (by decide)).trans ((r_sI_n (by decide)).trans hy.1)) ?_
    refine Ru_if_eqB (pc := 32) 44 dX12_there_32 (by decide) (fun h2 => ?_) (fun h2 => ?_)
    · refine Ru_aload_n (pc := 44) dX12_there_44 rfl rfl ?_
      refine Ru_bipush (pc := 45) (nI 8) dX12_there_45 rfl ?_
      refine Ru_cv1 (pc := 47) dX12_there_47 mv_X12_351 rfl (by decide) (Nat.le_of_ble_eq_true rfl) (c_X12_refuse ?_) 
      refine Ru_iret (pc := 50) dX12_there_50 rfl ⟨Nat.le_refl _, Nat.le_refl _⟩ ?_
      have e : f_ng 26 s.1 s.2 (nI w') = (-1, 8) := by
        unfold f_ng
        simp only [r_tn (show w' < 2147483648 by omega), Int.toNat_natCast]
        repeat' split
        all_goals first | rfl | (exfalso; omega) | (congr 3; omega) | (simp_all; done)
      rw [e] at k
      exact k _ (r_fx.sI rfl (r_fx.sI rfl (r_fx.sI rfl r_fx.rf))) r_sI_s
    · refine Ru_aload_n (pc := 35) dX12_there_35 rfl rfl ?_
      refine Ru_getR (pc := 36) 16 dX12_there_36 fl_X12_69 rfl rfl rfl ?_
      refine Ru_iload_n (pc := 39) dX12_there_39 rfl rfl ?_
      refine Ru_iald (pc := 40) dX12_there_40 rfl (by omega) ?_
      refine Ru_top ((r_sI_n (by omega)).trans ((r_sI_n (by omega)).trans (hy.2 ‹_› w' (by omega)))) ?_
      refine Ru_goto (pc := 41) 50 dX12_there_41 (by decide) ?_
      refine Ru_iret (pc := 50) dX12_there_50 rfl ⟨Nat.le_refl _, Nat.le_refl _⟩ ?_
      have e : f_ng 26 s.1 s.2 (nI w') = ((s.2 w'), 0) := by
        unfold f_ng
        simp only [r_tn (show w' < 2147483648 by omega), Int.toNat_natCast]
        repeat' split
        all_goals first | rfl | (exfalso; omega) | (congr 3; omega) | (simp_all; done)
      rw [e] at k
      exact k _ (r_fx.sI rfl (r_fx.sI rfl r_fx.rf)) r_sI_s
  · replace h1 := of_decide_eq_false h1
    refine Ru_aload_n (pc := 22) dX12_there_22 rfl rfl ?_
    refine Ru_iconst (pc := 23) (nI 5) dX12_there_23 rfl ?_
    refine Ru_cv1 (pc := 24) dX12_there_24 mv_X12_351 rfl (by decide) (Nat.le_of_ble_eq_true rfl) (c_X12_refuse ?_) 
    refine Ru_iret (pc := 27) dX12_there_27 rfl ⟨Nat.le_refl _, Nat.le_refl _⟩ ?_
    have e : f_ng 26 s.1 s.2 w = (-1, 5) := by
      unfold f_ng
      repeat' split
      all_goals first | rfl | (exfalso; omega) | (congr 3; omega) | (simp_all; done)
    rw [e] at k
    exact k _ (r_fx.sI rfl (r_fx.sI rfl (r_fx.sI rfl r_fx.rf))) r_sI_s

theorem c_X11_there {Q : Rq} {M : Mem} {s : Tl} {w : Int32} (hy : X_th s M) (k : ∀ M', r_fx [(0, 0)] [] M M' → M'.1 0 0 = nI (f_ng 26 s.1 s.2 w).2 → Q (some (.int (f_ng 26 s.1 s.2 w).1)) GX M') : Ca 1 mt_X11_there 0 0 [.ref 0, .int w] GX M Q := by
  refine Ca_of rfl (Nat.le_of_ble_eq_true rfl) ?_
  refine Ru_iload_n (pc := 0) dX11_there_0 rfl rfl ?_
  refine Ru_if_ltT (pc := 1) 10 dX11_there_1 (by decide) (fun h1 => ?_) (fun h1 => ?_)
  · refine Ru_aload_n (pc := 10) dX11_there_10 rfl rfl ?_
    refine Ru_iconst (pc := 11) (nI 5) dX11_there_11 rfl ?_
    refine Ru_cv1 (pc := 12) dX11_there_12 mv_X11_112 rfl (by decide) (Nat.le_of_ble_eq_true rfl) (c_X11_fail ?_) 
    refine Ru_iret (pc := 15) dX11_there_15 rfl ⟨Nat.le_refl _, Nat.le_refl _⟩ ?_
    have e : f_ng 26 s.1 s.2 w = (-1, 5) := by
      unfold f_ng
      repeat' split
      all_goals first | rfl | (exfalso; omega) | (congr 3; omega) | (simp_all; done)
    rw [e] at k
    exact k _ (r_fx.sI rfl r_fx.rf) r_sI_s
  · refine Ru_iload_n (pc := 4) dX11_there_4 rfl rfl ?_
    refine Ru_bipush (pc := 5) (nI 25) dX11_there_5 rfl ?_
    refine Ru_icmp_leL (pc := 7) 16 dX11_there_7 (by decide) (by omega) (fun h2 => ?_) (fun h2 => ?_)
    · obtain ⟨w', hw', rfl⟩ := r_nat (x := w) (n := 26) (by omega) (by omega)
      have ew := r_tn (show w' < 2147483648 by omega)
      refine Ru_aload_n (pc := 16) dX11_there_16 rfl rfl ?_
      refine Ru_getR (pc := 17) 67 dX11_there_17 fl_X11_75 rfl rfl (rfX_of (o := 0) (j := 67) rfl rfl) ?_
      refine Ru_getI (pc := 20) dX11_there_20 fl_X11_375 rfl rfl ?_
      refine Ru_top hy.1 ?_
      refine Ru_if_neB (pc := 23) 33 dX11_there_23 (by decide) (fun h3 => ?_) (fun h3 => ?_)
      · refine Ru_aload_n (pc := 33) dX11_there_33 rfl rfl ?_
        refine Ru_aload_n (pc := 34) dX11_there_34 rfl rfl ?_
        refine Ru_getR (pc := 35) 67 dX11_there_35 fl_X11_75 rfl rfl (rfX_of (o := 0) (j := 67) rfl rfl) ?_
        refine Ru_getR (pc := 38) 68 dX11_there_38 fl_X11_378 rfl rfl (rfX_of (o := 67) (j := 1) rfl rfl) ?_
        refine Ru_iload_n (pc := 41) dX11_there_41 rfl rfl ?_
        refine Ru_iald (pc := 42) dX11_there_42 rfl (by omega) ?_
        refine Ru_top (hy.2 ‹_› w' (by omega)) ?_
        refine Ru_cv1 (pc := 43) dX11_there_43 mv_X11_170 rfl (by decide) (Nat.le_of_ble_eq_true rfl) (c_X11_tell ?_) 
        refine Ru_iret (pc := 46) dX11_there_46 rfl ⟨Nat.le_refl _, Nat.le_refl _⟩ ?_
        have e : f_ng 26 s.1 s.2 (nI w') = ((s.2 w'), 0) := by
          unfold f_ng
          simp only [r_tn (show w' < 2147483648 by omega), Int.toNat_natCast]
          repeat' split
          all_goals first | rfl | (exfalso; omega) | (congr 3; omega) | (simp_all; done)
        rw [e] at k
        exact k _ (r_fx.sI rfl r_fx.rf) r_sI_s
      · refine Ru_aload_n (pc := 26) dX11_there_26 rfl rfl ?_
        refine Ru_bipush (pc := 27) (nI 8) dX11_there_27 rfl ?_
        refine Ru_cv1 (pc := 29) dX11_there_29 mv_X11_112 rfl (by decide) (Nat.le_of_ble_eq_true rfl) (c_X11_fail ?_) 
        refine Ru_iret (pc := 32) dX11_there_32 rfl ⟨Nat.le_refl _, Nat.le_refl _⟩ ?_
        have e : f_ng 26 s.1 s.2 (nI w') = (-1, 8) := by
          unfold f_ng
          simp only [r_tn (show w' < 2147483648 by omega), Int.toNat_natCast]
          repeat' split
          all_goals first | rfl | (exfalso; omega) | (congr 3; omega) | (simp_all; done)
        rw [e] at k
        exact k _ (r_fx.sI rfl r_fx.rf) r_sI_s
    · refine Ru_aload_n (pc := 10) dX11_there_10 rfl rfl ?_
      refine Ru_iconst (pc := 11) (nI 5) dX11_there_11 rfl ?_
      refine Ru_cv1 (pc := 12) dX11_there_12 mv_X11_112 rfl (by decide) (Nat.le_of_ble_eq_true rfl) (c_X11_fail ?_) 
      refine Ru_iret (pc := 15) dX11_there_15 rfl ⟨Nat.le_refl _, Nat.le_refl _⟩ ?_
      have e : f_ng 26 s.1 s.2 w = (-1, 5) := by
        unfold f_ng
        repeat' split
        all_goals first | rfl | (exfalso; omega) | (congr 3; omega) | (simp_all; done)
      rw [e] at k
      exact k _ (r_fx.sI rfl r_fx.rf) r_sI_s

theorem c_X12_lived {Q : Rq} {M : Mem} {s : Tl} {w : Int32} (hy : Y_lv s M) (k : ∀ M', r_fx [(0, 0), (0, 1)] [] M M' → M'.1 0 0 = nI (f_ng 4 s.1 s.2 w).2 → Q (some (.int (f_ng 4 s.1 s.2 w).1)) GY M') : Ca 1 mt_X12_lived 0 0 [.ref 0, .int w] GY M Q := by
  refine Ca_of rfl (Nat.le_of_ble_eq_true rfl) ?_
  refine Ru_aload_n (pc := 0) dX12_lived_0 rfl rfl ?_
  refine Ru_iconst (pc := 1) (nI 0) dX12_lived_1 rfl ?_
  refine Ru_putI (pc := 2) rfl dX12_lived_2 fl_X12_87 rfl ?_
  refine Ru_aload_n (pc := 5) dX12_lived_5 rfl rfl ?_
  refine Ru_iconst (pc := 6) (nI 0) dX12_lived_6 rfl ?_
  refine Ru_putI (pc := 7) rfl dX12_lived_7 fl_X12_90 rfl ?_
  refine Ru_iload_n (pc := 10) dX12_lived_10 rfl rfl ?_
  refine Ru_i2l (pc := 11) _ dX12_lived_11 rfl ?_
  refine Ru_lconst (pc := 12) 0 dX12_lived_12 rfl ?_
  refine Ru_ldc2 (pc := 13) dX12_lived_13 tw_1881 ?_
  refine Ru_cs3 (pc := 16) dX12_lived_16 ms_X12_122 (by decide) (Nat.le_of_ble_eq_true rfl) (c_X12_isIn (0) (3) rfl rfl ?_) 
  refine Ru_if_neB (pc := 19) 28 dX12_lived_19 (by decide) (fun h1 => ?_) (fun h1 => ?_)
  · replace h1 := of_decide_eq_true h1
    refine Ru_aload_n (pc := 28) dX12_lived_28 rfl rfl ?_
    refine Ru_getI (pc := 29) dX12_lived_29 fl_X12_585 rfl rfl ?_
    refine Ru_top ((r_sI_n (by decide)).trans ((r_sI_n (by decide)).trans hy.1)) ?_
    refine Ru_if_neB (pc := 32) 42 dX12_lived_32 (by decide) (fun h2 => ?_) (fun h2 => ?_)
    · refine Ru_iload_n (pc := 42) dX12_lived_42 rfl rfl ?_
      refine Ru_if_neT (pc := 43) 53 dX12_lived_43 (by decide) (fun h3 => ?_) (fun h3 => ?_)
      · refine Ru_iload_n (pc := 53) dX12_lived_53 rfl rfl ?_
        refine Ru_iconst (pc := 54) (nI 1) dX12_lived_54 rfl ?_
        refine Ru_icmp_neL (pc := 55) 65 dX12_lived_55 (by decide) (by omega) (fun h4 => ?_) (fun h4 => ?_)
        · refine Ru_iload_n (pc := 65) dX12_lived_65 rfl rfl ?_
          refine Ru_iconst (pc := 66) (nI 2) dX12_lived_66 rfl ?_
          refine Ru_icmp_neL (pc := 67) 77 dX12_lived_67 (by decide) (by omega) (fun h5 => ?_) (fun h5 => ?_)
          · refine Ru_aload_n (pc := 77) dX12_lived_77 rfl rfl ?_
            refine Ru_getI (pc := 78) dX12_lived_78 fl_X12_579 rfl rfl ?_
            refine Ru_top ((r_sI_n (by decide)).trans ((r_sI_n (by decide)).trans (hy.2 ‹_› 3 (by omega)))) ?_
            refine Ru_iret (pc := 81) dX12_lived_81 rfl ⟨Nat.le_refl _, Nat.le_refl _⟩ ?_
            have e : f_ng 4 s.1 s.2 w = ((s.2 3), 0) := by
              unfold f_ng
              repeat' split
              all_goals first | rfl | (exfalso; omega) | (simp_all; done) | (refine Prod.ext (congrArg s.2 ?_) rfl; show Int.toNat _ = _; omega)
            rw [e] at k
            exact k _ (r_fx.sI rfl (r_fx.sI rfl r_fx.rf)) r_sI_s
          · refine Ru_aload_n (pc := 70) dX12_lived_70 rfl rfl ?_
            refine Ru_getI (pc := 71) dX12_lived_71 fl_X12_576 rfl rfl ?_
            refine Ru_top ((r_sI_n (by decide)).trans ((r_sI_n (by decide)).trans (hy.2 ‹_› 2 (by omega)))) ?_
            refine Ru_goto (pc := 74) 81 dX12_lived_74 (by decide) ?_
            refine Ru_iret (pc := 81) dX12_lived_81 rfl ⟨Nat.le_refl _, Nat.le_refl _⟩ ?_
            have e : f_ng 4 s.1 s.2 w = ((s.2 2), 0) := by
              unfold f_ng
              repeat' split
              all_goals first | rfl | (exfalso; omega) | (simp_all; done) | (refine Prod.ext (congrArg s.2 ?_) rfl; show Int.toNat _ = _; omega)
            rw [e] at k
            exact k _ (r_fx.sI rfl (r_fx.sI rfl r_fx.rf)) r_sI_s
        · refine Ru_aload_n (pc := 58) dX12_lived_58 rfl rfl ?_
          refine Ru_getI (pc := 59) dX12_lived_59 fl_X12_573 rfl rfl ?_
          refine Ru_top ((r_sI_n (by decide)).trans ((r_sI_n (by decide)).trans (hy.2 ‹_› 1 (by omega)))) ?_
          refine Ru_goto (pc := 62) 81 dX12_lived_62 (by decide) ?_
          refine Ru_iret (pc := 81) dX12_lived_81 rfl ⟨Nat.le_refl _, Nat.le_refl _⟩ ?_
          have e : f_ng 4 s.1 s.2 w = ((s.2 1), 0) := by
            unfold f_ng
            repeat' split
            all_goals first | rfl | (exfalso; omega) | (simp_all; done) | (refine Prod.ext (congrArg s.2 ?_) rfl; show Int.toNat _ = _; omega)
          rw [e] at k
          exact k _ (r_fx.sI rfl (r_fx.sI rfl r_fx.rf)) r_sI_s
      · refine Ru_aload_n (pc := 46) dX12_lived_46 rfl rfl ?_
        refine Ru_getI (pc := 47) dX12_lived_47 fl_X12_570 rfl rfl ?_
        refine Ru_top ((r_sI_n (by decide)).trans ((r_sI_n (by decide)).trans (hy.2 ‹_› 0 (by omega)))) ?_
        refine Ru_goto (pc := 50) 81 dX12_lived_50 (by decide) ?_
        refine Ru_iret (pc := 81) dX12_lived_81 rfl ⟨Nat.le_refl _, Nat.le_refl _⟩ ?_
        have e : f_ng 4 s.1 s.2 w = ((s.2 0), 0) := by
          unfold f_ng
          repeat' split
          all_goals first | rfl | (exfalso; omega) | (simp_all; done) | (refine Prod.ext (congrArg s.2 ?_) rfl; show Int.toNat _ = _; omega)
        rw [e] at k
        exact k _ (r_fx.sI rfl (r_fx.sI rfl r_fx.rf)) r_sI_s
    · refine Ru_aload_n (pc := 35) dX12_lived_35 rfl rfl ?_
      refine Ru_bipush (pc := 36) (nI 8) dX12_lived_36 rfl ?_
      refine Ru_cv1 (pc := 38) dX12_lived_38 mv_X12_351 rfl (by decide) (Nat.le_of_ble_eq_true rfl) (c_X12_refuse ?_) 
      refine Ru_iret (pc := 41) dX12_lived_41 rfl ⟨Nat.le_refl _, Nat.le_refl _⟩ ?_
      have e : f_ng 4 s.1 s.2 w = (-1, 8) := by
        unfold f_ng
        repeat' split
        all_goals first | rfl | (exfalso; omega) | (simp_all; done) | (refine Prod.ext (congrArg s.2 ?_) rfl; show Int.toNat _ = _; omega)
      rw [e] at k
      exact k _ (r_fx.sI rfl (r_fx.sI rfl (r_fx.sI rfl r_fx.rf))) r_sI_s
  · replace h1 := of_decide_eq_false h1
    refine Ru_aload_n (pc := 22) dX12_lived_22 rfl rfl ?_
    refine Ru_iconst (pc := 23) (nI 5) dX12_lived_23 rfl ?_
    refine Ru_cv1 (pc := 24) dX12_lived_24 mv_X12_351 rfl (by decide) (Nat.le_of_ble_eq_true rfl) (c_X12_refuse ?_) 
    refine Ru_iret (pc := 27) dX12_lived_27 rfl ⟨Nat.le_refl _, Nat.le_refl _⟩ ?_
    have e : f_ng 4 s.1 s.2 w = (-1, 5) := by
      unfold f_ng
      repeat' split
      all_goals first | rfl | (exfalso; omega) | (simp_all; done) | (refine Prod.ext (congrArg s.2 ?_) rfl; show Int.toNat _ = _; omega)
    rw [e] at k
    exact k _ (r_fx.sI rfl (r_fx.sI rfl (r_fx.sI rfl r_fx.rf))) r_sI_s

theorem c_X11_lived {Q : Rq} {M : Mem} {s : Tl} {w : Int32} (hy : X_lv s M) (k : ∀ M', r_fx [(0, 0)] [] M M' → M'.1 0 0 = nI (f_ng 4 s.1 s.2 w).2 → Q (some (.int (f_ng 4 s.1 s.2 w).1)) GX M') : Ca 1 mt_X11_lived 0 0 [.ref 0, .int w] GX M Q := by
  refine Ca_of rfl (Nat.le_of_ble_eq_true rfl) ?_
  refine Ru_iload_n (pc := 0) dX11_lived_0 rfl rfl ?_
  refine Ru_if_ltT (pc := 1) 9 dX11_lived_1 (by decide) (fun h1 => ?_) (fun h1 => ?_)
  · refine Ru_aload_n (pc := 9) dX11_lived_9 rfl rfl ?_
    refine Ru_iconst (pc := 10) (nI 5) dX11_lived_10 rfl ?_
    refine Ru_cv1 (pc := 11) dX11_lived_11 mv_X11_112 rfl (by decide) (Nat.le_of_ble_eq_true rfl) (c_X11_fail ?_) 
    refine Ru_iret (pc := 14) dX11_lived_14 rfl ⟨Nat.le_refl _, Nat.le_refl _⟩ ?_
    have e : f_ng 4 s.1 s.2 w = (-1, 5) := by
      unfold f_ng
      repeat' split
      all_goals first | rfl | (exfalso; omega) | (congr 3; omega) | (simp_all; done)
    rw [e] at k
    exact k _ (r_fx.sI rfl r_fx.rf) r_sI_s
  · refine Ru_iload_n (pc := 4) dX11_lived_4 rfl rfl ?_
    refine Ru_iconst (pc := 5) (nI 3) dX11_lived_5 rfl ?_
    refine Ru_icmp_leL (pc := 6) 15 dX11_lived_6 (by decide) (by omega) (fun h2 => ?_) (fun h2 => ?_)
    · obtain ⟨w', hw', rfl⟩ := r_nat (x := w) (n := 4) (by omega) (by omega)
      have ew := r_tn (show w' < 2147483648 by omega)
      refine Ru_aload_n (pc := 15) dX11_lived_15 rfl rfl ?_
      refine Ru_getR (pc := 16) 67 dX11_lived_16 fl_X11_75 rfl rfl (rfX_of (o := 0) (j := 67) rfl rfl) ?_
      refine Ru_getI (pc := 19) dX11_lived_19 fl_X11_384 rfl rfl ?_
      refine Ru_top hy.1 ?_
      refine Ru_if_neB (pc := 22) 32 dX11_lived_22 (by decide) (fun h3 => ?_) (fun h3 => ?_)
      · refine Ru_aload_n (pc := 32) dX11_lived_32 rfl rfl ?_
        refine Ru_aload_n (pc := 33) dX11_lived_33 rfl rfl ?_
        refine Ru_getR (pc := 34) 67 dX11_lived_34 fl_X11_75 rfl rfl (rfX_of (o := 0) (j := 67) rfl rfl) ?_
        refine Ru_getR (pc := 37) 69 dX11_lived_37 fl_X11_387 rfl rfl (rfX_of (o := 67) (j := 2) rfl rfl) ?_
        refine Ru_iload_n (pc := 40) dX11_lived_40 rfl rfl ?_
        refine Ru_iald (pc := 41) dX11_lived_41 rfl (by omega) ?_
        refine Ru_top (hy.2 ‹_› w' (by omega)) ?_
        refine Ru_cv1 (pc := 42) dX11_lived_42 mv_X11_170 rfl (by decide) (Nat.le_of_ble_eq_true rfl) (c_X11_tell ?_) 
        refine Ru_iret (pc := 45) dX11_lived_45 rfl ⟨Nat.le_refl _, Nat.le_refl _⟩ ?_
        have e : f_ng 4 s.1 s.2 (nI w') = ((s.2 w'), 0) := by
          unfold f_ng
          simp only [r_tn (show w' < 2147483648 by omega), Int.toNat_natCast]
          repeat' split
          all_goals first | rfl | (exfalso; omega) | (congr 3; omega) | (simp_all; done)
        rw [e] at k
        exact k _ (r_fx.sI rfl r_fx.rf) r_sI_s
      · refine Ru_aload_n (pc := 25) dX11_lived_25 rfl rfl ?_
        refine Ru_bipush (pc := 26) (nI 8) dX11_lived_26 rfl ?_
        refine Ru_cv1 (pc := 28) dX11_lived_28 mv_X11_112 rfl (by decide) (Nat.le_of_ble_eq_true rfl) (c_X11_fail ?_) 
        refine Ru_iret (pc := 31) dX11_lived_31 rfl ⟨Nat.le_refl _, Nat.le_refl _⟩ ?_
        have e : f_ng 4 s.1 s.2 (nI w') = (-1, 8) := by
          unfold f_ng
          simp only [r_tn (show w' < 2147483648 by omega), Int.toNat_natCast]
          repeat' split
          all_goals first | rfl | (exfalso; omega) | (congr 3; omega) | (simp_all; done)
        rw [e] at k
        exact k _ (r_fx.sI rfl r_fx.rf) r_sI_s
    · refine Ru_aload_n (pc := 9) dX11_lived_9 rfl rfl ?_
      refine Ru_iconst (pc := 10) (nI 5) dX11_lived_10 rfl ?_
      refine Ru_cv1 (pc := 11) dX11_lived_11 mv_X11_112 rfl (by decide) (Nat.le_of_ble_eq_true rfl) (c_X11_fail ?_) 
      refine Ru_iret (pc := 14) dX11_lived_14 rfl ⟨Nat.le_refl _, Nat.le_refl _⟩ ?_
      have e : f_ng 4 s.1 s.2 w = (-1, 5) := by
        unfold f_ng
        repeat' split
        all_goals first | rfl | (exfalso; omega) | (congr 3; omega) | (simp_all; done)
      rw [e] at k
      exact k _ (r_fx.sI rfl r_fx.rf) r_sI_s
