-- A JOB'S CELL: the reference

theorem c_X12_jobCell {Q : Rq} {M : Mem} {j i v : Nat} (hj : j < 24) (hi : i < 5) (hv : M.1 5 (521 + 5 * j + i) = nI v) (k : Q (some (.int (nI v))) GY M) : Ca 0 mt_X12_jobCell 0 0 [.ref 0, .int (nI j), .int (nI i)] GY M Q := by
  refine Ca_of rfl (Nat.le_of_ble_eq_true rfl) ?_
  refine Ru_aload_n (pc := 0) dX12_jobCell_0 rfl rfl ?_
  refine Ru_getR (pc := 1) 5 dX12_jobCell_1 fl_X12_35 rfl rfl rfl ?_
  refine Ru_sipush (pc := 4) (nI 521) dX12_jobCell_4 rfl ?_
  refine Ru_iconst (pc := 7) (nI 5) dX12_jobCell_7 rfl ?_
  refine Ru_iload_n (pc := 8) dX12_jobCell_8 rfl rfl ?_
  refine Ru_imulN (pc := 9) dX12_jobCell_9 ?_
  refine Ru_iaddN (pc := 10) dX12_jobCell_10 ?_
  refine Ru_iload_n (pc := 11) dX12_jobCell_11 rfl rfl ?_
  refine Ru_iaddN (pc := 12) dX12_jobCell_12 ?_
  refine Ru_iald (pc := 13) dX12_jobCell_13 rfl (by omega) ?_
  refine Ru_top hv ?_
  refine Ru_iret (pc := 14) dX12_jobCell_14 rfl ⟨Nat.le_refl _, Nat.le_refl _⟩ ?_
  exact k
