-- THE JOBS OF A PLAN
def X_pj (pl : Nat) (d : Td) (M : Mem) : Prop := ∀ j, j < d 4 → M.1 (pl + 1) j = nI (d (521 + 5 * j)) ∧ (d (521 + 5 * j) = 0 → M.1 (pl + 2) j = nI (d (522 + 5 * j))) ∧ M.1 (pl + 3) j = nI (d (523 + 5 * j)) ∧ M.1 (pl + 4) j = nI (d (524 + 5 * j))
def Y_pj (d : Td) (M : Mem) : Prop := ∀ j, j < d 4 → M.1 5 (521 + 5 * j) = nI (d (521 + 5 * j)) ∧ (d (521 + 5 * j) = 0 → M.1 5 (521 + 5 * j + 1) = nI (d (522 + 5 * j))) ∧ M.1 5 (521 + 5 * j + 2) = nI (d (523 + 5 * j)) ∧ M.1 5 (521 + 5 * j + 3) = nI (d (524 + 5 * j))
def Wj (d : Td) : Prop := ∀ j, j < d 4 → d (521 + 5 * j) ≤ 3 ∧ (d (521 + 5 * j) = 0 → d (522 + 5 * j) ≤ 23 ∧ d (523 + 5 * j) < d 1 ∧ d (524 + 5 * j) < 2 ^ d 2) ∧ (d (521 + 5 * j) ≠ 0 → d (523 + 5 * j) < d 0 ∧ d (524 + 5 * j) = 0)
/-- the hours of a job, those of its day -/
def spn (st h : Nat) : Nat := orB (fun i => decide (st ≤ i ∧ i < st + h)) 24

set_option maxRecDepth 100000 in
theorem spn_ok0 : ∀ h, h < 25 → ∀ st, st < 24 → ((((nI (2 ^ h)) - (nI 1)) <<< ((nI st) &&& 31)) &&& (nI 16777215)) = nI (spn st h) := by decide +kernel
theorem spn_ok (h : Nat) (q : h < 25) (st : Nat) (q2 : st < 24) : ((((nI (2 ^ h)) - (nI 1)) <<< ((nI st) &&& 31)) &&& (nI 16777215)) = nI (spn st h) := spn_ok0 h q st q2

theorem c_X1_span {Q : Rq} {M : Mem} {mk t lw pl j : Nat} {d : Td} (hu : X_cu mk t lw pl d M) (hx : X_tm t d M) (wf : Wf d) (wj : Wj d) (hpj : X_pj pl d M) (hj : j < d 4) (hk0 : d (521 + 5 * j) = 0) (k : Q (some (.int (nI (spn (d (522 + 5 * j)) (d (41 + d (523 + 5 * j))))))) GX M) : Ca 0 mt_X1_span 0 0 [.ref t, .int (nI j)] GX M Q := by
  refine Ca_of rfl (Nat.le_of_ble_eq_true rfl) ?_
  have hb := wf.1
  have ht : isTown t := hu.1.2.2.2
  have hpl : isPlan pl := hu.2.2.2.1
  have hw0 := (wj j hj).2.1 hk0
  have hm5 := wf.2.2.2.2.1 _ hw0.2.1
  refine Ru_aload_n (pc := 0) dX1_span_0 rfl rfl ?_
  refine Ru_getR (pc := 1) (t + 6) dX1_span_1 fl_X1_143 (shTown_0 ht) rfl (rfX_of (o := t) (j := 6) (shTown_0 ht) rfl) ?_
  refine Ru_aload_n (pc := 4) dX1_span_4 rfl rfl ?_
  refine Ru_getR (pc := 5) pl dX1_span_5 fl_X1_49 (shTown_0 ht) rfl ((rfX_mut (shTown_0 ht) rfl).trans hu.2.2.1) ?_
  refine Ru_getR (pc := 8) (pl + 3) dX1_span_8 fl_X1_119 (shPlan_0 hpl) rfl (rfX_of (o := pl) (j := 3) (shPlan_0 hpl) rfl) ?_
  refine Ru_iload_n (pc := 11) dX1_span_11 rfl rfl ?_
  refine Ru_iald (pc := 12) dX1_span_12 (shPlan_3 hpl) (by omega) ?_
  refine Ru_top (hpj j (by omega)).2.2.1 ?_
  refine Ru_iald (pc := 13) dX1_span_13 (shTown_6 ht) (by omega) ?_
  refine Ru_top (hx.2.2.1 (d (523 + 5 * j)) (by omega)).2.1 ?_
  refine Ru_istore_n (pc := 14) dX1_span_14 rfl rfl (by decide) ?_
  refine Ru_iconst (pc := 15) (nI 1) dX1_span_15 rfl ?_
  refine Ru_iload_n (pc := 16) dX1_span_16 rfl rfl ?_
  refine Ru_ishl1N (pc := 17) dX1_span_17 (by omega) ?_
  refine Ru_iconst (pc := 18) (nI 1) dX1_span_18 rfl ?_
  refine Ru_isub (pc := 19) dX1_span_19 ?_
  refine Ru_aload_n (pc := 20) dX1_span_20 rfl rfl ?_
  refine Ru_getR (pc := 21) pl dX1_span_21 fl_X1_49 (shTown_0 ht) rfl ((rfX_mut (shTown_0 ht) rfl).trans hu.2.2.1) ?_
  refine Ru_getR (pc := 24) (pl + 2) dX1_span_24 fl_X1_140 (shPlan_0 hpl) rfl (rfX_of (o := pl) (j := 2) (shPlan_0 hpl) rfl) ?_
  refine Ru_iload_n (pc := 27) dX1_span_27 rfl rfl ?_
  refine Ru_iald (pc := 28) dX1_span_28 (shPlan_2 hpl) (by omega) ?_
  refine Ru_top ((hpj j (by omega)).2.1 (by assumption)) ?_
  refine Ru_ishl (pc := 29) dX1_span_29 ?_
  refine Ru_ldc (pc := 30) dX1_span_30 tw_1268 ?_
  refine Ru_top (show (16777215 : Int32) = nI 16777215 from rfl) ?_
  refine Ru_iand (pc := 32) dX1_span_32 ?_
  have em := wf.2.2.2.2.1 _ hw0.2.1
  refine Ru_top (show ((((nI (2 ^ (d (41 + (d (523 + 5 * j)))))) - (nI 1)) <<< ((nI (d (522 + 5 * j))) &&& 31)) &&& (nI 16777215)) = nI (spn (d (522 + 5 * j)) (d (41 + d (523 + 5 * j)))) from spn_ok _ (by omega) _ (by omega)) ?_
  refine Ru_iret (pc := 33) dX1_span_33 rfl ⟨Nat.le_refl _, Nat.le_refl _⟩ ?_
  exact k
