-- READING: the WANTS in order, the developers' side
def oW (d : Td) (q w : Nat) : List Nat := (List.range w).filter (fun w => d (115 + w) == q)
def oL (d : Td) (q w : Nat) : List Nat := ordH d q ++ oW d q w
theorem oW_y {d : Td} {q w : Nat} (h : d (115 + w) = q) : oW d q (w + 1) = oW d q w ++ [w] := by
  unfold oW
  rw [List.range_succ, List.filter_append]
  simp [h]
theorem oW_n {d : Td} {q w : Nat} (h : ¬ d (115 + w) = q) : oW d q (w + 1) = oW d q w := by
  unfold oW
  rw [List.range_succ, List.filter_append]
  simp [h]
theorem oL_y {d : Td} {q w : Nat} (h : d (115 + w) = q) : oL d q (w + 1) = oL d q w ++ [w] := by
  unfold oL
  rw [oW_y h, List.append_assoc]
theorem oL_n {d : Td} {q w : Nat} (h : ¬ d (115 + w) = q) : oL d q (w + 1) = oL d q w := by
  unfold oL
  rw [oW_n h]
theorem oW_le {d : Td} {q w : Nat} : ∀ n, (oW d q w).length ≤ (oW d q (w + n)).length
  | 0 => Nat.le_refl _
  | n + 1 => by
    refine Nat.le_trans (oW_le n) ?_
    rw [show w + (n + 1) = (w + n) + 1 from rfl]
    by_cases h : d (115 + (w + n)) = q
    · rw [oW_y h, List.length_append]
      exact Nat.le_add_right _ _
    · rw [oW_n h]
      exact Nat.le_refl _
theorem oL_all (d : Td) (q : Nat) : oL d q (d 3) = ordH d (q + 1) := (ordH_succ d q).symm
theorem oL_le {d : Td} {q w : Nat} (h : w ≤ d 3) : (oL d q w).length ≤ d 3 := by
  refine Nat.le_trans ?_ (ordH_le d (q + 1))
  rw [← oL_all]
  unfold oL
  rw [List.length_append, List.length_append]
  have := oW_le (d := d) (q := q) (w := w) (d 3 - w)
  rw [show w + (d 3 - w) = d 3 by omega] at this
  omega
theorem oL_0 (d : Td) (q : Nat) : oL d q 0 = ordH d q := by
  unfold oL oW
  simp
theorem gD_l {l : List Nat} {w i : Nat} (h : i < l.length) : (l ++ [w]).getD i 0 = l.getD i 0 := by
  simp [List.getD_eq_getElem?_getD, List.getElem?_append, h]
theorem gD_r {l : List Nat} {w : Nat} : (l ++ [w]).getD l.length 0 = w := by
  simp [List.getD_eq_getElem?_getD]

theorem l_X9_ord1 {Q : Rq} {M0 : Mem} {u : Nat} {d : Td} (hu : isTown u) (hb0 : X_bt u d M0) (wf : Wf d) {q : Nat} (hq24 : q ≤ 24) (k : ∀ M', (∀ o k, ¬ o = u + 17 → ¬ o = u + 18 → r_eq3 M0 M' o k) → (∀ h, h < q + 1 → M'.1 (u + 18) h = nI (ordH d h).length) → (∀ i, i < (ordH d (q + 1)).length → M'.1 (u + 17) i = nI ((ordH d (q + 1)).getD i 0)) → Ru 0 mt_X9_orderWants r_z 53 [(0, some (.ref u)), (1, some (.int (nI (ordH d (q + 1)).length))), (2, some (.int (nI q)))] [] GX M' Q) : ∀ (zw : Nat) (w : Nat) (M : Mem), d 3 - w = zw → (w ≤ d 3) → (∀ o k, ¬ o = u + 17 → ¬ o = u + 18 → r_eq3 M0 M o k) → (∀ h, h < q + 1 → M.1 (u + 18) h = nI (ordH d h).length) → (∀ i, i < (oL d q w).length → M.1 (u + 17) i = nI ((oL d q w).getD i 0)) → Ru 0 mt_X9_orderWants r_z 19 [(0, some (.ref u)), (1, some (.int (nI (oL d q w).length))), (2, some (.int (nI q))), (3, some (.int (nI w)))] [] GX M Q := by
  intro zw
  induction zw using Nat.strongRecOn with
  | ind zw ih =>
    intro w M hw hwd fx g18 g17
    subst hw
    have hT : u = 3 ∨ u = 83 ∨ u = 111 ∨ u = 139 ∨ u = 167 := hu
    have hx := wf.1
    have ll0 := oL_le (d := d) (q := q) (w := w) hwd
    refine Ru_iload_n (pc := 19) dX9_orderWants_19 rfl rfl ?_
    refine Ru_aload_n (pc := 20) dX9_orderWants_20 rfl rfl ?_
    refine Ru_getI (pc := 21) dX9_orderWants_21 fl_X9_103 (shTown_0 hu) rfl ?_
    refine Ru_top ((fx u 12 (by omega) (by omega)).1.trans hb0.1) ?_
    refine Ru_icmp_geN (pc := 24) 53 dX9_orderWants_24 (by decide) (by omega) (fun h1 => ?_) (fun h1 => ?_)
    · have ew : w = d 3 := by omega
      subst ew
      rw [oL_all] at g17 ⊢
      exact Ru_weak (k M fx g18 g17) rfl
    · have w15 := (hb0.2.2.2.2 w (by omega)).2.1
      have d15 := (wf.2.2.2.2.2.2 w (by omega)).2.1
      refine Ru_aload_n (pc := 27) dX9_orderWants_27 rfl rfl ?_
      refine Ru_getR (pc := 28) (u + 15) dX9_orderWants_28 fl_X9_51 (shTown_0 hu) rfl (rfX_of (o := u) (j := 15) (shTown_0 hu) rfl) ?_
      refine Ru_iload_n (pc := 31) dX9_orderWants_31 rfl rfl ?_
      refine Ru_iald (pc := 32) dX9_orderWants_32 (shTown_15 hu) (by omega) ?_
      refine Ru_top ((fx (u + 15) w (by omega) (by omega)).1.trans (hb0.2.2.2.2 w (by omega)).2.1) ?_
      refine Ru_iload_n (pc := 33) dX9_orderWants_33 rfl rfl ?_
      refine Ru_icmp_neN (pc := 34) 47 dX9_orderWants_34 (by decide) (by omega) (fun h2 => ?_) (fun h2 => ?_)
      · refine Ru_iincN (pc := 47) 1 dX9_orderWants_47 rfl rfl rfl (by decide) ?_
        refine Ru_goto (pc := 50) 19 dX9_orderWants_50 (by decide) ?_
        have ll := oL_le (d := d) (q := q) (w := w + 1) (by omega)
        have eL : oL d q (w + 1) = oL d q w := oL_n (by assumption)
        refine Ru_weak (ih (d 3 - (w + 1)) (by omega) (w + 1) M rfl (by omega) fx g18 (by rw [eL]; exact g17)) (by rw [eL]; rfl)
      · have ll1 := oL_le (d := d) (q := q) (w := w + 1) (by omega)
        rw [oL_y (by assumption), List.length_append] at ll1
        have ll2 : (oL d q w).length + 1 ≤ d 3 := ll1
        refine Ru_aload_n (pc := 37) dX9_orderWants_37 rfl rfl ?_
        refine Ru_getR (pc := 38) (u + 17) dX9_orderWants_38 fl_X9_57 (shTown_0 hu) rfl (rfX_of (o := u) (j := 17) (shTown_0 hu) rfl) ?_
        refine Ru_iload_n (pc := 41) dX9_orderWants_41 rfl rfl ?_
        refine Ru_iload_n (pc := 42) dX9_orderWants_42 rfl rfl ?_
        refine Ru_iast (pc := 43) rfl dX9_orderWants_43 (shTown_17 hu) (by omega) ?_
        refine Ru_iincN (pc := 44) 1 dX9_orderWants_44 rfl rfl rfl (by decide) ?_
        refine Ru_iincN (pc := 47) 1 dX9_orderWants_47 rfl rfl rfl (by decide) ?_
        refine Ru_goto (pc := 50) 19 dX9_orderWants_50 (by decide) ?_
        have ll := oL_le (d := d) (q := q) (w := w + 1) (by omega)
        have eL : oL d q (w + 1) = oL d q w ++ [w] := oL_y (by assumption)
        refine Ru_weak (ih (d 3 - (w + 1)) (by omega) (w + 1) _ rfl (by omega) (fun o k h1 h2 => ?_) (fun h hh => (r_sI_n (by omega)).trans (g18 h hh)) (fun i hi => ?_)) (by rw [eL, List.length_append]; rfl)
        · have e := fx o k h1 h2
          exact ⟨(r_sI_n (by omega)).trans e.1, e.2.1, e.2.2⟩
        · rw [eL] at hi ⊢
          rw [List.length_append] at hi
          have hi2 : i < (oL d q w).length + 1 := hi
          by_cases e : i = (oL d q w).length
          · rw [e, gD_r]
            exact r_sI_s
          · rw [gD_l (by omega)]
            exact (r_sI_n (by omega)).trans (g17 i (by omega))

theorem l_X9_ord {Q : Rq} {M0 : Mem} {u : Nat} {d : Td} (hu : isTown u) (hb0 : X_bt u d M0) (wf : Wf d) (k : ∀ M', (∀ o k, ¬ o = u + 17 → ¬ o = u + 18 → r_eq3 M0 M' o k) → (∀ h, h < 26 → M'.1 (u + 18) h = nI (ordH d h).length) → (∀ i, i < (ordH d 25).length → M'.1 (u + 17) i = nI ((ordH d 25).getD i 0)) → Q none GX M') : ∀ (zw : Nat) (q : Nat) (M : Mem), 25 - q = zw → (q ≤ 25) → (∀ o k, ¬ o = u + 17 → ¬ o = u + 18 → r_eq3 M0 M o k) → (∀ h, h < q → M.1 (u + 18) h = nI (ordH d h).length) → (∀ i, i < (ordH d q).length → M.1 (u + 17) i = nI ((ordH d q).getD i 0)) → Ru 0 mt_X9_orderWants r_z 4 [(0, some (.ref u)), (1, some (.int (nI (ordH d q).length))), (2, some (.int (nI q)))] [] GX M Q := by
  intro zw
  induction zw using Nat.strongRecOn with
  | ind zw ih =>
    intro q M hw hq25 fx g18 g17
    subst hw
    have hT : u = 3 ∨ u = 83 ∨ u = 111 ∨ u = 139 ∨ u = 167 := hu
    have hx := wf.1
    have ll0 := ordH_le d q
    refine Ru_iload_n (pc := 4) dX9_orderWants_4 rfl rfl ?_
    refine Ru_bipush (pc := 5) (nI 24) dX9_orderWants_5 rfl ?_
    refine Ru_icmp_gtN (pc := 7) 59 dX9_orderWants_7 (by decide) (by omega) (fun h1 => ?_) (fun h1 => ?_)
    · refine Ru_aload_n (pc := 59) dX9_orderWants_59 rfl rfl ?_
      refine Ru_getR (pc := 60) (u + 18) dX9_orderWants_60 fl_X9_60 (shTown_0 hu) rfl (rfX_of (o := u) (j := 18) (shTown_0 hu) rfl) ?_
      refine Ru_bipush (pc := 63) (nI 25) dX9_orderWants_63 rfl ?_
      refine Ru_iload_n (pc := 65) dX9_orderWants_65 rfl rfl ?_
      refine Ru_iast (pc := 66) rfl dX9_orderWants_66 (shTown_18 hu) (by omega) ?_
      refine Ru_vret (pc := 67) dX9_orderWants_67 rfl ⟨Nat.le_refl _, Nat.le_refl _⟩ ?_
      have eq : q = 25 := by omega
      subst eq
      refine k _ (fun o k h1 h2 => ?_) (fun h hh => ?_) (fun i hi => ?_)
      · have e := fx o k h1 h2
        exact ⟨(r_sI_n (by omega)).trans e.1, e.2.1, e.2.2⟩
      · by_cases e : h = 25
        · subst e
          exact r_sI_s
        · exact (r_sI_n (by omega)).trans (g18 h (by omega))
      · exact (r_sI_n (by omega)).trans (g17 i hi)
    · refine Ru_aload_n (pc := 10) dX9_orderWants_10 rfl rfl ?_
      refine Ru_getR (pc := 11) (u + 18) dX9_orderWants_11 fl_X9_60 (shTown_0 hu) rfl (rfX_of (o := u) (j := 18) (shTown_0 hu) rfl) ?_
      refine Ru_iload_n (pc := 14) dX9_orderWants_14 rfl rfl ?_
      refine Ru_iload_n (pc := 15) dX9_orderWants_15 rfl rfl ?_
      refine Ru_iast (pc := 16) rfl dX9_orderWants_16 (shTown_18 hu) (by omega) ?_
      refine Ru_iconst (pc := 17) (nI 0) dX9_orderWants_17 rfl ?_
      refine Ru_istore_n (pc := 18) dX9_orderWants_18 rfl rfl (by decide) ?_
      refine Ru_weak (l_X9_ord1 hu hb0 wf (q := q) (by omega) (fun M2 fx2 g182 g172 => ?_) (d 3) 0 _ rfl (Nat.zero_le _) (fun o k h1 h2 => ?_) (fun h hh => ?_) (fun i hi => ?_)) (by rw [oL_0]; rfl)
      rotate_left
      · have e := fx o k h1 h2
        exact ⟨(r_sI_n (by omega)).trans e.1, e.2.1, e.2.2⟩
      · by_cases e : h = q
        · subst e
          exact r_sI_s
        · exact (r_sI_n (by omega)).trans (g18 h (by omega))
      · rw [oL_0] at hi ⊢
        exact (r_sI_n (by omega)).trans (g17 i hi)
      refine Ru_iincN (pc := 53) 1 dX9_orderWants_53 rfl rfl rfl (by decide) ?_
      refine Ru_goto (pc := 56) 4 dX9_orderWants_56 (by decide) ?_
      exact Ru_weak (ih (25 - (q + 1)) (by omega) (q + 1) M2 rfl (by omega) fx2 g182 g172) rfl

theorem c_X9_orderWants {Q : Rq} {M : Mem} {u : Nat} {d : Td} (hu : isTown u) (hb0 : X_bt u d M) (wf : Wf d) (k : ∀ M', (∀ o k, ¬ o = u + 17 → ¬ o = u + 18 → r_eq3 M M' o k) → (∀ h, h < 26 → M'.1 (u + 18) h = nI (ordH d h).length) → (∀ i, i < (ordH d 25).length → M'.1 (u + 17) i = nI ((ordH d 25).getD i 0)) → Q none GX M') : Ca 0 mt_X9_orderWants 0 0 [.ref u] GX M Q := by
  refine Ca_of rfl (Nat.le_of_ble_eq_true rfl) ?_
  refine Ru_iconst (pc := 0) (nI 0) dX9_orderWants_0 rfl ?_
  refine Ru_istore_n (pc := 1) dX9_orderWants_1 rfl rfl (by decide) ?_
  refine Ru_iconst (pc := 2) (nI 0) dX9_orderWants_2 rfl ?_
  refine Ru_istore_n (pc := 3) dX9_orderWants_3 rfl rfl (by decide) ?_
  refine Ru_weak (l_X9_ord hu hb0 wf k 25 0 M rfl (Nat.zero_le _) (fun _ _ _ _ => ⟨rfl, rfl, rfl⟩) (fun h hh => absurd hh (Nat.not_lt_zero _)) (fun i hi => absurd hi (Nat.not_lt_zero _))) rfl
