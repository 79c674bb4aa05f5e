def nF (d : Td) (s r : Nat) (L : List Tp) (M : Mem) : Prop := M.1 46 4 = nI L.length ∧ ∀ i, i < L.length → M.1 49 i = nM (L.getD i (0, 0, 0)).1 ∧ M.1 50 i = nM (L.getD i (0, 0, 0)).2.1 ∧ M.1 51 i = nM (L.getD i (0, 0, 0)).2.2 ∧ M.1 52 i = nI (stA d 0 s r (L.getD i (0, 0, 0)).1 (L.getD i (0, 0, 0)).2.1 (L.getD i (0, 0, 0)).2.2)
theorem getD_snoc {L : List Tp} {x : Tp} {i : Nat} (h : i < L.length + 1) : (L ++ [x]).getD i (0, 0, 0) = if i = L.length then x else L.getD i (0, 0, 0) := by
  rw [List.getD_eq_getElem?_getD, List.getD_eq_getElem?_getD]
  by_cases e : i = L.length
  · subst e
    rw [if_pos rfl, List.getElem?_append_right (Nat.le_refl _), Nat.sub_self]
    rfl
  · rw [if_neg e, List.getElem?_append_left (by omega)]
theorem qMt_lt (d : Td) (s r as wo : Nat) : qMt d s r as wo < 2 ^ d 0 := orB_lt _ _
theorem qW_lt (d : Td) (s r : Nat) : qW d s r < 2 ^ d 0 := Nat.lt_of_le_of_lt Nat.and_le_left (qMt_lt _ _ _ _ _)
theorem qS_lt (d : Td) (s r : Nat) : qS d s r < 2 ^ d 0 := Nat.lt_of_le_of_lt Nat.and_le_left (qMt_lt _ _ _ _ _)
theorem qH_lt (d : Td) (s r : Nat) : qH d s r < 2 ^ d 0 := by
  unfold qH
  split
  · exact qMt_lt _ _ _ _ _
  · exact Nat.two_pow_pos _

theorem c_X4_may_0 {Q : Rq} {M : Mem} {a : Nat} (k : Q (some (.int (nI 1))) GX M) : Ca 0 mt_X4_may 0 0 [.int (-1), .int (nI a)] GX M Q := by
  refine Ca_of rfl (Nat.le_of_ble_eq_true rfl) ?_
  refine Ru_iload_n (pc := 0) dX4_may_0 rfl rfl ?_
  refine Ru_iconst (pc := 1) (-1) dX4_may_1 rfl ?_
  refine Ru_icmp_eqT (pc := 2) 13 dX4_may_2 (by decide) (fun h1 => ?_) (fun h1 => ?_)
  · refine Ru_iconst (pc := 13) (nI 1) dX4_may_13 rfl ?_
    refine Ru_goto (pc := 14) 18 dX4_may_14 (by decide) ?_
    refine Ru_zret (pc := 18) dX4_may_18 rfl ⟨Nat.le_refl _, Nat.le_refl _⟩ (Or.inr rfl) ?_
    exact k
  · exact absurd rfl h1

theorem c_X4_may_s {Q : Rq} {M : Mem} {a t : Nat} (ha : a < 256) (ht : t < 8) (k : Q (some (.int (r_b (a.testBit t)))) GX M) : Ca 0 mt_X4_may 0 0 [.int (nI t), .int (nI a)] GX M Q := by
  refine Ca_of rfl (Nat.le_of_ble_eq_true rfl) ?_
  refine Ru_iload_n (pc := 0) dX4_may_0 rfl rfl ?_
  refine Ru_iconst (pc := 1) (-1) dX4_may_1 rfl ?_
  refine Ru_icmp_eqR (pc := 2) 13 dX4_may_2 (by decide) (by omega) (fun h1 => ?_) (fun h1 => ?_)
  · exfalso
    have em : (-1 : Int32).toInt = -1 := rfl
    rw [em] at h1
    omega
  · refine Ru_iload_n (pc := 5) dX4_may_5 rfl rfl ?_
    refine Ru_iload_n (pc := 6) dX4_may_6 rfl rfl ?_
    refine Ru_ishrN (pc := 7) dX4_may_7 (by omega) ?_
    refine Ru_iconst (pc := 8) (nI 1) dX4_may_8 rfl ?_
    refine Ru_iandN (pc := 9) dX4_may_9 ?_
    refine Ru_if_eqN (pc := 10) 17 dX4_may_10 (by decide) (Nat.lt_of_le_of_lt Nat.and_le_right (by decide)) (fun h2 => ?_) (fun h2 => ?_)
    · have h2b := r_b1_f h2
      refine Ru_iconst (pc := 17) (nI 0) dX4_may_17 rfl ?_
      refine Ru_zret (pc := 18) dX4_may_18 rfl ⟨Nat.le_refl _, Nat.le_refl _⟩ (Or.inl rfl) ?_
      refine r_qe (r_b_f (by assumption)) k
    · have h2b := r_b1_t h2
      refine Ru_iconst (pc := 13) (nI 1) dX4_may_13 rfl ?_
      refine Ru_goto (pc := 14) 18 dX4_may_14 (by decide) ?_
      refine Ru_zret (pc := 18) dX4_may_18 rfl ⟨Nat.le_refl _, Nat.le_refl _⟩ (Or.inr rfl) ?_
      refine r_qe (r_b_t (by assumption)) k

theorem c_X4_may {Q : Rq} {M : Mem} {a : Nat} (w : Nat) (ha : a < 256) (hw : w ≤ 8) (k : Q (some (.int (r_b (qIs a w)))) GX M) : Ca 0 mt_X4_may 0 0 [.int (nM w), .int (nI a)] GX M Q := by
  cases w with
  | zero => exact c_X4_may_0 k
  | succ t =>
    refine c_X4_may_s ha (by omega) ?_
    have e : qIs a (t + 1) = a.testBit t := Bool.and_true _
    rw [e] at k
    exact k

theorem l_X4_mattering {Q : Rq} {M : Mem} {d : Td} {s r as wo : Nat} (hd0 : d 0 ≤ 8) (h47 : ∀ k, k < d 0 → M.1 47 k = nI (nS d s r k)) (hth : M.1 46 0 = nI (d 0)) (has : as < 8) (hwo : wo < 256) (k : Q (some (.int (nI (qMt d s r as wo)))) GX M) : ∀ (zw : Nat) (n : Nat), d 0 - n = zw → (n ≤ d 0) → Ru 0 mt_X4_mattering r_z 5 [(3, some (.int (nI (orB (fun k => decide (((nS d s r k >>> as) ^^^ nS d s r k) &&& wo ≠ 0)) n)))), (4, some (.int (nI n))), (0, some (.ref 46)), (1, some (.int (nI as))), (2, some (.int (nI wo)))] [] GX M Q := by
  intro zw
  induction zw using Nat.strongRecOn with
  | ind zw ih =>
    intro n hw hn
    subst hw
    refine Ru_iload (pc := 5) dX4_mattering_5 rfl ?_
    refine Ru_aload_n (pc := 7) dX4_mattering_7 rfl rfl ?_
    refine Ru_getI (pc := 8) dX4_mattering_8 fl_X4_42 rfl rfl ?_
    refine Ru_top hth ?_
    refine Ru_icmp_geN (pc := 11) 49 dX4_mattering_11 (by decide) (by omega) (fun h1 => ?_) (fun h1 => ?_)
    · refine Ru_iload_n (pc := 49) dX4_mattering_49 rfl rfl ?_
      refine Ru_iret (pc := 50) dX4_mattering_50 rfl ⟨Nat.le_refl _, Nat.le_refl _⟩ ?_
      have en : n = d 0 := by omega
      subst en
      exact k
    · have hSl := nS_lt d s r n
      refine Ru_aload_n (pc := 14) dX4_mattering_14 rfl rfl ?_
      refine Ru_getR (pc := 15) 47 dX4_mattering_15 fl_X4_9 rfl rfl (rfX_of (o := 46) (j := 1) rfl rfl) ?_
      refine Ru_iload (pc := 18) dX4_mattering_18 rfl ?_
      refine Ru_iald (pc := 20) dX4_mattering_20 rfl (by omega) ?_
      refine Ru_top (h47 n (by omega)) ?_
      refine Ru_iload_n (pc := 21) dX4_mattering_21 rfl rfl ?_
      refine Ru_ishrN (pc := 22) dX4_mattering_22 (by omega) ?_
      refine Ru_aload_n (pc := 23) dX4_mattering_23 rfl rfl ?_
      refine Ru_getR (pc := 24) 47 dX4_mattering_24 fl_X4_9 rfl rfl (rfX_of (o := 46) (j := 1) rfl rfl) ?_
      refine Ru_iload (pc := 27) dX4_mattering_27 rfl ?_
      refine Ru_iald (pc := 29) dX4_mattering_29 rfl (by omega) ?_
      refine Ru_top (h47 n (by omega)) ?_
      refine Ru_ixorN (pc := 30) dX4_mattering_30 ?_
      refine Ru_iload_n (pc := 31) dX4_mattering_31 rfl rfl ?_
      refine Ru_iandN (pc := 32) dX4_mattering_32 ?_
      refine Ru_if_eqN (pc := 33) 43 dX4_mattering_33 (by decide) (Nat.lt_of_le_of_lt Nat.and_le_right (by omega)) (fun h2 => ?_) (fun h2 => ?_)
      · refine Ru_iincN (pc := 43) 1 dX4_mattering_43 rfl rfl rfl (by decide) ?_
        refine Ru_goto (pc := 46) 5 dX4_mattering_46 (by decide) ?_
        have e : orB (fun k => decide (((nS d s r k >>> as) ^^^ nS d s r k) &&& wo ≠ 0)) (n + 1) = (orB (fun k => decide (((nS d s r k >>> as) ^^^ nS d s r k) &&& wo ≠ 0)) n) := by
          rw [orB]
          refine if_neg ?_
          intro z
          exact of_decide_eq_true z (by assumption)
        have hr := ih (d 0 - (n + 1)) (by omega) (n + 1) rfl (by omega)
        rw [e] at hr
        exact Ru_weak hr rfl
      · refine Ru_iload_n (pc := 36) dX4_mattering_36 rfl rfl ?_
        refine Ru_iconst (pc := 37) (nI 1) dX4_mattering_37 rfl ?_
        refine Ru_iload (pc := 38) dX4_mattering_38 rfl ?_
        refine Ru_ishl1N (pc := 40) dX4_mattering_40 (by omega) ?_
        refine Ru_iorN (pc := 41) dX4_mattering_41 ?_
        refine Ru_istore_n (pc := 42) dX4_mattering_42 rfl rfl (by decide) ?_
        refine Ru_iincN (pc := 43) 1 dX4_mattering_43 rfl rfl rfl (by decide) ?_
        refine Ru_goto (pc := 46) 5 dX4_mattering_46 (by decide) ?_
        have e : orB (fun k => decide (((nS d s r k >>> as) ^^^ nS d s r k) &&& wo ≠ 0)) (n + 1) = ((orB (fun k => decide (((nS d s r k >>> as) ^^^ nS d s r k) &&& wo ≠ 0)) n) ||| (2 ^ n)) := by
          rw [orB]
          refine if_pos ?_
          exact decide_eq_true (by assumption)
        have hr := ih (d 0 - (n + 1)) (by omega) (n + 1) rfl (by omega)
        rw [e] at hr
        exact Ru_weak hr rfl

theorem c_X4_mattering {Q : Rq} {M : Mem} {d : Td} {s r as wo : Nat} (hd0 : d 0 ≤ 8) (h47 : ∀ k, k < d 0 → M.1 47 k = nI (nS d s r k)) (hth : M.1 46 0 = nI (d 0)) (has : as < 8) (hwo : wo < 256) (k : Q (some (.int (nI (qMt d s r as wo)))) GX M) : Ca 0 mt_X4_mattering 0 0 [.ref 46, .int (nI as), .int (nI wo)] GX M Q := by
  refine Ca_of rfl (Nat.le_of_ble_eq_true rfl) ?_
  refine Ru_iconst (pc := 0) (nI 0) dX4_mattering_0 rfl ?_
  refine Ru_istore_n (pc := 1) dX4_mattering_1 rfl rfl (by decide) ?_
  refine Ru_iconst (pc := 2) (nI 0) dX4_mattering_2 rfl ?_
  refine Ru_istore (pc := 3) dX4_mattering_3 rfl (by decide) ?_
  exact Ru_weak (l_X4_mattering hd0 h47 hth has hwo k (d 0) 0 rfl (Nat.zero_le _)) rfl

theorem c_X4_add {Q : Rq} {M : Mem} {d : Td} {s r w h v : Nat} {L : List Tp} (hd0 : d 0 ≤ 8) (h47 : ∀ k, k < d 0 → M.1 47 k = nI (nS d s r k)) (hth : M.1 46 0 = nI (d 0)) (hpl : M.1 46 2 = nI (nPl d s r (d 0))) (hcd : w ≤ d 0 ∧ h ≤ d 0 ∧ v ≤ d 0) (hF : nF d s r L M) (hL : L.length < 729) (k : ∀ M', nF d s r (L ++ [(w, h, v)]) M' → r_fx [(46, 4)] [49, 50, 51, 52] M M' → Q none GX M') : Ca 2 mt_X4_add 0 0 [.ref 46, .int (nM w), .int (nM h), .int (nM v)] GX M Q := by
  refine Ca_of rfl (Nat.le_of_ble_eq_true rfl) ?_
  refine Ru_aload_n (pc := 0) dX4_add_0 rfl rfl ?_
  refine Ru_getI (pc := 1) dX4_add_1 fl_X4_91 rfl rfl ?_
  refine Ru_top hF.1 ?_
  refine Ru_sipush (pc := 4) (nI 729) dX4_add_4 rfl ?_
  refine Ru_icmp_geN (pc := 7) 66 dX4_add_7 (by decide) (by omega) (fun h1 => ?_) (fun h1 => ?_)
  · refine Ru_vret (pc := 66) dX4_add_66 rfl ⟨Nat.le_refl _, Nat.le_refl _⟩ ?_
    exfalso
    omega
  · refine Ru_aload_n (pc := 10) dX4_add_10 rfl rfl ?_
    refine Ru_getR (pc := 11) 49 dX4_add_11 fl_X4_18 rfl rfl (rfX_of (o := 46) (j := 3) rfl rfl) ?_
    refine Ru_aload_n (pc := 14) dX4_add_14 rfl rfl ?_
    refine Ru_getI (pc := 15) dX4_add_15 fl_X4_91 rfl rfl ?_
    refine Ru_top hF.1 ?_
    refine Ru_iload_n (pc := 18) dX4_add_18 rfl rfl ?_
    refine Ru_iast (pc := 19) rfl dX4_add_19 rfl (by omega) ?_
    refine Ru_aload_n (pc := 20) dX4_add_20 rfl rfl ?_
    refine Ru_getR (pc := 21) 50 dX4_add_21 fl_X4_21 rfl rfl (rfX_of (o := 46) (j := 4) rfl rfl) ?_
    refine Ru_aload_n (pc := 24) dX4_add_24 rfl rfl ?_
    refine Ru_getI (pc := 25) dX4_add_25 fl_X4_91 rfl rfl ?_
    refine Ru_top ((r_sI_n (by omega)).trans hF.1) ?_
    refine Ru_iload_n (pc := 28) dX4_add_28 rfl rfl ?_
    refine Ru_iast (pc := 29) rfl dX4_add_29 rfl (by omega) ?_
    refine Ru_aload_n (pc := 30) dX4_add_30 rfl rfl ?_
    refine Ru_getR (pc := 31) 51 dX4_add_31 fl_X4_24 rfl rfl (rfX_of (o := 46) (j := 5) rfl rfl) ?_
    refine Ru_aload_n (pc := 34) dX4_add_34 rfl rfl ?_
    refine Ru_getI (pc := 35) dX4_add_35 fl_X4_91 rfl rfl ?_
    refine Ru_top ((r_sI_n (by omega)).trans ((r_sI_n (by omega)).trans hF.1)) ?_
    refine Ru_iload_n (pc := 38) dX4_add_38 rfl rfl ?_
    refine Ru_iast (pc := 39) rfl dX4_add_39 rfl (by omega) ?_
    refine Ru_aload_n (pc := 40) dX4_add_40 rfl rfl ?_
    refine Ru_getR (pc := 41) 52 dX4_add_41 fl_X4_27 rfl rfl (rfX_of (o := 46) (j := 6) rfl rfl) ?_
    refine Ru_aload_n (pc := 44) dX4_add_44 rfl rfl ?_
    refine Ru_getI (pc := 45) dX4_add_45 fl_X4_91 rfl rfl ?_
    refine Ru_top ((r_sI_n (by omega)).trans ((r_sI_n (by omega)).trans ((r_sI_n (by omega)).trans hF.1))) ?_
    refine Ru_aload_n (pc := 48) dX4_add_48 rfl rfl ?_
    refine Ru_iload_n (pc := 49) dX4_add_49 rfl rfl ?_
    refine Ru_iload_n (pc := 50) dX4_add_50 rfl rfl ?_
    refine Ru_iload_n (pc := 51) dX4_add_51 rfl rfl ?_
    refine Ru_cv3 (pc := 52) dX4_add_52 mv_X4_102 rfl (by decide) (Nat.le_of_ble_eq_true rfl) (c_X4_left (s := s) (r := r) hd0 (fun k hk => ((r_sI_n (by omega)).trans ((r_sI_n (by omega)).trans ((r_sI_n (by omega)).trans (h47 k hk))))) ((r_sI_n (by omega)).trans ((r_sI_n (by omega)).trans ((r_sI_n (by omega)).trans hth))) ((r_sI_n (by omega)).trans ((r_sI_n (by omega)).trans ((r_sI_n (by omega)).trans hpl))) hcd ?_) 
    refine Ru_iast (pc := 55) rfl dX4_add_55 rfl (by omega) ?_
    refine Ru_aload_n (pc := 56) dX4_add_56 rfl rfl ?_
    refine Ru_dup (pc := 57) dX4_add_57 rfl ?_
    refine Ru_getI (pc := 58) dX4_add_58 fl_X4_91 rfl rfl ?_
    refine Ru_top ((r_sI_n (by omega)).trans ((r_sI_n (by omega)).trans ((r_sI_n (by omega)).trans ((r_sI_n (by omega)).trans hF.1)))) ?_
    refine Ru_iconst (pc := 61) (nI 1) dX4_add_61 rfl ?_
    refine Ru_iaddN (pc := 62) dX4_add_62 ?_
    refine Ru_putI (pc := 63) rfl dX4_add_63 fl_X4_91 rfl ?_
    refine Ru_vret (pc := 66) dX4_add_66 rfl ⟨Nat.le_refl _, Nat.le_refl _⟩ ?_
    refine k _ ⟨?_, fun i hi => ?_⟩ (r_fx.sI rfl (r_fx.sI rfl (r_fx.sI rfl (r_fx.sI rfl (r_fx.sI rfl r_fx.rf)))))
    · rw [List.length_append]
      simp [r_sI_g]
    · rw [List.length_append] at hi
      have hi2 : i < L.length + 1 := hi
      rw [getD_snoc hi2]
      by_cases e : i = L.length
      · subst e
        simp [r_sI_g]
      · have h9 := hF.2 i (by omega)
        simp [r_sI_g, e]
        exact h9

theorem l_X4_list3 {Q : Rq} {M0 : Mem} {d : Td} {t s r : Nat} (wf : Wf d) (h470 : ∀ k, k < d 0 → M0.1 47 k = nI (nS d s r k)) (hth0 : M0.1 46 0 = nI (d 0)) (hpl0 : M0.1 46 2 = nI (nPl d s r (d 0))) {w h : Nat} {c : List Tp} (hw : w ≤ d 0) (hh : h ≤ d 0) (hcl : c.length ≤ 81 * w + 9 * h) (k : ∀ M, nF d s r (if qIs (qH d s r) h = true then q3 d s r w h c (d 0 + 1) else c) M → r_fx [(46, 4)] [49, 50, 51, 52] M0 M → Ru 3 mt_X4_list r_z 131 [(5, some (.int (nM w))), (6, some (.int (nM h))), (2, some (.int (nI (qW d s r)))), (3, some (.int (nI (qH d s r)))), (4, some (.int (nI (qS d s r)))), (0, some (.ref 46)), (1, some (.ref t))] [] GX M Q) : ∀ (zw : Nat) (n : Nat) (M : Mem), d 0 + 1 - n = zw → (n ≤ d 0 + 1) → (n = 0 ∨ qIs (qH d s r) h = true) → (nF d s r (q3 d s r w h c n) M) → (r_fx [(46, 4)] [49, 50, 51, 52] M0 M) → Ru 3 mt_X4_list r_z 87 [(7, some (.int (nM n))), (5, some (.int (nM w))), (6, some (.int (nM h))), (2, some (.int (nI (qW d s r)))), (3, some (.int (nI (qH d s r)))), (4, some (.int (nI (qS d s r)))), (0, some (.ref 46)), (1, some (.ref t))] [] GX M Q := by
  intro zw
  induction zw using Nat.strongRecOn with
  | ind zw ih =>
    intro n M hw hn hm hF fx
    subst hw
    have hb := wf.1
    have hp := pw_le hb.1
    have em : (-1 : Int32).toInt = -1 := rfl
    have h47 : ∀ k, k < d 0 → M.1 47 k = nI (nS d s r k) := fun k hk => (fx 47 k rfl).1.trans (h470 k hk)
    have hth : M.1 46 0 = nI (d 0) := (fx 46 0 rfl).1.trans hth0
    have hpl : M.1 46 2 = nI (nPl d s r (d 0)) := (fx 46 2 rfl).1.trans hpl0
    have hzn := nM_t (show n < 2147483648 by omega)
    have hqW := qW_lt d s r
    have hqH := qH_lt d s r
    have hqS := qS_lt d s r
    have hql := q3_len d s r w h c n
    refine Ru_iload (pc := 87) dX4_list_87 rfl ?_
    refine Ru_aload_n (pc := 89) dX4_list_89 rfl rfl ?_
    refine Ru_getI (pc := 90) dX4_list_90 fl_X4_42 rfl rfl ?_
    refine Ru_top hth ?_
    refine Ru_icmp_geL (pc := 93) 131 dX4_list_93 (by decide) (by omega) (fun h1 => ?_) (fun h1 => ?_)
    · have en : n = d 0 + 1 := by omega
      subst en
      have z : qIs (qH d s r) h = true := by
        rcases hm with hm | hm
        · omega
        · exact hm
      exact Ru_weak (k M (by rw [if_pos z]; exact hF) fx) rfl
    · refine Ru_iload (pc := 96) dX4_list_96 rfl ?_
      refine Ru_iload_n (pc := 98) dX4_list_98 rfl rfl ?_
      refine Ru_cs2 (pc := 99) dX4_list_99 ms_X4_94 (by decide) (Nat.le_of_ble_eq_true rfl) (c_X4_may h (by omega) (by omega) ?_) 
      refine Ru_if_eqB (pc := 102) 131 dX4_list_102 (by decide) (fun h2 => ?_) (fun h2 => ?_)
      · have z : qIs (qH d s r) h = false := by assumption
        have en : n = 0 := by
          rcases hm with hm | hm
          · exact hm
          · rw [z] at hm
            cases hm
        subst en
        exact Ru_weak (k M (by rw [z]; exact hF) fx) rfl
      · refine Ru_iload (pc := 105) dX4_list_105 rfl ?_
        refine Ru_iload (pc := 107) dX4_list_107 rfl ?_
        refine Ru_cs2 (pc := 109) dX4_list_109 ms_X4_94 (by decide) (Nat.le_of_ble_eq_true rfl) (c_X4_may n (by omega) (by omega) ?_) 
        refine Ru_if_eqB (pc := 112) 125 dX4_list_112 (by decide) (fun h3 => ?_) (fun h3 => ?_)
        · refine Ru_iinc (pc := 125) _ dX4_list_125 rfl rfl rfl (by decide) ?_
          refine Ru_goto (pc := 128) 87 dX4_list_128 (by decide) ?_
          have z : qIs (qS d s r) n = false := by assumption
          have e : q3 d s r w h c (n + 1) = q3 d s r w h c n := by
            rw [q3, z]
            rfl
          rw [nM_inc (by omega)]
          exact Ru_weak (ih (d 0 + 1 - (n + 1)) (by omega) (n + 1) M rfl (by omega) (Or.inr (by assumption)) (by rw [e]; exact hF) fx) rfl
        · refine Ru_aload_n (pc := 115) dX4_list_115 rfl rfl ?_
          refine Ru_iload (pc := 116) dX4_list_116 rfl ?_
          refine Ru_iload (pc := 118) dX4_list_118 rfl ?_
          refine Ru_iload (pc := 120) dX4_list_120 rfl ?_
          refine Ru_cv3 (pc := 122) dX4_list_122 mv_X4_98 rfl (by decide) (Nat.le_of_ble_eq_true rfl) (c_X4_add (w := w) (h := h) (v := n) hb.1 h47 hth hpl ⟨by omega, by omega, by omega⟩ hF (by omega) (fun M2 hF2 gx2 => ?_)) 
          have fx2 := fx.tr gx2
          refine Ru_iinc (pc := 125) _ dX4_list_125 rfl rfl rfl (by decide) ?_
          refine Ru_goto (pc := 128) 87 dX4_list_128 (by decide) ?_
          have e : q3 d s r w h c (n + 1) = q3 d s r w h c n ++ [(w, h, n)] := by
            rw [q3, if_pos (by assumption)]
          rw [nM_inc (by omega)]
          exact Ru_weak (ih (d 0 + 1 - (n + 1)) (by omega) (n + 1) M2 rfl (by omega) (Or.inr (by assumption)) (by rw [e]; exact hF2) fx2) rfl

theorem l_X4_list2 {Q : Rq} {M0 : Mem} {d : Td} {t s r : Nat} (wf : Wf d) (h470 : ∀ k, k < d 0 → M0.1 47 k = nI (nS d s r k)) (hth0 : M0.1 46 0 = nI (d 0)) (hpl0 : M0.1 46 2 = nI (nPl d s r (d 0))) {w : Nat} {c : List Tp} (hw : w ≤ d 0) (hcl : c.length ≤ 81 * w) (k : ∀ M, nF d s r (if qIs (qW d s r) w = true then q2 d s r w c (d 0 + 1) else c) M → r_fx [(46, 4)] [49, 50, 51, 52] M0 M → Ru 3 mt_X4_list r_z 137 [(5, some (.int (nM w))), (2, some (.int (nI (qW d s r)))), (3, some (.int (nI (qH d s r)))), (4, some (.int (nI (qS d s r)))), (0, some (.ref 46)), (1, some (.ref t))] [] GX M Q) : ∀ (zw : Nat) (n : Nat) (M : Mem), d 0 + 1 - n = zw → (n ≤ d 0 + 1) → (n = 0 ∨ qIs (qW d s r) w = true) → (nF d s r (q2 d s r w c n) M) → (r_fx [(46, 4)] [49, 50, 51, 52] M0 M) → Ru 3 mt_X4_list r_z 66 [(6, some (.int (nM n))), (5, some (.int (nM w))), (2, some (.int (nI (qW d s r)))), (3, some (.int (nI (qH d s r)))), (4, some (.int (nI (qS d s r)))), (0, some (.ref 46)), (1, some (.ref t))] [] GX M Q := by
  intro zw
  induction zw using Nat.strongRecOn with
  | ind zw ih =>
    intro n M hw hn hm hF fx
    subst hw
    have hb := wf.1
    have hp := pw_le hb.1
    have em : (-1 : Int32).toInt = -1 := rfl
    have h47 : ∀ k, k < d 0 → M.1 47 k = nI (nS d s r k) := fun k hk => (fx 47 k rfl).1.trans (h470 k hk)
    have hth : M.1 46 0 = nI (d 0) := (fx 46 0 rfl).1.trans hth0
    have hpl : M.1 46 2 = nI (nPl d s r (d 0)) := (fx 46 2 rfl).1.trans hpl0
    have hzn := nM_t (show n < 2147483648 by omega)
    have hqW := qW_lt d s r
    have hqH := qH_lt d s r
    have hqS := qS_lt d s r
    refine Ru_iload (pc := 66) dX4_list_66 rfl ?_
    refine Ru_aload_n (pc := 68) dX4_list_68 rfl rfl ?_
    refine Ru_getI (pc := 69) dX4_list_69 fl_X4_42 rfl rfl ?_
    refine Ru_top hth ?_
    refine Ru_icmp_geL (pc := 72) 137 dX4_list_72 (by decide) (by omega) (fun h1 => ?_) (fun h1 => ?_)
    · have en : n = d 0 + 1 := by omega
      subst en
      have z : qIs (qW d s r) w = true := by
        rcases hm with hm | hm
        · omega
        · exact hm
      exact Ru_weak (k M (by rw [if_pos z]; exact hF) fx) rfl
    · refine Ru_iload (pc := 75) dX4_list_75 rfl ?_
      refine Ru_iload_n (pc := 77) dX4_list_77 rfl rfl ?_
      refine Ru_cs2 (pc := 78) dX4_list_78 ms_X4_94 (by decide) (Nat.le_of_ble_eq_true rfl) (c_X4_may w (by omega) (by omega) ?_) 
      refine Ru_if_eqB (pc := 81) 137 dX4_list_81 (by decide) (fun h2 => ?_) (fun h2 => ?_)
      · have z : qIs (qW d s r) w = false := by assumption
        have en : n = 0 := by
          rcases hm with hm | hm
          · exact hm
          · rw [z] at hm
            cases hm
        subst en
        exact Ru_weak (k M (by rw [z]; exact hF) fx) rfl
      · refine Ru_iconst (pc := 84) (-1) dX4_list_84 rfl ?_
        refine Ru_istore (pc := 85) dX4_list_85 rfl (by decide) ?_
        have hql := q2_len hb.1 s r w c n
        refine Ru_weak (l_X4_list3 (M0 := M0) (t := t) (w := w) (h := n) (c := q2 d s r w c n) wf h470 hth0 hpl0 hw (by omega) (by omega) (fun M2 hF2 gx2 => ?_) (d 0 + 1) 0 M rfl (Nat.zero_le _) (Or.inl rfl) hF fx) rfl
        refine Ru_iinc (pc := 131) _ dX4_list_131 rfl rfl rfl (by decide) ?_
        refine Ru_goto (pc := 134) 66 dX4_list_134 (by decide) ?_
        rw [nM_inc (by omega)]
        exact Ru_weak (ih (d 0 + 1 - (n + 1)) (by omega) (n + 1) M2 rfl (by omega) (Or.inr (by assumption)) hF2 gx2) rfl

theorem l_X4_list1 {Q : Rq} {M0 : Mem} {d : Td} {t s r : Nat} (wf : Wf d) (h470 : ∀ k, k < d 0 → M0.1 47 k = nI (nS d s r k)) (hth0 : M0.1 46 0 = nI (d 0)) (hpl0 : M0.1 46 2 = nI (nPl d s r (d 0))) (k : ∀ M', nF d s r (qL d s r) M' → r_fx [(46, 4)] [49, 50, 51, 52] M0 M' → Q none GX M') : ∀ (zw : Nat) (n : Nat) (M : Mem), d 0 + 1 - n = zw → (n ≤ d 0 + 1) → (nF d s r (q1 d s r n) M) → (r_fx [(46, 4)] [49, 50, 51, 52] M0 M) → Ru 3 mt_X4_list r_z 54 [(5, some (.int (nM n))), (2, some (.int (nI (qW d s r)))), (3, some (.int (nI (qH d s r)))), (4, some (.int (nI (qS d s r)))), (0, some (.ref 46)), (1, some (.ref t))] [] GX M Q := by
  intro zw
  induction zw using Nat.strongRecOn with
  | ind zw ih =>
    intro n M hw hn hF fx
    subst hw
    have hb := wf.1
    have hp := pw_le hb.1
    have em : (-1 : Int32).toInt = -1 := rfl
    have h47 : ∀ k, k < d 0 → M.1 47 k = nI (nS d s r k) := fun k hk => (fx 47 k rfl).1.trans (h470 k hk)
    have hth : M.1 46 0 = nI (d 0) := (fx 46 0 rfl).1.trans hth0
    have hpl : M.1 46 2 = nI (nPl d s r (d 0)) := (fx 46 2 rfl).1.trans hpl0
    have hzn := nM_t (show n < 2147483648 by omega)
    have hqW := qW_lt d s r
    have hqH := qH_lt d s r
    have hqS := qS_lt d s r
    refine Ru_iload (pc := 54) dX4_list_54 rfl ?_
    refine Ru_aload_n (pc := 56) dX4_list_56 rfl rfl ?_
    refine Ru_getI (pc := 57) dX4_list_57 fl_X4_42 rfl rfl ?_
    refine Ru_top hth ?_
    refine Ru_icmp_geL (pc := 60) 143 dX4_list_60 (by decide) (by omega) (fun h1 => ?_) (fun h1 => ?_)
    · refine Ru_vret (pc := 143) dX4_list_143 rfl ⟨Nat.le_refl _, Nat.le_refl _⟩ ?_
      have en : n = d 0 + 1 := by omega
      subst en
      exact k M hF fx
    · refine Ru_iconst (pc := 63) (-1) dX4_list_63 rfl ?_
      refine Ru_istore (pc := 64) dX4_list_64 rfl (by decide) ?_
      have hql := q1_len hb.1 s r n
      refine Ru_weak (l_X4_list2 (M0 := M0) (t := t) (w := n) (c := q1 d s r n) wf h470 hth0 hpl0 (by omega) (by omega) (fun M2 hF2 gx2 => ?_) (d 0 + 1) 0 M rfl (Nat.zero_le _) (Or.inl rfl) hF fx) rfl
      refine Ru_iinc (pc := 137) _ dX4_list_137 rfl rfl rfl (by decide) ?_
      refine Ru_goto (pc := 140) 54 dX4_list_140 (by decide) ?_
      rw [nM_inc (by omega)]
      exact Ru_weak (ih (d 0 + 1 - (n + 1)) (by omega) (n + 1) M2 rfl (by omega) hF2 gx2) rfl

theorem c_X4_list {Q : Rq} {M : Mem} {d : Td} {t s r : Nat} (wf : Wf d) (h470 : ∀ k, k < d 0 → M.1 47 k = nI (nS d s r k)) (hth0 : M.1 46 0 = nI (d 0)) (hpl0 : M.1 46 2 = nI (nPl d s r (d 0))) (ht : isTown t) (hx : X_tm t d M) (k : ∀ M', nF d s r (qL d s r) M' → r_fx [(46, 4)] [49, 50, 51, 52] M M' → Q none GX M') : Ca 3 mt_X4_list 0 0 [.ref 46, .ref t] GX M Q := by
  refine Ca_of rfl (Nat.le_of_ble_eq_true rfl) ?_
  have hb := wf.1
  refine Ru_aload_n (pc := 0) dX4_list_0 rfl rfl ?_
  refine Ru_iconst (pc := 1) (nI 1) dX4_list_1 rfl ?_
  refine Ru_bipush (pc := 2) (nI 85) dX4_list_2 rfl ?_
  refine Ru_cv2 (pc := 4) dX4_list_4 mv_X4_77 rfl (by decide) (Nat.le_of_ble_eq_true rfl) (c_X4_mattering (s := s) (r := r) hb.1 h470 hth0 (by omega) (by omega) ?_) 
  refine Ru_aload_n (pc := 7) dX4_list_7 rfl rfl ?_
  refine Ru_getI (pc := 8) dX4_list_8 fl_X4_81 (shTown_0 ht) rfl ?_
  refine Ru_top hx.2.1.1 ?_
  refine Ru_iandN (pc := 11) dX4_list_11 ?_
  refine Ru_top (show nI ((qMt d s r 1 85) &&& (bt (fun i => d (5 + i)) 8)) = nI (qW d s r) from rfl) ?_
  refine Ru_istore_n (pc := 12) dX4_list_12 rfl rfl (by decide) ?_
  refine Ru_aload_n (pc := 13) dX4_list_13 rfl rfl ?_
  refine Ru_cv0 (pc := 14) dX4_list_14 mv_X4_84 (shTown_0 ht) (by decide) (Nat.le_of_ble_eq_true rfl) (c_X9_isAwake ht hx wf ?_) 
  refine Ru_if_eqB (pc := 17) 30 dX4_list_17 (by decide) (fun h1 => ?_) (fun h1 => ?_)
  · refine Ru_iconst (pc := 30) (nI 0) dX4_list_30 rfl ?_
    have eH : qH d s r = 0 := by
      unfold qH
      rw [if_neg (by simp_all)]
    refine Ru_top (show nI 0 = nI (qH d s r) from congrArg nI eH.symm) ?_
    refine Ru_istore_n (pc := 31) dX4_list_31 rfl rfl (by decide) ?_
    refine Ru_aload_n (pc := 32) dX4_list_32 rfl rfl ?_
    refine Ru_iconst (pc := 33) (nI 4) dX4_list_33 rfl ?_
    refine Ru_bipush (pc := 34) (nI 15) dX4_list_34 rfl ?_
    refine Ru_cv2 (pc := 36) dX4_list_36 mv_X4_77 rfl (by decide) (Nat.le_of_ble_eq_true rfl) (c_X4_mattering (s := s) (r := r) hb.1 h470 hth0 (by omega) (by omega) ?_) 
    refine Ru_aload_n (pc := 39) dX4_list_39 rfl rfl ?_
    refine Ru_getI (pc := 40) dX4_list_40 fl_X4_88 (shTown_0 ht) rfl ?_
    refine Ru_top hx.2.1.2.1 ?_
    refine Ru_iandN (pc := 43) dX4_list_43 ?_
    refine Ru_top (show nI ((qMt d s r 4 15) &&& (bt (fun i => d (13 + i)) 8)) = nI (qS d s r) from rfl) ?_
    refine Ru_istore (pc := 44) dX4_list_44 rfl (by decide) ?_
    refine Ru_aload_n (pc := 46) dX4_list_46 rfl rfl ?_
    refine Ru_iconst (pc := 47) (nI 0) dX4_list_47 rfl ?_
    refine Ru_putI (pc := 48) rfl dX4_list_48 fl_X4_91 rfl ?_
    refine Ru_iconst (pc := 51) (-1) dX4_list_51 rfl ?_
    refine Ru_istore (pc := 52) dX4_list_52 rfl (by decide) ?_
    exact Ru_weak (l_X4_list1 (M0 := M) (t := t) wf h470 hth0 hpl0 k (d 0 + 1) 0 _ rfl (Nat.zero_le _) ⟨r_sI_s, fun i hi => by simp [q1] at hi⟩ (r_fx.sI rfl r_fx.rf)) rfl
  · refine Ru_aload_n (pc := 20) dX4_list_20 rfl rfl ?_
    refine Ru_iconst (pc := 21) (nI 2) dX4_list_21 rfl ?_
    refine Ru_bipush (pc := 22) (nI 51) dX4_list_22 rfl ?_
    refine Ru_cv2 (pc := 24) dX4_list_24 mv_X4_77 rfl (by decide) (Nat.le_of_ble_eq_true rfl) (c_X4_mattering (s := s) (r := r) hb.1 h470 hth0 (by omega) (by omega) ?_) 
    refine Ru_goto (pc := 27) 31 dX4_list_27 (by decide) ?_
    have eH : qH d s r = (qMt d s r 2 51) := by
      unfold qH
      rw [if_pos (by assumption)]
    refine Ru_top (show nI (qMt d s r 2 51) = nI (qH d s r) from congrArg nI eH.symm) ?_
    refine Ru_istore_n (pc := 31) dX4_list_31 rfl rfl (by decide) ?_
    refine Ru_aload_n (pc := 32) dX4_list_32 rfl rfl ?_
    refine Ru_iconst (pc := 33) (nI 4) dX4_list_33 rfl ?_
    refine Ru_bipush (pc := 34) (nI 15) dX4_list_34 rfl ?_
    refine Ru_cv2 (pc := 36) dX4_list_36 mv_X4_77 rfl (by decide) (Nat.le_of_ble_eq_true rfl) (c_X4_mattering (s := s) (r := r) hb.1 h470 hth0 (by omega) (by omega) ?_) 
    refine Ru_aload_n (pc := 39) dX4_list_39 rfl rfl ?_
    refine Ru_getI (pc := 40) dX4_list_40 fl_X4_88 (shTown_0 ht) rfl ?_
    refine Ru_top hx.2.1.2.1 ?_
    refine Ru_iandN (pc := 43) dX4_list_43 ?_
    refine Ru_top (show nI ((qMt d s r 4 15) &&& (bt (fun i => d (13 + i)) 8)) = nI (qS d s r) from rfl) ?_
    refine Ru_istore (pc := 44) dX4_list_44 rfl (by decide) ?_
    refine Ru_aload_n (pc := 46) dX4_list_46 rfl rfl ?_
    refine Ru_iconst (pc := 47) (nI 0) dX4_list_47 rfl ?_
    refine Ru_putI (pc := 48) rfl dX4_list_48 fl_X4_91 rfl ?_
    refine Ru_iconst (pc := 51) (-1) dX4_list_51 rfl ?_
    refine Ru_istore (pc := 52) dX4_list_52 rfl (by decide) ?_
    exact Ru_weak (l_X4_list1 (M0 := M) (t := t) wf h470 hth0 hpl0 k (d 0 + 1) 0 _ rfl (Nat.zero_le _) ⟨r_sI_s, fun i hi => by simp [q1] at hi⟩ (r_fx.sI rfl r_fx.rf)) rfl
