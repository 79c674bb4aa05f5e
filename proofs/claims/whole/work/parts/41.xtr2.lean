theorem r_si {a b : Int32} (h : -2147483648 ≤ a.toInt - b.toInt ∧ a.toInt - b.toInt < 2147483648) : (a - b).toInt = a.toInt - b.toInt := by
  rw [Int32.toInt_sub, Int.bmod_eq_of_le (by omega) (by omega)]

theorem c_X10_hasRun {Q : Rq} {M : Mem} {o : Nat} {x n len : Int32} (ho : isTray o) (hl : M.1 o 1 = len) (hn : 0 ≤ n.toInt) (hb : 0 ≤ len.toInt ∧ len.toInt ≤ 60) (k : Q (some (.int (r_b (decide (0 ≤ x.toInt ∧ x.toInt + n.toInt ≤ len.toInt))))) GX M) : Ca 0 mt_X10_hasRun 0 0 [.ref o, .int x, .int n] GX M Q := by
  refine Ca_of rfl (Nat.le_of_ble_eq_true rfl) ?_
  have hlt := n.toInt_lt
  have es := r_si (a := len) (b := n) (by omega)
  refine Ru_iload_n (pc := 0) dX10_hasRun_0 rfl rfl ?_
  refine Ru_if_ltT (pc := 1) 18 dX10_hasRun_1 (by decide) (fun h1 => ?_) (fun h1 => ?_)
  · refine Ru_iconst (pc := 18) (nI 0) dX10_hasRun_18 rfl ?_
    refine Ru_zret (pc := 19) dX10_hasRun_19 rfl ⟨Nat.le_refl _, Nat.le_refl _⟩ (Or.inl rfl) ?_
    refine r_qe (r_b_f ?_) k
    exact decide_eq_false (by omega)
  · refine Ru_iload_n (pc := 4) dX10_hasRun_4 rfl rfl ?_
    refine Ru_aload_n (pc := 5) dX10_hasRun_5 rfl rfl ?_
    refine Ru_getI (pc := 6) dX10_hasRun_6 fl_X10_9 (shTray_0 ho) rfl ?_
    refine Ru_top hl ?_
    refine Ru_iload_n (pc := 9) dX10_hasRun_9 rfl rfl ?_
    refine Ru_isub (pc := 10) dX10_hasRun_10 ?_
    refine Ru_icmp_gtT (pc := 11) 18 dX10_hasRun_11 (by decide) (fun h2 => ?_) (fun h2 => ?_)
    · refine Ru_iconst (pc := 18) (nI 0) dX10_hasRun_18 rfl ?_
      refine Ru_zret (pc := 19) dX10_hasRun_19 rfl ⟨Nat.le_refl _, Nat.le_refl _⟩ (Or.inl rfl) ?_
      refine r_qe (r_b_f ?_) k
      exact decide_eq_false (by omega)
    · refine Ru_iconst (pc := 14) (nI 1) dX10_hasRun_14 rfl ?_
      refine Ru_goto (pc := 15) 19 dX10_hasRun_15 (by decide) ?_
      refine Ru_zret (pc := 19) dX10_hasRun_19 rfl ⟨Nat.le_refl _, Nat.le_refl _⟩ (Or.inr rfl) ?_
      refine r_qe (r_b_t ?_) k
      exact decide_eq_true (by omega)

theorem c_X10_cut {Q : Rq} {M : Mem} {o : Nat} {s : Int32} {v : Int64} (ho : isTray o) (hs : M.1 o 0 = s) (k : Q (some (.long (f_cut s v))) GX M) : Ca 0 mt_X10_cut 0 0 [.ref o, .long v] GX M Q := by
  refine Ca_of rfl (Nat.le_of_ble_eq_true rfl) ?_
  refine Ru_aload_n (pc := 0) dX10_cut_0 rfl rfl ?_
  refine Ru_getI (pc := 1) dX10_cut_1 fl_X10_19 (shTray_0 ho) rfl ?_
  refine Ru_top hs ?_
  by_cases hs1 : s.toInt = 0
  · refine Ru_tableIn (pc := 4) 32 dX10_cut_4 (by omega) (by omega) (by rw [hs1]; rfl) (by decide) ?_
    refine Ru_lload_n (pc := 32) dX10_cut_32 rfl rfl ?_
    refine Ru_l2i (pc := 33) _ dX10_cut_33 rfl ?_
    refine Ru_i2b (pc := 34) _ dX10_cut_34 rfl ?_
    refine Ru_i2l (pc := 35) _ dX10_cut_35 rfl ?_
    refine Ru_lret (pc := 36) dX10_cut_36 rfl ⟨Nat.le_refl _, Nat.le_refl _⟩ ?_
    have e : f_cut s v = (((v).toInt32).toInt8.toInt32).toInt64 := by
      unfold f_cut
      repeat' split
      all_goals first | rfl | (exfalso; omega)
    rw [e] at k
    exact k
  by_cases hs2 : s.toInt = 1
  · refine Ru_tableIn (pc := 4) 37 dX10_cut_4 (by omega) (by omega) (by rw [hs2]; rfl) (by decide) ?_
    refine Ru_lload_n (pc := 37) dX10_cut_37 rfl rfl ?_
    refine Ru_l2i (pc := 38) _ dX10_cut_38 rfl ?_
    refine Ru_i2s (pc := 39) _ dX10_cut_39 rfl ?_
    refine Ru_i2l (pc := 40) _ dX10_cut_40 rfl ?_
    refine Ru_lret (pc := 41) dX10_cut_41 rfl ⟨Nat.le_refl _, Nat.le_refl _⟩ ?_
    have e : f_cut s v = (((v).toInt32).toInt16.toInt32).toInt64 := by
      unfold f_cut
      repeat' split
      all_goals first | rfl | (exfalso; omega)
    rw [e] at k
    exact k
  by_cases hs3 : s.toInt = 2
  · refine Ru_tableIn (pc := 4) 42 dX10_cut_4 (by omega) (by omega) (by rw [hs3]; rfl) (by decide) ?_
    refine Ru_lload_n (pc := 42) dX10_cut_42 rfl rfl ?_
    refine Ru_l2i (pc := 43) _ dX10_cut_43 rfl ?_
    refine Ru_i2l (pc := 44) _ dX10_cut_44 rfl ?_
    refine Ru_lret (pc := 45) dX10_cut_45 rfl ⟨Nat.le_refl _, Nat.le_refl _⟩ ?_
    have e : f_cut s v = ((v).toInt32).toInt64 := by
      unfold f_cut
      repeat' split
      all_goals first | rfl | (exfalso; omega)
    rw [e] at k
    exact k
  refine Ru_tableOut (pc := 4) 46 dX10_cut_4 (by omega) (by decide) ?_
  refine Ru_lload_n (pc := 46) dX10_cut_46 rfl rfl ?_
  refine Ru_lret (pc := 47) dX10_cut_47 rfl ⟨Nat.le_refl _, Nat.le_refl _⟩ ?_
  have e : f_cut s v = v := by
    unfold f_cut
    repeat' split
    all_goals first | rfl | (exfalso; omega)
  rw [e] at k
  exact k

theorem c_X10_put {Q : Rq} {M : Mem} {o x : Nat} {s len : Int32} {v : Int64} (ho : isTray o) (hs : M.1 o 0 = s) (hl : M.1 o 1 = len) (hx : x < 60 ∧ (x : Int) < len.toInt) (k : Q none GX (r_sJ M (o + 1) x (f_cut s v))) : Ca 1 mt_X10_put 0 0 [.ref o, .int (nI x), .long v] GX M Q := by
  refine Ca_of rfl (Nat.le_of_ble_eq_true rfl) ?_
  have ex := r_tn (show x < 2147483648 by omega)
  refine Ru_aload_n (pc := 0) dX10_put_0 rfl rfl ?_
  refine Ru_iload_n (pc := 1) dX10_put_1 rfl rfl ?_
  refine Ru_cv1 (pc := 2) dX10_put_2 mv_X10_26 (shTray_0 ho) (by decide) (Nat.le_of_ble_eq_true rfl) (c_X10_has ho hl ?_) 
  refine Ru_if_eqB (pc := 5) 19 dX10_put_5 (by decide) (fun h1 => ?_) (fun h1 => ?_)
  · replace h1 := of_decide_eq_false h1
    exfalso; omega
  · replace h1 := of_decide_eq_true h1
    refine Ru_aload_n (pc := 8) dX10_put_8 rfl rfl ?_
    refine Ru_getR (pc := 9) (o + 1) dX10_put_9 fl_X10_15 (shTray_0 ho) rfl (rfX_of (o := o) (j := 1) (shTray_0 ho) rfl) ?_
    refine Ru_iload_n (pc := 12) dX10_put_12 rfl rfl ?_
    refine Ru_aload_n (pc := 13) dX10_put_13 rfl rfl ?_
    refine Ru_lload_n (pc := 14) dX10_put_14 rfl rfl ?_
    refine Ru_cv1 (pc := 15) dX10_put_15 mv_X10_32 (shTray_0 ho) (by decide) (Nat.le_of_ble_eq_true rfl) (c_X10_cut ho hs ?_) 
    refine Ru_last (pc := 18) rfl dX10_put_18 (shTray_1 ho) (by omega) ?_
    refine Ru_vret (pc := 19) dX10_put_19 rfl ⟨Nat.le_refl _, Nat.le_refl _⟩ ?_
    exact k

theorem c_X10_number {Q : Rq} {M : Mem} {o x : Nat} {len : Int32} (ho : isTray o) (hl : M.1 o 1 = len) (hx : x < 60 ∧ (x : Int) < len.toInt) (k : Q (some (.long (M.2.1 (o + 1) x))) GX M) : Ca 1 mt_X10_number 0 0 [.ref o, .int (nI x)] GX M Q := by
  refine Ca_of rfl (Nat.le_of_ble_eq_true rfl) ?_
  have ex := r_tn (show x < 2147483648 by omega)
  refine Ru_aload_n (pc := 0) dX10_number_0 rfl rfl ?_
  refine Ru_iload_n (pc := 1) dX10_number_1 rfl rfl ?_
  refine Ru_cv1 (pc := 2) dX10_number_2 mv_X10_26 (shTray_0 ho) (by decide) (Nat.le_of_ble_eq_true rfl) (c_X10_has ho hl ?_) 
  refine Ru_if_eqB (pc := 5) 17 dX10_number_5 (by decide) (fun h1 => ?_) (fun h1 => ?_)
  · replace h1 := of_decide_eq_false h1
    exfalso; omega
  · replace h1 := of_decide_eq_true h1
    refine Ru_aload_n (pc := 8) dX10_number_8 rfl rfl ?_
    refine Ru_getR (pc := 9) (o + 1) dX10_number_9 fl_X10_15 (shTray_0 ho) rfl (rfX_of (o := o) (j := 1) (shTray_0 ho) rfl) ?_
    refine Ru_iload_n (pc := 12) dX10_number_12 rfl rfl ?_
    refine Ru_lald (pc := 13) dX10_number_13 (shTray_1 ho) (by omega) ?_
    refine Ru_goto (pc := 14) 20 dX10_number_14 (by decide) ?_
    refine Ru_lret (pc := 20) dX10_number_20 rfl ⟨Nat.le_refl _, Nat.le_refl _⟩ ?_
    exact k

theorem l_X10_make {Q : Rq} {M : Mem} {o : Nat} {s n : Int32} (ho : isTray o) (k : ∀ M', (∀ o' k', o' ≠ o + 1 → r_eq3 M M' o' k') → (∀ q, q < 60 → M'.2.1 (o + 1) q = 0) → Q none GX M') : ∀ (w i : Nat) (M1 : Mem), 60 - i = w → i ≤ 60 → (∀ o' k', o' ≠ o + 1 → r_eq3 M M1 o' k') → (∀ q, q < i → M1.2.1 (o + 1) q = 0) → Ru 0 mt_X10_make r_z 12 [(3, some (.int (nI i))), (0, some (.ref o)), (1, some (.int s)), (2, some (.int n))] [] GX M1 Q := by
  intro w
  induction w using Nat.strongRecOn with
  | ind w ih =>
    intro i M1 hw hi e1 e2
    subst hw
    refine Ru_iload_n (pc := 12) dX10_make_12 rfl rfl ?_
    refine Ru_aload_n (pc := 13) dX10_make_13 rfl rfl ?_
    refine Ru_getR (pc := 14) (o + 1) dX10_make_14 fl_X10_15 (shTray_0 ho) rfl (rfX_of (o := o) (j := 1) (shTray_0 ho) rfl) ?_
    refine Ru_alen (pc := 17) dX10_make_17 (shTray_1 ho) (by decide) ?_
    refine Ru_icmp_geN (pc := 18) 34 dX10_make_18 (by decide) (by omega) (fun h1 => ?_) (fun h1 => ?_)
    · refine Ru_vret (pc := 34) dX10_make_34 rfl ⟨Nat.le_refl _, Nat.le_refl _⟩ ?_
      have him : i = 60 := by omega
      subst him
      exact k _ e1 e2
    · refine Ru_aload_n (pc := 21) dX10_make_21 rfl rfl ?_
      refine Ru_getR (pc := 22) (o + 1) dX10_make_22 fl_X10_15 (shTray_0 ho) rfl (rfX_of (o := o) (j := 1) (shTray_0 ho) rfl) ?_
      refine Ru_iload_n (pc := 25) dX10_make_25 rfl rfl ?_
      refine Ru_lconst (pc := 26) 0 dX10_make_26 rfl ?_
      refine Ru_last (pc := 27) rfl dX10_make_27 (shTray_1 ho) (by omega) ?_
      refine Ru_iincN (pc := 28) 1 dX10_make_28 rfl rfl rfl (by decide) ?_
      refine Ru_goto (pc := 31) 12 dX10_make_31 (by decide) ?_
      refine Ru_weak (ih (60 - (i + 1)) (by omega) (i + 1) _ rfl (by omega) (fun o' k' hne => ?_) (fun q hq => ?_)) rfl
      · have e := e1 o' k' hne
        refine ⟨e.1, ?_, e.2.2⟩
        rw [r_sJ_g, if_neg (fun z => hne z.1)]
        exact e.2.1
      · rw [r_sJ_g]
        by_cases hqi : q = i
        · subst hqi
          rw [if_pos ⟨rfl, rfl⟩]
        · rw [if_neg (by omega)]
          exact e2 q (by omega)

theorem c_X10_make {Q : Rq} {M : Mem} {o : Nat} {s n : Int32} (ho : isTray o) (k : ∀ M', (∀ o' k', o' ≠ o → o' ≠ o + 1 → r_eq3 M M' o' k') → M'.1 o 0 = s → M'.1 o 1 = n → M'.2.2 o = M.2.2 o → (∀ q, q < 60 → M'.2.1 (o + 1) q = 0) → Q none GX M') : Ca 0 mt_X10_make 0 0 [.ref o, .int s, .int n] GX M Q := by
  refine Ca_of rfl (Nat.le_of_ble_eq_true rfl) ?_
  refine Ru_aload_n (pc := 0) dX10_make_0 rfl rfl ?_
  refine Ru_iload_n (pc := 1) dX10_make_1 rfl rfl ?_
  refine Ru_putI (pc := 2) rfl dX10_make_2 fl_X10_19 (shTray_0 ho) ?_
  refine Ru_aload_n (pc := 5) dX10_make_5 rfl rfl ?_
  refine Ru_iload_n (pc := 6) dX10_make_6 rfl rfl ?_
  refine Ru_putI (pc := 7) rfl dX10_make_7 fl_X10_9 (shTray_0 ho) ?_
  refine Ru_iconst (pc := 10) (nI 0) dX10_make_10 rfl ?_
  refine Ru_istore_n (pc := 11) dX10_make_11 rfl rfl (by decide) ?_
  refine Ru_weak (l_X10_make (s := s) (n := n) ho (fun M' hf hz => ?_) 60 0 _ rfl (by omega) (fun o' k' _ => ⟨rfl, rfl, rfl⟩) (fun q hq => absurd hq (Nat.not_lt_zero q))) rfl
  refine k M' (fun o' k' h1 h2 => ?_) ?_ ?_ ?_ hz
  · have e := hf o' k' h2
    exact ⟨e.1.trans ((r_sI_n (fun z => h1 z.1)).trans (r_sI_n (fun z => h1 z.1))), e.2.1, e.2.2⟩
  · rw [(hf o 0 (by omega)).1, r_sI_n (by omega), r_sI_s]
  · rw [(hf o 1 (by omega)).1, r_sI_s]
  · funext q
    exact (hf o q (by omega)).2.2
