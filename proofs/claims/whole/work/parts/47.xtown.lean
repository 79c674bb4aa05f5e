-- BITS OF A ROW
def bt (f : Nat → Nat) : Nat → Nat
  | 0 => 0
  | n + 1 => bt f n + f n * 2 ^ n
theorem bt_lt {f : Nat → Nat} : ∀ {n : Nat}, (∀ i, i < n → f i ≤ 1) → bt f n < 2 ^ n
  | 0, _ => by simp [bt]
  | n + 1, h => by
    have h1 := bt_lt (n := n) (fun i hi => h i (by omega))
    have h2 := h n (by omega)
    have h3 : f n * 2 ^ n ≤ 1 * 2 ^ n := Nat.mul_le_mul_right _ h2
    rw [Nat.pow_succ]
    show bt f n + f n * 2 ^ n < _
    omega
theorem bt_bit {f : Nat → Nat} : ∀ {n t : Nat}, (∀ i, i < n → f i ≤ 1) → t < n → bt f n >>> t &&& 1 = f t
  | 0, _, _, ht => absurd ht (Nat.not_lt_zero _)
  | n + 1, t, h, ht => by
    have h1 := bt_lt (f := f) (n := n) (fun i hi => h i (by omega))
    rw [Nat.and_one_is_mod, Nat.shiftRight_eq_div_pow]
    show (bt f n + f n * 2 ^ n) / 2 ^ t % 2 = f t
    by_cases htn : t = n
    · subst htn
      have h2 := h t (by omega)
      rw [Nat.add_mul_div_right _ _ (Nat.two_pow_pos t), Nat.div_eq_of_lt h1]
      omega
    · have ih := bt_bit (f := f) (n := n) (t := t) (fun i hi => h i (by omega)) (by omega)
      rw [Nat.and_one_is_mod, Nat.shiftRight_eq_div_pow] at ih
      have e : f n * 2 ^ n = (f n * 2 ^ (n - t - 1) * 2) * 2 ^ t := by
        rw [Nat.mul_assoc, Nat.mul_assoc, ← Nat.pow_succ', ← Nat.pow_add]
        congr 2
        omega
      rw [e, Nat.add_mul_div_right _ _ (Nat.two_pow_pos t), Nat.add_mul_mod_self_right]
      exact ih
theorem bt_tb {f : Nat → Nat} {n t : Nat} (h : ∀ i, i < n → f i ≤ 1) (ht : t < n) : (bt f n).testBit t = decide (f t = 1) := by
  rw [Nat.testBit_eq_decide_div_mod_eq]
  have := bt_bit h ht
  rw [Nat.and_one_is_mod, Nat.shiftRight_eq_div_pow] at this
  rw [this]
-- THE CLASS's TOWN
def awB (f t : Nat) (h : Nat) : Nat := if aw f t h then 1 else 0
theorem awB_le (f t h : Nat) : awB f t h ≤ 1 := by
  unfold awB
  split <;> omega
def ordH (d : Td) (h : Nat) : List Nat := (List.range h).flatMap (fun q => (List.range (d 3)).filter (fun w => d (115 + w) == q))
def X_tm (t : Nat) (d : Td) (M : Mem) : Prop := (M.1 (t + 1) 2 = nI (d 0) ∧ M.1 (t + 3) 2 = nI (d 1) ∧ M.1 (t + 10) 2 = nI (d 2) ∧ M.1 t 12 = nI (d 3)) ∧ (M.1 t 1 = nI (bt (fun i => d (5 + i)) 8) ∧ M.1 t 2 = nI (bt (fun i => d (13 + i)) 8) ∧ M.1 t 16 = nI (bt (fun i => d (131 + i)) 8)) ∧ (∀ m, m < d 1 → M.1 (t + 5) m = nI (d (29 + m)) ∧ M.1 (t + 6) m = nI (d (41 + m)) ∧ M.1 (t + 7) m = nI (d (53 + m)) ∧ M.1 (t + 8) m = nI (d (65 + m)) ∧ M.1 (t + 9) m = nI (d (77 + m))) ∧ (∀ p, p < d 2 → M.1 (t + 12) p = nI (bt (awB (d (89 + p)) (d (95 + p))) 24) ∧ M.1 (t + 13) p = nI (d (101 + p))) ∧ (∀ w, w < d 3 → M.1 (t + 14) w = nI (d (107 + w)) ∧ M.1 (t + 15) w = nI (d (115 + w)) ∧ M.1 (t + 16) w = nI (d (123 + w))) ∧ (∀ w, w < d 3 → M.1 (t + 17) w = nI ((ordH d 25).getD w 0)) ∧ ∀ h, h < 26 → M.1 (t + 18) h = nI (ordH d h).length
/-- the TOWN that is there, its LAW, its PLAN -/
def X_cu (mk t lw pl : Nat) (d : Td) (M : Mem) : Prop := (M.1 0 5 = nI mk ∧ mk ≤ 3 ∧ M.2.2 2 mk = some t ∧ isTown t) ∧ (M.2.2 t 19 = some lw ∧ isLaw lw ∧ M.1 lw 0 = nI (bt (fun i => d (21 + i)) 8)) ∧ M.2.2 t 20 = some pl ∧ isPlan pl ∧ M.1 pl 0 = nI (d 520) ∧ M.1 pl 1 = nI (d 4)

theorem c_X11_now {Q : Rq} {M : Mem} {mk t lw pl : Nat} {d : Td} (hu : X_cu mk t lw pl d M) (k : Q (some (.ref t)) GX M) : Ca 0 mt_X11_now 0 0 [.ref 0] GX M Q := by
  refine Ca_of rfl (Nat.le_of_ble_eq_true rfl) ?_
  have hmk := hu.1.2.1
  refine Ru_aload_n (pc := 0) dX11_now_0 rfl rfl ?_
  refine Ru_getR (pc := 1) 2 dX11_now_1 fl_X11_21 rfl rfl (rfX_of (o := 0) (j := 2) rfl rfl) ?_
  refine Ru_aload_n (pc := 4) dX11_now_4 rfl rfl ?_
  refine Ru_getI (pc := 5) dX11_now_5 fl_X11_158 rfl rfl ?_
  refine Ru_top hu.1.1 ?_
  refine Ru_aald (pc := 8) dX11_now_8 rfl (by decide) (by omega) hu.1.2.2.1 ?_
  refine Ru_aret (pc := 9) dX11_now_9 rfl ⟨Nat.le_refl _, Nat.le_refl _⟩ ?_
  exact k

theorem c_X11_isThing {Q : Rq} {M : Mem} {mk t lw pl : Nat} {d : Td} {t1 : Int32} (hu : X_cu mk t lw pl d M) (hx : X_tm t d M) (wf : Wf d) (k : Q (some (.int (r_b (decide (0 ≤ t1.toInt ∧ t1.toInt < d 0))))) GX M) : Ca 1 mt_X11_isThing 0 0 [.ref 0, .int t1] GX M Q := by
  refine Ca_of rfl (Nat.le_of_ble_eq_true rfl) ?_
  have hb := wf.1
  refine Ru_iload_n (pc := 0) dX11_isThing_0 rfl rfl ?_
  refine Ru_if_ltT (pc := 1) 22 dX11_isThing_1 (by decide) (fun h1 => ?_) (fun h1 => ?_)
  · refine Ru_iconst (pc := 22) (nI 0) dX11_isThing_22 rfl ?_
    refine Ru_zret (pc := 23) dX11_isThing_23 rfl ⟨Nat.le_refl _, Nat.le_refl _⟩ (Or.inl rfl) ?_
    refine r_qe (r_b_f ?_) k
    exact decide_eq_false (by omega)
  · refine Ru_iload_n (pc := 4) dX11_isThing_4 rfl rfl ?_
    refine Ru_aload_n (pc := 5) dX11_isThing_5 rfl rfl ?_
    refine Ru_cv0 (pc := 6) dX11_isThing_6 mv_X11_154 rfl (by decide) (Nat.le_of_ble_eq_true rfl) (c_X11_now hu ?_) 
    refine Ru_getR (pc := 9) (t + 1) dX11_isThing_9 fl_X11_161 (shTown_0 hu.1.2.2.2) rfl (rfX_of (o := t) (j := 1) (shTown_0 hu.1.2.2.2) rfl) ?_
    refine Ru_getI (pc := 12) dX11_isThing_12 fl_X11_165 (shNames_0 (isNames_t hu.1.2.2.2).1) rfl ?_
    refine Ru_top hx.1.1 ?_
    refine Ru_icmp_geL (pc := 15) 22 dX11_isThing_15 (by decide) (by omega) (fun h2 => ?_) (fun h2 => ?_)
    · refine Ru_iconst (pc := 22) (nI 0) dX11_isThing_22 rfl ?_
      refine Ru_zret (pc := 23) dX11_isThing_23 rfl ⟨Nat.le_refl _, Nat.le_refl _⟩ (Or.inl rfl) ?_
      refine r_qe (r_b_f ?_) k
      exact decide_eq_false (by omega)
    · refine Ru_iconst (pc := 18) (nI 1) dX11_isThing_18 rfl ?_
      refine Ru_goto (pc := 19) 23 dX11_isThing_19 (by decide) ?_
      refine Ru_zret (pc := 23) dX11_isThing_23 rfl ⟨Nat.le_refl _, Nat.le_refl _⟩ (Or.inr rfl) ?_
      refine r_qe (r_b_t ?_) k
      exact decide_eq_true (by omega)

theorem c_X11_thing {Q : Rq} {M : Mem} {mk t lw pl : Nat} {d : Td} {a w : Int32} (hu : X_cu mk t lw pl d M) (hx : X_tm t d M) (wf : Wf d) (k : ∀ M', r_fx [(0, 0)] [] M M' → M'.1 0 0 = nI (g_thing d a w).2 → Q (some (.int (g_thing d a w).1)) GX M') : Ca 3 mt_X11_thing 0 0 [.ref 0, .int a, .int w] GX M Q := by
  refine Ca_of rfl (Nat.le_of_ble_eq_true rfl) ?_
  have hb := wf.1
  refine Ru_aload_n (pc := 0) dX11_thing_0 rfl rfl ?_
  refine Ru_iload_n (pc := 1) dX11_thing_1 rfl rfl ?_
  refine Ru_cv1 (pc := 2) dX11_thing_2 mv_X11_214 rfl (by decide) (Nat.le_of_ble_eq_true rfl) (c_X11_isThing hu hx wf ?_) 
  refine Ru_if_neB (pc := 5) 14 dX11_thing_5 (by decide) (fun h1 => ?_) (fun h1 => ?_)
  · replace h1 := of_decide_eq_true h1
    obtain ⟨a', ha', rfl⟩ := r_nat (x := a) (n := 8) (by omega) (by omega)
    have ea := r_tn (show a' < 2147483648 by omega)
    refine Ru_iload_n (pc := 14) dX11_thing_14 rfl rfl ?_
    by_cases hs2 : w.toInt = 0
    · refine Ru_tableIn (pc := 15) 40 dX11_thing_15 (by omega) (by omega) (by rw [hs2]; rfl) (by decide) ?_
      refine Ru_aload_n (pc := 40) dX11_thing_40 rfl rfl ?_
      refine Ru_aload_n (pc := 41) dX11_thing_41 rfl rfl ?_
      refine Ru_cv0 (pc := 42) dX11_thing_42 mv_X11_154 rfl (by decide) (Nat.le_of_ble_eq_true rfl) (c_X11_now hu ?_) 
      refine Ru_getI (pc := 45) dX11_thing_45 fl_X11_217 (shTown_0 hu.1.2.2.2) rfl ?_
      refine Ru_top hx.2.1.1 ?_
      refine Ru_iload_n (pc := 48) dX11_thing_48 rfl rfl ?_
      refine Ru_ishrN (pc := 49) dX11_thing_49 ⟨Nat.lt_trans (bt_lt (f := fun i => d (5 + i)) (n := 8) (fun i hi => by have := wf.2.1 i hi; omega)) (by decide), by omega⟩ ?_
      refine Ru_iconst (pc := 50) (nI 1) dX11_thing_50 rfl ?_
      refine Ru_iandN (pc := 51) dX11_thing_51 ?_
      refine Ru_top (congrArg nI (bt_bit (f := fun i => d (5 + i)) (n := 8) (t := a') (fun i hi => by have := wf.2.1 i hi; omega) (by omega))) ?_
      refine Ru_cv1 (pc := 52) dX11_thing_52 mv_X11_170 rfl (by decide) (Nat.le_of_ble_eq_true rfl) (c_X11_tell ?_) 
      refine Ru_iret (pc := 55) dX11_thing_55 rfl ⟨Nat.le_refl _, Nat.le_refl _⟩ ?_
      have e : g_thing d (nI a') w = ((nI (d (5 + a'))), 0) := by
        unfold g_thing
        simp only [r_tn (show a' < 2147483648 by omega), Int.toNat_natCast]
        repeat' split
        all_goals first | rfl | (exfalso; omega) | (congr 3; omega) | (simp_all; done)
      rw [e] at k
      exact k _ (r_fx.sI rfl r_fx.rf) r_sI_s
    by_cases hs3 : w.toInt = 1
    · refine Ru_tableIn (pc := 15) 56 dX11_thing_15 (by omega) (by omega) (by rw [hs3]; rfl) (by decide) ?_
      refine Ru_aload_n (pc := 56) dX11_thing_56 rfl rfl ?_
      refine Ru_aload_n (pc := 57) dX11_thing_57 rfl rfl ?_
      refine Ru_cv0 (pc := 58) dX11_thing_58 mv_X11_154 rfl (by decide) (Nat.le_of_ble_eq_true rfl) (c_X11_now hu ?_) 
      refine Ru_getI (pc := 61) dX11_thing_61 fl_X11_220 (shTown_0 hu.1.2.2.2) rfl ?_
      refine Ru_top hx.2.1.2.1 ?_
      refine Ru_iload_n (pc := 64) dX11_thing_64 rfl rfl ?_
      refine Ru_ishrN (pc := 65) dX11_thing_65 ⟨Nat.lt_trans (bt_lt (f := fun i => d (13 + i)) (n := 8) (fun i hi => by have := wf.2.1 i hi; omega)) (by decide), by omega⟩ ?_
      refine Ru_iconst (pc := 66) (nI 1) dX11_thing_66 rfl ?_
      refine Ru_iandN (pc := 67) dX11_thing_67 ?_
      refine Ru_top (congrArg nI (bt_bit (f := fun i => d (13 + i)) (n := 8) (t := a') (fun i hi => by have := wf.2.1 i hi; omega) (by omega))) ?_
      refine Ru_cv1 (pc := 68) dX11_thing_68 mv_X11_170 rfl (by decide) (Nat.le_of_ble_eq_true rfl) (c_X11_tell ?_) 
      refine Ru_iret (pc := 71) dX11_thing_71 rfl ⟨Nat.le_refl _, Nat.le_refl _⟩ ?_
      have e : g_thing d (nI a') w = ((nI (d (13 + a'))), 0) := by
        unfold g_thing
        simp only [r_tn (show a' < 2147483648 by omega), Int.toNat_natCast]
        repeat' split
        all_goals first | rfl | (exfalso; omega) | (congr 3; omega) | (simp_all; done)
      rw [e] at k
      exact k _ (r_fx.sI rfl r_fx.rf) r_sI_s
    by_cases hs4 : w.toInt = 2
    · refine Ru_tableIn (pc := 15) 72 dX11_thing_15 (by omega) (by omega) (by rw [hs4]; rfl) (by decide) ?_
      refine Ru_aload_n (pc := 72) dX11_thing_72 rfl rfl ?_
      refine Ru_aload_n (pc := 73) dX11_thing_73 rfl rfl ?_
      refine Ru_cv0 (pc := 74) dX11_thing_74 mv_X11_154 rfl (by decide) (Nat.le_of_ble_eq_true rfl) (c_X11_now hu ?_) 
      refine Ru_getR (pc := 77) lw dX11_thing_77 fl_X11_176 (shTown_0 hu.1.2.2.2) rfl ((rfX_mut (shTown_0 hu.1.2.2.2) rfl).trans hu.2.1.1) ?_
      refine Ru_getI (pc := 80) dX11_thing_80 fl_X11_179 (shLaw_0 hu.2.1.2.1) rfl ?_
      refine Ru_top hu.2.1.2.2 ?_
      refine Ru_iload_n (pc := 83) dX11_thing_83 rfl rfl ?_
      refine Ru_ishrN (pc := 84) dX11_thing_84 ⟨Nat.lt_trans (bt_lt (f := fun i => d (21 + i)) (n := 8) (fun i hi => by have := wf.2.1 i hi; omega)) (by decide), by omega⟩ ?_
      refine Ru_iconst (pc := 85) (nI 1) dX11_thing_85 rfl ?_
      refine Ru_iandN (pc := 86) dX11_thing_86 ?_
      refine Ru_top (congrArg nI (bt_bit (f := fun i => d (21 + i)) (n := 8) (t := a') (fun i hi => by have := wf.2.1 i hi; omega) (by omega))) ?_
      refine Ru_cv1 (pc := 87) dX11_thing_87 mv_X11_170 rfl (by decide) (Nat.le_of_ble_eq_true rfl) (c_X11_tell ?_) 
      refine Ru_iret (pc := 90) dX11_thing_90 rfl ⟨Nat.le_refl _, Nat.le_refl _⟩ ?_
      have e : g_thing d (nI a') w = ((nI (d (21 + a'))), 0) := by
        unfold g_thing
        simp only [r_tn (show a' < 2147483648 by omega), Int.toNat_natCast]
        repeat' split
        all_goals first | rfl | (exfalso; omega) | (congr 3; omega) | (simp_all; done)
      rw [e] at k
      exact k _ (r_fx.sI rfl r_fx.rf) r_sI_s
    refine Ru_tableOut (pc := 15) 91 dX11_thing_15 (by omega) (by decide) ?_
    refine Ru_aload_n (pc := 91) dX11_thing_91 rfl rfl ?_
    refine Ru_iconst (pc := 92) (nI 5) dX11_thing_92 rfl ?_
    refine Ru_cv1 (pc := 93) dX11_thing_93 mv_X11_112 rfl (by decide) (Nat.le_of_ble_eq_true rfl) (c_X11_fail ?_) 
    refine Ru_iret (pc := 96) dX11_thing_96 rfl ⟨Nat.le_refl _, Nat.le_refl _⟩ ?_
    have e : g_thing d (nI a') w = (-1, 5) := by
      unfold g_thing
      simp only [r_tn (show a' < 2147483648 by omega), Int.toNat_natCast]
      repeat' split
      all_goals first | rfl | (exfalso; omega) | (congr 3; omega) | (simp_all; done)
    rw [e] at k
    exact k _ (r_fx.sI rfl r_fx.rf) r_sI_s
  · replace h1 := of_decide_eq_false h1
    refine Ru_aload_n (pc := 8) dX11_thing_8 rfl rfl ?_
    refine Ru_iconst (pc := 9) (nI 2) dX11_thing_9 rfl ?_
    refine Ru_cv1 (pc := 10) dX11_thing_10 mv_X11_112 rfl (by decide) (Nat.le_of_ble_eq_true rfl) (c_X11_fail ?_) 
    refine Ru_iret (pc := 13) dX11_thing_13 rfl ⟨Nat.le_refl _, Nat.le_refl _⟩ ?_
    have e : g_thing d a w = (-1, 2) := by
      unfold g_thing
      repeat' split
      all_goals first | rfl | (exfalso; omega) | (congr 3; omega) | (simp_all; done)
    rw [e] at k
    exact k _ (r_fx.sI rfl r_fx.rf) r_sI_s
