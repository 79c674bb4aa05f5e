-- READING: a town, the developers' side
theorem X_bd_or {u : Nat} {x : St9} {M M' : Mem} (h : ∀ o k, ¬ o = u + 17 → ¬ o = u + 18 → r_eq3 M M' o k) (b : X_bd u x M) : X_bd u x M' := by
  obtain ⟨⟨l1, l2, l3⟩, ⟨⟨c1, c2, c3⟩, w1, w2, w3⟩, t0, ⟨t1, t2, t3⟩, a5, ap, aw⟩ := b
  have g : ∀ j k, j ≤ 16 → M'.1 (u + j) k = M.1 (u + j) k := fun j k hj => (h (u + j) k (by omega) (by omega)).1
  have gj : ∀ j k, j ≤ 16 → M'.2.1 (u + j) k = M.2.1 (u + j) k := fun j k hj => (h (u + j) k (by omega) (by omega)).2.1
  have g0 : ∀ k, M'.1 u k = M.1 u k := fun k => g 0 k (by omega)
  refine ⟨⟨(g 1 0 (by omega)).trans l1, (g 3 0 (by omega)).trans l2, (g 10 0 (by omega)).trans l3⟩, ⟨⟨(g 1 2 (by omega)).trans c1, (g 3 2 (by omega)).trans c2, (g 10 2 (by omega)).trans c3⟩, fun k hk => ⟨(gj 2 k (by omega)).trans (w1 k hk).1, (w1 k hk).2⟩, fun k hk => ⟨(gj 4 k (by omega)).trans (w2 k hk).1, (w2 k hk).2⟩, fun k hk => ⟨(gj 11 k (by omega)).trans (w3 k hk).1, (w3 k hk).2⟩⟩, (g0 12).trans t0, ⟨(g0 1).trans t1, (g0 2).trans t2, (g0 16).trans t3⟩, fun m hm => ?_, fun p hp => ?_, fun w hw => ?_⟩
  · obtain ⟨x1, x2, x3, x4, x5⟩ := a5 m hm
    exact ⟨(g 5 m (by omega)).trans x1, (g 6 m (by omega)).trans x2, (g 7 m (by omega)).trans x3, (g 8 m (by omega)).trans x4, (g 9 m (by omega)).trans x5⟩
  · exact ⟨(g 12 p (by omega)).trans (ap p hp).1, (g 13 p (by omega)).trans (ap p hp).2⟩
  · exact ⟨(g 14 w (by omega)).trans (aw w hw).1, (g 15 w (by omega)).trans (aw w hw).2.1, (g 16 w (by omega)).trans (aw w hw).2.2⟩
theorem X_bd_tm {u : Nat} {x : St9} {M : Mem} (b : X_bd u x M) (wf : Wf x.1) (h18 : ∀ h, h < 26 → M.1 (u + 18) h = nI (ordH x.1 h).length) (h17 : ∀ i, i < (ordH x.1 25).length → M.1 (u + 17) i = nI ((ordH x.1 25).getD i 0)) (hl : (ordH x.1 25).length = x.1 3) : X_tm u x.1 M := by
  obtain ⟨_, ⟨⟨c1, c2, c3⟩, _, _, _⟩, t0, t, a5, ap, aw⟩ := b
  exact ⟨⟨c1, c2, c3, t0⟩, t, a5, ap, aw, fun w hw => h17 w (by omega), h18⟩
theorem ordH_all {d : Td} (wf : Wf d) : (ordH d 25).length = d 3 := by
  rw [ordH_len]
  have h : ∀ n, n ≤ d 3 → cn (fun w => decide (d (115 + w) < 25)) n = n := by
    intro n
    induction n with
    | zero => intro _; rfl
    | succ n ih =>
      intro hn
      have h1 := (wf.2.2.2.2.2.2 n (by omega)).2.1
      rw [cn, ih (by omega), decide_eq_true (show d (115 + n) < 25 by omega)]
      rfl
  exact h _ (Nat.le_refl _)
/-- the cells of a town with its law and its plan that a new town's telling changes -/
def bP (u lw pl o k : Nat) : Prop := inT u o k ∨ (o = lw ∧ (k = 0 ∨ k = 4 ∨ k = 5)) ∨ (o = pl ∧ (k = 0 ∨ k = 1))

theorem c_X2_clear {Q : Rq} {M : Mem} {lw : Nat} (hl : isLaw lw) (k : Q none GX (r_sI (r_sI (r_sI M lw 0 (nI 0)) lw 4 (nI 0)) lw 5 (nI 0))) : Ca 0 mt_X2_clear 0 0 [.ref lw] GX M Q := by
  refine Ca_of rfl (Nat.le_of_ble_eq_true rfl) ?_
  refine Ru_aload_n (pc := 0) dX2_clear_0 rfl rfl ?_
  refine Ru_iconst (pc := 1) (nI 0) dX2_clear_1 rfl ?_
  refine Ru_putI (pc := 2) rfl dX2_clear_2 fl_X2_21 (shLaw_0 hl) ?_
  refine Ru_aload_n (pc := 5) dX2_clear_5 rfl rfl ?_
  refine Ru_iconst (pc := 6) (nI 0) dX2_clear_6 rfl ?_
  refine Ru_putI (pc := 7) rfl dX2_clear_7 fl_X2_25 (shLaw_0 hl) ?_
  refine Ru_aload_n (pc := 10) dX2_clear_10 rfl rfl ?_
  refine Ru_iconst (pc := 11) (nI 0) dX2_clear_11 rfl ?_
  refine Ru_putI (pc := 12) rfl dX2_clear_12 fl_X2_28 (shLaw_0 hl) ?_
  refine Ru_vret (pc := 15) dX2_clear_15 rfl ⟨Nat.le_refl _, Nat.le_refl _⟩ ?_
  exact k

theorem c_X5_clear {Q : Rq} {M : Mem} {pl : Nat} (hp : isPlan pl) (k : Q none GX (r_sI (r_sI M pl 0 (nI 0)) pl 1 (nI 0))) : Ca 0 mt_X5_clear 0 0 [.ref pl] GX M Q := by
  refine Ca_of rfl (Nat.le_of_ble_eq_true rfl) ?_
  refine Ru_aload_n (pc := 0) dX5_clear_0 rfl rfl ?_
  refine Ru_iconst (pc := 1) (nI 0) dX5_clear_1 rfl ?_
  refine Ru_putZ (pc := 2) rfl dX5_clear_2 fl_X5_24 (shPlan_0 hp) (Or.inl rfl) ?_
  refine Ru_aload_n (pc := 5) dX5_clear_5 rfl rfl ?_
  refine Ru_iconst (pc := 6) (nI 0) dX5_clear_6 rfl ?_
  refine Ru_putI (pc := 7) rfl dX5_clear_7 fl_X5_28 (shPlan_0 hp) ?_
  refine Ru_vret (pc := 10) dX5_clear_10 rfl ⟨Nat.le_refl _, Nat.le_refl _⟩ ?_
  exact k

theorem c_X9_clear {Q : Rq} {M : Mem} {u lw pl : Nat} (hu : isTown u) (hl : isLaw lw) (hp : isPlan pl) (hlw : M.2.2 u 19 = some lw) (hpl : M.2.2 u 20 = some pl) (hlm : X_lm u M) (k : ∀ M', (∀ o k, ¬ bP u lw pl o k → r_eq3 M M' o k) → X_bd u x09 M' → M'.1 lw 0 = nI 0 → M'.1 pl 0 = nI 0 → M'.1 pl 1 = nI 0 → Q none GX M') : Ca 1 mt_X9_clear 0 0 [.ref u] GX M Q := by
  refine Ca_of rfl (Nat.le_of_ble_eq_true rfl) ?_
  have hT : u = 3 ∨ u = 83 ∨ u = 111 ∨ u = 139 ∨ u = 167 := hu
  have hL : lw = 22 ∨ lw = 31 ∨ lw = 102 ∨ lw = 130 ∨ lw = 158 ∨ lw = 186 := hl
  have hP : pl = 26 ∨ pl = 35 ∨ pl = 106 ∨ pl = 134 ∨ pl = 162 ∨ pl = 190 := hp
  have n1 : ∀ j, j ≤ 18 → ¬ u + j = lw ∧ ¬ u + j = pl := fun j hj => by omega
  have n0 : ¬ u = lw ∧ ¬ u = pl := n1 0 (by omega)
  have q1 := n1 1 (by omega)
  have q3 := n1 3 (by omega)
  have q10 := n1 10 (by omega)
  have nlp : ¬ lw = pl := by omega
  clear hT hL hP
  refine Ru_aload_n (pc := 0) dX9_clear_0 rfl rfl ?_
  refine Ru_getR (pc := 1) (u + 1) dX9_clear_1 fl_X9_14 (shTown_0 hu) rfl (rfX_of (o := u) (j := 1) (shTown_0 hu) rfl) ?_
  refine Ru_iconst (pc := 4) (nI 0) dX9_clear_4 rfl ?_
  refine Ru_putI (pc := 5) rfl dX9_clear_5 fl_X9_93 (shNames_0 (isNames_t hu).1) ?_
  refine Ru_aload_n (pc := 8) dX9_clear_8 rfl rfl ?_
  refine Ru_iconst (pc := 9) (nI 0) dX9_clear_9 rfl ?_
  refine Ru_putI (pc := 10) rfl dX9_clear_10 fl_X9_97 (shTown_0 hu) ?_
  refine Ru_aload_n (pc := 13) dX9_clear_13 rfl rfl ?_
  refine Ru_iconst (pc := 14) (nI 0) dX9_clear_14 rfl ?_
  refine Ru_putI (pc := 15) rfl dX9_clear_15 fl_X9_100 (shTown_0 hu) ?_
  refine Ru_aload_n (pc := 18) dX9_clear_18 rfl rfl ?_
  refine Ru_getR (pc := 19) (u + 3) dX9_clear_19 fl_X9_20 (shTown_0 hu) rfl (rfX_of (o := u) (j := 3) (shTown_0 hu) rfl) ?_
  refine Ru_iconst (pc := 22) (nI 0) dX9_clear_22 rfl ?_
  refine Ru_putI (pc := 23) rfl dX9_clear_23 fl_X9_93 (shNames_0 (isNames_t hu).2.1) ?_
  refine Ru_aload_n (pc := 26) dX9_clear_26 rfl rfl ?_
  refine Ru_getR (pc := 27) (u + 10) dX9_clear_27 fl_X9_39 (shTown_0 hu) rfl (rfX_of (o := u) (j := 10) (shTown_0 hu) rfl) ?_
  refine Ru_iconst (pc := 30) (nI 0) dX9_clear_30 rfl ?_
  refine Ru_putI (pc := 31) rfl dX9_clear_31 fl_X9_93 (shNames_0 (isNames_t hu).2.2) ?_
  refine Ru_aload_n (pc := 34) dX9_clear_34 rfl rfl ?_
  refine Ru_iconst (pc := 35) (nI 0) dX9_clear_35 rfl ?_
  refine Ru_putI (pc := 36) rfl dX9_clear_36 fl_X9_103 (shTown_0 hu) ?_
  refine Ru_aload_n (pc := 39) dX9_clear_39 rfl rfl ?_
  refine Ru_iconst (pc := 40) (nI 0) dX9_clear_40 rfl ?_
  refine Ru_putI (pc := 41) rfl dX9_clear_41 fl_X9_106 (shTown_0 hu) ?_
  refine Ru_aload_n (pc := 44) dX9_clear_44 rfl rfl ?_
  refine Ru_getR (pc := 45) lw dX9_clear_45 fl_X9_66 (shTown_0 hu) rfl ((rfX_mut (shTown_0 hu) rfl).trans hlw) ?_
  refine Ru_cv0 (pc := 48) dX9_clear_48 mv_X9_109 (shLaw_0 hl) (by decide) (Nat.le_of_ble_eq_true rfl) (c_X2_clear hl ?_) 
  refine Ru_aload_n (pc := 51) dX9_clear_51 rfl rfl ?_
  refine Ru_getR (pc := 52) pl dX9_clear_52 fl_X9_73 (shTown_0 hu) rfl ((rfX_mut (shTown_0 hu) rfl).trans hpl) ?_
  refine Ru_cv0 (pc := 55) dX9_clear_55 mv_X9_110 (shPlan_0 hp) (by decide) (Nat.le_of_ble_eq_true rfl) (c_X5_clear hp ?_) 
  refine Ru_vret (pc := 58) dX9_clear_58 rfl ⟨Nat.le_refl _, Nat.le_refl _⟩ ?_
  refine k _ (fun o k h2 => ?_) ⟨⟨?_, ?_, ?_⟩, ⟨⟨?_, ?_, ?_⟩, fun k hk => absurd hk (Nat.not_lt_zero _), fun k hk => absurd hk (Nat.not_lt_zero _), fun k hk => absurd hk (Nat.not_lt_zero _)⟩, ?_, ⟨?_, ?_, ?_⟩, fun k hk => absurd hk (Nat.not_lt_zero _), fun k hk => absurd hk (Nat.not_lt_zero _), fun k hk => absurd hk (Nat.not_lt_zero _)⟩ ?_ ?_ ?_
  · unfold bP inT at h2
    exact ⟨((r_sI_n (by omega)).trans ((r_sI_n (by omega)).trans ((r_sI_n (by omega)).trans ((r_sI_n (by omega)).trans ((r_sI_n (by omega)).trans ((r_sI_n (by omega)).trans ((r_sI_n (by omega)).trans ((r_sI_n (by omega)).trans ((r_sI_n (by omega)).trans ((r_sI_n (by omega)).trans ((r_sI_n (by omega)).trans ((r_sI_n (by omega)).trans rfl)))))))))))), rfl, rfl⟩
  · exact ((r_sI_n (by omega)).trans ((r_sI_n (by omega)).trans ((r_sI_n (by omega)).trans ((r_sI_n (by omega)).trans ((r_sI_n (by omega)).trans ((r_sI_n (by omega)).trans ((r_sI_n (by omega)).trans ((r_sI_n (by omega)).trans ((r_sI_n (by omega)).trans ((r_sI_n (by omega)).trans ((r_sI_n (by omega)).trans ((r_sI_n (by omega)).trans hlm.1))))))))))))
  · exact ((r_sI_n (by omega)).trans ((r_sI_n (by omega)).trans ((r_sI_n (by omega)).trans ((r_sI_n (by omega)).trans ((r_sI_n (by omega)).trans ((r_sI_n (by omega)).trans ((r_sI_n (by omega)).trans ((r_sI_n (by omega)).trans ((r_sI_n (by omega)).trans ((r_sI_n (by omega)).trans ((r_sI_n (by omega)).trans ((r_sI_n (by omega)).trans hlm.2.1))))))))))))
  · exact ((r_sI_n (by omega)).trans ((r_sI_n (by omega)).trans ((r_sI_n (by omega)).trans ((r_sI_n (by omega)).trans ((r_sI_n (by omega)).trans ((r_sI_n (by omega)).trans ((r_sI_n (by omega)).trans ((r_sI_n (by omega)).trans ((r_sI_n (by omega)).trans ((r_sI_n (by omega)).trans ((r_sI_n (by omega)).trans ((r_sI_n (by omega)).trans hlm.2.2))))))))))))
  · exact ((r_sI_n (by omega)).trans ((r_sI_n (by omega)).trans ((r_sI_n (by omega)).trans ((r_sI_n (by omega)).trans ((r_sI_n (by omega)).trans ((r_sI_n (by omega)).trans ((r_sI_n (by omega)).trans ((r_sI_n (by omega)).trans ((r_sI_n (by omega)).trans ((r_sI_n (by omega)).trans ((r_sI_n (by omega)).trans r_sI_s)))))))))))
  · exact ((r_sI_n (by omega)).trans ((r_sI_n (by omega)).trans ((r_sI_n (by omega)).trans ((r_sI_n (by omega)).trans ((r_sI_n (by omega)).trans ((r_sI_n (by omega)).trans ((r_sI_n (by omega)).trans ((r_sI_n (by omega)).trans r_sI_s))))))))
  · exact ((r_sI_n (by omega)).trans ((r_sI_n (by omega)).trans ((r_sI_n (by omega)).trans ((r_sI_n (by omega)).trans ((r_sI_n (by omega)).trans ((r_sI_n (by omega)).trans ((r_sI_n (by omega)).trans r_sI_s)))))))
  · exact ((r_sI_n (by omega)).trans ((r_sI_n (by omega)).trans ((r_sI_n (by omega)).trans ((r_sI_n (by omega)).trans ((r_sI_n (by omega)).trans ((r_sI_n (by omega)).trans r_sI_s))))))
  · exact ((r_sI_n (by omega)).trans ((r_sI_n (by omega)).trans ((r_sI_n (by omega)).trans ((r_sI_n (by omega)).trans ((r_sI_n (by omega)).trans ((r_sI_n (by omega)).trans ((r_sI_n (by omega)).trans ((r_sI_n (by omega)).trans ((r_sI_n (by omega)).trans ((r_sI_n (by omega)).trans r_sI_s))))))))))
  · exact ((r_sI_n (by omega)).trans ((r_sI_n (by omega)).trans ((r_sI_n (by omega)).trans ((r_sI_n (by omega)).trans ((r_sI_n (by omega)).trans ((r_sI_n (by omega)).trans ((r_sI_n (by omega)).trans ((r_sI_n (by omega)).trans ((r_sI_n (by omega)).trans r_sI_s)))))))))
  · exact ((r_sI_n (by omega)).trans ((r_sI_n (by omega)).trans ((r_sI_n (by omega)).trans ((r_sI_n (by omega)).trans ((r_sI_n (by omega)).trans r_sI_s)))))
  · exact ((r_sI_n (by omega)).trans ((r_sI_n (by omega)).trans ((r_sI_n (by omega)).trans ((r_sI_n (by omega)).trans r_sI_s))))
  · exact ((r_sI_n (by omega)).trans r_sI_s)
  · exact r_sI_s
