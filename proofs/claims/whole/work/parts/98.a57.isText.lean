-- READING: town, the developers' side
theorem twX_z {T : Tx} {x : St9} {s : Ps} (wf : Wf x.1) (h0 : s.2 = 0) (h : (prS T x s).2 = 0) (z : ∀ j, (j = 4 ∨ (21 ≤ j ∧ j < 29) ∨ 139 ≤ j) → x.1 j = 0) : ∀ j, (j = 4 ∨ (21 ≤ j ∧ j < 29) ∨ 139 ≤ j) → (prX T x s).1 j = 0 := by
  intro j hj
  have h1 := (prS_adv h).2.1
  have hb := wf.1
  have zj := z j hj
  unfold paS at h1
  unfold prX
  by_cases e1 : tK T s.1 = 128
  · rw [if_pos e1] at h1 ⊢
    have h2 : (sNew T 0 8 x s).2 = 0 := by
      unfold thS at h1
      rwa [sIf_2, sIf_2] at h1
    have hlt := sNew_lt h2 hb.1
    unfold thX
    dsimp only
    rw [if_neg (by omega), if_neg (by omega), if_neg (by omega)]
    split
    · rfl
    · exact zj
  · rw [if_neg e1] at h1 ⊢
    by_cases e2 : tK T s.1 = 131
    · rw [if_pos e2] at h1 ⊢
      have o6 := sCount_ok9 (sOpt_0 (sOpt_0 h1))
      have o4 := sCount_ok9 (sMust_0 o6.2.2)
      have o2 := sOld_ok (sNext_0 (sMust_0 o4.2.2))
      have hlt := sNew_lt (sMust_0 o2.2.1) hb.2.1
      rw [(mkX_c (T := T) (s := s) hlt).2.2 j (by omega) (by omega) (by omega) (by omega) (by omega) (by omega)]
      exact zj
    · rw [if_neg e2] at h1 ⊢
      by_cases e3 : tK T s.1 = 137
      · rw [if_pos e3] at h1 ⊢
        have hI : (pe4 T x s).2 = 0 := by
          unfold peS at h1
          split at h1
          · rename_i c
            exact c.1
          · exact h1
        have o4 := sCount_ok9 hI
        have o2 := sCount_ok9 (sMust_0 o4.2.2)
        have hlt := sNew_lt (sMust_0 o2.2.2) hb.2.2.1
        rw [(peX_c (T := T) (s := s) hlt).2.2 j (by omega) (by omega) (by omega) (by omega)]
        exact zj
      · rw [if_neg e3] at h1 ⊢
        have h2 : (waS T x s).2 = 0 := by
          split at h1
          · exact h1
          · unfold sWrong at h1
            rw [if_pos h0] at h1
            exfalso
            have h3 : (if tK T s.1 = 1 then 1 else 2) = 0 := h1
            split at h3 <;> omega
        have w2 := waX_wf wf h2
        have hlt : x.1 3 < 8 := by
          have h3 : x.1 3 + 1 ≤ 8 := w2.1.2.2.2.1
          omega
        rw [(waX_c (T := T) (s := s) hlt).2.2 j (by omega) (by omega) (by omega) (by omega) (by omega)]
        exact zj
theorem twP_z {T : Tx} : ∀ (f : Nat) (x : St9) (s : Ps), Wf x.1 → s.2 = 0 → (∀ j, (j = 4 ∨ (21 ≤ j ∧ j < 29) ∨ 139 ≤ j) → x.1 j = 0) → ∀ j, (j = 4 ∨ (21 ≤ j ∧ j < 29) ∨ 139 ≤ j) → (twP T f x s).1.1 j = 0
  | 0, x, s, _, _, z => z
  | f + 1, x, s, h, h0, z => by
    rw [twP]
    split
    · exact z
    · split
      · exact z
      · rename_i h2
        have h3 : (prS T x s).2 = 0 := Classical.byContradiction h2
        exact twP_z f _ _ (prX_wf h h0 h3) h3 (twX_z h h0 h3 z)
theorem twR_z (T : Tx) : ∀ j, (j = 4 ∨ (21 ≤ j ∧ j < 29) ∨ 139 ≤ j) → (twR T).1.1 j = 0 := twP_z 801 x09 (0, 0) x09_wf rfl (fun _ _ => rfl)

theorem c_X11_isText {Q : Rq} {M : Mem} {tp : Nat × (Nat → Int32)} {n : Int32} {most : Nat} (hy : X_tp tp M) (hm9 : most ≤ 800) (k : Q (some (.int (r_b (decide (0 ≤ n.toInt ∧ n.toInt ≤ (tp.1 : Int) ∧ n.toInt ≤ (most : Int)))))) GX M) : Ca 0 mt_X11_isText 0 0 [.ref 0, .int n, .int (nI most)] GX M Q := by
  refine Ca_of rfl (Nat.le_of_ble_eq_true rfl) ?_
  have hy2 := hy.2.1
  refine Ru_iload_n (pc := 0) dX11_isText_0 rfl rfl ?_
  refine Ru_if_ltT (pc := 1) 24 dX11_isText_1 (by decide) (fun h1 => ?_) (fun h1 => ?_)
  · refine Ru_iconst (pc := 24) (nI 0) dX11_isText_24 rfl ?_
    refine Ru_zret (pc := 25) dX11_isText_25 rfl ⟨Nat.le_refl _, Nat.le_refl _⟩ (Or.inl rfl) ?_
    refine r_qe (r_b_f ?_) k
    exact decide_eq_false (by omega)
  · refine Ru_iload_n (pc := 4) dX11_isText_4 rfl rfl ?_
    refine Ru_aload_n (pc := 5) dX11_isText_5 rfl rfl ?_
    refine Ru_getR (pc := 6) 40 dX11_isText_6 fl_X11_47 rfl rfl (rfX_of (o := 0) (j := 40) rfl rfl) ?_
    refine Ru_getI (pc := 9) dX11_isText_9 fl_X11_137 rfl rfl ?_
    refine Ru_top hy.1 ?_
    refine Ru_icmp_gtL (pc := 12) 24 dX11_isText_12 (by decide) (by have := hy.2.1; omega) (fun h2 => ?_) (fun h2 => ?_)
    · refine Ru_iconst (pc := 24) (nI 0) dX11_isText_24 rfl ?_
      refine Ru_zret (pc := 25) dX11_isText_25 rfl ⟨Nat.le_refl _, Nat.le_refl _⟩ (Or.inl rfl) ?_
      refine r_qe (r_b_f ?_) k
      exact decide_eq_false (by omega)
    · refine Ru_iload_n (pc := 15) dX11_isText_15 rfl rfl ?_
      refine Ru_iload_n (pc := 16) dX11_isText_16 rfl rfl ?_
      refine Ru_icmp_gtL (pc := 17) 24 dX11_isText_17 (by decide) (by omega) (fun h3 => ?_) (fun h3 => ?_)
      · refine Ru_iconst (pc := 24) (nI 0) dX11_isText_24 rfl ?_
        refine Ru_zret (pc := 25) dX11_isText_25 rfl ⟨Nat.le_refl _, Nat.le_refl _⟩ (Or.inl rfl) ?_
        refine r_qe (r_b_f ?_) k
        exact decide_eq_false (by omega)
      · refine Ru_iconst (pc := 20) (nI 1) dX11_isText_20 rfl ?_
        refine Ru_goto (pc := 21) 25 dX11_isText_21 (by decide) ?_
        refine Ru_zret (pc := 25) dX11_isText_25 rfl ⟨Nat.le_refl _, Nat.le_refl _⟩ (Or.inr rfl) ?_
        refine r_qe (r_b_t ?_) k
        exact decide_eq_true (by omega)

theorem c_X11_nowR {Q : Rq} {M : Mem} {mk t : Nat} (h5 : M.1 0 5 = nI mk) (hmk : mk ≤ 3) (h2 : M.2.2 2 mk = some t) (ht : isTown t) (k : Q (some (.ref t)) GX M) : Ca 0 mt_X11_now 0 0 [.ref 0] GX M Q := by
  refine Ca_of rfl (Nat.le_of_ble_eq_true rfl) ?_
  refine Ru_aload_n (pc := 0) dX11_now_0 rfl rfl ?_
  refine Ru_getR (pc := 1) 2 dX11_now_1 fl_X11_21 rfl rfl (rfX_of (o := 0) (j := 2) rfl rfl) ?_
  refine Ru_aload_n (pc := 4) dX11_now_4 rfl rfl ?_
  refine Ru_getI (pc := 5) dX11_now_5 fl_X11_158 rfl rfl ?_
  refine Ru_top h5 ?_
  refine Ru_aald (pc := 8) dX11_now_8 rfl (by decide) (by omega) h2 ?_
  refine Ru_aret (pc := 9) dX11_now_9 rfl ⟨Nat.le_refl _, Nat.le_refl _⟩ ?_
  exact k
