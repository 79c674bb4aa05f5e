-- READING: the developers' makings
theorem sNm_0 (T : Tx) (W : Nat → List Nat) (b n : Nat) (s : Ps) : sNm T W b n 0 s = sNext (sOld T W b n s) := by
  unfold sNm
  by_cases h : (sOld T W b n s).2 = 0
  · rw [if_neg (fun z => z h), Nat.zero_testBit, if_neg (by decide)]
    have e := (sOld_ok h).1
    rw [e] at h ⊢
    exact (if_pos h).symm
  · rw [if_pos h]
    exact (sNext_f h).symm
theorem c_X8_named0 {Q : Rq} {M : Mem} {T : Tx} {cnt : Nat} {s : Ps} (tw : Tw T) (hr : X_rd T cnt s M) (h0 : s.2 = 0) {o b n : Nat} {W : Nat → List Nat} (ho : isNames o) (hcn : M.1 o 2 = nI n) (hn9 : n ≤ 12) (hW : ∀ k, k < n → M.2.1 (o + 1) k = nJ (cd 27 (W (b + k))) ∧ Lv (W (b + k)) ∧ (W (b + k)).length ≤ 8) (k : ∀ M', r_fx [(40, 6), (40, 7), (40, 8)] [] M M' → X_rd T cnt (sNext (sOld T W b n s)) M' → Q (some (.int (if (sNext (sOld T W b n s)).2 = 0 then nI (fN W (tL T s.1) b n - 1) else -1))) GX M') : Ca 1 mt_X8_named 0 0 [.ref 40, .ref o, .int (nI 0)] GX M Q := by
  refine c_X8_named (W := W) (b := b) (n := n) (had := 0) tw hr h0 ho hcn hn9 hW (by decide) (fun M' f r => ?_)
  rw [sNm_0] at r ⊢
  exact k M' f r
theorem sRx_nz {T : Tx} {W : Nat → List Nat} {b n had : Nat} : ∀ (f set : Nat) (s : Ps), s.2 = 0 → (f = 0 → ¬ set = 0) → ((sRx T W b n had f set s).2.2 = 0 ∧ ¬ (sRx T W b n had f set s).1 = 0) ∨ (¬ (sRx T W b n had f set s).2.2 = 0 ∧ (sRx T W b n had f set s).1 = 0)
  | 0, set, s, h0, h1 => Or.inl ⟨h0, h1 rfl⟩
  | f + 1, set, s, h0, h1 => by
    have hp : ∀ k, ¬ (set ||| 2 ^ k) = 0 := fun k z => by
      have := congrArg (fun q => q.testBit k) z
      simp [Nat.testBit_or, Nat.testBit_two_pow] at this
    rw [sRx]
    split
    · exact Or.inr ⟨by assumption, rfl⟩
    · split
      · exact sRx_nz f _ _ rfl (fun _ => hp _)
      · exact Or.inl ⟨rfl, hp _⟩
theorem sRx_lt {T : Tx} {W : Nat → List Nat} {b n had : Nat} : ∀ (f set : Nat) (s : Ps), set < 2 ^ n → (sRx T W b n had f set s).1 < 2 ^ n
  | 0, set, s, h => h
  | f + 1, set, s, h => by
    rw [sRx]
    split
    · exact Nat.two_pow_pos n
    · rename_i h1
      have ok := sNm_ok (Classical.byContradiction h1)
      have hk := fN_le W (tL T s.1) b n
      have hp : 2 ^ (fN W (tL T s.1) b n - 1) < 2 ^ n := Nat.pow_lt_pow_right (by decide) (by have := ok.2.2.2.1; omega)
      split
      · exact sRx_lt f _ _ (Nat.or_lt_two_pow h hp)
      · exact Nat.or_lt_two_pow h hp
/-- the row as the document's reader has it -/
def rwE (T : Tx) (e : Nat) (R : Nat × Ps) : Nat × Ps := if R.2.2 = 0 ∧ isWk (tK T R.2.1) = true ∧ ¬ tK T R.2.1 = e then (0, (R.2.1, 2)) else R
theorem rwE_f {T : Tx} {e : Nat} {R : Nat × Ps} (h : ¬ R.2.2 = 0) : rwE T e R = R := if_neg (fun z => h z.1)
theorem rwE_e {T : Tx} {e : Nat} {R : Nat × Ps} (h : tK T R.2.1 = e) : rwE T e R = R := if_neg (fun z => z.2.2 h)
theorem rwE_end {T : Tx} {e : Nat} {R : Nat × Ps} (h : R.2.2 = 0) : prE T (rwE T e R).2 = prE T R.2 ∧ ((prE T R.2).2 = 0 → rwE T e R = R) := by
  unfold rwE
  by_cases c : R.2.2 = 0 ∧ isWk (tK T R.2.1) = true ∧ ¬ tK T R.2.1 = e
  · rw [if_pos c]
    have hk : tK T R.2.1 = 3 ∨ tK T R.2.1 = 4 ∨ 128 ≤ tK T R.2.1 := of_decide_eq_true c.2.1
    have e1 : prE T R.2 = (R.2.1, 2) := by
      unfold prE sMust sWrong
      rw [decide_eq_false (show ¬ tK T R.2.1 = 59 by omega), if_neg (by decide), if_pos h, if_neg (by omega)]
    rw [e1]
    refine ⟨?_, fun z => absurd z (fun y => Nat.noConfusion y)⟩
    unfold prE
    exact sMust_f (fun z => Nat.noConfusion z)
  · rw [if_neg c]
    exact ⟨rfl, fun _ => rfl⟩
theorem sOpt_y {T : Tx} (tw : Tw T) {W : Nat → List Nat} {n had w : Nat} {s : Ps} (h0 : s.2 = 0) (h : tK T s.1 = w) (hw9 : ¬ w = 0) : sOpt T W n had w s = rwE T 136 (sRx T W 0 n had (801 - (s.1 + 1)) 0 (s.1 + 1, 0)) := by
  have h8 := (tK_i tw (i := s.1) (by omega)).1
  have e : sOpt T W n had w s = sRw T W 0 n had 136 (801 - (s.1 + 1)) 0 (s.1 + 1, 0) := if_pos ⟨h0, h⟩
  rw [e]
  exact sRx_Rw tw (by decide) (801 - (s.1 + 1)) 0 (s.1 + 1, 0) rfl (by show 801 ≤ 801 - (s.1 + 1) + (s.1 + 1); omega) (by show s.1 + 1 ≤ 800; omega)
theorem sOpt_m {T : Tx} {W : Nat → List Nat} {n had w : Nat} {s : Ps} (h : ¬ tK T s.1 = w) : sOpt T W n had w s = (0, s) := if_neg (fun z => h z.2)
theorem mk_f7 {T : Tx} {x : St9} {s : Ps} (h : ¬ (mk7 T x s).2.2 = 0) : prE T (mkS T x s) = (mk7 T x s).2 := by
  have e : mk8 T x s = (0, (mk7 T x s).2) := sOpt_f h
  unfold prE mkS
  rw [e]
  exact sMust_f h
theorem mk_f6 {T : Tx} {x : St9} {s : Ps} (h : ¬ (mk6 T x s).2 = 0) : prE T (mkS T x s) = mk6 T x s := by
  have e : mk7 T x s = (0, mk6 T x s) := sOpt_f h
  exact (mk_f7 (by rw [e]; exact h)).trans (by rw [e])
theorem mk_f5 {T : Tx} {x : St9} {s : Ps} (h : ¬ (mk5 T x s).2 = 0) : prE T (mkS T x s) = mk5 T x s := by
  have e : mk6 T x s = mk5 T x s := sCount_f h
  exact (mk_f6 (by rw [e]; exact h)).trans e
theorem mk_f4 {T : Tx} {x : St9} {s : Ps} (h : ¬ (mk4 T x s).2 = 0) : prE T (mkS T x s) = mk4 T x s := by
  have e : mk5 T x s = mk4 T x s := sMust_f h
  exact (mk_f5 (by rw [e]; exact h)).trans e
theorem mk_f3 {T : Tx} {x : St9} {s : Ps} (h : ¬ (mk3 T x s).2 = 0) : prE T (mkS T x s) = mk3 T x s := by
  have e : mk4 T x s = mk3 T x s := sCount_f h
  exact (mk_f4 (by rw [e]; exact h)).trans e
theorem mk_f2 {T : Tx} {x : St9} {s : Ps} (h : ¬ (mk2 T x s).2 = 0) : prE T (mkS T x s) = mk2 T x s := by
  have e : mk3 T x s = mk2 T x s := sMust_f h
  exact (mk_f3 (by rw [e]; exact h)).trans e
theorem mk_f1 {T : Tx} {x : St9} {s : Ps} (h : ¬ (mk1 T x s).2 = 0) : prE T (mkS T x s) = mk1 T x s := by
  have e : mk2 T x s = mk1 T x s := by
    unfold mk2
    rw [sOld_f h]
    exact sNext_f h
  exact (mk_f2 (by rw [e]; exact h)).trans e
theorem mk_f0 {T : Tx} {x : St9} {s : Ps} (h : ¬ (sNew T 1 12 x s).2 = 0) : prE T (mkS T x s) = sNew T 1 12 x s := by
  have e : mk1 T x s = sNew T 1 12 x s := sMust_f h
  exact (mk_f1 (by rw [e]; exact h)).trans e
theorem mkX_c {T : Tx} {x : St9} {s : Ps} (hlt : x.1 1 < 12) : (mkX T x s).1 1 = x.1 1 + 1 ∧ ((mkX T x s).1 (29 + x.1 1) = fN x.2 (tL T (mk1 T x s).1) 0 (x.1 0) - 1 ∧ (mkX T x s).1 (41 + x.1 1) = tV T (mk3 T x s).1 ∧ (mkX T x s).1 (53 + x.1 1) = tV T (mk5 T x s).1 ∧ (mkX T x s).1 (65 + x.1 1) = (mk7 T x s).1 ∧ (mkX T x s).1 (77 + x.1 1) = (mk8 T x s).1) ∧ ∀ j, ¬ j = 1 → ¬ j = 29 + x.1 1 → ¬ j = 41 + x.1 1 → ¬ j = 53 + x.1 1 → ¬ j = 65 + x.1 1 → ¬ j = 77 + x.1 1 → (mkX T x s).1 j = x.1 j := by
  unfold mkX
  dsimp only
  refine ⟨rfl, ⟨?_, ?_, ?_, ?_, ?_⟩, fun j h1 h2 h3 h4 h5 h6 => ?_⟩
  · rw [if_neg (by omega), if_pos rfl]
  · rw [if_neg (by omega), if_neg (by omega), if_pos rfl]
  · rw [if_neg (by omega), if_neg (by omega), if_neg (by omega), if_pos rfl]
  · rw [if_neg (by omega), if_neg (by omega), if_neg (by omega), if_neg (by omega), if_pos rfl]
  · rw [if_neg (by omega), if_neg (by omega), if_neg (by omega), if_neg (by omega), if_neg (by omega), if_pos rfl]
  · rw [if_neg h1, if_neg h2, if_neg h3, if_neg h4, if_neg h5, if_neg h6]

theorem n40 {u j k : Nat} (hu : isTown u) (hj : j ≤ 18) : ¬ (u + j = 40 ∧ 6 ≤ k ∧ k ≤ 8) := by
  unfold isTown at hu
  omega
theorem nuj {u j i k k' : Nat} (h : ¬ j = i) : ¬ (u + j = u + i ∧ k = k') := fun z => h (Nat.add_left_cancel z.1)
theorem X_rd_st {T : Tx} {cnt u j k : Nat} {s : Ps} {M M' : Mem} {v : Int32} (hu : isTown u) (hj : j ≤ 18) (en : r_sI M (u + j) k v = M') (hr : X_rd T cnt s M) : X_rd T cnt s M' := by
  unfold isTown at hu
  subst en
  exact X_rd_eq (fun k => ⟨r_sI_n (by omega), rfl, rfl⟩) (fun o k h1 h2 => ⟨r_sI_n (by omega), rfl, rfl⟩) hr
theorem r_ow.st {P : Nat → Nat → Prop} {M M1 M2 : Mem} {o k : Nat} {v : Int32} (hp : P o k) (en : r_sI M1 o k v = M2) (h : r_ow P M M1) : r_ow P M M2 := en ▸ r_ow.sI hp h
theorem r_ow.fx1 {P : Nat → Nat → Prop} {M M1 M2 : Mem} (h : r_ow P M M1) (g : r_fx [(40, 6), (40, 7), (40, 8)] [] M1 M2) : r_ow P M M2 := h.tr (r_ow.fx g)
theorem ow_lm {u : Nat} {x : St9} {P : Nat → Nat → Prop} {M M' : Mem} (hu : isTown u) (h1 : ∀ j, j = 1 ∨ j = 3 ∨ j = 10 → ¬ P (u + j) 0) (h : r_ow P M M') (b : X_bd u x M) : X_lm u M' := ⟨(h (u + 1) 0 (n40 hu (by decide)) (h1 1 (by decide))).1.trans b.1.1, (h (u + 3) 0 (n40 hu (by decide)) (h1 3 (by decide))).1.trans b.1.2.1, (h (u + 10) 0 (n40 hu (by decide)) (h1 10 (by decide))).1.trans b.1.2.2⟩
/-- the cells of a making that is being told -/
def pM (u m o k : Nat) : Prop := (o = u + 3 ∧ k = 2) ∨ (o = u + 4 ∧ k = m) ∨ (u + 5 ≤ o ∧ o ≤ u + 9 ∧ k = m)

theorem tV_rg (T : Tx) (tw : Tw T) (i : Nat) (h : tK T i = 2) : tV T i < 2147483648 := by
  have := tV_b tw h
  omega
theorem sCount_ok9 {T : Tx} {lo hi : Nat} {s : Ps} (h : (sCount T lo hi s).2 = 0) : tK T s.1 = 2 ∧ (lo ≤ tV T s.1 ∧ tV T s.1 ≤ hi) ∧ s.2 = 0 := by
  have h0 := sCount_0 h
  unfold sCount at h
  split at h
  · split at h
    · exact ⟨by assumption, by assumption, h0⟩
    · unfold sFail at h
      rw [if_pos h0] at h
      exact absurd h (fun z => Nat.noConfusion z)
  · unfold sWrong at h
    rw [if_pos h0] at h
    have h2 : (if tK T s.1 = 1 then 1 else 2) = 0 := h
    split at h2 <;> omega
theorem numb_neg {T : Tx} {lo hi : Nat} {s : Ps} (hb : hi < 2147483648) : (if (sCount T lo hi s).2 = 0 then nI (tV T s.1) else -1 : Int32).toInt = -1 ↔ ¬ (sCount T lo hi s).2 = 0 := by
  by_cases h : (sCount T lo hi s).2 = 0
  · exact numb_iff _ (by have := sCount_ok9 h; omega)
  · rw [if_neg h]
    exact ⟨fun _ => h, fun _ => rfl⟩

theorem c_X9_buildMaking {Q : Rq} {M : Mem} {T : Tx} {cnt u : Nat} {s : Ps} {x : St9} (tw : Tw T) (hu : isTown u) (bd : X_bd u x M) (wf : Wf x.1) (hr : X_rd T cnt s M) (h0 : s.2 = 0) (hP : tK T s.1 = 131) (k : ∀ M', r_ow (inT u) M M' → X_lm u M' → X_rd T cnt (prE T (mkS T x s)) M' → ((prE T (mkS T x s)).2 = 0 → X_bd u (mkX T x s) M') → Q (some (.int (r_b (decide ((prE T (mkS T x s)).2 = 0))))) GX M') : Ca 3 mt_X9_buildMaking 0 0 [.ref u, .ref 40] GX M Q := by
  refine Ca_of rfl (Nat.le_of_ble_eq_true rfl) ?_
  have hP : 128 ≤ tK T s.1 := by omega
  have hT : u = 3 ∨ u = 83 ∨ u = 111 ∨ u = 139 ∨ u = 167 := hu
  have hx := wf.1
  have em : (-1 : Int32).toInt = -1 := rfl
  refine Ru_aload_n (pc := 0) dX9_buildMaking_0 rfl rfl ?_
  refine Ru_getR (pc := 1) (u + 3) dX9_buildMaking_1 fl_X9_20 (shTown_0 hu) rfl (rfX_of (o := u) (j := 3) (shTown_0 hu) rfl) ?_
  refine Ru_getI (pc := 4) dX9_buildMaking_4 fl_X9_93 (shNames_0 (isNames_t hu).2.1) rfl ?_
  refine Ru_top bd.2.1.1.2.1 ?_
  refine Ru_istore_n (pc := 7) dX9_buildMaking_7 rfl rfl (by decide) ?_
  refine Ru_aload_n (pc := 8) dX9_buildMaking_8 rfl rfl ?_
  refine Ru_aload_n (pc := 9) dX9_buildMaking_9 rfl rfl ?_
  refine Ru_aload_n (pc := 10) dX9_buildMaking_10 rfl rfl ?_
  refine Ru_getR (pc := 11) (u + 3) dX9_buildMaking_11 fl_X9_20 (shTown_0 hu) rfl (rfX_of (o := u) (j := 3) (shTown_0 hu) rfl) ?_
  refine Ru_cv2 (pc := 14) dX9_buildMaking_14 mv_X9_127 (shTown_0 hu) (by decide) (Nat.le_of_ble_eq_true rfl) (c_X9_buildName1 tw hu bd wf hr h0 (Or.inr (Or.inl ⟨rfl, rfl, rfl, rfl⟩)) hP (fun M2 ow2 (hr2 : X_rd T cnt (sNew T 1 12 x s) M2) cl2 => ?_)) 
  have st2 : ∀ o k, ¬ (o = 40 ∧ 6 ≤ k ∧ k ≤ 8) → ¬ (o = (u + 3) ∧ k = 2) → ¬ (o = (u + 3) + 1 ∧ k = x.1 1) → r_eq3 M M2 o k := fun o k h1 h2 h3 => ow2 o k h1 (fun z => z.elim h2 h3)
  have cw2 : r_ow (pM u (x.1 1)) M M2 := ow2.mn (fun o k z => by
    unfold pM
    omega)
  refine Ru_if_eqB (pc := 17) 30 dX9_buildMaking_17 (by decide) (fun h1 => ?_) (fun h1 => ?_)
  · replace h1 := of_decide_eq_false h1
    have hzf : ¬ (sNew T 1 12 x s).2 = 0 := h1
    refine Ru_iconst (pc := 30) (nI 0) dX9_buildMaking_30 rfl ?_
    refine Ru_zret (pc := 31) dX9_buildMaking_31 rfl ⟨Nat.le_refl _, Nat.le_refl _⟩ (Or.inl rfl) ?_
    have oww : r_ow (inT u) M M2 := cw2.mn (fun o k z => by
      have z2 := z
      unfold pM at z2
      unfold inT
      omega)
    have lmm : X_lm u M2 := ow_lm hu (fun j hj => by
      unfold pM
      omega) cw2 bd
    have eS : prE T (mkS T x s) = (sNew T 1 12 x s) := mk_f0 hzf
    rw [eS] at k
    exact r_qe (r_b_f (decide_eq_false hzf)) (k M2 oww lmm hr2 (fun z => absurd z hzf))
  · replace h1 := of_decide_eq_true h1
    have hz0 : (sNew T 1 12 x s).2 = 0 := h1
    have cl2 := cl2 hz0
    have hlt : x.1 1 < 12 := cl2.2.2.2
    have cn2 : M2.2.1 (u + 4) (x.1 1) = nJ (cd 27 (tL T (s.1 + 1))) := cl2.2.1
    refine Ru_aload_n (pc := 20) dX9_buildMaking_20 rfl rfl ?_
    refine Ru_sipush (pc := 21) (nI 132) dX9_buildMaking_21 rfl ?_
    refine Ru_cv1 (pc := 24) dX9_buildMaking_24 mv_X9_134 rfl (by decide) (Nat.le_of_ble_eq_true rfl) (c_X8_expect (s := (sNew T 1 12 x s)) (w := 132) tw hr2 (by assumption) (by decide) (fun M3 gx3 (hr3 : X_rd T cnt (sMust T (decide (tK T (sNew T 1 12 x s).1 = 132)) (sNew T 1 12 x s)) M3) => ?_)) 
    have st3 : ∀ o k, ¬ (o = 40 ∧ 6 ≤ k ∧ k ≤ 8) → r_eq3 M2 M3 o k := fun o k h => r_ow.fx (P := fun _ _ => False) (gx3.mono rfl) o k h (fun z => z)
    have cw3 := cw2.fx1 (gx3.mono rfl)
    refine Ru_if_neB (pc := 27) 32 dX9_buildMaking_27 (by decide) (fun h2 => ?_) (fun h2 => ?_)
    · replace h2 := of_decide_eq_true h2
      have hz1 : (mk1 T x s).2 = 0 := h2
      refine Ru_aload_n (pc := 32) dX9_buildMaking_32 rfl rfl ?_
      refine Ru_getR (pc := 33) (u + 5) dX9_buildMaking_33 fl_X9_23 (shTown_0 hu) rfl (rfX_of (o := u) (j := 5) (shTown_0 hu) rfl) ?_
      refine Ru_iload_n (pc := 36) dX9_buildMaking_36 rfl rfl ?_
      refine Ru_aload_n (pc := 37) dX9_buildMaking_37 rfl rfl ?_
      refine Ru_aload_n (pc := 38) dX9_buildMaking_38 rfl rfl ?_
      refine Ru_getR (pc := 39) (u + 1) dX9_buildMaking_39 fl_X9_14 (shTown_0 hu) rfl (rfX_of (o := u) (j := 1) (shTown_0 hu) rfl) ?_
      refine Ru_iconst (pc := 42) (nI 0) dX9_buildMaking_42 rfl ?_
      refine Ru_cv2 (pc := 43) dX9_buildMaking_43 mv_X9_137 rfl (by decide) (Nat.le_of_ble_eq_true rfl) (c_X8_named0 (s := (mk1 T x s)) (W := x.2) (b := 0) (n := x.1 0) tw hr3 (by assumption) (isNames_t hu).1 ((cw3 (u + 1) 2 (n40 hu (by decide)) (by unfold pM; omega)).1.trans bd.2.1.1.1) (by omega) (fun k hk => ⟨(cw3 (u + 2) k (n40 hu (by decide)) (by unfold pM; omega)).2.1.trans (bd.2.1.2.1 k hk).1, (bd.2.1.2.1 k hk).2⟩) (fun M4 gx4 (hr4 : X_rd T cnt (sNext (sOld T x.2 0 (x.1 0) (mk1 T x s))) M4) => ?_)) 
      have st4 : ∀ o k, ¬ (o = 40 ∧ 6 ≤ k ∧ k ≤ 8) → r_eq3 M3 M4 o k := fun o k h => r_ow.fx (P := fun _ _ => False) (gx4.mono rfl) o k h (fun z => z)
      have cw4 := cw3.fx1 (gx4.mono rfl)
      refine Ru_iast (pc := 46) rfl dX9_buildMaking_46 (shTown_5 hu) (by omega) ?_
      generalize en5 : r_sI M4 (u + 5) (x.1 1) (if (sNext (sOld T x.2 0 (x.1 0) (mk1 T x s))).2 = 0 then nI (fN x.2 (tL T (mk1 T x s).1) 0 (x.1 0) - 1) else -1) = M5
      have st5 : ∀ o k, ¬ (o = (u + 5) ∧ k = (x.1 1)) → r_eq3 M4 M5 o k := fun o k h => by
        rw [← en5]
        exact ⟨r_sI_n h, rfl, rfl⟩
      have vl5 : M5.1 (u + 5) (x.1 1) = (if (sNext (sOld T x.2 0 (x.1 0) (mk1 T x s))).2 = 0 then nI (fN x.2 (tL T (mk1 T x s).1) 0 (x.1 0) - 1) else -1) := by
        rw [← en5]
        exact r_sI_s
      have hr5 : X_rd T cnt (mk2 T x s) M5 := X_rd_st hu (by decide) en5 hr4
      have cw5 := cw4.st (by unfold pM; omega) en5
      refine Ru_aload_n (pc := 47) dX9_buildMaking_47 rfl rfl ?_
      refine Ru_getR (pc := 48) (u + 5) dX9_buildMaking_48 fl_X9_23 (shTown_0 hu) rfl (rfX_of (o := u) (j := 5) (shTown_0 hu) rfl) ?_
      refine Ru_iload_n (pc := 51) dX9_buildMaking_51 rfl rfl ?_
      refine Ru_iald (pc := 52) dX9_buildMaking_52 (shTown_5 hu) (by omega) ?_
      refine Ru_top vl5 ?_
      refine Ru_iconst (pc := 53) (-1) dX9_buildMaking_53 rfl ?_
      refine Ru_icmp_eqT (pc := 54) 67 dX9_buildMaking_54 (by decide) (fun h3 => ?_) (fun h3 => ?_)
      · have hzf : ¬ (mk2 T x s).2 = 0 := (numb_iff _ (show fN x.2 (tL T (mk1 T x s).1) 0 (x.1 0) - 1 < 2147483648 by have := fN_le x.2 (tL T (mk1 T x s).1) 0 (x.1 0); omega)).mp h3
        refine Ru_iconst (pc := 67) (nI 0) dX9_buildMaking_67 rfl ?_
        refine Ru_zret (pc := 68) dX9_buildMaking_68 rfl ⟨Nat.le_refl _, Nat.le_refl _⟩ (Or.inl rfl) ?_
        have oww : r_ow (inT u) M M5 := cw5.mn (fun o k z => by
          have z2 := z
          unfold pM at z2
          unfold inT
          omega)
        have lmm : X_lm u M5 := ow_lm hu (fun j hj => by
          unfold pM
          omega) cw5 bd
        have eS : prE T (mkS T x s) = (mk2 T x s) := mk_f2 hzf
        rw [eS] at k
        exact r_qe (r_b_f (decide_eq_false hzf)) (k M5 oww lmm hr5 (fun z => absurd z hzf))
      · have hz2 : (mk2 T x s).2 = 0 := Classical.byContradiction (fun z => h3 ((numb_iff _ (show fN x.2 (tL T (mk1 T x s).1) 0 (x.1 0) - 1 < 2147483648 by have := fN_le x.2 (tL T (mk1 T x s).1) 0 (x.1 0); omega)).mpr z))
        refine Ru_aload_n (pc := 57) dX9_buildMaking_57 rfl rfl ?_
        refine Ru_sipush (pc := 58) (nI 133) dX9_buildMaking_58 rfl ?_
        refine Ru_cv1 (pc := 61) dX9_buildMaking_61 mv_X9_134 rfl (by decide) (Nat.le_of_ble_eq_true rfl) (c_X8_expect (s := (mk2 T x s)) (w := 133) tw hr5 (by assumption) (by decide) (fun M6 gx6 (hr6 : X_rd T cnt (sMust T (decide (tK T (mk2 T x s).1 = 133)) (mk2 T x s)) M6) => ?_)) 
        have st6 : ∀ o k, ¬ (o = 40 ∧ 6 ≤ k ∧ k ≤ 8) → r_eq3 M5 M6 o k := fun o k h => r_ow.fx (P := fun _ _ => False) (gx6.mono rfl) o k h (fun z => z)
        have cw6 := cw5.fx1 (gx6.mono rfl)
        refine Ru_if_neB (pc := 64) 69 dX9_buildMaking_64 (by decide) (fun h4 => ?_) (fun h4 => ?_)
        · replace h4 := of_decide_eq_true h4
          have hz3 : (mk3 T x s).2 = 0 := h4
          refine Ru_aload_n (pc := 69) dX9_buildMaking_69 rfl rfl ?_
          refine Ru_getR (pc := 70) (u + 6) dX9_buildMaking_70 fl_X9_27 (shTown_0 hu) rfl (rfX_of (o := u) (j := 6) (shTown_0 hu) rfl) ?_
          refine Ru_iload_n (pc := 73) dX9_buildMaking_73 rfl rfl ?_
          refine Ru_aload_n (pc := 74) dX9_buildMaking_74 rfl rfl ?_
          refine Ru_iconst (pc := 75) (nI 1) dX9_buildMaking_75 rfl ?_
          refine Ru_bipush (pc := 76) (nI 24) dX9_buildMaking_76 rfl ?_
          refine Ru_cv2 (pc := 78) dX9_buildMaking_78 mv_X9_141 rfl (by decide) (Nat.le_of_ble_eq_true rfl) (c_X8_number (s := (mk3 T x s)) (lo := 1) (hi := 24) tw hr6 (by assumption) (by decide) (fun M7 gx7 (hr7 : X_rd T cnt (sCount T 1 24 (mk3 T x s)) M7) => ?_)) 
          have st7 : ∀ o k, ¬ (o = 40 ∧ 6 ≤ k ∧ k ≤ 8) → r_eq3 M6 M7 o k := fun o k h => r_ow.fx (P := fun _ _ => False) (gx7.mono rfl) o k h (fun z => z)
          have cw7 := cw6.fx1 (gx7.mono rfl)
          refine Ru_iast (pc := 81) rfl dX9_buildMaking_81 (shTown_6 hu) (by omega) ?_
          generalize en8 : r_sI M7 (u + 6) (x.1 1) (if (sCount T 1 24 (mk3 T x s)).2 = 0 then nI (tV T (mk3 T x s).1) else -1) = M8
          have st8 : ∀ o k, ¬ (o = (u + 6) ∧ k = (x.1 1)) → r_eq3 M7 M8 o k := fun o k h => by
            rw [← en8]
            exact ⟨r_sI_n h, rfl, rfl⟩
          have vl8 : M8.1 (u + 6) (x.1 1) = (if (sCount T 1 24 (mk3 T x s)).2 = 0 then nI (tV T (mk3 T x s).1) else -1) := by
            rw [← en8]
            exact r_sI_s
          have hr8 : X_rd T cnt (mk4 T x s) M8 := X_rd_st hu (by decide) en8 hr7
          have cw8 := cw7.st (by unfold pM; omega) en8
          refine Ru_aload_n (pc := 82) dX9_buildMaking_82 rfl rfl ?_
          refine Ru_getR (pc := 83) (u + 6) dX9_buildMaking_83 fl_X9_27 (shTown_0 hu) rfl (rfX_of (o := u) (j := 6) (shTown_0 hu) rfl) ?_
          refine Ru_iload_n (pc := 86) dX9_buildMaking_86 rfl rfl ?_
          refine Ru_iald (pc := 87) dX9_buildMaking_87 (shTown_6 hu) (by omega) ?_
          refine Ru_top vl8 ?_
          refine Ru_iconst (pc := 88) (-1) dX9_buildMaking_88 rfl ?_
          refine Ru_icmp_eqT (pc := 89) 102 dX9_buildMaking_89 (by decide) (fun h5 => ?_) (fun h5 => ?_)
          · have hzf : ¬ (mk4 T x s).2 = 0 := (numb_neg (by decide)).mp h5
            refine Ru_iconst (pc := 102) (nI 0) dX9_buildMaking_102 rfl ?_
            refine Ru_zret (pc := 103) dX9_buildMaking_103 rfl ⟨Nat.le_refl _, Nat.le_refl _⟩ (Or.inl rfl) ?_
            have oww : r_ow (inT u) M M8 := cw8.mn (fun o k z => by
              have z2 := z
              unfold pM at z2
              unfold inT
              omega)
            have lmm : X_lm u M8 := ow_lm hu (fun j hj => by
              unfold pM
              omega) cw8 bd
            have eS : prE T (mkS T x s) = (mk4 T x s) := mk_f4 hzf
            rw [eS] at k
            exact r_qe (r_b_f (decide_eq_false hzf)) (k M8 oww lmm hr8 (fun z => absurd z hzf))
          · have hz4 : (mk4 T x s).2 = 0 := Classical.byContradiction (fun z => h5 ((numb_neg (by decide)).mpr z))
            refine Ru_aload_n (pc := 92) dX9_buildMaking_92 rfl rfl ?_
            refine Ru_sipush (pc := 93) (nI 134) dX9_buildMaking_93 rfl ?_
            refine Ru_cv1 (pc := 96) dX9_buildMaking_96 mv_X9_134 rfl (by decide) (Nat.le_of_ble_eq_true rfl) (c_X8_expect (s := (mk4 T x s)) (w := 134) tw hr8 (by assumption) (by decide) (fun M9 gx9 (hr9 : X_rd T cnt (sMust T (decide (tK T (mk4 T x s).1 = 134)) (mk4 T x s)) M9) => ?_)) 
            have st9 : ∀ o k, ¬ (o = 40 ∧ 6 ≤ k ∧ k ≤ 8) → r_eq3 M8 M9 o k := fun o k h => r_ow.fx (P := fun _ _ => False) (gx9.mono rfl) o k h (fun z => z)
            have cw9 := cw8.fx1 (gx9.mono rfl)
            refine Ru_if_neB (pc := 99) 104 dX9_buildMaking_99 (by decide) (fun h6 => ?_) (fun h6 => ?_)
            · replace h6 := of_decide_eq_true h6
              have hz5 : (mk5 T x s).2 = 0 := h6
              refine Ru_aload_n (pc := 104) dX9_buildMaking_104 rfl rfl ?_
              refine Ru_getR (pc := 105) (u + 7) dX9_buildMaking_105 fl_X9_30 (shTown_0 hu) rfl (rfX_of (o := u) (j := 7) (shTown_0 hu) rfl) ?_
              refine Ru_iload_n (pc := 108) dX9_buildMaking_108 rfl rfl ?_
              refine Ru_aload_n (pc := 109) dX9_buildMaking_109 rfl rfl ?_
              refine Ru_iconst (pc := 110) (nI 1) dX9_buildMaking_110 rfl ?_
              refine Ru_iconst (pc := 111) (nI 3) dX9_buildMaking_111 rfl ?_
              refine Ru_cv2 (pc := 112) dX9_buildMaking_112 mv_X9_141 rfl (by decide) (Nat.le_of_ble_eq_true rfl) (c_X8_number (s := (mk5 T x s)) (lo := 1) (hi := 3) tw hr9 (by assumption) (by decide) (fun M10 gx10 (hr10 : X_rd T cnt (sCount T 1 3 (mk5 T x s)) M10) => ?_)) 
              have st10 : ∀ o k, ¬ (o = 40 ∧ 6 ≤ k ∧ k ≤ 8) → r_eq3 M9 M10 o k := fun o k h => r_ow.fx (P := fun _ _ => False) (gx10.mono rfl) o k h (fun z => z)
              have cw10 := cw9.fx1 (gx10.mono rfl)
              refine Ru_iast (pc := 115) rfl dX9_buildMaking_115 (shTown_7 hu) (by omega) ?_
              generalize en11 : r_sI M10 (u + 7) (x.1 1) (if (sCount T 1 3 (mk5 T x s)).2 = 0 then nI (tV T (mk5 T x s).1) else -1) = M11
              have st11 : ∀ o k, ¬ (o = (u + 7) ∧ k = (x.1 1)) → r_eq3 M10 M11 o k := fun o k h => by
                rw [← en11]
                exact ⟨r_sI_n h, rfl, rfl⟩
              have vl11 : M11.1 (u + 7) (x.1 1) = (if (sCount T 1 3 (mk5 T x s)).2 = 0 then nI (tV T (mk5 T x s).1) else -1) := by
                rw [← en11]
                exact r_sI_s
              have hr11 : X_rd T cnt (mk6 T x s) M11 := X_rd_st hu (by decide) en11 hr10
              have cw11 := cw10.st (by unfold pM; omega) en11
              refine Ru_aload_n (pc := 116) dX9_buildMaking_116 rfl rfl ?_
              refine Ru_getR (pc := 117) (u + 7) dX9_buildMaking_117 fl_X9_30 (shTown_0 hu) rfl (rfX_of (o := u) (j := 7) (shTown_0 hu) rfl) ?_
              refine Ru_iload_n (pc := 120) dX9_buildMaking_120 rfl rfl ?_
              refine Ru_iald (pc := 121) dX9_buildMaking_121 (shTown_7 hu) (by omega) ?_
              refine Ru_top vl11 ?_
              refine Ru_iconst (pc := 122) (-1) dX9_buildMaking_122 rfl ?_
              refine Ru_icmp_neT (pc := 123) 128 dX9_buildMaking_123 (by decide) (fun h7 => ?_) (fun h7 => ?_)
              · have hz6 : (mk6 T x s).2 = 0 := Classical.byContradiction (fun z => h7 ((numb_neg (by decide)).mpr z))
                refine Ru_aload_n (pc := 128) dX9_buildMaking_128 rfl rfl ?_
                refine Ru_getR (pc := 129) (u + 8) dX9_buildMaking_129 fl_X9_33 (shTown_0 hu) rfl (rfX_of (o := u) (j := 8) (shTown_0 hu) rfl) ?_
                refine Ru_iload_n (pc := 132) dX9_buildMaking_132 rfl rfl ?_
                refine Ru_iconst (pc := 133) (nI 0) dX9_buildMaking_133 rfl ?_
                refine Ru_iast (pc := 134) rfl dX9_buildMaking_134 (shTown_8 hu) (by omega) ?_
                generalize en12 : r_sI M11 (u + 8) (x.1 1) (nI 0) = M12
                have st12 : ∀ o k, ¬ (o = (u + 8) ∧ k = (x.1 1)) → r_eq3 M11 M12 o k := fun o k h => by
                  rw [← en12]
                  exact ⟨r_sI_n h, rfl, rfl⟩
                have vl12 : M12.1 (u + 8) (x.1 1) = (nI 0) := by
                  rw [← en12]
                  exact r_sI_s
                have hr12 : X_rd T cnt (mk6 T x s) M12 := X_rd_st hu (by decide) en12 hr11
                have cw12 := cw11.st (by unfold pM; omega) en12
                refine Ru_aload_n (pc := 135) dX9_buildMaking_135 rfl rfl ?_
                refine Ru_getR (pc := 136) (u + 9) dX9_buildMaking_136 fl_X9_36 (shTown_0 hu) rfl (rfX_of (o := u) (j := 9) (shTown_0 hu) rfl) ?_
                refine Ru_iload_n (pc := 139) dX9_buildMaking_139 rfl rfl ?_
                refine Ru_iconst (pc := 140) (nI 0) dX9_buildMaking_140 rfl ?_
                refine Ru_iast (pc := 141) rfl dX9_buildMaking_141 (shTown_9 hu) (by omega) ?_
                generalize en13 : r_sI M12 (u + 9) (x.1 1) (nI 0) = M13
                have st13 : ∀ o k, ¬ (o = (u + 9) ∧ k = (x.1 1)) → r_eq3 M12 M13 o k := fun o k h => by
                  rw [← en13]
                  exact ⟨r_sI_n h, rfl, rfl⟩
                have vl13 : M13.1 (u + 9) (x.1 1) = (nI 0) := by
                  rw [← en13]
                  exact r_sI_s
                have hr13 : X_rd T cnt (mk6 T x s) M13 := X_rd_st hu (by decide) en13 hr12
                have cw13 := cw12.st (by unfold pM; omega) en13
                refine Ru_aload_n (pc := 142) dX9_buildMaking_142 rfl rfl ?_
                refine Ru_cv0 (pc := 143) dX9_buildMaking_143 mv_X9_80 rfl (by decide) (Nat.le_of_ble_eq_true rfl) (c_X8_kind (s := (mk6 T x s)) tw hr13 (by assumption) ?_) 
                refine Ru_sipush (pc := 146) (nI 135) dX9_buildMaking_146 rfl ?_
                refine Ru_icmp_neN (pc := 149) 182 dX9_buildMaking_149 (by decide) ⟨tK_rg _ _, by decide⟩ (fun h8 => ?_) (fun h8 => ?_)
                · refine Ru_aload_n (pc := 182) dX9_buildMaking_182 rfl rfl ?_
                  refine Ru_cv0 (pc := 183) dX9_buildMaking_183 mv_X9_80 rfl (by decide) (Nat.le_of_ble_eq_true rfl) (c_X8_kind (s := (mk6 T x s)) tw hr13 (by assumption) ?_) 
                  refine Ru_sipush (pc := 186) (nI 136) dX9_buildMaking_186 rfl ?_
                  refine Ru_icmp_neN (pc := 189) 227 dX9_buildMaking_189 (by decide) ⟨tK_rg _ _, by decide⟩ (fun h9 => ?_) (fun h9 => ?_)
                  · refine Ru_aload_n (pc := 227) dX9_buildMaking_227 rfl rfl ?_
                    refine Ru_bipush (pc := 228) (nI 59) dX9_buildMaking_228 rfl ?_
                    refine Ru_cv1 (pc := 230) dX9_buildMaking_230 mv_X9_134 rfl (by decide) (Nat.le_of_ble_eq_true rfl) (c_X8_expect (s := (mk6 T x s)) (w := 59) tw hr13 (by assumption) (by decide) (fun M14 gx14 (hr14 : X_rd T cnt (sMust T (decide (tK T (mk6 T x s).1 = 59)) (mk6 T x s)) M14) => ?_)) 
                    have st14 : ∀ o k, ¬ (o = 40 ∧ 6 ≤ k ∧ k ≤ 8) → r_eq3 M13 M14 o k := fun o k h => r_ow.fx (P := fun _ _ => False) (gx14.mono rfl) o k h (fun z => z)
                    have cw14 := cw13.fx1 (gx14.mono rfl)
                    refine Ru_zret (pc := 233) dX9_buildMaking_233 rfl ⟨Nat.le_refl _, Nat.le_refl _⟩ (r_b_01 _) ?_
                    have oww : r_ow (inT u) M M14 := cw14.mn (fun o k z => by
                      have z2 := z
                      unfold pM at z2
                      unfold inT
                      omega)
                    have lmm : X_lm u M14 := ow_lm hu (fun j hj => by
                      unfold pM
                      omega) cw14 bd
                    have e7 : mk7 T x s = (0, mk6 T x s) := sOpt_m (by assumption)
                    have e8 : mk8 T x s = (0, mk6 T x s) := by
                      unfold mk8
                      rw [e7]
                      exact sOpt_m (by assumption)
                    have eS : prE T (mkS T x s) = (sMust T (decide (tK T (mk6 T x s).1 = 59)) (mk6 T x s)) := by
                      unfold mkS
                      rw [e8]
                      rfl
                    have er : (prE T (mkS T x s)).2 = 0 → (mk7 T x s).1 = 0 ∧ (mk8 T x s).1 = 0 := fun _ => by
                      rw [e7, e8]
                      exact ⟨rfl, rfl⟩
                    have bdn : (prE T (mkS T x s)).2 = 0 → X_bd u (mkX T x s) M14 := fun zz => by
                      have er := er zz
                      have tc := mkX_c (T := T) (s := s) cl2.2.2.2
                      rw [er.1, er.2] at tc
                      have tv := tL_v tw (i := s.1 + 1) (Or.inl cl2.2.2.1)
                      refine X_bd_mk (M := M) (l := tL T (s.1 + 1)) bd wf cl2.2.2.2 ⟨tv.1, tv.2.1⟩ tc.1 tc.2.1 tc.2.2 (fun o k h1 h2 h3 h4 h5 => ?_) ?_ ?_ ⟨?_, ?_, ?_, ?_, ?_⟩
                      · exact cw14 o k (fun z => by rcases hT with h | h | h | h | h <;> omega) (by unfold pM; omega)
                      · exact (e3t (e3t (e3t (e3t (e3t (e3t (e3t (e3t (e3t (e3t (e3t (st3 (u + 3) 2 (n40 hu (by decide))) (st4 (u + 3) 2 (n40 hu (by decide)))) (st5 (u + 3) 2 (nuj (by decide)))) (st6 (u + 3) 2 (n40 hu (by decide)))) (st7 (u + 3) 2 (n40 hu (by decide)))) (st8 (u + 3) 2 (nuj (by decide)))) (st9 (u + 3) 2 (n40 hu (by decide)))) (st10 (u + 3) 2 (n40 hu (by decide)))) (st11 (u + 3) 2 (nuj (by decide)))) (st12 (u + 3) 2 (nuj (by decide)))) (st13 (u + 3) 2 (nuj (by decide)))) (st14 (u + 3) 2 (n40 hu (by decide)))).1.trans cl2.1
                      · exact (e3t (e3t (e3t (e3t (e3t (e3t (e3t (e3t (e3t (e3t (e3t (st3 (u + 4) (x.1 1) (n40 hu (by decide))) (st4 (u + 4) (x.1 1) (n40 hu (by decide)))) (st5 (u + 4) (x.1 1) (nuj (by decide)))) (st6 (u + 4) (x.1 1) (n40 hu (by decide)))) (st7 (u + 4) (x.1 1) (n40 hu (by decide)))) (st8 (u + 4) (x.1 1) (nuj (by decide)))) (st9 (u + 4) (x.1 1) (n40 hu (by decide)))) (st10 (u + 4) (x.1 1) (n40 hu (by decide)))) (st11 (u + 4) (x.1 1) (nuj (by decide)))) (st12 (u + 4) (x.1 1) (nuj (by decide)))) (st13 (u + 4) (x.1 1) (nuj (by decide)))) (st14 (u + 4) (x.1 1) (n40 hu (by decide)))).2.1.trans cn2
                      · exact ((e3t (e3t (e3t (e3t (e3t (e3t (e3t (e3t (st6 (u + 5) (x.1 1) (n40 hu (by decide))) (st7 (u + 5) (x.1 1) (n40 hu (by decide)))) (st8 (u + 5) (x.1 1) (nuj (by decide)))) (st9 (u + 5) (x.1 1) (n40 hu (by decide)))) (st10 (u + 5) (x.1 1) (n40 hu (by decide)))) (st11 (u + 5) (x.1 1) (nuj (by decide)))) (st12 (u + 5) (x.1 1) (nuj (by decide)))) (st13 (u + 5) (x.1 1) (nuj (by decide)))) (st14 (u + 5) (x.1 1) (n40 hu (by decide)))).1.trans vl5).trans (if_pos hz2)
                      · exact ((e3t (e3t (e3t (e3t (e3t (st9 (u + 6) (x.1 1) (n40 hu (by decide))) (st10 (u + 6) (x.1 1) (n40 hu (by decide)))) (st11 (u + 6) (x.1 1) (nuj (by decide)))) (st12 (u + 6) (x.1 1) (nuj (by decide)))) (st13 (u + 6) (x.1 1) (nuj (by decide)))) (st14 (u + 6) (x.1 1) (n40 hu (by decide)))).1.trans vl8).trans (if_pos hz4)
                      · exact ((e3t (e3t (st12 (u + 7) (x.1 1) (nuj (by decide))) (st13 (u + 7) (x.1 1) (nuj (by decide)))) (st14 (u + 7) (x.1 1) (n40 hu (by decide)))).1.trans vl11).trans (if_pos hz6)
                      · exact ((e3t (st13 (u + 8) (x.1 1) (nuj (by decide))) (st14 (u + 8) (x.1 1) (n40 hu (by decide)))).1.trans vl12)
                      · exact ((st14 (u + 9) (x.1 1) (n40 hu (by decide))).1.trans vl13)
                    rw [eS] at k bdn
                    exact k M14 oww lmm hr14 bdn
                  · have hs8_212 : (mk6 T x s).1 + 1 ≤ 800 := (tK_i tw (i := (mk6 T x s).1) (by omega)).1
                    refine Ru_aload_n (pc := 192) dX9_buildMaking_192 rfl rfl ?_
                    refine Ru_cv0 (pc := 193) dX9_buildMaking_193 mv_X9_131 rfl (by decide) (Nat.le_of_ble_eq_true rfl) (c_X8_next (s := (mk6 T x s)) tw hr13 (by assumption) (by show ¬ tK T ((mk6 T x s).1) = 0; omega) (fun M14 gx14 (hr14 : X_rd T cnt ((mk6 T x s).1 + 1, 0) M14) => ?_)) 
                    have st14 : ∀ o k, ¬ (o = 40 ∧ 6 ≤ k ∧ k ≤ 8) → r_eq3 M13 M14 o k := fun o k h => r_ow.fx (P := fun _ _ => False) (gx14.mono rfl) o k h (fun z => z)
                    have cw14 := cw13.fx1 (gx14.mono rfl)
                    refine Ru_aload_n (pc := 196) dX9_buildMaking_196 rfl rfl ?_
                    refine Ru_getR (pc := 197) (u + 9) dX9_buildMaking_197 fl_X9_36 (shTown_0 hu) rfl (rfX_of (o := u) (j := 9) (shTown_0 hu) rfl) ?_
                    refine Ru_iload_n (pc := 200) dX9_buildMaking_200 rfl rfl ?_
                    refine Ru_aload_n (pc := 201) dX9_buildMaking_201 rfl rfl ?_
                    refine Ru_aload_n (pc := 202) dX9_buildMaking_202 rfl rfl ?_
                    refine Ru_getR (pc := 203) (u + 1) dX9_buildMaking_203 fl_X9_14 (shTown_0 hu) rfl (rfX_of (o := u) (j := 1) (shTown_0 hu) rfl) ?_
                    refine Ru_aload_n (pc := 206) dX9_buildMaking_206 rfl rfl ?_
                    refine Ru_getR (pc := 207) (u + 8) dX9_buildMaking_207 fl_X9_33 (shTown_0 hu) rfl (rfX_of (o := u) (j := 8) (shTown_0 hu) rfl) ?_
                    refine Ru_iload_n (pc := 210) dX9_buildMaking_210 rfl rfl ?_
                    refine Ru_iald (pc := 211) dX9_buildMaking_211 (shTown_8 hu) (by omega) ?_
                    refine Ru_top ((e3t (st13 (u + 8) (x.1 1) (nuj (by decide))) (st14 (u + 8) (x.1 1) (n40 hu (by decide)))).1.trans vl12) ?_
                    refine Ru_cv2 (pc := 212) dX9_buildMaking_212 mv_X9_145 rfl (by decide) (Nat.le_of_ble_eq_true rfl) (c_X8_namedRow (s := ((mk6 T x s).1 + 1, 0)) (W := x.2) (b := 0) (n := x.1 0) (had := 0) tw hr14 rfl (isNames_t hu).1 (by omega) ((cw14 (u + 1) 2 (n40 hu (by decide)) (by unfold pM; omega)).1.trans bd.2.1.1.1) (fun k hk => ⟨(cw14 (u + 2) k (n40 hu (by decide)) (by unfold pM; omega)).2.1.trans (bd.2.1.2.1 k hk).1, (bd.2.1.2.1 k hk).2⟩) (by decide) (hs8_212) (fun M15 gx15 (hr15 : X_rd T cnt (sRx T x.2 0 (x.1 0) 0 (801 - ((mk6 T x s).1 + 1)) 0 ((mk6 T x s).1 + 1, 0)).2 M15) => ?_)) 
                    have st15 : ∀ o k, ¬ (o = 40 ∧ 6 ≤ k ∧ k ≤ 8) → r_eq3 M14 M15 o k := fun o k h => r_ow.fx (P := fun _ _ => False) (gx15.mono rfl) o k h (fun z => z)
                    have cw15 := cw14.fx1 (gx15.mono rfl)
                    have rz := sRx_nz (T := T) (W := x.2) (b := 0) (n := x.1 0) (had := 0) (801 - ((mk6 T x s).1 + 1)) 0 ((mk6 T x s).1 + 1, 0) rfl (fun z => by omega)
                    have rl : (sRx T x.2 0 (x.1 0) 0 (801 - ((mk6 T x s).1 + 1)) 0 ((mk6 T x s).1 + 1, 0)).1 < 256 := Nat.lt_of_lt_of_le (sRx_lt _ _ _ (Nat.two_pow_pos _)) (pw_le (by omega)).2
                    refine Ru_iast (pc := 215) rfl dX9_buildMaking_215 (shTown_9 hu) (by omega) ?_
                    generalize en16 : r_sI M15 (u + 9) (x.1 1) (nI (sRx T x.2 0 (x.1 0) 0 (801 - ((mk6 T x s).1 + 1)) 0 ((mk6 T x s).1 + 1, 0)).1) = M16
                    have st16 : ∀ o k, ¬ (o = (u + 9) ∧ k = (x.1 1)) → r_eq3 M15 M16 o k := fun o k h => by
                      rw [← en16]
                      exact ⟨r_sI_n h, rfl, rfl⟩
                    have vl16 : M16.1 (u + 9) (x.1 1) = (nI (sRx T x.2 0 (x.1 0) 0 (801 - ((mk6 T x s).1 + 1)) 0 ((mk6 T x s).1 + 1, 0)).1) := by
                      rw [← en16]
                      exact r_sI_s
                    have hr16 : X_rd T cnt (sRx T x.2 0 (x.1 0) 0 (801 - ((mk6 T x s).1 + 1)) 0 ((mk6 T x s).1 + 1, 0)).2 M16 := X_rd_st hu (by decide) en16 hr15
                    have cw16 := cw15.st (by unfold pM; omega) en16
                    refine Ru_aload_n (pc := 216) dX9_buildMaking_216 rfl rfl ?_
                    refine Ru_getR (pc := 217) (u + 9) dX9_buildMaking_217 fl_X9_36 (shTown_0 hu) rfl (rfX_of (o := u) (j := 9) (shTown_0 hu) rfl) ?_
                    refine Ru_iload_n (pc := 220) dX9_buildMaking_220 rfl rfl ?_
                    refine Ru_iald (pc := 221) dX9_buildMaking_221 (shTown_9 hu) (by omega) ?_
                    refine Ru_top vl16 ?_
                    refine Ru_if_neN (pc := 222) 227 dX9_buildMaking_222 (by decide) (by omega) (fun h10 => ?_) (fun h10 => ?_)
                    · have hz8 : (sRx T x.2 0 (x.1 0) 0 (801 - ((mk6 T x s).1 + 1)) 0 ((mk6 T x s).1 + 1, 0)).2.2 = 0 := by
                        rcases rz with z | z
                        · exact z.1
                        · exact absurd z.2 (by first | omega | assumption)
                      refine Ru_aload_n (pc := 227) dX9_buildMaking_227 rfl rfl ?_
                      refine Ru_bipush (pc := 228) (nI 59) dX9_buildMaking_228 rfl ?_
                      refine Ru_cv1 (pc := 230) dX9_buildMaking_230 mv_X9_134 rfl (by decide) (Nat.le_of_ble_eq_true rfl) (c_X8_expect (s := (sRx T x.2 0 (x.1 0) 0 (801 - ((mk6 T x s).1 + 1)) 0 ((mk6 T x s).1 + 1, 0)).2) (w := 59) tw hr16 (by assumption) (by decide) (fun M17 gx17 (hr17 : X_rd T cnt (sMust T (decide (tK T (sRx T x.2 0 (x.1 0) 0 (801 - ((mk6 T x s).1 + 1)) 0 ((mk6 T x s).1 + 1, 0)).2.1 = 59)) (sRx T x.2 0 (x.1 0) 0 (801 - ((mk6 T x s).1 + 1)) 0 ((mk6 T x s).1 + 1, 0)).2) M17) => ?_)) 
                      have st17 : ∀ o k, ¬ (o = 40 ∧ 6 ≤ k ∧ k ≤ 8) → r_eq3 M16 M17 o k := fun o k h => r_ow.fx (P := fun _ _ => False) (gx17.mono rfl) o k h (fun z => z)
                      have cw17 := cw16.fx1 (gx17.mono rfl)
                      refine Ru_zret (pc := 233) dX9_buildMaking_233 rfl ⟨Nat.le_refl _, Nat.le_refl _⟩ (r_b_01 _) ?_
                      have oww : r_ow (inT u) M M17 := cw17.mn (fun o k z => by
                        have z2 := z
                        unfold pM at z2
                        unfold inT
                        omega)
                      have lmm : X_lm u M17 := ow_lm hu (fun j hj => by
                        unfold pM
                        omega) cw17 bd
                      have e7 : mk7 T x s = (0, mk6 T x s) := sOpt_m (by assumption)
                      have e8 : mk8 T x s = rwE T 136 (sRx T x.2 0 (x.1 0) 0 (801 - ((mk6 T x s).1 + 1)) 0 ((mk6 T x s).1 + 1, 0)) := by
                        unfold mk8
                        rw [e7]
                        exact sOpt_y tw hz6 (by assumption) (by decide)
                      have re := rwE_end (T := T) (e := 136) hz8
                      have eS : prE T (mkS T x s) = (sMust T (decide (tK T (sRx T x.2 0 (x.1 0) 0 (801 - ((mk6 T x s).1 + 1)) 0 ((mk6 T x s).1 + 1, 0)).2.1 = 59)) (sRx T x.2 0 (x.1 0) 0 (801 - ((mk6 T x s).1 + 1)) 0 ((mk6 T x s).1 + 1, 0)).2) := by
                        unfold mkS
                        rw [e8]
                        exact re.1
                      have er : (prE T (mkS T x s)).2 = 0 → (mk7 T x s).1 = 0 ∧ (mk8 T x s).1 = (sRx T x.2 0 (x.1 0) 0 (801 - ((mk6 T x s).1 + 1)) 0 ((mk6 T x s).1 + 1, 0)).1 := fun z => by
                        rw [eS] at z
                        rw [e8, e7, re.2 z]
                        exact ⟨rfl, rfl⟩
                      have bdn : (prE T (mkS T x s)).2 = 0 → X_bd u (mkX T x s) M17 := fun zz => by
                        have er := er zz
                        have tc := mkX_c (T := T) (s := s) cl2.2.2.2
                        rw [er.1, er.2] at tc
                        have tv := tL_v tw (i := s.1 + 1) (Or.inl cl2.2.2.1)
                        refine X_bd_mk (M := M) (l := tL T (s.1 + 1)) bd wf cl2.2.2.2 ⟨tv.1, tv.2.1⟩ tc.1 tc.2.1 tc.2.2 (fun o k h1 h2 h3 h4 h5 => ?_) ?_ ?_ ⟨?_, ?_, ?_, ?_, ?_⟩
                        · exact cw17 o k (fun z => by rcases hT with h | h | h | h | h <;> omega) (by unfold pM; omega)
                        · exact (e3t (e3t (e3t (e3t (e3t (e3t (e3t (e3t (e3t (e3t (e3t (e3t (e3t (e3t (st3 (u + 3) 2 (n40 hu (by decide))) (st4 (u + 3) 2 (n40 hu (by decide)))) (st5 (u + 3) 2 (nuj (by decide)))) (st6 (u + 3) 2 (n40 hu (by decide)))) (st7 (u + 3) 2 (n40 hu (by decide)))) (st8 (u + 3) 2 (nuj (by decide)))) (st9 (u + 3) 2 (n40 hu (by decide)))) (st10 (u + 3) 2 (n40 hu (by decide)))) (st11 (u + 3) 2 (nuj (by decide)))) (st12 (u + 3) 2 (nuj (by decide)))) (st13 (u + 3) 2 (nuj (by decide)))) (st14 (u + 3) 2 (n40 hu (by decide)))) (st15 (u + 3) 2 (n40 hu (by decide)))) (st16 (u + 3) 2 (nuj (by decide)))) (st17 (u + 3) 2 (n40 hu (by decide)))).1.trans cl2.1
                        · exact (e3t (e3t (e3t (e3t (e3t (e3t (e3t (e3t (e3t (e3t (e3t (e3t (e3t (e3t (st3 (u + 4) (x.1 1) (n40 hu (by decide))) (st4 (u + 4) (x.1 1) (n40 hu (by decide)))) (st5 (u + 4) (x.1 1) (nuj (by decide)))) (st6 (u + 4) (x.1 1) (n40 hu (by decide)))) (st7 (u + 4) (x.1 1) (n40 hu (by decide)))) (st8 (u + 4) (x.1 1) (nuj (by decide)))) (st9 (u + 4) (x.1 1) (n40 hu (by decide)))) (st10 (u + 4) (x.1 1) (n40 hu (by decide)))) (st11 (u + 4) (x.1 1) (nuj (by decide)))) (st12 (u + 4) (x.1 1) (nuj (by decide)))) (st13 (u + 4) (x.1 1) (nuj (by decide)))) (st14 (u + 4) (x.1 1) (n40 hu (by decide)))) (st15 (u + 4) (x.1 1) (n40 hu (by decide)))) (st16 (u + 4) (x.1 1) (nuj (by decide)))) (st17 (u + 4) (x.1 1) (n40 hu (by decide)))).2.1.trans cn2
                        · exact ((e3t (e3t (e3t (e3t (e3t (e3t (e3t (e3t (e3t (e3t (e3t (st6 (u + 5) (x.1 1) (n40 hu (by decide))) (st7 (u + 5) (x.1 1) (n40 hu (by decide)))) (st8 (u + 5) (x.1 1) (nuj (by decide)))) (st9 (u + 5) (x.1 1) (n40 hu (by decide)))) (st10 (u + 5) (x.1 1) (n40 hu (by decide)))) (st11 (u + 5) (x.1 1) (nuj (by decide)))) (st12 (u + 5) (x.1 1) (nuj (by decide)))) (st13 (u + 5) (x.1 1) (nuj (by decide)))) (st14 (u + 5) (x.1 1) (n40 hu (by decide)))) (st15 (u + 5) (x.1 1) (n40 hu (by decide)))) (st16 (u + 5) (x.1 1) (nuj (by decide)))) (st17 (u + 5) (x.1 1) (n40 hu (by decide)))).1.trans vl5).trans (if_pos hz2)
                        · exact ((e3t (e3t (e3t (e3t (e3t (e3t (e3t (e3t (st9 (u + 6) (x.1 1) (n40 hu (by decide))) (st10 (u + 6) (x.1 1) (n40 hu (by decide)))) (st11 (u + 6) (x.1 1) (nuj (by decide)))) (st12 (u + 6) (x.1 1) (nuj (by decide)))) (st13 (u + 6) (x.1 1) (nuj (by decide)))) (st14 (u + 6) (x.1 1) (n40 hu (by decide)))) (st15 (u + 6) (x.1 1) (n40 hu (by decide)))) (st16 (u + 6) (x.1 1) (nuj (by decide)))) (st17 (u + 6) (x.1 1) (n40 hu (by decide)))).1.trans vl8).trans (if_pos hz4)
                        · exact ((e3t (e3t (e3t (e3t (e3t (st12 (u + 7) (x.1 1) (nuj (by decide))) (st13 (u + 7) (x.1 1) (nuj (by decide)))) (st14 (u + 7) (x.1 1) (n40 hu (by decide)))) (st15 (u + 7) (x.1 1) (n40 hu (by decide)))) (st16 (u + 7) (x.1 1) (nuj (by decide)))) (st17 (u + 7) (x.1 1) (n40 hu (by decide)))).1.trans vl11).trans (if_pos hz6)
                        · exact ((e3t (e3t (e3t (e3t (st13 (u + 8) (x.1 1) (nuj (by decide))) (st14 (u + 8) (x.1 1) (n40 hu (by decide)))) (st15 (u + 8) (x.1 1) (n40 hu (by decide)))) (st16 (u + 8) (x.1 1) (nuj (by decide)))) (st17 (u + 8) (x.1 1) (n40 hu (by decide)))).1.trans vl12)
                        · exact ((st17 (u + 9) (x.1 1) (n40 hu (by decide))).1.trans vl16)
                      rw [eS] at k bdn
                      exact k M17 oww lmm hr17 bdn
                    · have hzf : ¬ (sRx T x.2 0 (x.1 0) 0 (801 - ((mk6 T x s).1 + 1)) 0 ((mk6 T x s).1 + 1, 0)).2.2 = 0 := by
                        rcases rz with z | z
                        · exact absurd (by first | omega | assumption) z.2
                        · exact z.1
                      refine Ru_iconst (pc := 225) (nI 0) dX9_buildMaking_225 rfl ?_
                      refine Ru_zret (pc := 226) dX9_buildMaking_226 rfl ⟨Nat.le_refl _, Nat.le_refl _⟩ (Or.inl rfl) ?_
                      have oww : r_ow (inT u) M M16 := cw16.mn (fun o k z => by
                        have z2 := z
                        unfold pM at z2
                        unfold inT
                        omega)
                      have lmm : X_lm u M16 := ow_lm hu (fun j hj => by
                        unfold pM
                        omega) cw16 bd
                      have e7 : mk7 T x s = (0, mk6 T x s) := sOpt_m (by assumption)
                      have e8 : mk8 T x s = (sRx T x.2 0 (x.1 0) 0 (801 - ((mk6 T x s).1 + 1)) 0 ((mk6 T x s).1 + 1, 0)) := by
                        unfold mk8
                        rw [e7]
                        exact (sOpt_y tw hz6 (by assumption) (by decide)).trans (rwE_f hzf)
                      have eS : prE T (mkS T x s) = (sRx T x.2 0 (x.1 0) 0 (801 - ((mk6 T x s).1 + 1)) 0 ((mk6 T x s).1 + 1, 0)).2 := by
                        unfold prE mkS
                        rw [e8]
                        exact sMust_f hzf
                      rw [eS] at k
                      exact r_qe (r_b_f (decide_eq_false hzf)) (k M16 oww lmm hr16 (fun z => absurd z hzf))
                · have hs8_167 : (mk6 T x s).1 + 1 ≤ 800 := (tK_i tw (i := (mk6 T x s).1) (by omega)).1
                  refine Ru_aload_n (pc := 152) dX9_buildMaking_152 rfl rfl ?_
                  refine Ru_cv0 (pc := 153) dX9_buildMaking_153 mv_X9_131 rfl (by decide) (Nat.le_of_ble_eq_true rfl) (c_X8_next (s := (mk6 T x s)) tw hr13 (by assumption) (by show ¬ tK T ((mk6 T x s).1) = 0; omega) (fun M14 gx14 (hr14 : X_rd T cnt ((mk6 T x s).1 + 1, 0) M14) => ?_)) 
                  have st14 : ∀ o k, ¬ (o = 40 ∧ 6 ≤ k ∧ k ≤ 8) → r_eq3 M13 M14 o k := fun o k h => r_ow.fx (P := fun _ _ => False) (gx14.mono rfl) o k h (fun z => z)
                  have cw14 := cw13.fx1 (gx14.mono rfl)
                  refine Ru_aload_n (pc := 156) dX9_buildMaking_156 rfl rfl ?_
                  refine Ru_getR (pc := 157) (u + 8) dX9_buildMaking_157 fl_X9_33 (shTown_0 hu) rfl (rfX_of (o := u) (j := 8) (shTown_0 hu) rfl) ?_
                  refine Ru_iload_n (pc := 160) dX9_buildMaking_160 rfl rfl ?_
                  refine Ru_aload_n (pc := 161) dX9_buildMaking_161 rfl rfl ?_
                  refine Ru_aload_n (pc := 162) dX9_buildMaking_162 rfl rfl ?_
                  refine Ru_getR (pc := 163) (u + 1) dX9_buildMaking_163 fl_X9_14 (shTown_0 hu) rfl (rfX_of (o := u) (j := 1) (shTown_0 hu) rfl) ?_
                  refine Ru_iconst (pc := 166) (nI 0) dX9_buildMaking_166 rfl ?_
                  refine Ru_cv2 (pc := 167) dX9_buildMaking_167 mv_X9_145 rfl (by decide) (Nat.le_of_ble_eq_true rfl) (c_X8_namedRow (s := ((mk6 T x s).1 + 1, 0)) (W := x.2) (b := 0) (n := x.1 0) (had := 0) tw hr14 rfl (isNames_t hu).1 (by omega) ((cw14 (u + 1) 2 (n40 hu (by decide)) (by unfold pM; omega)).1.trans bd.2.1.1.1) (fun k hk => ⟨(cw14 (u + 2) k (n40 hu (by decide)) (by unfold pM; omega)).2.1.trans (bd.2.1.2.1 k hk).1, (bd.2.1.2.1 k hk).2⟩) (by decide) (hs8_167) (fun M15 gx15 (hr15 : X_rd T cnt (sRx T x.2 0 (x.1 0) 0 (801 - ((mk6 T x s).1 + 1)) 0 ((mk6 T x s).1 + 1, 0)).2 M15) => ?_)) 
                  have st15 : ∀ o k, ¬ (o = 40 ∧ 6 ≤ k ∧ k ≤ 8) → r_eq3 M14 M15 o k := fun o k h => r_ow.fx (P := fun _ _ => False) (gx15.mono rfl) o k h (fun z => z)
                  have cw15 := cw14.fx1 (gx15.mono rfl)
                  have rz := sRx_nz (T := T) (W := x.2) (b := 0) (n := x.1 0) (had := 0) (801 - ((mk6 T x s).1 + 1)) 0 ((mk6 T x s).1 + 1, 0) rfl (fun z => by omega)
                  have rl : (sRx T x.2 0 (x.1 0) 0 (801 - ((mk6 T x s).1 + 1)) 0 ((mk6 T x s).1 + 1, 0)).1 < 256 := Nat.lt_of_lt_of_le (sRx_lt _ _ _ (Nat.two_pow_pos _)) (pw_le (by omega)).2
                  refine Ru_iast (pc := 170) rfl dX9_buildMaking_170 (shTown_8 hu) (by omega) ?_
                  generalize en16 : r_sI M15 (u + 8) (x.1 1) (nI (sRx T x.2 0 (x.1 0) 0 (801 - ((mk6 T x s).1 + 1)) 0 ((mk6 T x s).1 + 1, 0)).1) = M16
                  have st16 : ∀ o k, ¬ (o = (u + 8) ∧ k = (x.1 1)) → r_eq3 M15 M16 o k := fun o k h => by
                    rw [← en16]
                    exact ⟨r_sI_n h, rfl, rfl⟩
                  have vl16 : M16.1 (u + 8) (x.1 1) = (nI (sRx T x.2 0 (x.1 0) 0 (801 - ((mk6 T x s).1 + 1)) 0 ((mk6 T x s).1 + 1, 0)).1) := by
                    rw [← en16]
                    exact r_sI_s
                  have hr16 : X_rd T cnt (sRx T x.2 0 (x.1 0) 0 (801 - ((mk6 T x s).1 + 1)) 0 ((mk6 T x s).1 + 1, 0)).2 M16 := X_rd_st hu (by decide) en16 hr15
                  have cw16 := cw15.st (by unfold pM; omega) en16
                  refine Ru_aload_n (pc := 171) dX9_buildMaking_171 rfl rfl ?_
                  refine Ru_getR (pc := 172) (u + 8) dX9_buildMaking_172 fl_X9_33 (shTown_0 hu) rfl (rfX_of (o := u) (j := 8) (shTown_0 hu) rfl) ?_
                  refine Ru_iload_n (pc := 175) dX9_buildMaking_175 rfl rfl ?_
                  refine Ru_iald (pc := 176) dX9_buildMaking_176 (shTown_8 hu) (by omega) ?_
                  refine Ru_top vl16 ?_
                  refine Ru_if_neN (pc := 177) 182 dX9_buildMaking_177 (by decide) (by omega) (fun h11 => ?_) (fun h11 => ?_)
                  · have hz7 : (sRx T x.2 0 (x.1 0) 0 (801 - ((mk6 T x s).1 + 1)) 0 ((mk6 T x s).1 + 1, 0)).2.2 = 0 := by
                      rcases rz with z | z
                      · exact z.1
                      · exact absurd z.2 (by first | omega | assumption)
                    refine Ru_aload_n (pc := 182) dX9_buildMaking_182 rfl rfl ?_
                    refine Ru_cv0 (pc := 183) dX9_buildMaking_183 mv_X9_80 rfl (by decide) (Nat.le_of_ble_eq_true rfl) (c_X8_kind (s := (sRx T x.2 0 (x.1 0) 0 (801 - ((mk6 T x s).1 + 1)) 0 ((mk6 T x s).1 + 1, 0)).2) tw hr16 (by assumption) ?_) 
                    refine Ru_sipush (pc := 186) (nI 136) dX9_buildMaking_186 rfl ?_
                    refine Ru_icmp_neN (pc := 189) 227 dX9_buildMaking_189 (by decide) ⟨tK_rg _ _, by decide⟩ (fun h12 => ?_) (fun h12 => ?_)
                    · refine Ru_aload_n (pc := 227) dX9_buildMaking_227 rfl rfl ?_
                      refine Ru_bipush (pc := 228) (nI 59) dX9_buildMaking_228 rfl ?_
                      refine Ru_cv1 (pc := 230) dX9_buildMaking_230 mv_X9_134 rfl (by decide) (Nat.le_of_ble_eq_true rfl) (c_X8_expect (s := (sRx T x.2 0 (x.1 0) 0 (801 - ((mk6 T x s).1 + 1)) 0 ((mk6 T x s).1 + 1, 0)).2) (w := 59) tw hr16 (by assumption) (by decide) (fun M17 gx17 (hr17 : X_rd T cnt (sMust T (decide (tK T (sRx T x.2 0 (x.1 0) 0 (801 - ((mk6 T x s).1 + 1)) 0 ((mk6 T x s).1 + 1, 0)).2.1 = 59)) (sRx T x.2 0 (x.1 0) 0 (801 - ((mk6 T x s).1 + 1)) 0 ((mk6 T x s).1 + 1, 0)).2) M17) => ?_)) 
                      have st17 : ∀ o k, ¬ (o = 40 ∧ 6 ≤ k ∧ k ≤ 8) → r_eq3 M16 M17 o k := fun o k h => r_ow.fx (P := fun _ _ => False) (gx17.mono rfl) o k h (fun z => z)
                      have cw17 := cw16.fx1 (gx17.mono rfl)
                      refine Ru_zret (pc := 233) dX9_buildMaking_233 rfl ⟨Nat.le_refl _, Nat.le_refl _⟩ (r_b_01 _) ?_
                      have oww : r_ow (inT u) M M17 := cw17.mn (fun o k z => by
                        have z2 := z
                        unfold pM at z2
                        unfold inT
                        omega)
                      have lmm : X_lm u M17 := ow_lm hu (fun j hj => by
                        unfold pM
                        omega) cw17 bd
                      have e7 : mk7 T x s = rwE T 136 (sRx T x.2 0 (x.1 0) 0 (801 - ((mk6 T x s).1 + 1)) 0 ((mk6 T x s).1 + 1, 0)) := sOpt_y tw hz6 (by assumption) (by decide)
                      have re := rwE_end (T := T) (e := 136) hz7
                      have hq : ¬ tK T (rwE T 136 (sRx T x.2 0 (x.1 0) 0 (801 - ((mk6 T x s).1 + 1)) 0 ((mk6 T x s).1 + 1, 0))).2.1 = 136 := by
                        unfold rwE
                        split
                        · assumption
                        · assumption
                      have e8 : mk8 T x s = (0, (rwE T 136 (sRx T x.2 0 (x.1 0) 0 (801 - ((mk6 T x s).1 + 1)) 0 ((mk6 T x s).1 + 1, 0))).2) := by
                        unfold mk8
                        rw [e7]
                        exact sOpt_m hq
                      have eS : prE T (mkS T x s) = (sMust T (decide (tK T (sRx T x.2 0 (x.1 0) 0 (801 - ((mk6 T x s).1 + 1)) 0 ((mk6 T x s).1 + 1, 0)).2.1 = 59)) (sRx T x.2 0 (x.1 0) 0 (801 - ((mk6 T x s).1 + 1)) 0 ((mk6 T x s).1 + 1, 0)).2) := by
                        unfold mkS
                        rw [e8]
                        exact re.1
                      have er : (prE T (mkS T x s)).2 = 0 → (mk7 T x s).1 = (sRx T x.2 0 (x.1 0) 0 (801 - ((mk6 T x s).1 + 1)) 0 ((mk6 T x s).1 + 1, 0)).1 ∧ (mk8 T x s).1 = 0 := fun z => by
                        rw [eS] at z
                        rw [e8, e7, re.2 z]
                        exact ⟨rfl, rfl⟩
                      have bdn : (prE T (mkS T x s)).2 = 0 → X_bd u (mkX T x s) M17 := fun zz => by
                        have er := er zz
                        have tc := mkX_c (T := T) (s := s) cl2.2.2.2
                        rw [er.1, er.2] at tc
                        have tv := tL_v tw (i := s.1 + 1) (Or.inl cl2.2.2.1)
                        refine X_bd_mk (M := M) (l := tL T (s.1 + 1)) bd wf cl2.2.2.2 ⟨tv.1, tv.2.1⟩ tc.1 tc.2.1 tc.2.2 (fun o k h1 h2 h3 h4 h5 => ?_) ?_ ?_ ⟨?_, ?_, ?_, ?_, ?_⟩
                        · exact cw17 o k (fun z => by rcases hT with h | h | h | h | h <;> omega) (by unfold pM; omega)
                        · exact (e3t (e3t (e3t (e3t (e3t (e3t (e3t (e3t (e3t (e3t (e3t (e3t (e3t (e3t (st3 (u + 3) 2 (n40 hu (by decide))) (st4 (u + 3) 2 (n40 hu (by decide)))) (st5 (u + 3) 2 (nuj (by decide)))) (st6 (u + 3) 2 (n40 hu (by decide)))) (st7 (u + 3) 2 (n40 hu (by decide)))) (st8 (u + 3) 2 (nuj (by decide)))) (st9 (u + 3) 2 (n40 hu (by decide)))) (st10 (u + 3) 2 (n40 hu (by decide)))) (st11 (u + 3) 2 (nuj (by decide)))) (st12 (u + 3) 2 (nuj (by decide)))) (st13 (u + 3) 2 (nuj (by decide)))) (st14 (u + 3) 2 (n40 hu (by decide)))) (st15 (u + 3) 2 (n40 hu (by decide)))) (st16 (u + 3) 2 (nuj (by decide)))) (st17 (u + 3) 2 (n40 hu (by decide)))).1.trans cl2.1
                        · exact (e3t (e3t (e3t (e3t (e3t (e3t (e3t (e3t (e3t (e3t (e3t (e3t (e3t (e3t (st3 (u + 4) (x.1 1) (n40 hu (by decide))) (st4 (u + 4) (x.1 1) (n40 hu (by decide)))) (st5 (u + 4) (x.1 1) (nuj (by decide)))) (st6 (u + 4) (x.1 1) (n40 hu (by decide)))) (st7 (u + 4) (x.1 1) (n40 hu (by decide)))) (st8 (u + 4) (x.1 1) (nuj (by decide)))) (st9 (u + 4) (x.1 1) (n40 hu (by decide)))) (st10 (u + 4) (x.1 1) (n40 hu (by decide)))) (st11 (u + 4) (x.1 1) (nuj (by decide)))) (st12 (u + 4) (x.1 1) (nuj (by decide)))) (st13 (u + 4) (x.1 1) (nuj (by decide)))) (st14 (u + 4) (x.1 1) (n40 hu (by decide)))) (st15 (u + 4) (x.1 1) (n40 hu (by decide)))) (st16 (u + 4) (x.1 1) (nuj (by decide)))) (st17 (u + 4) (x.1 1) (n40 hu (by decide)))).2.1.trans cn2
                        · exact ((e3t (e3t (e3t (e3t (e3t (e3t (e3t (e3t (e3t (e3t (e3t (st6 (u + 5) (x.1 1) (n40 hu (by decide))) (st7 (u + 5) (x.1 1) (n40 hu (by decide)))) (st8 (u + 5) (x.1 1) (nuj (by decide)))) (st9 (u + 5) (x.1 1) (n40 hu (by decide)))) (st10 (u + 5) (x.1 1) (n40 hu (by decide)))) (st11 (u + 5) (x.1 1) (nuj (by decide)))) (st12 (u + 5) (x.1 1) (nuj (by decide)))) (st13 (u + 5) (x.1 1) (nuj (by decide)))) (st14 (u + 5) (x.1 1) (n40 hu (by decide)))) (st15 (u + 5) (x.1 1) (n40 hu (by decide)))) (st16 (u + 5) (x.1 1) (nuj (by decide)))) (st17 (u + 5) (x.1 1) (n40 hu (by decide)))).1.trans vl5).trans (if_pos hz2)
                        · exact ((e3t (e3t (e3t (e3t (e3t (e3t (e3t (e3t (st9 (u + 6) (x.1 1) (n40 hu (by decide))) (st10 (u + 6) (x.1 1) (n40 hu (by decide)))) (st11 (u + 6) (x.1 1) (nuj (by decide)))) (st12 (u + 6) (x.1 1) (nuj (by decide)))) (st13 (u + 6) (x.1 1) (nuj (by decide)))) (st14 (u + 6) (x.1 1) (n40 hu (by decide)))) (st15 (u + 6) (x.1 1) (n40 hu (by decide)))) (st16 (u + 6) (x.1 1) (nuj (by decide)))) (st17 (u + 6) (x.1 1) (n40 hu (by decide)))).1.trans vl8).trans (if_pos hz4)
                        · exact ((e3t (e3t (e3t (e3t (e3t (st12 (u + 7) (x.1 1) (nuj (by decide))) (st13 (u + 7) (x.1 1) (nuj (by decide)))) (st14 (u + 7) (x.1 1) (n40 hu (by decide)))) (st15 (u + 7) (x.1 1) (n40 hu (by decide)))) (st16 (u + 7) (x.1 1) (nuj (by decide)))) (st17 (u + 7) (x.1 1) (n40 hu (by decide)))).1.trans vl11).trans (if_pos hz6)
                        · exact ((st17 (u + 8) (x.1 1) (n40 hu (by decide))).1.trans vl16)
                        · exact ((e3t (e3t (e3t (st14 (u + 9) (x.1 1) (n40 hu (by decide))) (st15 (u + 9) (x.1 1) (n40 hu (by decide)))) (st16 (u + 9) (x.1 1) (nuj (by decide)))) (st17 (u + 9) (x.1 1) (n40 hu (by decide)))).1.trans vl13)
                      rw [eS] at k bdn
                      exact k M17 oww lmm hr17 bdn
                    · have hs8_212 : (sRx T x.2 0 (x.1 0) 0 (801 - ((mk6 T x s).1 + 1)) 0 ((mk6 T x s).1 + 1, 0)).2.1 + 1 ≤ 800 := (tK_i tw (i := (sRx T x.2 0 (x.1 0) 0 (801 - ((mk6 T x s).1 + 1)) 0 ((mk6 T x s).1 + 1, 0)).2.1) (by omega)).1
                      have hhd : (sRx T x.2 0 (x.1 0) 0 (801 - ((mk6 T x s).1 + 1)) 0 ((mk6 T x s).1 + 1, 0)).1 < 256 := Nat.lt_of_lt_of_le (sRx_lt _ _ _ (Nat.two_pow_pos _)) (pw_le (by omega)).2
                      refine Ru_aload_n (pc := 192) dX9_buildMaking_192 rfl rfl ?_
                      refine Ru_cv0 (pc := 193) dX9_buildMaking_193 mv_X9_131 rfl (by decide) (Nat.le_of_ble_eq_true rfl) (c_X8_next (s := (sRx T x.2 0 (x.1 0) 0 (801 - ((mk6 T x s).1 + 1)) 0 ((mk6 T x s).1 + 1, 0)).2) tw hr16 (by assumption) (by show ¬ tK T ((sRx T x.2 0 (x.1 0) 0 (801 - ((mk6 T x s).1 + 1)) 0 ((mk6 T x s).1 + 1, 0)).2.1) = 0; omega) (fun M17 gx17 (hr17 : X_rd T cnt ((sRx T x.2 0 (x.1 0) 0 (801 - ((mk6 T x s).1 + 1)) 0 ((mk6 T x s).1 + 1, 0)).2.1 + 1, 0) M17) => ?_)) 
                      have st17 : ∀ o k, ¬ (o = 40 ∧ 6 ≤ k ∧ k ≤ 8) → r_eq3 M16 M17 o k := fun o k h => r_ow.fx (P := fun _ _ => False) (gx17.mono rfl) o k h (fun z => z)
                      have cw17 := cw16.fx1 (gx17.mono rfl)
                      refine Ru_aload_n (pc := 196) dX9_buildMaking_196 rfl rfl ?_
                      refine Ru_getR (pc := 197) (u + 9) dX9_buildMaking_197 fl_X9_36 (shTown_0 hu) rfl (rfX_of (o := u) (j := 9) (shTown_0 hu) rfl) ?_
                      refine Ru_iload_n (pc := 200) dX9_buildMaking_200 rfl rfl ?_
                      refine Ru_aload_n (pc := 201) dX9_buildMaking_201 rfl rfl ?_
                      refine Ru_aload_n (pc := 202) dX9_buildMaking_202 rfl rfl ?_
                      refine Ru_getR (pc := 203) (u + 1) dX9_buildMaking_203 fl_X9_14 (shTown_0 hu) rfl (rfX_of (o := u) (j := 1) (shTown_0 hu) rfl) ?_
                      refine Ru_aload_n (pc := 206) dX9_buildMaking_206 rfl rfl ?_
                      refine Ru_getR (pc := 207) (u + 8) dX9_buildMaking_207 fl_X9_33 (shTown_0 hu) rfl (rfX_of (o := u) (j := 8) (shTown_0 hu) rfl) ?_
                      refine Ru_iload_n (pc := 210) dX9_buildMaking_210 rfl rfl ?_
                      refine Ru_iald (pc := 211) dX9_buildMaking_211 (shTown_8 hu) (by omega) ?_
                      refine Ru_top ((st17 (u + 8) (x.1 1) (n40 hu (by decide))).1.trans vl16) ?_
                      refine Ru_cv2 (pc := 212) dX9_buildMaking_212 mv_X9_145 rfl (by decide) (Nat.le_of_ble_eq_true rfl) (c_X8_namedRow (s := ((sRx T x.2 0 (x.1 0) 0 (801 - ((mk6 T x s).1 + 1)) 0 ((mk6 T x s).1 + 1, 0)).2.1 + 1, 0)) (W := x.2) (b := 0) (n := x.1 0) (had := (sRx T x.2 0 (x.1 0) 0 (801 - ((mk6 T x s).1 + 1)) 0 ((mk6 T x s).1 + 1, 0)).1) tw hr17 rfl (isNames_t hu).1 (by omega) ((cw17 (u + 1) 2 (n40 hu (by decide)) (by unfold pM; omega)).1.trans bd.2.1.1.1) (fun k hk => ⟨(cw17 (u + 2) k (n40 hu (by decide)) (by unfold pM; omega)).2.1.trans (bd.2.1.2.1 k hk).1, (bd.2.1.2.1 k hk).2⟩) (hhd) (hs8_212) (fun M18 gx18 (hr18 : X_rd T cnt (sRx T x.2 0 (x.1 0) (sRx T x.2 0 (x.1 0) 0 (801 - ((mk6 T x s).1 + 1)) 0 ((mk6 T x s).1 + 1, 0)).1 (801 - ((sRx T x.2 0 (x.1 0) 0 (801 - ((mk6 T x s).1 + 1)) 0 ((mk6 T x s).1 + 1, 0)).2.1 + 1, 0).1) 0 ((sRx T x.2 0 (x.1 0) 0 (801 - ((mk6 T x s).1 + 1)) 0 ((mk6 T x s).1 + 1, 0)).2.1 + 1, 0)).2 M18) => ?_)) 
                      have st18 : ∀ o k, ¬ (o = 40 ∧ 6 ≤ k ∧ k ≤ 8) → r_eq3 M17 M18 o k := fun o k h => r_ow.fx (P := fun _ _ => False) (gx18.mono rfl) o k h (fun z => z)
                      have cw18 := cw17.fx1 (gx18.mono rfl)
                      have rz := sRx_nz (T := T) (W := x.2) (b := 0) (n := x.1 0) (had := (sRx T x.2 0 (x.1 0) 0 (801 - ((mk6 T x s).1 + 1)) 0 ((mk6 T x s).1 + 1, 0)).1) (801 - ((sRx T x.2 0 (x.1 0) 0 (801 - ((mk6 T x s).1 + 1)) 0 ((mk6 T x s).1 + 1, 0)).2.1 + 1)) 0 ((sRx T x.2 0 (x.1 0) 0 (801 - ((mk6 T x s).1 + 1)) 0 ((mk6 T x s).1 + 1, 0)).2.1 + 1, 0) rfl (fun z => by omega)
                      have rl : (sRx T x.2 0 (x.1 0) (sRx T x.2 0 (x.1 0) 0 (801 - ((mk6 T x s).1 + 1)) 0 ((mk6 T x s).1 + 1, 0)).1 (801 - ((sRx T x.2 0 (x.1 0) 0 (801 - ((mk6 T x s).1 + 1)) 0 ((mk6 T x s).1 + 1, 0)).2.1 + 1, 0).1) 0 ((sRx T x.2 0 (x.1 0) 0 (801 - ((mk6 T x s).1 + 1)) 0 ((mk6 T x s).1 + 1, 0)).2.1 + 1, 0)).1 < 256 := Nat.lt_of_lt_of_le (sRx_lt _ _ _ (Nat.two_pow_pos _)) (pw_le (by omega)).2
                      refine Ru_iast (pc := 215) rfl dX9_buildMaking_215 (shTown_9 hu) (by omega) ?_
                      generalize en19 : r_sI M18 (u + 9) (x.1 1) (nI (sRx T x.2 0 (x.1 0) (sRx T x.2 0 (x.1 0) 0 (801 - ((mk6 T x s).1 + 1)) 0 ((mk6 T x s).1 + 1, 0)).1 (801 - ((sRx T x.2 0 (x.1 0) 0 (801 - ((mk6 T x s).1 + 1)) 0 ((mk6 T x s).1 + 1, 0)).2.1 + 1, 0).1) 0 ((sRx T x.2 0 (x.1 0) 0 (801 - ((mk6 T x s).1 + 1)) 0 ((mk6 T x s).1 + 1, 0)).2.1 + 1, 0)).1) = M19
                      have st19 : ∀ o k, ¬ (o = (u + 9) ∧ k = (x.1 1)) → r_eq3 M18 M19 o k := fun o k h => by
                        rw [← en19]
                        exact ⟨r_sI_n h, rfl, rfl⟩
                      have vl19 : M19.1 (u + 9) (x.1 1) = (nI (sRx T x.2 0 (x.1 0) (sRx T x.2 0 (x.1 0) 0 (801 - ((mk6 T x s).1 + 1)) 0 ((mk6 T x s).1 + 1, 0)).1 (801 - ((sRx T x.2 0 (x.1 0) 0 (801 - ((mk6 T x s).1 + 1)) 0 ((mk6 T x s).1 + 1, 0)).2.1 + 1, 0).1) 0 ((sRx T x.2 0 (x.1 0) 0 (801 - ((mk6 T x s).1 + 1)) 0 ((mk6 T x s).1 + 1, 0)).2.1 + 1, 0)).1) := by
                        rw [← en19]
                        exact r_sI_s
                      have hr19 : X_rd T cnt (sRx T x.2 0 (x.1 0) (sRx T x.2 0 (x.1 0) 0 (801 - ((mk6 T x s).1 + 1)) 0 ((mk6 T x s).1 + 1, 0)).1 (801 - ((sRx T x.2 0 (x.1 0) 0 (801 - ((mk6 T x s).1 + 1)) 0 ((mk6 T x s).1 + 1, 0)).2.1 + 1, 0).1) 0 ((sRx T x.2 0 (x.1 0) 0 (801 - ((mk6 T x s).1 + 1)) 0 ((mk6 T x s).1 + 1, 0)).2.1 + 1, 0)).2 M19 := X_rd_st hu (by decide) en19 hr18
                      have cw19 := cw18.st (by unfold pM; omega) en19
                      refine Ru_aload_n (pc := 216) dX9_buildMaking_216 rfl rfl ?_
                      refine Ru_getR (pc := 217) (u + 9) dX9_buildMaking_217 fl_X9_36 (shTown_0 hu) rfl (rfX_of (o := u) (j := 9) (shTown_0 hu) rfl) ?_
                      refine Ru_iload_n (pc := 220) dX9_buildMaking_220 rfl rfl ?_
                      refine Ru_iald (pc := 221) dX9_buildMaking_221 (shTown_9 hu) (by omega) ?_
                      refine Ru_top vl19 ?_
                      refine Ru_if_neN (pc := 222) 227 dX9_buildMaking_222 (by decide) (by omega) (fun h13 => ?_) (fun h13 => ?_)
                      · have hz8 : (sRx T x.2 0 (x.1 0) (sRx T x.2 0 (x.1 0) 0 (801 - ((mk6 T x s).1 + 1)) 0 ((mk6 T x s).1 + 1, 0)).1 (801 - ((sRx T x.2 0 (x.1 0) 0 (801 - ((mk6 T x s).1 + 1)) 0 ((mk6 T x s).1 + 1, 0)).2.1 + 1, 0).1) 0 ((sRx T x.2 0 (x.1 0) 0 (801 - ((mk6 T x s).1 + 1)) 0 ((mk6 T x s).1 + 1, 0)).2.1 + 1, 0)).2.2 = 0 := by
                          rcases rz with z | z
                          · exact z.1
                          · exact absurd z.2 (by first | omega | assumption)
                        refine Ru_aload_n (pc := 227) dX9_buildMaking_227 rfl rfl ?_
                        refine Ru_bipush (pc := 228) (nI 59) dX9_buildMaking_228 rfl ?_
                        refine Ru_cv1 (pc := 230) dX9_buildMaking_230 mv_X9_134 rfl (by decide) (Nat.le_of_ble_eq_true rfl) (c_X8_expect (s := (sRx T x.2 0 (x.1 0) (sRx T x.2 0 (x.1 0) 0 (801 - ((mk6 T x s).1 + 1)) 0 ((mk6 T x s).1 + 1, 0)).1 (801 - ((sRx T x.2 0 (x.1 0) 0 (801 - ((mk6 T x s).1 + 1)) 0 ((mk6 T x s).1 + 1, 0)).2.1 + 1, 0).1) 0 ((sRx T x.2 0 (x.1 0) 0 (801 - ((mk6 T x s).1 + 1)) 0 ((mk6 T x s).1 + 1, 0)).2.1 + 1, 0)).2) (w := 59) tw hr19 (by assumption) (by decide) (fun M20 gx20 (hr20 : X_rd T cnt (sMust T (decide (tK T (sRx T x.2 0 (x.1 0) (sRx T x.2 0 (x.1 0) 0 (801 - ((mk6 T x s).1 + 1)) 0 ((mk6 T x s).1 + 1, 0)).1 (801 - ((sRx T x.2 0 (x.1 0) 0 (801 - ((mk6 T x s).1 + 1)) 0 ((mk6 T x s).1 + 1, 0)).2.1 + 1, 0).1) 0 ((sRx T x.2 0 (x.1 0) 0 (801 - ((mk6 T x s).1 + 1)) 0 ((mk6 T x s).1 + 1, 0)).2.1 + 1, 0)).2.1 = 59)) (sRx T x.2 0 (x.1 0) (sRx T x.2 0 (x.1 0) 0 (801 - ((mk6 T x s).1 + 1)) 0 ((mk6 T x s).1 + 1, 0)).1 (801 - ((sRx T x.2 0 (x.1 0) 0 (801 - ((mk6 T x s).1 + 1)) 0 ((mk6 T x s).1 + 1, 0)).2.1 + 1, 0).1) 0 ((sRx T x.2 0 (x.1 0) 0 (801 - ((mk6 T x s).1 + 1)) 0 ((mk6 T x s).1 + 1, 0)).2.1 + 1, 0)).2) M20) => ?_)) 
                        have st20 : ∀ o k, ¬ (o = 40 ∧ 6 ≤ k ∧ k ≤ 8) → r_eq3 M19 M20 o k := fun o k h => r_ow.fx (P := fun _ _ => False) (gx20.mono rfl) o k h (fun z => z)
                        have cw20 := cw19.fx1 (gx20.mono rfl)
                        refine Ru_zret (pc := 233) dX9_buildMaking_233 rfl ⟨Nat.le_refl _, Nat.le_refl _⟩ (r_b_01 _) ?_
                        have oww : r_ow (inT u) M M20 := cw20.mn (fun o k z => by
                          have z2 := z
                          unfold pM at z2
                          unfold inT
                          omega)
                        have lmm : X_lm u M20 := ow_lm hu (fun j hj => by
                          unfold pM
                          omega) cw20 bd
                        have e7 : mk7 T x s = (sRx T x.2 0 (x.1 0) 0 (801 - ((mk6 T x s).1 + 1)) 0 ((mk6 T x s).1 + 1, 0)) := (sOpt_y tw hz6 (by assumption) (by decide)).trans (rwE_e (by assumption))
                        have e8 : mk8 T x s = rwE T 136 (sRx T x.2 0 (x.1 0) (sRx T x.2 0 (x.1 0) 0 (801 - ((mk6 T x s).1 + 1)) 0 ((mk6 T x s).1 + 1, 0)).1 (801 - ((sRx T x.2 0 (x.1 0) 0 (801 - ((mk6 T x s).1 + 1)) 0 ((mk6 T x s).1 + 1, 0)).2.1 + 1)) 0 ((sRx T x.2 0 (x.1 0) 0 (801 - ((mk6 T x s).1 + 1)) 0 ((mk6 T x s).1 + 1, 0)).2.1 + 1, 0)) := by
                          unfold mk8
                          rw [e7]
                          exact sOpt_y tw hz7 (by assumption) (by decide)
                        have re := rwE_end (T := T) (e := 136) hz8
                        have eS : prE T (mkS T x s) = (sMust T (decide (tK T (sRx T x.2 0 (x.1 0) (sRx T x.2 0 (x.1 0) 0 (801 - ((mk6 T x s).1 + 1)) 0 ((mk6 T x s).1 + 1, 0)).1 (801 - ((sRx T x.2 0 (x.1 0) 0 (801 - ((mk6 T x s).1 + 1)) 0 ((mk6 T x s).1 + 1, 0)).2.1 + 1, 0).1) 0 ((sRx T x.2 0 (x.1 0) 0 (801 - ((mk6 T x s).1 + 1)) 0 ((mk6 T x s).1 + 1, 0)).2.1 + 1, 0)).2.1 = 59)) (sRx T x.2 0 (x.1 0) (sRx T x.2 0 (x.1 0) 0 (801 - ((mk6 T x s).1 + 1)) 0 ((mk6 T x s).1 + 1, 0)).1 (801 - ((sRx T x.2 0 (x.1 0) 0 (801 - ((mk6 T x s).1 + 1)) 0 ((mk6 T x s).1 + 1, 0)).2.1 + 1, 0).1) 0 ((sRx T x.2 0 (x.1 0) 0 (801 - ((mk6 T x s).1 + 1)) 0 ((mk6 T x s).1 + 1, 0)).2.1 + 1, 0)).2) := by
                          unfold mkS
                          rw [e8]
                          exact re.1
                        have er : (prE T (mkS T x s)).2 = 0 → (mk7 T x s).1 = (sRx T x.2 0 (x.1 0) 0 (801 - ((mk6 T x s).1 + 1)) 0 ((mk6 T x s).1 + 1, 0)).1 ∧ (mk8 T x s).1 = (sRx T x.2 0 (x.1 0) (sRx T x.2 0 (x.1 0) 0 (801 - ((mk6 T x s).1 + 1)) 0 ((mk6 T x s).1 + 1, 0)).1 (801 - ((sRx T x.2 0 (x.1 0) 0 (801 - ((mk6 T x s).1 + 1)) 0 ((mk6 T x s).1 + 1, 0)).2.1 + 1)) 0 ((sRx T x.2 0 (x.1 0) 0 (801 - ((mk6 T x s).1 + 1)) 0 ((mk6 T x s).1 + 1, 0)).2.1 + 1, 0)).1 := fun z => by
                          rw [eS] at z
                          rw [e8, e7, re.2 z]
                          exact ⟨rfl, rfl⟩
                        have bdn : (prE T (mkS T x s)).2 = 0 → X_bd u (mkX T x s) M20 := fun zz => by
                          have er := er zz
                          have tc := mkX_c (T := T) (s := s) cl2.2.2.2
                          rw [er.1, er.2] at tc
                          have tv := tL_v tw (i := s.1 + 1) (Or.inl cl2.2.2.1)
                          refine X_bd_mk (M := M) (l := tL T (s.1 + 1)) bd wf cl2.2.2.2 ⟨tv.1, tv.2.1⟩ tc.1 tc.2.1 tc.2.2 (fun o k h1 h2 h3 h4 h5 => ?_) ?_ ?_ ⟨?_, ?_, ?_, ?_, ?_⟩
                          · exact cw20 o k (fun z => by rcases hT with h | h | h | h | h <;> omega) (by unfold pM; omega)
                          · exact (e3t (e3t (e3t (e3t (e3t (e3t (e3t (e3t (e3t (e3t (e3t (e3t (e3t (e3t (e3t (e3t (e3t (st3 (u + 3) 2 (n40 hu (by decide))) (st4 (u + 3) 2 (n40 hu (by decide)))) (st5 (u + 3) 2 (nuj (by decide)))) (st6 (u + 3) 2 (n40 hu (by decide)))) (st7 (u + 3) 2 (n40 hu (by decide)))) (st8 (u + 3) 2 (nuj (by decide)))) (st9 (u + 3) 2 (n40 hu (by decide)))) (st10 (u + 3) 2 (n40 hu (by decide)))) (st11 (u + 3) 2 (nuj (by decide)))) (st12 (u + 3) 2 (nuj (by decide)))) (st13 (u + 3) 2 (nuj (by decide)))) (st14 (u + 3) 2 (n40 hu (by decide)))) (st15 (u + 3) 2 (n40 hu (by decide)))) (st16 (u + 3) 2 (nuj (by decide)))) (st17 (u + 3) 2 (n40 hu (by decide)))) (st18 (u + 3) 2 (n40 hu (by decide)))) (st19 (u + 3) 2 (nuj (by decide)))) (st20 (u + 3) 2 (n40 hu (by decide)))).1.trans cl2.1
                          · exact (e3t (e3t (e3t (e3t (e3t (e3t (e3t (e3t (e3t (e3t (e3t (e3t (e3t (e3t (e3t (e3t (e3t (st3 (u + 4) (x.1 1) (n40 hu (by decide))) (st4 (u + 4) (x.1 1) (n40 hu (by decide)))) (st5 (u + 4) (x.1 1) (nuj (by decide)))) (st6 (u + 4) (x.1 1) (n40 hu (by decide)))) (st7 (u + 4) (x.1 1) (n40 hu (by decide)))) (st8 (u + 4) (x.1 1) (nuj (by decide)))) (st9 (u + 4) (x.1 1) (n40 hu (by decide)))) (st10 (u + 4) (x.1 1) (n40 hu (by decide)))) (st11 (u + 4) (x.1 1) (nuj (by decide)))) (st12 (u + 4) (x.1 1) (nuj (by decide)))) (st13 (u + 4) (x.1 1) (nuj (by decide)))) (st14 (u + 4) (x.1 1) (n40 hu (by decide)))) (st15 (u + 4) (x.1 1) (n40 hu (by decide)))) (st16 (u + 4) (x.1 1) (nuj (by decide)))) (st17 (u + 4) (x.1 1) (n40 hu (by decide)))) (st18 (u + 4) (x.1 1) (n40 hu (by decide)))) (st19 (u + 4) (x.1 1) (nuj (by decide)))) (st20 (u + 4) (x.1 1) (n40 hu (by decide)))).2.1.trans cn2
                          · exact ((e3t (e3t (e3t (e3t (e3t (e3t (e3t (e3t (e3t (e3t (e3t (e3t (e3t (e3t (st6 (u + 5) (x.1 1) (n40 hu (by decide))) (st7 (u + 5) (x.1 1) (n40 hu (by decide)))) (st8 (u + 5) (x.1 1) (nuj (by decide)))) (st9 (u + 5) (x.1 1) (n40 hu (by decide)))) (st10 (u + 5) (x.1 1) (n40 hu (by decide)))) (st11 (u + 5) (x.1 1) (nuj (by decide)))) (st12 (u + 5) (x.1 1) (nuj (by decide)))) (st13 (u + 5) (x.1 1) (nuj (by decide)))) (st14 (u + 5) (x.1 1) (n40 hu (by decide)))) (st15 (u + 5) (x.1 1) (n40 hu (by decide)))) (st16 (u + 5) (x.1 1) (nuj (by decide)))) (st17 (u + 5) (x.1 1) (n40 hu (by decide)))) (st18 (u + 5) (x.1 1) (n40 hu (by decide)))) (st19 (u + 5) (x.1 1) (nuj (by decide)))) (st20 (u + 5) (x.1 1) (n40 hu (by decide)))).1.trans vl5).trans (if_pos hz2)
                          · exact ((e3t (e3t (e3t (e3t (e3t (e3t (e3t (e3t (e3t (e3t (e3t (st9 (u + 6) (x.1 1) (n40 hu (by decide))) (st10 (u + 6) (x.1 1) (n40 hu (by decide)))) (st11 (u + 6) (x.1 1) (nuj (by decide)))) (st12 (u + 6) (x.1 1) (nuj (by decide)))) (st13 (u + 6) (x.1 1) (nuj (by decide)))) (st14 (u + 6) (x.1 1) (n40 hu (by decide)))) (st15 (u + 6) (x.1 1) (n40 hu (by decide)))) (st16 (u + 6) (x.1 1) (nuj (by decide)))) (st17 (u + 6) (x.1 1) (n40 hu (by decide)))) (st18 (u + 6) (x.1 1) (n40 hu (by decide)))) (st19 (u + 6) (x.1 1) (nuj (by decide)))) (st20 (u + 6) (x.1 1) (n40 hu (by decide)))).1.trans vl8).trans (if_pos hz4)
                          · exact ((e3t (e3t (e3t (e3t (e3t (e3t (e3t (e3t (st12 (u + 7) (x.1 1) (nuj (by decide))) (st13 (u + 7) (x.1 1) (nuj (by decide)))) (st14 (u + 7) (x.1 1) (n40 hu (by decide)))) (st15 (u + 7) (x.1 1) (n40 hu (by decide)))) (st16 (u + 7) (x.1 1) (nuj (by decide)))) (st17 (u + 7) (x.1 1) (n40 hu (by decide)))) (st18 (u + 7) (x.1 1) (n40 hu (by decide)))) (st19 (u + 7) (x.1 1) (nuj (by decide)))) (st20 (u + 7) (x.1 1) (n40 hu (by decide)))).1.trans vl11).trans (if_pos hz6)
                          · exact ((e3t (e3t (e3t (st17 (u + 8) (x.1 1) (n40 hu (by decide))) (st18 (u + 8) (x.1 1) (n40 hu (by decide)))) (st19 (u + 8) (x.1 1) (nuj (by decide)))) (st20 (u + 8) (x.1 1) (n40 hu (by decide)))).1.trans vl16)
                          · exact ((st20 (u + 9) (x.1 1) (n40 hu (by decide))).1.trans vl19)
                        rw [eS] at k bdn
                        exact k M20 oww lmm hr20 bdn
                      · have hzf : ¬ (sRx T x.2 0 (x.1 0) (sRx T x.2 0 (x.1 0) 0 (801 - ((mk6 T x s).1 + 1)) 0 ((mk6 T x s).1 + 1, 0)).1 (801 - ((sRx T x.2 0 (x.1 0) 0 (801 - ((mk6 T x s).1 + 1)) 0 ((mk6 T x s).1 + 1, 0)).2.1 + 1, 0).1) 0 ((sRx T x.2 0 (x.1 0) 0 (801 - ((mk6 T x s).1 + 1)) 0 ((mk6 T x s).1 + 1, 0)).2.1 + 1, 0)).2.2 = 0 := by
                          rcases rz with z | z
                          · exact absurd (by first | omega | assumption) z.2
                          · exact z.1
                        refine Ru_iconst (pc := 225) (nI 0) dX9_buildMaking_225 rfl ?_
                        refine Ru_zret (pc := 226) dX9_buildMaking_226 rfl ⟨Nat.le_refl _, Nat.le_refl _⟩ (Or.inl rfl) ?_
                        have oww : r_ow (inT u) M M19 := cw19.mn (fun o k z => by
                          have z2 := z
                          unfold pM at z2
                          unfold inT
                          omega)
                        have lmm : X_lm u M19 := ow_lm hu (fun j hj => by
                          unfold pM
                          omega) cw19 bd
                        have e7 : mk7 T x s = (sRx T x.2 0 (x.1 0) 0 (801 - ((mk6 T x s).1 + 1)) 0 ((mk6 T x s).1 + 1, 0)) := (sOpt_y tw hz6 (by assumption) (by decide)).trans (rwE_e (by assumption))
                        have e8 : mk8 T x s = (sRx T x.2 0 (x.1 0) (sRx T x.2 0 (x.1 0) 0 (801 - ((mk6 T x s).1 + 1)) 0 ((mk6 T x s).1 + 1, 0)).1 (801 - ((sRx T x.2 0 (x.1 0) 0 (801 - ((mk6 T x s).1 + 1)) 0 ((mk6 T x s).1 + 1, 0)).2.1 + 1)) 0 ((sRx T x.2 0 (x.1 0) 0 (801 - ((mk6 T x s).1 + 1)) 0 ((mk6 T x s).1 + 1, 0)).2.1 + 1, 0)) := by
                          unfold mk8
                          rw [e7]
                          exact (sOpt_y tw hz7 (by assumption) (by decide)).trans (rwE_f hzf)
                        have eS : prE T (mkS T x s) = (sRx T x.2 0 (x.1 0) (sRx T x.2 0 (x.1 0) 0 (801 - ((mk6 T x s).1 + 1)) 0 ((mk6 T x s).1 + 1, 0)).1 (801 - ((sRx T x.2 0 (x.1 0) 0 (801 - ((mk6 T x s).1 + 1)) 0 ((mk6 T x s).1 + 1, 0)).2.1 + 1, 0).1) 0 ((sRx T x.2 0 (x.1 0) 0 (801 - ((mk6 T x s).1 + 1)) 0 ((mk6 T x s).1 + 1, 0)).2.1 + 1, 0)).2 := by
                          unfold prE mkS
                          rw [e8]
                          exact sMust_f hzf
                        rw [eS] at k
                        exact r_qe (r_b_f (decide_eq_false hzf)) (k M19 oww lmm hr19 (fun z => absurd z hzf))
                  · have hzf : ¬ (sRx T x.2 0 (x.1 0) 0 (801 - ((mk6 T x s).1 + 1)) 0 ((mk6 T x s).1 + 1, 0)).2.2 = 0 := by
                      rcases rz with z | z
                      · exact absurd (by first | omega | assumption) z.2
                      · exact z.1
                    refine Ru_iconst (pc := 180) (nI 0) dX9_buildMaking_180 rfl ?_
                    refine Ru_zret (pc := 181) dX9_buildMaking_181 rfl ⟨Nat.le_refl _, Nat.le_refl _⟩ (Or.inl rfl) ?_
                    have oww : r_ow (inT u) M M16 := cw16.mn (fun o k z => by
                      have z2 := z
                      unfold pM at z2
                      unfold inT
                      omega)
                    have lmm : X_lm u M16 := ow_lm hu (fun j hj => by
                      unfold pM
                      omega) cw16 bd
                    have e7 : mk7 T x s = (sRx T x.2 0 (x.1 0) 0 (801 - ((mk6 T x s).1 + 1)) 0 ((mk6 T x s).1 + 1, 0)) := (sOpt_y tw hz6 (by assumption) (by decide)).trans (rwE_f hzf)
                    have eS : prE T (mkS T x s) = (sRx T x.2 0 (x.1 0) 0 (801 - ((mk6 T x s).1 + 1)) 0 ((mk6 T x s).1 + 1, 0)).2 := (mk_f7 (by rw [e7]; exact hzf)).trans (by rw [e7])
                    rw [eS] at k
                    exact r_qe (r_b_f (decide_eq_false hzf)) (k M16 oww lmm hr16 (fun z => absurd z hzf))
              · have hzf : ¬ (mk6 T x s).2 = 0 := (numb_neg (by decide)).mp h7
                refine Ru_iconst (pc := 126) (nI 0) dX9_buildMaking_126 rfl ?_
                refine Ru_zret (pc := 127) dX9_buildMaking_127 rfl ⟨Nat.le_refl _, Nat.le_refl _⟩ (Or.inl rfl) ?_
                have oww : r_ow (inT u) M M11 := cw11.mn (fun o k z => by
                  have z2 := z
                  unfold pM at z2
                  unfold inT
                  omega)
                have lmm : X_lm u M11 := ow_lm hu (fun j hj => by
                  unfold pM
                  omega) cw11 bd
                have eS : prE T (mkS T x s) = (mk6 T x s) := mk_f6 hzf
                rw [eS] at k
                exact r_qe (r_b_f (decide_eq_false hzf)) (k M11 oww lmm hr11 (fun z => absurd z hzf))
            · replace h6 := of_decide_eq_false h6
              have hzf : ¬ (mk5 T x s).2 = 0 := h6
              refine Ru_iconst (pc := 102) (nI 0) dX9_buildMaking_102 rfl ?_
              refine Ru_zret (pc := 103) dX9_buildMaking_103 rfl ⟨Nat.le_refl _, Nat.le_refl _⟩ (Or.inl rfl) ?_
              have oww : r_ow (inT u) M M9 := cw9.mn (fun o k z => by
                have z2 := z
                unfold pM at z2
                unfold inT
                omega)
              have lmm : X_lm u M9 := ow_lm hu (fun j hj => by
                unfold pM
                omega) cw9 bd
              have eS : prE T (mkS T x s) = (mk5 T x s) := mk_f5 hzf
              rw [eS] at k
              exact r_qe (r_b_f (decide_eq_false hzf)) (k M9 oww lmm hr9 (fun z => absurd z hzf))
        · replace h4 := of_decide_eq_false h4
          have hzf : ¬ (mk3 T x s).2 = 0 := h4
          refine Ru_iconst (pc := 67) (nI 0) dX9_buildMaking_67 rfl ?_
          refine Ru_zret (pc := 68) dX9_buildMaking_68 rfl ⟨Nat.le_refl _, Nat.le_refl _⟩ (Or.inl rfl) ?_
          have oww : r_ow (inT u) M M6 := cw6.mn (fun o k z => by
            have z2 := z
            unfold pM at z2
            unfold inT
            omega)
          have lmm : X_lm u M6 := ow_lm hu (fun j hj => by
            unfold pM
            omega) cw6 bd
          have eS : prE T (mkS T x s) = (mk3 T x s) := mk_f3 hzf
          rw [eS] at k
          exact r_qe (r_b_f (decide_eq_false hzf)) (k M6 oww lmm hr6 (fun z => absurd z hzf))
    · replace h2 := of_decide_eq_false h2
      have hzf : ¬ (mk1 T x s).2 = 0 := h2
      refine Ru_iconst (pc := 30) (nI 0) dX9_buildMaking_30 rfl ?_
      refine Ru_zret (pc := 31) dX9_buildMaking_31 rfl ⟨Nat.le_refl _, Nat.le_refl _⟩ (Or.inl rfl) ?_
      have oww : r_ow (inT u) M M3 := cw3.mn (fun o k z => by
        have z2 := z
        unfold pM at z2
        unfold inT
        omega)
      have lmm : X_lm u M3 := ow_lm hu (fun j hj => by
        unfold pM
        omega) cw3 bd
      have eS : prE T (mkS T x s) = (mk1 T x s) := mk_f1 hzf
      rw [eS] at k
      exact r_qe (r_b_f (decide_eq_false hzf)) (k M3 oww lmm hr3 (fun z => absurd z hzf))
