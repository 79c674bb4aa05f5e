-- READING: a plan, the developers' side
/-- the cells of a plan object that are told anew -/
def pB (pl o k : Nat) : Prop := (o = pl ∧ (k = 0 ∨ k = 1)) ∨ (pl + 1 ≤ o ∧ o ≤ pl + 4)
theorem jb_k4 {T : Tx} {x : St9} {z : Pl9} {s : Ps} (h : ∀ j, z.2 (5 * j) ≤ 4) : ∀ j, (jbX T x z s).2 (5 * j) ≤ 4 := fun j => by
  unfold jbX
  dsimp only
  split
  · exact kO_le _
  · rw [if_neg (by omega), if_neg (by omega), if_neg (by omega)]
    exact h j
theorem jo_adv {T : Tx} {x : St9} {z : Pl9} {s : Ps} (h0 : s.2 = 0) (h : (joS T x z s).2 = 0) : s.1 + 1 ≤ (joS T x z s).1 := by
  have hb : (jb0 T z s).2 = 0 := Classical.byContradiction (fun y => by rw [jo_f0 y] at h; exact y h)
  have hb1 : (jb0 T z s).1 = s.1 := by
    unfold jb0
    split
    · rfl
    · split
      · exact sWrong_1e T s
      · split
        · exact sFail_1e 5 s
        · split
          · exact sFail_1e 6 s
          · rfl
  have h1 := (sMust_ok h)
  have h2 : (joS T x z s).1 = (jbS T x z s).1 + 1 := congrArg Prod.fst h1.2.2
  have h3 : s.1 ≤ (jbS T x z s).1 := by
    have e1 : s.1 ≤ (sNext (jb0 T z s)).1 := by
      have := sNext_1 (jb0 T z s)
      omega
    unfold jbS
    split
    · unfold ma4
      have a1 : s.1 ≤ (ma1 T z s).1 := Nat.le_trans e1 (sCount_1 _ _ _ _)
      have a2 : s.1 ≤ (ma2 T x z s).1 := by
        refine Nat.le_trans ?_ (sNext_1 _)
        rw [sOld_1]
        exact a1
      have a3 : s.1 ≤ (ma3 T x z s).1 := Nat.le_trans a2 (sMust_1 _ _ _)
      split
      · exact Nat.le_trans a3 (sRw_1 _ _ _)
      · exact a3
    · unfold ke1
      refine Nat.le_trans ?_ (sNext_1 _)
      rw [sOld_1]
      exact e1
  omega

theorem l_X5_build {Q : Rq} {M0 : Mem} {T : Tx} {cnt u pl : Nat} {x : St9} {R : Pl9 × Ps} (tw : Tw T) (ht3 : T.2 ≤ 300) (hu : isTown u) (hp : isPlan pl) (bw0 : X_bw u x M0) (wf : Wf x.1) (kF : ∀ M', r_ow (pB pl) M0 M' → X_rd T cnt R.2 M' → (¬ R.2.2 = 0) → Q (some (.int (nI 0))) GX M') (kT : ∀ M', r_ow (pB pl) M0 M' → X_jb pl R.1 M' → X_rd T cnt R.2 M' → R.2.2 = 0 → Ru 5 mt_X5_build r_z 37 [(0, some (.ref pl))] [] GX M' Q) : ∀ (zw : Nat) (f : Nat) (z : Pl9) (s : Ps) (M : Mem) (i : Nat), f = zw → (801 ≤ f + s.1) → (i ≤ s.1 ∧ i ≤ 300) → (s.2 = 0) → (X_jb pl z M) → (∀ j, z.2 (5 * j) ≤ 4) → (X_rd T cnt s M) → (plP T x f z s = R) → (r_ow (pB pl) M0 M) → Ru 5 mt_X5_build r_z 6 [(0, some (.ref pl)), (1, some (.ref 40)), (2, some (.ref u)), (3, some (.int (nI i)))] [] GX M Q := by
  intro zw
  induction zw using Nat.strongRecOn with
  | ind zw ih =>
    intro f z s M i hw hf9 hi9 h0 hz hz4 hr hR fx
    subst hw
    have hT : u = 3 ∨ u = 83 ∨ u = 111 ∨ u = 139 ∨ u = 167 := hu
    have hP9 : pl = 26 ∨ pl = 35 ∨ pl = 106 ∨ pl = 134 ∨ pl = 162 ∨ pl = 190 := hp
    have npb : ∀ i k, i ≤ 18 → ¬ pB pl (u + i) k := fun i k hi => by
      unfold pB
      omega
    have bw : X_bw u x M := X_bw_ow hu fx npb bw0
    clear hT hP9
    refine Ru_iload_n (pc := 6) dX5_build_6 rfl rfl ?_
    refine Ru_sipush (pc := 7) (nI 300) dX5_build_7 rfl ?_
    refine Ru_icmp_geN (pc := 10) 37 dX5_build_10 (by decide) (by omega) (fun h1 => ?_) (fun h1 => ?_)
    · have hK0 : tK T s.1 = 0 := by
        first | assumption | exact Classical.byContradiction (fun q => by have := tK_i tw q; omega)
      have eR := (plP_end (x := x) (z := z) hK0 f).symm.trans hR
      subst eR
      exact Ru_weak (kT M fx hz hr h0) rfl
    · refine Ru_aload_n (pc := 13) dX5_build_13 rfl rfl ?_
      refine Ru_cv0 (pc := 14) dX5_build_14 mv_X5_35 rfl (by decide) (Nat.le_of_ble_eq_true rfl) (c_X8_kind (s := s) tw hr h0 ?_) 
      refine Ru_if_eqN (pc := 17) 37 dX5_build_17 (by decide) (tK_rg _ _) (fun h2 => ?_) (fun h2 => ?_)
      · have hK0 : tK T s.1 = 0 := by
          first | assumption | exact Classical.byContradiction (fun q => by have := tK_i tw q; omega)
        have eR := (plP_end (x := x) (z := z) hK0 f).symm.trans hR
        subst eR
        exact Ru_weak (kT M fx hz hr h0) rfl
      · have hK9 : ¬ tK T s.1 = 0 := h2
        obtain ⟨f', rfl⟩ : ∃ f', f = f' + 1 := ⟨f - 1, by have := (tK_i tw hK9).1; omega⟩
        refine Ru_aload_n (pc := 20) dX5_build_20 rfl rfl ?_
        refine Ru_aload_n (pc := 21) dX5_build_21 rfl rfl ?_
        refine Ru_aload_n (pc := 22) dX5_build_22 rfl rfl ?_
        refine Ru_cv2 (pc := 23) dX5_build_23 mv_X5_40 (shPlan_0 hp) (by decide) (Nat.le_of_ble_eq_true rfl) (c_X5_buildJob (x := x) (z := z) tw hu hp bw wf hz hz4 hr h0 (fun M2 ow2 hr2 bd2 => ?_)) 
        refine Ru_if_neB (pc := 26) 31 dX5_build_26 (by decide) (fun h3 => ?_) (fun h3 => ?_)
        · replace h3 := of_decide_eq_true h3
          have hzz : (joS T x z s).2 = 0 := h3
          refine Ru_iincN (pc := 31) 1 dX5_build_31 rfl rfl rfl (by decide) ?_
          refine Ru_goto (pc := 34) 6 dX5_build_34 (by decide) ?_
          have ha := jo_adv h0 hzz
          refine Ru_weak (ih f' (by omega) f' (jbX T x z s) (joS T x z s) M2 (i + 1) rfl (by omega) ⟨by omega, by omega⟩ hzz (bd2 hzz) (jb_k4 hz4) hr2 ?_ (fx.tr (ow2.mn (fun o k q => by
            unfold pJ at q
            unfold pB
            omega)))) rfl
          rw [← hR, plP, if_neg hK9, if_neg (fun q => q hzz)]
        · replace h3 := of_decide_eq_false h3
          have hzf : ¬ (joS T x z s).2 = 0 := h3
          refine Ru_iconst (pc := 29) (nI 0) dX5_build_29 rfl ?_
          refine Ru_zret (pc := 30) dX5_build_30 rfl ⟨Nat.le_refl _, Nat.le_refl _⟩ (Or.inl rfl) ?_
          have eR : (z, joS T x z s) = R := by
            rw [← hR, plP, if_neg hK9, if_pos hzf]
          subst eR
          exact kF M2 (fx.tr (ow2.mn (fun o k q => by
            unfold pJ at q
            unfold pB
            omega))) hr2 hzf
