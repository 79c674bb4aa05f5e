-- READING: a town, the developers' side, whole
theorem l_X9_build {Q : Rq} {M0 : Mem} {T : Tx} {cnt u : Nat} {R : St9 × Ps} (tw : Tw T) (hu : isTown u) (kF : ∀ M', r_ow (inT u) M0 M' → X_lm u M' → X_rd T cnt R.2 M' → (¬ R.2.2 = 0) → Q (some (.int (nI 0))) GX M') (kT : ∀ M', r_ow (inT u) M0 M' → X_bd u R.1 M' → Wf R.1.1 → X_rd T cnt R.2 M' → R.2.2 = 0 → Ru 5 mt_X9_build r_z 36 [(0, some (.ref u))] [] GX M' Q) : ∀ (zw : Nat) (f : Nat) (x : St9) (s : Ps) (M : Mem) (i : Nat), f = zw → (801 ≤ f + s.1) → (i ≤ s.1 ∧ i ≤ 800) → (s.2 = 0) → (X_bd u x M) → (Wf x.1) → (X_rd T cnt s M) → (twP T f x s = R) → (r_ow (inT u) M0 M) → Ru 5 mt_X9_build r_z 6 [(0, some (.ref u)), (1, some (.ref 40)), (2, some (.int (nI i)))] [] GX M Q := by
  intro zw
  induction zw using Nat.strongRecOn with
  | ind zw ih =>
    intro f x s M i hw hf9 hi9 h0 bd wf hr hR fx
    subst hw
    have hT : u = 3 ∨ u = 83 ∨ u = 111 ∨ u = 139 ∨ u = 167 := hu
    refine Ru_iload_n (pc := 6) dX9_build_6 rfl rfl ?_
    refine Ru_sipush (pc := 7) (nI 800) dX9_build_7 rfl ?_
    refine Ru_icmp_geN (pc := 10) 36 dX9_build_10 (by decide) (by omega) (fun h1 => ?_) (fun h1 => ?_)
    · have hK0 : tK T s.1 = 0 := by
        first | assumption | exact Classical.byContradiction (fun z => by have := (tK_i tw z).1; omega)
      have eR := (twP_end hK0 f).symm.trans hR
      subst eR
      exact Ru_weak (kT M fx bd wf hr h0) rfl
    · refine Ru_aload_n (pc := 13) dX9_build_13 rfl rfl ?_
      refine Ru_cv0 (pc := 14) dX9_build_14 mv_X9_80 rfl (by decide) (Nat.le_of_ble_eq_true rfl) (c_X8_kind (s := s) tw hr (by assumption) ?_) 
      refine Ru_if_eqN (pc := 17) 36 dX9_build_17 (by decide) (tK_rg _ _) (fun h2 => ?_) (fun h2 => ?_)
      · have hK0 : tK T s.1 = 0 := by
          first | assumption | exact Classical.byContradiction (fun z => by have := (tK_i tw z).1; omega)
        have eR := (twP_end hK0 f).symm.trans hR
        subst eR
        exact Ru_weak (kT M fx bd wf hr h0) rfl
      · have hK9 : ¬ tK T s.1 = 0 := h2
        obtain ⟨f', rfl⟩ : ∃ f', f = f' + 1 := ⟨f - 1, by have := (tK_i tw hK9).1; omega⟩
        refine Ru_aload_n (pc := 20) dX9_build_20 rfl rfl ?_
        refine Ru_aload_n (pc := 21) dX9_build_21 rfl rfl ?_
        refine Ru_cv1 (pc := 22) dX9_build_22 mv_X9_86 (shTown_0 hu) (by decide) (Nat.le_of_ble_eq_true rfl) (c_X9_buildPart tw hu bd wf hr h0 (fun M2 ow2 lm2 hr2 bd2 => ?_)) 
        refine Ru_if_neB (pc := 25) 30 dX9_build_25 (by decide) (fun h3 => ?_) (fun h3 => ?_)
        · replace h3 := of_decide_eq_true h3
          have hz : (prS T x s).2 = 0 := h3
          refine Ru_iincN (pc := 30) 1 dX9_build_30 rfl rfl rfl (by decide) ?_
          refine Ru_goto (pc := 33) 6 dX9_build_33 (by decide) ?_
          have ha := prS_adv hz
          refine Ru_weak (ih f' (by omega) f' (prX T x s) (prS T x s) M2 (i + 1) rfl (by omega) ⟨by omega, by omega⟩ hz (bd2 hz) (prX_wf wf h0 hz) hr2 ?_ (fx.tr ow2)) rfl
          rw [← hR, twP, if_neg hK9, if_neg (fun z => z hz)]
        · replace h3 := of_decide_eq_false h3
          have hzf := h3
          refine Ru_iconst (pc := 28) (nI 0) dX9_build_28 rfl ?_
          refine Ru_zret (pc := 29) dX9_build_29 rfl ⟨Nat.le_refl _, Nat.le_refl _⟩ (Or.inl rfl) ?_
          have hn : ¬ (prS T x s).2 = 0 := hzf
          have eR : (x, prS T x s) = R := by
            rw [← hR, twP, if_neg hK9, if_pos hn]
          subst eR
          exact kF M2 (fx.tr ow2) lm2 hr2 hn

theorem c_X9_build {Q : Rq} {M : Mem} {T : Tx} {cnt u lw pl : Nat} (tw : Tw T) (hu : isTown u) (hl : isLaw lw) (hp : isPlan pl) (hlw : M.2.2 u 19 = some lw) (hpl : M.2.2 u 20 = some pl) (hlm : X_lm u M) (hr : X_rd T cnt (0, 0) M) (k : ∀ M', r_ow (bP u lw pl) M M' → X_lm u M' → X_rd T cnt (twR T).2 M' → M'.1 lw 0 = nI 0 → M'.1 pl 0 = nI 0 → M'.1 pl 1 = nI 0 → ((twR T).2.2 = 0 → X_tm u (twR T).1.1 M' ∧ X_bw u (twR T).1 M') → Q (some (.int (r_b (decide ((twR T).2.2 = 0))))) GX M') : Ca 5 mt_X9_build 0 0 [.ref u, .ref 40] GX M Q := by
  refine Ca_of rfl (Nat.le_of_ble_eq_true rfl) ?_
  have hT : u = 3 ∨ u = 83 ∨ u = 111 ∨ u = 139 ∨ u = 167 := hu
  have hL : lw = 22 ∨ lw = 31 ∨ lw = 102 ∨ lw = 130 ∨ lw = 158 ∨ lw = 186 := hl
  have hP : pl = 26 ∨ pl = 35 ∨ pl = 106 ∨ pl = 134 ∨ pl = 162 ∨ pl = 190 := hp
  have n17 : ¬ lw = u + 17 ∧ ¬ pl = u + 17 := by omega
  have n18 : ¬ lw = u + 18 ∧ ¬ pl = u + 18 := by omega
  have nl4 : ¬ (lw = 40 ∧ 6 ≤ 0 ∧ 0 ≤ 8) := by omega
  have np4 : ¬ (pl = 40 ∧ 6 ≤ 0 ∧ 0 ≤ 8) := by omega
  have np5 : ¬ (pl = 40 ∧ 6 ≤ 1 ∧ 1 ≤ 8) := by omega
  have nlu : ¬ inT u lw 0 := by
    unfold inT
    omega
  have npu : ¬ inT u pl 0 := by
    unfold inT
    omega
  have npv : ¬ inT u pl 1 := by
    unfold inT
    omega
  refine Ru_aload_n (pc := 0) dX9_build_0 rfl rfl ?_
  refine Ru_cv0 (pc := 1) dX9_build_1 mv_X9_77 (shTown_0 hu) (by decide) (Nat.le_of_ble_eq_true rfl) (c_X9_clear hu hl hp hlw hpl hlm (fun M2 ow2 bd2 hl0 hp0 hp1 => ?_)) 
  have hr2 : X_rd T cnt (0, 0) M2 := X_rd_eq (fun k => ow2 40 k (by unfold bP inT; omega)) (fun o k h1 h2 => ow2 o k (by unfold bP inT; omega)) hr
  clear hL hP
  refine Ru_iconst (pc := 4) (nI 0) dX9_build_4 rfl ?_
  refine Ru_istore_n (pc := 5) dX9_build_5 rfl rfl (by decide) ?_
  refine Ru_weak (l_X9_build (M0 := M2) (R := twR T) tw hu (fun M3 fx3 lm3 hr3 hn => ?_) (fun M3 fx3 bd3 wf3 hr3 hn => ?_) 801 801 x09 (0, 0) M2 0 rfl (Nat.le_refl _) ⟨Nat.le_refl _, by decide⟩ rfl bd2 x09_wf hr2 rfl (fun _ _ _ _ => ⟨rfl, rfl, rfl⟩)) rfl
  · have ow3 : r_ow (bP u lw pl) M M3 := fun o k h1 h2 => e3t (ow2 o k h2) (fx3 o k h1 (fun z => h2 (Or.inl z)))
    exact r_qe (r_b_f (decide_eq_false hn)) (k M3 ow3 lm3 hr3 ((fx3 lw 0 nl4 nlu).1.trans hl0) ((fx3 pl 0 np4 npu).1.trans hp0) ((fx3 pl 1 np5 npv).1.trans hp1) (fun z => absurd z hn))
  · refine Ru_aload_n (pc := 36) dX9_build_36 rfl rfl ?_
    refine Ru_cv0 (pc := 37) dX9_build_37 mv_X9_90 (shTown_0 hu) (by decide) (Nat.le_of_ble_eq_true rfl) (c_X9_orderWants hu bd3.2.2 wf3 (fun M4 fx4 g18 g17 => ?_)) 
    refine Ru_iconst (pc := 40) (nI 1) dX9_build_40 rfl ?_
    refine Ru_zret (pc := 41) dX9_build_41 rfl ⟨Nat.le_refl _, Nat.le_refl _⟩ (Or.inr rfl) ?_
    have bd4 := X_bd_or fx4 bd3
    have tm4 := X_bd_tm bd4 wf3 g18 g17 (ordH_all wf3)
    have hr4 : X_rd T cnt (twR T).2 M4 := X_rd_eq (fun k => fx4 40 k (by omega) (by omega)) (fun o k h1 h2 => fx4 o k (by omega) (by omega)) hr3
    have ow4 : r_ow (bP u lw pl) M M4 := fun o k h1 h2 => e3t (e3t (ow2 o k h2) (fx3 o k h1 (fun z => h2 (Or.inl z)))) (fx4 o k (fun z => h2 (Or.inl ⟨by omega, by omega, by omega⟩)) (fun z => h2 (Or.inl ⟨by omega, by omega, by omega⟩)))
    exact r_qe (r_b_t (decide_eq_true hn)) (k M4 ow4 bd4.1 hr4 ((fx4 lw 0 n17.1 n18.1).1.trans ((fx3 lw 0 nl4 nlu).1.trans hl0)) ((fx4 pl 0 n17.2 n18.2).1.trans ((fx3 pl 0 np4 npu).1.trans hp0)) ((fx4 pl 1 n17.2 n18.2).1.trans ((fx3 pl 1 np5 npv).1.trans hp1)) (fun _ => ⟨tm4, bd4.2.1⟩))
