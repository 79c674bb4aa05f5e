-- READING: a plan, the developers' side, whole
theorem c_X5_build {Q : Rq} {M : Mem} {T : Tx} {cnt u pl : Nat} {x : St9} (tw : Tw T) (ht3 : T.2 ≤ 300) (hu : isTown u) (hp : isPlan pl) (bw : X_bw u x M) (wf : Wf x.1) (hr : X_rd T cnt (0, 0) M) (k : ∀ M', r_ow (pB pl) M M' → X_rd T cnt (plR T x).2 M' → ((plR T x).2.2 = 0 → X_jb pl (plR T x).1 M' ∧ M'.1 pl 0 = nI 1) → Q (some (.int (r_b (decide ((plR T x).2.2 = 0))))) GX M') : Ca 5 mt_X5_build 0 0 [.ref pl, .ref 40, .ref u] GX M Q := by
  refine Ca_of rfl (Nat.le_of_ble_eq_true rfl) ?_
  have hT : u = 3 ∨ u = 83 ∨ u = 111 ∨ u = 139 ∨ u = 167 := hu
  have hP9 : pl = 26 ∨ pl = 35 ∨ pl = 106 ∨ pl = 134 ∨ pl = 162 ∨ pl = 190 := hp
  refine Ru_aload_n (pc := 0) dX5_build_0 rfl rfl ?_
  refine Ru_cv0 (pc := 1) dX5_build_1 mv_X5_32 (shPlan_0 hp) (by decide) (Nat.le_of_ble_eq_true rfl) (c_X5_clear hp ?_) 
  refine Ru_iconst (pc := 4) (nI 0) dX5_build_4 rfl ?_
  refine Ru_istore_n (pc := 5) dX5_build_5 rfl rfl (by decide) ?_
  have ow2 : r_ow (pB pl) M (r_sI (r_sI M pl 0 (nI 0)) pl 1 (nI 0)) := r_ow.sI (Or.inl ⟨rfl, Or.inr rfl⟩) (r_ow.sI (Or.inl ⟨rfl, Or.inl rfl⟩) (fun _ _ _ _ => ⟨rfl, rfl, rfl⟩))
  have hr2 : X_rd T cnt (0, 0) (r_sI (r_sI M pl 0 (nI 0)) pl 1 (nI 0)) := X_rd_eq (fun k => ⟨(r_sI_n (by omega)).trans (r_sI_n (by omega)), rfl, rfl⟩) (fun o k h1 h2 => ⟨(r_sI_n (by omega)).trans (r_sI_n (by omega)), rfl, rfl⟩) hr
  have npb : ∀ i k, i ≤ 18 → ¬ pB pl (u + i) k := fun i k hi => by
    unfold pB
    omega
  refine Ru_weak (l_X5_build (M0 := (r_sI (r_sI M pl 0 (nI 0)) pl 1 (nI 0))) (x := x) (R := (plR T x)) tw ht3 hu hp (X_bw_ow hu ow2 npb bw) wf (fun M3 fx3 hr3 hn => ?_) (fun M3 fx3 hz3 hr3 hn => ?_) 801 801 (0, fun _ => 0) (0, 0) (r_sI (r_sI M pl 0 (nI 0)) pl 1 (nI 0)) 0 rfl (Nat.le_refl _) ⟨Nat.le_refl _, by decide⟩ rfl ⟨r_sI_s, by decide, fun j hj => absurd hj (Nat.not_lt_zero _)⟩ (fun _ => Nat.zero_le _) hr2 rfl (fun _ _ _ _ => ⟨rfl, rfl, rfl⟩)) rfl
  · exact r_qe (r_b_f (decide_eq_false hn)) (k M3 (ow2.tr fx3) hr3 (fun q => absurd q hn))
  · refine Ru_aload_n (pc := 37) dX5_build_37 rfl rfl ?_
    refine Ru_iconst (pc := 38) (nI 1) dX5_build_38 rfl ?_
    refine Ru_putZ (pc := 39) rfl dX5_build_39 fl_X5_24 (shPlan_0 hp) (Or.inr rfl) ?_
    refine Ru_iconst (pc := 42) (nI 1) dX5_build_42 rfl ?_
    refine Ru_zret (pc := 43) dX5_build_43 rfl ⟨Nat.le_refl _, Nat.le_refl _⟩ (Or.inr rfl) ?_
    refine r_qe (r_b_t (decide_eq_true hn)) (k _ (r_ow.sI (Or.inl ⟨rfl, Or.inl rfl⟩) (ow2.tr fx3)) (X_rd_eq (fun k => ⟨r_sI_n (by omega), rfl, rfl⟩) (fun o k h1 h2 => ⟨r_sI_n (by omega), rfl, rfl⟩) hr3) (fun _ => ⟨⟨(r_sI_n (by omega)).trans hz3.1, hz3.2.1, fun j hj => ?_⟩, r_sI_s⟩))
    obtain ⟨q1, q2, q3, q4⟩ := hz3.2.2 j hj
    exact ⟨(r_sI_n (by omega)).trans q1, fun t => (r_sI_n (by omega)).trans (q2 t), (r_sI_n (by omega)).trans q3, (r_sI_n (by omega)).trans q4⟩
