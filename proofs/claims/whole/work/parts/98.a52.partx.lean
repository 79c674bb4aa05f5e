-- READING: a part, the developers' side
theorem sw_part : ∀ K, K < 156 → (¬ K = 128 ∧ ¬ K = 131 ∧ ¬ K = 137 ∧ ¬ K = 141) → Op.lookupswitch.offset (#[(128, 44), (131, 50), (137, 56), (141, 62)] : Array (Int × Int)).toList 68 ((K : Nat) : Int) = 68 := by decide +kernel
theorem tK_155 (T : Tx) (i : Nat) : tK T i < 156 := by
  have h : kK T (tA T i) = tK T i := rfl
  have := kK_b T (tA T i)
  omega
theorem r_ow_in {u : Nat} {M M' : Mem} (h : r_fx [(40, 6), (40, 7), (40, 8)] [] M M') : r_ow (inT u) M M' := r_ow.fx h

theorem c_X9_buildPart {Q : Rq} {M : Mem} {T : Tx} {cnt u : Nat} {s : Ps} {x : St9} (tw : Tw T) (hu : isTown u) (bd : X_bd u x M) (wf : Wf x.1) (hr : X_rd T cnt s M) (h0 : s.2 = 0) (k : ∀ M', r_ow (inT u) M M' → X_lm u M' → X_rd T cnt (prS T x s) M' → ((prS T x s).2 = 0 → X_bd u (prX T x s) M') → Q (some (.int (r_b (decide ((prS T x s).2 = 0))))) GX M') : Ca 4 mt_X9_buildPart 0 0 [.ref u, .ref 40] GX M Q := by
  refine Ca_of rfl (Nat.le_of_ble_eq_true rfl) ?_
  refine Ru_aload_n (pc := 0) dX9_buildPart_0 rfl rfl ?_
  refine Ru_cv0 (pc := 1) dX9_buildPart_1 mv_X9_80 rfl (by decide) (Nat.le_of_ble_eq_true rfl) (c_X8_kind (s := s) tw hr (by assumption) ?_) 
  have hsw : tK T s.1 = 128 ∨ tK T s.1 = 131 ∨ tK T s.1 = 137 ∨ tK T s.1 = 141 ∨ (¬ tK T s.1 = 128 ∧ ¬ tK T s.1 = 131 ∧ ¬ tK T s.1 = 137 ∧ ¬ tK T s.1 = 141) := by omega
  rcases hsw with hK | hK | hK | hK | hK
  · rw [hK]
    refine Ru_lookup (pc := 4) (off := 44) 48 dX9_buildPart_4 (by decide) rfl (by decide) ?_
    refine Ru_aload_n (pc := 48) dX9_buildPart_48 rfl rfl ?_
    refine Ru_aload_n (pc := 49) dX9_buildPart_49 rfl rfl ?_
    refine Ru_cv1 (pc := 50) dX9_buildPart_50 mv_X9_111 (shTown_0 hu) (by decide) (Nat.le_of_ble_eq_true rfl) (c_X9_buildThing tw hu bd wf hr h0 hK (fun M2 ow2 lm2 hr2 bd2 => ?_)) 
    refine Ru_zret (pc := 53) dX9_buildPart_53 rfl ⟨Nat.le_refl _, Nat.le_refl _⟩ (r_b_01 _) ?_
    have ep : paS T x s = thS T x s := by
      unfold paS
      rw [if_pos hK]
    have eX : prX T x s = thX T x s := by
      unfold prX
      rw [if_pos hK]
    have eS : prS T x s = prE T (thS T x s) := by
      rw [prS_e, ep]
      rfl
    rw [eS, eX] at k
    exact k M2 ow2 lm2 hr2 bd2
  · rw [hK]
    refine Ru_lookup (pc := 4) (off := 50) 54 dX9_buildPart_4 (by decide) rfl (by decide) ?_
    refine Ru_aload_n (pc := 54) dX9_buildPart_54 rfl rfl ?_
    refine Ru_aload_n (pc := 55) dX9_buildPart_55 rfl rfl ?_
    refine Ru_cv1 (pc := 56) dX9_buildPart_56 mv_X9_114 (shTown_0 hu) (by decide) (Nat.le_of_ble_eq_true rfl) (c_X9_buildMaking tw hu bd wf hr h0 hK (fun M2 ow2 lm2 hr2 bd2 => ?_)) 
    refine Ru_zret (pc := 59) dX9_buildPart_59 rfl ⟨Nat.le_refl _, Nat.le_refl _⟩ (r_b_01 _) ?_
    have ep : paS T x s = mkS T x s := by
      unfold paS
      rw [if_neg (by omega), if_pos hK]
    have eX : prX T x s = mkX T x s := by
      unfold prX
      rw [if_neg (by omega), if_pos hK]
    have eS : prS T x s = prE T (mkS T x s) := by
      rw [prS_e, ep]
      rfl
    rw [eS, eX] at k
    exact k M2 ow2 lm2 hr2 bd2
  · rw [hK]
    refine Ru_lookup (pc := 4) (off := 56) 60 dX9_buildPart_4 (by decide) rfl (by decide) ?_
    refine Ru_aload_n (pc := 60) dX9_buildPart_60 rfl rfl ?_
    refine Ru_aload_n (pc := 61) dX9_buildPart_61 rfl rfl ?_
    refine Ru_cv1 (pc := 62) dX9_buildPart_62 mv_X9_117 (shTown_0 hu) (by decide) (Nat.le_of_ble_eq_true rfl) (c_X9_buildPerson tw hu bd wf hr h0 hK (fun M2 ow2 lm2 hr2 bd2 => ?_)) 
    refine Ru_zret (pc := 65) dX9_buildPart_65 rfl ⟨Nat.le_refl _, Nat.le_refl _⟩ (r_b_01 _) ?_
    have ep : paS T x s = peS T x s := by
      unfold paS
      rw [if_neg (by omega), if_neg (by omega), if_pos hK]
    have eX : prX T x s = peX T x s := by
      unfold prX
      rw [if_neg (by omega), if_neg (by omega), if_pos hK]
    have eS : prS T x s = prE T (peS T x s) := by
      rw [prS_e, ep]
      rfl
    rw [eS, eX] at k
    exact k M2 ow2 lm2 hr2 bd2
  · rw [hK]
    refine Ru_lookup (pc := 4) (off := 62) 66 dX9_buildPart_4 (by decide) rfl (by decide) ?_
    refine Ru_aload_n (pc := 66) dX9_buildPart_66 rfl rfl ?_
    refine Ru_aload_n (pc := 67) dX9_buildPart_67 rfl rfl ?_
    refine Ru_cv1 (pc := 68) dX9_buildPart_68 mv_X9_120 (shTown_0 hu) (by decide) (Nat.le_of_ble_eq_true rfl) (c_X9_buildWant tw hu bd wf hr h0 hK (fun M2 ow2 lm2 hr2 bd2 => ?_)) 
    refine Ru_zret (pc := 71) dX9_buildPart_71 rfl ⟨Nat.le_refl _, Nat.le_refl _⟩ (r_b_01 _) ?_
    have ep : paS T x s = waS T x s := by
      unfold paS
      rw [if_neg (by omega), if_neg (by omega), if_neg (by omega), if_pos hK]
    have eX : prX T x s = waX T x s := by
      unfold prX
      rw [if_neg (by omega), if_neg (by omega), if_neg (by omega)]
    have eS : prS T x s = prE T (waS T x s) := by
      rw [prS_e, ep]
      rfl
    rw [eS, eX] at k
    exact k M2 ow2 lm2 hr2 bd2
  · refine Ru_lookup (pc := 4) (off := 68) 72 dX9_buildPart_4 (by decide) (by rw [r_tn (Nat.lt_trans (tK_155 T s.1) (by decide))]; exact sw_part _ (tK_155 T s.1) hK) (by decide) ?_
    refine Ru_aload_n (pc := 72) dX9_buildPart_72 rfl rfl ?_
    refine Ru_iconst (pc := 73) (nI 2) dX9_buildPart_73 rfl ?_
    refine Ru_cv1 (pc := 74) dX9_buildPart_74 mv_X9_123 rfl (by decide) (Nat.le_of_ble_eq_true rfl) (c_X8_refuse (s := s) (f := 2) tw hr (by assumption) (by decide) (fun M2 gx2 hr2 => ?_)) 
    refine Ru_zret (pc := 77) dX9_buildPart_77 rfl ⟨Nat.le_refl _, Nat.le_refl _⟩ (Or.inl rfl) ?_
    have ep : paS T x s = sRf T 2 s := by
      unfold paS
      rw [if_neg hK.1, if_neg hK.2.1, if_neg hK.2.2.1, if_neg hK.2.2.2, sRf_w h0]
    have hn : ¬ (sRf T 2 s).2 = 0 := sRf_n (by decide)
    have eS : prS T x s = sRf T 2 s := by
      rw [prS_e, ep]
      exact sMust_f hn
    rw [eS] at k
    exact r_qe (r_b_f (decide_eq_false hn)) (k M2 (r_ow.fx (gx2.mono rfl)) (X_bd_kt (r_kt_40 hu (gx2.mono rfl)) bd).1 hr2 (fun z => absurd z hn))
