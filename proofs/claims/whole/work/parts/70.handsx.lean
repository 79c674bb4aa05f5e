-- HANDS: the developers' own
theorem hNb_of {d : Td} {x : Nat → Nat} {t m : Nat} (h : sFirst d x t = m + 1) : hNb d x t = sNd d m := by
  unfold hNb
  rw [h, if_neg (by omega), Nat.add_sub_cancel]
theorem hNb_no {d : Td} {x : Nat → Nat} {t : Nat} (h : sFirst d x t = 0) : hNb d x t = 0 := by
  unfold hNb
  rw [if_pos h]
theorem hT_in {d : Td} {x : Nat → Nat} {C t m : Nat} {w : Nat → Nat} (hC : C.testBit t = true) (h : sFirst d x t = m + 1) : hT d x C w t = w m := by
  have e : hBy d x C t = m + 1 := by
    unfold hBy
    rw [if_pos hC, h]
  unfold hT
  rw [e, if_neg (by omega), Nat.add_sub_cancel]
theorem hT_out {d : Td} {x : Nat → Nat} {C t : Nat} {w : Nat → Nat} (hC : C.testBit t = false) : hT d x C w t = 0 := by
  have e : hBy d x C t = 0 := by
    unfold hBy
    rw [hC]
    rfl
  unfold hT
  rw [if_pos e]
theorem hT_le {d : Td} {x : Nat → Nat} {C B : Nat} {w : Nat → Nat} (hw : ∀ m, m < d 1 → w m ≤ B) (t : Nat) : hT d x C w t ≤ B := by
  unfold hT
  split
  · exact Nat.zero_le _
  · rename_i h
    exact hw _ (hBy_ok (d := d) (x := x) (C := C) (t := t) (m := hBy d x C t - 1) (by omega)).1
theorem hW_le {d : Td} (wf : Wf d) (m : Nat) (hm : m < d 1) : hW d m ≤ 72 := by
  have h5 := wf.2.2.2.2.1 m hm
  exact Nat.mul_le_mul (show d (41 + m) ≤ 24 by omega) (show d (53 + m) ≤ 3 by omega)

theorem l_X7_allNeeded1 {Q : Rq} {M : Mem} {t : Nat} {d : Td} {s r a : Nat} {x : Nat → Nat} (ht : isTown t) (hx : X_tm t d M) (wf : Wf d) (htw : M.2.2 53 1 = some t) (hs : ∀ k, k < 8 → M.1 54 k = nI (x k)) (hle : ∀ k, x k ≤ 1000000) (ha : a < 2 ^ d 0) (k : Ru 3 mt_X7_allNeeded r_z 81 [(2, some (.int (nI (aRow (hNb d x) (d 0) a)))), (3, some (.int (nI r))), (0, some (.ref 53)), (1, some (.int (nI s)))] [] GX M Q) : ∀ (w : Nat) (p : Nat), d 0 - p = w → (p ≤ d 0) → Ru 3 mt_X7_allNeeded r_z 21 [(2, some (.int (nI (aRow (hNb d x) p a)))), (4, some (.int (nI p))), (3, some (.int (nI r))), (0, some (.ref 53)), (1, some (.int (nI s)))] [] GX M Q := by
  intro w
  induction w using Nat.strongRecOn with
  | ind w ih =>
    intro p hw hn
    subst hw
    have hb := wf.1
    have hp := pw_le hb.1
    have hla := aRow_lt (hNb_lt wf (x := x)) ha p
    have hzl := sFm_le (d := d) (x := x) (t := p) (d 1) 0
    have hzf : (nM (sFirst d x p)).toInt = (sFirst d x p : Int) - 1 := nM_t (by unfold sFirst; omega)
    have em : (-1 : Int32).toInt = -1 := rfl
    refine Ru_iload (pc := 21) dX7_allNeeded_21 rfl ?_
    refine Ru_aload_n (pc := 23) dX7_allNeeded_23 rfl rfl ?_
    refine Ru_getR (pc := 24) t dX7_allNeeded_24 fl_X7_15 rfl rfl ((rfX_mut rfl rfl).trans htw) ?_
    refine Ru_getR (pc := 27) (t + 1) dX7_allNeeded_27 fl_X7_20 (shTown_0 ht) rfl (rfX_of (o := t) (j := 1) (shTown_0 ht) rfl) ?_
    refine Ru_getI (pc := 30) dX7_allNeeded_30 fl_X7_26 (shNames_0 (isNames_t ht).1) rfl ?_
    refine Ru_top hx.1.1 ?_
    refine Ru_icmp_geN (pc := 33) 81 dX7_allNeeded_33 (by decide) (by omega) (fun h1 => ?_) (fun h1 => ?_)
    · have ep : p = d 0 := by omega
      subst ep
      exact Ru_weak k rfl
    · refine Ru_iload_n (pc := 36) dX7_allNeeded_36 rfl rfl ?_
      refine Ru_iload (pc := 37) dX7_allNeeded_37 rfl ?_
      refine Ru_ishrN (pc := 39) dX7_allNeeded_39 (by omega) ?_
      refine Ru_iconst (pc := 40) (nI 1) dX7_allNeeded_40 rfl ?_
      refine Ru_iandN (pc := 41) dX7_allNeeded_41 ?_
      refine Ru_if_eqN (pc := 42) 54 dX7_allNeeded_42 (by decide) (Nat.lt_of_le_of_lt Nat.and_le_right (by decide)) (fun h2 => ?_) (fun h2 => ?_)
      · have h2b := r_b1_f h2
        refine Ru_iconst (pc := 54) (-1) dX7_allNeeded_54 rfl ?_
        refine Ru_istore (pc := 55) dX7_allNeeded_55 rfl (by decide) ?_
        refine Ru_iload (pc := 57) dX7_allNeeded_57 rfl ?_
        refine Ru_iconst (pc := 59) (-1) dX7_allNeeded_59 rfl ?_
        refine Ru_icmp_eqT (pc := 60) 75 dX7_allNeeded_60 (by decide) (fun h3 => ?_) (fun h3 => ?_)
        · refine Ru_iincN (pc := 75) 1 dX7_allNeeded_75 rfl rfl rfl (by decide) ?_
          refine Ru_goto (pc := 78) 21 dX7_allNeeded_78 (by decide) ?_
          have e : aRow (hNb d x) (p + 1) a = (aRow (hNb d x) p a) := by
            rw [aRow, if_neg (by simp_all)]
          have hr := ih (d 0 - (p + 1)) (by omega) (p + 1) rfl (by omega)
          rw [e] at hr
          exact Ru_weak hr rfl
        · exact absurd rfl h3
      · have h2b := r_b1_t h2
        refine Ru_aload_n (pc := 45) dX7_allNeeded_45 rfl rfl ?_
        refine Ru_iload (pc := 46) dX7_allNeeded_46 rfl ?_
        refine Ru_cv1 (pc := 48) dX7_allNeeded_48 mv_X7_60 rfl (by decide) (Nat.le_of_ble_eq_true rfl) (c_X7_firstMaking (x := x) ht hx wf htw (by omega) hs hle ?_) 
        refine Ru_goto (pc := 51) 55 dX7_allNeeded_51 (by decide) ?_
        refine Ru_istore (pc := 55) dX7_allNeeded_55 rfl (by decide) ?_
        refine Ru_iload (pc := 57) dX7_allNeeded_57 rfl ?_
        refine Ru_iconst (pc := 59) (-1) dX7_allNeeded_59 rfl ?_
        refine Ru_icmp_eqT (pc := 60) 75 dX7_allNeeded_60 (by decide) (fun h4 => ?_) (fun h4 => ?_)
        · refine Ru_iincN (pc := 75) 1 dX7_allNeeded_75 rfl rfl rfl (by decide) ?_
          refine Ru_goto (pc := 78) 21 dX7_allNeeded_78 (by decide) ?_
          have e : aRow (hNb d x) (p + 1) a = (aRow (hNb d x) p a) := by
            rw [aRow, if_pos (by assumption), hNb_no (by omega), Nat.or_zero]
          have hr := ih (d 0 - (p + 1)) (by omega) (p + 1) rfl (by omega)
          rw [e] at hr
          exact Ru_weak hr rfl
        · obtain ⟨m, qz_em⟩ : ∃ m, sFirst d x p = m + 1 := ⟨sFirst d x p - 1, by omega⟩
          rw [qz_em]
          refine Ru_weak (L' := [(2, some (.int (nI (aRow (hNb d x) p a)))), (4, some (.int (nI p))), (3, some (.int (nI r))), (0, some (.ref 53)), (1, some (.int (nI s))), (5, some (.int (nI m)))]) ?_ rfl
          have hmm := sFirst_ok qz_em
          have hm5 := wf.2.2.2.2.1 m hmm.1
          refine Ru_iload_n (pc := 63) dX7_allNeeded_63 rfl rfl ?_
          refine Ru_aload_n (pc := 64) dX7_allNeeded_64 rfl rfl ?_
          refine Ru_getR (pc := 65) t dX7_allNeeded_65 fl_X7_15 rfl rfl ((rfX_mut rfl rfl).trans htw) ?_
          refine Ru_iload (pc := 68) dX7_allNeeded_68 rfl ?_
          refine Ru_cv1 (pc := 70) dX7_allNeeded_70 mv_X7_48 (shTown_0 ht) (by decide) (Nat.le_of_ble_eq_true rfl) (c_X9_needsS ht hx wf (by omega) ?_) 
          refine Ru_iorN (pc := 73) dX7_allNeeded_73 ?_
          refine Ru_istore_n (pc := 74) dX7_allNeeded_74 rfl rfl (by decide) ?_
          refine Ru_iincN (pc := 75) 1 dX7_allNeeded_75 rfl rfl rfl (by decide) ?_
          refine Ru_goto (pc := 78) 21 dX7_allNeeded_78 (by decide) ?_
          have e : aRow (hNb d x) (p + 1) a = ((aRow (hNb d x) p a) ||| (sNd d m)) := by
            rw [aRow, if_pos (by assumption), hNb_of qz_em]
          have hr := ih (d 0 - (p + 1)) (by omega) (p + 1) rfl (by omega)
          rw [e] at hr
          exact Ru_weak hr rfl

theorem l_X7_allNeeded2 {Q : Rq} {M : Mem} {t : Nat} {d : Td} {s : Nat} {x : Nat → Nat} (ht : isTown t) (hx : X_tm t d M) (wf : Wf d) (htw : M.2.2 53 1 = some t) (hs : ∀ k, k < 8 → M.1 54 k = nI (x k)) (hle : ∀ k, x k ≤ 1000000) (hss : s < 2 ^ d 0) (k : Q (some (.int (nI (hAll d x s)))) GX M)  : ∀ (w : Nat) (r : Nat), d 0 - r = w → (r ≤ d 0) → Ru 3 mt_X7_allNeeded r_z 4 [(2, some (.int (nI (aRnd (hNb d x) (d 0) r s)))), (3, some (.int (nI r))), (0, some (.ref 53)), (1, some (.int (nI s)))] [] GX M Q := by
  intro w
  induction w using Nat.strongRecOn with
  | ind w ih =>
    intro r hw hn
    subst hw
    have hb := wf.1
    refine Ru_iload_n (pc := 4) dX7_allNeeded_4 rfl rfl ?_
    refine Ru_aload_n (pc := 5) dX7_allNeeded_5 rfl rfl ?_
    refine Ru_getR (pc := 6) t dX7_allNeeded_6 fl_X7_15 rfl rfl ((rfX_mut rfl rfl).trans htw) ?_
    refine Ru_getR (pc := 9) (t + 1) dX7_allNeeded_9 fl_X7_20 (shTown_0 ht) rfl (rfX_of (o := t) (j := 1) (shTown_0 ht) rfl) ?_
    refine Ru_getI (pc := 12) dX7_allNeeded_12 fl_X7_26 (shNames_0 (isNames_t ht).1) rfl ?_
    refine Ru_top hx.1.1 ?_
    refine Ru_icmp_geN (pc := 15) 87 dX7_allNeeded_15 (by decide) (by omega) (fun h1 => ?_) (fun h1 => ?_)
    · refine Ru_iload_n (pc := 87) dX7_allNeeded_87 rfl rfl ?_
      refine Ru_iret (pc := 88) dX7_allNeeded_88 rfl ⟨Nat.le_refl _, Nat.le_refl _⟩ ?_
      have er : r = d 0 := by omega
      subst er
      exact k
    · refine Ru_iconst (pc := 18) (nI 0) dX7_allNeeded_18 rfl ?_
      refine Ru_istore (pc := 19) dX7_allNeeded_19 rfl (by decide) ?_
      refine Ru_weak (l_X7_allNeeded1 (a := (aRnd (hNb d x) (d 0) r s)) ht hx wf htw hs hle (aRnd_lt (hNb_lt wf (x := x)) hss r) ?_ (d 0) 0 rfl (Nat.zero_le _)) rfl
      refine Ru_iincN (pc := 81) 1 dX7_allNeeded_81 rfl rfl rfl (by decide) ?_
      refine Ru_goto (pc := 84) 4 dX7_allNeeded_84 (by decide) ?_
      exact Ru_weak (ih (d 0 - (r + 1)) (by omega) (r + 1) rfl (by omega)) rfl

theorem c_X7_allNeeded {Q : Rq} {M : Mem} {t : Nat} {d : Td} {s : Nat} {x : Nat → Nat} (ht : isTown t) (hx : X_tm t d M) (wf : Wf d) (htw : M.2.2 53 1 = some t) (hs : ∀ k, k < 8 → M.1 54 k = nI (x k)) (hle : ∀ k, x k ≤ 1000000) (hss : s < 2 ^ d 0) (k : Q (some (.int (nI (hAll d x s)))) GX M) : Ca 3 mt_X7_allNeeded 0 0 [.ref 53, .int (nI s)] GX M Q := by
  refine Ca_of rfl (Nat.le_of_ble_eq_true rfl) ?_
  refine Ru_iload_n (pc := 0) dX7_allNeeded_0 rfl rfl ?_
  refine Ru_istore_n (pc := 1) dX7_allNeeded_1 rfl rfl (by decide) ?_
  refine Ru_iconst (pc := 2) (nI 0) dX7_allNeeded_2 rfl ?_
  refine Ru_istore_n (pc := 3) dX7_allNeeded_3 rfl rfl (by decide) ?_
  exact Ru_weak (l_X7_allNeeded2 ht hx wf htw hs hle hss k (d 0) 0 rfl (Nat.zero_le _)) rfl

theorem l_X7_fewestHands {Q : Rq} {M : Mem} {t : Nat} {d : Td} {s : Nat} {x : Nat → Nat} (ht : isTown t) (hx : X_tm t d M) (wf : Wf d) (htw : M.2.2 53 1 = some t) (hs : ∀ k, k < 8 → M.1 54 k = nI (x k)) (hle : ∀ k, x k ≤ 1000000) (hss : s < 2 ^ d 0) (ex : x = sT d 0) (k : Q (some (.int (if hCanB x s (d 0) = true then nI (max (hMax d x s) ((hSum d x s + 23) / 24)) else -1))) GX M)  : ∀ (w : Nat) (p : Nat), d 0 - p = w → (p ≤ d 0) → (∀ q, q < p → (hAll d x s).testBit q = true → x q ≤ 24) → Ru 4 mt_X7_fewestHands r_z 14 [(2, some (.int (nI (mxf (hT d x (hAll d x s) (fun m => d (53 + m))) p)))), (3, some (.int (nI (sm (hT d x (hAll d x s) (hW d)) p)))), (4, some (.int (nI (hAll d x s)))), (5, some (.int (nI p))), (0, some (.ref 53)), (1, some (.int (nI s)))] [] GX M Q := by
  intro w
  induction w using Nat.strongRecOn with
  | ind w ih =>
    intro p hw hn hal
    subst hw
    have hb := wf.1
    have hp := pw_le hb.1
    have hlC := hAll_lt wf (x := x) hss
    have hsm := sm_le (hT_le (x := x) (C := hAll d x s) (hW_le wf)) p
    have hmx : (mxf (hT d x (hAll d x s) (fun m => d (53 + m))) p) ≤ 3 := mxf_le p (fun q _ => hT_le (fun m hm => (wf.2.2.2.2.1 m hm).2.2.1.2) q)
    have hzl := sFm_le (d := d) (x := x) (t := p) (d 1) 0
    have hzf : (nM (sFirst d x p)).toInt = (sFirst d x p : Int) - 1 := nM_t (by unfold sFirst; omega)
    have em : (-1 : Int32).toInt = -1 := rfl
    refine Ru_iload (pc := 14) dX7_fewestHands_14 rfl ?_
    refine Ru_aload_n (pc := 16) dX7_fewestHands_16 rfl rfl ?_
    refine Ru_getR (pc := 17) t dX7_fewestHands_17 fl_X7_15 rfl rfl ((rfX_mut rfl rfl).trans htw) ?_
    refine Ru_getR (pc := 20) (t + 1) dX7_fewestHands_20 fl_X7_20 (shTown_0 ht) rfl (rfX_of (o := t) (j := 1) (shTown_0 ht) rfl) ?_
    refine Ru_getI (pc := 23) dX7_fewestHands_23 fl_X7_26 (shNames_0 (isNames_t ht).1) rfl ?_
    refine Ru_top hx.1.1 ?_
    refine Ru_icmp_geN (pc := 26) 112 dX7_fewestHands_26 (by decide) (by omega) (fun h1 => ?_) (fun h1 => ?_)
    · refine Ru_iload_n (pc := 112) dX7_fewestHands_112 rfl rfl ?_
      refine Ru_iload_n (pc := 113) dX7_fewestHands_113 rfl rfl ?_
      refine Ru_bipush (pc := 114) (nI 24) dX7_fewestHands_114 rfl ?_
      refine Ru_iaddN (pc := 116) dX7_fewestHands_116 ?_
      refine Ru_iconst (pc := 117) (nI 1) dX7_fewestHands_117 rfl ?_
      refine Ru_isubN (pc := 118) dX7_fewestHands_118 (by omega) ?_
      refine Ru_bipush (pc := 119) (nI 24) dX7_fewestHands_119 rfl ?_
      refine Ru_idivN (pc := 121) dX7_fewestHands_121 (by omega) ?_
      refine Ru_cs2 (pc := 122) dX7_fewestHands_122 ms_X7_51 (by decide) (Nat.le_of_ble_eq_true rfl) (c_X_maxN (by omega) (by omega) ?_) 
      refine Ru_iret (pc := 125) dX7_fewestHands_125 rfl ⟨Nat.le_refl _, Nat.le_refl _⟩ ?_
      refine r_qe ?_ k
      have ep : p = d 0 := by omega
      subst ep
      rw [if_pos]
      · unfold hMax hSum
        rw [show sm (hT d x (hAll d x s) (hW d)) (d 0) + 24 - 1 = sm (hT d x (hAll d x s) (hW d)) (d 0) + 23 by omega]
      · exact (hCanB_t (d 0)).mpr (fun q hq hbq => hal q hq (hAll_ge hbq))
    · refine Ru_iload (pc := 29) dX7_fewestHands_29 rfl ?_
      refine Ru_iload (pc := 31) dX7_fewestHands_31 rfl ?_
      refine Ru_ishrN (pc := 33) dX7_fewestHands_33 (by omega) ?_
      refine Ru_iconst (pc := 34) (nI 1) dX7_fewestHands_34 rfl ?_
      refine Ru_iandN (pc := 35) dX7_fewestHands_35 ?_
      refine Ru_if_eqN (pc := 36) 106 dX7_fewestHands_36 (by decide) (Nat.lt_of_le_of_lt Nat.and_le_right (by decide)) (fun h2 => ?_) (fun h2 => ?_)
      · have h2b := r_b1_f h2
        refine Ru_iincN (pc := 106) 1 dX7_fewestHands_106 rfl rfl rfl (by decide) ?_
        refine Ru_goto (pc := 109) 14 dX7_fewestHands_109 (by decide) ?_
        have e1 : sm (hT d x (hAll d x s) (hW d)) (p + 1) = (sm (hT d x (hAll d x s) (hW d)) p) := by
          show sm _ p + hT d x (hAll d x s) (hW d) p = _; rw [hT_out (by assumption)]; rfl
        have e2 : mxf (hT d x (hAll d x s) (fun m => d (53 + m))) (p + 1) = (mxf (hT d x (hAll d x s) (fun m => d (53 + m))) p) := by
          show max (mxf _ p) (hT d x (hAll d x s) (fun m => d (53 + m)) p) = _; rw [hT_out (by assumption)]; exact Nat.max_eq_left (Nat.zero_le _)
        have hal2 : ∀ q, q < p + 1 → (hAll d x s).testBit q = true → x q ≤ 24 := fun q hq hbq => by
          by_cases e : q = p
          · subst e
            simp_all
          · exact hal q (by omega) hbq
        have hr := ih (d 0 - (p + 1)) (by omega) (p + 1) rfl (by omega) hal2
        rw [e1, e2] at hr
        exact Ru_weak hr rfl
      · have h2b := r_b1_t h2
        refine Ru_aload_n (pc := 39) dX7_fewestHands_39 rfl rfl ?_
        refine Ru_iload (pc := 40) dX7_fewestHands_40 rfl ?_
        refine Ru_cv1 (pc := 42) dX7_fewestHands_42 mv_X7_60 rfl (by decide) (Nat.le_of_ble_eq_true rfl) (c_X7_firstMaking (x := x) ht hx wf htw (by omega) hs hle ?_) 
        refine Ru_istore (pc := 45) dX7_fewestHands_45 rfl (by decide) ?_
        refine Ru_iload (pc := 47) dX7_fewestHands_47 rfl ?_
        refine Ru_iconst (pc := 49) (-1) dX7_fewestHands_49 rfl ?_
        refine Ru_icmp_eqT (pc := 50) 65 dX7_fewestHands_50 (by decide) (fun h3 => ?_) (fun h3 => ?_)
        · refine Ru_iconst (pc := 65) (-1) dX7_fewestHands_65 rfl ?_
          refine Ru_iret (pc := 66) dX7_fewestHands_66 rfl ⟨Nat.le_refl _, Nat.le_refl _⟩ ?_
          refine r_qe ?_ k
          rw [if_neg]
          intro z
          have z2 := hAll_can (x := sT d 0) wf hss (hCanB_t (d 0) |>.mp (ex ▸ z)) (t := p) (ex ▸ (by assumption))
          have z3 := sFirst_ex wf (s := 0) (t := p) (Nat.zero_testBit p) (by omega)
          subst ex
          omega
        · obtain ⟨m, qz_em⟩ : ∃ m, sFirst d x p = m + 1 := ⟨sFirst d x p - 1, by omega⟩
          rw [qz_em]
          refine Ru_weak (L' := [(2, some (.int (nI (mxf (hT d x (hAll d x s) (fun m => d (53 + m))) p)))), (3, some (.int (nI (sm (hT d x (hAll d x s) (hW d)) p)))), (4, some (.int (nI (hAll d x s)))), (5, some (.int (nI p))), (0, some (.ref 53)), (1, some (.int (nI s))), (6, some (.int (nI m)))]) ?_ rfl
          have hmm := sFirst_ok qz_em
          have hm5 := wf.2.2.2.2.1 m hmm.1
          refine Ru_aload_n (pc := 53) dX7_fewestHands_53 rfl rfl ?_
          refine Ru_getR (pc := 54) 54 dX7_fewestHands_54 fl_X7_9 rfl rfl (rfX_of (o := 53) (j := 1) rfl rfl) ?_
          refine Ru_iload (pc := 57) dX7_fewestHands_57 rfl ?_
          refine Ru_iald (pc := 59) dX7_fewestHands_59 rfl (by omega) ?_
          refine Ru_top (hs p (by omega)) ?_
          refine Ru_bipush (pc := 60) (nI 24) dX7_fewestHands_60 rfl ?_
          refine Ru_icmp_leN (pc := 62) 67 dX7_fewestHands_62 (by decide) (by omega) (fun h4 => ?_) (fun h4 => ?_)
          · refine Ru_iload_n (pc := 67) dX7_fewestHands_67 rfl rfl ?_
            refine Ru_aload_n (pc := 68) dX7_fewestHands_68 rfl rfl ?_
            refine Ru_getR (pc := 69) t dX7_fewestHands_69 fl_X7_15 rfl rfl ((rfX_mut rfl rfl).trans htw) ?_
            refine Ru_getR (pc := 72) (t + 6) dX7_fewestHands_72 fl_X7_54 (shTown_0 ht) rfl (rfX_of (o := t) (j := 6) (shTown_0 ht) rfl) ?_
            refine Ru_iload (pc := 75) dX7_fewestHands_75 rfl ?_
            refine Ru_iald (pc := 77) dX7_fewestHands_77 (shTown_6 ht) (by omega) ?_
            refine Ru_top (hx.2.2.1 m (by omega)).2.1 ?_
            refine Ru_aload_n (pc := 78) dX7_fewestHands_78 rfl rfl ?_
            refine Ru_getR (pc := 79) t dX7_fewestHands_79 fl_X7_15 rfl rfl ((rfX_mut rfl rfl).trans htw) ?_
            refine Ru_getR (pc := 82) (t + 7) dX7_fewestHands_82 fl_X7_63 (shTown_0 ht) rfl (rfX_of (o := t) (j := 7) (shTown_0 ht) rfl) ?_
            refine Ru_iload (pc := 85) dX7_fewestHands_85 rfl ?_
            refine Ru_iald (pc := 87) dX7_fewestHands_87 (shTown_7 ht) (by omega) ?_
            refine Ru_top (hx.2.2.1 m (by omega)).2.2.1 ?_
            refine Ru_imulN (pc := 88) dX7_fewestHands_88 ?_
            refine Ru_iaddN (pc := 89) dX7_fewestHands_89 ?_
            refine Ru_istore_n (pc := 90) dX7_fewestHands_90 rfl rfl (by decide) ?_
            refine Ru_iload_n (pc := 91) dX7_fewestHands_91 rfl rfl ?_
            refine Ru_aload_n (pc := 92) dX7_fewestHands_92 rfl rfl ?_
            refine Ru_getR (pc := 93) t dX7_fewestHands_93 fl_X7_15 rfl rfl ((rfX_mut rfl rfl).trans htw) ?_
            refine Ru_getR (pc := 96) (t + 7) dX7_fewestHands_96 fl_X7_63 (shTown_0 ht) rfl (rfX_of (o := t) (j := 7) (shTown_0 ht) rfl) ?_
            refine Ru_iload (pc := 99) dX7_fewestHands_99 rfl ?_
            refine Ru_iald (pc := 101) dX7_fewestHands_101 (shTown_7 ht) (by omega) ?_
            refine Ru_top (hx.2.2.1 m (by omega)).2.2.1 ?_
            refine Ru_cs2 (pc := 102) dX7_fewestHands_102 ms_X7_51 (by decide) (Nat.le_of_ble_eq_true rfl) (c_X_maxN (by omega) (by omega) ?_) 
            refine Ru_istore_n (pc := 105) dX7_fewestHands_105 rfl rfl (by decide) ?_
            refine Ru_iincN (pc := 106) 1 dX7_fewestHands_106 rfl rfl rfl (by decide) ?_
            refine Ru_goto (pc := 109) 14 dX7_fewestHands_109 (by decide) ?_
            have e1 : sm (hT d x (hAll d x s) (hW d)) (p + 1) = ((sm (hT d x (hAll d x s) (hW d)) p) + ((d (41 + m)) * (d (53 + m)))) := by
              show sm _ p + hT d x (hAll d x s) (hW d) p = _; rw [hT_in (by assumption) qz_em]; rfl
            have e2 : mxf (hT d x (hAll d x s) (fun m => d (53 + m))) (p + 1) = (max (mxf (hT d x (hAll d x s) (fun m => d (53 + m))) p) (d (53 + m))) := by
              show max (mxf _ p) (hT d x (hAll d x s) (fun m => d (53 + m)) p) = _; rw [hT_in (by assumption) qz_em]
            have hal2 : ∀ q, q < p + 1 → (hAll d x s).testBit q = true → x q ≤ 24 := fun q hq hbq => by
              by_cases e : q = p
              · subst e
                omega
              · exact hal q (by omega) hbq
            have hr := ih (d 0 - (p + 1)) (by omega) (p + 1) rfl (by omega) hal2
            rw [e1, e2] at hr
            exact Ru_weak hr rfl
          · refine Ru_iconst (pc := 65) (-1) dX7_fewestHands_65 rfl ?_
            refine Ru_iret (pc := 66) dX7_fewestHands_66 rfl ⟨Nat.le_refl _, Nat.le_refl _⟩ ?_
            refine r_qe ?_ k
            rw [if_neg]
            intro z
            have z2 := hAll_can (x := sT d 0) wf hss (hCanB_t (d 0) |>.mp (ex ▸ z)) (t := p) (ex ▸ (by assumption))
            have z3 := sFirst_ex wf (s := 0) (t := p) (Nat.zero_testBit p) (by omega)
            subst ex
            omega

theorem c_X7_fewestHands {Q : Rq} {M : Mem} {t : Nat} {d : Td} {s : Nat} {x : Nat → Nat} (ht : isTown t) (hx : X_tm t d M) (wf : Wf d) (htw : M.2.2 53 1 = some t) (hs : ∀ k, k < 8 → M.1 54 k = nI (x k)) (hle : ∀ k, x k ≤ 1000000) (hss : s < 2 ^ d 0) (ex : x = sT d 0) (k : Q (some (.int (if hCanB x s (d 0) = true then nI (max (hMax d x s) ((hSum d x s + 23) / 24)) else -1))) GX M) : Ca 4 mt_X7_fewestHands 0 0 [.ref 53, .int (nI s)] GX M Q := by
  refine Ca_of rfl (Nat.le_of_ble_eq_true rfl) ?_
  refine Ru_iconst (pc := 0) (nI 0) dX7_fewestHands_0 rfl ?_
  refine Ru_istore_n (pc := 1) dX7_fewestHands_1 rfl rfl (by decide) ?_
  refine Ru_iconst (pc := 2) (nI 0) dX7_fewestHands_2 rfl ?_
  refine Ru_istore_n (pc := 3) dX7_fewestHands_3 rfl rfl (by decide) ?_
  refine Ru_aload_n (pc := 4) dX7_fewestHands_4 rfl rfl ?_
  refine Ru_iload_n (pc := 5) dX7_fewestHands_5 rfl rfl ?_
  refine Ru_cv1 (pc := 6) dX7_fewestHands_6 mv_X7_57 rfl (by decide) (Nat.le_of_ble_eq_true rfl) (c_X7_allNeeded (x := x) ht hx wf htw hs hle hss ?_) 
  refine Ru_istore (pc := 9) dX7_fewestHands_9 rfl (by decide) ?_
  refine Ru_iconst (pc := 11) (nI 0) dX7_fewestHands_11 rfl ?_
  refine Ru_istore (pc := 12) dX7_fewestHands_12 rfl (by decide) ?_
  exact Ru_weak (l_X7_fewestHands ht hx wf htw hs hle hss ex k (d 0) 0 rfl (Nat.zero_le _) (fun q hq => by omega)) rfl

theorem h_res {d : Td} (wf : Wf d) (s : Nat) : max (hMax d (sT d 0) s) ((hSum d (sT d 0) s + 23) / 24) < 2147483648 := by
  have h1 : hSum d (sT d 0) s ≤ d 0 * 72 := sm_le (hT_le (hW_le wf)) _
  have h2 : hMax d (sT d 0) s ≤ 3 := mxf_le _ (fun q _ => hT_le (fun m hm => (wf.2.2.2.2.1 m hm).2.2.1.2) q)
  have := wf.1.1
  omega

theorem c_X11_hands {Q : Rq} {M : Mem} {mk t lw pl : Nat} {d : Td} {s : Int32} (hu : X_cu mk t lw pl d M) (hx : X_tm t d M) (wf : Wf d) (k : ∀ M', r_fx [(0, 0), (53, 1)] [54] M M' → M'.1 0 0 = nI (g_hands d s).2 → Q (some (.int (g_hands d s).1)) GX M') : Ca 5 mt_X11_hands 0 0 [.ref 0, .int s] GX M Q := by
  refine Ca_of rfl (Nat.le_of_ble_eq_true rfl) ?_
  have hb := wf.1
  have hp := pw_le hb.1
  have ht : isTown t := hu.1.2.2.2
  have em : (-1 : Int32).toInt = -1 := rfl
  refine Ru_aload_n (pc := 0) dX11_hands_0 rfl rfl ?_
  refine Ru_iload_n (pc := 1) dX11_hands_1 rfl rfl ?_
  refine Ru_cv1 (pc := 2) dX11_hands_2 mv_X11_254 rfl (by decide) (Nat.le_of_ble_eq_true rfl) (c_X11_isSet hu hx wf ?_) 
  refine Ru_if_neB (pc := 5) 14 dX11_hands_5 (by decide) (fun h1 => ?_) (fun h1 => ?_)
  · replace h1 := of_decide_eq_true h1
    obtain ⟨s', hs', rfl⟩ := r_nat (x := s) (n := 256) (by omega) (by omega)
    have es := r_tn (show s' < 2147483648 by omega)
    refine Ru_aload_n (pc := 14) dX11_hands_14 rfl rfl ?_
    refine Ru_getR (pc := 15) 53 dX11_hands_15 fl_X11_61 rfl rfl (rfX_of (o := 0) (j := 53) rfl rfl) ?_
    refine Ru_aload_n (pc := 18) dX11_hands_18 rfl rfl ?_
    refine Ru_cv0 (pc := 19) dX11_hands_19 mv_X11_154 rfl (by decide) (Nat.le_of_ble_eq_true rfl) (c_X11_now hu ?_) 
    refine Ru_iconst (pc := 22) (nI 0) dX11_hands_22 rfl ?_
    refine Ru_cv2 (pc := 23) dX11_hands_23 mv_X11_274 rfl (by decide) (Nat.le_of_ble_eq_true rfl) (c_X7_reckon ht hx wf (s := 0) (by omega) (fun M2 hs2 htw2 fx2 => ?_)) 
    have hx2 : X_tm t d M2 := (X_tm_dp ht d).kp fx2 rfl hx
    refine Ru_aload_n (pc := 26) dX11_hands_26 rfl rfl ?_
    refine Ru_getR (pc := 27) 53 dX11_hands_27 fl_X11_61 rfl rfl (rfX_of (o := 0) (j := 53) rfl rfl) ?_
    refine Ru_iload_n (pc := 30) dX11_hands_30 rfl rfl ?_
    refine Ru_cv1 (pc := 31) dX11_hands_31 mv_X11_291 rfl (by decide) (Nat.le_of_ble_eq_true rfl) (c_X7_fewestHands (x := sT d 0) ht hx2 wf htw2 hs2 (sT_le d 0) (by omega) rfl ?_) 
    have hres := h_res wf s'
    obtain ⟨rr, err⟩ : ∃ rr, rr = (if hCanB (sT d 0) s' (d 0) = true then nI (max (hMax d (sT d 0) s') ((hSum d (sT d 0) s' + 23) / 24)) else -1) := ⟨_, rfl⟩
    rw [← err]
    refine Ru_istore_n (pc := 34) dX11_hands_34 rfl rfl (by decide) ?_
    refine Ru_iload_n (pc := 35) dX11_hands_35 rfl rfl ?_
    refine Ru_iconst (pc := 36) (-1) dX11_hands_36 rfl ?_
    refine Ru_icmp_neT (pc := 37) 49 dX11_hands_37 (by decide) (fun h2 => ?_) (fun h2 => ?_)
    · have hC : hCanB (sT d 0) s' (d 0) = true := by
        cases hq : hCanB (sT d 0) s' (d 0)
        · rw [hq, if_neg (by decide)] at err
          rw [err] at h2
          omega
        · rfl
      rw [if_pos hC] at err
      rw [err]
      refine Ru_aload_n (pc := 49) dX11_hands_49 rfl rfl ?_
      refine Ru_iload_n (pc := 50) dX11_hands_50 rfl rfl ?_
      refine Ru_cv1 (pc := 51) dX11_hands_51 mv_X11_170 rfl (by decide) (Nat.le_of_ble_eq_true rfl) (c_X11_tell ?_) 
      refine Ru_iret (pc := 54) dX11_hands_54 rfl ⟨Nat.le_refl _, Nat.le_refl _⟩ ?_
      have e : g_hands d (nI s') = ((nI (max (hMax d (sT d 0) s') ((hSum d (sT d 0) s' + 23) / 24))), 0) := by
        unfold g_hands
        rw [if_neg (by omega), r_tnn (show s' < 2147483648 by omega)]
        rw [if_pos hC]
      rw [e] at k
      exact k _ (r_fx.sI rfl (fx2.mono rfl)) r_sI_s
    · have hC : ¬ hCanB (sT d 0) s' (d 0) = true := fun z => by
        rw [if_pos z] at err
        rw [err, r_tn hres] at h2
        omega
      refine Ru_aload_n (pc := 40) dX11_hands_40 rfl rfl ?_
      refine Ru_bipush (pc := 41) (nI 9) dX11_hands_41 rfl ?_
      refine Ru_cv1 (pc := 43) dX11_hands_43 mv_X11_112 rfl (by decide) (Nat.le_of_ble_eq_true rfl) (c_X11_fail ?_) 
      refine Ru_goto (pc := 46) 54 dX11_hands_46 (by decide) ?_
      refine Ru_iret (pc := 54) dX11_hands_54 rfl ⟨Nat.le_refl _, Nat.le_refl _⟩ ?_
      have e : g_hands d (nI s') = (-1, 9) := by
        unfold g_hands
        rw [if_neg (by omega), r_tnn (show s' < 2147483648 by omega)]
        rw [if_neg hC]
      rw [e] at k
      exact k _ (r_fx.sI rfl (fx2.mono rfl)) r_sI_s
  · replace h1 := of_decide_eq_false h1
    refine Ru_aload_n (pc := 8) dX11_hands_8 rfl rfl ?_
    refine Ru_iconst (pc := 9) (nI 2) dX11_hands_9 rfl ?_
    refine Ru_cv1 (pc := 10) dX11_hands_10 mv_X11_112 rfl (by decide) (Nat.le_of_ble_eq_true rfl) (c_X11_fail ?_) 
    refine Ru_iret (pc := 13) dX11_hands_13 rfl ⟨Nat.le_refl _, Nat.le_refl _⟩ ?_
    have e : g_hands d s = (-1, 2) := by
      unfold g_hands
      rw [if_pos (by omega)]
    rw [e] at k
    exact k _ (r_fx.sI rfl r_fx.rf) r_sI_s
